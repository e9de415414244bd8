/-! THE LAW'S INVARIANT behind changes, slots and undo. -/
theorem FRI.go {n n' : Nat} {S S' S2 : SS} (f : FRI n n' S S') (e : S2.2.2 = S'.2.2) : FRI n n' S S2 := by
  have e1 : sbr S2 = sbr S' := by unfold sbr; rw [e]
  have e2 : ltc S2 = ltc S' := by unfold ltc; rw [e]
  exact ⟨f.1, by rw [e1]; exact f.2.1, f.2.2.1, fun k h1 h2 => by rw [e2]; exact f.2.2.2 k h1 h2⟩
theorem FRh.toc {a : Nat} {S0 S : SS} (h : FRh a S0 S) : FRc a S0 S := ⟨by rw [h.1], fun x hx => ⟨h.2 x hx, by rw [h.1]⟩⟩
theorem ss_ee (S : SS) (a j : Nat) (x : Int32) : (ss S a j x).1 a j = x := by rw [ss_1, if_pos ⟨rfl, rfl⟩]
theorem frem {S : SS} {c : Nat} (hc : c ≤ 6) (h18 : S.1 267 18 = nI c) : (f_rem S).2 = S.2 ∧ (∀ a, ¬ a = 267 → ¬ a = 275 → (f_rem S).1 a = S.1 a) ∧ (∀ j, ¬ j = 18 → (f_rem S).1 267 j = S.1 267 j) ∧ (f_rem S).1 267 18 = nI (c5 c + 1) ∧ (∀ j, j < 467 → (f_rem S).1 275 (467 * c5 c + j) = S.1 268 j) ∧ ∀ i j, i < c5 c → j < 467 → (f_rem S).1 275 (467 * i + j) = S.1 275 (467 * (if c = 6 then i + 1 else i) + j) := by
  by_cases h : c = 6
  · subst h
    have e5 : c5 6 = 5 := rfl
    unfold f_rem
    rw [if_pos (show S.1 267 18 = 6 from h18), e5]
    unfold f_rem1
    refine ⟨rfl, fun a h1 h2 => ?_, fun j hj => ?_, ss_ee _ _ _ _, fun j hj => ?_, fun i j hi hj => ?_⟩
    · rw [ss_o _ _ _ h1, su_n _ _ h2, ss_o _ _ _ h1, su_n _ _ h2]
    · rw [ss_1, if_neg (fun z => hj z.2), su_n _ _ (by decide), ss_1, if_neg (fun z => hj z.2), su_n _ _ (by decide)]
    · rw [ss_o _ _ _ (by decide), su_s]
      unfold cpo
      rw [if_pos (by omega), ss_o _ _ _ (by decide), su_n _ _ (by decide), show 467 * 5 + j - 467 * 5 = j by omega]
    · rw [ss_o _ _ _ (by decide), su_s]
      unfold cpo
      rw [if_neg (by omega), ss_o _ _ _ (by decide), su_s]
      unfold f_shift
      rw [if_pos (by omega), if_pos rfl, show 467 * i + j + 467 = 467 * (i + 1) + j by omega]
  · have e5 : c5 c = c := if_neg h
    unfold f_rem
    rw [if_neg (fun z : S.1 267 18 = 6 => h (by
      have e := congrArg Int32.toInt (h18.symm.trans z)
      rw [nI_toInt (by omega)] at e
      have : (6 : Int32).toInt = 6 := by decide
      omega)), h18, nI_toInt (by omega), Int.toNat_natCast, e5]
    unfold f_rem1
    refine ⟨rfl, fun a h1 h2 => ?_, fun j hj => ?_, ss_ee _ _ _ _, fun j hj => ?_, fun i j hi hj => ?_⟩
    · rw [ss_o _ _ _ h1, su_n _ _ h2]
    · rw [ss_1, if_neg (fun z => hj z.2), su_n _ _ (by decide)]
    · rw [ss_o _ _ _ (by decide), su_s]
      unfold cpo
      rw [if_pos (by omega), show 467 * c + j - 467 * c = j by omega]
    · rw [ss_o _ _ _ (by decide), su_s]
      unfold cpo
      rw [if_neg (by omega), if_neg h]
/-- what the reference's remember leaves, and its row set -/
def RFP (c : Nat) (S' S2 : SS) : Prop := (∀ a, a < 267 → S2.1 a = S'.1 a) ∧ S2.2 = S'.2 ∧ S2.1 267 18 = nI (c5 c + 1) ∧ (∀ j, j < 467 → S2.1 275 (467 * c5 c + j) = S'.1 268 j) ∧ (∀ i j, i < c5 c → j < 467 → S2.1 275 (467 * i + j) = S'.1 275 (467 * (if c = 6 then i + 1 else i) + j)) ∧ S2.1 273 = S'.1 273 ∧ S2.1 274 = S'.1 274
theorem RFP.mk0 {c : Nat} {S' : SS} (hc : c ≤ 6) (h18 : S'.1 267 18 = nI c) (g' : Nat → Int32) : RFP c S' (su (f_rem (th S' 0)) 268 g') := by
  have h18' : (th S' 0).1 267 18 = nI c := (th_k S' 0 (by decide)).trans h18
  obtain ⟨a1, a2, a3, a4, a5, a6⟩ := frem hc h18'
  refine ⟨fun a ha => ?_, a1, ?_, fun j hj => ?_, fun i j hi hj => ?_, ?_, ?_⟩
  · rw [su_n _ _ (by omega), a2 a (by omega) (by omega), th_n S' 0 (by omega)]
  · rw [su_n _ _ (by decide)]
    exact a4
  · rw [su_n _ _ (by decide), a5 j hj, th_n S' 0 (by decide)]
  · rw [su_n _ _ (by decide), a6 i j hi hj, th_n S' 0 (by decide)]
  · rw [su_n _ _ (by decide), a2 _ (by decide) (by decide), th_n S' 0 (by decide)]
  · rw [su_n _ _ (by decide), a2 _ (by decide) (by decide), th_n S' 0 (by decide)]
theorem c5_le (c : Nat) (hc : c ≤ 6) : c5 c ≤ 5 := by
  unfold c5
  split <;> omega
theorem PAQ.rem {T T' : Int} {n n' c : Nat} {S S1 S' S2 : SS} (p : PAQ T n c S) (hh : HGN T n S 34 (S.1 268)) (q : REM S S1 (S.1 268) c) (fc : FRc 34 S1 S') (hF : FRI n n' S S') (hT : T ≤ T') (r : RFP c S' S2) (e1 : S'.1 268 = S.1 268) (e2 : S'.1 275 = S.1 275) : PAQ T' n' (c5 c + 1) S2 := by
  obtain ⟨p1, p2, p3, p4, p5⟩ := p
  obtain ⟨r1, r2, r3, r4, r5, r6, r7⟩ := r
  have hPP := p1.pfP c
  have h5 := c5_le c p2
  have hlo := hPP.lo (c5_lt p2)
  have eP : S2.2.2.1 = pf c S.2.2.1 := by rw [r2, fc.1, q.1]
  have fg : FRI n n' S S2 := hF.go (by rw [r2])
  have hrn := hh.2.1.rn6
  refine ⟨by rw [eP]; exact hPP, by omega, ?_, r3, fun i hi => ?_⟩
  · rw [r1 0 (by decide), (fc.2 0 (by decide)).1]
    exact q.2.1
  · rw [eP]
    by_cases hic : i = c5 c
    · subst hic
      have h1 : HGN T' n' S2 (pf c S.2.2.1 (c5 c)) (S.1 268) := by
        refine hh.mv fg (q.2.2.2.2.2.1.of (fun k k1 k2 => ?_)) (hh.2.1.mono hT) rfl (fun _ _ => rfl) (fun i hi => ?_)
        · rw [r1 k (by omega), (fc.2 k (by omega)).1]
        · rw [r2, (fc.2 _ (by omega)).2]
          exact q.2.2.2.2.2.2 i hi
      refine h1.eq (fun j hj => ?_) (fun i hi => PT_r467 hi)
      unfold r467
      rw [if_pos hj, r4 j hj, e1]
    · have hi5 : i < c5 c := by omega
      have hpi : pf c S.2.2.1 i = S.2.2.1 (if c = 6 then i + 1 else i) ∧ (if c = 6 then i + 1 else i) < c := by
        unfold pf c5 at *
        by_cases h6 : c = 6
        · rw [if_pos h6] at hi5
          rw [if_pos h6, if_pos h6]
          unfold rot
          rw [if_pos (by omega)]
          exact ⟨rfl, by omega⟩
        · rw [if_neg h6] at hi5
          rw [if_neg h6, if_neg h6]
          exact ⟨rfl, hi5⟩
      have hd := hPP.dis (i := i) (j := c5 c) (by omega) (by omega) hic
      have hl := hPP.lo (i := i) (by omega)
      have h0 := p5 _ hpi.2
      rw [← hpi.1] at h0
      have h1 : HGN T' n' S2 (pf c S.2.2.1 i) (r467 (S.1 275) (467 * (if c = 6 then i + 1 else i))) := h0.fr fg hT (fun k k1 k2 => by
        rw [r1 k (by omega), r2, (fc.2 k (by omega)).1, (fc.2 k (by omega)).2]
        exact ⟨q.2.2.1 k (by omega) (by omega), q.2.2.2.1 k (by omega)⟩)
      refine h1.eq (fun j hj => ?_) (fun i hi => PT_r467 hi)
      unfold r467
      rw [if_pos hj, if_pos hj, r5 i j hi5 hj, e2]
theorem KEQ.rem {T T' : Int} {n n' c : Nat} {S S1 S' S2 : SS} (k : KEQ T n S) (hP : PPf S.2.2.1) (hc : c ≤ 6) {g : Nat → Int32} (q : REM S S1 g c) (fc : FRc 34 S1 S') (hF : FRI n n' S S') (hT : T ≤ T') (r : RFP c S' S2) (e1 : S'.1 273 = S.1 273) (e2 : S'.1 274 = S.1 274) : KEQ T' n' S2 := by
  obtain ⟨r1, r2, r3, r4, r5, r6, r7⟩ := r
  have hlo := (hP.pfP c).lo (c5_lt hc)
  have e82 : S2.1 82 = S.1 82 := by rw [r1 82 (by decide), (fc.2 82 (by decide)).1, q.2.2.1 82 (by decide) (by omega)]
  intro s hs
  refine ⟨?_, fun z => ?_⟩
  · rw [e82, r7, e2]
    exact (k s hs).1
  · rw [e82] at z
    rw [r6, e1]
    refine ((k s hs).2 z).fr (hF.go (by rw [r2])) hT (fun k k1 k2 => ?_)
    rw [r1 k (by omega), r2, (fc.2 k (by omega)).1, (fc.2 k (by omega)).2]
    exact ⟨q.2.2.1 k (by omega) (by omega), q.2.2.2.1 k (by omega)⟩
/-- behind a change that is remembered -/
theorem INV.rem {T T' : Int} {n c : Nat} {S S1 S' : SS} {g' : Nat → Int32} (h : INV T n c S) (q : REM S S1 (S.1 268) c) (fc : FRc 34 S1 S') (hg : HGN T' n S' 34 g') (hT : T ≤ T') : INV T' n (c5 c + 1) (su (f_rem (th S' 0)) 268 g') := by
  obtain ⟨⟨a1, a2, a3⟩, b, p, k, hI, hE, hO⟩ := h
  have hc := p.2.1
  have hlo := (p.1.pfP c).lo (c5_lt hc)
  have eo : ∀ a, ¬ a = 0 → (a < 34 ∨ 57 ≤ a) → (a < 83 ∨ 221 ≤ a) → S'.1 a = S.1 a := fun a h1 h2 h3 => ((fc.2 a (by omega)).1).trans (q.2.2.1 a h1 (by omega))
  have e0 : ∀ j, ¬ j = 7 → S'.1 0 j = S.1 0 j := fun j hj => (congrFun (fc.2 0 (by decide)).1 j).trans (q.2.2.2.2.1 j hj)
  have e22 : S'.2.2 = (pf c S.2.2.1, S.2.2.2) := by rw [fc.1, q.1]
  have esb : sbr S' = sbr S := by unfold sbr; rw [e22]
  have elt : ltc S' = ltc S := by unfold ltc; rw [e22]
  have hF : FRI n n S S' := ⟨⟨Nat.le_refl _, a2⟩, Or.inl esb, hO.ex, fun k _ _ => by rw [elt]⟩
  have h18 : S'.1 267 18 = nI c := (congrFun (eo 267 (by decide) (by decide) (by decide)) 18).trans p.2.2.2.1
  have r := RFP.mk0 hc h18 g'
  have h18' : (th S' 0).1 267 18 = nI c := (th_k S' 0 (by decide)).trans h18
  obtain ⟨f1, f2, f3, -, -, -⟩ := frem hc h18'
  have g267 : ∀ j, ¬ j = 18 → ¬ j = 0 → (su (f_rem (th S' 0)) 268 g').1 267 j = S.1 267 j := fun j h1 h2 => by rw [su_n _ _ (by decide), f3 j h1, th_k S' 0 h2, eo 267 (by decide) (by decide) (by decide)]
  have gO : ∀ a, ¬ a = 267 → ¬ a = 268 → ¬ a = 275 → (su (f_rem (th S' 0)) 268 g').1 a = S'.1 a := fun a h1 h2 h3 => by rw [su_n _ _ h2, f2 a h1 h3, th_n S' 0 h1]
  refine ⟨⟨a1, a2, ?_⟩, ?_, p.rem b q fc hF hT r (eo _ (by decide) (by decide) (by decide)) (eo _ (by decide) (by decide) (by decide)), k.rem p.1 hc q fc hF hT r (eo _ (by decide) (by decide) (by decide)) (eo _ (by decide) (by decide) (by decide)), ?_, ?_, ?_⟩
  · unfold mr
    rw [r.2.1, e22]
    exact a3
  · have e : (su (f_rem (th S' 0)) 268 g').1 268 = g' := su_s _ _ _
    rw [e]
    refine hg.mv ⟨⟨Nat.le_refl _, a2⟩, Or.inl (by unfold sbr; rw [r.2.1]), ?_, fun k _ _ => by unfold ltc; rw [r.2.1]⟩ (hg.1.of (fun k k1 k2 => r.1 k (by omega))) hg.2.1 rfl (fun _ _ => rfl) (fun i hi => by rw [r.2.1])
    obtain ⟨x, hx⟩ := hO.ex
    exact ⟨x, by rw [esb, elt]; exact hx⟩
  · exact hI.fr ((congrFun (gO 1 (by decide) (by decide) (by decide)) 1).trans (congrFun (eo 1 (by decide) (by decide) (by decide)) 1)) (g267 6 (by decide) (by decide)) ((gO 2 (by decide) (by decide) (by decide)).trans (eo 2 (by decide) (by decide) (by decide))) ((gO 271 (by decide) (by decide) (by decide)).trans (eo 271 (by decide) (by decide) (by decide)))
  · exact hE.fr ((congrFun (gO 0 (by decide) (by decide) (by decide)) 1).trans (e0 1 (by decide))) ((congrFun (gO 0 (by decide) (by decide) (by decide)) 2).trans (e0 2 (by decide))) (g267 12 (by decide) (by decide)) (g267 13 (by decide) (by decide))
  · exact hO.fr (Nat.le_refl _) a2 (by unfold sbr; rw [r.2.1, e22]) (by unfold ltc; rw [r.2.1, e22]) ((congrFun (gO 32 (by decide) (by decide) (by decide)) 3).trans (congrFun (eo 32 (by decide) (by decide) (by decide)) 3)) (g267 20 (by decide) (by decide)) ((gO 276 (by decide) (by decide) (by decide)).trans (eo 276 (by decide) (by decide) (by decide)))
theorem INV.chg {T T' : Int} {n c : Nat} {S S1 S' : SS} {g' : Nat → Int32} (h : INV T n c S) (q : REM S S1 (S.1 268) c) (hh : HH S' 34 g' (fun _ => True)) (fh : FRh 34 S1 S') (hg : GG T' g') (er : rn g' = rn (S.1 268)) (e11 : ∀ i, i < rn (S.1 268) → of g' i 11 = of (S.1 268) i 11) (hT : T ≤ T') : INV T' n (c5 c + 1) (su (f_rem (th S' 0)) 268 g') := by
  have hlo := (h.pp.pfP c).lo (c5_lt h.c6)
  have e22 : S'.2.2 = (pf c S.2.2.1, S.2.2.2) := by rw [fh.1, q.1]
  have hrn := h.gg.rn6
  refine h.rem q fh.toc (h.2.1.mv ⟨⟨Nat.le_refl _, h.1.2.1⟩, Or.inl (by unfold sbr; rw [e22]), h.ou.ex, fun k _ _ => by unfold ltc; rw [e22]⟩ hh hg er e11 (fun i hi => ?_)) hT
  rw [fh.1]
  exact q.2.2.2.1 _ (by omega)
theorem PT_cp {a b : Nat → Int32} {i : Nat} (hi : 6 ≤ i) (h : PT (pg a i)) : PT (pg (cp a b 467) i) := by
  have e : pg (cp a b 467) i = pg a i := by
    funext t
    unfold pg
    split
    · unfold of cp
      exact if_neg (by omega)
    · rfl
  rw [e]
  exact h
theorem INV.restore {T : Int} {n c s : Nat} {S S1 S' : SS} (h : INV T n c S) (q : REM S S1 (S.1 268) c) (hs : s < 2) (hz : ¬ S.1 82 s = 0) (hh : HH S' 34 (r467 (S.1 273) (467 * s)) (fun _ => True)) (fc : FRc 34 S1 S') (hn : ∀ i, i < rn (r467 (S.1 273) (467 * s)) → S'.2.1 (34 + 5 + 3 * i) = S1.2.1 (221 + 23 * s + 5 + 3 * i)) : INV T n (c5 c + 1) (su (f_rem (th S' 0)) 268 (cp (S.1 268) (fun j => S.1 273 (467 * s + j)) 467)) := by
  have hlo := (h.pp.pfP c).lo (c5_lt h.c6)
  have e22 : S'.2.2 = (pf c S.2.2.1, S.2.2.2) := by rw [fc.1, q.1]
  have hk := (h.2.2.2.1 s hs).2 hz
  have hrn := hk.2.1.rn6
  refine h.rem q fc (HGN.eq (g := r467 (S.1 273) (467 * s)) (hk.mv ⟨⟨Nat.le_refl _, h.1.2.1⟩, Or.inl (by unfold sbr; rw [e22]), h.ou.ex, fun k _ _ => by unfold ltc; rw [e22]⟩ hh hk.2.1 rfl (fun _ _ => rfl) (fun i hi => ?_)) (fun j hj => ?_) (fun i hi => PT_cp hi (h.gg.PT i))) (Int.le_refl _)
  · rw [hn i hi]
    exact q.2.2.2.1 _ (by omega)
  · unfold cp r467
    rw [if_pos hj, if_pos hj]
