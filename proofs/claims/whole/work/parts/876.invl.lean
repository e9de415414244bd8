/-! THE LAW'S INVARIANT behind load. -/
theorem PAQ.fr {T T' : Int} {n n' c : Nat} {S S' : SS} (p : PAQ T n c S) (f : FRI n n' S S') (hT : T ≤ T') (h22 : S'.2.2.1 = S.2.2.1) (hc : ∀ a, 83 ≤ a ∧ a < 221 → S'.1 a = S.1 a ∧ S'.2.1 a = S.2.1 a) (h0 : S'.1 0 7 = S.1 0 7) (h18 : S'.1 267 18 = S.1 267 18) (h275 : S'.1 275 = S.1 275) : PAQ T' n' c S' := by
  obtain ⟨p1, p2, p3, p4, p5⟩ := p
  refine ⟨by rw [h22]; exact p1, p2, h0.trans p3, h18.trans p4, fun i hi => ?_⟩
  have hl := p1.lo (i := i) (by omega)
  rw [h22, h275]
  exact (p5 i hi).fr f hT (fun k h1 h2 => hc k (by omega))
theorem KEQ.fr {T T' : Int} {n n' : Nat} {S S' : SS} (p : KEQ T n S) (f : FRI n n' S S') (hT : T ≤ T') (hc : ∀ a, 221 ≤ a ∧ a < 267 → S'.1 a = S.1 a ∧ S'.2.1 a = S.2.1 a) (h82 : S'.1 82 = S.1 82) (h274 : S'.1 274 = S.1 274) (h273 : S'.1 273 = S.1 273) : KEQ T' n' S' := fun s hs => by
  refine ⟨by rw [h82, h274]; exact (p s hs).1, fun z => ?_⟩
  rw [h82] at z
  rw [h273]
  exact ((p s hs).2 z).fr f hT (fun k h1 h2 => hc k (by omega))
theorem ldB_1 {S : SS} {m k : Nat} (h1 : ¬ k = 267) (h2 : ¬ k = 269) (h3 : ¬ k = 272) : (ldB S m).1 k = S.1 k := by
  unfold ldB
  rw [su_n _ _ h2]
  show (su (ldA S m) 272 (zk (S.1 272) 5)).1 k = S.1 k
  rw [su_n _ _ h3]
  unfold ldA
  rw [ss_o _ _ _ h1, ss_o _ _ _ h1, ss_o _ _ _ h1, ss_o _ _ _ h1, ss_o _ _ _ h1, th_n S 0 h1]
theorem ldB_j {S : SS} {m j : Nat} (h0 : ¬ j = 0) (h6 : ¬ j = 6) (h7 : ¬ j = 7) (h8 : ¬ j = 8) (h12 : ¬ j = 12) (h13 : ¬ j = 13) : (ldB S m).1 267 j = S.1 267 j := by
  unfold ldB
  rw [su_n _ _ (by decide)]
  show (su (ldA S m) 272 (zk (S.1 272) 5)).1 267 j = S.1 267 j
  rw [su_n _ _ (by decide)]
  unfold ldA
  rw [ss_j _ _ h13, ss_j _ _ h12, ss_j _ _ h8, ss_j _ _ h6, ss_j _ _ h7, th_k S 0 h0]
theorem ldB_6 {S : SS} {m : Nat} : (ldB S m).1 267 6 = 0 := by
  unfold ldB
  rw [su_n _ _ (by decide)]
  show (su (ldA S m) 272 (zk (S.1 272) 5)).1 267 6 = 0
  rw [su_n _ _ (by decide)]
  unfold ldA
  rw [ss_j _ _ (by decide), ss_j _ _ (by decide), ss_j _ _ (by decide), ss_ee]
/-- what the reference's parse leaves, against the state before it -/
theorem FRP_ld {b : Nat → Int32} {N m : Nat} {S S1 : SS} (f : FRP b N (ldB S m) S1) (hm : mr S = 268) : (sf S1 false).2 = S.2 ∧ (∀ k, ¬ k = 267 → ¬ k = 269 → ¬ k = 272 → (sf S1 false).1 k = S.1 k) ∧ (sf S1 false).1 267 18 = S.1 267 18 ∧ (sf S1 false).1 267 20 = S.1 267 20 ∧ (sf S1 false).1 267 6 = 0 := by
  obtain ⟨f1, f2, f3, f4, -⟩ := f
  have hfl : S.2.2.2.1 = false := by
    unfold mr at hm
    cases h : S.2.2.2.1 with
    | false => rfl
    | true =>
      rw [h] at hm
      exact absurd hm (by decide)
  refine ⟨?_, fun k h1 h2 h3 => (f3 k h1 h2 h3).trans (ldB_1 h1 h2 h3), ?_, ?_, ?_⟩
  · show (S1.2.1, S1.2.2.1, false, S1.2.2.2.2) = S.2
    rw [f1, ← hfl]
    rfl
  · exact (f4 18 (by decide)).trans (ldB_j (by decide) (by decide) (by decide) (by decide) (by decide) (by decide))
  · exact (f4 20 (by decide)).trans (ldB_j (by decide) (by decide) (by decide) (by decide) (by decide) (by decide))
  · exact (f4 6 (by decide)).trans ldB_6
theorem FRv.m {n : Nat} {S S' : SS} (f : FRv n S S') (hm : mr S = 268) : mr S' = 268 := by
  unfold mr at *
  rw [f.1.2.1]
  exact hm
theorem INV.loadE {T : Int} {n n' c m : Nat} {b : Nat → Int32} {N : Nat} {S S' S1 : SS} {e : Nat × Nat} (h : INV T n c S) (hn : n ≤ n') (hn2 : n' ≤ ab_CB) (f : FRv n S S') (e1 : S'.1 0 1 = nI e.1) (e2 : S'.1 0 2 = nI e.2) (e3 : S'.1 1 1 = 0) (q : BD b N (ldB S' m) S1 e) : INV T n' c (sf S1 false) := by
  obtain ⟨g1, g2, g3, g4, g5⟩ := FRP_ld q.1 (f.m h.m)
  obtain ⟨f1, f2, f3, f4, f5⟩ := f
  have e22 : (sf S1 false).2.2 = S'.2.2 := by rw [g1]
  have eo : ∀ a, ¬ a = 267 → ¬ a = 269 → ¬ a = 272 → (a = 2 ∨ 31 ≤ a) → (sf S1 false).1 a = S.1 a := fun a h1 h2 h3 h4 => (g2 a h1 h2 h3).trans (f2 a h4)
  have hsb : sbr (sf S1 false) = sbr S := by unfold sbr at *; rw [e22]; exact f1.2.2.1
  have hlt : ∀ k, k < n → ltc (sf S1 false) k = ltc S k := fun k hk => by
    have := f1.2.2.2.2 k hk
    unfold ltc at *
    rw [e22]
    exact this
  have F : FRI n n' S (sf S1 false) := ⟨⟨hn, hn2⟩, Or.inl hsb, h.ou.ex, fun k hk _ => hlt k hk⟩
  have h0 : (sf S1 false).1 0 = S'.1 0 := g2 0 (by decide) (by decide) (by decide)
  refine h.fr F (Int.le_refl _) ⟨by rw [e22]; exact f1.1, by rw [e22]; exact f1.2.1⟩ (fun a ha => ⟨eo a (by omega) (by omega) (by omega) (by omega), by rw [g1]; exact f3 a (by omega)⟩) (eo 82 (by decide) (by decide) (by decide) (by decide)) ⟨eo _ (by decide) (by decide) (by decide) (by decide), eo _ (by decide) (by decide) (by decide) (by decide), eo _ (by decide) (by decide) (by decide) (by decide), eo _ (by decide) (by decide) (by decide) (by decide)⟩ ⟨by rw [h0]; exact f5 7 (by decide) (by decide), g3.trans (congrFun (f2 267 (by decide)) 18)⟩ ?_ ?_ ?_
  · obtain ⟨m0, q1, q2, q3, q4, q5⟩ := h.inp
    refine ⟨0, by decide, ?_, g5, ?_, fun k hk => absurd hk (Nat.not_lt_zero k)⟩
    · rw [g2 1 (by decide) (by decide) (by decide)]
      exact e3
    · rw [eo 2 (by decide) (by decide) (by decide) (by decide), eo 271 (by decide) (by decide) (by decide) (by decide)]
      exact q4
  · refine ⟨?_, ?_⟩
    · rw [h0, e1]
      exact q.2.1.symm
    · rw [h0, e2]
      exact q.2.2.2.1.symm
  · have hsbn : sbr S < n := by
      obtain ⟨m1, j1, f1', ⟨⟨a1, a2, a3⟩, -⟩, -⟩ := h.ou
      exact a2
    exact h.ou.fr hn hn2 hsb (hlt _ hsbn) (congrFun (eo 32 (by decide) (by decide) (by decide) (by decide)) 3) (g4.trans (congrFun (f2 267 (by decide)) 20)) (eo 276 (by decide) (by decide) (by decide) (by decide))
theorem INV.loadS {T : Int} {n n' c m : Nat} {b : Nat → Int32} {N : Nat} {S Sa Sb S' S1 : SS} {s : PST} {nf : Nat → Nat → Int32} {nl : Nat → Nat} (h : INV T n c S) (hT : 0 ≤ T) (hn : n ≤ n') (hn2 : n' ≤ ab_CB) (f : FRv n S Sa) (e1 : Sa.1 0 1 = 0) (e2 : Sa.1 0 2 = -1) (e3 : Sa.1 1 1 = 0) (q : REM Sa Sb (S.1 268) c) (fc : FRc 34 Sb S') (hh : HH S' 34 s.2.1 (fun _ => True)) (hg : GG 0 s.2.1) (hr : NMR s.2.1 nf nl) (hx : NMX n' S' 34 (rn s.2.1) nf nl) (g : GD b N (ldB S' m) S1 s) : INV T n' (c5 c + 1) (su (f_rem (sf S1 false)) 268 (cp (S1.1 268) s.2.1 467)) := by
  have hc := h.c6
  have hPa : PPf Sa.2.2.1 := by rw [f.1.1]; exact h.pp
  have hlo := (hPa.pfP c).lo (c5_lt hc)
  have hma : mr Sa = 268 := f.m h.m
  obtain ⟨f1, f2, f3, f4, f5⟩ := f
  have e22 : S'.2.2 = (pf c Sa.2.2.1, Sa.2.2.2) := by rw [fc.1, q.1]
  have hm' : mr S' = 268 := by
    unfold mr at *
    rw [e22]
    exact hma
  obtain ⟨g1, g2, g3, g4, g5⟩ := FRP_ld g.1.1 hm'
  -- the class's state behind, against the one behind the parse
  have so1 : ∀ a, ¬ a = 0 → (a < 34 ∨ 57 ≤ a) → (a < 83 ∨ 221 ≤ a) → S'.1 a = Sa.1 a := fun a h1 h2 h3 => ((fc.2 a (by omega)).1).trans (q.2.2.1 a h1 (by omega))
  have s0 : ∀ j, ¬ j = 7 → S'.1 0 j = Sa.1 0 j := fun j hj => (congrFun (fc.2 0 (by decide)).1 j).trans (q.2.2.2.2.1 j hj)
  have esb : sbr S' = sbr Sa := by unfold sbr; rw [e22]
  have elt : ltc S' = ltc Sa := by unfold ltc; rw [e22]
  have Fa : FRI n n S Sa := ⟨⟨Nat.le_refl _, h.1.2.1⟩, Or.inl f1.2.2.1, h.ou.ex, fun k hk _ => f1.2.2.2.2 k hk⟩
  have hsbn : sbr S < n := by
    obtain ⟨m1, j1, f1', ⟨⟨a1, a2, a3⟩, -⟩, -⟩ := h.ou
    exact a2
  have hexa : ∃ x, ltc Sa (sbr Sa) = .inl x := by
    obtain ⟨x, hx⟩ := h.ou.ex
    exact ⟨x, by rw [f1.2.2.1, f1.2.2.2.2 _ hsbn]; exact hx⟩
  have FS : FRI n n' Sa S' := ⟨⟨hn, hn2⟩, Or.inl esb, hexa, fun k _ _ => by rw [elt]⟩
  have fa : ∀ a, 31 ≤ a → Sa.1 a = S.1 a := fun a ha => f2 a (Or.inr ha)
  have ga : HGN T n Sa 34 (Sa.1 268) := by
    rw [fa 268 (by decide)]
    exact h.2.1.fr Fa (Int.le_refl _) (fun k k1 k2 => ⟨fa k (by omega), f3 k (by omega)⟩)
  have pa : PAQ T n c Sa := h.2.2.1.fr Fa (Int.le_refl _) f1.1 (fun a ha => ⟨fa a (by omega), f3 a (by omega)⟩) (f5 7 (by decide) (by decide)) (congrFun (fa 267 (by decide)) 18) (fa 275 (by decide))
  have ka : KEQ T n Sa := h.2.2.2.1.fr Fa (Int.le_refl _) (fun a ha => ⟨fa a (by omega), f3 a (by omega)⟩) (fa 82 (by decide)) (fa 274 (by decide)) (fa 273 (by decide))
  have qa : REM Sa Sb (Sa.1 268) c := by
    rw [fa 268 (by decide)]
    exact q
  -- the reference's side
  have x18 : (sf S1 false).1 267 18 = nI c := by rw [g3, so1 267 (by decide) (by decide) (by decide), fa 267 (by decide)]; exact h.h18
  obtain ⟨r1, r2, r3, r4, r5, r6⟩ := frem hc x18
  have R : RFP c S' (su (f_rem (sf S1 false)) 268 (cp (S1.1 268) s.2.1 467)) := by
    refine ⟨fun a ha => ?_, ?_, ?_, fun j hj => ?_, fun i j hi hj => ?_, ?_, ?_⟩
    · rw [su_n _ _ (by omega), r2 a (by omega) (by omega)]
      exact g2 a (by omega) (by omega) (by omega)
    · show (f_rem (sf S1 false)).2 = S'.2
      rw [r1, g1]
    · rw [su_n _ _ (by decide)]
      exact r4
    · rw [su_n _ _ (by decide), r5 j hj]
      exact congrFun (g2 268 (by decide) (by decide) (by decide)) j
    · rw [su_n _ _ (by decide), r6 i j hi hj]
      exact congrFun (g2 275 (by decide) (by decide) (by decide)) _
    · rw [su_n _ _ (by decide), r2 _ (by decide) (by decide)]
      exact g2 273 (by decide) (by decide) (by decide)
    · rw [su_n _ _ (by decide), r2 _ (by decide) (by decide)]
      exact g2 274 (by decide) (by decide) (by decide)
  have gO : ∀ a, ¬ a = 267 → ¬ a = 268 → ¬ a = 275 → ¬ a = 269 → ¬ a = 272 → (su (f_rem (sf S1 false)) 268 (cp (S1.1 268) s.2.1 467)).1 a = S'.1 a := fun a h1 h2 h3 h4 h5 => by
    rw [su_n _ _ h2, r2 a h1 h3]
    exact g2 a h1 h4 h5
  have g267 : ∀ j, ¬ j = 18 → (su (f_rem (sf S1 false)) 268 (cp (S1.1 268) s.2.1 467)).1 267 j = (sf S1 false).1 267 j := fun j h1 => by rw [su_n _ _ (by decide), r3 j h1]
  have e268 : S1.1 268 = S.1 268 := ((g2 268 (by decide) (by decide) (by decide)).trans (so1 268 (by decide) (by decide) (by decide))).trans (fa 268 (by decide))
  refine ⟨⟨Nat.le_trans h.1.1 hn, hn2, ?_⟩, ?_, pa.rem ga qa fc FS (Int.le_refl _) R ((so1 268 (by decide) (by decide) (by decide))) (so1 275 (by decide) (by decide) (by decide)), ka.rem hPa hc q fc FS (Int.le_refl _) R (so1 273 (by decide) (by decide) (by decide)) (so1 274 (by decide) (by decide) (by decide)), ?_, ?_, ?_⟩
  · unfold mr at *
    rw [R.2.1]
    exact hm'
  · rw [su_s]
    refine HGN.eq (g := s.2.1) ⟨hh.of (fun k k1 k2 => R.1 k (by omega)), hg.mono hT, nf, nl, hr, ?_⟩ (fun j hj => ?_) (fun i hi => PT_cp hi (by rw [e268]; exact h.gg.PT i))
    · refine hx.fr (fun i hi => ?_) ?_ ?_
      · rw [R.2.1]
      · unfold sbr
        rw [R.2.1]
      · unfold ltc
        rw [R.2.1]
    · unfold cp
      rw [if_pos hj]
  · obtain ⟨m0, q1, q2, q3, q4, q5⟩ := h.inp
    refine ⟨0, by decide, ?_, ?_, ?_, fun k hk => absurd hk (Nat.not_lt_zero k)⟩
    · rw [gO 1 (by decide) (by decide) (by decide) (by decide) (by decide), so1 1 (by decide) (by decide) (by decide)]
      exact e3
    · rw [g267 6 (by decide)]
      exact g5
    · rw [gO 2 (by decide) (by decide) (by decide) (by decide) (by decide), gO 271 (by decide) (by decide) (by decide) (by decide) (by decide), so1 2 (by decide) (by decide) (by decide), so1 271 (by decide) (by decide) (by decide), f2 2 (Or.inl rfl), fa 271 (by decide)]
      exact q4
  · refine ⟨?_, ?_⟩
    · rw [gO 0 (by decide) (by decide) (by decide) (by decide) (by decide), s0 1 (by decide), e1, g267 12 (by decide)]
      exact g.1.2.2.1.symm
    · rw [gO 0 (by decide) (by decide) (by decide) (by decide) (by decide), s0 2 (by decide), e2, g267 13 (by decide)]
      exact g.1.2.2.2.1.symm
  · refine h.ou.fr hn hn2 ?_ ?_ ?_ ?_ ?_
    · have : sbr (su (f_rem (sf S1 false)) 268 (cp (S1.1 268) s.2.1 467)) = sbr S' := by unfold sbr; rw [R.2.1]
      rw [this, esb]
      exact f1.2.2.1
    · have : ltc (su (f_rem (sf S1 false)) 268 (cp (S1.1 268) s.2.1 467)) = ltc S' := by unfold ltc; rw [R.2.1]
      rw [this, elt]
      exact f1.2.2.2.2 _ hsbn
    · rw [gO 32 (by decide) (by decide) (by decide) (by decide) (by decide), so1 32 (by decide) (by decide) (by decide), fa 32 (by decide)]
    · rw [g267 20 (by decide), g4, so1 267 (by decide) (by decide) (by decide), fa 267 (by decide)]
    · rw [gO 276 (by decide) (by decide) (by decide) (by decide) (by decide), so1 276 (by decide) (by decide) (by decide), fa 276 (by decide)]
