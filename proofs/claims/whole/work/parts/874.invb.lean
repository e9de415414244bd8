/-! THE LAW'S INVARIANT behind undo, keep, and what fills the buffers. -/
theorem INV.undo {T : Int} {n c : Nat} {S S' : SS} (h : INV T n (c + 1) S) (fc : FRc 34 (ss S 0 7 (nI c)) S') (hh : HH S' 34 (r467 (S.1 275) (467 * c)) (fun _ => True)) (hn : ∀ i, i < rn (r467 (S.1 275) (467 * c)) → S'.2.1 (34 + 5 + 3 * i) = S.2.1 (S.2.2.1 c + 5 + 3 * i)) : INV T n c (su (ss (th S' 0) 267 18 (nI c)) 268 (cp (S.1 268) (fun j => S.1 275 (467 * c + j)) 467)) := by
  obtain ⟨⟨a1, a2, a3⟩, b, ⟨p1, p2, p3, p4, p5⟩, k, hI, hE, hO⟩ := h
  have e22 : S'.2.2 = S.2.2 := fc.1
  have eo : ∀ a, ¬ a = 0 → (a < 34 ∨ 57 ≤ a) → S'.1 a = S.1 a := fun a h1 h2 => ((fc.2 a (by omega)).1).trans (ss_o S _ _ h1)
  have en : ∀ a, (a < 34 ∨ 57 ≤ a) → S'.2.1 a = S.2.1 a := fun a h1 => (fc.2 a (by omega)).2
  have e0 : ∀ j, ¬ j = 7 → S'.1 0 j = S.1 0 j := fun j hj => (congrFun (fc.2 0 (by decide)).1 j).trans (ss_j S _ hj)
  have gO : ∀ a, ¬ a = 267 → ¬ a = 268 → (su (ss (th S' 0) 267 18 (nI c)) 268 (cp (S.1 268) (fun j => S.1 275 (467 * c + j)) 467)).1 a = S'.1 a := fun a h1 h2 => by rw [su_n _ _ h2, ss_o _ _ _ h1, th_n S' 0 h1]
  have g267 : ∀ j, ¬ j = 18 → ¬ j = 0 → (su (ss (th S' 0) 267 18 (nI c)) 268 (cp (S.1 268) (fun j => S.1 275 (467 * c + j)) 467)).1 267 j = S.1 267 j := fun j h1 h2 => by rw [su_n _ _ (by decide), ss_j _ _ h1, th_k S' 0 h2, eo 267 (by decide) (by decide)]
  have F : FRI n n S (su (ss (th S' 0) 267 18 (nI c)) 268 (cp (S.1 268) (fun j => S.1 275 (467 * c + j)) 467)) := ⟨⟨Nat.le_refl _, a2⟩, Or.inl (by unfold sbr; show S'.2.2.2.2.2.1 = _; rw [e22]), hO.ex, fun k _ _ => by unfold ltc; show S'.2.2.2.2.2.2.1 k = _; rw [e22]⟩
  have hk := p5 c (Nat.lt_succ_self c)
  have hrn := hk.2.1.rn6
  refine ⟨⟨a1, a2, ?_⟩, ?_, ⟨?_, by omega, ?_, ?_, fun i hi => ?_⟩, fun s hs => ⟨?_, fun z => ?_⟩, ?_, ?_, ?_⟩
  · show mr S' = 268
    unfold mr
    rw [e22]
    exact a3
  · rw [su_s]
    refine HGN.eq (g := r467 (S.1 275) (467 * c)) (hk.mv F (hh.of (fun k k1 k2 => gO k (by omega) (by omega))) hk.2.1 rfl (fun _ _ => rfl) (fun i hi => hn i hi)) (fun j hj => ?_) (fun i hi => PT_cp hi (b.2.1.PT i))
    unfold cp r467
    rw [if_pos hj, if_pos hj]
  · show PPf S'.2.2.1
    rw [e22]
    exact p1
  · rw [gO 0 (by decide) (by decide), (fc.2 0 (by decide)).1]
    exact ss_ee _ _ _ _
  · rw [su_n _ _ (by decide)]
    exact ss_ee _ _ _ _
  · have hl := p1.lo (i := i) (by omega)
    rw [gO 275 (by decide) (by decide), eo 275 (by decide) (by decide)]
    show HGN T n _ (S'.2.2.1 i) _
    rw [e22]
    exact (p5 i (by omega)).fr F (Int.le_refl _) (fun k k1 k2 => ⟨(gO k (by omega) (by omega)).trans (eo k (by omega) (by omega)), en k (by omega)⟩)
  · rw [gO 82 (by decide) (by decide), gO 274 (by decide) (by decide), eo 82 (by decide) (by decide), eo 274 (by decide) (by decide)]
    exact (k s hs).1
  · rw [gO 82 (by decide) (by decide), eo 82 (by decide) (by decide)] at z
    rw [gO 273 (by decide) (by decide), eo 273 (by decide) (by decide)]
    exact ((k s hs).2 z).fr F (Int.le_refl _) (fun k k1 k2 => ⟨(gO k (by omega) (by omega)).trans (eo k (by omega) (by omega)), en k (by omega)⟩)
  · exact hI.fr ((congrFun (gO 1 (by decide) (by decide)) 1).trans (congrFun (eo 1 (by decide) (by decide)) 1)) (g267 6 (by decide) (by decide)) ((gO 2 (by decide) (by decide)).trans (eo 2 (by decide) (by decide))) ((gO 271 (by decide) (by decide)).trans (eo 271 (by decide) (by decide)))
  · exact hE.fr ((congrFun (gO 0 (by decide) (by decide)) 1).trans (e0 1 (by decide))) ((congrFun (gO 0 (by decide) (by decide)) 2).trans (e0 2 (by decide))) (g267 12 (by decide) (by decide)) (g267 13 (by decide) (by decide))
  · exact hO.fr (Nat.le_refl _) a2 (by unfold sbr; show S'.2.2.2.2.2.1 = _; rw [e22]) (by unfold ltc; show S'.2.2.2.2.2.2.1 _ = _; rw [e22]) ((congrFun (gO 32 (by decide) (by decide)) 3).trans (congrFun (eo 32 (by decide) (by decide)) 3)) (g267 20 (by decide) (by decide)) ((gO 276 (by decide) (by decide)).trans (eo 276 (by decide) (by decide)))
theorem INV.keep {T : Int} {n c s : Nat} {S S1 : SS} (h : INV T n c S) (hs : s < 2) (fc : FRc (221 + 23 * s) S S1) (hh : HH S1 (221 + 23 * s) (S.1 268) (fun _ => True)) (hn : ∀ i, i < rn (S.1 268) → S1.2.1 (221 + 23 * s + 5 + 3 * i) = S.2.1 (34 + 5 + 3 * i)) (r : Nat → Int32) (hr : r = S.1 268) (f : Nat → Int32) (hf : f = S.1 273) : INV T n c (ss (su (th (ss S1 82 s 1) 0) 273 (cpo f r (467 * s) 467)) 274 s 1) := by
  subst hr
  subst hf
  obtain ⟨⟨a1, a2, a3⟩, b, ⟨p1, p2, p3, p4, p5⟩, k, hI, hE, hO⟩ := id h
  have e22 : S1.2.2 = S.2.2 := fc.1
  have gO : ∀ a, ¬ a = 267 → ¬ a = 273 → ¬ a = 274 → ¬ a = 82 → (a < 221 + 23 * s ∨ 221 + 23 * s + 23 ≤ a) → (ss (su (th (ss S1 82 s 1) 0) 273 (cpo (S.1 273) (S.1 268) (467 * s) 467)) 274 s 1).1 a = S.1 a := fun a h1 h2 h3 h4 h5 => by rw [ss_o _ _ _ h3, su_n _ _ h2, th_n _ 0 h1, ss_o _ _ _ h4]; exact (fc.2 a h5).1
  have gI : ∀ a, (221 + 23 * s ≤ a ∧ a < 221 + 23 * s + 23) → (ss (su (th (ss S1 82 s 1) 0) 273 (cpo (S.1 273) (S.1 268) (467 * s) 467)) 274 s 1).1 a = S1.1 a := fun a h1 => by rw [ss_o _ _ _ (by omega), su_n _ _ (by omega), th_n _ 0 (by omega), ss_o _ _ _ (by omega)]
  have g267 : ∀ j, ¬ j = 0 → (ss (su (th (ss S1 82 s 1) 0) 273 (cpo (S.1 273) (S.1 268) (467 * s) 467)) 274 s 1).1 267 j = S.1 267 j := fun j h2 => by rw [ss_o _ _ _ (by decide), su_n _ _ (by decide), th_k _ 0 h2, ss_o _ _ _ (by decide), (fc.2 267 (by omega)).1]
  have F : FRI n n S (ss (su (th (ss S1 82 s 1) 0) 273 (cpo (S.1 273) (S.1 268) (467 * s) 467)) 274 s 1) := ⟨⟨Nat.le_refl _, a2⟩, Or.inl (by unfold sbr; show S1.2.2.2.2.2.1 = _; rw [e22]), hO.ex, fun k _ _ => by unfold ltc; show S1.2.2.2.2.2.2.1 k = _; rw [e22]⟩
  refine ⟨⟨a1, a2, ?_⟩, ?_, ⟨?_, p2, ?_, ?_, fun i hi => ?_⟩, fun t ht => ?_, ?_, ?_, ?_⟩
  · show mr S1 = 268
    unfold mr
    rw [e22]
    exact a3
  · rw [gO 268 (by decide) (by decide) (by decide) (by decide) (by omega)]
    exact b.fr F (Int.le_refl _) (fun k k1 k2 => ⟨gO k (by omega) (by omega) (by omega) (by omega) (by omega), (fc.2 k (by omega)).2⟩)
  · show PPf S1.2.2.1
    rw [e22]
    exact p1
  · rw [gO 0 (by decide) (by decide) (by decide) (by decide) (by omega)]
    exact p3
  · rw [g267 18 (by decide)]
    exact p4
  · have hl := p1.lo (i := i) (by omega)
    rw [gO 275 (by decide) (by decide) (by decide) (by decide) (by omega)]
    show HGN T n _ (S1.2.2.1 i) _
    rw [e22]
    exact (p5 i hi).fr F (Int.le_refl _) (fun k k1 k2 => ⟨gO k (by omega) (by omega) (by omega) (by omega) (by omega), (fc.2 k (by omega)).2⟩)
  · have e273 : (ss (su (th (ss S1 82 s 1) 0) 273 (cpo (S.1 273) (S.1 268) (467 * s) 467)) 274 s 1).1 273 = cpo (S.1 273) (S.1 268) (467 * s) 467 := (ss_o _ _ _ (by decide)).trans (su_s _ _ _)
    have e274 : ∀ j, ¬ j = s → (ss (su (th (ss S1 82 s 1) 0) 273 (cpo (S.1 273) (S.1 268) (467 * s) 467)) 274 s 1).1 274 j = S.1 274 j := fun j hj => by rw [ss_j _ _ hj, su_n _ _ (by decide), th_n _ 0 (by decide), ss_o _ _ _ (by decide), (fc.2 274 (by omega)).1]
    have e82 : ∀ j, ¬ j = s → (ss (su (th (ss S1 82 s 1) 0) 273 (cpo (S.1 273) (S.1 268) (467 * s) 467)) 274 s 1).1 82 j = S.1 82 j := fun j hj => by rw [ss_o _ _ _ (by decide), su_n _ _ (by decide), th_n _ 0 (by decide), ss_j _ _ hj, (fc.2 82 (by omega)).1]
    have e82s : (ss (su (th (ss S1 82 s 1) 0) 273 (cpo (S.1 273) (S.1 268) (467 * s) 467)) 274 s 1).1 82 s = 1 := by rw [ss_o _ _ _ (by decide), su_n _ _ (by decide), th_n _ 0 (by decide), ss_ee]
    by_cases hts : t = s
    · subst hts
      refine ⟨e82s.trans (ss_ee _ _ _ _).symm, fun z => ?_⟩
      rw [e273]
      refine HGN.eq (g := S.1 268) (b.mv F (hh.of (fun k k1 k2 => gI k (by omega))) b.2.1 rfl (fun _ _ => rfl) (fun i hi => hn i hi)) (fun j hj => ?_) (fun i hi => PT_r467 hi)
      unfold r467 cpo
      rw [if_pos hj, if_pos (by omega), show 467 * t + j - 467 * t = j by omega]
    · refine ⟨by rw [e82 t hts, e274 t hts]; exact (k t ht).1, fun z => ?_⟩
      rw [e82 t hts] at z
      rw [e273]
      refine HGN.eq (g := r467 (S.1 273) (467 * t)) (((k t ht).2 z).fr F (Int.le_refl _) (fun k k1 k2 => ⟨gO k (by omega) (by omega) (by omega) (by omega) (by omega), (fc.2 k (by omega)).2⟩)) (fun j hj => ?_) (fun i hi => PT_r467 hi)
      unfold r467 cpo
      rw [if_pos hj, if_pos hj, if_neg (by omega)]
  · exact hI.fr (congrFun (gO 1 (by decide) (by decide) (by decide) (by decide) (by omega)) 1) (g267 6 (by decide)) (gO 2 (by decide) (by decide) (by decide) (by decide) (by omega)) (gO 271 (by decide) (by decide) (by decide) (by decide) (by omega))
  · exact hE.fr (congrFun (gO 0 (by decide) (by decide) (by decide) (by decide) (by omega)) 1) (congrFun (gO 0 (by decide) (by decide) (by decide) (by decide) (by omega)) 2) (g267 12 (by decide)) (g267 13 (by decide))
  · exact hO.fr (Nat.le_refl _) a2 (by unfold sbr; show S1.2.2.2.2.2.1 = _; rw [e22]) (by unfold ltc; show S1.2.2.2.2.2.2.1 _ = _; rw [e22]) (congrFun (gO 32 (by decide) (by decide) (by decide) (by decide) (by omega)) 3) (g267 20 (by decide)) (gO 276 (by decide) (by decide) (by decide) (by decide) (by omega))
/-- bytes put behind m -/
def apf : Nat → List Int32 → (Nat → Int32) → Nat → Int32
  | _, [], f => f
  | m, x :: l, f => apf (m + 1) l (upd f m x)
theorem aps_row {a b j : Nat} (hab : ¬ a = b) : ∀ (l : List Int32) (m : Nat) (S : SS), (aps a b j m l S).1 a = apf m l (S.1 a)
  | [], m, S => rfl
  | x :: l, m, S => by
    show (aps a b j (m + 1) l (ss (ss S a m x) b j (nI (m + 1)))).1 a = apf (m + 1) l (upd (S.1 a) m x)
    rw [aps_row hab l, ss_o _ _ _ hab]
    exact congrArg (apf (m + 1) l) (su_s _ _ _)
def byr (x : Int32) : Prop := -128 ≤ x.toInt ∧ x.toInt < 128
theorem apf_by : ∀ (l : List Int32) (m : Nat) (f : Nat → Int32), BY f m → (∀ x ∈ l, byr x) → BY (apf m l f) (m + l.length)
  | [], m, f, h, _ => h
  | x :: l, m, f, h, hx => by
    have h1 : BY (upd f m x) (m + 1) := fun k hk => by
      unfold upd
      by_cases e : k = m
      · rw [if_pos e]
        exact hx x List.mem_cons_self
      · rw [if_neg e]
        exact h k (by omega)
    have h2 := apf_by l (m + 1) (upd f m x) h1 (fun y hy => hx y (List.mem_cons_of_mem _ hy))
    rw [List.length_cons, show m + (l.length + 1) = m + 1 + l.length by omega]
    exact h2
theorem nar_byr (x : Int32) : byr (vp_nar .byte x) := by
  show -128 ≤ (x.toInt8.toInt32).toInt ∧ (x.toInt8.toInt32).toInt < 128
  rw [Int8.toInt_toInt32]
  have h1 := Int8.le_toInt x.toInt8
  have h2 := Int8.toInt_lt x.toInt8
  omega
theorem b4_byr {v : Int32} : ∀ x ∈ b4 v, byr x := fun x hx => by
  unfold b4 at hx
  simp only [List.mem_cons, List.not_mem_nil, or_false] at hx
  rcases hx with rfl | rfl | rfl | rfl <;> exact nar_byr _
def b20 (a b c d e : Int32) : List Int32 := b4 a ++ (b4 b ++ (b4 c ++ (b4 d ++ b4 e)))
theorem b20_byr {a b c d e : Int32} : ∀ x ∈ b20 a b c d e, byr x := fun x hx => by
  unfold b20 at hx
  simp only [List.mem_append] at hx
  rcases hx with h | h | h | h | h <;> exact b4_byr x h
theorem app20 {S : SS} {m : Nat} (h : S.1 267 6 = nI m) (hm : m ≤ 480) (a b c d e : Int32) : f_app4 e (f_app4 d (f_app4 c (f_app4 b (f_app4 a S)))) = aps 271 267 6 m (b20 a b c d e) S := by
  have l : ∀ (v : Int32) (k : Nat) (S : SS), S.1 267 6 = nI k → (aps 271 267 6 k (b4 v) S).1 267 6 = nI (k + 4) := fun v k S hk => aps_len (b4 v) k S hk
  have h1 := l a m S h
  have h2 := l b (m + 4) _ h1
  have h3 := l c (m + 4 + 4) _ h2
  have h4 := l d (m + 4 + 4 + 4) _ h3
  rw [app4_aps h (by omega), app4_aps h1 (by omega), app4_aps h2 (by omega), app4_aps h3 (by omega), app4_aps h4 (by omega)]
  unfold b20
  rw [aps_app, aps_app, aps_app, aps_app]
  rfl
theorem INV.append {T : Int} {n c m : Nat} {S : SS} (h : INV T n c S) (e1 : S.1 1 1 = nI m) (e6 : S.1 267 6 = nI m) (hm : m ≤ 480) (a b c' d e : Int32) (v : Int64) : INV T n c (aps 271 267 6 m (b20 a b c' d e) (th (so (aps 2 1 1 m (b20 a b c' d e) S) v) 0)) := by
  obtain ⟨m0, q1, q2, q3, q4, q5⟩ := h.inp
  obtain rfl : m0 = m := by
    have z := congrArg Int32.toInt (q2.symm.trans e1)
    rw [nI_toInt (by omega), nI_toInt (by omega)] at z
    omega
  generalize hS2 : th (so (aps 2 1 1 m0 (b20 a b c' d e) S) v) 0 = S2
  have s2 : ∀ k, ¬ k = 1 → ¬ k = 2 → ¬ k = 267 → S2.1 k = S.1 k := fun k h1 h2 h3 => by
    rw [← hS2, th_n _ 0 h3]
    show (aps 2 1 1 m0 (b20 a b c' d e) S).1 k = S.1 k
    exact aps_n h2 h1 _ _ _
  have s267 : ∀ j, ¬ j = 0 → S2.1 267 j = S.1 267 j := fun j hj => by
    rw [← hS2, th_k _ 0 hj]
    show (aps 2 1 1 m0 (b20 a b c' d e) S).1 267 j = S.1 267 j
    exact congrFun (aps_n (by decide) (by decide) _ _ _) j
  have s0 : S2.1 0 = S.1 0 := s2 0 (by decide) (by decide) (by decide)
  have sr : S2.1 2 = apf m0 (b20 a b c' d e) (S.1 2) := by
    rw [← hS2, th_n _ 0 (by decide)]
    show (aps 2 1 1 m0 (b20 a b c' d e) S).1 2 = _
    exact aps_row (by decide) _ _ _
  have s11 : S2.1 1 1 = nI (m0 + 20) := by
    rw [← hS2, th_n _ 0 (by decide)]
    show (aps 2 1 1 m0 (b20 a b c' d e) S).1 1 1 = _
    exact aps_len _ _ _ e1
  have f2 : S2.2 = (so S v).2 := by
    rw [← hS2]
    show (so (aps 2 1 1 m0 (b20 a b c' d e) S) v).2 = _
    unfold so
    rw [aps_2]
  have g2 := aps_2 271 267 6 (b20 a b c' d e) m0 S2
  have gn : ∀ k, ¬ k = 1 → ¬ k = 2 → ¬ k = 267 → ¬ k = 271 → (aps 271 267 6 m0 (b20 a b c' d e) S2).1 k = S.1 k := fun k h1 h2 h3 h4 => (aps_n h4 h3 _ _ _).trans (s2 k h1 h2 h3)
  have g267 : ∀ j, ¬ j = 6 → ¬ j = 0 → (aps 271 267 6 m0 (b20 a b c' d e) S2).1 267 j = S.1 267 j := fun j h1 h2 => (aps_b (by decide) h1 _ _ _).trans (s267 j h2)
  have e6' : (aps 271 267 6 m0 (b20 a b c' d e) S2).1 267 6 = nI (m0 + 20) := aps_len _ _ _ ((s267 6 (by decide)).trans e6)
  refine h.fr ⟨⟨Nat.le_refl _, h.1.2.1⟩, Or.inl (by unfold sbr; rw [g2, f2]; rfl), h.ou.ex, fun k _ _ => by unfold ltc; rw [g2, f2]; rfl⟩ (Int.le_refl _) ⟨by rw [g2, f2]; rfl, by rw [g2, f2]; rfl⟩ (fun k hk => ⟨gn k (by omega) (by omega) (by omega) (by omega), by rw [g2, f2]; rfl⟩) (gn _ (by decide) (by decide) (by decide) (by decide))
    ⟨gn _ (by decide) (by decide) (by decide) (by decide), gn _ (by decide) (by decide) (by decide) (by decide), gn _ (by decide) (by decide) (by decide) (by decide), gn _ (by decide) (by decide) (by decide) (by decide)⟩ ⟨congrFun (gn 0 (by decide) (by decide) (by decide) (by decide)) 7, g267 18 (by decide) (by decide)⟩ ?_ ?_ ?_
  · have er : (aps 271 267 6 m0 (b20 a b c' d e) S2).1 271 = apf m0 (b20 a b c' d e) (S.1 271) := by rw [aps_row (by decide), s2 271 (by decide) (by decide) (by decide)]
    refine ⟨m0 + 20, by omega, ?_, e6', ?_, ?_⟩
    · rw [aps_n (by decide) (by decide)]
      exact s11
    · rw [er, aps_n (by decide) (by decide), sr, q4]
    · rw [er]
      exact apf_by _ _ _ q5 b20_byr
  · exact h.er.fr (congrFun (gn 0 (by decide) (by decide) (by decide) (by decide)) 1) (congrFun (gn 0 (by decide) (by decide) (by decide) (by decide)) 2) (g267 12 (by decide) (by decide)) (g267 13 (by decide) (by decide))
  · exact h.ou.fr (Nat.le_refl _) h.1.2.1 (by unfold sbr; rw [g2, f2]; rfl) (by unfold ltc; rw [g2, f2]; rfl) (congrFun (gn 32 (by decide) (by decide) (by decide) (by decide)) 3) (g267 20 (by decide) (by decide)) (gn 276 (by decide) (by decide) (by decide) (by decide))
/-- the input's length set on both sides -/
theorem INV.len {T : Int} {n c m m' : Nat} {S : SS} (h : INV T n c S) (e1 : S.1 1 1 = nI m) (hm : m ≤ 500) (hm2 : m' ≤ m) : INV T n c (ss (th (ss S 1 1 (nI m')) 0) 267 6 (nI m')) := by
  obtain ⟨m0, q1, q2, q3, q4, q5⟩ := h.inp
  obtain rfl : m0 = m := by
    have z := congrArg Int32.toInt (q2.symm.trans e1)
    rw [nI_toInt (by omega), nI_toInt (by omega)] at z
    omega
  have gn : ∀ k, ¬ k = 1 → ¬ k = 267 → (ss (th (ss S 1 1 (nI m')) 0) 267 6 (nI m')).1 k = S.1 k := fun k h1 h3 => by rw [ss_o _ _ _ h3, th_n _ 0 h3, ss_o _ _ _ h1]
  have g267 : ∀ j, ¬ j = 6 → ¬ j = 0 → (ss (th (ss S 1 1 (nI m')) 0) 267 6 (nI m')).1 267 j = S.1 267 j := fun j h1 h2 => by rw [ss_j _ _ h1, th_k _ 0 h2, ss_o _ _ _ (by decide)]
  refine h.fr h.rf (Int.le_refl _) ⟨rfl, rfl⟩ (fun k hk => ⟨gn k (by omega) (by omega), rfl⟩) (gn _ (by decide) (by decide)) ⟨gn _ (by decide) (by decide), gn _ (by decide) (by decide), gn _ (by decide) (by decide), gn _ (by decide) (by decide)⟩ ⟨congrFun (gn 0 (by decide) (by decide)) 7, g267 18 (by decide) (by decide)⟩ ⟨m', by omega, ?_, ss_ee _ _ _ _, ?_, ?_⟩ ?_ ?_
  · rw [ss_o _ _ _ (by decide), th_n _ 0 (by decide)]
    exact ss_ee _ _ _ _
  · rw [gn 2 (by decide) (by decide), gn 271 (by decide) (by decide)]
    exact q4
  · rw [gn 271 (by decide) (by decide)]
    exact fun k hk => q5 k (by omega)
  · exact h.er.fr (congrFun (gn 0 (by decide) (by decide)) 1) (congrFun (gn 0 (by decide) (by decide)) 2) (g267 12 (by decide) (by decide)) (g267 13 (by decide) (by decide))
  · exact h.ou.fr (Nat.le_refl _) h.1.2.1 rfl rfl (congrFun (gn 32 (by decide) (by decide)) 3) (g267 20 (by decide) (by decide)) (gn 276 (by decide) (by decide))
/-- a text was written -/
theorem INV.written {T : Int} {n n' c : Nat} {S S' : SS} {t : List Int32} (h : INV T n c S) (w : WRO n S t n' S') (hn : n ≤ n') (ht : t.length ≤ 500) (v : Int64) : INV T n' c (wrs (ss (th (so S' v) 0) 267 20 0) t) := by
  obtain ⟨f, j', f', ⟨hs, hj⟩, hf⟩ := w
  have g20 : (ss (th (so S' v) 0) 267 20 0).1 267 20 = nI 0 := ss_ee _ _ _ _
  have gn : ∀ k, ¬ k = 276 → ¬ k = 267 → ¬ k = 32 → (wrs (ss (th (so S' v) 0) 267 20 0) t).1 k = S.1 k := fun k h1 h2 h3 => by
    rw [wrs_n h1 h2, ss_o _ _ _ h2, th_n _ 0 h2]
    exact f.2.1 k h3
  have g267 : ∀ j, ¬ j = 20 → ¬ j = 0 → (wrs (ss (th (so S' v) 0) 267 20 0) t).1 267 j = S.1 267 j := fun j h1 h2 => by
    rw [wrs_j h1, ss_j _ _ h1, th_k _ 0 h2]
    exact congrFun (f.2.1 267 (by decide)) j
  have e2 := wrs_2 t (ss (th (so S' v) 0) 267 20 0)
  have F : FRI n n' S (wrs (ss (th (so S' v) 0) 267 20 0) t) := ⟨⟨hn, hs.1.2.2⟩, by unfold sbr; rw [e2]; exact f.1.2.2.2.2.1, h.ou.ex, fun k h1 h2 => by unfold ltc; rw [e2]; exact f.1.2.2.2.2.2 k h1 h2⟩
  refine h.fr F (Int.le_refl _) ⟨by rw [e2]; exact f.1.1, by rw [e2]; exact f.1.2.1⟩ (fun k hk => ⟨gn k (by omega) (by omega) (by omega), by rw [e2]; exact congrFun f.2.2 k⟩) (gn _ (by decide) (by decide) (by decide)) ⟨gn _ (by decide) (by decide) (by decide), gn _ (by decide) (by decide) (by decide), gn _ (by decide) (by decide) (by decide), gn _ (by decide) (by decide) (by decide)⟩ ⟨congrFun (gn 0 (by decide) (by decide) (by decide)) 7, g267 18 (by decide) (by decide)⟩ ?_ ?_ ?_
  · exact h.inp.fr (congrFun (gn 1 (by decide) (by decide) (by decide)) 1) (g267 6 (by decide) (by decide)) (gn 2 (by decide) (by decide) (by decide)) (gn 271 (by decide) (by decide) (by decide))
  · exact h.er.fr (congrFun (gn 0 (by decide) (by decide) (by decide)) 1) (congrFun (gn 0 (by decide) (by decide) (by decide)) 2) (g267 12 (by decide) (by decide)) (g267 13 (by decide) (by decide))
  · have hat := wrs_at t g20 (by omega)
    refine ⟨t.length, j', f', ⟨⟨by unfold sbr; rw [e2]; exact hs.1.1, by unfold sbr; rw [e2]; exact hs.1.2.1, hs.1.2.2⟩, ?_, ?_, hs.2.2.2⟩, hj, ht, ?_, fun i hi => ?_⟩
    · unfold sbr ltc
      rw [e2]
      exact hs.2.1
    · rw [wrs_n (by decide) (by decide), ss_o _ _ _ (by decide), th_n _ 0 (by decide)]
      exact hs.2.2.1
    · rw [wrs_20 t g20 (by omega), Nat.zero_add]
    · have hti : t[i]? = some t[i] := List.getElem?_eq_getElem hi
      have := hat.2 i _ hti
      rw [Nat.zero_add] at this
      rw [this]
      exact hf i _ hti
