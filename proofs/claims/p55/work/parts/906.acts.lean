/-! WHAT AN ACT DOES: the relation that the law asks for. -/
def ACr (kd : Int32) (g g' : Nat → Int32) (r : Nat) : Prop := 0 ≤ (of g' r 12 - of g r 12).toInt ∧ (¬ kd = 19 → of g' r 2 = of g r 2 - (of g' r 12 - of g r 12)) ∧ (¬ kd = 20 → ¬ kd = 19 → of g r 2 = 0 → of g' r 1 = of g r 1) ∧ (g' 1 = g 1 → of g' r 12 - of g r 12 = 0 ∧ of g' r 10 = of g r 10) ∧ (g' 1 = g 1 + 1 → of g' r 10 = of g r 10 + of g' r 1)
def ACT (kd did : Int32) (g g' : Nat → Int32) : Prop := rn g' = rn g ∧ JJ g' ∧ (g' 1).toInt ≤ (g 1).toInt + 60 ∧ (∀ r, r < rn g → ACr kd g g' r) ∧ (g 1 < g' 1 → did = sumN g' 12 (rn g) - sumN g 12 (rn g))
theorem ACT_ticks {kd : Int32} {g : Nat → Int32} {N : Nat} (h : JJ g) (h1 : 1 ≤ N) (h2 : N ≤ 60) (hT : (g 1).toInt ≤ 100000) : ACT kd (sumN (ticksN g N) 12 (rn g) - sumN g 12 (rn g)) g (ticksN g N) := by
  obtain ⟨a1, a2, a3⟩ := JJ_ticks h N (by omega)
  refine ⟨rn_ticks g N, a1, by rw [a2]; omega, fun r hr => ?_, fun _ => rfl⟩
  have b := a3 r hr
  obtain ⟨m1, m2⟩ := b.more
  refine ⟨m1, fun _ => m2, fun _ _ z => b.2.2.2 (by rw [z, Int32.toInt_zero]), fun z => ?_, fun z => ?_⟩
  · rw [z] at a2
    omega
  · have hN : N = 1 := by
      rw [z, i_add1 h.1.t0 (by omega)] at a2
      omega
    subst hN
    show of (f_tick g) r 10 = of g r 10 + of (f_tick g) r 1
    exact ((JJ_tick h (by omega)).2.2 r hr).2
theorem ACT_same {kd did : Int32} {g g' : Nat → Int32} (hr : rn g' = rn g) (hJ : JJ g') (h1 : g' 1 = g 1) (hw : ∀ r, of g' r 12 = of g r 12 ∧ of g' r 10 = of g r 10 ∧ (¬ kd = 19 → of g' r 2 = of g r 2) ∧ (¬ kd = 20 → of g' r 1 = of g r 1)) : ACT kd did g g' := by
  refine ⟨hr, hJ, by rw [h1]; omega, fun r _ => ?_, fun z => ?_⟩
  · obtain ⟨a, b, c, d⟩ := hw r
    have e0 : of g' r 12 - of g r 12 = 0 := by rw [a, Int32.sub_self]
    refine ⟨by rw [e0, Int32.toInt_zero]; exact Int.le_refl _, fun z => by rw [e0, c z, Int32.sub_zero], fun z _ _ => d z, fun _ => ⟨e0, b⟩, fun z => ?_⟩
    rw [h1] at z
    exact absurd z (i_ne1 _)
  · rw [h1, Int32.lt_iff_toInt_lt] at z
    exact absurd z (Int.lt_irrefl _)
theorem JJ_lo {g g' : Nat → Int32} (h : JJ g) (hG : GG (g 1).toInt g') (hlo : ∀ k, k < 71 → g' k = g k) (hw : ∀ i, of g' i 7 = of g i 7 ∧ of g' i 16 = of g i 16 ∧ of g' i 17 = of g i 17) : JJ g' := by
  obtain ⟨hg, hE, hP⟩ := h
  have e1 := hlo 1 (by decide)
  have e5 := hlo 5 (by decide)
  have er : rn g' = rn g := rn_cg (hlo 0 (by decide))
  have ep : pn g' = pn g := pn_cg (hlo 3 (by decide))
  have h20 := hg.pn20
  refine ⟨by rw [e1]; exact hG, fun i hi => ?_, fun k hk => ?_, fun k hk => ?_⟩
  · rw [er] at hi
    rw [e1, e5]
    exact (hE i hi).cg (hw i).1 (hw i).2.1 (hw i).2.2
  · rw [ep] at hk
    rw [e1, hlo _ (by omega)]
    exact hP.1 k hk
  · rw [ep] at hk
    rw [hlo _ (by omega), hlo _ (by omega)]
    exact hP.2 k hk
theorem pt_ne (g : Nat → Int32) {i w j w' : Nat} (x : Int32) (hw : w < 66) (hw' : w' < 66) (h : ¬ w' = w) : of (pt g i w x) j w' = of g j w' := by
  rw [of_pt _ _ hw hw', if_neg (fun z => h z.2)]
theorem JJ_pt {g : Nat → Int32} {i w : Nat} {x : Int32} (h : JJ g) (hw : w < 66) (h7 : ¬ 7 = w) (h16 : ¬ 16 = w) (h17 : ¬ 17 = w) (hG : GG (g 1).toInt (pt g i w x)) : JJ (pt g i w x) :=
  JJ_lo h hG (fun k hk => pt_lo g x hk) (fun j => ⟨pt_ne g x hw (by decide) h7, pt_ne g x hw (by decide) h16, pt_ne g x hw (by decide) h17⟩)
theorem ACT_pt {kd did : Int32} {g : Nat → Int32} {i w : Nat} {x : Int32} (h : JJ g) (hw : w < 66) (h7 : ¬ 7 = w) (h16 : ¬ 16 = w) (h17 : ¬ 17 = w) (h12 : ¬ 12 = w) (h10 : ¬ 10 = w) (h2 : w = 2 → kd = 19) (h1 : w = 1 → kd = 20) (hG : GG (g 1).toInt (pt g i w x)) : ACT kd did g (pt g i w x) :=
  ACT_same (rn_pt g i w x) (JJ_pt h hw h7 h16 h17 hG) (pt_lo g x (by decide)) (fun r => ⟨pt_ne g x hw (by decide) h12, pt_ne g x hw (by decide) h10, fun z => pt_ne g x hw (by decide) (fun y => z (h2 y.symm)), fun z => pt_ne g x hw (by decide) (fun y => z (h1 y.symm))⟩)
theorem JJ_upd {g : Nat → Int32} {j : Nat} {x : Int32} (h : JJ g) (hj : j = 2 ∨ j = 7 ∨ j = 8 ∨ j = 9) (hG : GG (g 1).toInt (upd g j x)) : JJ (upd g j x) := by
  obtain ⟨hg, hE, hP⟩ := h
  have e1 : upd g j x 1 = g 1 := upd_o (by omega)
  have e5 : upd g j x 5 = g 5 := upd_o (by omega)
  have er : rn (upd g j x) = rn g := rn_cg (upd_o (by omega))
  have ep : pn (upd g j x) = pn g := pn_cg (upd_o (by omega))
  have eo : ∀ i w, of (upd g j x) i w = of g i w := fun i w => upd_o (by omega)
  refine ⟨by rw [e1]; exact hG, fun i hi => ?_, fun k hk => ?_, fun k hk => ?_⟩
  · rw [er] at hi
    rw [e1, e5]
    exact (hE i hi).cg (eo i 7) (eo i 16) (eo i 17)
  · rw [ep] at hk
    rw [e1, show upd g j x (11 + 3 * k) = g (11 + 3 * k) from upd_o (by omega)]
    exact hP.1 k hk
  · rw [ep] at hk
    rw [show upd g j x (11 + 3 * k) = g (11 + 3 * k) from upd_o (by omega), show upd g j x (11 + 3 * (k + 1)) = g (11 + 3 * (k + 1)) from upd_o (by omega)]
    exact hP.2 k hk
theorem ACT_upd {kd did : Int32} {g : Nat → Int32} {j : Nat} {x : Int32} (h : JJ g) (hj : j = 2 ∨ j = 7 ∨ j = 8 ∨ j = 9) (hG : GG (g 1).toInt (upd g j x)) : ACT kd did g (upd g j x) :=
  ACT_same (rn_upd g x (by omega)) (JJ_upd h hj hG) (upd_o (by omega)) (fun r => ⟨upd_o (by omega), upd_o (by omega), fun _ => upd_o (by omega), fun _ => upd_o (by omega)⟩)
theorem ipos_spec (g : Nat → Int32) (t : Int32) : ∀ n, (0 < ipos g t n → ¬ t < g (11 + 3 * (ipos g t n - 1))) ∧ ∀ k, ipos g t n ≤ k → k < n → t < g (11 + 3 * k)
  | 0 => ⟨fun z => absurd z (Nat.lt_irrefl _), fun k _ h => absurd h (Nat.not_lt_zero _)⟩
  | n + 1 => by
    by_cases c : t < g (11 + 3 * n)
    · have e : ipos g t (n + 1) = ipos g t n := if_pos c
      obtain ⟨a, b⟩ := ipos_spec g t n
      rw [e]
      refine ⟨a, fun k h1 h2 => ?_⟩
      by_cases hk : k = n
      · rw [hk]; exact c
      · exact b k h1 (by omega)
    · have e : ipos g t (n + 1) = n + 1 := if_neg c
      rw [e]
      exact ⟨fun _ => by rw [Nat.add_sub_cancel]; exact c, fun k h1 h2 => absurd h1 (by omega)⟩
theorem PLS_plan {g : Nat → Int32} {t r kk : Int32} (hp : pn g < 20) (h3 : g 3 = nI (pn g)) (hP : PLS g) (ht : (g 1).toInt < t.toInt) : PLS (f_plan t r kk g) ∧ pn (f_plan t r kk g) = pn g + 1 ∧ (∀ j, j < 11 → ¬ j = 3 → f_plan t r kk g j = g j) ∧ ∀ i w, of (f_plan t r kk g) i w = of g i w := by
  have hK := ipos_le g t (pn g)
  obtain ⟨s1, s2⟩ := ipos_spec g t (pn g)
  have lo : ∀ j, j < 11 → ¬ j = 3 → f_plan t r kk g j = g j := fun j hj h3 => by
    unfold f_plan f_ins
    rw [if_neg h3, if_neg (by omega), if_neg (by omega), if_neg (by omega), if_neg (by omega)]
  have eo : ∀ i w, of (f_plan t r kk g) i w = of g i w := fun i w => by
    unfold of f_plan f_ins
    rw [if_neg (by omega), if_neg (by omega), if_neg (by omega), if_neg (by omega), if_neg (by omega)]
  have ep : pn (f_plan t r kk g) = pn g + 1 := by
    have e3 : f_plan t r kk g 3 = nI (pn g + 1) := by
      show g 3 + 1 = _
      rw [h3]
      exact nI_1 _
    have e4 : pn (f_plan t r kk g) = (nI (pn g + 1)).toInt.toNat := congrArg (fun x : Int32 => x.toInt.toNat) e3
    rw [e4, nI_toInt (by omega)]
    omega
  have tl : ∀ k, k < ipos g t (pn g) → f_plan t r kk g (11 + 3 * k) = g (11 + 3 * k) := fun k hk => by
    unfold f_plan f_ins
    rw [if_neg (by omega), if_neg (by omega), if_neg (by omega), if_neg (by omega), if_neg (by omega)]
  have te : f_plan t r kk g (11 + 3 * ipos g t (pn g)) = t := by
    unfold f_plan f_ins
    rw [if_neg (by omega), if_neg (by omega), if_neg (by omega), if_pos (by omega)]
  have th : ∀ k, ipos g t (pn g) < k → k ≤ pn g → f_plan t r kk g (11 + 3 * k) = g (11 + 3 * (k - 1)) := fun k h1 h2 => by
    unfold f_plan f_ins
    rw [if_neg (by omega), if_neg (by omega), if_neg (by omega), if_neg (by omega), if_pos (by omega), show 11 + 3 * k - 3 = 11 + 3 * (k - 1) by omega]
  have e1 := lo 1 (by decide) (by decide)
  refine ⟨⟨fun k hk => ?_, fun k hk => ?_⟩, ep, lo, eo⟩
  · rw [ep] at hk
    rw [e1]
    rcases Nat.lt_trichotomy k (ipos g t (pn g)) with q | q | q
    · rw [tl k q]; exact hP.1 k (by omega)
    · rw [q, te]; exact ht
    · rw [th k q (by omega)]; exact hP.1 _ (by omega)
  · rw [ep] at hk
    rcases Nat.lt_trichotomy (k + 1) (ipos g t (pn g)) with q | q | q
    · rw [tl k (by omega), tl (k + 1) q]; exact hP.2 k (by omega)
    · rw [tl k (by omega), q, te]
      have a := s1 (by omega)
      rw [← q, Nat.add_sub_cancel, Int32.lt_iff_toInt_lt] at a
      omega
    · rw [th (k + 1) q (by omega), Nat.add_sub_cancel]
      by_cases hk2 : k = ipos g t (pn g)
      · rw [hk2, te]
        have a := s2 (ipos g t (pn g)) (Nat.le_refl _) (by omega)
        rw [Int32.lt_iff_toInt_lt] at a
        omega
      · rw [th k (by omega) (by omega)]
        have := hP.2 (k - 1) (by omega)
        rwa [show k - 1 + 1 = k by omega] at this
theorem JJ_plan {g : Nat → Int32} {t kk : Int32} {r : Nat} (h : JJ g) (hp : pn g < 20) (hr : r < rn g) (ht : (g 1).toInt < t.toInt ∧ t.toInt ≤ 300000) (hk : 0 ≤ kk.toInt ∧ kk.toInt < 4) : JJ (f_plan t (nI r) kk g) ∧ (f_plan t (nI r) kk g) 1 = g 1 ∧ ∀ i w, of (f_plan t (nI r) kk g) i w = of g i w := by
  obtain ⟨hg, hE, hP⟩ := h
  have t0 := hg.t0
  have hG := GG_plan hg hp hr (t := t) (kk := kk) ⟨by omega, ht.2⟩ hk
  obtain ⟨p1, -, lo, eo⟩ := PLS_plan (r := nI r) (kk := kk) hp hg.e3 hP ht.1
  have e1 := lo 1 (by decide) (by decide)
  have e5 := lo 5 (by decide) (by decide)
  have er : rn (f_plan t (nI r) kk g) = rn g := rn_cg (lo 0 (by decide) (by decide))
  refine ⟨⟨by rw [e1]; exact hG, fun i hi => ?_, p1⟩, e1, eo⟩
  rw [er] at hi
  rw [e1, e5]
  exact (hE i hi).cg (eo i 7) (eo i 16) (eo i 17)
theorem ACT_plan {kd did : Int32} {g : Nat → Int32} {t kk : Int32} {r : Nat} (h : JJ g) (hp : pn g < 20) (hr : r < rn g) (ht : (g 1).toInt < t.toInt ∧ t.toInt ≤ 300000) (hk : 0 ≤ kk.toInt ∧ kk.toInt < 4) : ACT kd did g (f_plan t (nI r) kk g) := by
  obtain ⟨a, b, c⟩ := JJ_plan h hp hr ht hk
  exact ACT_same (rn_plan g t (nI r) kk) a b (fun r => ⟨c r 12, c r 10, fun _ => c r 2, fun _ => c r 1⟩)
theorem JJ_drop {g : Nat → Int32} {k : Nat} (h : JJ g) (hk : k < pn g) : JJ (f_drop k 1 g) := by
  obtain ⟨hg, hE, hP⟩ := h
  have h20 := hg.pn20
  have lo : ∀ j, j < 11 → ¬ j = 3 → f_drop k 1 g j = g j := fun j hj h3 => drop_lo hj h3
  have eo : ∀ i w, of (f_drop k 1 g) i w = of g i w := fun i w => drop_hi h20 (by omega)
  have ep : pn (f_drop k 1 g) = pn g - 1 := by
    have h0 := hg.1.2.2.1.1
    have e3 : (f_drop k 1 g 3).toInt = (g 3).toInt - (1 : Nat) := by
      show (g 3 - nI 1).toInt = _
      exact i_subN h0 (by unfold pn at hk; omega)
    unfold pn
    rw [e3]
    omega
  have key : ∀ j, j < pn g - 1 → f_drop k 1 g (11 + 3 * j) = g (11 + 3 * (if j < k then j else j + 1)) := fun j hj => by
    unfold f_drop
    by_cases hjk : j < k
    · rw [if_neg (by omega), if_neg (by omega), if_pos hjk]
    · rw [if_neg (by omega), if_pos (by omega), if_neg hjk, show 11 + 3 * j + 3 * 1 = 11 + 3 * (j + 1) by omega]
  have e1 := lo 1 (by decide) (by decide)
  have e5 := lo 5 (by decide) (by decide)
  have er : rn (f_drop k 1 g) = rn g := rn_cg (lo 0 (by decide) (by decide))
  refine ⟨by rw [e1]; exact GG_drop hg hk, fun i hi => ?_, fun j hj => ?_, fun j hj => ?_⟩
  · rw [er] at hi
    rw [e1, e5]
    exact (hE i hi).cg (eo i 7) (eo i 16) (eo i 17)
  · rw [ep] at hj
    rw [e1, key j hj]
    split
    · exact hP.1 j (by omega)
    · exact hP.1 (j + 1) (by omega)
  · rw [ep] at hj
    rw [key j (by omega), key (j + 1) (by omega)]
    by_cases a : j + 1 < k
    · rw [if_pos (by omega), if_pos a]; exact hP.2 j (by omega)
    · by_cases b : j < k
      · rw [if_pos b, if_neg a]
        exact Int.le_trans (hP.2 j (by omega)) (hP.2 (j + 1) (by omega))
      · rw [if_neg b, if_neg a]; exact hP.2 (j + 1) (by omega)
theorem ACT_drop {kd did : Int32} {g : Nat → Int32} {k : Nat} (h : JJ g) (hk : k < pn g) : ACT kd did g (f_drop k 1 g) :=
  ACT_same (rn_drop g k 1) (JJ_drop h hk) (drop_lo (by decide) (by decide)) (fun r => ⟨drop_hi h.1.pn20 (by omega), drop_hi h.1.pn20 (by omega), fun _ => drop_hi h.1.pn20 (by omega), fun _ => drop_hi h.1.pn20 (by omega)⟩)
theorem ACT_none {kd did : Int32} {g : Nat → Int32} (h : JJ g) : ACT kd did g g := ACT_same rfl h rfl (fun _ => ⟨rfl, rfl, fun _ => rfl, fun _ => rfl⟩)
theorem GR_w5 {T U : Int} {g : Nat → Int32} {i : Nat} {x : Int32} (h : GR T U g i) (hx : x = 0 ∨ x = 1) : GR T U (pt g i 5 x) i := by
  obtain ⟨⟨a, b, c, d⟩, q⟩ := h
  unfold GR RG
  rw [of_ptS, upd_e, upd_o (by decide), upd_o (by decide), upd_o (by decide)]
  exact ⟨⟨a, b, hx, d⟩, q.up (by omega)⟩
section AC
variable {kd did : Int32} {g : Nat → Int32} {r : Nat} {x : Int32}
theorem AC_prog {t : Nat} (h : JJ g) (ht : t < 48) (hx : x = 0 ∨ (50 ≤ x.toInt ∧ x.toInt ≤ 300)) : ACT kd did g (pt g r (18 + t) x) :=
  ACT_pt h (by omega) (by omega) (by omega) (by omega) (by omega) (by omega) (fun z => absurd z (by omega)) (fun z => absurd z (by omega)) (GG_prog h.1 ht hx)
theorem AC_window (h : JJ g) (hx : x = 0 ∨ x = 1) : ACT kd did g (pt g r 5 x) :=
  ACT_pt h (by decide) (by decide) (by decide) (by decide) (by decide) (by decide) (fun z => absurd z (by decide)) (fun z => absurd z (by decide)) (GG_pt x h.1 (by decide) (fun hi => GR_w5 (h.1.2.2.2.2 r hi) hx))
theorem AC_present (h : JJ g) (hx : x = 0 ∨ x = 1) : ACT kd did g (pt g r 6 x) :=
  ACT_pt h (by decide) (by decide) (by decide) (by decide) (by decide) (by decide) (fun z => absurd z (by decide)) (fun z => absurd z (by decide)) (GG_pt x h.1 (by decide) (fun hi => GR_w6 (h.1.2.2.2.2 r hi) hx))
theorem AC_battery (h : JJ g) (hk : kd = 19) (hx : 0 ≤ x.toInt) : ACT kd did g (pt g r 2 x) :=
  ACT_pt h (by decide) (by decide) (by decide) (by decide) (by decide) (by decide) (fun _ => hk) (fun z => absurd z (by decide)) (GG_pt x h.1 (by decide) (fun hi => GR_w2 (h.1.2.2.2.2 r hi) hx))
theorem AC_turn (h : JJ g) (hk : kd = 20) (hx : 0 ≤ x.toInt ∧ x.toInt ≤ 100) : ACT kd did g (pt g r 1 x) :=
  ACT_pt h (by decide) (by decide) (by decide) (by decide) (by decide) (by decide) (fun z => absurd z (by decide)) (fun _ => hk) (GG_pt x h.1 (by decide) (fun hi => GR_w1 (h.1.2.2.2.2 r hi) hx))
theorem AC_override {y : Int32} (h : JJ g) (hx : 50 ≤ x.toInt ∧ x.toInt ≤ 300) (hy : 0 ≤ y.toInt) : ACT kd did g (pt (pt g r 8 x) r 9 y) := by
  have g8 : GG (g 1).toInt (pt g r 8 x) := GG_pt x h.1 (by decide) (fun hi => GR_w8 (h.1.2.2.2.2 r hi) hx)
  have j8 : JJ (pt g r 8 x) := JJ_pt h (by decide) (by decide) (by decide) (by decide) g8
  have e1 : pt g r 8 x 1 = g 1 := pt_lo g x (by decide)
  have e8 : of (pt g r 8 x) r 8 = x := by rw [of_pt _ _ (by decide) (by decide), if_pos ⟨rfl, rfl⟩]
  have g9 : GG (g 1).toInt (pt (pt g r 8 x) r 9 y) := GG_pt y g8 (by decide) (fun hi => GR_w9 (g8.2.2.2.2 r hi) (by rw [e8]; exact hx) hy)
  have j9 : JJ (pt (pt g r 8 x) r 9 y) := JJ_pt j8 (by decide) (by decide) (by decide) (by decide) (by rw [e1]; exact g9)
  refine ACT_same ((rn_pt _ r 9 y).trans (rn_pt g r 8 x)) j9 ((pt_lo _ y (by decide)).trans e1) (fun q => ⟨?_, ?_, fun _ => ?_, fun _ => ?_⟩)
  · rw [pt_ne _ y (by decide) (by decide) (by decide), pt_ne _ x (by decide) (by decide) (by decide)]
  · rw [pt_ne _ y (by decide) (by decide) (by decide), pt_ne _ x (by decide) (by decide) (by decide)]
  · rw [pt_ne _ y (by decide) (by decide) (by decide), pt_ne _ x (by decide) (by decide) (by decide)]
  · rw [pt_ne _ y (by decide) (by decide) (by decide), pt_ne _ x (by decide) (by decide) (by decide)]
theorem AC_outside (h : JJ g) (hx : -300 ≤ x.toInt ∧ x.toInt ≤ 400) : ACT kd did g (upd g 2 x) :=
  ACT_upd h (Or.inl rfl) (GG_upd x h.1 (by decide) (by decide) (by decide) (by decide) (GH_2 h.1.2.1 hx))
theorem AC_control {a b d : Int32} (h : JJ g) (ha : 0 ≤ a.toInt ∧ a.toInt ≤ 50) (hb : 1 ≤ b.toInt ∧ b.toInt ≤ 50) (hd : 1 ≤ d.toInt ∧ d.toInt ≤ 100) : ACT kd did g (upd (upd (upd g 7 a) 8 b) 9 d) := by
  have ga : GG (g 1).toInt (upd g 7 a) := GG_upd a h.1 (by decide) (by decide) (by decide) (by decide) (GH_7 h.1.2.1 ha)
  have ja : JJ (upd g 7 a) := JJ_upd h (by decide) ga
  have ea : upd g 7 a 1 = g 1 := upd_o (by decide)
  have gb : GG (g 1).toInt (upd (upd g 7 a) 8 b) := GG_upd b ga (by decide) (by decide) (by decide) (by decide) (GH_8 ga.2.1 hb)
  have jb : JJ (upd (upd g 7 a) 8 b) := JJ_upd ja (by decide) (by rw [ea]; exact gb)
  have eb : upd (upd g 7 a) 8 b 1 = g 1 := (upd_o (by decide)).trans ea
  have gd : GG (g 1).toInt (upd (upd (upd g 7 a) 8 b) 9 d) := GG_upd d gb (by decide) (by decide) (by decide) (by decide) (GH_9 gb.2.1 hd)
  have jd : JJ (upd (upd (upd g 7 a) 8 b) 9 d) := JJ_upd jb (by decide) (by rw [eb]; exact gd)
  have eo : ∀ i w, of (upd (upd (upd g 7 a) 8 b) 9 d) i w = of g i w := fun i w => (upd_o (by omega)).trans ((upd_o (by omega)).trans (upd_o (by omega)))
  exact ACT_same ((rn_upd _ d (by decide)).trans ((rn_upd _ b (by decide)).trans (rn_upd g a (by decide)))) jd ((upd_o (by decide)).trans eb) (fun q => ⟨eo q 12, eo q 10, fun _ => eo q 2, fun _ => eo q 1⟩)
end AC
