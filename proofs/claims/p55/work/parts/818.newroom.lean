/-! A new room in the draft: what is made, what holds of it. -/
/-- cells made later, as f says -/
def sl (S : SS) (f : Nat → va_E) : SS := (S.1, S.2.1, (S.2.2.1, S.2.2.2.1, S.2.2.2.2.1, S.2.2.2.2.2.1, f, S.2.2.2.2.2.2.2))
theorem hp_sl {S : SS} {n : Nat} {e : va_E} (h : 269 ≤ n) (hn : n < ab_CB) : ab_up (Hp S) n e = Hp (sl S (fun k => if k = n then e else ltc S k)) := by
  funext k
  unfold ab_up
  by_cases hk : k = n
  · subst hk
    rw [if_pos rfl, hp_lt _ h hn]
    exact (if_pos rfl).symm
  · rw [if_neg hk]
    unfold Hp ly_mk sl
    dsimp only
    rw [show (if k = n then e else ltc S k) = ltc S k from if_neg hk]
    unfold ly_h ly_VR ly_PA ly_HO ly_RO ly_TO ly_SB ltc
    rfl
theorem RR.cg {S S' : SS} {r i : Nat} {g g' : Nat → Int32} (h : RR S r g i) (e : ∀ w, w < 66 → of g' i w = of g i w) (h0 : S'.1 r = S.1 r) (h1 : S'.1 (r + 1) = S.1 (r + 1)) (h2 : S'.1 (r + 2) = S.1 (r + 2)) : RR S' r g' i := by
  have ep : pg g' i = pg g i := by
    funext t
    unfold pg
    by_cases ht : t < 48
    · rw [if_pos ht, if_pos ht, e _ (by omega)]
    · rw [if_neg ht, if_neg ht]
  obtain ⟨a, c, d⟩ := h
  refine ⟨fun w hw => ?_, fun w hw => ?_, ?_⟩
  · rw [h0, e _ (by omega)]
    exact a w hw
  · rw [h1, e _ (by omega)]
    exact c w hw
  · rw [ep]
    unfold RP
    rw [h0, h2]
    exact d
theorem addR_w {g : Nat → Int32} {x t pw ls v bt : Int32} : of (addR g x t pw ls v bt) (rn g) 0 = t ∧ of (addR g x t pw ls v bt) (rn g) 1 = v ∧ of (addR g x t pw ls v bt) (rn g) 2 = bt ∧ of (addR g x t pw ls v bt) (rn g) 3 = pw ∧ of (addR g x t pw ls v bt) (rn g) 4 = ls ∧ of (addR g x t pw ls v bt) (rn g) 6 = 1 ∧ of (addR g x t pw ls v bt) (rn g) 11 = x := by
  unfold of
  rw [addR_at]
  dsimp only
  refine ⟨?_, ?_, ?_, ?_, ?_, ?_, ?_⟩
  · rw [if_neg (by omega), if_neg (by omega), if_neg (by omega), if_neg (by omega), if_neg (by omega), if_pos (by omega)]
  · rw [if_neg (by omega), if_neg (by omega), if_pos (by omega)]
  · rw [if_neg (by omega), if_pos (by omega)]
  · rw [if_neg (by omega), if_neg (by omega), if_neg (by omega), if_neg (by omega), if_pos (by omega)]
  · rw [if_neg (by omega), if_neg (by omega), if_neg (by omega), if_pos (by omega)]
  · rw [if_pos (by omega)]
  · rw [if_neg (by omega), if_neg (by omega), if_neg (by omega), if_neg (by omega), if_neg (by omega), if_neg (by omega), if_pos (by omega)]
theorem addR_z {g : Nat → Int32} {x t pw ls v bt : Int32} (hz : ZR g) {w : Nat} (hw : w = 5 ∨ (7 ≤ w ∧ ¬ w = 11)) : of (addR g x t pw ls v bt) (rn g) w = 0 := by
  unfold of
  rw [addR_hi (by omega)]
  exact hz _ (by omega)
theorem addR_pg {g : Nat → Int32} {x t pw ls v bt : Int32} (i : Nat) : pg (addR g x t pw ls v bt) i = pg g i := by
  funext s
  unfold pg
  by_cases hs : s < 48
  · rw [if_pos hs, if_pos hs]
    unfold of
    rw [addR_at]
    dsimp only
    rw [if_neg (by omega), if_neg (by omega), if_neg (by omega), if_neg (by omega), if_neg (by omega), if_neg (by omega), if_neg (by omega), if_neg (by omega)]
  · rw [if_neg hs, if_neg hs]
theorem addR_of {g : Nat → Int32} {x t pw ls v bt : Int32} {i w : Nat} (hi : i < rn g) (hw : w < 66) : of (addR g x t pw ls v bt) i w = of g i w := addR_lo (by omega) (by omega)
theorem ZR_addR {g : Nat → Int32} {x t pw ls v bt : Int32} (hz : ZR g) (e0 : g 0 = nI (rn g)) (hr : rn g < 6) : ZR (addR g x t pw ls v bt) := fun j hj => by
  rw [rn_addR e0 hr] at hj
  rw [addR_hi (by omega)]
  exact hz _ (by omega)
theorem GG_addR {g : Nat → Int32} {x t pw ls v bt : Int32} (h : GG 0 g) (hz : ZR g) (hr : rn g < 6) (hx : 0 < x.toInt ∧ x.toInt < 27 ^ 6) (h1 : 0 ≤ t.toInt ∧ t.toInt ≤ 400) (h2 : 1 ≤ pw.toInt ∧ pw.toInt ≤ 50) (h3 : 0 ≤ ls.toInt ∧ ls.toInt ≤ 50) (h4 : 0 ≤ v.toInt ∧ v.toInt ≤ 100) (h5 : 0 ≤ bt.toInt) : GG 0 (addR g x t pw ls v bt) := by
  have er := rn_addR (x := x) (t := t) (pw := pw) (ls := ls) (v := v) (bt := bt) h.e0 hr
  have lo (k : Nat) (hk : k < 71) (h0 : ¬ k = 0) : addR g x t pw ls v bt k = g k := addR_lo (by omega) h0
  have ep : pn (addR g x t pw ls v bt) = pn g := pn_cg (lo 3 (by decide) (by decide))
  have h20 := h.pn20
  refine ⟨⟨by rw [lo 1 (by decide) (by decide)]; exact h.1.1, by rw [addR_0, h.e0, nI_1, nI_toInt (by omega)]; omega, by rw [lo 3 (by decide) (by decide)]; exact h.1.2.2.1, fun k hk => ?_, fun i => by rw [addR_pg]; exact h.PT i⟩, ?_, fun k hk => ?_, fun k hk => ?_, fun i hi => ?_⟩
  · rw [ep] at hk
    rw [lo _ (by omega) (by omega)]
    exact h.1.2.2.2.1 k hk
  · unfold GH
    rw [lo 2 (by decide) (by decide), lo 4 (by decide) (by decide), lo 5 (by decide) (by decide), lo 6 (by decide) (by decide), lo 7 (by decide) (by decide), lo 8 (by decide) (by decide), lo 9 (by decide) (by decide), lo 10 (by decide) (by decide)]
    exact h.2.1
  · rw [ep] at hk
    rw [er, lo _ (by omega) (by omega), lo _ (by omega) (by omega)]
    have := h.2.2.1 k hk
    exact ⟨by omega, this.2⟩
  · rw [ep] at hk
    rw [lo _ (by omega) (by omega)]
    exact h.2.2.2.1 k hk
  · rw [er] at hi
    by_cases e : i = rn g
    · subst e
      obtain ⟨w0, w1, w2, w3, w4, w6, w11⟩ := addR_w (g := g) (x := x) (t := t) (pw := pw) (ls := ls) (v := v) (bt := bt)
      have z0 : (0 : Int32).toInt = 0 := by decide
      refine ⟨?_, ?_⟩
      · unfold RG
        rw [w1, w2, w6, addR_z hz (by decide)]
        exact ⟨h4, h5, Or.inl rfl, Or.inr rfl⟩
      · unfold GRr
        rw [w0, w3, w4, w11, addR_z (w := 9) hz (by decide), addR_z (w := 10) hz (by decide), z0]
        exact ⟨by omega, h2, h3, ⟨by omega, fun z => absurd z (by omega)⟩, by omega, hx⟩
    · exact (h.2.2.2.2 i (by omega)).cg (fun w hw => addR_of (by omega) (by omega))
/-- the names behind a new one -/
def nfU (nf : Nat → Nat → Int32) (r : Nat) (b : Nat → Int32) (p l : Nat) : Nat → Nat → Int32 := fun i => if i = r then (fun j => if j < l then b (p + j) else 0) else nf i
def nlU (nl : Nat → Nat) (r l : Nat) : Nat → Nat := fun i => if i = r then l else nl i
theorem CSg.newRoom {b : Nat → Int32} {N c n : Nat} {S S' : SS} {t told p l : Nat} {δ : Nat → Int32} {nf : Nat → Nat → Int32} {nl : Nat → Nat} {f : Nat → va_E} {tl : List Value} (hn : 269 ≤ n) (hn3 : n + 3 ≤ ab_CB) (h : CS b N c n S t told δ nf nl) (hr : rn δ < 6) (hb : sbr S < n) (hf : ∀ k, k < n → f k = ltc S k) (h1 : f (n + 1) = .inr (6, .ref (n + 2) :: .int 0 :: tl)) (h2 : f (n + 2) = .inl (1, l, .inl (fun j => if j < l then b (p + j) else 0))) (hl : 1 ≤ l ∧ l ≤ 6) (hL : LET b p l) (q : NEWR (sl S f) S' (3 + 5 + 3 * rn δ) (n + 1)) :
    CSg TT b N c (n + 3) (ss S' 3 9 (nI (rn δ + 1))) t told (addR δ (nmo b p l) (S'.1 (3 + 5 + 3 * rn δ) 1) (S'.1 (3 + 5 + 3 * rn δ) 4) (S'.1 (3 + 5 + 3 * rn δ) 5) (S'.1 (3 + 5 + 3 * rn δ) 2) (S'.1 (3 + 5 + 3 * rn δ) 3)) (nfU nf (rn δ) b p l) (nlU nl (rn δ) l) := by
  obtain ⟨q1, q2, q3, q4, q5, q6, q7, q8, q9, q10⟩ := q
  have e0 := h.gg.1.e0
  have er := rn_addR (x := nmo b p l) (t := S'.1 (3 + 5 + 3 * rn δ) 1) (pw := S'.1 (3 + 5 + 3 * rn δ) 4) (ls := S'.1 (3 + 5 + 3 * rn δ) 5) (v := S'.1 (3 + 5 + 3 * rn δ) 2) (bt := S'.1 (3 + 5 + 3 * rn δ) 3) e0 hr
  have hz := h.gg.2
  have h20 := h.gg.1.pn20
  have s1 (k : Nat) (h3 : ¬ k = 3) (hk : ¬ k = 3 + 5 + 3 * rn δ) (hk1 : ¬ k = 3 + 5 + 3 * rn δ + 1) : (ss S' 3 9 (nI (rn δ + 1))).1 k = S.1 k := (ss_o S' _ _ h3).trans (q4 k hk hk1)
  have s3 (j : Nat) (hj : ¬ j = 9) : (ss S' 3 9 (nI (rn δ + 1))).1 3 j = S.1 3 j := (ss_j S' _ hj).trans (congrFun (q4 3 (by omega) (by omega)) j)
  have sq (k : Nat) (h3 : ¬ k = 3) : (ss S' 3 9 (nI (rn δ + 1))).1 k = S'.1 k := ss_o S' _ _ h3
  have hS2 : (ss S' 3 9 (nI (rn δ + 1))).2.2 = (sl S f).2.2 := q1
  have hlt : ltc (ss S' 3 9 (nI (rn δ + 1))) = f := by unfold ltc; rw [hS2]; rfl
  have hsb : sbr (ss S' 3 9 (nI (rn δ + 1))) = sbr S := by unfold sbr; rw [hS2]; rfl
  obtain ⟨w0, w1, w2, w3, w4, w6, w11⟩ := addR_w (g := δ) (x := nmo b p l) (t := S'.1 (3 + 5 + 3 * rn δ) 1) (pw := S'.1 (3 + 5 + 3 * rn δ) 4) (ls := S'.1 (3 + 5 + 3 * rn δ) 5) (v := S'.1 (3 + 5 + 3 * rn δ) 2) (bt := S'.1 (3 + 5 + 3 * rn δ) 3)
  have hLE : LET (fun j => if j < l then b (p + j) else 0) 0 l := fun j hj => by
    dsimp only
    rw [Nat.zero_add, if_pos hj]
    exact hL j hj
  refine ⟨h.1.fr (fun a x y => s1 a (by omega) (by omega) (by omega)) (by rw [hS2]; rfl), ⟨h.tL, by rw [s1 1 (by decide) (by omega) (by omega)]; exact h.a⟩, ⟨h.2.2.1.1, by rw [s1 1 (by decide) (by omega) (by omega)]; exact h.2.2.1.2⟩, by rw [s1 1 (by decide) (by omega) (by omega)]; exact h.2.2.2.1, ?_, trivial, fun i hi => ?_, ?_, by rw [s1 2 (by decide) (by omega) (by omega)]; exact h.bE, h.NL⟩
  · have hh := h.hh
    have lo (k : Nat) (hk : k < 71) (h0 : ¬ k = 0) : addR δ (nmo b p l) (S'.1 (3 + 5 + 3 * rn δ) 1) (S'.1 (3 + 5 + 3 * rn δ) 4) (S'.1 (3 + 5 + 3 * rn δ) 5) (S'.1 (3 + 5 + 3 * rn δ) 2) (S'.1 (3 + 5 + 3 * rn δ) 3) k = δ k := addR_lo (by omega) h0
    have ep := pn_cg (lo 3 (by decide) (by decide))
    refine ⟨⟨isH_draft, by rw [er]; omega, by rw [ep]; exact h20⟩, fun j hj hj2 => ?_, fun k hk => ?_, fun i hi => ?_⟩
    · by_cases e : j = 9
      · subst e
        rw [ss_e]
        show nI (rn δ + 1) = addR δ _ _ _ _ _ _ 0
        rw [addR_0, e0, nI_1]
      · have h9 : ∀ j, j < 12 → ¬ j = 10 → ¬ j = 9 → ¬ hm j = 0 := by decide
        rw [s3 j e, lo (hm j) (by have := hm_lt j; omega) (h9 j hj hj2 e)]
        exact hh.2.1 j hj hj2
    · rw [ep] at hk
      rw [s1 (3 + 2) (by omega) (by omega) (by omega), s1 (3 + 3) (by omega) (by omega) (by omega), s1 (3 + 4) (by omega) (by omega) (by omega), lo _ (by omega) (by omega), lo _ (by omega) (by omega), lo _ (by omega) (by omega)]
      exact hh.2.2.1 k hk
    · rw [er] at hi
      refine ⟨_, fun _ _ => rfl, ?_, fun _ => rfl⟩
      by_cases e : i = rn δ
      · subst e
        refine ⟨fun w hw => ?_, fun c hc => ?_, ?_, ?_, fun s hs h0 => ?_⟩
        · rw [sq _ (by omega)]
          have hw' : w = 0 ∨ w = 1 ∨ w = 2 ∨ w = 3 ∨ w = 4 ∨ w = 5 ∨ w = 6 ∨ 7 ≤ w := by omega
          rcases hw' with rfl | rfl | rfl | rfl | rfl | rfl | rfl | hw'
          · exact w0.symm
          · exact w1.symm
          · exact w2.symm
          · exact w3.symm
          · exact w4.symm
          · rw [addR_z hz (by decide)]
            exact q6
          · exact q7.trans w6.symm
          · rw [addR_z hz (by omega)]
            exact q8 (w + 1) (by omega) (by omega)
        · rw [sq _ (by omega), addR_z hz (by omega)]
          exact q10 c hc
        · rw [addR_pg]
          exact h.gg.1.PT _
        · rw [addR_pg, sq _ (by omega)]
          have : ∀ m, cnt (pg δ (rn δ)) m = 0 := by
            intro m
            induction m with
            | zero => rfl
            | succ m ih =>
              rw [cnt_s0 ?_, ih]
              unfold pg
              by_cases hm2 : m < 48
              · rw [if_pos hm2]
                exact hz _ (by omega)
              · rw [if_neg hm2]
          rw [this 48]
          exact q9
        · refine absurd ?_ h0
          rw [addR_pg]
          unfold pg
          rw [if_pos hs]
          exact hz _ (by omega)
      · exact (hh.lvT (i := i) (by omega)).2.2.2.2.2.cg (fun w hw => addR_of (by omega) hw) (s1 _ (by omega) (by omega) (by omega)) (s1 _ (by omega) (by omega) (by omega)) (s1 _ (by omega) (by omega) (by omega))
  · rw [er] at hi
    by_cases e : i = rn δ
    · subst e
      rw [show nfU nf (rn δ) b p l (rn δ) = _ from if_pos rfl, show nlU nl (rn δ) l (rn δ) = l from if_pos rfl]
      refine ⟨hLE, hl.1, hl.2, w11.trans ?_⟩
      refine (nmo_inj hl.2 hl.2 hL hLE).mpr ⟨rfl, fun j hj => ?_⟩
      rw [Nat.zero_add]
      exact (if_pos hj).symm
    · rw [show nfU nf (rn δ) b p l i = nf i from if_neg e, show nlU nl (rn δ) l i = nl i from if_neg e, addR_of (by omega) (by decide)]
      exact h.nr i (by omega)
  · rw [er]
    refine ⟨hn3, fun i hi => ?_⟩
    rw [hlt, hsb]
    by_cases e : i = rn δ
    · subst e
      rw [show nfU nf (rn δ) b p l (rn δ) = _ from if_pos rfl, show nlU nl (rn δ) l (rn δ) = l from if_pos rfl]
      have hw : (ss S' 3 9 (nI (rn δ + 1))).2.1 (3 + 5 + 3 * rn δ) = n + 1 := q2
      rw [hw]
      exact ⟨⟨hLE, hl⟩, n + 2, tl, by omega, ⟨by omega, by omega, by omega⟩, h1, h2⟩
    · rw [show nfU nf (rn δ) b p l i = nf i from if_neg e, show nlU nl (rn δ) l i = nl i from if_neg e]
      obtain ⟨a1, v, tl2, a2, a3, a4, a5⟩ := h.nx.2 i (by omega)
      have hw : (ss S' 3 9 (nI (rn δ + 1))).2.1 (3 + 5 + 3 * i) = S.2.1 (3 + 5 + 3 * i) := q3 _ (by omega)
      rw [hw]
      exact ⟨a1, v, tl2, by omega, ⟨by omega, by omega, a3.2.2⟩, (hf _ (by omega)).trans a4, (hf _ (by omega)).trans a5⟩

