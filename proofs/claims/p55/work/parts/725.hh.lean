/-! A whole House against the reference's row: header, plans, each room by a row of its own that goes with the whole one where P says so. -/
def HPl (S : SS) (a : Nat) (g : Nat → Int32) : Prop := ∀ k, k < pn g → S.1 (a + 2) k = g (11 + 3 * k) ∧ S.1 (a + 3) k = g (11 + 3 * k + 1) ∧ S.1 (a + 4) k = g (11 + 3 * k + 2)
def HH (S : SS) (a : Nat) (g : Nat → Int32) (P : Nat → Prop) : Prop := (isH a ∧ rn g ≤ 6 ∧ pn g ≤ 20) ∧ HDn S a g ∧ HPl S a g ∧ ∀ i, i < rn g → ∃ γ, (∀ k, k < 71 → γ k = g k) ∧ RR S (a + 5 + 3 * i) γ i ∧ (P i → rst i γ = rst i g)
def FRh (a : Nat) (S0 S : SS) : Prop := S.2 = S0.2 ∧ ∀ k, (k < a ∨ a + 23 ≤ k) → S.1 k = S0.1 k
theorem FRh.rf {a : Nat} {S : SS} : FRh a S S := ⟨rfl, fun _ _ => rfl⟩
theorem FRh.tr {a : Nat} {S0 S1 S2 : SS} (h1 : FRh a S0 S1) (h2 : FRh a S1 S2) : FRh a S0 S2 := ⟨h2.1.trans h1.1, fun k hk => (h2.2 k hk).trans (h1.2 k hk)⟩
theorem FRh.ss {a : Nat} {S0 S : SS} (h : FRh a S0 S) {c : Nat} (hc : a ≤ c ∧ c < a + 23) (j : Nat) (x : Int32) : FRh a S0 (ss S c j x) :=
  ⟨h.1, fun k hk => (if_neg (by omega)).trans (h.2 k hk)⟩
theorem FRr.h {a r : Nat} {S0 S : SS} (h : FRr r S0 S) (hr : a ≤ r ∧ r + 1 < a + 23) : FRh a S0 S := ⟨h.1, fun k hk => h.2.1 k (by omega) (by omega)⟩
theorem RR.fr {S S' : SS} {r i : Nat} {g : Nat → Int32} (h : RR S r g i) (h0 : S'.1 r = S.1 r) (h1 : S'.1 (r + 1) = S.1 (r + 1)) (h2 : S'.1 (r + 2) = S.1 (r + 2)) : RR S' r g i := by
  refine ⟨fun w hw => by rw [h0]; exact h.1 w hw, fun c hc => by rw [h1]; exact h.2.1 c hc, h.2.2.1, by rw [h0]; exact h.2.2.2.1, fun t ht h9 => by rw [h2]; exact h.2.2.2.2 t ht h9⟩
theorem HH.lv {S : SS} {a i : Nat} {g : Nat → Int32} {P : Nat → Prop} (h : HH S a g P) (hi : i < rn g) : ∃ γ, (∀ k, k < 71 → γ k = g k) ∧ (P i → rst i γ = rst i g) ∧ LV S S a (a + 5 + 3 * i) γ i := by
  obtain ⟨γ, e1, e2, e3⟩ := h.2.2.2 i hi
  have h6 := h.1.2.1
  exact ⟨γ, e1, e3, h.1.1, h.1.1.R (by omega), ⟨by omega, by omega⟩, ⟨rfl, fun _ _ _ => rfl, rfl⟩, fun j hj hj2 => (h.2.1 j hj hj2).trans (e1 _ (by have := hm_lt j; omega)).symm, e2⟩
theorem pn_cg {g g' : Nat → Int32} (h : g' 3 = g 3) : pn g' = pn g := by unfold pn; rw [h]
theorem rn_cg {g g' : Nat → Int32} (h : g' 0 = g 0) : rn g' = rn g := by unfold rn; rw [h]
/-- one room went on -/
theorem HH.step {S S' : SS} {a i : Nat} {g g' γ' : Nat → Int32} {P P' : Nat → Prop} (h : HH S a g P) (hg : ∀ k, k < 71 → g' k = g k) (hγ : ∀ k, k < 71 → γ' k = g' k) (hp : P' i → rst i γ' = rst i g') (ho : ∀ j, ¬ j = i → P' j → P j ∧ rst j g' = rst j g) (hl : LV S S' a (a + 5 + 3 * i) γ' i) : HH S' a g' P' := by
  obtain ⟨h1, h2, h3, h4⟩ := h
  obtain ⟨l1, l2, l3, ⟨f1, f2, f3⟩, l4, l5⟩ := hl
  have h20 := h1.2.2
  refine ⟨⟨h1.1, by rw [rn_cg (hg 0 (by decide))]; exact h1.2.1, by rw [pn_cg (hg 3 (by decide))]; exact h20⟩, fun j hj hj2 => (l4 j hj hj2).trans (hγ _ (by have := hm_lt j; omega)), fun k hk => ?_, fun j hj => ?_⟩
  · rw [pn_cg (hg 3 (by decide))] at hk
    rw [f2 (a + 2) (by omega) (by omega), f2 (a + 3) (by omega) (by omega), f2 (a + 4) (by omega) (by omega)]
    rw [hg _ (by omega), hg _ (by omega), hg _ (by omega)]
    exact h3 k hk
  · rw [rn_cg (hg 0 (by decide))] at hj
    by_cases hji : j = i
    · subst hji
      exact ⟨γ', hγ, l5, hp⟩
    · obtain ⟨γ, e1, e2, e3⟩ := h4 j hj
      refine ⟨γ, fun k hk => (e1 k hk).trans (hg k hk).symm, e2.fr (f2 _ (by omega) (by omega)) (f2 _ (by omega) (by omega)) (f2 _ (by omega) (by omega)), fun hpj => ?_⟩
      obtain ⟨o1, o2⟩ := ho j hji hpj
      rw [o2]; exact e3 o1
/-- the header and the plans went on, the rooms not -/
theorem HH.hdr {S S' : SS} {a : Nat} {g g' : Nat → Int32} {P : Nat → Prop} (h : HH S a g P) (hr : ∀ k, a + 5 ≤ k → k < a + 23 → S'.1 k = S.1 k) (hg : ∀ k, 71 ≤ k → g' k = g k) (h0 : g' 0 = g 0) (h20 : pn g' ≤ 20) (hD : HDn S' a g') (hP : HPl S' a g') : HH S' a g' P := by
  obtain ⟨h1, h2, h3, h4⟩ := h
  have h6 := h1.2.1
  refine ⟨⟨h1.1, by rw [rn_cg h0]; exact h6, h20⟩, hD, hP, fun i hi => ?_⟩
  rw [rn_cg h0] at hi
  obtain ⟨γ, e1, e2, e3⟩ := h4 i hi
  have eo : ∀ w, w < 66 → of (fun k => if k < 71 then g' k else γ k) i w = of γ i w := fun w hw => if_neg (by omega)
  have ep : pg (fun k => if k < 71 then g' k else γ k) i = pg γ i := by
    funext t
    unfold pg
    by_cases ht : t < 48
    · rw [if_pos ht, if_pos ht, eo _ (by omega)]
    · rw [if_neg ht, if_neg ht]
  have e4 : RR S' (a + 5 + 3 * i) γ i := e2.fr (hr _ (by omega) (by omega)) (hr _ (by omega) (by omega)) (hr _ (by omega) (by omega))
  refine ⟨fun k => if k < 71 then g' k else γ k, fun k hk => if_pos hk, ⟨fun w hw => (e4.1 w hw).trans (eo w (by omega)).symm, fun c hc => (e4.2.1 c hc).trans (eo _ (by omega)).symm, by rw [ep]; exact e4.2.2⟩, fun hp => ?_⟩
  have e5 := e3 hp
  funext j
  unfold rst
  by_cases hj : j < 71 ∨ (71 + 66 * i ≤ j ∧ j < 71 + 66 * i + 66)
  · rw [if_pos hj, if_pos hj]
    show (if j < 71 then g' j else γ j) = g' j
    by_cases hj2 : j < 71
    · rw [if_pos hj2]
    · rw [if_neg hj2, hg j (by omega)]
      have e6 := congrFun e5 j
      unfold rst at e6
      rw [if_pos hj, if_pos hj] at e6
      exact e6
  · rw [if_neg hj, if_neg hj]
/-- one number of the header -/
theorem HH.h1 {S : SS} {a : Nat} {g : Nat → Int32} {P : Nat → Prop} (h : HH S a g P) {j : Nat} (hj : j < 9) (x : Int32) : HH (ss S a j x) a (upd g (hm j) x) P := by
  have q : ∀ j, j < 9 → ¬ hm j = 0 ∧ ¬ hm j = 3 := by decide
  have q2 : ∀ j', j' < 12 → ¬ j' = 10 → ∀ j, j < 9 → (hm j' = hm j ↔ j' = j) := by decide
  obtain ⟨q0, q3⟩ := q j hj
  have hl := hm_lt j
  have e3 : upd g (hm j) x 3 = g 3 := if_neg (fun z => q3 z.symm)
  refine h.hdr (fun k k1 k2 => if_neg (by omega)) (fun k hk => if_neg (by omega)) (if_neg (fun z => q0 z.symm)) (by rw [pn_cg e3]; exact h.1.2.2) (fun j' hj' hj2 => ?_) (fun k hk => ?_)
  · rw [ss_1]
    show _ = if hm j' = hm j then x else g (hm j')
    by_cases he : j' = j
    · rw [if_pos ⟨rfl, he⟩, if_pos ((q2 j' hj' hj2 j hj).mpr he)]
    · rw [if_neg (fun z => he z.2), if_neg (fun z => he ((q2 j' hj' hj2 j hj).mp z))]
      exact h.2.1 j' hj' hj2
  · rw [pn_cg e3] at hk
    have := h.2.2.1 k hk
    rw [show (ss S a j x).1 (a + 2) = S.1 (a + 2) from if_neg (by omega), show (ss S a j x).1 (a + 3) = S.1 (a + 3) from if_neg (by omega), show (ss S a j x).1 (a + 4) = S.1 (a + 4) from if_neg (by omega)]
    show _ = (if 11 + 3 * k = hm j then x else _) ∧ _ = (if 11 + 3 * k + 1 = hm j then x else _) ∧ _ = (if 11 + 3 * k + 2 = hm j then x else _)
    rw [if_neg (by omega), if_neg (by omega), if_neg (by omega)]
    exact this
theorem HH.n {S : SS} {a : Nat} {g : Nat → Int32} {P : Nat → Prop} (h : HH S a g P) {j : Nat} (hj : j < 12) (hj2 : ¬ j = 10) : S.1 a j = g (hm j) := h.2.1 j hj hj2
theorem HH.H {S : SS} {a : Nat} {g : Nat → Int32} {P : Nat → Prop} (h : HH S a g P) : isH a := h.1.1
section HR
variable {own : String} {cc : ByteArray} {nL : Nat} {hh : List (Nat × Nat × Nat × Nat)} {R : Room} {Q : ab_Q} {k z pc : Nat} {ls : List (Option Value)} {st : List Value} {n : Nat} {S : SS} {a i : Nat}
theorem L_room {x : Int32} (h : isH a) (hn : 269 ≤ n) (hx : x.toInt = (i : Int)) (hi : i < 6) (d : decode cc pc = .ok (.aaload, 1)) (K : WA own cc nL hh R Q k z (pc + 1) ls (.ref (a + 5 + 3 * i) :: st) n (Hp S)) : WA own cc nL hh R Q k z pc ls (.int x :: .ref (a + 1) :: st) n (Hp S) :=
  wa_aaldR d (Or.inl (lt_pl h hn)) (h.rooms _ _ _) hx hi (if_pos hi) K
theorem H_hd {index : Nat} {g : Nat → Int32} {P : Nat → Prop} (h : HH S a g P) (hn : 269 ≤ n) (j : Nat) (d : decode cc pc = .ok (.getfield index, 3)) (fl : Cond.fieldLink own index (TX1 j).1 (TX1 j).2.1 (TX1 j).2.2.1 ∈ ab_big) (hj : j < 12) (hj2 : ¬ j = 10) (hv : ∀ f w Rr, (ly_HO a f w Rr)[j]? = some (.int (f j)))
    (K : WA own cc nL hh R Q k z (pc + 3) ls (.int (g (hm j)) :: st) n (Hp S)) : WA own cc nL hh R Q k z pc ls (.ref a :: st) n (Hp S) := by
  refine g_HO h.H hn j d fl (by omega) (hv _ _ _) ?_
  rw [h.n hj hj2]
  exact K
end HR
/-- the three rows of plans, each changed alike -/
def sh3 (S : SS) (a : Nat) (F : (Nat → Int32) → Nat → Int32) : SS := su (su (su S (a + 2) (F (S.1 (a + 2)))) (a + 3) (F (S.1 (a + 3)))) (a + 4) (F (S.1 (a + 4)))
theorem sh3_1 (S : SS) (a : Nat) (F : (Nat → Int32) → Nat → Int32) (k : Nat) : (sh3 S a F).1 k = if k = a + 4 then F (S.1 (a + 4)) else if k = a + 3 then F (S.1 (a + 3)) else if k = a + 2 then F (S.1 (a + 2)) else S.1 k := rfl
theorem sh3_n (S : SS) {a k : Nat} (F : (Nat → Int32) → Nat → Int32) (h2 : ¬ k = a + 2) (h3 : ¬ k = a + 3) (h4 : ¬ k = a + 4) : (sh3 S a F).1 k = S.1 k := by rw [sh3_1, if_neg h4, if_neg h3, if_neg h2]
theorem sh3_p (S : SS) (a : Nat) (F : (Nat → Int32) → Nat → Int32) {o : Nat} (h2 : 2 ≤ o) (h4 : o ≤ 4) : (sh3 S a F).1 (a + o) = F (S.1 (a + o)) := by
  rw [sh3_1]
  have : o = 2 ∨ o = 3 ∨ o = 4 := by omega
  rcases this with rfl | rfl | rfl
  · rw [if_neg (by omega), if_neg (by omega), if_pos rfl]
  · rw [if_neg (by omega), if_pos rfl]
  · rw [if_pos rfl]
/-- one plan moved -/
def mvp (S : SS) (a fr to : Nat) : SS := sh3 S a (fun x => upd x to (x fr))
theorem mvp_e (S : SS) (a fr to : Nat) : ss (ss (ss S (a + 2) to (S.1 (a + 2) fr)) (a + 3) to (S.1 (a + 3) fr)) (a + 4) to (S.1 (a + 4) fr) = mvp S a fr to := by
  unfold mvp sh3 ss
  rw [su_n (su S (a + 2) _) _ (show ¬ a + 4 = a + 3 by omega), su_n S _ (show ¬ a + 4 = a + 2 by omega), su_n S _ (show ¬ a + 3 = a + 2 by omega)]
/-- plans from f on moved m down, up to the e-th -/
def shf (f m e : Nat) (x : Nat → Int32) : Nat → Int32 := fun k => if f ≤ k ∧ k + m < e then x (k + m) else x k
theorem shf_0 (f m : Nat) (x : Nat → Int32) : shf f m (f + m) x = x := by
  funext k
  exact if_neg (by omega)
theorem shf_s {f m e : Nat} (h : f + m ≤ e) (x : Nat → Int32) : upd (shf f m e x) (e - m) (shf f m e x e) = shf f m (e + 1) x := by
  funext k
  unfold upd shf
  by_cases hk : k = e - m
  · rw [if_pos hk, if_neg (by omega)]
    by_cases hm : m = 0
    · subst hm
      rw [if_pos (by omega), hk]; rfl
    · rw [if_pos (by omega), show k + m = e by omega]
  · rw [if_neg hk]
    by_cases h1 : f ≤ k ∧ k + m < e
    · rw [if_pos h1, if_pos (by omega)]
    · rw [if_neg h1, if_neg (by omega)]
theorem sh3_sh3 (S : SS) (a : Nat) (F G : (Nat → Int32) → Nat → Int32) : sh3 (sh3 S a F) a G = sh3 S a (fun x => G (F x)) := by
  have e2 : (sh3 (sh3 S a F) a G).2 = (sh3 S a (fun x => G (F x))).2 := rfl
  have e1 : (sh3 (sh3 S a F) a G).1 = (sh3 S a (fun x => G (F x))).1 := by
    funext k
    rw [sh3_1, sh3_p S a F (by decide) (by decide), sh3_p S a F (by decide) (by decide), sh3_p S a F (by decide) (by decide), sh3_1, sh3_1]
    by_cases h4 : k = a + 4
    · rw [if_pos h4, if_pos h4]
    · rw [if_neg h4, if_neg h4, if_neg h4]
      by_cases h3 : k = a + 3
      · rw [if_pos h3, if_pos h3]
      · rw [if_neg h3, if_neg h3, if_neg h3]
        by_cases h2 : k = a + 2
        · rw [if_pos h2, if_pos h2]
        · rw [if_neg h2, if_neg h2, if_neg h2]
  exact Prod.ext e1 e2
theorem sh3_id (S : SS) (a : Nat) {F : (Nat → Int32) → Nat → Int32} (h : ∀ x, F x = x) : sh3 S a F = S := by
  refine Prod.ext ?_ rfl
  funext k
  rw [sh3_1, h, h, h]
  by_cases h4 : k = a + 4
  · rw [if_pos h4, h4]
  · rw [if_neg h4]
    by_cases h3 : k = a + 3
    · rw [if_pos h3, h3]
    · rw [if_neg h3]
      by_cases h2 : k = a + 2
      · rw [if_pos h2, h2]
      · rw [if_neg h2]
theorem sh3_cg (S : SS) (a : Nat) {F G : (Nat → Int32) → Nat → Int32} (h : ∀ x, F x = G x) : sh3 S a F = sh3 S a G := by rw [show F = G from funext h]

