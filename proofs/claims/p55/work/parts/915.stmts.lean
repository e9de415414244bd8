/-! THE TEXT'S STATEMENTS, READ ONE BY ONE. -/
theorem pb_in {α β : Type} (a : α) (f : α → PR β) : pb (.inr a) f = f a := rfl
theorem kw_hn {i k : Nat} (hi : i < 18) (hk : ¬ k = 1) (r : List Int32) : HN k (kw i ++ r) := by
  obtain ⟨h1, h2⟩ := kw_ok i hi
  cases h : kw i with
  | nil => exact absurd h h1
  | cons c w => exact HN.c (fun z => hk (by rw [← z]; exact h2 c (by rw [h]; exact List.mem_cons_self)))
theorem decN_hn (a : Nat) (r : List Int32) : HN 0 (decN a ++ r) := by
  show HN 0 (nI (48 + a / 10 ^ dk 10 a % 10) :: (dd 10 48 a (dk 10 a) ++ r))
  exact HN.c (by rw [(kd_dgt _ (Nat.mod_lt _ (by decide))).1]; decide)
theorem decI_nn {a : Nat} (h : a < 2 ^ 31) : decI (nI a) = decN a := by
  have e := nI_toInt h
  unfold decI
  rw [if_neg (by rw [Int32.lt_iff_toInt_lt, e, Int32.toInt_zero]; omega), e]
  rfl
theorem decI_neg {a : Nat} (h0 : 0 < a) (h : a < 2 ^ 31) : decI (-nI a) = 45 :: decN a := by
  have e := neg_nI h
  unfold decI
  rw [if_pos (by rw [Int32.lt_iff_toInt_lt, e, Int32.toInt_zero]; omega), e, show (-(a : Int)).natAbs = a by omega]
  rfl
/-- options behind a room's temperature: what follows a number; where the next token begins -/
def optX0 (r : List Int32) (X : List (Nat × Nat) → List Int32) : List (Nat × Nat) → List Int32
  | [] => 59 :: r
  | (j, a) :: l => kw j ++ 32 :: (decN a ++ X l)
def optR (r : List Int32) : List (Nat × Nat) → List Int32
  | [] => 59 :: r
  | (j, a) :: l => 32 :: (kw j ++ 32 :: (decN a ++ optR r l))
def optX (r : List Int32) (l : List (Nat × Nat)) : List Int32 := optX0 r (optR r) l
def OL (l : List (Nat × Nat)) : Prop := ∀ q ∈ l, q.1 < 18
theorem optR_spc (r : List Int32) {l : List (Nat × Nat)} (hl : OL l) : ∃ s, optR r l = spc s (optX r l) ∧ HN 0 (optX r l) ∧ (s = false → HN 2 (optX r l)) := by
  cases l with
  | nil => exact ⟨false, rfl, HN.c (by decide), fun _ => HN.c (by decide)⟩
  | cons q l =>
    obtain ⟨j, a⟩ := q
    exact ⟨true, rfl, kw_hn (hl (j, a) List.mem_cons_self) (by decide) _, fun z => by cases z⟩
section TS
variable {b : Nat → Int32} {N : Nat}
theorem opt_num {a p lo hi : Nat} {r : List Int32} {l : List (Nat × Nat)} (hl : OL l) (ha : a ≤ 99999) (h : Suf b N p (decN a ++ optR r l)) (h1 : lo ≤ a) (h2 : a ≤ hi) : pNum b N lo hi p = .inr (a, nx b N p) ∧ Suf b N (nx b N p) (optX r l) := by
  obtain ⟨s, e1, e2, e3⟩ := optR_spc r hl
  rw [e1] at h
  exact pNum_ok s ha h e2 e3 h1 h2
theorem if_yes {i pl lo hi p a : Nat} {r : List Int32} {l : List (Nat × Nat)} (hi18 : i < 18) (hl : OL l) (ha : a ≤ 99999) (h1 : lo ≤ a) (h2 : a ≤ hi) (h : Suf b N p (optX r ((i, a) :: l))) : ∃ q, pNumIf b N i pl lo hi p = .inr (a, q) ∧ Suf b N q (optX r l) := by
  have h' : Suf b N p (kw i ++ spc true (decN a ++ optR r l)) := h
  obtain ⟨w1, w2, -, -⟩ := kw_at true hi18 h' (decN_hn _ _) (fun z => by cases z)
  obtain ⟨n1, n2⟩ := opt_num (lo := lo) (hi := hi) hl ha w2 h1 h2
  refine ⟨_, ?_, n2⟩
  unfold pNumIf pNumA pWord
  rw [if_pos w1, if_pos w1, pb_in, n1]
theorem if_no {i pl lo hi p : Nat} {r : List Int32} {l : List (Nat × Nat)} (hi18 : i < 18) (hl : OL l) (hne : ∀ q ∈ l, ¬ q.1 = i) (h : Suf b N p (optX r l)) : pNumIf b N i pl lo hi p = .inr (pl, p) := by
  have hw : wd b N (kw i) p = false := by
    cases l with
    | nil =>
      obtain ⟨h1, h2⟩ := Suf.hd (l := r) h
      refine wd_sym ?_ _
      unfold tk
      rw [if_pos h1, h2]
      decide
    | cons q l =>
      obtain ⟨j, a⟩ := q
      have h' : Suf b N p (kw j ++ spc true (decN a ++ optR r l)) := h
      obtain ⟨-, -, w3, -⟩ := kw_at true (hl (j, a) List.mem_cons_self) h' (decN_hn _ _) (fun z => by cases z)
      exact w3 i hi18 (fun z => hne (j, a) List.mem_cons_self z.symm)
  unfold pNumIf
  rw [if_neg (by rw [hw]; decide)]
/-- an option that is there or not -/
def OP (i pl lo hi : Nat) (o : List (Nat × Nat)) (x : Nat) : Prop := (o = [] ∧ x = pl) ∨ (o = [(i, x)] ∧ x ≤ 99999 ∧ lo ≤ x ∧ x ≤ hi)
theorem opt_step {i pl lo hi p x : Nat} {r : List Int32} {o l : List (Nat × Nat)} (hi18 : i < 18) (ho : OP i pl lo hi o x) (hl : OL l) (hne : ∀ q ∈ l, ¬ q.1 = i) (h : Suf b N p (optX r (o ++ l))) : ∃ q, pNumIf b N i pl lo hi p = .inr (x, q) ∧ Suf b N q (optX r l) := by
  rcases ho with ⟨rfl, rfl⟩ | ⟨rfl, h1, h2, h3⟩
  · exact ⟨p, if_no hi18 hl hne h, h⟩
  · exact if_yes hi18 hl h1 h2 h3 h
theorem OL_op {i pl lo hi x : Nat} {o : List (Nat × Nat)} (hi18 : i < 18) (ho : OP i pl lo hi o x) : ∀ q ∈ o, q.1 = i := by
  rcases ho with ⟨rfl, -⟩ | ⟨rfl, -⟩
  · exact fun q hq => absurd hq List.not_mem_nil
  · intro q hq
    rw [List.mem_singleton.mp hq]
theorem OL_app {o l : List (Nat × Nat)} {i : Nat} (hi : i < 18) (ho : ∀ q ∈ o, q.1 = i) (hl : OL l) : OL (o ++ l) := fun q hq => by
  rcases List.mem_append.mp hq with h | h
  · rw [ho q h]; exact hi
  · exact hl q h
theorem fit_ok {p t v8 v9 v10 v11 : Nat} {r : List Int32} {o8 o9 o10 o11 : List (Nat × Nat)} (h8 : OP 8 10 1 50 o8 v8) (h9 : OP 9 4 0 50 o9 v9) (h10 : OP 10 0 0 100 o10 v10) (h11 : OP 11 1000 0 9999 o11 v11) (ht : t ≤ 400)
    (h : Suf b N p (kw 7 ++ 32 :: (decN t ++ optR r (o8 ++ (o9 ++ (o10 ++ o11)))))) : ∃ q, pFit b N p = .inr ((t, v8, v9, v10, v11), q) ∧ Suf b N q (59 :: r) := by
  have k8 := OL_op (by decide) h8
  have k9 := OL_op (by decide) h9
  have k10 := OL_op (by decide) h10
  have k11 := OL_op (by decide) h11
  have l11 : OL o11 := fun q hq => by rw [k11 q hq]; decide
  have l10 := OL_app (by decide) k10 l11
  have l9 := OL_app (by decide) k9 l10
  have l8 := OL_app (by decide) k8 l9
  have h' : Suf b N p (kw 7 ++ spc true (decN t ++ optR r (o8 ++ (o9 ++ (o10 ++ o11))))) := h
  obtain ⟨w1, w2, -, -⟩ := kw_at true (by decide) h' (decN_hn _ _) (fun z => by cases z)
  obtain ⟨n1, n2⟩ := opt_num (lo := 0) (hi := 400) l8 (by omega) w2 (Nat.zero_le _) ht
  obtain ⟨q8, a8, s8⟩ := opt_step (by decide) h8 l9 (fun q hq => by
    rcases List.mem_append.mp hq with z | z
    · rw [k9 q z]; decide
    · rcases List.mem_append.mp z with z | z
      · rw [k10 q z]; decide
      · rw [k11 q z]; decide) n2
  obtain ⟨q9, a9, s9⟩ := opt_step (by decide) h9 l10 (fun q hq => by
    rcases List.mem_append.mp hq with z | z
    · rw [k10 q z]; decide
    · rw [k11 q z]; decide) s8
  obtain ⟨q10, a10, s10⟩ := opt_step (by decide) h10 l11 (fun q hq => by rw [k11 q hq]; decide) s9
  obtain ⟨q11, a11, s11⟩ := opt_step (l := []) (by decide) h11 (fun q hq => absurd hq List.not_mem_nil) (fun q hq => absurd hq List.not_mem_nil) (by rw [List.append_nil]; exact s10)
  refine ⟨q11, ?_, s11⟩
  unfold pFit pNumA pWord
  rw [if_pos w1, pb_in, n1, pb_in]
  dsimp only
  rw [a8, pb_in]
  dsimp only
  rw [a9, pb_in]
  dsimp only
  rw [a10, pb_in]
  dsimp only
  rw [a11, pb_in]
end TS
/-- the first -/
theorem fst_no {P : Nat → Prop} {_ : DecidablePred P} : ∀ r k, (∀ i, k ≤ i → i < k + r → ¬ P i) → fst P r k = -1
  | 0, _, _ => rfl
  | r + 1, k, h => by
    have e : fst P (r + 1) k = fst P r (k + 1) := if_neg (h k (Nat.le_refl _) (by omega))
    rw [e]
    exact fst_no r (k + 1) (fun i h1 h2 => h i (by omega) (by omega))
theorem fst_yes {P : Nat → Prop} {_ : DecidablePred P} {j : Nat} : ∀ r k, k ≤ j → j < k + r → P j → (∀ i, k ≤ i → i < j → ¬ P i) → fst P r k = nI j
  | 0, k, h1, h2, _, _ => absurd h2 (by omega)
  | r + 1, k, h1, h2, hP, h => by
    by_cases hk : k = j
    · subst hk
      exact if_pos hP
    · have e : fst P (r + 1) k = fst P r (k + 1) := if_neg (h k (Nat.le_refl _) (by omega))
      rw [e]
      exact fst_yes r (k + 1) (by omega) (by omega) hP (fun i a c => h i (by omega) c)
/-- what is known of the draft -/
def IV (g : Nat → Int32) (c pl : Nat) : Prop := (g 0 = nI c ∧ c ≤ 3) ∧ g 1 = 0 ∧ (g 3 = nI pl ∧ pl ≤ 2) ∧ (∀ i, i < c → of g i 11 = NMV i) ∧ (∀ i, of g i 7 = 0 ∧ of g i 16 = 0 ∧ of g i 17 = 0) ∧ PLS g
theorem IV.rnE {g : Nat → Int32} {c pl : Nat} (h : IV g c pl) : rn g = c := by
  have := h.1.2
  unfold rn
  rw [h.1.1, nI_toInt (by omega)]
  rfl
theorem IV.pnE {g : Nat → Int32} {c pl : Nat} (h : IV g c pl) : pn g = pl := by
  have := h.2.2.1.2
  unfold pn
  rw [h.2.2.1.1, nI_toInt (by omega)]
  rfl
theorem rnm_new {g : Nat → Int32} {c pl : Nat} (h : IV g c pl) (hc : c < 3) : rnm g (NMV c) = -1 := by
  unfold rnm
  rw [h.rnE]
  refine fst_no c 0 (fun i _ hi z => ?_)
  have e := z.2
  rw [h.2.2.2.1 i (by omega)] at e
  have := (NMV_pos c hc).2 i (by omega) e
  omega
theorem rnm_old {g : Nat → Int32} {c pl k : Nat} (h : IV g c pl) (hk : k < c) : rnm g (NMV k) = nI k := by
  have hc := h.1.2
  unfold rnm
  rw [h.rnE]
  refine fst_yes c 0 (Nat.zero_le _) (by omega) ⟨(NMV_pos k (by omega)).1, h.2.2.2.1 k hk⟩ (fun i _ hi z => ?_)
  have e := z.2
  rw [h.2.2.2.1 i (by omega)] at e
  have := (NMV_pos k (by omega)).2 i (by omega) e
  omega
theorem plain_0 {j : Nat} (hj : 11 ≤ j) : plain j = 0 := by
  unfold plain
  rw [if_neg (by omega), if_neg (by omega), if_neg (by omega), if_neg (by omega), if_neg (by omega), if_neg (by omega), if_neg (by omega), if_neg (by omega)]
theorem IV_plain : IV plain 0 0 := by
  have eo : ∀ i w, of plain i w = 0 := fun i w => plain_0 (by omega)
  have ep : pn plain = 0 := rfl
  refine ⟨⟨rfl, by decide⟩, rfl, ⟨rfl, by decide⟩, fun i hi => absurd hi (Nat.not_lt_zero _), fun i => ⟨eo i 7, eo i 16, eo i 17⟩, fun k hk => ?_, fun k hk => ?_⟩
  · rw [ep] at hk; exact absurd hk (Nat.not_lt_zero _)
  · rw [ep] at hk; exact absurd hk (Nat.not_lt_zero _)
theorem PLS.cg {g g' : Nat → Int32} (h : PLS g) (hp : pn g ≤ 20) (e : ∀ k, k < 71 → ¬ k = 0 → (k = 1 ∨ k = 3 ∨ 11 ≤ k) → g' k = g k) : PLS g' := by
  have e1 := e 1 (by decide) (by decide) (by decide)
  have ep : pn g' = pn g := pn_cg (e 3 (by decide) (by decide) (by decide))
  refine ⟨fun k hk => ?_, fun k hk => ?_⟩
  · rw [ep] at hk
    rw [e1, e _ (by omega) (by omega) (by omega)]
    exact h.1 k hk
  · rw [ep] at hk
    rw [e _ (by omega) (by omega) (by omega), e _ (by omega) (by omega) (by omega)]
    exact h.2 k hk
theorem IV_upd {g : Nat → Int32} {c pl j : Nat} (x : Int32) (h : IV g c pl) (h0 : ¬ j = 0) (h1 : ¬ j = 1) (h3 : ¬ j = 3) (h11 : j < 11) : IV (upd g j x) c pl := by
  have hp := h.pnE
  have hp2 := h.2.2.1.2
  have eo : ∀ i w, of (upd g j x) i w = of g i w := fun i w => upd_o (by omega)
  obtain ⟨a1, a2, a3, a4, a5, a6⟩ := h
  exact ⟨⟨(upd_o (by omega)).trans a1.1, a1.2⟩, (upd_o (by omega)).trans a2, ⟨(upd_o (by omega)).trans a3.1, a3.2⟩, fun i hi => (eo i 11).trans (a4 i hi), fun i => ⟨(eo i 7).trans (a5 i).1, (eo i 16).trans (a5 i).2.1, (eo i 17).trans (a5 i).2.2⟩, a6.cg (by omega) (fun k _ _ _ => upd_o (by omega))⟩
theorem addR_klo (g : Nat → Int32) (x t pw ls v bt : Int32) {k : Nat} (hk : k < 71) : addR g x t pw ls v bt k = if k = 0 then g 0 + 1 else g k := by
  unfold addR
  rw [pt_lo _ _ hk, pt_lo _ _ hk, pt_lo _ _ hk, pt_lo _ _ hk, pt_lo _ _ hk, pt_lo _ _ hk, pt_lo _ _ hk]
  rfl
theorem addR_kof (g : Nat → Int32) (x t pw ls v bt : Int32) (i : Nat) {w : Nat} (hw : w < 66) (h : ¬ w = 11 ∧ ¬ w = 0 ∧ ¬ w = 3 ∧ ¬ w = 4 ∧ ¬ w = 1 ∧ ¬ w = 2 ∧ ¬ w = 6) : of (addR g x t pw ls v bt) i w = of g i w := by
  unfold addR
  rw [pt_ne _ _ (by decide) hw h.2.2.2.2.2.2, pt_ne _ _ (by decide) hw h.2.2.2.2.2.1, pt_ne _ _ (by decide) hw h.2.2.2.2.1, pt_ne _ _ (by decide) hw h.2.2.2.1, pt_ne _ _ (by decide) hw h.2.2.1, pt_ne _ _ (by decide) hw h.2.1, pt_ne _ _ (by decide) hw h.1]
  exact upd_o (by omega)
theorem addR_k11 (g : Nat → Int32) (x t pw ls v bt : Int32) (i : Nat) : of (addR g x t pw ls v bt) i 11 = if i = rn g then x else of g i 11 := by
  unfold addR
  rw [pt_ne _ _ (by decide) (by decide) (by decide), pt_ne _ _ (by decide) (by decide) (by decide), pt_ne _ _ (by decide) (by decide) (by decide), pt_ne _ _ (by decide) (by decide) (by decide), pt_ne _ _ (by decide) (by decide) (by decide), pt_ne _ _ (by decide) (by decide) (by decide), of_pt _ _ (by decide) (by decide)]
  by_cases h : i = rn g
  · rw [if_pos ⟨h, rfl⟩, if_pos h]
  · rw [if_neg (fun z => h z.1), if_neg h]
    exact upd_o (by omega)
theorem IV_addR {g : Nat → Int32} {c pl : Nat} (h : IV g c pl) (hc : c < 3) (t pw ls v bt : Int32) : IV (addR g (NMV c) t pw ls v bt) (c + 1) pl := by
  have hr := h.rnE
  have hp := h.pnE
  have hp2 := h.2.2.1.2
  have eo := addR_kof g (NMV c) t pw ls v bt
  obtain ⟨a1, a2, a3, a4, a5, a6⟩ := h
  refine ⟨⟨?_, by omega⟩, ?_, ⟨?_, a3.2⟩, fun i hi => ?_, fun i => ⟨(eo i (by decide) (by decide)).trans (a5 i).1, (eo i (by decide) (by decide)).trans (a5 i).2.1, (eo i (by decide) (by decide)).trans (a5 i).2.2⟩, a6.cg (by omega) (fun k hk h0 _ => by rw [addR_klo _ _ _ _ _ _ _ hk, if_neg h0])⟩
  · rw [addR_klo _ _ _ _ _ _ _ (by decide), if_pos rfl, a1.1]
    exact nI_1 _
  · rw [addR_klo _ _ _ _ _ _ _ (by decide)]
    exact a2
  · rw [addR_klo _ _ _ _ _ _ _ (by decide)]
    exact a3.1
  · rw [addR_k11, hr]
    by_cases hic : i = c
    · rw [if_pos hic, hic]
    · rw [if_neg hic]
      exact a4 i (by omega)
theorem IV_prog {g : Nat → Int32} {c pl t : Nat} (x : Int32) (h : IV g c pl) (ht : t < 48) : IV (pt g 0 (18 + t) x) c pl := by
  have hp := h.pnE
  have hp2 := h.2.2.1.2
  obtain ⟨a1, a2, a3, a4, a5, a6⟩ := h
  refine ⟨⟨(pt_lo g x (by decide)).trans a1.1, a1.2⟩, (pt_lo g x (by decide)).trans a2, ⟨(pt_lo g x (by decide)).trans a3.1, a3.2⟩, fun i hi => ?_, fun i => ⟨?_, ?_, ?_⟩, a6.cg (by omega) (fun k hk _ _ => pt_lo g x hk)⟩
  · rw [pt_ne _ _ (by omega) (by decide) (by omega)]; exact a4 i hi
  · rw [pt_ne _ _ (by omega) (by decide) (by omega)]; exact (a5 i).1
  · rw [pt_ne _ _ (by omega) (by decide) (by omega)]; exact (a5 i).2.1
  · rw [pt_ne _ _ (by omega) (by decide) (by omega)]; exact (a5 i).2.2
theorem IV_plan {g : Nat → Int32} {c pl : Nat} (h : IV g c pl) (hpl : pl < 2) {t : Int32} (ht : 0 < t.toInt) (r kk : Int32) : IV (f_plan t r kk g) c (pl + 1) ∧ (∀ k, k < 11 → ¬ k = 3 → f_plan t r kk g k = g k) := by
  have hp := h.pnE
  obtain ⟨a1, a2, a3, a4, a5, a6⟩ := h
  have e1 : (g 1).toInt = 0 := by rw [a2]; rfl
  obtain ⟨p1, p2, p3, p4⟩ := PLS_plan (t := t) (r := r) (kk := kk) (g := g) (by omega) (by rw [hp]; exact a3.1) a6 (by rw [e1]; exact ht)
  refine ⟨⟨⟨(p3 0 (by decide) (by decide)).trans a1.1, a1.2⟩, (p3 1 (by decide) (by decide)).trans a2, ⟨?_, by omega⟩, fun i hi => (p4 i 11).trans (a4 i hi), fun i => ⟨(p4 i 7).trans (a5 i).1, (p4 i 16).trans (a5 i).2.1, (p4 i 17).trans (a5 i).2.2⟩, p1⟩, p3⟩
  show g 3 + 1 = _
  rw [a3.1]
  exact nI_1 _
