/-! ValveRoom$Parser: its state; fail, pass, looks at the token that is next. Written by program (wip/whole/gen/m805.py) but for the heads. -/
def sbr (S : SS) : Nat := S.2.2.2.2.2.1
def ltc (S : SS) : Nat → va_E := S.2.2.2.2.2.2.1
theorem hp_lt (S : SS) {k : Nat} (h : 269 ≤ k) (hk : k < ab_CB) : Hp S k = ltc S k := by
  unfold Hp ly_mk
  rw [if_neg (by omega), if_neg (by omega), if_neg (by omega), if_neg (by omega), if_neg (by omega), if_neg (by omega), if_neg (by omega), if_pos hk]
  rfl
/-- names of a House's first c rooms: Strings that were made later, none of their bytes the output's -/
def NMX (n : Nat) (S : SS) (a c : Nat) (nf : Nat → Nat → Int32) (nl : Nat → Nat) : Prop := n ≤ ab_CB ∧ ∀ i, i < c → (LET (nf i) 0 (nl i) ∧ 1 ≤ nl i ∧ nl i ≤ 6) ∧ ∃ v tl, (269 ≤ S.2.1 (a + 5 + 3 * i) ∧ S.2.1 (a + 5 + 3 * i) < n) ∧ (269 ≤ v ∧ v < n ∧ ¬ v = sbr S) ∧ ltc S (S.2.1 (a + 5 + 3 * i)) = .inr (6, .ref v :: .int 0 :: tl) ∧ ltc S v = .inl (1, nl i, .inl (nf i))
theorem NMX.str {n a c : Nat} {S : SS} {nf : Nat → Nat → Int32} {nl : Nat → Nat} (h : NMX n S a c nf nl) {i : Nat} (hi : i < c) : STR n (Hp S) (S.2.1 (a + 5 + 3 * i)) (nl i) (nf i) := by
  obtain ⟨hn, h⟩ := h
  obtain ⟨⟨h1, h2, h3⟩, v, tl, hw, hv, e1, e2⟩ := h i hi
  exact ⟨by omega, 6, 4, v, tl, ⟨cl_ST.1, cl_ST.2.1, by decide⟩, ⟨Or.inl hw.2, (hp_lt S hw.1 (by omega)).trans e1⟩, Or.inl hv.2.1, (hp_lt S hv.1 (by omega)).trans e2⟩
theorem NMX.nms {n a c : Nat} {S : SS} {nf : Nat → Nat → Int32} {nl : Nat → Nat} (h : NMX n S a c nf nl) : NMS n S a c nf nl := fun i hi => by
  refine ⟨h.str hi, fun j hj => ?_⟩
  have := (h.2 i hi).1.1 j hj
  rw [Nat.zero_add] at this
  omega
/-- the same names, seen in another state -/
theorem NMX.fr {n a a' c : Nat} {S S' : SS} {nf : Nat → Nat → Int32} {nl : Nat → Nat} (h : NMX n S a c nf nl) (h1 : ∀ i, i < c → S'.2.1 (a' + 5 + 3 * i) = S.2.1 (a + 5 + 3 * i)) (h2 : sbr S' = sbr S) (h3 : ltc S' = ltc S) : NMX n S' a' c nf nl := by
  refine ⟨h.1, fun i hi => ?_⟩
  rw [h1 i hi, h2, h3]
  exact h.2 i hi
/-- what the parser may write behind its reading -/
def FRps (S0 S : SS) : Prop := S.2.2 = S0.2.2 ∧ (∀ a, ¬ a = 1 → (a < 3 ∨ 26 ≤ a) → S.1 a = S0.1 a) ∧ (∀ a, (a < 3 ∨ 26 ≤ a) → S.2.1 a = S0.2.1 a) ∧ ∀ j, (j < 3 ∨ j = 5 ∨ 8 < j) → S.1 1 j = S0.1 1 j
theorem FRps.rf {S : SS} : FRps S S := ⟨rfl, fun _ _ _ => rfl, fun _ _ => rfl, fun _ _ => rfl⟩
theorem FRps.tr {S0 S1 S2 : SS} (h1 : FRps S0 S1) (h2 : FRps S1 S2) : FRps S0 S2 := ⟨h2.1.trans h1.1, fun a x y => (h2.2.1 a x y).trans (h1.2.1 a x y), fun a x => (h2.2.2.1 a x).trans (h1.2.2.1 a x), fun j x => (h2.2.2.2 j x).trans (h1.2.2.2 j x)⟩
theorem FRps.p {S0 S : SS} (h : FRps S0 S) {j : Nat} (hj : j = 3 ∨ j = 4 ∨ j = 6 ∨ j = 7 ∨ j = 8) (x : Int32) : FRps S0 (ss S 1 j x) :=
  ⟨h.1, fun a x y => (ss_o S _ _ x).trans (h.2.1 a x y), h.2.2.1, fun i hi => (ss_j S _ (by omega)).trans (h.2.2.2 i hi)⟩
theorem FRh.ps {S0 S : SS} (h : FRh 3 S0 S) : FRps S0 S := ⟨by rw [h.1], fun a _ y => h.2 a (by omega), fun a _ => by rw [h.1], fun j _ => by rw [h.2 1 (by omega)]⟩
/-- token t stands next; the draft; what was told -/
def CSg (P : (Nat → Int32) → Prop) (b : Nat → Int32) (N c n : Nat) (S : SS) (t told : Nat) (δ : Nat → Int32) (nf : Nat → Nat → Int32) (nl : Nat → Nat) : Prop :=
  TOK b N S c ∧ (t < c ∧ S.1 1 6 = nI t) ∧ (told < 32 ∧ S.1 1 8 = nI told) ∧ (S.1 1 3 = 0 ∧ S.1 1 4 = -1) ∧ HH S 3 δ (fun _ => True) ∧ P δ ∧ NMR δ nf nl ∧ NMX n S 3 (rn δ) nf nl ∧ S.1 2 = b ∧ N ≤ 500
theorem TOK.fr {b : Nat → Int32} {N c : Nat} {S S' : SS} (h : TOK b N S c) (h1 : ∀ a, 26 ≤ a → a < 31 → S'.1 a = S.1 a) (h2 : S'.2.2.2.2.1 = S.2.2.2.2.1) : TOK b N S' c := by
  obtain ⟨⟨e0, e1, e2, e3, e4⟩, e5⟩ := h
  refine ⟨⟨by rw [h1 26 (by omega) (by omega)]; exact e0, e1, e2, e3, fun t ht => ?_⟩, fun t ht => by rw [h2]; exact e5 t ht⟩
  rw [h1 27 (by omega) (by omega), h1 28 (by omega) (by omega), h1 29 (by omega) (by omega), h1 30 (by omega) (by omega)]
  exact e4 t ht
section CSL
variable {P : (Nat → Int32) → Prop} {b : Nat → Int32} {N c n : Nat} {S S' : SS} {t told : Nat} {δ : Nat → Int32} {nf : Nat → Nat → Int32} {nl : Nat → Nat}
theorem CSg.tok (h : CSg P b N c n S t told δ nf nl) : TOK b N S c := h.1
theorem CSg.tL (h : CSg P b N c n S t told δ nf nl) : t < c := h.2.1.1
theorem CSg.cL (h : CSg P b N c n S t told δ nf nl) : c ≤ 501 := h.1.1.2.1.2
theorem CSg.a (h : CSg P b N c n S t told δ nf nl) : S.1 1 6 = nI t := h.2.1.2
theorem CSg.hh (h : CSg P b N c n S t told δ nf nl) : HH S 3 δ (fun _ => True) := h.2.2.2.2.1
theorem CSg.gg (h : CSg P b N c n S t told δ nf nl) : P δ := h.2.2.2.2.2.1
theorem CSg.nr (h : CSg P b N c n S t told δ nf nl) : NMR δ nf nl := h.2.2.2.2.2.2.1
theorem CSg.nx (h : CSg P b N c n S t told δ nf nl) : NMX n S 3 (rn δ) nf nl := h.2.2.2.2.2.2.2.1
theorem CSg.bE (h : CSg P b N c n S t told δ nf nl) : S.1 2 = b := h.2.2.2.2.2.2.2.2.1
theorem CSg.NL (h : CSg P b N c n S t told δ nf nl) : N ≤ 500 := h.2.2.2.2.2.2.2.2.2
theorem CSg.st (h : CSg P b N c n S t told δ nf nl) : S.1 28 t = nI (pos b N t) := (h.1.1.2.2.2.2 t h.tL).2.1
theorem CSg.kd (h : CSg P b N c n S t told δ nf nl) : S.1 27 t = nI (tkk b N c t) := (h.1.1.2.2.2.2 t h.tL).1
theorem CSg.ln (h : CSg P b N c n S t told δ nf nl) : S.1 29 t = nI (te b N (pos b N t) - pos b N t) := (h.1.1.2.2.2.2 t h.tL).2.2.1
theorem CSg.kw (h : CSg P b N c n S t told δ nf nl) : S.2.2.2.2.1 t = kwf b N (pos b N t) := h.1.2 t h.tL
/-- the token at its end, its kind -/
theorem CSg.end (h : CSg P b N c n S t told δ nf nl) : t + 1 = c ↔ ¬ pos b N t < N := by
  constructor
  · intro e
    have := h.1.1.2.2.1
    rw [show c - 1 = t by omega] at this
    omega
  · intro e
    have ht := h.tL
    exact Classical.byContradiction (fun z => e (h.1.1.2.2.2.1 t (by omega)))
theorem CSg.tkE (h : CSg P b N c n S t told δ nf nl) {k : Nat} (h0 : 0 < k) (h3 : k < 4) : tkk b N c t = k ↔ tk b N (pos b N t) = k := by
  have e := h.end
  unfold tkk tk
  by_cases q : pos b N t < N
  · rw [if_neg (fun z => e.mp z q), if_pos q]
  · rw [if_pos (e.mpr q), if_neg q]
    omega
theorem CSg.fr (h : CSg P b N c n S t told δ nf nl) (h1 : ∀ a, (2 ≤ a ∧ a < 31) → S'.1 a = S.1 a) (h2 : S'.2 = S.2) {t' told' : Nat} (ht : t' < c) (h6 : S'.1 1 6 = nI t') (hd : told' < 32) (h8 : S'.1 1 8 = nI told') (h3 : S'.1 1 3 = S.1 1 3) (h4 : S'.1 1 4 = S.1 1 4) : CSg P b N c n S' t' told' δ nf nl :=
  ⟨h.1.fr (fun a x y => h1 a ⟨by omega, y⟩) (by rw [h2]), ⟨ht, h6⟩, ⟨hd, h8⟩, ⟨h3.trans h.2.2.2.1.1, h4.trans h.2.2.2.1.2⟩, h.hh.of (fun k x y => h1 k ⟨by omega, by omega⟩), h.gg, h.nr, h.nx.fr (fun _ _ => by rw [h2]) (by unfold sbr; rw [h2]) (by unfold ltc; rw [h2]), (h1 2 (by omega)).trans h.bE, h.NL⟩
theorem CSg.go (h : CSg P b N c n S t told δ nf nl) {t' : Nat} (ht : t' < c) : CSg P b N c n (ss S 1 6 (nI t')) t' told δ nf nl :=
  h.fr (fun a x => ss_o S _ _ (by omega)) rfl ht (ss_e _ _ _ _) h.2.2.1.1 ((ss_j S _ (by decide)).trans h.2.2.1.2) (ss_j S _ (by decide)) (ss_j S _ (by decide))
theorem CSg.num (h : CSg P b N c n S t told δ nf nl) (x : Int32) : CSg P b N c n (ss S 1 7 x) t told δ nf nl :=
  h.fr (fun a x => ss_o S _ _ (by omega)) rfl h.tL ((ss_j S _ (by decide)).trans h.a) h.2.2.1.1 ((ss_j S _ (by decide)).trans h.2.2.1.2) (ss_j S _ (by decide)) (ss_j S _ (by decide))
theorem CSg.toldP (h : CSg P b N c n S t told δ nf nl) {m : Nat} (hm : m < 32) : CSg P b N c n (ss S 1 8 (nI m)) t m δ nf nl :=
  h.fr (fun a x => ss_o S _ _ (by omega)) rfl h.tL ((ss_j S _ (by decide)).trans h.a) hm (ss_e _ _ _ _) (ss_j S _ (by decide)) (ss_j S _ (by decide))
/-- the draft goes on -/
theorem CSg.dr (h : CSg P b N c n S t told δ nf nl) (hf : FRh 3 S S') {δ' : Nat → Int32} (h1 : HH S' 3 δ' (fun _ => True)) (h2 : P δ') (h3 : rn δ' = rn δ) (h4 : ∀ i, i < rn δ → of δ' i 11 = of δ i 11) : CSg P b N c n S' t told δ' nf nl := by
  refine ⟨h.1.fr (fun a x y => hf.2 a (by omega)) (by rw [hf.1]), ⟨h.tL, by rw [hf.2 1 (by omega)]; exact h.a⟩, ⟨h.2.2.1.1, by rw [hf.2 1 (by omega)]; exact h.2.2.1.2⟩, by rw [hf.2 1 (by omega)]; exact h.2.2.2.1, h1, h2, fun i hi => ?_, ?_, by rw [hf.2 2 (by omega)]; exact h.bE, h.NL⟩
  · rw [h3] at hi
    rw [h4 i hi]
    exact h.nr i hi
  · rw [h3]
    exact h.nx.fr (fun _ _ => by rw [hf.1]) (by unfold sbr; rw [hf.1]) (by unfold ltc; rw [hf.1])
end CSL
/-- an error told -/
def ERR (e : Nat × Nat) (S : SS) : Prop := S.1 1 3 = nI e.1 ∧ S.1 1 4 = nI e.2
/-- what a taking leaves: false and the error, or true and what was taken -/
def RB {α : Type} (S0 : SS) (x : PR α) (P : α → SS → Prop) (v : Int32) (S' : SS) : Prop := FRps S0 S' ∧ match x with
  | .inl e => v = 0 ∧ ERR e S'
  | .inr a => v = 1 ∧ P a S'
theorem RB.l {α : Type} {S0 S' : SS} {x : PR α} {P : α → SS → Prop} {v : Int32} {e : Nat × Nat} (hx : x = .inl e) (h : RB S0 x P v S') : FRps S0 S' ∧ v = 0 ∧ ERR e S' := by
  subst hx
  exact h
theorem RB.r {α : Type} {S0 S' : SS} {x : PR α} {P : α → SS → Prop} {v : Int32} {a : α} (hx : x = .inr a) (h : RB S0 x P v S') : FRps S0 S' ∧ v = 1 ∧ P a S' := by
  subst hx
  exact h
theorem RB.ofl {α : Type} {S0 S' : SS} {x : PR α} {P : α → SS → Prop} {e : Nat × Nat} (hx : x = .inl e) (h : FRps S0 S') (he : ERR e S') : RB S0 x P 0 S' := by
  subst hx
  exact ⟨h, rfl, he⟩
theorem RB.ofr {α : Type} {S0 S' : SS} {x : PR α} {P : α → SS → Prop} {a : α} (hx : x = .inr a) (h : FRps S0 S') (ha : P a S') : RB S0 x P 1 S' := by
  subst hx
  exact ⟨h, rfl, ha⟩
theorem bool01 : narrow .boolean (.int 0) = .int 0 ∧ narrow .boolean (.int 1) = .int 1 := by decide
theorem px_fail {P : (Nat → Int32) → Prop} {b : Nat → Int32} {N c n : Nat} {S : SS} {t told : Nat} {δ : Nat → Int32} {nf : Nat → Nat → Int32} {nl : Nat → Nat} (hn : 269 ≤ n) (h : CSg P b N c n S t told δ nf nl) (k : Nat) : AM yX3_fail cX3_fail 2 (some .boolean) [] 0 0 0 [.ref 1, .int (nI k)] n (Hp S) (PI 0 n (ss (ss S 1 3 (nI k)) 1 4 (nI (pos b N t)))) := by
  intro has
  change WA RX3 cX3_fail 2 [] _ _ 0 0 0 [some (.ref 1), some (.int (nI k))] [] n _
  have ht := h.tL
  have hc := h.cL
  refine wa_aload_n dX3_fail_0 rfl ?_
  refine wa_iload_n dX3_fail_1 rfl ?_
  refine p_PA hn 3 dX3_fail_2 fl_X3_43 (by decide) rfl rfl rfl rfl (fun _ _ _ => rfl) (Nat.le_of_ble_eq_true rfl) ?_
  refine wa_aload_n dX3_fail_5 rfl ?_
  refine wa_aload_n dX3_fail_6 rfl ?_
  refine g_PA (by assumption) 5 dX3_fail_7 fl_X3_25 (by decide) rfl ?_
  refine g_TO (by assumption) 2 dX3_fail_10 fl_X3_70 (by decide) rfl ?_
  refine wa_aload_n dX3_fail_13 rfl ?_
  refine g_PA hn 6 dX3_fail_14 fl_X3_37 (by decide) (v := .int (nI t)) (congrArg (fun x => some (Value.int x)) ((ss_j S _ (by decide)).trans h.a)) ?_
  refine s_iald (j := t) isA_starts dX3_fail_17 (ltS hn) (ix_nI (by omega)) (by omega) ?_
  rw [show (ss S 1 3 (nI k)).1 28 t = nI (pos b N t) from (congrFun (ss_o S _ _ (by decide)) t).trans h.st]
  refine p_PA hn 4 dX3_fail_18 fl_X3_46 (by decide) rfl rfl rfl rfl (fun _ _ _ => rfl) (Nat.le_of_ble_eq_true rfl) ?_
  refine wa_iconst (x := 0) dX3_fail_21 (by decide) ?_
  exact wa_ireturn dX3_fail_22 ⟨Nat.le_refl _, Nat.le_refl _, ⟨_, rfl, rfl⟩, rfl, rfl, rfl⟩
theorem fail_err (S : SS) (k p : Nat) : ERR (k, p) (ss (ss S 1 3 (nI k)) 1 4 (nI p)) := ⟨(ss_j _ _ (by decide)).trans (ss_e _ _ _ _), ss_e _ _ _ _⟩
theorem fail_fr {S0 S : SS} (h : FRps S0 S) (x y : Int32) : FRps S0 (ss (ss S 1 3 x) 1 4 y) := (h.p (by decide) _).p (by decide) _
theorem nx_end {b : Nat → Int32} {N : Nat} : nx b N N = N := by
  unfold nx
  rw [te_N]
  exact run_e (fun z => Nat.lt_irrefl _ z.1)
theorem px_pass {P : (Nat → Int32) → Prop} {b : Nat → Int32} {N c n : Nat} {S : SS} {t told : Nat} {δ : Nat → Int32} {nf : Nat → Nat → Int32} {nl : Nat → Nat} (hn : 269 ≤ n) (h : CSg P b N c n S t told δ nf nl) : AM yX3_pass cX3_pass 1 none [] 0 0 0 [.ref 1] n (Hp S) (PVe n (fun S' => FRps S S' ∧ ∃ t', (pos b N t' = nx b N (pos b N t) ∧ (t + 1 < c → t' = t + 1)) ∧ CSg P b N c n S' t' told δ nf nl)) := by
  intro has
  change WA RX3 cX3_pass 1 [] _ _ 0 0 0 [some (.ref 1)] [] n _
  have ht := h.tL
  have hc := h.cL
  by_cases ht1 : t + 1 < c
  · skip
    refine wa_aload_n dX3_pass_0 rfl ?_
    refine g_PA hn 6 dX3_pass_1 fl_X3_37 (by decide) (v := .int (nI t)) (congrArg (fun x => some (Value.int x)) h.a) ?_
    refine wa_aload_n dX3_pass_4 rfl ?_
    refine g_PA (by assumption) 5 dX3_pass_5 fl_X3_25 (by decide) rfl ?_
    refine g_TO hn 0 dX3_pass_8 fl_X3_60 (by decide) (v := .int (nI c)) (congrArg (fun x => some (Value.int x)) h.1.1.1) ?_
    refine wa_iconst (x := 1) dX3_pass_11 (by decide) ?_
    refine wa_isub dX3_pass_12 ?_
    rw [show nI c - 1 = nI (c - 1) from nI_sub (b := 1) (by omega)]
    refine wa_icmp_ge 26 dX3_pass_13 rfl (fun c13 => absurd c13 (nI_ge (by omega) (by omega))) (fun c13 => ?_)
    refine wa_aload_n dX3_pass_16 rfl ?_
    refine wa_dup dX3_pass_17 rfl ?_
    refine g_PA hn 6 dX3_pass_18 fl_X3_37 (by decide) (v := .int (nI t)) (congrArg (fun x => some (Value.int x)) h.a) ?_
    refine wa_iconst (x := 1) dX3_pass_21 (by decide) ?_
    refine wa_iadd dX3_pass_22 ?_
    rw [nI_1 t]
    refine p_PA hn 6 dX3_pass_23 fl_X3_37 (by decide) rfl rfl rfl rfl (fun _ _ _ => rfl) (Nat.le_of_ble_eq_true rfl) ?_
    exact wa_return dX3_pass_26 ⟨Nat.le_refl _, Nat.le_refl _, rfl, rfl, rfl, _, rfl, FRps.rf.p (by decide) _, t + 1, ⟨rfl, fun _ => rfl⟩, h.go ht1⟩
  · skip
    refine wa_aload_n dX3_pass_0 rfl ?_
    refine g_PA hn 6 dX3_pass_1 fl_X3_37 (by decide) (v := .int (nI t)) (congrArg (fun x => some (Value.int x)) h.a) ?_
    refine wa_aload_n dX3_pass_4 rfl ?_
    refine g_PA (by assumption) 5 dX3_pass_5 fl_X3_25 (by decide) rfl ?_
    refine g_TO hn 0 dX3_pass_8 fl_X3_60 (by decide) (v := .int (nI c)) (congrArg (fun x => some (Value.int x)) h.1.1.1) ?_
    refine wa_iconst (x := 1) dX3_pass_11 (by decide) ?_
    refine wa_isub dX3_pass_12 ?_
    rw [show nI c - 1 = nI (c - 1) from nI_sub (b := 1) (by omega)]
    refine wa_icmp_ge 26 dX3_pass_13 rfl (fun c13 => ?_) (fun c13 => absurd (nI_le (by omega) (by omega)) c13)
    have e9 : pos b N t = N := by
      have q := h.1.1.2.2.1
      rw [show c - 1 = t by omega] at q
      exact q
    exact wa_return dX3_pass_26 ⟨Nat.le_refl _, Nat.le_refl _, rfl, rfl, rfl, _, rfl, FRps.rf, t, ⟨by rw [e9, nx_end], fun z => absurd z ht1⟩, h⟩
theorem CSg.kl {P : (Nat → Int32) → Prop} {b : Nat → Int32} {N c n : Nat} {S : SS} {t told : Nat} {δ : Nat → Int32} {nf : Nat → Nat → Int32} {nl : Nat → Nat} (_h : CSg P b N c n S t told δ nf nl) : tkk b N c t < 5 := by
  unfold tkk
  split
  · decide
  · have := kd_lt (b (pos b N t)); omega
theorem px_isAtEnd {P : (Nat → Int32) → Prop} {b : Nat → Int32} {N c n : Nat} {S : SS} {t told : Nat} {δ : Nat → Int32} {nf : Nat → Nat → Int32} {nl : Nat → Nat} (hn : 269 ≤ n) (h : CSg P b N c n S t told δ nf nl) : AM yX3_isAtEnd cX3_isAtEnd 1 (some .boolean) [] 0 0 0 [.ref 1] n (Hp S) (PI (b2i (t + 1 = c)) n S) := by
  intro has
  change WA RX3 cX3_isAtEnd 1 [] _ _ 0 0 0 [some (.ref 1)] [] n _
  have ht := h.tL
  have hc := h.cL
  refine wa_aload_n dX3_isAtEnd_0 rfl ?_
  refine g_PA (by assumption) 5 dX3_isAtEnd_1 fl_X3_25 (by decide) rfl ?_
  refine g_TO (by assumption) 1 dX3_isAtEnd_4 fl_X3_74 (by decide) rfl ?_
  refine wa_aload_n dX3_isAtEnd_7 rfl ?_
  refine g_PA hn 6 dX3_isAtEnd_8 fl_X3_37 (by decide) (v := .int (nI t)) (congrArg (fun x => some (Value.int x)) h.a) ?_
  refine s_iald (j := t) isA_kinds dX3_isAtEnd_11 (ltS hn) (ix_nI (by omega)) (by omega) ?_
  rw [h.kd]
  refine wa_iconst (x := 4) dX3_isAtEnd_12 (by decide) ?_
  refine wa_icmp_ne 20 dX3_isAtEnd_13 rfl (fun c13 => ?_) (fun c13 => ?_)
  · refine wa_iconst (x := 0) dX3_isAtEnd_20 (by decide) ?_
    first
    | exact wa_ireturn dX3_isAtEnd_21 ⟨Nat.le_refl _, Nat.le_refl _, ⟨_, rfl, rfl⟩, (ri (by rw [b2i_1 (by
      have q := nI_inj (a := tkk b N c t) (b := 4) (by have := h.kl; omega) (by decide) c13
      unfold tkk at q
      by_cases e : t + 1 = c
      · exact e
      · rw [if_neg e] at q
        have := kd_lt (b (pos b N t))
        omega)])), rfl, rfl⟩
    | exact wa_ireturn dX3_isAtEnd_21 ⟨Nat.le_refl _, Nat.le_refl _, ⟨_, rfl, rfl⟩, (ri (by rw [b2i_0 (fun z => c13 (by unfold tkk; rw [if_pos z]; rfl))])), rfl, rfl⟩
  · refine wa_iconst (x := 1) dX3_isAtEnd_16 (by decide) ?_
    refine wa_goto 21 dX3_isAtEnd_17 rfl ?_
    first
    | exact wa_ireturn dX3_isAtEnd_21 ⟨Nat.le_refl _, Nat.le_refl _, ⟨_, rfl, rfl⟩, (ri (by rw [b2i_1 (by
      have q := nI_inj (a := tkk b N c t) (b := 4) (by have := h.kl; omega) (by decide) c13
      unfold tkk at q
      by_cases e : t + 1 = c
      · exact e
      · rw [if_neg e] at q
        have := kd_lt (b (pos b N t))
        omega)])), rfl, rfl⟩
    | exact wa_ireturn dX3_isAtEnd_21 ⟨Nat.le_refl _, Nat.le_refl _, ⟨_, rfl, rfl⟩, (ri (by rw [b2i_0 (fun z => c13 (by unfold tkk; rw [if_pos z]; rfl))])), rfl, rfl⟩
theorem CSg.vals {P : (Nat → Int32) → Prop} {b : Nat → Int32} {N c n : Nat} {S : SS} {t told : Nat} {δ : Nat → Int32} {nf : Nat → Nat → Int32} {nl : Nat → Nat} (h : CSg P b N c n S t told δ nf nl) (hp : pos b N t < N) : S.1 30 t = tv b (pos b N t) (te b N (pos b N t) - pos b N t) := (h.1.1.2.2.2.2 t h.tL).2.2.2 (by
  have := h.end
  have ht := h.tL
  by_cases e : t + 1 = c
  · exact absurd hp (this.mp e)
  · omega)
/-- a symbol's value -/
theorem tv_sym {b : Nat → Int32} {N p : Nat} (h : tk b N p = 3) : tv b p (te b N p - p) = b p := by
  have hp : p < N := tk_lt (by rw [h]; decide)
  have hk : kd (b p) = 3 := by
    unfold tk at h
    rw [if_pos hp] at h
    exact h
  have e : te b N p = p + 1 := by
    unfold te
    rw [if_pos hp, if_pos hk]
  unfold tv
  rw [e, if_neg (by rw [hk]; decide), show p + 1 - p = 1 by omega, if_neg (by decide)]
  rfl
theorem px_isSymbol {P : (Nat → Int32) → Prop} {b : Nat → Int32} {N c n : Nat} {S : SS} {t told : Nat} {δ : Nat → Int32} {nf : Nat → Nat → Int32} {nl : Nat → Nat} (hn : 269 ≤ n) (h : CSg P b N c n S t told δ nf nl) (x : Int32) : AM yX3_isSymbol cX3_isSymbol 2 (some .boolean) [] 0 0 0 [.ref 1, .int x] n (Hp S) (PI (b2i (isS b N x (pos b N t) = true)) n S) := by
  intro has
  change WA RX3 cX3_isSymbol 2 [] _ _ 0 0 0 [some (.ref 1), some (.int x)] [] n _
  have ht := h.tL
  have hc := h.cL
  refine wa_aload_n dX3_isSymbol_0 rfl ?_
  refine g_PA (by assumption) 5 dX3_isSymbol_1 fl_X3_25 (by decide) rfl ?_
  refine g_TO (by assumption) 1 dX3_isSymbol_4 fl_X3_74 (by decide) rfl ?_
  refine wa_aload_n dX3_isSymbol_7 rfl ?_
  refine g_PA hn 6 dX3_isSymbol_8 fl_X3_37 (by decide) (v := .int (nI t)) (congrArg (fun x => some (Value.int x)) h.a) ?_
  refine s_iald (j := t) isA_kinds dX3_isSymbol_11 (ltS hn) (ix_nI (by omega)) (by omega) ?_
  rw [h.kd]
  refine wa_iconst (x := 3) dX3_isSymbol_12 (by decide) ?_
  refine wa_icmp_ne 36 dX3_isSymbol_13 rfl (fun c13 => ?_) (fun c13 => ?_)
  · refine wa_iconst (x := 0) dX3_isSymbol_36 (by decide) ?_
    first
    | exact wa_ireturn dX3_isSymbol_37 ⟨Nat.le_refl _, Nat.le_refl _, ⟨_, rfl, rfl⟩, (ri (by rw [b2i_1 (isS_iff.mpr ⟨k3, c29⟩)])), rfl, rfl⟩
    | exact wa_ireturn dX3_isSymbol_37 ⟨Nat.le_refl _, Nat.le_refl _, ⟨_, rfl, rfl⟩, (ri (by rw [b2i_0 (fun z => c29 (isS_iff.mp z).2)])), rfl, rfl⟩
    | exact wa_ireturn dX3_isSymbol_37 ⟨Nat.le_refl _, Nat.le_refl _, ⟨_, rfl, rfl⟩, (ri (by rw [b2i_0 (fun z => c13 (by rw [(h.tkE (k := 3) (by decide) (by decide)).mpr (isS_iff.mp z).1]; rfl))])), rfl, rfl⟩
  · refine wa_aload_n dX3_isSymbol_16 rfl ?_
    refine g_PA (by assumption) 5 dX3_isSymbol_17 fl_X3_25 (by decide) rfl ?_
    refine g_TO (by assumption) 4 dX3_isSymbol_20 fl_X3_77 (by decide) rfl ?_
    refine wa_aload_n dX3_isSymbol_23 rfl ?_
    refine g_PA hn 6 dX3_isSymbol_24 fl_X3_37 (by decide) (v := .int (nI t)) (congrArg (fun x => some (Value.int x)) h.a) ?_
    refine s_iald (j := t) isA_values dX3_isSymbol_27 (ltS hn) (ix_nI (by omega)) (by omega) ?_
    have k3 := (h.tkE (k := 3) (by decide) (by decide)).mp (nI_inj (a := tkk b N c t) (b := 3) (by have := h.kl; omega) (by decide) c13)
    rw [h.vals (tk_lt (by rw [k3]; decide)), tv_sym k3]
    refine wa_iload_n dX3_isSymbol_28 rfl ?_
    refine wa_icmp_ne 36 dX3_isSymbol_29 rfl (fun c29 => ?_) (fun c29 => ?_)
    · refine wa_iconst (x := 0) dX3_isSymbol_36 (by decide) ?_
      first
      | exact wa_ireturn dX3_isSymbol_37 ⟨Nat.le_refl _, Nat.le_refl _, ⟨_, rfl, rfl⟩, (ri (by rw [b2i_1 (isS_iff.mpr ⟨k3, c29⟩)])), rfl, rfl⟩
      | exact wa_ireturn dX3_isSymbol_37 ⟨Nat.le_refl _, Nat.le_refl _, ⟨_, rfl, rfl⟩, (ri (by rw [b2i_0 (fun z => c29 (isS_iff.mp z).2)])), rfl, rfl⟩
      | exact wa_ireturn dX3_isSymbol_37 ⟨Nat.le_refl _, Nat.le_refl _, ⟨_, rfl, rfl⟩, (ri (by rw [b2i_0 (fun z => c13 (by rw [(h.tkE (k := 3) (by decide) (by decide)).mpr (isS_iff.mp z).1]; rfl))])), rfl, rfl⟩
    · refine wa_iconst (x := 1) dX3_isSymbol_32 (by decide) ?_
      refine wa_goto 37 dX3_isSymbol_33 rfl ?_
      first
      | exact wa_ireturn dX3_isSymbol_37 ⟨Nat.le_refl _, Nat.le_refl _, ⟨_, rfl, rfl⟩, (ri (by rw [b2i_1 (isS_iff.mpr ⟨k3, c29⟩)])), rfl, rfl⟩
      | exact wa_ireturn dX3_isSymbol_37 ⟨Nat.le_refl _, Nat.le_refl _, ⟨_, rfl, rfl⟩, (ri (by rw [b2i_0 (fun z => c29 (isS_iff.mp z).2)])), rfl, rfl⟩
      | exact wa_ireturn dX3_isSymbol_37 ⟨Nat.le_refl _, Nat.le_refl _, ⟨_, rfl, rfl⟩, (ri (by rw [b2i_0 (fun z => c13 (by rw [(h.tkE (k := 3) (by decide) (by decide)).mpr (isS_iff.mp z).1]; rfl))])), rfl, rfl⟩
/-- which keyword: by the table's words -/
theorem kwf_wd {b : Nat → Int32} {N p i : Nat} (hi : i < 18) : kwf b N p = some i ↔ wd b N (kw i) p = true := by
  have hiff : ∀ j, wd b N (kw j) p = true ↔ tk b N p = 1 ∧ SPK b p (te b N p - p) j := fun j => by
    rw [wd_iff]
    have := te_ge b N p
    constructor
    · rintro ⟨h1, h2, h3⟩; exact ⟨h1, by omega, h3⟩
    · rintro ⟨h1, h2, h3⟩; exact ⟨h1, by omega, h3⟩
  unfold kwf
  constructor
  · intro e
    by_cases h1 : tk b N p = 1
    · rw [if_pos h1] at e
      exact (hiff i).mpr ⟨h1, (fo_lt 18 0 i e).2.2⟩
    · rw [if_neg h1] at e
      cases e
  · intro e
    obtain ⟨h1, h2⟩ := (hiff i).mp e
    rw [if_pos h1]
    cases hw : kwA b p (te b N p - p) with
    | none => exact absurd h2 (fo_no 18 0 hw i (Nat.zero_le _) (by omega))
    | some j =>
      have hj := fo_lt 18 0 j hw
      rw [wd_inj hi (by omega) e ((hiff j).mpr ⟨h1, hj.2.2⟩)]
theorem kwf_none {b : Nat → Int32} {N p : Nat} : kwf b N p = none ↔ ¬ kwB b N p = true := by
  constructor
  · intro e z
    obtain ⟨i, hi, h1⟩ := kwB_iff.mp z
    rw [(kwf_wd hi).mpr h1] at e
    cases e
  · intro z
    cases e : kwf b N p with
    | none => rfl
    | some i =>
      have hi : i < 18 := by
        unfold kwf at e
        split at e
        · have := fo_lt 18 0 i e; omega
        · cases e
      exact absurd (kwB_iff.mpr ⟨i, hi, (kwf_wd hi).mp e⟩) z
theorem kwf_lt {b : Nat → Int32} {N p i : Nat} (e : kwf b N p = some i) : i < 18 := by
  unfold kwf at e
  split at e
  · have := fo_lt 18 0 i e; omega
  · cases e
theorem px_isKeyword {P : (Nat → Int32) → Prop} {b : Nat → Int32} {N c n : Nat} {S : SS} {t told : Nat} {δ : Nat → Int32} {nf : Nat → Nat → Int32} {nl : Nat → Nat} (hn : 269 ≤ n) (h : CSg P b N c n S t told δ nf nl) {i : Nat} (hi : i < 18) : AM yX3_isKeyword cX3_isKeyword 2 (some .boolean) [] 0 0 0 [.ref 1, .ref (ab_CB + (112 + i))] n (Hp S) (PI (b2i (wd b N (kw i) (pos b N t) = true)) n S) := by
  intro has
  change WA RX3 cX3_isKeyword 2 [] _ _ 0 0 0 [some (.ref 1), some (.ref (ab_CB + (112 + i)))] [] n _
  have ht := h.tL
  have hc := h.cL
  cases hk : kwf b N (pos b N t) with
  | none =>
    refine wa_aload_n dX3_isKeyword_0 rfl ?_
    refine g_PA (by assumption) 5 dX3_isKeyword_1 fl_X3_25 (by decide) rfl ?_
    refine g_TO (by assumption) 5 dX3_isKeyword_4 fl_X3_80 (by decide) rfl ?_
    refine wa_aload_n dX3_isKeyword_7 rfl ?_
    refine g_PA hn 6 dX3_isKeyword_8 fl_X3_37 (by decide) (v := .int (nI t)) (congrArg (fun x => some (Value.int x)) h.a) ?_
    refine s_kldN hn (ix_nI (by omega)) (by omega) (h.kw.trans hk) dX3_isKeyword_11 ?_
    refine wa_aload_n dX3_isKeyword_12 rfl ?_
    refine wa_acmpneN 20 dX3_isKeyword_13 rfl ?_
    refine wa_iconst (x := 0) dX3_isKeyword_20 (by decide) ?_
    exact wa_ireturn dX3_isKeyword_21 ⟨Nat.le_refl _, Nat.le_refl _, ⟨_, rfl, rfl⟩, (ri (by rw [b2i_0 (fun z => by rw [(kwf_wd hi).mpr z] at hk; cases hk)])), rfl, rfl⟩
  | some j =>
    have hj := kwf_lt hk
    refine wa_aload_n dX3_isKeyword_0 rfl ?_
    refine g_PA (by assumption) 5 dX3_isKeyword_1 fl_X3_25 (by decide) rfl ?_
    refine g_TO (by assumption) 5 dX3_isKeyword_4 fl_X3_80 (by decide) rfl ?_
    refine wa_aload_n dX3_isKeyword_7 rfl ?_
    refine g_PA hn 6 dX3_isKeyword_8 fl_X3_37 (by decide) (v := .int (nI t)) (congrArg (fun x => some (Value.int x)) h.a) ?_
    refine s_kld2 hn (ix_nI (by omega)) (by omega) (h.kw.trans hk) dX3_isKeyword_11 ?_
    refine wa_aload_n dX3_isKeyword_12 rfl ?_
    refine wa_acmpneK 20 dX3_isKeyword_13 rfl hj hi (fun c13 => ?_) (fun c13 => ?_)
    · refine wa_iconst (x := 0) dX3_isKeyword_20 (by decide) ?_
      exact wa_ireturn dX3_isKeyword_21 ⟨Nat.le_refl _, Nat.le_refl _, ⟨_, rfl, rfl⟩, (ri (by rw [b2i_0 (fun z => c13 (Option.some.inj (hk.symm.trans ((kwf_wd hi).mpr z))))])), rfl, rfl⟩
    · refine wa_iconst (x := 1) dX3_isKeyword_16 (by decide) ?_
      refine wa_goto 21 dX3_isKeyword_17 rfl ?_
      exact wa_ireturn dX3_isKeyword_21 ⟨Nat.le_refl _, Nat.le_refl _, ⟨_, rfl, rfl⟩, (ri (by rw [b2i_1 ((kwf_wd hi).mp (by rw [hk, c13]))])), rfl, rfl⟩
theorem px_isName {P : (Nat → Int32) → Prop} {b : Nat → Int32} {N c n : Nat} {S : SS} {t told : Nat} {δ : Nat → Int32} {nf : Nat → Nat → Int32} {nl : Nat → Nat} (hn : 269 ≤ n) (h : CSg P b N c n S t told δ nf nl) : AM yX3_isName cX3_isName 1 (some .boolean) [] 0 0 0 [.ref 1] n (Hp S) (PI (b2i (isNm b N (pos b N t) = true)) n S) := by
  intro has
  change WA RX3 cX3_isName 1 [] _ _ 0 0 0 [some (.ref 1)] [] n _
  have ht := h.tL
  have hc := h.cL
  cases hk : kwf b N (pos b N t) with
  | none =>
    refine wa_aload_n dX3_isName_0 rfl ?_
    refine g_PA (by assumption) 5 dX3_isName_1 fl_X3_25 (by decide) rfl ?_
    refine g_TO (by assumption) 1 dX3_isName_4 fl_X3_74 (by decide) rfl ?_
    refine wa_aload_n dX3_isName_7 rfl ?_
    refine g_PA hn 6 dX3_isName_8 fl_X3_37 (by decide) (v := .int (nI t)) (congrArg (fun x => some (Value.int x)) h.a) ?_
    refine s_iald (j := t) isA_kinds dX3_isName_11 (ltS hn) (ix_nI (by omega)) (by omega) ?_
    rw [h.kd]
    refine wa_iconst (x := 1) dX3_isName_12 (by decide) ?_
    refine wa_icmp_ne 52 dX3_isName_13 rfl (fun c13 => ?_) (fun c13 => ?_)
    · refine wa_iconst (x := 0) dX3_isName_52 (by decide) ?_
      first
      | exact wa_ireturn dX3_isName_53 ⟨Nat.le_refl _, Nat.le_refl _, ⟨_, rfl, rfl⟩, (ri (by rw [b2i_0 (fun z => c13 (by rw [(h.tkE (k := 1) (by decide) (by decide)).mpr (isNm_iff.mp z).1]; rfl))])), rfl, rfl⟩
      | exact wa_ireturn dX3_isName_53 ⟨Nat.le_refl _, Nat.le_refl _, ⟨_, rfl, rfl⟩, (ri (by rw [b2i_0 (fun z => absurd (show nI (te b N (pos b N t) - pos b N t) ≤ 6 from nI_le (b := 6) (isNm_iff.mp z).2.1 (by decide)) (Int32.not_le.mpr c30))])), rfl, rfl⟩
      | exact wa_ireturn dX3_isName_53 ⟨Nat.le_refl _, Nat.le_refl _, ⟨_, rfl, rfl⟩, (ri (by rw [b2i_1 (isNm_iff.mpr ⟨(h.tkE (k := 1) (by decide) (by decide)).mp (nI_inj (a := tkk b N c t) (b := 1) (by have := h.kl; omega) (by decide) c13), by
          have q := Int32.not_lt.mp c30
          rw [Int32.le_iff_toInt_le, nI_toInt (by have := te_le (b := b) (VP_pos b N t).1; have := h.NL; omega)] at q
          have k6 : (6 : Int32).toInt = 6 := by decide
          rw [k6] at q
          omega, kwf_none.mp hk⟩)])), rfl, rfl⟩
    · refine wa_aload_n dX3_isName_16 rfl ?_
      refine g_PA (by assumption) 5 dX3_isName_17 fl_X3_25 (by decide) rfl ?_
      refine g_TO (by assumption) 3 dX3_isName_20 fl_X3_84 (by decide) rfl ?_
      refine wa_aload_n dX3_isName_23 rfl ?_
      refine g_PA hn 6 dX3_isName_24 fl_X3_37 (by decide) (v := .int (nI t)) (congrArg (fun x => some (Value.int x)) h.a) ?_
      refine s_iald (j := t) isA_lengths dX3_isName_27 (ltS hn) (ix_nI (by omega)) (by omega) ?_
      rw [h.ln]
      refine wa_bipush (x := 6) dX3_isName_28 (by decide) ?_
      refine wa_icmp_gt 52 dX3_isName_30 rfl (fun c30 => ?_) (fun c30 => ?_)
      · refine wa_iconst (x := 0) dX3_isName_52 (by decide) ?_
        first
        | exact wa_ireturn dX3_isName_53 ⟨Nat.le_refl _, Nat.le_refl _, ⟨_, rfl, rfl⟩, (ri (by rw [b2i_0 (fun z => c13 (by rw [(h.tkE (k := 1) (by decide) (by decide)).mpr (isNm_iff.mp z).1]; rfl))])), rfl, rfl⟩
        | exact wa_ireturn dX3_isName_53 ⟨Nat.le_refl _, Nat.le_refl _, ⟨_, rfl, rfl⟩, (ri (by rw [b2i_0 (fun z => absurd (show nI (te b N (pos b N t) - pos b N t) ≤ 6 from nI_le (b := 6) (isNm_iff.mp z).2.1 (by decide)) (Int32.not_le.mpr c30))])), rfl, rfl⟩
        | exact wa_ireturn dX3_isName_53 ⟨Nat.le_refl _, Nat.le_refl _, ⟨_, rfl, rfl⟩, (ri (by rw [b2i_1 (isNm_iff.mpr ⟨(h.tkE (k := 1) (by decide) (by decide)).mp (nI_inj (a := tkk b N c t) (b := 1) (by have := h.kl; omega) (by decide) c13), by
            have q := Int32.not_lt.mp c30
            rw [Int32.le_iff_toInt_le, nI_toInt (by have := te_le (b := b) (VP_pos b N t).1; have := h.NL; omega)] at q
            have k6 : (6 : Int32).toInt = 6 := by decide
            rw [k6] at q
            omega, kwf_none.mp hk⟩)])), rfl, rfl⟩
      · refine wa_aload_n dX3_isName_33 rfl ?_
        refine g_PA (by assumption) 5 dX3_isName_34 fl_X3_25 (by decide) rfl ?_
        refine g_TO (by assumption) 5 dX3_isName_37 fl_X3_80 (by decide) rfl ?_
        refine wa_aload_n dX3_isName_40 rfl ?_
        refine g_PA hn 6 dX3_isName_41 fl_X3_37 (by decide) (v := .int (nI t)) (congrArg (fun x => some (Value.int x)) h.a) ?_
        refine s_kldN hn (ix_nI (by omega)) (by omega) (h.kw.trans hk) dX3_isName_44 ?_
        refine wa_ifnonnullN dX3_isName_45 ?_
        refine wa_iconst (x := 1) dX3_isName_48 (by decide) ?_
        refine wa_goto 53 dX3_isName_49 rfl ?_
        first
        | exact wa_ireturn dX3_isName_53 ⟨Nat.le_refl _, Nat.le_refl _, ⟨_, rfl, rfl⟩, (ri (by rw [b2i_0 (fun z => c13 (by rw [(h.tkE (k := 1) (by decide) (by decide)).mpr (isNm_iff.mp z).1]; rfl))])), rfl, rfl⟩
        | exact wa_ireturn dX3_isName_53 ⟨Nat.le_refl _, Nat.le_refl _, ⟨_, rfl, rfl⟩, (ri (by rw [b2i_0 (fun z => absurd (show nI (te b N (pos b N t) - pos b N t) ≤ 6 from nI_le (b := 6) (isNm_iff.mp z).2.1 (by decide)) (Int32.not_le.mpr c30))])), rfl, rfl⟩
        | exact wa_ireturn dX3_isName_53 ⟨Nat.le_refl _, Nat.le_refl _, ⟨_, rfl, rfl⟩, (ri (by rw [b2i_1 (isNm_iff.mpr ⟨(h.tkE (k := 1) (by decide) (by decide)).mp (nI_inj (a := tkk b N c t) (b := 1) (by have := h.kl; omega) (by decide) c13), by
            have q := Int32.not_lt.mp c30
            rw [Int32.le_iff_toInt_le, nI_toInt (by have := te_le (b := b) (VP_pos b N t).1; have := h.NL; omega)] at q
            have k6 : (6 : Int32).toInt = 6 := by decide
            rw [k6] at q
            omega, kwf_none.mp hk⟩)])), rfl, rfl⟩
  | some j =>
    have hj := kwf_lt hk
    refine wa_aload_n dX3_isName_0 rfl ?_
    refine g_PA (by assumption) 5 dX3_isName_1 fl_X3_25 (by decide) rfl ?_
    refine g_TO (by assumption) 1 dX3_isName_4 fl_X3_74 (by decide) rfl ?_
    refine wa_aload_n dX3_isName_7 rfl ?_
    refine g_PA hn 6 dX3_isName_8 fl_X3_37 (by decide) (v := .int (nI t)) (congrArg (fun x => some (Value.int x)) h.a) ?_
    refine s_iald (j := t) isA_kinds dX3_isName_11 (ltS hn) (ix_nI (by omega)) (by omega) ?_
    rw [h.kd]
    refine wa_iconst (x := 1) dX3_isName_12 (by decide) ?_
    refine wa_icmp_ne 52 dX3_isName_13 rfl (fun c13 => ?_) (fun c13 => ?_)
    · refine wa_iconst (x := 0) dX3_isName_52 (by decide) ?_
      first
      | exact wa_ireturn dX3_isName_53 ⟨Nat.le_refl _, Nat.le_refl _, ⟨_, rfl, rfl⟩, (ri (by rw [b2i_0 (fun z => c13 (by rw [(h.tkE (k := 1) (by decide) (by decide)).mpr (isNm_iff.mp z).1]; rfl))])), rfl, rfl⟩
      | exact wa_ireturn dX3_isName_53 ⟨Nat.le_refl _, Nat.le_refl _, ⟨_, rfl, rfl⟩, (ri (by rw [b2i_0 (fun z => absurd (show nI (te b N (pos b N t) - pos b N t) ≤ 6 from nI_le (b := 6) (isNm_iff.mp z).2.1 (by decide)) (Int32.not_le.mpr c30))])), rfl, rfl⟩
      | exact wa_ireturn dX3_isName_53 ⟨Nat.le_refl _, Nat.le_refl _, ⟨_, rfl, rfl⟩, (ri (by rw [b2i_0 (fun z => (isNm_iff.mp z).2.2 (kwB_iff.mpr ⟨j, hj, (kwf_wd hj).mp hk⟩))])), rfl, rfl⟩
    · refine wa_aload_n dX3_isName_16 rfl ?_
      refine g_PA (by assumption) 5 dX3_isName_17 fl_X3_25 (by decide) rfl ?_
      refine g_TO (by assumption) 3 dX3_isName_20 fl_X3_84 (by decide) rfl ?_
      refine wa_aload_n dX3_isName_23 rfl ?_
      refine g_PA hn 6 dX3_isName_24 fl_X3_37 (by decide) (v := .int (nI t)) (congrArg (fun x => some (Value.int x)) h.a) ?_
      refine s_iald (j := t) isA_lengths dX3_isName_27 (ltS hn) (ix_nI (by omega)) (by omega) ?_
      rw [h.ln]
      refine wa_bipush (x := 6) dX3_isName_28 (by decide) ?_
      refine wa_icmp_gt 52 dX3_isName_30 rfl (fun c30 => ?_) (fun c30 => ?_)
      · refine wa_iconst (x := 0) dX3_isName_52 (by decide) ?_
        first
        | exact wa_ireturn dX3_isName_53 ⟨Nat.le_refl _, Nat.le_refl _, ⟨_, rfl, rfl⟩, (ri (by rw [b2i_0 (fun z => c13 (by rw [(h.tkE (k := 1) (by decide) (by decide)).mpr (isNm_iff.mp z).1]; rfl))])), rfl, rfl⟩
        | exact wa_ireturn dX3_isName_53 ⟨Nat.le_refl _, Nat.le_refl _, ⟨_, rfl, rfl⟩, (ri (by rw [b2i_0 (fun z => absurd (show nI (te b N (pos b N t) - pos b N t) ≤ 6 from nI_le (b := 6) (isNm_iff.mp z).2.1 (by decide)) (Int32.not_le.mpr c30))])), rfl, rfl⟩
        | exact wa_ireturn dX3_isName_53 ⟨Nat.le_refl _, Nat.le_refl _, ⟨_, rfl, rfl⟩, (ri (by rw [b2i_0 (fun z => (isNm_iff.mp z).2.2 (kwB_iff.mpr ⟨j, hj, (kwf_wd hj).mp hk⟩))])), rfl, rfl⟩
      · refine wa_aload_n dX3_isName_33 rfl ?_
        refine g_PA (by assumption) 5 dX3_isName_34 fl_X3_25 (by decide) rfl ?_
        refine g_TO (by assumption) 5 dX3_isName_37 fl_X3_80 (by decide) rfl ?_
        refine wa_aload_n dX3_isName_40 rfl ?_
        refine g_PA hn 6 dX3_isName_41 fl_X3_37 (by decide) (v := .int (nI t)) (congrArg (fun x => some (Value.int x)) h.a) ?_
        refine s_kld2 hn (ix_nI (by omega)) (by omega) (h.kw.trans hk) dX3_isName_44 ?_
        refine wa_ifnonnull 52 dX3_isName_45 rfl ?_
        refine wa_iconst (x := 0) dX3_isName_52 (by decide) ?_
        first
        | exact wa_ireturn dX3_isName_53 ⟨Nat.le_refl _, Nat.le_refl _, ⟨_, rfl, rfl⟩, (ri (by rw [b2i_0 (fun z => c13 (by rw [(h.tkE (k := 1) (by decide) (by decide)).mpr (isNm_iff.mp z).1]; rfl))])), rfl, rfl⟩
        | exact wa_ireturn dX3_isName_53 ⟨Nat.le_refl _, Nat.le_refl _, ⟨_, rfl, rfl⟩, (ri (by rw [b2i_0 (fun z => absurd (show nI (te b N (pos b N t) - pos b N t) ≤ 6 from nI_le (b := 6) (isNm_iff.mp z).2.1 (by decide)) (Int32.not_le.mpr c30))])), rfl, rfl⟩
        | exact wa_ireturn dX3_isName_53 ⟨Nat.le_refl _, Nat.le_refl _, ⟨_, rfl, rfl⟩, (ri (by rw [b2i_0 (fun z => (isNm_iff.mp z).2.2 (kwB_iff.mpr ⟨j, hj, (kwf_wd hj).mp hk⟩))])), rfl, rfl⟩

