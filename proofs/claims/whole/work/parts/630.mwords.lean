/-! ValveRoomModel: isWord, isKeyword, isSign, errsIf. Written by program (wip/whole/gen/m630.py) but for the heads. -/
def wx (b : Nat → Int32) (N : Nat) (x : PR PST) (i : Nat) : Bool := match x with
  | .inl _ => false
  | .inr s => wd b N (kw i) s.1
def kx (b : Nat → Int32) (N : Nat) (x : PR PST) : Bool := match x with
  | .inl _ => false
  | .inr s => kwB b N s.1
def sx (b : Nat → Int32) (N : Nat) (c : Int32) (x : PR PST) : Bool := match x with
  | .inl _ => false
  | .inr s => isS b N c s.1
theorem lit_kw : ∀ i, i < 18 → ab_ks (19 + i) = kw i := by decide +kernel
theorem chr_kw0 : ∀ i, i < 18 → ∀ k, k < 9 → chr ((kw i).getD k 0) = (kw i).getD k 0 := by decide +kernel
theorem chr_kw {i k : Nat} (hi : i < 18) (hk : k < (kw i).length) : chr ((kw i).getD k 0) = (kw i).getD k 0 := chr_kw0 i hi k (by have := (kw_len i hi).2; omega)
theorem str_kw {S : SS} {n i : Nat} (hi : i < 18) : STR n (Hp S) (ab_CB + 2 * (19 + i)) (kw i).length (fun k => (kw i).getD k 0) := by
  have := str_lit (S := S) (n := n) (j := 19 + i) (by omega)
  rw [lit_kw i hi] at this
  exact this
theorem GD.tok {b : Nat → Int32} {N : Nat} {S0 S : SS} {s : PST} (h : GD b N S0 S s) : S.1 267 10 = nI (tk b N s.1) := h.2.2.2.1
theorem GD.st {b : Nat → Int32} {N : Nat} {S0 S : SS} {s : PST} (h : GD b N S0 S s) : S.1 267 9 = nI s.1 := h.2.1
theorem GD.nx {b : Nat → Int32} {N : Nat} {S0 S : SS} {s : PST} (h : GD b N S0 S s) : S.1 267 8 = nI (te b N s.1) := h.1.2.1.1
theorem GD.te {b : Nat → Int32} {N : Nat} {S0 S : SS} {s : PST} (h : GD b N S0 S s) : te b N s.1 ≤ 500 := Nat.le_trans h.1.2.1.2 h.1.1.le
theorem tk_3 (b : Nat → Int32) (N p : Nat) : tk b N p ≤ 3 := by
  unfold tk
  split
  · exact kd_le _
  · exact Nat.zero_le _
theorem c2i_any {b : Nat → Int32} {N : Nat} {x : PR PST} {lo hi k : Nat} (h : ¬ b2i (wx b N x k = true) = 0) (h1 : lo ≤ k) (h2 : k < hi) : (1 : Int32) = c2i (∃ i, lo ≤ i ∧ i < hi ∧ wx b N x i = true) := (c2i_1 ⟨k, h1, h2, b2i_t h⟩).symm
def LW (b : Nat → Int32) (N p i k : Nat) : Prop := (tk b N p = 1 ∧ te b N p = p + (kw i).length) ∧ ∀ j, j < k → b (p + j) = (kw i).getD j 0
theorem lp_isWord {Q : ab_Q} {n i : Nat} {S : SS} {b : Nat → Int32} {N : Nat} {S0 : SS} {s : PST} (hn : 279 ≤ n) (hi : i < 18) (h : GD b N S0 S s) (hQ : Q (.inl (some (.int (b2i (wd b N (kw i) s.1 = true))))) 0 0 n (Hp S)) :
    ∀ (r k : Nat), k + r = (kw i).length → WA RX7 cX7_isWord 4 [] (ab_rm 4 0 0) Q 0 0 39 [some (.ref 267), some (.ref (ab_CB + 2 * (19 + i))), some (.int (c2i (LW b N s.1 i k))), some (.int (nI (k)))] [] n (Hp S) := by
  intro r
  induction r with
  | zero =>
    intro k hk
    have hk' : (kw i).length = k := by omega
    
    have hk2 : k = (kw i).length := hk'.symm
    refine wa_iload_n dX7_isWord_39 rfl ?_
    refine wa_aload_n dX7_isWord_40 rfl ?_
    obtain ⟨hlen9, ci9, N9, v9, tl9, ⟨hcl9, hin9, hN9⟩, ⟨ha9, he9⟩, hv9, hve9⟩ := str_kw (S := S) (n := n) hi
    refine c_VAh dX7_isWord_41 (am_slen (str_kw hi)) lk_X7_199 rfl he9 hcl9 ha9 ?_
    refine wa_icmp_ge 82 dX7_isWord_44 rfl (fun c44 => ?_) (fun c44 => absurd (by rw [hk2]; exact Int32.le_refl _) c44)
    refine wa_iload_n dX7_isWord_82 rfl ?_
    exact wa_ireturn dX7_isWord_83 (by rw [hk2, ← c2i_b (P := wd b N (kw i) s.1 = true) (wd_iff.trans ⟨fun z => ⟨⟨z.1, z.2.1⟩, z.2.2⟩, fun z => ⟨z.1.1, z.1.2, z.2⟩⟩)]; exact hQ)
  | succ r ih =>
    intro k hk

    refine wa_iload_n dX7_isWord_39 rfl ?_
    refine wa_aload_n dX7_isWord_40 rfl ?_
    obtain ⟨hlen9, ci9, N9, v9, tl9, ⟨hcl9, hin9, hN9⟩, ⟨ha9, he9⟩, hv9, hve9⟩ := str_kw (S := S) (n := n) hi
    refine c_VAh dX7_isWord_41 (am_slen (str_kw hi)) lk_X7_199 rfl he9 hcl9 ha9 ?_
    refine wa_icmp_ge 82 dX7_isWord_44 rfl (fun c44 => absurd c44 (Int32.not_le.mpr (nI_lt (by omega) (by have := (kw_len i hi).2; omega)))) (fun c44 => ?_)
    refine wa_iload_n dX7_isWord_47 rfl ?_
    refine wa_if_eq 82 dX7_isWord_48 rfl (fun c48 => ?_) (fun c48 => ?_)
    · refine wa_iload_n dX7_isWord_82 rfl ?_
      exact wa_ireturn dX7_isWord_83 (by
        have hf : ¬ wd b N (kw i) s.1 = true := fun z => c2i_f c48 ⟨⟨(wd_iff.mp z).1, (wd_iff.mp z).2.1⟩, fun j hj => (wd_iff.mp z).2.2 j (by omega)⟩
        rw [b2i_0 hf] at hQ
        rw [c48]
        exact hQ)
    · have hw := c2i_t c48
      have hte := h.te
      refine wa_aload_n dX7_isWord_51 rfl ?_
      refine g_MO (by assumption) 5 dX7_isWord_52 fl_X7_30 (by decide) rfl ?_
      refine wa_aload_n dX7_isWord_55 rfl ?_
      refine g_MO (by assumption) 9 dX7_isWord_56 fl_X7_169 (by decide) rfl ?_
      rw [h.st]
      refine wa_iload_n dX7_isWord_59 rfl ?_
      refine wa_iadd dX7_isWord_60 ?_
      rw [nI_add]
      refine s_bald (j := s.1 + k) isA_input dX7_isWord_61 (ltS (by assumption)) (ix_nI (by rw [hw.1.2] at hte; omega)) (by rw [hw.1.2] at hte; omega) ?_
      rw [h.1.1.in]
      refine wa_aload_n dX7_isWord_62 rfl ?_
      refine wa_iload_n dX7_isWord_63 rfl ?_
      obtain ⟨hlen9, ci9, N9, v9, tl9, ⟨hcl9, hin9, hN9⟩, ⟨ha9, he9⟩, hv9, hve9⟩ := str_kw (S := S) (n := n) hi
      refine c_VAh dX7_isWord_64 (am_charAt (str_kw hi) (j := k) (by omega)) lk_X7_204 rfl he9 hcl9 ha9 ?_
      rw [chr_kw hi (by omega)]
      refine wa_jn (P := b (s.1 + k) = (kw i).getD k 0) 74 75 (fun a b => wa_icmp_ne 74 dX7_isWord_67 rfl a (fun c => b (fun z => z c))) dX7_isWord_70 dX7_isWord_71 rfl dX7_isWord_74 rfl Iff.rfl ?_
      rw [c2i_b (P' := LW b N s.1 i (k + 1)) ⟨fun z => ⟨hw.1, fun j hj => by
        rcases Nat.lt_or_ge j k with q | q
        · exact hw.2 j q
        · rw [show j = k by omega]; exact z⟩, fun z => z.2 k (Nat.lt_succ_self k)⟩]
      refine wa_istore_n dX7_isWord_75 rfl ?_
      refine wa_iinc (y := 1) dX7_isWord_76 rfl (by decide) rfl ?_
      refine wa_goto 39 dX7_isWord_79 rfl ?_
      rw [nI_1 k]
      exact ih (k + 1) (by omega)
theorem isw_tail {Q : ab_Q} {n i : Nat} {S : SS} {b : Nat → Int32} {N : Nat} {S0 : SS} {s : PST} {v : Int32} (hn : 279 ≤ n) (hi : i < 18) (h : GD b N S0 S s) (hv : v = c2i (LW b N s.1 i 0)) (hQ : Q (.inl (some (.int (b2i (wd b N (kw i) s.1 = true))))) 0 0 n (Hp S)) : WA RX7 cX7_isWord 4 [] (ab_rm 4 0 0) Q 0 0 36 [some (.ref 267), some (.ref (ab_CB + 2 * (19 + i))), none, none] [.int v] n (Hp S) := by
  rw [hv]
  refine wa_istore_n dX7_isWord_36 rfl ?_
  refine wa_iconst (x := 0) dX7_isWord_37 (by decide) ?_
  refine wa_istore_n dX7_isWord_38 rfl ?_
  exact lp_isWord hn hi h hQ (kw i).length 0 (Nat.zero_add _)
theorem mm_isWord {n i : Nat} {S : SS} {b : Nat → Int32} {N : Nat} {S0 : SS} {x : PR PST} (hn : 279 ≤ n) (hi : i < 18) (h : HS b N S0 S x) : AM yX7_isWord cX7_isWord 4 (some .boolean) [] 4 0 0 [.ref 267, .ref (ab_CB + 2 * (19 + i))] n (Hp S) (PI (b2i (wx b N x i = true)) n S) := by
  cases x with
  | inl e =>
    intro has
    change WA RX7 cX7_isWord 4 [] _ _ 0 0 0 [some (.ref 267), some (.ref (ab_CB + 2 * (19 + i))), none, none] [] n _
    replace h : BD b N S0 S e := h
    refine wa_aload_n dX7_isWord_0 rfl ?_
    refine c_VI dX7_isWord_1 (mm_good hn) lk_X7_165 rfl (isO_MO _ _ _) rfl (ltS (by assumption)) ?_
    rw [b2i_0 h.n0]
    refine wa_if_eq 35 dX7_isWord_4 rfl (fun c4 => ?_) (fun c4 => absurd rfl c4)
    refine wa_iconst (x := 0) dX7_isWord_35 (by decide) ?_
    refine wa_istore_n dX7_isWord_36 rfl ?_
    refine wa_iconst (x := 0) dX7_isWord_37 (by decide) ?_
    refine wa_istore_n dX7_isWord_38 rfl ?_
    refine wa_iload_n dX7_isWord_39 rfl ?_
    refine wa_aload_n dX7_isWord_40 rfl ?_
    obtain ⟨hlen9, ci9, N9, v9, tl9, ⟨hcl9, hin9, hN9⟩, ⟨ha9, he9⟩, hv9, hve9⟩ := str_kw (S := S) (n := n) hi
    refine c_VAh dX7_isWord_41 (am_slen (str_kw hi)) lk_X7_199 rfl he9 hcl9 ha9 ?_
    refine wa_icmp_ge 82 dX7_isWord_44 rfl (fun c44 => ?_) (fun c44 => ?_)
    · refine wa_iload_n dX7_isWord_82 rfl ?_
      exact wa_ireturn dX7_isWord_83 ⟨Nat.le_refl _, Nat.le_refl _, ⟨_, rfl, rfl⟩, rfl, rfl, rfl⟩
    · refine wa_iload_n dX7_isWord_47 rfl ?_
      refine wa_if_eq 82 dX7_isWord_48 rfl (fun c48 => ?_) (fun c48 => absurd rfl c48)
      refine wa_iload_n dX7_isWord_82 rfl ?_
      exact wa_ireturn dX7_isWord_83 ⟨Nat.le_refl _, Nat.le_refl _, ⟨_, rfl, rfl⟩, rfl, rfl, rfl⟩
  | inr s =>
    intro has
    change WA RX7 cX7_isWord 4 [] _ _ 0 0 0 [some (.ref 267), some (.ref (ab_CB + 2 * (19 + i))), none, none] [] n _
    replace h : GD b N S0 S s := h
    have hte := h.te
    have hge := te_ge b N s.1
    have ht3 := tk_3 b N s.1
    have hkl := (kw_len i hi).2
    have hE : LW b N s.1 i 0 ↔ (tk b N s.1 = 1 ∧ te b N s.1 - s.1 = (kw i).length) := ⟨fun z => ⟨z.1.1, by have := z.1.2; omega⟩, fun z => ⟨⟨z.1, by have := z.2; omega⟩, fun j hj => absurd hj (Nat.not_lt_zero _)⟩⟩
    refine wa_aload_n dX7_isWord_0 rfl ?_
    refine c_VI dX7_isWord_1 (mm_good hn) lk_X7_165 rfl (isO_MO _ _ _) rfl (ltS (by assumption)) ?_
    rw [b2i_1 h.g0]
    refine wa_if_eq 35 dX7_isWord_4 rfl (fun c4 => absurd c4 (by decide)) (fun c4 => ?_)
    refine wa_aload_n dX7_isWord_7 rfl ?_
    refine g_MO (by assumption) 10 dX7_isWord_8 fl_X7_181 (by decide) rfl ?_
    rw [h.tok]
    refine wa_iconst (x := 1) dX7_isWord_11 (by decide) ?_
    refine wa_icmp_ne 35 dX7_isWord_12 rfl (fun c12 => ?_) (fun c12 => ?_)
    · refine wa_iconst (x := 0) dX7_isWord_35 (by decide) ?_
      first
      | exact isw_tail hn hi h (c2i_1 (hE.mpr ⟨(nI_eq (a := tk b N s.1) (b := 1) (by omega) (by decide)).mp c12, (nI_eq (by omega) (by omega)).mp c28⟩)).symm ⟨Nat.le_refl _, Nat.le_refl _, ⟨_, rfl, by unfold b2i; split <;> rfl⟩, rfl, rfl, rfl⟩
      | exact isw_tail hn hi h (c2i_0 (fun z => c28 ((nI_eq (by omega) (by omega)).mpr (hE.mp z).2))).symm ⟨Nat.le_refl _, Nat.le_refl _, ⟨_, rfl, by unfold b2i; split <;> rfl⟩, rfl, rfl, rfl⟩
      | exact isw_tail hn hi h (c2i_0 (fun z => c12 ((nI_eq (a := tk b N s.1) (b := 1) (by omega) (by decide)).mpr (hE.mp z).1))).symm ⟨Nat.le_refl _, Nat.le_refl _, ⟨_, rfl, by unfold b2i; split <;> rfl⟩, rfl, rfl, rfl⟩
    · refine wa_aload_n dX7_isWord_15 rfl ?_
      refine g_MO (by assumption) 8 dX7_isWord_16 fl_X7_175 (by decide) rfl ?_
      rw [h.nx]
      refine wa_aload_n dX7_isWord_19 rfl ?_
      refine g_MO (by assumption) 9 dX7_isWord_20 fl_X7_169 (by decide) rfl ?_
      rw [h.st]
      refine wa_isub dX7_isWord_23 ?_
      rw [nI_sub (te_ge _ _ _)]
      refine wa_aload_n dX7_isWord_24 rfl ?_
      obtain ⟨hlen9, ci9, N9, v9, tl9, ⟨hcl9, hin9, hN9⟩, ⟨ha9, he9⟩, hv9, hve9⟩ := str_kw (S := S) (n := n) hi
      refine c_VAh dX7_isWord_25 (am_slen (str_kw hi)) lk_X7_199 rfl he9 hcl9 ha9 ?_
      refine wa_icmp_ne 35 dX7_isWord_28 rfl (fun c28 => ?_) (fun c28 => ?_)
      · refine wa_iconst (x := 0) dX7_isWord_35 (by decide) ?_
        first
        | exact isw_tail hn hi h (c2i_1 (hE.mpr ⟨(nI_eq (a := tk b N s.1) (b := 1) (by omega) (by decide)).mp c12, (nI_eq (by omega) (by omega)).mp c28⟩)).symm ⟨Nat.le_refl _, Nat.le_refl _, ⟨_, rfl, by unfold b2i; split <;> rfl⟩, rfl, rfl, rfl⟩
        | exact isw_tail hn hi h (c2i_0 (fun z => c28 ((nI_eq (by omega) (by omega)).mpr (hE.mp z).2))).symm ⟨Nat.le_refl _, Nat.le_refl _, ⟨_, rfl, by unfold b2i; split <;> rfl⟩, rfl, rfl, rfl⟩
        | exact isw_tail hn hi h (c2i_0 (fun z => c12 ((nI_eq (a := tk b N s.1) (b := 1) (by omega) (by decide)).mpr (hE.mp z).1))).symm ⟨Nat.le_refl _, Nat.le_refl _, ⟨_, rfl, by unfold b2i; split <;> rfl⟩, rfl, rfl, rfl⟩
      · refine wa_iconst (x := 1) dX7_isWord_31 (by decide) ?_
        refine wa_goto 36 dX7_isWord_32 rfl ?_
        first
        | exact isw_tail hn hi h (c2i_1 (hE.mpr ⟨(nI_eq (a := tk b N s.1) (b := 1) (by omega) (by decide)).mp c12, (nI_eq (by omega) (by omega)).mp c28⟩)).symm ⟨Nat.le_refl _, Nat.le_refl _, ⟨_, rfl, by unfold b2i; split <;> rfl⟩, rfl, rfl, rfl⟩
        | exact isw_tail hn hi h (c2i_0 (fun z => c28 ((nI_eq (by omega) (by omega)).mpr (hE.mp z).2))).symm ⟨Nat.le_refl _, Nat.le_refl _, ⟨_, rfl, by unfold b2i; split <;> rfl⟩, rfl, rfl, rfl⟩
        | exact isw_tail hn hi h (c2i_0 (fun z => c12 ((nI_eq (a := tk b N s.1) (b := 1) (by omega) (by decide)).mpr (hE.mp z).1))).symm ⟨Nat.le_refl _, Nat.le_refl _, ⟨_, rfl, by unfold b2i; split <;> rfl⟩, rfl, rfl, rfl⟩
theorem kw_b1 {Q : ab_Q} {n : Nat} {S : SS} {b : Nat → Int32} {N : Nat} {S0 : SS} {x : PR PST} (hn : 279 ≤ n) (h : HS b N S0 S x) (K : ∀ v, v = c2i (∃ i, 0 ≤ i ∧ i < 6 ∧ wx b N x i = true) → WA RX7 cX7_isKeyword 3 [] (ab_rm 5 0 0) Q 0 0 59 [some (.ref 267), none, none] [.int v] n (Hp S)) : WA RX7 cX7_isKeyword 3 [] (ab_rm 5 0 0) Q 0 0 0 [some (.ref 267), none, none] [] n (Hp S) := by
  refine wa_aload_n dX7_isKeyword_0 rfl ?_
  refine wa_ldcS (j := 19) dX7_isKeyword_1 rfl ?_
  refine c_VI dX7_isKeyword_3 (mm_isWord (i := 0) hn (by decide) h) lk_X7_217 rfl (isO_MO _ _ _) rfl (ltS (by assumption)) ?_
  refine wa_if_ne 54 dX7_isKeyword_6 rfl (fun c6 => ?_) (fun c6 => ?_)
  · refine wa_iconst (x := 1) dX7_isKeyword_54 (by decide) ?_
    refine wa_goto 59 dX7_isKeyword_55 rfl ?_
    first
    | exact K _ (c2i_any c6 (by decide) (by decide))
    | exact K _ (c2i_any c15 (by decide) (by decide))
    | exact K _ (c2i_any c24 (by decide) (by decide))
    | exact K _ (c2i_any c33 (by decide) (by decide))
    | exact K _ (c2i_any c42 (by decide) (by decide))
    | exact K _ (c2i_any c51 (by decide) (by decide))
    | exact K _ (c2i_0 (fun z => by
        obtain ⟨i, h1, h2, h3⟩ := z
        have hh : i = 0 ∨ i = 1 ∨ i = 2 ∨ i = 3 ∨ i = 4 ∨ i = 5 := by omega
        rcases hh with rfl | rfl | rfl | rfl | rfl | rfl
        · exact b2i_f c6 h3
        · exact b2i_f c15 h3
        · exact b2i_f c24 h3
        · exact b2i_f c33 h3
        · exact b2i_f c42 h3
        · exact b2i_f c51 h3)).symm
  · refine wa_aload_n dX7_isKeyword_9 rfl ?_
    refine wa_ldcS (j := 20) dX7_isKeyword_10 rfl ?_
    refine c_VI dX7_isKeyword_12 (mm_isWord (i := 1) hn (by decide) h) lk_X7_217 rfl (isO_MO _ _ _) rfl (ltS (by assumption)) ?_
    refine wa_if_ne 54 dX7_isKeyword_15 rfl (fun c15 => ?_) (fun c15 => ?_)
    · refine wa_iconst (x := 1) dX7_isKeyword_54 (by decide) ?_
      refine wa_goto 59 dX7_isKeyword_55 rfl ?_
      first
      | exact K _ (c2i_any c6 (by decide) (by decide))
      | exact K _ (c2i_any c15 (by decide) (by decide))
      | exact K _ (c2i_any c24 (by decide) (by decide))
      | exact K _ (c2i_any c33 (by decide) (by decide))
      | exact K _ (c2i_any c42 (by decide) (by decide))
      | exact K _ (c2i_any c51 (by decide) (by decide))
      | exact K _ (c2i_0 (fun z => by
          obtain ⟨i, h1, h2, h3⟩ := z
          have hh : i = 0 ∨ i = 1 ∨ i = 2 ∨ i = 3 ∨ i = 4 ∨ i = 5 := by omega
          rcases hh with rfl | rfl | rfl | rfl | rfl | rfl
          · exact b2i_f c6 h3
          · exact b2i_f c15 h3
          · exact b2i_f c24 h3
          · exact b2i_f c33 h3
          · exact b2i_f c42 h3
          · exact b2i_f c51 h3)).symm
    · refine wa_aload_n dX7_isKeyword_18 rfl ?_
      refine wa_ldcS (j := 21) dX7_isKeyword_19 rfl ?_
      refine c_VI dX7_isKeyword_21 (mm_isWord (i := 2) hn (by decide) h) lk_X7_217 rfl (isO_MO _ _ _) rfl (ltS (by assumption)) ?_
      refine wa_if_ne 54 dX7_isKeyword_24 rfl (fun c24 => ?_) (fun c24 => ?_)
      · refine wa_iconst (x := 1) dX7_isKeyword_54 (by decide) ?_
        refine wa_goto 59 dX7_isKeyword_55 rfl ?_
        first
        | exact K _ (c2i_any c6 (by decide) (by decide))
        | exact K _ (c2i_any c15 (by decide) (by decide))
        | exact K _ (c2i_any c24 (by decide) (by decide))
        | exact K _ (c2i_any c33 (by decide) (by decide))
        | exact K _ (c2i_any c42 (by decide) (by decide))
        | exact K _ (c2i_any c51 (by decide) (by decide))
        | exact K _ (c2i_0 (fun z => by
            obtain ⟨i, h1, h2, h3⟩ := z
            have hh : i = 0 ∨ i = 1 ∨ i = 2 ∨ i = 3 ∨ i = 4 ∨ i = 5 := by omega
            rcases hh with rfl | rfl | rfl | rfl | rfl | rfl
            · exact b2i_f c6 h3
            · exact b2i_f c15 h3
            · exact b2i_f c24 h3
            · exact b2i_f c33 h3
            · exact b2i_f c42 h3
            · exact b2i_f c51 h3)).symm
      · refine wa_aload_n dX7_isKeyword_27 rfl ?_
        refine wa_ldcS (j := 22) dX7_isKeyword_28 rfl ?_
        refine c_VI dX7_isKeyword_30 (mm_isWord (i := 3) hn (by decide) h) lk_X7_217 rfl (isO_MO _ _ _) rfl (ltS (by assumption)) ?_
        refine wa_if_ne 54 dX7_isKeyword_33 rfl (fun c33 => ?_) (fun c33 => ?_)
        · refine wa_iconst (x := 1) dX7_isKeyword_54 (by decide) ?_
          refine wa_goto 59 dX7_isKeyword_55 rfl ?_
          first
          | exact K _ (c2i_any c6 (by decide) (by decide))
          | exact K _ (c2i_any c15 (by decide) (by decide))
          | exact K _ (c2i_any c24 (by decide) (by decide))
          | exact K _ (c2i_any c33 (by decide) (by decide))
          | exact K _ (c2i_any c42 (by decide) (by decide))
          | exact K _ (c2i_any c51 (by decide) (by decide))
          | exact K _ (c2i_0 (fun z => by
              obtain ⟨i, h1, h2, h3⟩ := z
              have hh : i = 0 ∨ i = 1 ∨ i = 2 ∨ i = 3 ∨ i = 4 ∨ i = 5 := by omega
              rcases hh with rfl | rfl | rfl | rfl | rfl | rfl
              · exact b2i_f c6 h3
              · exact b2i_f c15 h3
              · exact b2i_f c24 h3
              · exact b2i_f c33 h3
              · exact b2i_f c42 h3
              · exact b2i_f c51 h3)).symm
        · refine wa_aload_n dX7_isKeyword_36 rfl ?_
          refine wa_ldcS (j := 23) dX7_isKeyword_37 rfl ?_
          refine c_VI dX7_isKeyword_39 (mm_isWord (i := 4) hn (by decide) h) lk_X7_217 rfl (isO_MO _ _ _) rfl (ltS (by assumption)) ?_
          refine wa_if_ne 54 dX7_isKeyword_42 rfl (fun c42 => ?_) (fun c42 => ?_)
          · refine wa_iconst (x := 1) dX7_isKeyword_54 (by decide) ?_
            refine wa_goto 59 dX7_isKeyword_55 rfl ?_
            first
            | exact K _ (c2i_any c6 (by decide) (by decide))
            | exact K _ (c2i_any c15 (by decide) (by decide))
            | exact K _ (c2i_any c24 (by decide) (by decide))
            | exact K _ (c2i_any c33 (by decide) (by decide))
            | exact K _ (c2i_any c42 (by decide) (by decide))
            | exact K _ (c2i_any c51 (by decide) (by decide))
            | exact K _ (c2i_0 (fun z => by
                obtain ⟨i, h1, h2, h3⟩ := z
                have hh : i = 0 ∨ i = 1 ∨ i = 2 ∨ i = 3 ∨ i = 4 ∨ i = 5 := by omega
                rcases hh with rfl | rfl | rfl | rfl | rfl | rfl
                · exact b2i_f c6 h3
                · exact b2i_f c15 h3
                · exact b2i_f c24 h3
                · exact b2i_f c33 h3
                · exact b2i_f c42 h3
                · exact b2i_f c51 h3)).symm
          · refine wa_aload_n dX7_isKeyword_45 rfl ?_
            refine wa_ldcS (j := 24) dX7_isKeyword_46 rfl ?_
            refine c_VI dX7_isKeyword_48 (mm_isWord (i := 5) hn (by decide) h) lk_X7_217 rfl (isO_MO _ _ _) rfl (ltS (by assumption)) ?_
            refine wa_if_eq 58 dX7_isKeyword_51 rfl (fun c51 => ?_) (fun c51 => ?_)
            · refine wa_iconst (x := 0) dX7_isKeyword_58 (by decide) ?_
              first
              | exact K _ (c2i_any c6 (by decide) (by decide))
              | exact K _ (c2i_any c15 (by decide) (by decide))
              | exact K _ (c2i_any c24 (by decide) (by decide))
              | exact K _ (c2i_any c33 (by decide) (by decide))
              | exact K _ (c2i_any c42 (by decide) (by decide))
              | exact K _ (c2i_any c51 (by decide) (by decide))
              | exact K _ (c2i_0 (fun z => by
                  obtain ⟨i, h1, h2, h3⟩ := z
                  have hh : i = 0 ∨ i = 1 ∨ i = 2 ∨ i = 3 ∨ i = 4 ∨ i = 5 := by omega
                  rcases hh with rfl | rfl | rfl | rfl | rfl | rfl
                  · exact b2i_f c6 h3
                  · exact b2i_f c15 h3
                  · exact b2i_f c24 h3
                  · exact b2i_f c33 h3
                  · exact b2i_f c42 h3
                  · exact b2i_f c51 h3)).symm
            · refine wa_iconst (x := 1) dX7_isKeyword_54 (by decide) ?_
              refine wa_goto 59 dX7_isKeyword_55 rfl ?_
              first
              | exact K _ (c2i_any c6 (by decide) (by decide))
              | exact K _ (c2i_any c15 (by decide) (by decide))
              | exact K _ (c2i_any c24 (by decide) (by decide))
              | exact K _ (c2i_any c33 (by decide) (by decide))
              | exact K _ (c2i_any c42 (by decide) (by decide))
              | exact K _ (c2i_any c51 (by decide) (by decide))
              | exact K _ (c2i_0 (fun z => by
                  obtain ⟨i, h1, h2, h3⟩ := z
                  have hh : i = 0 ∨ i = 1 ∨ i = 2 ∨ i = 3 ∨ i = 4 ∨ i = 5 := by omega
                  rcases hh with rfl | rfl | rfl | rfl | rfl | rfl
                  · exact b2i_f c6 h3
                  · exact b2i_f c15 h3
                  · exact b2i_f c24 h3
                  · exact b2i_f c33 h3
                  · exact b2i_f c42 h3
                  · exact b2i_f c51 h3)).symm
theorem kw_b2 {Q : ab_Q} {n : Nat} {S : SS} {b : Nat → Int32} {N : Nat} {S0 : SS} {x : PR PST} {l1 : Option Value} (hn : 279 ≤ n) (h : HS b N S0 S x) (K : ∀ v, v = c2i (∃ i, 6 ≤ i ∧ i < 12 ∧ wx b N x i = true) → WA RX7 cX7_isKeyword 3 [] (ab_rm 5 0 0) Q 0 0 119 [some (.ref 267), l1, none] [.int v] n (Hp S)) : WA RX7 cX7_isKeyword 3 [] (ab_rm 5 0 0) Q 0 0 60 [some (.ref 267), l1, none] [] n (Hp S) := by
  refine wa_aload_n dX7_isKeyword_60 rfl ?_
  refine wa_ldcS (j := 25) dX7_isKeyword_61 rfl ?_
  refine c_VI dX7_isKeyword_63 (mm_isWord (i := 6) hn (by decide) h) lk_X7_217 rfl (isO_MO _ _ _) rfl (ltS (by assumption)) ?_
  refine wa_if_ne 114 dX7_isKeyword_66 rfl (fun c66 => ?_) (fun c66 => ?_)
  · refine wa_iconst (x := 1) dX7_isKeyword_114 (by decide) ?_
    refine wa_goto 119 dX7_isKeyword_115 rfl ?_
    first
    | exact K _ (c2i_any c66 (by decide) (by decide))
    | exact K _ (c2i_any c75 (by decide) (by decide))
    | exact K _ (c2i_any c84 (by decide) (by decide))
    | exact K _ (c2i_any c93 (by decide) (by decide))
    | exact K _ (c2i_any c102 (by decide) (by decide))
    | exact K _ (c2i_any c111 (by decide) (by decide))
    | exact K _ (c2i_0 (fun z => by
        obtain ⟨i, h1, h2, h3⟩ := z
        have hh : i = 6 ∨ i = 7 ∨ i = 8 ∨ i = 9 ∨ i = 10 ∨ i = 11 := by omega
        rcases hh with rfl | rfl | rfl | rfl | rfl | rfl
        · exact b2i_f c66 h3
        · exact b2i_f c75 h3
        · exact b2i_f c84 h3
        · exact b2i_f c93 h3
        · exact b2i_f c102 h3
        · exact b2i_f c111 h3)).symm
  · refine wa_aload_n dX7_isKeyword_69 rfl ?_
    refine wa_ldcS (j := 26) dX7_isKeyword_70 rfl ?_
    refine c_VI dX7_isKeyword_72 (mm_isWord (i := 7) hn (by decide) h) lk_X7_217 rfl (isO_MO _ _ _) rfl (ltS (by assumption)) ?_
    refine wa_if_ne 114 dX7_isKeyword_75 rfl (fun c75 => ?_) (fun c75 => ?_)
    · refine wa_iconst (x := 1) dX7_isKeyword_114 (by decide) ?_
      refine wa_goto 119 dX7_isKeyword_115 rfl ?_
      first
      | exact K _ (c2i_any c66 (by decide) (by decide))
      | exact K _ (c2i_any c75 (by decide) (by decide))
      | exact K _ (c2i_any c84 (by decide) (by decide))
      | exact K _ (c2i_any c93 (by decide) (by decide))
      | exact K _ (c2i_any c102 (by decide) (by decide))
      | exact K _ (c2i_any c111 (by decide) (by decide))
      | exact K _ (c2i_0 (fun z => by
          obtain ⟨i, h1, h2, h3⟩ := z
          have hh : i = 6 ∨ i = 7 ∨ i = 8 ∨ i = 9 ∨ i = 10 ∨ i = 11 := by omega
          rcases hh with rfl | rfl | rfl | rfl | rfl | rfl
          · exact b2i_f c66 h3
          · exact b2i_f c75 h3
          · exact b2i_f c84 h3
          · exact b2i_f c93 h3
          · exact b2i_f c102 h3
          · exact b2i_f c111 h3)).symm
    · refine wa_aload_n dX7_isKeyword_78 rfl ?_
      refine wa_ldcS (j := 27) dX7_isKeyword_79 rfl ?_
      refine c_VI dX7_isKeyword_81 (mm_isWord (i := 8) hn (by decide) h) lk_X7_217 rfl (isO_MO _ _ _) rfl (ltS (by assumption)) ?_
      refine wa_if_ne 114 dX7_isKeyword_84 rfl (fun c84 => ?_) (fun c84 => ?_)
      · refine wa_iconst (x := 1) dX7_isKeyword_114 (by decide) ?_
        refine wa_goto 119 dX7_isKeyword_115 rfl ?_
        first
        | exact K _ (c2i_any c66 (by decide) (by decide))
        | exact K _ (c2i_any c75 (by decide) (by decide))
        | exact K _ (c2i_any c84 (by decide) (by decide))
        | exact K _ (c2i_any c93 (by decide) (by decide))
        | exact K _ (c2i_any c102 (by decide) (by decide))
        | exact K _ (c2i_any c111 (by decide) (by decide))
        | exact K _ (c2i_0 (fun z => by
            obtain ⟨i, h1, h2, h3⟩ := z
            have hh : i = 6 ∨ i = 7 ∨ i = 8 ∨ i = 9 ∨ i = 10 ∨ i = 11 := by omega
            rcases hh with rfl | rfl | rfl | rfl | rfl | rfl
            · exact b2i_f c66 h3
            · exact b2i_f c75 h3
            · exact b2i_f c84 h3
            · exact b2i_f c93 h3
            · exact b2i_f c102 h3
            · exact b2i_f c111 h3)).symm
      · refine wa_aload_n dX7_isKeyword_87 rfl ?_
        refine wa_ldcS (j := 28) dX7_isKeyword_88 rfl ?_
        refine c_VI dX7_isKeyword_90 (mm_isWord (i := 9) hn (by decide) h) lk_X7_217 rfl (isO_MO _ _ _) rfl (ltS (by assumption)) ?_
        refine wa_if_ne 114 dX7_isKeyword_93 rfl (fun c93 => ?_) (fun c93 => ?_)
        · refine wa_iconst (x := 1) dX7_isKeyword_114 (by decide) ?_
          refine wa_goto 119 dX7_isKeyword_115 rfl ?_
          first
          | exact K _ (c2i_any c66 (by decide) (by decide))
          | exact K _ (c2i_any c75 (by decide) (by decide))
          | exact K _ (c2i_any c84 (by decide) (by decide))
          | exact K _ (c2i_any c93 (by decide) (by decide))
          | exact K _ (c2i_any c102 (by decide) (by decide))
          | exact K _ (c2i_any c111 (by decide) (by decide))
          | exact K _ (c2i_0 (fun z => by
              obtain ⟨i, h1, h2, h3⟩ := z
              have hh : i = 6 ∨ i = 7 ∨ i = 8 ∨ i = 9 ∨ i = 10 ∨ i = 11 := by omega
              rcases hh with rfl | rfl | rfl | rfl | rfl | rfl
              · exact b2i_f c66 h3
              · exact b2i_f c75 h3
              · exact b2i_f c84 h3
              · exact b2i_f c93 h3
              · exact b2i_f c102 h3
              · exact b2i_f c111 h3)).symm
        · refine wa_aload_n dX7_isKeyword_96 rfl ?_
          refine wa_ldcS (j := 29) dX7_isKeyword_97 rfl ?_
          refine c_VI dX7_isKeyword_99 (mm_isWord (i := 10) hn (by decide) h) lk_X7_217 rfl (isO_MO _ _ _) rfl (ltS (by assumption)) ?_
          refine wa_if_ne 114 dX7_isKeyword_102 rfl (fun c102 => ?_) (fun c102 => ?_)
          · refine wa_iconst (x := 1) dX7_isKeyword_114 (by decide) ?_
            refine wa_goto 119 dX7_isKeyword_115 rfl ?_
            first
            | exact K _ (c2i_any c66 (by decide) (by decide))
            | exact K _ (c2i_any c75 (by decide) (by decide))
            | exact K _ (c2i_any c84 (by decide) (by decide))
            | exact K _ (c2i_any c93 (by decide) (by decide))
            | exact K _ (c2i_any c102 (by decide) (by decide))
            | exact K _ (c2i_any c111 (by decide) (by decide))
            | exact K _ (c2i_0 (fun z => by
                obtain ⟨i, h1, h2, h3⟩ := z
                have hh : i = 6 ∨ i = 7 ∨ i = 8 ∨ i = 9 ∨ i = 10 ∨ i = 11 := by omega
                rcases hh with rfl | rfl | rfl | rfl | rfl | rfl
                · exact b2i_f c66 h3
                · exact b2i_f c75 h3
                · exact b2i_f c84 h3
                · exact b2i_f c93 h3
                · exact b2i_f c102 h3
                · exact b2i_f c111 h3)).symm
          · refine wa_aload_n dX7_isKeyword_105 rfl ?_
            refine wa_ldcS (j := 30) dX7_isKeyword_106 rfl ?_
            refine c_VI dX7_isKeyword_108 (mm_isWord (i := 11) hn (by decide) h) lk_X7_217 rfl (isO_MO _ _ _) rfl (ltS (by assumption)) ?_
            refine wa_if_eq 118 dX7_isKeyword_111 rfl (fun c111 => ?_) (fun c111 => ?_)
            · refine wa_iconst (x := 0) dX7_isKeyword_118 (by decide) ?_
              first
              | exact K _ (c2i_any c66 (by decide) (by decide))
              | exact K _ (c2i_any c75 (by decide) (by decide))
              | exact K _ (c2i_any c84 (by decide) (by decide))
              | exact K _ (c2i_any c93 (by decide) (by decide))
              | exact K _ (c2i_any c102 (by decide) (by decide))
              | exact K _ (c2i_any c111 (by decide) (by decide))
              | exact K _ (c2i_0 (fun z => by
                  obtain ⟨i, h1, h2, h3⟩ := z
                  have hh : i = 6 ∨ i = 7 ∨ i = 8 ∨ i = 9 ∨ i = 10 ∨ i = 11 := by omega
                  rcases hh with rfl | rfl | rfl | rfl | rfl | rfl
                  · exact b2i_f c66 h3
                  · exact b2i_f c75 h3
                  · exact b2i_f c84 h3
                  · exact b2i_f c93 h3
                  · exact b2i_f c102 h3
                  · exact b2i_f c111 h3)).symm
            · refine wa_iconst (x := 1) dX7_isKeyword_114 (by decide) ?_
              refine wa_goto 119 dX7_isKeyword_115 rfl ?_
              first
              | exact K _ (c2i_any c66 (by decide) (by decide))
              | exact K _ (c2i_any c75 (by decide) (by decide))
              | exact K _ (c2i_any c84 (by decide) (by decide))
              | exact K _ (c2i_any c93 (by decide) (by decide))
              | exact K _ (c2i_any c102 (by decide) (by decide))
              | exact K _ (c2i_any c111 (by decide) (by decide))
              | exact K _ (c2i_0 (fun z => by
                  obtain ⟨i, h1, h2, h3⟩ := z
                  have hh : i = 6 ∨ i = 7 ∨ i = 8 ∨ i = 9 ∨ i = 10 ∨ i = 11 := by omega
                  rcases hh with rfl | rfl | rfl | rfl | rfl | rfl
                  · exact b2i_f c66 h3
                  · exact b2i_f c75 h3
                  · exact b2i_f c84 h3
                  · exact b2i_f c93 h3
                  · exact b2i_f c102 h3
                  · exact b2i_f c111 h3)).symm
theorem kw_b3 {Q : ab_Q} {n : Nat} {S : SS} {b : Nat → Int32} {N : Nat} {S0 : SS} {x : PR PST} {l1 l2 : Option Value} (hn : 279 ≤ n) (h : HS b N S0 S x) (K : ∀ v, v = c2i (∃ i, 12 ≤ i ∧ i < 18 ∧ wx b N x i = true) → WA RX7 cX7_isKeyword 3 [] (ab_rm 5 0 0) Q 0 0 187 [some (.ref 267), l1, l2] [.int v] n (Hp S)) : WA RX7 cX7_isKeyword 3 [] (ab_rm 5 0 0) Q 0 0 128 [some (.ref 267), l1, l2] [] n (Hp S) := by
  refine wa_aload_n dX7_isKeyword_128 rfl ?_
  refine wa_ldcS (j := 31) dX7_isKeyword_129 rfl ?_
  refine c_VI dX7_isKeyword_131 (mm_isWord (i := 12) hn (by decide) h) lk_X7_217 rfl (isO_MO _ _ _) rfl (ltS (by assumption)) ?_
  refine wa_if_ne 182 dX7_isKeyword_134 rfl (fun c134 => ?_) (fun c134 => ?_)
  · refine wa_iconst (x := 1) dX7_isKeyword_182 (by decide) ?_
    refine wa_goto 187 dX7_isKeyword_183 rfl ?_
    first
    | exact K _ (c2i_any c134 (by decide) (by decide))
    | exact K _ (c2i_any c143 (by decide) (by decide))
    | exact K _ (c2i_any c152 (by decide) (by decide))
    | exact K _ (c2i_any c161 (by decide) (by decide))
    | exact K _ (c2i_any c170 (by decide) (by decide))
    | exact K _ (c2i_any c179 (by decide) (by decide))
    | exact K _ (c2i_0 (fun z => by
        obtain ⟨i, h1, h2, h3⟩ := z
        have hh : i = 12 ∨ i = 13 ∨ i = 14 ∨ i = 15 ∨ i = 16 ∨ i = 17 := by omega
        rcases hh with rfl | rfl | rfl | rfl | rfl | rfl
        · exact b2i_f c134 h3
        · exact b2i_f c143 h3
        · exact b2i_f c152 h3
        · exact b2i_f c161 h3
        · exact b2i_f c170 h3
        · exact b2i_f c179 h3)).symm
  · refine wa_aload_n dX7_isKeyword_137 rfl ?_
    refine wa_ldcS (j := 32) dX7_isKeyword_138 rfl ?_
    refine c_VI dX7_isKeyword_140 (mm_isWord (i := 13) hn (by decide) h) lk_X7_217 rfl (isO_MO _ _ _) rfl (ltS (by assumption)) ?_
    refine wa_if_ne 182 dX7_isKeyword_143 rfl (fun c143 => ?_) (fun c143 => ?_)
    · refine wa_iconst (x := 1) dX7_isKeyword_182 (by decide) ?_
      refine wa_goto 187 dX7_isKeyword_183 rfl ?_
      first
      | exact K _ (c2i_any c134 (by decide) (by decide))
      | exact K _ (c2i_any c143 (by decide) (by decide))
      | exact K _ (c2i_any c152 (by decide) (by decide))
      | exact K _ (c2i_any c161 (by decide) (by decide))
      | exact K _ (c2i_any c170 (by decide) (by decide))
      | exact K _ (c2i_any c179 (by decide) (by decide))
      | exact K _ (c2i_0 (fun z => by
          obtain ⟨i, h1, h2, h3⟩ := z
          have hh : i = 12 ∨ i = 13 ∨ i = 14 ∨ i = 15 ∨ i = 16 ∨ i = 17 := by omega
          rcases hh with rfl | rfl | rfl | rfl | rfl | rfl
          · exact b2i_f c134 h3
          · exact b2i_f c143 h3
          · exact b2i_f c152 h3
          · exact b2i_f c161 h3
          · exact b2i_f c170 h3
          · exact b2i_f c179 h3)).symm
    · refine wa_aload_n dX7_isKeyword_146 rfl ?_
      refine wa_ldcS (j := 33) dX7_isKeyword_147 rfl ?_
      refine c_VI dX7_isKeyword_149 (mm_isWord (i := 14) hn (by decide) h) lk_X7_217 rfl (isO_MO _ _ _) rfl (ltS (by assumption)) ?_
      refine wa_if_ne 182 dX7_isKeyword_152 rfl (fun c152 => ?_) (fun c152 => ?_)
      · refine wa_iconst (x := 1) dX7_isKeyword_182 (by decide) ?_
        refine wa_goto 187 dX7_isKeyword_183 rfl ?_
        first
        | exact K _ (c2i_any c134 (by decide) (by decide))
        | exact K _ (c2i_any c143 (by decide) (by decide))
        | exact K _ (c2i_any c152 (by decide) (by decide))
        | exact K _ (c2i_any c161 (by decide) (by decide))
        | exact K _ (c2i_any c170 (by decide) (by decide))
        | exact K _ (c2i_any c179 (by decide) (by decide))
        | exact K _ (c2i_0 (fun z => by
            obtain ⟨i, h1, h2, h3⟩ := z
            have hh : i = 12 ∨ i = 13 ∨ i = 14 ∨ i = 15 ∨ i = 16 ∨ i = 17 := by omega
            rcases hh with rfl | rfl | rfl | rfl | rfl | rfl
            · exact b2i_f c134 h3
            · exact b2i_f c143 h3
            · exact b2i_f c152 h3
            · exact b2i_f c161 h3
            · exact b2i_f c170 h3
            · exact b2i_f c179 h3)).symm
      · refine wa_aload_n dX7_isKeyword_155 rfl ?_
        refine wa_ldcS (j := 34) dX7_isKeyword_156 rfl ?_
        refine c_VI dX7_isKeyword_158 (mm_isWord (i := 15) hn (by decide) h) lk_X7_217 rfl (isO_MO _ _ _) rfl (ltS (by assumption)) ?_
        refine wa_if_ne 182 dX7_isKeyword_161 rfl (fun c161 => ?_) (fun c161 => ?_)
        · refine wa_iconst (x := 1) dX7_isKeyword_182 (by decide) ?_
          refine wa_goto 187 dX7_isKeyword_183 rfl ?_
          first
          | exact K _ (c2i_any c134 (by decide) (by decide))
          | exact K _ (c2i_any c143 (by decide) (by decide))
          | exact K _ (c2i_any c152 (by decide) (by decide))
          | exact K _ (c2i_any c161 (by decide) (by decide))
          | exact K _ (c2i_any c170 (by decide) (by decide))
          | exact K _ (c2i_any c179 (by decide) (by decide))
          | exact K _ (c2i_0 (fun z => by
              obtain ⟨i, h1, h2, h3⟩ := z
              have hh : i = 12 ∨ i = 13 ∨ i = 14 ∨ i = 15 ∨ i = 16 ∨ i = 17 := by omega
              rcases hh with rfl | rfl | rfl | rfl | rfl | rfl
              · exact b2i_f c134 h3
              · exact b2i_f c143 h3
              · exact b2i_f c152 h3
              · exact b2i_f c161 h3
              · exact b2i_f c170 h3
              · exact b2i_f c179 h3)).symm
        · refine wa_aload_n dX7_isKeyword_164 rfl ?_
          refine wa_ldcS (j := 35) dX7_isKeyword_165 rfl ?_
          refine c_VI dX7_isKeyword_167 (mm_isWord (i := 16) hn (by decide) h) lk_X7_217 rfl (isO_MO _ _ _) rfl (ltS (by assumption)) ?_
          refine wa_if_ne 182 dX7_isKeyword_170 rfl (fun c170 => ?_) (fun c170 => ?_)
          · refine wa_iconst (x := 1) dX7_isKeyword_182 (by decide) ?_
            refine wa_goto 187 dX7_isKeyword_183 rfl ?_
            first
            | exact K _ (c2i_any c134 (by decide) (by decide))
            | exact K _ (c2i_any c143 (by decide) (by decide))
            | exact K _ (c2i_any c152 (by decide) (by decide))
            | exact K _ (c2i_any c161 (by decide) (by decide))
            | exact K _ (c2i_any c170 (by decide) (by decide))
            | exact K _ (c2i_any c179 (by decide) (by decide))
            | exact K _ (c2i_0 (fun z => by
                obtain ⟨i, h1, h2, h3⟩ := z
                have hh : i = 12 ∨ i = 13 ∨ i = 14 ∨ i = 15 ∨ i = 16 ∨ i = 17 := by omega
                rcases hh with rfl | rfl | rfl | rfl | rfl | rfl
                · exact b2i_f c134 h3
                · exact b2i_f c143 h3
                · exact b2i_f c152 h3
                · exact b2i_f c161 h3
                · exact b2i_f c170 h3
                · exact b2i_f c179 h3)).symm
          · refine wa_aload_n dX7_isKeyword_173 rfl ?_
            refine wa_ldcS (j := 36) dX7_isKeyword_174 rfl ?_
            refine c_VI dX7_isKeyword_176 (mm_isWord (i := 17) hn (by decide) h) lk_X7_217 rfl (isO_MO _ _ _) rfl (ltS (by assumption)) ?_
            refine wa_if_eq 186 dX7_isKeyword_179 rfl (fun c179 => ?_) (fun c179 => ?_)
            · refine wa_iconst (x := 0) dX7_isKeyword_186 (by decide) ?_
              first
              | exact K _ (c2i_any c134 (by decide) (by decide))
              | exact K _ (c2i_any c143 (by decide) (by decide))
              | exact K _ (c2i_any c152 (by decide) (by decide))
              | exact K _ (c2i_any c161 (by decide) (by decide))
              | exact K _ (c2i_any c170 (by decide) (by decide))
              | exact K _ (c2i_any c179 (by decide) (by decide))
              | exact K _ (c2i_0 (fun z => by
                  obtain ⟨i, h1, h2, h3⟩ := z
                  have hh : i = 12 ∨ i = 13 ∨ i = 14 ∨ i = 15 ∨ i = 16 ∨ i = 17 := by omega
                  rcases hh with rfl | rfl | rfl | rfl | rfl | rfl
                  · exact b2i_f c134 h3
                  · exact b2i_f c143 h3
                  · exact b2i_f c152 h3
                  · exact b2i_f c161 h3
                  · exact b2i_f c170 h3
                  · exact b2i_f c179 h3)).symm
            · refine wa_iconst (x := 1) dX7_isKeyword_182 (by decide) ?_
              refine wa_goto 187 dX7_isKeyword_183 rfl ?_
              first
              | exact K _ (c2i_any c134 (by decide) (by decide))
              | exact K _ (c2i_any c143 (by decide) (by decide))
              | exact K _ (c2i_any c152 (by decide) (by decide))
              | exact K _ (c2i_any c161 (by decide) (by decide))
              | exact K _ (c2i_any c170 (by decide) (by decide))
              | exact K _ (c2i_any c179 (by decide) (by decide))
              | exact K _ (c2i_0 (fun z => by
                  obtain ⟨i, h1, h2, h3⟩ := z
                  have hh : i = 12 ∨ i = 13 ∨ i = 14 ∨ i = 15 ∨ i = 16 ∨ i = 17 := by omega
                  rcases hh with rfl | rfl | rfl | rfl | rfl | rfl
                  · exact b2i_f c134 h3
                  · exact b2i_f c143 h3
                  · exact b2i_f c152 h3
                  · exact b2i_f c161 h3
                  · exact b2i_f c170 h3
                  · exact b2i_f c179 h3)).symm
theorem kx_iff {b : Nat → Int32} {N : Nat} {x : PR PST} : kx b N x = true ↔ ∃ i, i < 18 ∧ wx b N x i = true := by
  cases x with
  | inl e =>
    constructor
    · intro h; cases h
    · intro h; obtain ⟨i, _, h⟩ := h; cases h
  | inr s => exact kwB_iff
theorem mm_isKeyword {n : Nat} {S : SS} {b : Nat → Int32} {N : Nat} {S0 : SS} {x : PR PST} (hn : 279 ≤ n) (h : HS b N S0 S x) : AM yX7_isKeyword cX7_isKeyword 3 (some .boolean) [] 5 0 0 [.ref 267] n (Hp S) (PI (b2i (kx b N x = true)) n S) := by
  intro has
  change WA RX7 cX7_isKeyword 3 [] _ _ 0 0 0 [some (.ref 267), none, none] [] n _
  refine kw_b1 hn h (fun v1 hv1 => ?_)
  refine wa_istore_n dX7_isKeyword_59 rfl ?_
  refine kw_b2 hn h (fun v2 hv2 => ?_)
  refine wa_istore_n dX7_isKeyword_119 rfl ?_
  refine wa_iload_n dX7_isKeyword_120 rfl ?_
  refine wa_if_ne 182 dX7_isKeyword_121 rfl (fun c121 => ?_) (fun c121 => ?_)
  · refine wa_iconst (x := 1) dX7_isKeyword_182 (by decide) ?_
    refine wa_goto 187 dX7_isKeyword_183 rfl ?_
    first
    | exact wa_ireturn dX7_isKeyword_187 ⟨Nat.le_refl _, Nat.le_refl _, ⟨_, rfl, rfl⟩, ri (b2i_1 (kx_iff.mpr (by obtain ⟨i, _, hi, hz⟩ := c2i_t (by rw [← hv1]; exact c121); exact ⟨i, by omega, hz⟩))).symm, rfl, rfl⟩
    | exact wa_ireturn dX7_isKeyword_187 ⟨Nat.le_refl _, Nat.le_refl _, ⟨_, rfl, rfl⟩, ri (b2i_1 (kx_iff.mpr (by obtain ⟨i, _, hi, hz⟩ := c2i_t (by rw [← hv2]; exact c125); exact ⟨i, by omega, hz⟩))).symm, rfl, rfl⟩
  · refine wa_iload_n dX7_isKeyword_124 rfl ?_
    refine wa_if_ne 182 dX7_isKeyword_125 rfl (fun c125 => ?_) (fun c125 => ?_)
    · refine wa_iconst (x := 1) dX7_isKeyword_182 (by decide) ?_
      refine wa_goto 187 dX7_isKeyword_183 rfl ?_
      first
      | exact wa_ireturn dX7_isKeyword_187 ⟨Nat.le_refl _, Nat.le_refl _, ⟨_, rfl, rfl⟩, ri (b2i_1 (kx_iff.mpr (by obtain ⟨i, _, hi, hz⟩ := c2i_t (by rw [← hv1]; exact c121); exact ⟨i, by omega, hz⟩))).symm, rfl, rfl⟩
      | exact wa_ireturn dX7_isKeyword_187 ⟨Nat.le_refl _, Nat.le_refl _, ⟨_, rfl, rfl⟩, ri (b2i_1 (kx_iff.mpr (by obtain ⟨i, _, hi, hz⟩ := c2i_t (by rw [← hv2]; exact c125); exact ⟨i, by omega, hz⟩))).symm, rfl, rfl⟩
    · refine kw_b3 hn h (fun v3 hv3 => ?_)
      exact wa_ireturn dX7_isKeyword_187 ⟨Nat.le_refl _, Nat.le_refl _, ⟨_, rfl, by rw [hv3]; unfold c2i; split <;> rfl⟩, ri (by rw [hv3]; exact (c2i_b ⟨fun z => by
        obtain ⟨i, hi, hz⟩ := kx_iff.mp z
        refine ⟨i, ?_, hi, hz⟩
        apply Classical.byContradiction; intro q
        by_cases h6 : i < 6
        · exact c2i_f (hv1.symm.trans c121) ⟨i, Nat.zero_le _, h6, hz⟩
        · exact c2i_f (hv2.symm.trans c125) ⟨i, by omega, by omega, hz⟩, fun z => kx_iff.mpr (by obtain ⟨i, _, hi, hz⟩ := z; exact ⟨i, hi, hz⟩)⟩).symm), rfl, rfl⟩
theorem sym_u8 {b : Nat → Int32} {N p : Nat} {c : Int32} (hB : BY b N) (h : tk b N p = 3) (h0 : 0 ≤ c.toInt) (h1 : c.toInt < 128) : b p &&& 255 = c ↔ b p = c := by
  have hp : p < N := tk_lt (b := b) (by rw [h]; decide)
  have e := u8 (hB p hp).1 (hB p hp).2
  rw [e2i, e2i, e]
  have := hB p hp
  split <;> omega
theorem GD.val {b : Nat → Int32} {N : Nat} {S0 S : SS} {s : PST} (h : GD b N S0 S s) (ht : tk b N s.1 = 3) : S.1 267 11 = b s.1 &&& 255 := h.2.2.2.2.2 ht
theorem GD.num {b : Nat → Int32} {N : Nat} {S0 S : SS} {s : PST} (h : GD b N S0 S s) (ht : tk b N s.1 = 2) : S.1 267 11 = nI (vl b N s.1) := h.2.2.2.2.1 ht
theorem isS_iff {b : Nat → Int32} {N p : Nat} {c : Int32} : isS b N c p = true ↔ tk b N p = 3 ∧ b p = c := by
  unfold isS
  rw [Bool.and_eq_true, decide_eq_true_iff, decide_eq_true_iff]
theorem mm_isSign {n : Nat} {S : SS} {b : Nat → Int32} {N : Nat} {S0 : SS} {x : PR PST} (hn : 279 ≤ n) (h : HS b N S0 S x) (c : Int32) (h0 : 0 ≤ c.toInt) (h1 : c.toInt < 128) : AM yX7_isSign cX7_isSign 2 (some .boolean) [] 1 0 0 [.ref 267, .int c] n (Hp S) (PI (b2i (sx b N c x = true)) n S) := by
  cases x with
  | inl e =>
    intro has
    change WA RX7 cX7_isSign 2 [] _ _ 0 0 0 [some (.ref 267), some (.int c)] [] n _
    replace h : BD b N S0 S e := h
    refine wa_aload_n dX7_isSign_0 rfl ?_
    refine c_VI dX7_isSign_1 (mm_good hn) lk_X7_165 rfl (isO_MO _ _ _) rfl (ltS (by assumption)) ?_
    rw [b2i_0 h.n0]
    refine wa_if_eq 27 dX7_isSign_4 rfl (fun c4 => ?_) (fun c4 => absurd rfl c4)
    refine wa_iconst (x := 0) dX7_isSign_27 (by decide) ?_
    exact wa_ireturn dX7_isSign_28 ⟨Nat.le_refl _, Nat.le_refl _, ⟨_, rfl, rfl⟩, rfl, rfl, rfl⟩
  | inr s =>
    intro has
    change WA RX7 cX7_isSign 2 [] _ _ 0 0 0 [some (.ref 267), some (.int c)] [] n _
    replace h : GD b N S0 S s := h
    have ht3 := tk_3 b N s.1
    refine wa_aload_n dX7_isSign_0 rfl ?_
    refine c_VI dX7_isSign_1 (mm_good hn) lk_X7_165 rfl (isO_MO _ _ _) rfl (ltS (by assumption)) ?_
    rw [b2i_1 h.g0]
    refine wa_if_eq 27 dX7_isSign_4 rfl (fun c4 => absurd c4 (by decide)) (fun c4 => ?_)
    refine wa_aload_n dX7_isSign_7 rfl ?_
    refine g_MO (by assumption) 10 dX7_isSign_8 fl_X7_181 (by decide) rfl ?_
    rw [h.tok]
    refine wa_iconst (x := 3) dX7_isSign_11 (by decide) ?_
    refine wa_icmp_ne 27 dX7_isSign_12 rfl (fun c12 => ?_) (fun c12 => ?_)
    · refine wa_iconst (x := 0) dX7_isSign_27 (by decide) ?_
      first
      | exact wa_ireturn dX7_isSign_28 ⟨Nat.le_refl _, Nat.le_refl _, ⟨_, rfl, rfl⟩, ri (b2i_0 (fun z => c12 ((nI_eq (a := tk b N s.1) (b := 3) (by omega) (by decide)).mpr (isS_iff.mp z).1))).symm, rfl, rfl⟩
      | exact wa_ireturn dX7_isSign_28 ⟨Nat.le_refl _, Nat.le_refl _, ⟨_, rfl, rfl⟩, ri (b2i_0 (fun z => c20 ((sym_u8 h.1.1.by ht h0 h1).mpr (isS_iff.mp z).2))).symm, rfl, rfl⟩
      | exact wa_ireturn dX7_isSign_28 ⟨Nat.le_refl _, Nat.le_refl _, ⟨_, rfl, rfl⟩, ri (b2i_1 (isS_iff.mpr ⟨ht, (sym_u8 h.1.1.by ht h0 h1).mp c20⟩)).symm, rfl, rfl⟩
    · refine wa_aload_n dX7_isSign_15 rfl ?_
      have ht : tk b N s.1 = 3 := (nI_eq (a := tk b N s.1) (b := 3) (by omega) (by decide)).mp c12
      refine g_MO (by assumption) 11 dX7_isSign_16 fl_X7_192 (by decide) rfl ?_
      rw [h.val ht]
      refine wa_iload_n dX7_isSign_19 rfl ?_
      refine wa_icmp_ne 27 dX7_isSign_20 rfl (fun c20 => ?_) (fun c20 => ?_)
      · refine wa_iconst (x := 0) dX7_isSign_27 (by decide) ?_
        first
        | exact wa_ireturn dX7_isSign_28 ⟨Nat.le_refl _, Nat.le_refl _, ⟨_, rfl, rfl⟩, ri (b2i_0 (fun z => c12 ((nI_eq (a := tk b N s.1) (b := 3) (by omega) (by decide)).mpr (isS_iff.mp z).1))).symm, rfl, rfl⟩
        | exact wa_ireturn dX7_isSign_28 ⟨Nat.le_refl _, Nat.le_refl _, ⟨_, rfl, rfl⟩, ri (b2i_0 (fun z => c20 ((sym_u8 h.1.1.by ht h0 h1).mpr (isS_iff.mp z).2))).symm, rfl, rfl⟩
        | exact wa_ireturn dX7_isSign_28 ⟨Nat.le_refl _, Nat.le_refl _, ⟨_, rfl, rfl⟩, ri (b2i_1 (isS_iff.mpr ⟨ht, (sym_u8 h.1.1.by ht h0 h1).mp c20⟩)).symm, rfl, rfl⟩
      · refine wa_iconst (x := 1) dX7_isSign_23 (by decide) ?_
        refine wa_goto 28 dX7_isSign_24 rfl ?_
        first
        | exact wa_ireturn dX7_isSign_28 ⟨Nat.le_refl _, Nat.le_refl _, ⟨_, rfl, rfl⟩, ri (b2i_0 (fun z => c12 ((nI_eq (a := tk b N s.1) (b := 3) (by omega) (by decide)).mpr (isS_iff.mp z).1))).symm, rfl, rfl⟩
        | exact wa_ireturn dX7_isSign_28 ⟨Nat.le_refl _, Nat.le_refl _, ⟨_, rfl, rfl⟩, ri (b2i_0 (fun z => c20 ((sym_u8 h.1.1.by ht h0 h1).mpr (isS_iff.mp z).2))).symm, rfl, rfl⟩
        | exact wa_ireturn dX7_isSign_28 ⟨Nat.le_refl _, Nat.le_refl _, ⟨_, rfl, rfl⟩, ri (b2i_1 (isS_iff.mpr ⟨ht, (sym_u8 h.1.1.by ht h0 h1).mp c20⟩)).symm, rfl, rfl⟩
def pErr (c : Nat) (v : Bool) (s : PST) : PR PST := if v then .inl (c, s.1) else .inr s
theorem mm_errsIf {n : Nat} {S : SS} {b : Nat → Int32} {N : Nat} {S0 : SS} {x : PR PST} (hn : 279 ≤ n) (h : HS b N S0 S x) (v : Int32) (c : Nat) (P : PST → Bool) (h0 : 0 < c) (h6 : c < 6) (hv : ∀ s, x = .inr s → v = if P s then 1 else 0) : AM yX7_errsIf cX7_errsIf 3 none [] 2 0 0 [.ref 267, .int v, .int (nI c)] n (Hp S) (PVe n (fun S' => HS b N S0 S' (pb x (fun s => pErr c (P s) s)))) := by
  cases x with
  | inl e =>
    intro has
    change WA RX7 cX7_errsIf 3 [] _ _ 0 0 0 [some (.ref 267), some (.int v), some (.int (nI c))] [] n _
    replace h : BD b N S0 S e := h
    refine wa_aload_n dX7_errsIf_0 rfl ?_
    refine c_VI dX7_errsIf_1 (mm_good hn) lk_X7_165 rfl (isO_MO _ _ _) rfl (ltS (by assumption)) ?_
    rw [b2i_0 h.n0]
    refine wa_if_eq 16 dX7_errsIf_4 rfl (fun c4 => ?_) (fun c4 => absurd rfl c4)
    exact wa_return dX7_errsIf_16 ⟨Nat.le_refl _, Nat.le_refl _, rfl, rfl, rfl, _, rfl, h⟩
  | inr s =>
    intro has
    change WA RX7 cX7_errsIf 3 [] _ _ 0 0 0 [some (.ref 267), some (.int v), some (.int (nI c))] [] n _
    replace h : GD b N S0 S s := h
    have hv2 := hv s rfl
    refine wa_aload_n dX7_errsIf_0 rfl ?_
    refine c_VI dX7_errsIf_1 (mm_good hn) lk_X7_165 rfl (isO_MO _ _ _) rfl (ltS (by assumption)) ?_
    rw [b2i_1 h.g0]
    refine wa_if_eq 16 dX7_errsIf_4 rfl (fun c4 => absurd c4 (by decide)) (fun c4 => ?_)
    refine wa_iload_n dX7_errsIf_7 rfl ?_
    refine wa_if_eq 16 dX7_errsIf_8 rfl (fun c8 => ?_) (fun c8 => ?_)
    · first
      | (have hp : P s = true := Classical.byContradiction (fun z => c8 (by rw [hv2]; exact if_neg z))
         exact wa_return dX7_errsIf_16 ⟨Nat.le_refl _, Nat.le_refl _, rfl, rfl, rfl, _, rfl, by
           show HS b N S0 _ (pErr c (P s) s)
           unfold pErr
           rw [if_pos hp]
           exact h.er h0 h6⟩)
      | (have hp : ¬ P s = true := fun z => absurd (c8.symm.trans (hv2.trans (if_pos z))) (by decide)
         exact wa_return dX7_errsIf_16 ⟨Nat.le_refl _, Nat.le_refl _, rfl, rfl, rfl, _, rfl, by
           show HS b N S0 _ (pErr c (P s) s)
           unfold pErr
           rw [if_neg hp]
           exact h⟩)
    · refine wa_aload_n dX7_errsIf_11 rfl ?_
      refine wa_iload_n dX7_errsIf_12 rfl ?_
      refine c_VV dX7_errsIf_13 (mm_errs_g hn h.g0 _) lk_X7_208 rfl (isO_MO _ _ _) rfl (ltS (by assumption)) ?_
      first
      | (have hp : P s = true := Classical.byContradiction (fun z => c8 (by rw [hv2]; exact if_neg z))
         exact wa_return dX7_errsIf_16 ⟨Nat.le_refl _, Nat.le_refl _, rfl, rfl, rfl, _, rfl, by
           show HS b N S0 _ (pErr c (P s) s)
           unfold pErr
           rw [if_pos hp]
           exact h.er h0 h6⟩)
      | (have hp : ¬ P s = true := fun z => absurd (c8.symm.trans (hv2.trans (if_pos z))) (by decide)
         exact wa_return dX7_errsIf_16 ⟨Nat.le_refl _, Nat.le_refl _, rfl, rfl, rfl, _, rfl, by
           show HS b N S0 _ (pErr c (P s) s)
           unfold pErr
           rw [if_neg hp]
           exact h⟩)
