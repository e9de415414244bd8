/-! ValveRoomModel: write, writeIf, writeInt, writeName. Written by program (wip/whole/gen/m602.py) but for the heads. -/
/-- digits by base B: how many more than one; from the j-th down, o more -/
def dkf (B : Nat) : Nat → Nat → Nat
  | 0, _ => 0
  | f + 1, a => if a < B then 0 else dkf B f (a / B) + 1
def dk (B a : Nat) : Nat := dkf B a a
theorem dkf_ok {B : Nat} (hB : 2 ≤ B) : ∀ f a, a ≤ f → (B ^ dkf B f a ≤ a ∨ dkf B f a = 0) ∧ a < B ^ (dkf B f a + 1) := by
  intro f
  induction f with
  | zero =>
    intro a ha
    refine ⟨Or.inr rfl, ?_⟩
    show a < B ^ 1
    rw [Nat.pow_one]; omega
  | succ f ih =>
    intro a ha
    by_cases h : a < B
    · have e : dkf B (f + 1) a = 0 := if_pos h
      rw [e]
      refine ⟨Or.inr rfl, ?_⟩
      rw [Nat.zero_add, Nat.pow_one]; exact h
    · have e : dkf B (f + 1) a = dkf B f (a / B) + 1 := if_neg h
      have hlt : a / B < a := Nat.div_lt_self (by omega) (by omega)
      obtain ⟨h1, h2⟩ := ih (a / B) (by omega)
      rw [e]
      refine ⟨Or.inl ?_, ?_⟩
      · rcases h1 with h1 | h1
        · rw [Nat.pow_succ]
          exact (Nat.le_div_iff_mul_le (by omega)).mp h1
        · rw [h1, Nat.zero_add, Nat.pow_one]; omega
      · rw [Nat.pow_succ]
        exact (Nat.div_lt_iff_lt_mul (by omega)).mp h2
theorem dk_ok {B : Nat} (hB : 2 ≤ B) (a : Nat) : (B ^ dk B a ≤ a ∨ dk B a = 0) ∧ a < B ^ (dk B a + 1) := dkf_ok hB a a (Nat.le_refl _)
theorem dk_lt {B a k : Nat} (hB : 2 ≤ B) (h : k < dk B a) : B ^ (k + 1) ≤ a := by
  rcases (dk_ok hB a).1 with h1 | h1
  · exact Nat.le_trans (Nat.pow_le_pow_right (by omega) h) h1
  · omega
theorem dk_pow {B a k : Nat} (hB : 2 ≤ B) (ha : a < 2 ^ 31) (h : k ≤ dk B a) : B ^ k < 2 ^ 31 := by
  cases k with
  | zero => rw [Nat.pow_zero]; decide
  | succ k => exact Nat.lt_of_le_of_lt (dk_lt hB h) ha
def dd (B o a : Nat) : Nat → List Int32
  | 0 => []
  | j + 1 => nI (o + a / B ^ j % B) :: dd B o a j
theorem dd_len (B o a : Nat) : ∀ j, (dd B o a j).length = j
  | 0 => rfl
  | j + 1 => congrArg (· + 1) (dd_len B o a j)
def decN (a : Nat) : List Int32 := dd 10 48 a (dk 10 a + 1)
def decI (v : Int32) : List Int32 := (if v < 0 then [45] else []) ++ decN v.toInt.natAbs
def nmN (a : Nat) : List Int32 := if 0 < a then dd 27 96 a (dk 27 a + 1) else []
theorem dk_le {B a m : Nat} (hB : 2 ≤ B) (h : a < B ^ (m + 1)) : dk B a ≤ m := by
  rcases Nat.lt_or_ge m (dk B a) with q | q
  · have := dk_lt hB q; omega
  · exact q
/-- bytes written -/
def bt (x : Int32) : Int32 := vp_nar .byte x.toInt8.toInt32
theorem bt_lo {k : Nat} (h : k < 128) : bt (nI k) = nI k := (by decide +kernel : ∀ k, k < 128 → bt (nI k) = nI k) k h
def ol (S : SS) : Nat := (S.1 267 20).toInt.toNat
theorem ol_e {S : SS} {m : Nat} (h : S.1 267 20 = nI m) (hm : m < 2 ^ 31) : ol S = m := by
  unfold ol; rw [h, nI_toInt hm]; rfl
def wr (c : Int32) (S : SS) : SS := ss (ss S 276 (ol S) c) 267 20 (nI (ol S + 1))
def wrs (S : SS) (l : List Int32) : SS := l.foldl (fun S c => wr c S) S
theorem wr_20 {c : Int32} {S : SS} {m : Nat} (h : S.1 267 20 = nI m) (hm : m < 2 ^ 31) : (wr c S).1 267 20 = nI (m + 1) := by
  unfold wr; rw [ol_e h hm]; rfl
theorem wr_2 (c : Int32) (S : SS) : (wr c S).2 = S.2 := rfl
theorem wr_n (c : Int32) (S : SS) {a : Nat} (h1 : ¬ a = 276) (h2 : ¬ a = 267) : (wr c S).1 a = S.1 a := by
  unfold wr
  show (if a = 267 then _ else (if a = 276 then _ else S.1 a)) = _
  rw [if_neg h2, if_neg h1]
theorem wr_j (c : Int32) (S : SS) {j : Nat} (h : ¬ j = 20) : (wr c S).1 267 j = S.1 267 j := if_neg h
theorem wrs_2 : ∀ (l : List Int32) (S : SS), (wrs S l).2 = S.2
  | [], _ => rfl
  | c :: l, S => (wrs_2 l (wr c S)).trans (wr_2 c S)
theorem wrs_n {a : Nat} (h1 : ¬ a = 276) (h2 : ¬ a = 267) : ∀ (l : List Int32) (S : SS), (wrs S l).1 a = S.1 a
  | [], _ => rfl
  | c :: l, S => (wrs_n h1 h2 l (wr c S)).trans (wr_n c S h1 h2)
theorem wrs_j {j : Nat} (h : ¬ j = 20) : ∀ (l : List Int32) (S : SS), (wrs S l).1 267 j = S.1 267 j
  | [], _ => rfl
  | c :: l, S => (wrs_j h l (wr c S)).trans (wr_j c S h)
theorem wrs_20 : ∀ (l : List Int32) {S : SS} {m : Nat}, S.1 267 20 = nI m → m + l.length < 2 ^ 31 → (wrs S l).1 267 20 = nI (m + l.length)
  | [], _, _, h, _ => h
  | c :: l, S, m, h, hm => by
    have hm' : m + (l.length + 1) < 2 ^ 31 := hm
    have := wrs_20 l (S := wr c S) (m := m + 1) (wr_20 h (by omega)) (by omega)
    rw [show m + (c :: l).length = m + 1 + l.length by rw [List.length_cons]; omega]
    exact this
theorem wrs_app (l l' : List Int32) (S : SS) : wrs (wrs S l) l' = wrs S (l ++ l') := (List.foldl_append).symm
theorem wrs_mr (l : List Int32) (S : SS) : mr (wrs S l) = mr S := mr_2 (wrs_2 l S)
theorem wrs_row (l : List Int32) (S : SS) : row (wrs S l) = row S := by
  show (wrs S l).1 (mr (wrs S l)) = S.1 (mr S)
  rw [wrs_mr]
  rcases mr_cases S with e | e <;> rw [e] <;> exact wrs_n (by decide) (by decide) l S
theorem wrs_at : ∀ (l : List Int32) {S : SS} {m : Nat}, S.1 267 20 = nI m → m + l.length < 2 ^ 31 → (∀ j, j < m → (wrs S l).1 276 j = S.1 276 j) ∧ ∀ j c, l[j]? = some c → (wrs S l).1 276 (m + j) = c
  | [], _, _, _, _ => ⟨fun _ _ => rfl, fun j c h => by cases h⟩
  | c :: l, S, m, h, hm => by
    have hm' : m + (l.length + 1) < 2 ^ 31 := hm
    obtain ⟨h1, h2⟩ := wrs_at l (S := wr c S) (m := m + 1) (wr_20 h (by omega)) (by omega)
    have e0 : ∀ j, (wr c S).1 276 j = if j = m then c else S.1 276 j := fun j => by
      unfold wr
      rw [ol_e h (by omega)]
      rfl
    refine ⟨fun j hj => ?_, fun j c' hc => ?_⟩
    · show (wrs (wr c S) l).1 276 j = _
      rw [h1 j (by omega), e0, if_neg (by omega)]
    · show (wrs (wr c S) l).1 276 (m + j) = c'
      cases j with
      | zero => cases hc; rw [h1 _ (by omega), e0]; exact if_pos rfl
      | succ j =>
        have := h2 j c' hc
        rw [show m + (j + 1) = m + 1 + j by omega]; exact this
theorem mm_write {n m : Nat} {S : SS} (hn : 279 ≤ n) (h20 : S.1 267 20 = nI m) (hm : m < 500) (x : Int32) : AM yX7_write cX7_write 2 none [] 0 0 0 [.ref 267, .int x] n (Hp S) (PV n (wr (bt x) S)) := by
  intro has
  change WA RX7 cX7_write 2 [] _ _ 0 0 0 [some (.ref 267), some (.int x)] [] n _
  refine wa_aload_n dX7_write_0 rfl ?_
  refine g_MO (by assumption) 19 dX7_write_1 fl_X7_50 (by decide) rfl ?_
  refine wa_aload_n dX7_write_4 rfl ?_
  refine g_MO (by assumption) 20 dX7_write_5 fl_X7_424 (by decide) rfl ?_
  refine wa_iload_n dX7_write_8 rfl ?_
  refine wa_i2b dX7_write_9 ?_
  refine s_bast (j := m) isA_output dX7_write_10 (ltS (by assumption)) (by rw [h20]; exact ix_nI (by omega)) hm ?_
  refine wa_aload_n dX7_write_11 rfl ?_
  refine wa_dup dX7_write_12 rfl ?_
  refine g_MO (by assumption) 20 dX7_write_13 fl_X7_424 (by decide) rfl ?_
  refine wa_iconst (x := 1) dX7_write_16 (by decide) ?_
  refine wa_iadd dX7_write_17 ?_
  refine p_MO (by assumption) 20 dX7_write_18 fl_X7_424 (by decide) rfl rfl rfl rfl (fun _ _ _ => rfl) (Nat.le_of_ble_eq_true rfl) ?_
  exact wa_return dX7_write_21 ⟨Nat.le_refl _, Nat.le_refl _, rfl, rfl, rfl, (congrArg Hp (by unfold wr bt; rw [ol_e h20 (by omega)]; congr 1; show S.1 267 20 + 1 = _; rw [h20]; exact nI_1 m))⟩
theorem mm_writeIf {n m : Nat} {S : SS} (hn : 279 ≤ n) (h20 : S.1 267 20 = nI m) (hm : m < 500) (P : Prop) [Decidable P] (x : Int32) : AM yX7_writeIf cX7_writeIf 3 none [] 1 0 0 [.ref 267, .int (b2i P), .int x] n (Hp S) (PV n (wrs S (if P then [bt x] else []))) := by
  intro has
  change WA RX7 cX7_writeIf 3 [] _ _ 0 0 0 [some (.ref 267), some (.int (b2i P)), some (.int x)] [] n _
  refine wa_iload_n dX7_writeIf_0 rfl ?_
  refine wa_if_eq 9 dX7_writeIf_1 rfl (fun c1 => ?_) (fun c1 => ?_)
  · first
    | exact wa_return dX7_writeIf_9 ⟨Nat.le_refl _, Nat.le_refl _, rfl, rfl, rfl, (congrArg Hp (by rw [if_neg (b2i_f c1)]; rfl))⟩
    | exact wa_return dX7_writeIf_9 ⟨Nat.le_refl _, Nat.le_refl _, rfl, rfl, rfl, (congrArg Hp (by rw [if_pos (b2i_t c1)]; rfl))⟩
  · refine wa_aload_n dX7_writeIf_4 rfl ?_
    refine wa_iload_n dX7_writeIf_5 rfl ?_
    refine c_VV dX7_writeIf_6 (mm_write hn h20 hm x) lk_X7_427 rfl (isO_MO _ _ _) rfl (ltS (by assumption)) ?_
    first
    | exact wa_return dX7_writeIf_9 ⟨Nat.le_refl _, Nat.le_refl _, rfl, rfl, rfl, (congrArg Hp (by rw [if_neg (b2i_f c1)]; rfl))⟩
    | exact wa_return dX7_writeIf_9 ⟨Nat.le_refl _, Nat.le_refl _, rfl, rfl, rfl, (congrArg Hp (by rw [if_pos (b2i_t c1)]; rfl))⟩
theorem nI_nz {k : Nat} (h : 0 < k) (hk : k < 2 ^ 31) : ¬ nI k = 0 := fun z => by
  have := nI_inj (b := 0) hk (by decide) z
  omega
theorem iabs_nI {v : Int32} (h : -2147483648 < v.toInt) : i_abs v = nI v.toInt.natAbs := by
  have h2 := v.toInt_lt
  unfold i_abs
  by_cases h0 : 0 ≤ v
  · rw [if_pos h0]
    rw [Int32.le_iff_toInt_le, Int32.toInt_zero] at h0
    apply Int32.toInt_inj.mp
    rw [nI_toInt (by omega)]
    omega
  · rw [if_neg h0]
    rw [Int32.le_iff_toInt_le, Int32.toInt_zero] at h0
    apply Int32.toInt_inj.mp
    rw [nI_toInt (by omega), Int32.toInt_neg]
    rw [Int.bmod_eq_of_le (by omega) (by omega)]
    omega
theorem lp_wint1 {Q : ab_Q} {n a : Nat} {S : SS} (x1 : Int32) (ha : a < 2 ^ 31) (hQ : WA RX7 cX7_writeInt 5 [] (ab_rm 1 0 0) Q 0 0 33 [some (.ref 267), some (.int x1), some (.int (nI a)), some (.int (nI (10 ^ dk 10 a))), none] [] n (Hp S)) :
    ∀ (r k : Nat), k + r = dk 10 a → WA RX7 cX7_writeInt 5 [] (ab_rm 1 0 0) Q 0 0 17 [some (.ref 267), some (.int x1), some (.int (nI a)), some (.int (nI (10 ^ k))), none] [] n (Hp S) := by
  intro r
  induction r with
  | zero =>
    intro k hk
    have hk' : k = dk 10 a := by omega
    subst hk'
    

    refine wa_iload_n dX7_writeInt_17 rfl ?_
    refine wa_iload_n dX7_writeInt_18 rfl ?_
    refine wa_idiv dX7_writeInt_19 (nI_nz (Nat.pow_pos (by decide)) (dk_pow (by decide) ha (Nat.le_refl _))) ?_
    rw [nI_div ha (dk_pow (by decide) ha (Nat.le_refl _)) (Nat.pow_pos (by decide))]
    refine wa_bipush (x := 10) dX7_writeInt_20 (by decide) ?_
    refine wa_icmp_lt 33 dX7_writeInt_22 rfl (fun c22 => ?_) (fun c22 => absurd (nI_lt (b := 10) ((Nat.div_lt_iff_lt_mul (Nat.pow_pos (by decide))).mpr (by have := (dk_ok (B := 10) (by decide) a).2; rw [Nat.pow_succ, Nat.mul_comm] at this; exact this)) (by decide)) c22)
    exact hQ
  | succ r ih =>
    intro k hk

    refine wa_iload_n dX7_writeInt_17 rfl ?_
    refine wa_iload_n dX7_writeInt_18 rfl ?_
    have h9 : 10 ^ k < 2 ^ 31 := dk_pow (B := 10) (a := a) (by decide) ha (by omega)
    refine wa_idiv dX7_writeInt_19 (nI_nz (Nat.pow_pos (by decide)) h9) ?_
    rw [nI_div ha h9 (Nat.pow_pos (by decide))]
    refine wa_bipush (x := 10) dX7_writeInt_20 (by decide) ?_
    refine wa_icmp_lt 33 dX7_writeInt_22 rfl (fun c22 => absurd c22 (Int32.not_lt.mpr (nI_le (a := 10) ((Nat.le_div_iff_mul_le (Nat.pow_pos (by decide))).mpr (by have := dk_lt (B := 10) (a := a) (k := k) (by decide) (by omega); rw [Nat.pow_succ, Nat.mul_comm] at this; exact this)) (Nat.lt_of_le_of_lt (Nat.div_le_self _ _) ha)))) (fun c22 => ?_)
    refine wa_iload_n dX7_writeInt_25 rfl ?_
    refine wa_bipush (x := 10) dX7_writeInt_26 (by decide) ?_
    refine wa_imul dX7_writeInt_28 ?_
    rw [show nI (10 ^ k) * 10 = nI (10 ^ (k + 1)) from (nI_mul _ 10).trans (congrArg nI (by rw [Nat.pow_succ]))]
    refine wa_istore_n dX7_writeInt_29 rfl ?_
    refine wa_goto 17 dX7_writeInt_30 rfl ?_
    exact ih (k + 1) (by omega)
theorem lp_wint2 {Q : ab_Q} {n a : Nat} (x1 x3 : Int32) (hn : 279 ≤ n) (ha : a < 2 ^ 31) : ∀ (j : Nat) {S : SS} {m : Nat}, S.1 267 20 = nI m → m + j < 500 → 10 ^ j < 2 ^ 31 → Q (.inl none) 0 0 n (Hp (wrs S (dd 10 48 a (j + 1)))) → WA RX7 cX7_writeInt 5 [] (ab_rm 1 0 0) Q 0 0 36 [some (.ref 267), some (.int x1), some (.int (nI a)), some (.int x3), some (.int (nI (10 ^ j)))] [] n (Hp S) := by
  intro j
  induction j with
  | zero =>
    intro S m h20 hm hj hQ
    refine wa_iload dX7_writeInt_36 rfl ?_
    refine wa_if_le 65 dX7_writeInt_38 rfl (fun c38 => absurd c38 (Int32.not_le.mpr (nI_lt (a := 0) (Nat.pow_pos (by decide)) hj))) (fun c38 => ?_)
    refine wa_aload_n dX7_writeInt_41 rfl ?_
    refine wa_bipush (x := 48) dX7_writeInt_42 (by decide) ?_
    refine wa_iload_n dX7_writeInt_44 rfl ?_
    refine wa_iload dX7_writeInt_45 rfl ?_
    refine wa_idiv dX7_writeInt_47 (nI_nz (Nat.pow_pos (by decide)) hj) ?_
    rw [nI_div ha hj (Nat.pow_pos (by decide))]
    refine wa_bipush (x := 10) dX7_writeInt_48 (by decide) ?_
    refine wa_irem dX7_writeInt_50 (by decide) ?_
    rw [show nI (a / 10 ^ 0) - nI (a / 10 ^ 0) / 10 * 10 = nI (a / 10 ^ 0 % 10) from nI_rem (b := 10) (Nat.lt_of_le_of_lt (Nat.div_le_self _ _) ha) (by decide) (by decide)]
    refine wa_iadd dX7_writeInt_51 ?_
    rw [show (48 : Int32) + nI (a / 10 ^ 0 % 10) = nI (48 + a / 10 ^ 0 % 10) from nI_add 48 _]
    refine c_VV dX7_writeInt_52 (mm_write hn h20 (by omega) _) lk_X7_427 rfl (isO_MO _ _ _) rfl (ltS (by assumption)) ?_
    rw [bt_lo (show 48 + a / 10 ^ 0 % 10 < 128 by have := Nat.mod_lt (a / 10 ^ 0) (show 0 < 10 by decide); omega)]
    refine wa_iload dX7_writeInt_55 rfl ?_
    refine wa_bipush (x := 10) dX7_writeInt_57 (by decide) ?_
    refine wa_idiv dX7_writeInt_59 (by decide) ?_
    refine wa_istore dX7_writeInt_60 rfl ?_
    refine wa_goto 36 dX7_writeInt_62 rfl ?_
    rw [show nI (10 ^ 0) / 10 = 0 from by decide]
    refine wa_iload dX7_writeInt_36 rfl ?_
    refine wa_if_le 65 dX7_writeInt_38 rfl (fun c38 => ?_) (fun c38 => absurd (by decide) c38)
    exact wa_return dX7_writeInt_65 hQ
  | succ j ih =>
    intro S m h20 hm hj hQ
    refine wa_iload dX7_writeInt_36 rfl ?_
    refine wa_if_le 65 dX7_writeInt_38 rfl (fun c38 => absurd c38 (Int32.not_le.mpr (nI_lt (a := 0) (Nat.pow_pos (by decide)) hj))) (fun c38 => ?_)
    refine wa_aload_n dX7_writeInt_41 rfl ?_
    refine wa_bipush (x := 48) dX7_writeInt_42 (by decide) ?_
    refine wa_iload_n dX7_writeInt_44 rfl ?_
    refine wa_iload dX7_writeInt_45 rfl ?_
    refine wa_idiv dX7_writeInt_47 (nI_nz (Nat.pow_pos (by decide)) hj) ?_
    rw [nI_div ha hj (Nat.pow_pos (by decide))]
    refine wa_bipush (x := 10) dX7_writeInt_48 (by decide) ?_
    refine wa_irem dX7_writeInt_50 (by decide) ?_
    rw [show nI (a / 10 ^ (j + 1)) - nI (a / 10 ^ (j + 1)) / 10 * 10 = nI (a / 10 ^ (j + 1) % 10) from nI_rem (b := 10) (Nat.lt_of_le_of_lt (Nat.div_le_self _ _) ha) (by decide) (by decide)]
    refine wa_iadd dX7_writeInt_51 ?_
    rw [show (48 : Int32) + nI (a / 10 ^ (j + 1) % 10) = nI (48 + a / 10 ^ (j + 1) % 10) from nI_add 48 _]
    refine c_VV dX7_writeInt_52 (mm_write hn h20 (by omega) _) lk_X7_427 rfl (isO_MO _ _ _) rfl (ltS (by assumption)) ?_
    rw [bt_lo (show 48 + a / 10 ^ (j + 1) % 10 < 128 by have := Nat.mod_lt (a / 10 ^ (j + 1)) (show 0 < 10 by decide); omega)]
    refine wa_iload dX7_writeInt_55 rfl ?_
    refine wa_bipush (x := 10) dX7_writeInt_57 (by decide) ?_
    refine wa_idiv dX7_writeInt_59 (by decide) ?_
    rw [show nI (10 ^ (j + 1)) / 10 = nI (10 ^ j) from (nI_div (b := 10) hj (by decide) (by decide)).trans (congrArg nI (by rw [Nat.pow_succ, Nat.mul_div_cancel _ (show 0 < 10 by decide)]))]
    refine wa_istore dX7_writeInt_60 rfl ?_
    refine wa_goto 36 dX7_writeInt_62 rfl ?_
    exact ih (S := wr _ S) (wr_20 h20 (by omega)) (by omega) (Nat.lt_of_le_of_lt (Nat.pow_le_pow_right (by decide) (Nat.le_succ _)) hj) hQ
theorem wint_tail {Q : ab_Q} {n m : Nat} {S : SS} {v : Int32} (hn : 279 ≤ n) (hv : -2147483648 < v.toInt) (h20 : S.1 267 20 = nI m) (hm : m + dk 10 v.toInt.natAbs < 500) (hQ : Q (.inl none) 0 0 n (Hp (wrs S (decN v.toInt.natAbs)))) : WA RX7 cX7_writeInt 5 [] (ab_rm 1 0 0) Q 0 0 10 [some (.ref 267), some (.int v), none, none, none] [] n (Hp S) := by
  have hv2 := v.toInt_lt
  have ha : v.toInt.natAbs < 2 ^ 31 := by omega
  refine wa_iload_n dX7_writeInt_10 rfl ?_
  refine c_SI dX7_writeInt_11 (am_abs _) lk_X7_82 rfl ?_
  rw [iabs_nI hv]
  refine wa_istore_n dX7_writeInt_14 rfl ?_
  refine wa_iconst (x := 1) dX7_writeInt_15 (by decide) ?_
  refine wa_istore_n dX7_writeInt_16 rfl ?_
  rw [show (1 : Int32) = nI (10 ^ 0) from rfl]
  refine lp_wint1 v ha ?_ (dk 10 v.toInt.natAbs) 0 (Nat.zero_add _)
  refine wa_iload_n dX7_writeInt_33 rfl ?_
  refine wa_istore dX7_writeInt_34 rfl ?_
  exact lp_wint2 v _ hn ha (dk 10 v.toInt.natAbs) h20 (by omega) (dk_pow (by decide) ha (Nat.le_refl _)) hQ
theorem mm_writeInt {n m : Nat} {S : SS} {v : Int32} (hn : 279 ≤ n) (hv : -2147483648 < v.toInt) (h20 : S.1 267 20 = nI m) (hm : m + (decI v).length ≤ 500) : AM yX7_writeInt cX7_writeInt 5 none [] 1 0 0 [.ref 267, .int v] n (Hp S) (PV n (wrs S (decI v))) := by
  intro has
  change WA RX7 cX7_writeInt 5 [] _ _ 0 0 0 [some (.ref 267), some (.int v), none, none, none] [] n _
  have hl : (decI v).length = (if v < 0 then 1 else 0) + (dk 10 v.toInt.natAbs + 1) := by
    unfold decI decN
    rw [List.length_append, dd_len]
    split <;> rfl
  rw [hl] at hm
  refine wa_iload_n dX7_writeInt_0 rfl ?_
  refine wa_if_ge 10 dX7_writeInt_1 rfl (fun c1 => ?_) (fun c1 => ?_)
  · first
    | exact wint_tail hn hv h20 (by omega) ⟨Nat.le_refl _, Nat.le_refl _, rfl, rfl, rfl, congrArg Hp (by unfold decI; rw [if_neg (Int32.not_lt.mpr c1)]; rfl)⟩
    | (rw [if_pos (Int32.not_le.mp c1)] at hm
       exact wint_tail (S := wr 45 S) hn hv (wr_20 h20 (by omega)) (by omega) ⟨Nat.le_refl _, Nat.le_refl _, rfl, rfl, rfl, congrArg Hp (by unfold decI; rw [if_pos (Int32.not_le.mp c1)]; rfl)⟩)
  · refine wa_aload_n dX7_writeInt_4 rfl ?_
    refine wa_bipush (x := 45) dX7_writeInt_5 (by decide) ?_
    refine c_VV dX7_writeInt_7 (mm_write hn h20 (by omega) 45) lk_X7_427 rfl (isO_MO _ _ _) rfl (ltS (by assumption)) ?_
    rw [show bt 45 = 45 from by decide]
    first
    | exact wint_tail hn hv h20 (by omega) ⟨Nat.le_refl _, Nat.le_refl _, rfl, rfl, rfl, congrArg Hp (by unfold decI; rw [if_neg (Int32.not_lt.mpr c1)]; rfl)⟩
    | (rw [if_pos (Int32.not_le.mp c1)] at hm
       exact wint_tail (S := wr 45 S) hn hv (wr_20 h20 (by omega)) (by omega) ⟨Nat.le_refl _, Nat.le_refl _, rfl, rfl, rfl, congrArg Hp (by unfold decI; rw [if_pos (Int32.not_le.mp c1)]; rfl)⟩)
theorem lp_wnam1 {Q : ab_Q} {n a : Nat} {S : SS} (x1 : Int32) (ha : a < 2 ^ 31) (hQ : WA RX7 cX7_writeName 5 [] (ab_rm 2 0 0) Q 0 0 26 [some (.ref 267), some (.int x1), some (.int (nI a)), some (.int (nI (27 ^ dk 27 a))), none] [] n (Hp S)) :
    ∀ (r k : Nat), k + r = dk 27 a → WA RX7 cX7_writeName 5 [] (ab_rm 2 0 0) Q 0 0 10 [some (.ref 267), some (.int x1), some (.int (nI a)), some (.int (nI (27 ^ k))), none] [] n (Hp S) := by
  intro r
  induction r with
  | zero =>
    intro k hk
    have hk' : k = dk 27 a := by omega
    subst hk'
    

    refine wa_iload_n dX7_writeName_10 rfl ?_
    refine wa_iload_n dX7_writeName_11 rfl ?_
    refine wa_idiv dX7_writeName_12 (nI_nz (Nat.pow_pos (by decide)) (dk_pow (by decide) ha (Nat.le_refl _))) ?_
    rw [nI_div ha (dk_pow (by decide) ha (Nat.le_refl _)) (Nat.pow_pos (by decide))]
    refine wa_bipush (x := 27) dX7_writeName_13 (by decide) ?_
    refine wa_icmp_lt 26 dX7_writeName_15 rfl (fun c15 => ?_) (fun c15 => absurd (nI_lt (b := 27) ((Nat.div_lt_iff_lt_mul (Nat.pow_pos (by decide))).mpr (by have := (dk_ok (B := 27) (by decide) a).2; rw [Nat.pow_succ, Nat.mul_comm] at this; exact this)) (by decide)) c15)
    exact hQ
  | succ r ih =>
    intro k hk

    refine wa_iload_n dX7_writeName_10 rfl ?_
    refine wa_iload_n dX7_writeName_11 rfl ?_
    have h9 : 27 ^ k < 2 ^ 31 := dk_pow (B := 27) (a := a) (by decide) ha (by omega)
    refine wa_idiv dX7_writeName_12 (nI_nz (Nat.pow_pos (by decide)) h9) ?_
    rw [nI_div ha h9 (Nat.pow_pos (by decide))]
    refine wa_bipush (x := 27) dX7_writeName_13 (by decide) ?_
    refine wa_icmp_lt 26 dX7_writeName_15 rfl (fun c15 => absurd c15 (Int32.not_lt.mpr (nI_le (a := 27) ((Nat.le_div_iff_mul_le (Nat.pow_pos (by decide))).mpr (by have := dk_lt (B := 27) (a := a) (k := k) (by decide) (by omega); rw [Nat.pow_succ, Nat.mul_comm] at this; exact this)) (Nat.lt_of_le_of_lt (Nat.div_le_self _ _) ha)))) (fun c15 => ?_)
    refine wa_iload_n dX7_writeName_18 rfl ?_
    refine wa_bipush (x := 27) dX7_writeName_19 (by decide) ?_
    refine wa_imul dX7_writeName_21 ?_
    rw [show nI (27 ^ k) * 27 = nI (27 ^ (k + 1)) from (nI_mul _ 27).trans (congrArg nI (by rw [Nat.pow_succ]))]
    refine wa_istore_n dX7_writeName_22 rfl ?_
    refine wa_goto 10 dX7_writeName_23 rfl ?_
    exact ih (k + 1) (by omega)
theorem lp_wnam2 {Q : ab_Q} {n a : Nat} (x1 x3 : Int32) (hn : 279 ≤ n) (ha : a < 2 ^ 31) (h0 : 0 < a) : ∀ (j : Nat) {S : SS} {m : Nat}, S.1 267 20 = nI m → m + j < 500 → 27 ^ j < 2 ^ 31 → Q (.inl none) 0 0 n (Hp (wrs S (dd 27 96 a (j + 1)))) → WA RX7 cX7_writeName 5 [] (ab_rm 2 0 0) Q 0 0 29 [some (.ref 267), some (.int x1), some (.int (nI a)), some (.int x3), some (.int (nI (27 ^ j)))] [] n (Hp S) := by
  intro j
  induction j with
  | zero =>
    intro S m h20 hm hj hQ
    refine wa_iload dX7_writeName_29 rfl ?_
    refine wa_if_le 62 dX7_writeName_31 rfl (fun c31 => absurd c31 (Int32.not_le.mpr (nI_lt (a := 0) (Nat.pow_pos (by decide)) hj))) (fun c31 => ?_)
    refine wa_iload_n dX7_writeName_34 rfl ?_
    refine wa_if_le 62 dX7_writeName_35 rfl (fun c35 => absurd c35 (Int32.not_le.mpr (nI_lt (a := 0) h0 ha))) (fun c35 => ?_)
    refine wa_aload_n dX7_writeName_38 rfl ?_
    refine wa_bipush (x := 96) dX7_writeName_39 (by decide) ?_
    refine wa_iload_n dX7_writeName_41 rfl ?_
    refine wa_iload dX7_writeName_42 rfl ?_
    refine wa_idiv dX7_writeName_44 (nI_nz (Nat.pow_pos (by decide)) hj) ?_
    rw [nI_div ha hj (Nat.pow_pos (by decide))]
    refine wa_bipush (x := 27) dX7_writeName_45 (by decide) ?_
    refine wa_irem dX7_writeName_47 (by decide) ?_
    rw [show nI (a / 27 ^ 0) - nI (a / 27 ^ 0) / 27 * 27 = nI (a / 27 ^ 0 % 27) from nI_rem (b := 27) (Nat.lt_of_le_of_lt (Nat.div_le_self _ _) ha) (by decide) (by decide)]
    refine wa_iadd dX7_writeName_48 ?_
    rw [show (96 : Int32) + nI (a / 27 ^ 0 % 27) = nI (96 + a / 27 ^ 0 % 27) from nI_add 96 _]
    refine c_VV dX7_writeName_49 (mm_write hn h20 (by omega) _) lk_X7_427 rfl (isO_MO _ _ _) rfl (ltS (by assumption)) ?_
    rw [bt_lo (show 96 + a / 27 ^ 0 % 27 < 128 by have := Nat.mod_lt (a / 27 ^ 0) (show 0 < 27 by decide); omega)]
    refine wa_iload dX7_writeName_52 rfl ?_
    refine wa_bipush (x := 27) dX7_writeName_54 (by decide) ?_
    refine wa_idiv dX7_writeName_56 (by decide) ?_
    refine wa_istore dX7_writeName_57 rfl ?_
    refine wa_goto 29 dX7_writeName_59 rfl ?_
    rw [show nI (27 ^ 0) / 27 = 0 from by decide]
    refine wa_iload dX7_writeName_29 rfl ?_
    refine wa_if_le 62 dX7_writeName_31 rfl (fun c31 => ?_) (fun c31 => absurd (by decide) c31)
    exact wa_return dX7_writeName_62 hQ
  | succ j ih =>
    intro S m h20 hm hj hQ
    refine wa_iload dX7_writeName_29 rfl ?_
    refine wa_if_le 62 dX7_writeName_31 rfl (fun c31 => absurd c31 (Int32.not_le.mpr (nI_lt (a := 0) (Nat.pow_pos (by decide)) hj))) (fun c31 => ?_)
    refine wa_iload_n dX7_writeName_34 rfl ?_
    refine wa_if_le 62 dX7_writeName_35 rfl (fun c35 => absurd c35 (Int32.not_le.mpr (nI_lt (a := 0) h0 ha))) (fun c35 => ?_)
    refine wa_aload_n dX7_writeName_38 rfl ?_
    refine wa_bipush (x := 96) dX7_writeName_39 (by decide) ?_
    refine wa_iload_n dX7_writeName_41 rfl ?_
    refine wa_iload dX7_writeName_42 rfl ?_
    refine wa_idiv dX7_writeName_44 (nI_nz (Nat.pow_pos (by decide)) hj) ?_
    rw [nI_div ha hj (Nat.pow_pos (by decide))]
    refine wa_bipush (x := 27) dX7_writeName_45 (by decide) ?_
    refine wa_irem dX7_writeName_47 (by decide) ?_
    rw [show nI (a / 27 ^ (j + 1)) - nI (a / 27 ^ (j + 1)) / 27 * 27 = nI (a / 27 ^ (j + 1) % 27) from nI_rem (b := 27) (Nat.lt_of_le_of_lt (Nat.div_le_self _ _) ha) (by decide) (by decide)]
    refine wa_iadd dX7_writeName_48 ?_
    rw [show (96 : Int32) + nI (a / 27 ^ (j + 1) % 27) = nI (96 + a / 27 ^ (j + 1) % 27) from nI_add 96 _]
    refine c_VV dX7_writeName_49 (mm_write hn h20 (by omega) _) lk_X7_427 rfl (isO_MO _ _ _) rfl (ltS (by assumption)) ?_
    rw [bt_lo (show 96 + a / 27 ^ (j + 1) % 27 < 128 by have := Nat.mod_lt (a / 27 ^ (j + 1)) (show 0 < 27 by decide); omega)]
    refine wa_iload dX7_writeName_52 rfl ?_
    refine wa_bipush (x := 27) dX7_writeName_54 (by decide) ?_
    refine wa_idiv dX7_writeName_56 (by decide) ?_
    rw [show nI (27 ^ (j + 1)) / 27 = nI (27 ^ j) from (nI_div (b := 27) hj (by decide) (by decide)).trans (congrArg nI (by rw [Nat.pow_succ, Nat.mul_div_cancel _ (show 0 < 27 by decide)]))]
    refine wa_istore dX7_writeName_57 rfl ?_
    refine wa_goto 29 dX7_writeName_59 rfl ?_
    exact ih (S := wr _ S) (wr_20 h20 (by omega)) (by omega) (Nat.lt_of_le_of_lt (Nat.pow_le_pow_right (by decide) (Nat.le_succ _)) hj) hQ
theorem mm_writeName {n m i a : Nat} {S : SS} (hn : 279 ≤ n) (hi : i < 6) (ha : a < 2 ^ 31) (hv : of (row S) i 11 = nI a) (h20 : S.1 267 20 = nI m) (hm : m + (nmN a).length ≤ 500) (h0 : 0 < a) : AM yX7_writeName cX7_writeName 5 none [] 2 0 0 [.ref 267, .int (nI i)] n (Hp S) (PV n (wrs S (nmN a))) := by
  intro has
  change WA RX7 cX7_writeName 5 [] _ _ 0 0 0 [some (.ref 267), some (.int (nI i)), none, none, none] [] n _
  have hl : (nmN a).length = dk 27 a + 1 := by
    unfold nmN
    rw [if_pos h0, dd_len]
  rw [hl] at hm
  refine wa_aload_n dX7_writeName_0 rfl ?_
  refine wa_iload_n dX7_writeName_1 rfl ?_
  refine wa_bipush (x := 11) dX7_writeName_2 (by decide) ?_
  refine c_VI dX7_writeName_4 (mm_of2 (w := 11) hn hi (by decide)) lk_X7_68 rfl (isO_MO _ _ _) rfl (ltS (by assumption)) ?_
  rw [hv]
  refine wa_istore_n dX7_writeName_7 rfl ?_
  refine wa_iconst (x := 1) dX7_writeName_8 (by decide) ?_
  refine wa_istore_n dX7_writeName_9 rfl ?_
  rw [show (1 : Int32) = nI (27 ^ 0) from rfl]
  refine lp_wnam1 (nI i) ha ?_ (dk 27 a) 0 (Nat.zero_add _)
  refine wa_iload_n dX7_writeName_26 rfl ?_
  refine wa_istore dX7_writeName_27 rfl ?_
  exact lp_wnam2 (nI i) _ hn ha h0 (dk 27 a) h20 (by omega) (dk_pow (by decide) ha (Nat.le_refl _)) ⟨Nat.le_refl _, Nat.le_refl _, rfl, rfl, rfl, congrArg Hp (by unfold nmN; rw [if_pos h0])⟩
