/-! ValveRoom: outputByte; writeProgram of no room; the letters of a name. Written by program (wip/whole/gen/m860.py) but for the heads. -/
theorem vr_writeProgram_1 {n : Nat} {S : SS} {g : Nat → Int32} {T : Int} (hn : 279 ≤ n) (h : HH S 34 g (fun _ => True)) (hg : GG T g) (r : Int32) (h1 : ¬ (0 ≤ r ∧ r < g 0)) : AM yX6_writeProgram cX6_writeProgram 4 (some .int) [] 6 1 6 [.ref 0, .int r] n (Hp S) (PX ab_xI n S) := by
  intro has
  change WA RX6 cX6_writeProgram 4 [] _ _ 0 0 0 [some (.ref 0), some (.int r), none, none] [] n _
  refine wa_aload_n dX6_writeProgram_0 rfl ?_
  refine wa_iload_n dX6_writeProgram_1 rfl ?_
  exact c_VX dX6_writeProgram_2 (vr_roomAtX hn h h1) lk_X6_134 rfl (isO_VR _ _ _) rfl (ltS hn) (wt_out ⟨Nat.le_refl _, Nat.le_refl _, trivial, rfl, rfl, rfl⟩ (by decide))
theorem vr_outputByte_0 {n m j : Nat} {S : SS} {f : Nat → Int32} (hn : 279 ≤ n) (h : SBI n S m j f) {i : Nat} (hi : i < m) : AM yX6_outputByte cX6_outputByte 2 (some .int) [] 4 1 6 [.ref 0, .int (nI i)] n (Hp S) (PI (f i) n S) := by
  intro has
  change WA RX6 cX6_outputByte 2 [] _ _ 0 0 0 [some (.ref 0), some (.int (nI i))] [] n _
  have hj := cpS_le (j := j) (by have := h.2.2.2.1.2; omega)
  have hm := h.2.2.2.1.1
  refine wa_iload_n dX6_outputByte_0 rfl ?_
  refine wa_if_lt 15 dX6_outputByte_1 rfl (fun c1 => absurd c1 (Int32.not_lt.mpr (nI_0le (by omega)))) (fun c1 => ?_)
  refine wa_iload_n dX6_outputByte_4 rfl ?_
  refine wa_aload_n dX6_outputByte_5 rfl ?_
  refine g_VR hn 3 dX6_outputByte_6 fl_X6_19 (by decide) rfl ?_
  refine c_VI dX6_outputByte_9 (sb_length hn h.2.2.1) lk_X6_303 rfl (isO_SB _ _ _) rfl (ltS hn) ?_
  refine wa_icmp_lt 26 dX6_outputByte_12 rfl (fun c12 => ?_) (fun c12 => absurd (nI_lt hi (by omega)) c12)
  refine wa_aload_n dX6_outputByte_26 rfl ?_
  refine g_VR hn 3 dX6_outputByte_27 fl_X6_19 (by decide) rfl ?_
  refine wa_iload_n dX6_outputByte_30 rfl ?_
  refine c_VI dX6_outputByte_31 (sb_charAt hn h hi) lk_X6_321 rfl (isO_SB _ _ _) rfl (ltS hn) ?_
  exact wa_ireturn dX6_outputByte_34 ⟨Nat.zero_le _, Nat.zero_le _, ⟨_, rfl, rfl⟩, rfl, rfl, rfl⟩
theorem vr_outputByte_1 {n m j : Nat} {S : SS} {f : Nat → Int32} (hn : 279 ≤ n) (h : SBI n S m j f) {x : Int32} (h1 : ¬ (0 ≤ x ∧ x < nI m)) : AM yX6_outputByte cX6_outputByte 2 (some .int) [] 4 1 6 [.ref 0, .int x] n (Hp S) (PX ab_xN n S) := by
  intro has
  change WA RX6 cX6_outputByte 2 [] _ _ 0 0 0 [some (.ref 0), some (.int x)] [] n _
  have hj := cpS_le (j := j) (by have := h.2.2.2.1.2; omega)
  have hm := h.2.2.2.1.1
  by_cases hx : x < 0
  · skip
    refine wa_iload_n dX6_outputByte_0 rfl ?_
    refine wa_if_lt 15 dX6_outputByte_1 rfl (fun c1 => ?_) (fun c1 => absurd hx c1)
    exact wa_throwXW nse_0 nse_1 nse_2 nse_5 xk_NSE (j := 18) rfl dX6_outputByte_15 dX6_outputByte_18 dX6_outputByte_19 dX6_outputByte_22 dX6_outputByte_25 (by decide) (by unfold ab_rm; refine ⟨?_, ?_, ?_, ?_⟩ <;> simp) ⟨Nat.le_refl _, Nat.le_refl _, trivial, rfl, rfl, rfl⟩
  have hx2 : ¬ x < nI m := fun z => h1 ⟨Int32.not_lt.mp hx, z⟩
  refine wa_iload_n dX6_outputByte_0 rfl ?_
  refine wa_if_lt 15 dX6_outputByte_1 rfl (fun c1 => absurd c1 hx) (fun c1 => ?_)
  refine wa_iload_n dX6_outputByte_4 rfl ?_
  refine wa_aload_n dX6_outputByte_5 rfl ?_
  refine g_VR hn 3 dX6_outputByte_6 fl_X6_19 (by decide) rfl ?_
  refine c_VI dX6_outputByte_9 (sb_length hn h.2.2.1) lk_X6_303 rfl (isO_SB _ _ _) rfl (ltS hn) ?_
  refine wa_icmp_lt 26 dX6_outputByte_12 rfl (fun c12 => absurd c12 hx2) (fun c12 => ?_)
  exact wa_throwXW nse_0 nse_1 nse_2 nse_5 xk_NSE (j := 18) rfl dX6_outputByte_15 dX6_outputByte_18 dX6_outputByte_19 dX6_outputByte_22 dX6_outputByte_25 (by decide) (by unfold ab_rm; refine ⟨?_, ?_, ?_, ?_⟩ <;> simp) ⟨Nat.le_refl _, Nat.le_refl _, trivial, rfl, rfl, rfl⟩
theorem nN_div {f : Nat → Int32} {p : Nat} : ∀ (k i : Nat), LET f p (k + i) → nN f p (k + i) / 27 ^ i = nN f p k
  | k, 0, _ => by rw [Nat.pow_zero, Nat.div_one, Nat.add_zero]
  | k, i + 1, h => by
    have h1 := h (k + i) (by omega)
    have e : nN f p (k + (i + 1)) = 27 * nN f p (k + i) + ((f (p + (k + i))).toInt.toNat - 96) := rfl
    have h2 : nN f p (k + (i + 1)) / 27 = nN f p (k + i) := by omega
    rw [Nat.pow_succ, Nat.mul_comm, ← Nat.div_div_eq_div_mul, h2]
    exact nN_div k i (fun j hj => h j (by omega))
theorem dk_uniB {B a m : Nat} (hB : 2 ≤ B) (h1 : B ^ m ≤ a) (h2 : a < B ^ (m + 1)) : dk B a = m := by
  have hle := dk_le hB h2
  refine Nat.le_antisymm hle (Nat.le_of_not_lt (fun z => ?_))
  have h3 := (dk_ok hB a).2
  have h4 : B ^ (dk B a + 1) ≤ B ^ m := Nat.pow_le_pow_right (by omega) z
  omega
theorem dd_get {B o a : Nat} {c : Int32} {j i : Nat} (h : (dd B o a j)[i]? = some c) : i < j ∧ c = nI (o + a / B ^ (j - 1 - i) % B) := dd_at j i c h
/-- a name's number gives its letters -/
theorem nmN_let {f : Nat → Int32} {l : Nat} (hl : 1 ≤ l ∧ l ≤ 6) (h : LET f 0 l) : (nmN (nN f 0 l)).length = l ∧ ∀ i c, (nmN (nN f 0 l))[i]? = some c → f i = c := by
  obtain ⟨a1, a2⟩ := nN_lt l h
  have a3 := a2 hl.1
  have h1 : 0 < 27 ^ (l - 1) := Nat.pow_pos (by decide)
  have ed : dk 27 (nN f 0 l) = l - 1 := dk_uniB (by decide) a3 (by rw [Nat.sub_add_cancel hl.1]; exact a1)
  have en : nmN (nN f 0 l) = dd 27 96 (nN f 0 l) l := by
    unfold nmN
    rw [if_pos (by omega), ed, Nat.sub_add_cancel hl.1]
  rw [en]
  refine ⟨dd_len _ _ _ _, fun i c hc => ?_⟩
  obtain ⟨b1, b2⟩ := dd_get hc
  have e1 := nN_div (f := f) (p := 0) (i + 1) (l - 1 - i) (by rw [show i + 1 + (l - 1 - i) = l by omega]; exact h)
  rw [show i + 1 + (l - 1 - i) = l by omega] at e1
  have e2 : nN f 0 (i + 1) = 27 * nN f 0 i + ((f (0 + i)).toInt.toNat - 96) := rfl
  have h3 := h i b1
  rw [Nat.zero_add] at e2 h3
  rw [b2, e1, e2]
  obtain ⟨e3, -⟩ := nI_of_nn (x := f i) (by omega)
  rw [e3]
  congr 1
  rw [nI_toInt (by omega)]
  omega
theorem NMR.let {g : Nat → Int32} {nf : Nat → Nat → Int32} {nl : Nat → Nat} (h : NMR g nf nl) : ∀ i, i < rn g → (nmr g i).length = nl i ∧ ∀ q c, (nmr g i)[q]? = some c → nf i q = c := fun i hi => by
  obtain ⟨h1, h2, h3, h4⟩ := h i hi
  obtain ⟨a1, -⟩ := nN_lt (nl i) h1
  have h6 : 27 ^ (nl i) ≤ 27 ^ 6 := Nat.pow_le_pow_right (by decide) h3
  have e6 : (27 : Nat) ^ 6 = 387420489 := by decide
  have : nmr g i = nmN (nN (nf i) 0 (nl i)) := by
    unfold nmr
    rw [h4, nmo_nN _ h3 h1, nI_toInt (by omega)]
    rfl
  rw [this]
  exact nmN_let ⟨h2, h3⟩ h1
