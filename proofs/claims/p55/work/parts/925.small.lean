/-! THE LAW: draw, name, four, feed. Written by program (wip/p55/gen/m925.py) but for the heads. -/
/-- what is drawn of the script at k, below m -/
def dv (L : Nat) (xs : Nat → Int32) (k m : Nat) : Nat := ((if k < L then xs k else 0) &&& 2147483647).toInt.toNat % m
theorem dv_lt {L : Nat} {xs : Nat → Int32} (k m : Nat) (hm : 0 < m) : dv L xs k m < m := Nat.mod_lt _ hm
theorem and_nn (x : Int32) : 0 ≤ (x &&& 2147483647).toInt := by
  show 0 ≤ (x &&& 2147483647).toBitVec.toInt
  rw [Int32.toBitVec_and, BitVec.toInt_eq_msb_cond, BitVec.msb_and, show (2147483647 : Int32).toBitVec.msb = false from by decide, Bool.and_false]
  exact Int.natCast_nonneg _
theorem yl_draw {n L k m : Nat} {xs : Nat → Int32} {h : ab_H} (hL : L < 2 ^ 31) (hk : k < 2 ^ 31) (hm0 : 0 < m) (hm : m < 2 ^ 31) : AMX (ab_XS L xs) yL_draw cL_draw 3 (some .int) [] 0 0 0 [.ref (ab_CB + 500000), .int (nI k), .int (nI m)] n h (fun r n' h' => r = .inl (some (.int (nI (dv L xs k m)))) ∧ n' = n ∧ h' = h) := by
  intro has
  change WX (ab_XS L xs) RL cL_draw 3 [] _ _ 0 0 0 [some (.ref (ab_CB + 500000)), some (.int (nI k)), some (.int (nI m))] [] n _
  have tail : ∀ x : Int32, (if k < L then xs k else 0) = x → WX (ab_XS L xs) RL cL_draw 3 [] (ab_rm 0 0 0) (fun r k_1 z n' h' => k_1 ≤ 0 ∧ z ≤ 0 ∧ ab_rok (some .int) r ∧ r = .inl (some (.int (nI (dv L xs k m)))) ∧ n' = n ∧ h' = h) 0 0 13 [some (.ref (ab_CB + 500000)), some (.int (nI k)), some (.int (nI m))] [.int x] n h := by
    intro x hx
    have hw := nI_of_nn (and_nn x)
    refine wa_ldc dL_draw_13 wv_L_7 ?_
    refine wa_iand dL_draw_15 ?_
    refine wa_iload_n dL_draw_16 rfl ?_
    refine wa_irem dL_draw_17 (nI_ne0 hm0 hm) ?_
    rw [hw.1, nI_rem hw.2 hm hm0]
    refine wa_ireturn dL_draw_18 ⟨Nat.le_refl _, Nat.le_refl _, ⟨_, rfl, rfl⟩, ?_, rfl, rfl⟩
    unfold dv
    rw [hx]
  refine wa_iload_n dL_draw_0 rfl ?_
  refine wa_aload_n dL_draw_1 rfl ?_
  refine wx_slen dL_draw_2 rfl ?_
  rw [show Int32.ofNat L = nI L from rfl]
  refine wa_icmp_ge 12 dL_draw_3 rfl (fun c3 => ?_) (fun c3 => ?_)
  · refine wa_iconst (x := 0) dL_draw_12 (by decide) ?_
    exact tail 0 (if_neg (Nat.not_lt.mpr ((nI_leI hL hk).mp c3)))
  · have hkl : k < L := Nat.lt_of_not_le (fun z => c3 ((nI_leI hL hk).mpr z))
    refine wa_aload_n dL_draw_6 rfl ?_
    refine wa_iload_n dL_draw_7 rfl ?_
    refine wx_sld dL_draw_8 (nI_toInt hk) hkl ?_
    refine wa_goto 13 dL_draw_9 rfl ?_
    exact tail (xs k) (if_pos hkl)
theorem yl_name {n r : Nat} {h : ab_H} (hr : r < 3) : AM yL_name cL_name 1 (some .char) [] 0 0 0 [.int (nI r)] n h (PIh (nI (97 + r)) n h) := by
  intro has
  change WA RL cL_name 1 [] _ _ 0 0 0 [some (.int (nI r))] [] n _
  refine wa_bipush (x := 97) dL_name_0 (by decide) ?_
  refine wa_iload_n dL_name_2 rfl ?_
  refine wa_iadd dL_name_3 ?_
  refine wa_i2c dL_name_4 ?_
  have e := (by decide : ∀ r, r < 3 → (((97 : Int32) + nI r).toUInt32 % 65536).toInt32 = nI (97 + r) ∧ vp_nar .char (nI (97 + r)) = nI (97 + r)) r hr
  rw [e.1]
  exact wa_ireturn dL_name_5 ⟨Nat.le_refl _, Nat.le_refl _, ⟨_, rfl, (by decide : ∀ r, r < 3 → narrow .char (.int (nI (97 + r))) = .int (nI (97 + r))) r hr⟩, rfl, rfl, rfl⟩
/-- a byte of the text, 0 behind it -/
def gb (f : Nat → Int32) (len i : Nat) : Int32 := if i < len then f i else 0
def fv (f : Nat → Int32) (len at_ : Nat) : Nat → Int32
  | 0 => 0
  | k + 1 => (fv f len at_ k <<< ((8 : Int32) &&& 31)) ||| gb f len (at_ + k)
theorem chr_id {x : Int32} (h : 0 ≤ x.toInt ∧ x.toInt < 128) : chr x = x := by
  have e : x = nI x.toInt.toNat := Int32.toInt_inj.mp (by rw [nI_toInt (by omega)]; omega)
  rw [e]
  exact (by decide +kernel : ∀ k, k < 128 → chr (nI k) = nI k) _ (by omega)
def TBY (f : Nat → Int32) (len : Nat) : Prop := ∀ i, i < len → 0 ≤ (f i).toInt ∧ (f i).toInt < 128
theorem gb_by {f : Nat → Int32} {len : Nat} (h : TBY f len) (i : Nat) : ∃ a, a < 128 ∧ gb f len i = nI a := by
  unfold gb
  split
  · rename_i hi
    have q := h i hi
    exact ⟨(f i).toInt.toNat, by omega, (nI_of_nn q.1).1⟩
  · exact ⟨0, by decide, rfl⟩
theorem sh8 {x c : Nat} (hx : x < 2 ^ 23) (hc : c < 256) : (nI x <<< ((8 : Int32) &&& 31)) ||| nI c = nI (256 * x + c) := by
  refine Int32.toBitVec_inj.mp (BitVec.eq_of_toNat_eq ?_)
  have e1 : (nI x).toBitVec.toNat = x := by
    show (BitVec.ofNat 32 x).toNat = x
    rw [BitVec.toNat_ofNat, Nat.mod_eq_of_lt (by omega)]
  have e2 : (nI c).toBitVec.toNat = c := by
    show (BitVec.ofNat 32 c).toNat = c
    rw [BitVec.toNat_ofNat, Nat.mod_eq_of_lt (by omega)]
  have e3 : (nI (256 * x + c)).toBitVec.toNat = 256 * x + c := by
    show (BitVec.ofNat 32 (256 * x + c)).toNat = _
    rw [BitVec.toNat_ofNat, Nat.mod_eq_of_lt (by omega)]
  have e4 : (nI x <<< ((8 : Int32) &&& 31)).toBitVec = (nI x).toBitVec <<< 8 := rfl
  rw [Int32.toBitVec_or, BitVec.toNat_or, e4, BitVec.toNat_shiftLeft, e1, e2, e3, Nat.shiftLeft_eq, Nat.mod_eq_of_lt (by omega), ← Nat.shiftLeft_eq, ← Nat.shiftLeft_add_eq_or_of_lt (show c < 2 ^ 8 from hc), Nat.shiftLeft_eq]
  omega
theorem byt_of {V q s : Nat} {x : Int32} (hV : V < 2 ^ 31) (e : ∀ y : Int32, (y >>> (x &&& 31)).toBitVec = y.toBitVec.sshiftRight s) (hq : V / 2 ^ s % 256 = q) (h : q < 128) : byt (nI V) x = nI q := by
  have e1 : (nI V >>> (x &&& 31)) = nI (V / 2 ^ s) := by
    refine Int32.toInt_inj.mp ?_
    have h2 : V / 2 ^ s < 2 ^ 31 := Nat.lt_of_le_of_lt (Nat.div_le_self _ _) hV
    rw [nI_toInt h2]
    show (nI V >>> (x &&& 31)).toBitVec.toInt = _
    rw [e, BitVec.toInt_sshiftRight, Int.shiftRight_eq_div_pow]
    have e3 : (nI V).toBitVec.toInt = (V : Int) := nI_toInt hV
    rw [e3]
    norm_cast
  have e2 : (nI (V / 2 ^ s)).toInt8.toInt32 = nI q := by
    refine Int32.toInt_inj.mp ?_
    have h2 : V / 2 ^ s < 2 ^ 31 := Nat.lt_of_le_of_lt (Nat.div_le_self _ _) hV
    rw [Int8.toInt_toInt32, Int32.toInt_toInt8, nI_toInt h2, nI_toInt (by omega), Int.bmod_def]
    omega
  unfold byt
  rw [e1, e2]
  exact (by decide +kernel : ∀ k, k < 128 → vp_nar .byte (nI k) = nI k) q h
theorem b4_of {a b c d : Nat} (ha : a < 128) (hb : b < 128) (hc : c < 128) (hd : d < 128) : b4 (nI (256 * (256 * (256 * a + b) + c) + d)) = [nI a, nI b, nI c, nI d] := by
  unfold b4
  rw [byt_of (s := 24) (q := a) (by omega) (fun _ => rfl) (by omega) ha, byt_of (s := 16) (q := b) (by omega) (fun _ => rfl) (by omega) hb, byt_of (s := 8) (q := c) (by omega) (fun _ => rfl) (by omega) hc, byt_of (s := 0) (q := d) (by omega) (fun _ => rfl) (by omega) hd]
theorem b4_fv {f : Nat → Int32} {len p : Nat} (h : TBY f len) : b4 (fv f len p 4) = [gb f len p, gb f len (p + 1), gb f len (p + 2), gb f len (p + 3)] := by
  obtain ⟨a, ha, ea⟩ := gb_by h (p + 0)
  obtain ⟨b, hb, eb⟩ := gb_by h (p + 1)
  obtain ⟨c, hc, ec⟩ := gb_by h (p + 2)
  obtain ⟨d, hd, ed⟩ := gb_by h (p + 3)
  have e : fv f len p 4 = nI (256 * (256 * (256 * a + b) + c) + d) := by
    show ((((((0 : Int32) <<< ((8 : Int32) &&& 31)) ||| gb f len (p + 0)) <<< ((8 : Int32) &&& 31)) ||| gb f len (p + 1)) <<< ((8 : Int32) &&& 31) ||| gb f len (p + 2)) <<< ((8 : Int32) &&& 31) ||| gb f len (p + 3) = _
    rw [ea, eb, ec, ed, show (0 : Int32) = nI 0 from rfl, sh8 (by decide) (by omega), sh8 (by omega) (by omega), sh8 (by omega) (by omega), sh8 (by omega) (by omega), show 256 * 0 + a = a by omega]
  rw [e, b4_of ha hb hc hd, ← ea, ← eb, ← ec, ← ed]
  rfl
theorem lp_four {Q : ab_Q} {n a len t : Nat} {h : ab_H} {f : Nat → Int32} (hS : STR n h a len f) (hf : TBY f len) (ht : t < 2 ^ 30) (hQ : WA RL cL_four 4 [] (ab_rm 4 0 0) Q 0 0 42 [some (.ref a), some (.int (nI t)), some (.int (fv f len t 4)), some (.int (nI 4))] [] n h) :
    ∀ (r k : Nat), k + r = 4 → WA RL cL_four 4 [] (ab_rm 4 0 0) Q 0 0 4 [some (.ref a), some (.int (nI t)), some (.int (fv f len t k)), some (.int (nI k))] [] n h := by
  have hlen := hS.1
  intro r
  induction r with
  | zero =>
    intro k hk
    have e : k = 4 := by omega
    subst e
    refine wa_iload_n dL_four_4 rfl ?_
    refine wa_iconst (x := 4) dL_four_5 (by decide) ?_
    refine wa_icmp_ge 42 dL_four_6 rfl (fun c6 => ?_) (fun c6 => absurd (by decide) c6)
    exact hQ
  | succ r ih =>
    intro k hk
    refine wa_iload_n dL_four_4 rfl ?_
    refine wa_iconst (x := 4) dL_four_5 (by decide) ?_
    refine wa_icmp_ge 42 dL_four_6 rfl (fun c6 => absurd ((nI_leI (a := 4) (b := k) (by decide) (by omega)).mp c6) (by omega)) (fun c6 => ?_)
    refine wa_iload_n dL_four_9 rfl ?_
    refine wa_bipush (x := 8) dL_four_10 (by decide) ?_
    refine wa_ishl dL_four_12 ?_
    refine wa_iload_n dL_four_13 rfl ?_
    refine wa_iload_n dL_four_14 rfl ?_
    refine wa_iadd dL_four_15 ?_
    rw [nI_addS]
    refine wa_aload_n dL_four_16 rfl ?_
    refine c_VAh dL_four_17 (am_slen hS) lk_L_8 rfl hS.2.choose_spec.choose_spec.choose_spec.choose_spec.2.1.2 hS.2.choose_spec.choose_spec.choose_spec.choose_spec.1.1 hS.2.choose_spec.choose_spec.choose_spec.choose_spec.2.1.1 ?_
    have tail : ∀ c : Int32, gb f len (t + k) = c → WA RL cL_four 4 [] (ab_rm 4 0 0) Q 0 0 34 [some (.ref a), some (.int (nI t)), some (.int (fv f len t k)), some (.int (nI k))] [.int c, .int (fv f len t k <<< ((8 : Int32) &&& 31))] n h := by
      intro c hc
      refine wa_ior dL_four_34 ?_
      refine wa_istore_n dL_four_35 rfl ?_
      refine wa_iinc (y := 1) dL_four_36 rfl (by decide) rfl ?_
      refine wa_goto 4 dL_four_39 rfl ?_
      rw [show nI k + 1 = nI (k + 1) from nI_addS k 1, ← hc]
      exact ih (k + 1) (by omega)
    refine wa_icmp_ge 33 dL_four_20 rfl (fun c20 => ?_) (fun c20 => ?_)
    · refine wa_iconst (x := 0) dL_four_33 (by decide) ?_
      exact tail 0 (if_neg (Nat.not_lt.mpr ((nI_leI hlen (by omega)).mp c20)))
    · have hl : t + k < len := Nat.lt_of_not_le (fun z => c20 ((nI_leI hlen (by omega)).mpr z))
      refine wa_aload_n dL_four_23 rfl ?_
      refine wa_iload_n dL_four_24 rfl ?_
      refine wa_iload_n dL_four_25 rfl ?_
      refine wa_iadd dL_four_26 ?_
      rw [nI_addS]
      refine c_VAh (As := [.int (nI (t + k))]) dL_four_27 (am_charAt hS hl) lk_L_14 rfl hS.2.choose_spec.choose_spec.choose_spec.choose_spec.2.1.2 hS.2.choose_spec.choose_spec.choose_spec.choose_spec.1.1 hS.2.choose_spec.choose_spec.choose_spec.choose_spec.2.1.1 ?_
      refine wa_goto 34 dL_four_30 rfl ?_
      rw [chr_id (hf _ hl)]
      exact tail (f (t + k)) (if_pos hl)
theorem yl_four {n a len t : Nat} {h : ab_H} {f : Nat → Int32} (hS : STR n h a len f) (hf : TBY f len) (ht : t < 2 ^ 30) : AM yL_four cL_four 4 (some .int) [] 4 0 0 [.ref a, .int (nI t)] n h (PIh (fv f len t 4) n h) := by
  intro has
  change WA RL cL_four 4 [] _ _ 0 0 0 [some (.ref a), some (.int (nI t)), none, none] [] n _
  refine wa_iconst (x := 0) dL_four_0 (by decide) ?_
  refine wa_istore_n dL_four_1 rfl ?_
  refine wa_iconst (x := 0) dL_four_2 (by decide) ?_
  refine wa_istore_n dL_four_3 rfl ?_
  refine lp_four hS hf ht ?_ 4 0 rfl
  refine wa_iload_n dL_four_42 rfl ?_
  exact wa_ireturn dL_four_43 ⟨Nat.le_refl _, Nat.le_refl _, ⟨_, rfl, rfl⟩, rfl, rfl, rfl⟩
theorem aps_2 (a b j : Nat) : ∀ (l : List Int32) (m : Nat) (S : SS), (aps a b j m l S).2 = S.2
  | [], _, _ => rfl
  | x :: l, m, S => (aps_2 a b j l (m + 1) _).trans rfl
theorem aps_n {a b j k : Nat} (ha : ¬ k = a) (hb : ¬ k = b) : ∀ (l : List Int32) (m : Nat) (S : SS), (aps a b j m l S).1 k = S.1 k
  | [], _, _ => rfl
  | x :: l, m, S => (aps_n ha hb l (m + 1) _).trans ((if_neg hb).trans (if_neg ha))
theorem aps_b {a b j i : Nat} (hab : ¬ a = b) (hi : ¬ i = j) : ∀ (l : List Int32) (m : Nat) (S : SS), (aps a b j m l S).1 b i = S.1 b i
  | [], _, _ => rfl
  | x :: l, m, S => (aps_b hab hi l (m + 1) _).trans (by rw [ss_1, if_neg (by omega), ss_1, if_neg (by omega)])
theorem aps_lo {a b j i : Nat} (hab : ¬ a = b) : ∀ (l : List Int32) (m : Nat) (S : SS), i < m → (aps a b j m l S).1 a i = S.1 a i
  | [], _, _, _ => rfl
  | x :: l, m, S, h => (aps_lo hab l (m + 1) _ (by omega)).trans (by rw [ss_1, if_neg (by omega), ss_1, if_neg (by omega)])
theorem aps_at {a b j : Nat} (hab : ¬ a = b) : ∀ (l : List Int32) (m : Nat) (S : SS) (i : Nat) (x : Int32), l[i]? = some x → (aps a b j m l S).1 a (m + i) = x
  | y :: l, m, S, 0, v, h => by
    have e : y = v := by simpa using h
    subst e
    show (aps a b j (m + 1) l _).1 a m = y
    rw [aps_lo hab l (m + 1) _ (by omega), ss_1, if_neg (by omega), ss_1, if_pos ⟨rfl, rfl⟩]
  | y :: l, m, S, i + 1, v, h => by
    have q := aps_at (j := j) hab l (m + 1) (ss (ss S a m y) b j (nI (m + 1))) i v (by simpa using h)
    rw [show m + 1 + i = m + (i + 1) by omega] at q
    exact q
/-- m chunks of the text are in the buffer -/
def FD (f : Nat → Int32) (len m : Nat) (S S' : SS) : Prop := S'.2 = S.2 ∧ (∀ k, ¬ k = 1 → ¬ k = 2 → S'.1 k = S.1 k) ∧ (∀ i, ¬ i = 1 → S'.1 1 i = S.1 1 i) ∧ S'.1 1 1 = nI (20 * m) ∧ ∀ q, q < 20 * m → S'.1 2 q = gb f len q
def ch (f : Nat → Int32) (len t : Nat) : List Int32 := b4 (fv f len t 4) ++ (b4 (fv f len (t + 4) 4) ++ (b4 (fv f len (t + 8) 4) ++ (b4 (fv f len (t + 12) 4) ++ b4 (fv f len (t + 16) 4))))
theorem ch_at {f : Nat → Int32} {len t : Nat} (h : TBY f len) : (ch f len t).length = 20 ∧ ∀ i, i < 20 → (ch f len t)[i]? = some (gb f len (t + i)) := by
  unfold ch
  rw [b4_fv h, b4_fv h, b4_fv h, b4_fv h, b4_fv h]
  refine ⟨rfl, fun i hi => ?_⟩
  match i, hi with
  | 0, _ => exact rfl
  | 1, _ => exact rfl
  | 2, _ => exact rfl
  | 3, _ => exact rfl
  | 4, _ => exact rfl
  | 5, _ => exact rfl
  | 6, _ => exact rfl
  | 7, _ => exact rfl
  | 8, _ => exact rfl
  | 9, _ => exact rfl
  | 10, _ => exact rfl
  | 11, _ => exact rfl
  | 12, _ => exact rfl
  | 13, _ => exact rfl
  | 14, _ => exact rfl
  | 15, _ => exact rfl
  | 16, _ => exact rfl
  | 17, _ => exact rfl
  | 18, _ => exact rfl
  | 19, _ => exact rfl
  | i + 20, h => exact absurd h (by omega)
theorem FD_step {f : Nat → Int32} {len m : Nat} {S S' : SS} (hf : TBY f len) (h : FD f len m S S') : FD f len (m + 1) S (aps 2 1 1 (20 * m) (ch f len (20 * m)) S') := by
  obtain ⟨h1, h2, h3, h4, h5⟩ := h
  obtain ⟨c1, c2⟩ := ch_at (f := f) (len := len) (t := 20 * m) hf
  refine ⟨(aps_2 _ _ _ _ _ _).trans h1, fun k k1 k2 => (aps_n k2 k1 _ _ _).trans (h2 k k1 k2), fun i hi => (aps_b (by decide) hi _ _ _).trans (h3 i hi), ?_, fun q hq => ?_⟩
  · rw [aps_len _ _ _ h4, c1]
    congr 1
  · by_cases hlo : q < 20 * m
    · rw [aps_lo (by decide) _ _ _ hlo]
      exact h5 q hlo
    · have e := aps_at (a := 2) (b := 1) (j := 1) (by decide) (ch f len (20 * m)) (20 * m) S' (q - 20 * m) _ (c2 _ (by omega))
      rw [show 20 * m + (q - 20 * m) = q by omega] at e
      exact e
theorem lp_feed {Q : ab_Q} {n a len : Nat} {S : SS} {f : Nat → Int32} (hn : 269 ≤ n) (h0 : 1 ≤ len ∧ len ≤ 480) (hf : TBY f len) (hS : ∀ S' : SS, S'.2 = S.2 → STR n (Hp S') a len f) (hQ : ∀ S' m, FD f len m S S' → len ≤ 20 * m → 20 * m < len + 20 → WA RL cL_feed 4 [] (ab_rm 5 0 0) Q 0 0 63 [some (.ref 0), some (.ref a), some (.int (nI (20 * m))), some (.int (nI (20 * m)))] [] n (Hp S')) :
    ∀ (r m : Nat) (S' : SS), len ≤ 20 * (m + r) → 20 * m < len + 20 → FD f len m S S' → WA RL cL_feed 4 [] (ab_rm 5 0 0) Q 0 0 4 [some (.ref 0), some (.ref a), some (.int (nI (20 * m))), some (.int (nI (20 * m)))] [] n (Hp S') := by
  intro r
  induction r with
  | zero =>
    intro m S' h1 h2 h
    refine wa_iload_n dL_feed_4 rfl ?_
    refine wa_aload_n dL_feed_5 rfl ?_
    refine c_VAh dL_feed_6 (am_slen (hS _ h.1)) lk_L_8 rfl (hS _ h.1).2.choose_spec.choose_spec.choose_spec.choose_spec.2.1.2 (hS _ h.1).2.choose_spec.choose_spec.choose_spec.choose_spec.1.1 (hS _ h.1).2.choose_spec.choose_spec.choose_spec.choose_spec.2.1.1 ?_
    refine wa_icmp_lt 16 dL_feed_9 rfl (fun c9 => absurd ((nI_ltI (by omega) (by omega)).mp c9) (by omega)) (fun c9 => ?_)
    refine wa_iload_n dL_feed_12 rfl ?_
    refine wa_if_ne 63 dL_feed_13 rfl (fun c13 => ?_) (fun c13 => absurd c13 (nI_ne0 (by omega) (by omega)))
    exact hQ S' m h (by omega) h2
  | succ r ih =>
    intro m S' h1 h2 h
    refine wa_iload_n dL_feed_4 rfl ?_
    refine wa_aload_n dL_feed_5 rfl ?_
    refine c_VAh dL_feed_6 (am_slen (hS _ h.1)) lk_L_8 rfl (hS _ h.1).2.choose_spec.choose_spec.choose_spec.choose_spec.2.1.2 (hS _ h.1).2.choose_spec.choose_spec.choose_spec.choose_spec.1.1 (hS _ h.1).2.choose_spec.choose_spec.choose_spec.choose_spec.2.1.1 ?_
    refine wa_icmp_lt 16 dL_feed_9 rfl (fun c9 => ?_) (fun c9 => ?_)
    · have hlt := (nI_ltI (a := 20 * m) (b := len) (by omega) (by omega)).mp c9
      refine wa_aload_n dL_feed_16 rfl ?_
      refine wa_aload_n dL_feed_17 rfl ?_
      refine wa_iload_n dL_feed_18 rfl ?_
      refine c_SI dL_feed_19 (yl_four (hS _ h.1) hf (by omega)) lk_L_18 rfl ?_
      refine wa_aload_n dL_feed_22 rfl ?_
      refine wa_iload_n dL_feed_23 rfl ?_
      refine wa_iconst (x := 4) dL_feed_24 (by decide) ?_
      refine wa_iadd dL_feed_25 ?_
      rw [show nI (20 * m) + 4 = nI (20 * m + 4) from nI_addS _ 4]
      refine c_SI dL_feed_26 (yl_four (hS _ h.1) hf (by omega)) lk_L_18 rfl ?_
      refine wa_aload_n dL_feed_29 rfl ?_
      refine wa_iload_n dL_feed_30 rfl ?_
      refine wa_bipush (x := 8) dL_feed_31 (by decide) ?_
      refine wa_iadd dL_feed_33 ?_
      rw [show nI (20 * m) + 8 = nI (20 * m + 8) from nI_addS _ 8]
      refine c_SI dL_feed_34 (yl_four (hS _ h.1) hf (by omega)) lk_L_18 rfl ?_
      refine wa_aload_n dL_feed_37 rfl ?_
      refine wa_iload_n dL_feed_38 rfl ?_
      refine wa_bipush (x := 12) dL_feed_39 (by decide) ?_
      refine wa_iadd dL_feed_41 ?_
      rw [show nI (20 * m) + 12 = nI (20 * m + 12) from nI_addS _ 12]
      refine c_SI dL_feed_42 (yl_four (hS _ h.1) hf (by omega)) lk_L_18 rfl ?_
      refine wa_aload_n dL_feed_45 rfl ?_
      refine wa_iload_n dL_feed_46 rfl ?_
      refine wa_bipush (x := 16) dL_feed_47 (by decide) ?_
      refine wa_iadd dL_feed_49 ?_
      rw [show nI (20 * m) + 16 = nI (20 * m + 16) from nI_addS _ 16]
      refine c_SI dL_feed_50 (yl_four (hS _ h.1) hf (by omega)) lk_L_18 rfl ?_
      refine c_VI (As := [.int (fv f len (20 * m) 4), .int (fv f len (20 * m + 4) 4), .int (fv f len (20 * m + 8) 4), .int (fv f len (20 * m + 12) 4), .int (fv f len (20 * m + 16) 4)]) dL_feed_53 (vr_append_0 hn h.2.2.2.1 (by omega) _ _ _ _ _) lk_L_24 rfl (isO_VR _ _ _) rfl (ltS hn) ?_
      refine wa_istore_n dL_feed_56 rfl ?_
      refine wa_iinc (y := 20) dL_feed_57 rfl (by decide) rfl ?_
      refine wa_goto 4 dL_feed_60 rfl ?_
      rw [show nI (20 * m) + 20 = nI (20 * (m + 1)) from nI_addS _ 20, show 20 * m + 20 = 20 * (m + 1) from rfl]
      exact ih (m + 1) _ (by omega) (by omega) (FD_step hf h)
    · have hge : len ≤ 20 * m := Nat.le_of_not_lt (fun z => c9 ((nI_ltI (by omega) (by omega)).mpr z))
      refine wa_iload_n dL_feed_12 rfl ?_
      refine wa_if_ne 63 dL_feed_13 rfl (fun c13 => ?_) (fun c13 => absurd c13 (nI_ne0 (by omega) (by omega)))
      exact hQ S' m h hge h2
/-- what a text fed leaves -/
def FED (f : Nat → Int32) (len : Nat) (S S' : SS) : Prop := S'.2 = S.2 ∧ (∀ k, ¬ k = 1 → ¬ k = 2 → S'.1 k = S.1 k) ∧ (∀ i, ¬ i = 1 → S'.1 1 i = S.1 1 i) ∧ S'.1 1 1 = nI len ∧ ∀ q, q < len → S'.1 2 q = f q
theorem yl_feed {n a len : Nat} {S : SS} {f : Nat → Int32} (hn : 269 ≤ n) (h0 : 1 ≤ len ∧ len ≤ 480) (h1 : S.1 1 1 = 0) (hf : TBY f len) (hS : ∀ S' : SS, S'.2 = S.2 → STR n (Hp S') a len f) : AM yL_feed cL_feed 4 none [] 5 0 0 [.ref 0, .ref a] n (Hp S) (PVe n (FED f len S)) := by
  intro has
  change WA RL cL_feed 4 [] _ _ 0 0 0 [some (.ref 0), some (.ref a), none, none] [] n _
  refine wa_iconst (x := 0) dL_feed_0 (by decide) ?_
  refine wa_istore_n dL_feed_1 rfl ?_
  refine wa_iconst (x := 0) dL_feed_2 (by decide) ?_
  refine wa_istore_n dL_feed_3 rfl ?_
  refine lp_feed hn h0 hf hS (fun S' m h hge hlt => ?_) 24 0 S (by omega) (by omega) ⟨rfl, fun _ _ _ => rfl, fun _ _ => rfl, h1, fun q hq => absurd hq (by omega)⟩
  refine wa_aload_n dL_feed_63 rfl ?_
  refine wa_iload_n dL_feed_64 rfl ?_
  refine wa_aload_n dL_feed_65 rfl ?_
  refine c_VAh dL_feed_66 (am_slen (hS _ h.1)) lk_L_8 rfl (hS _ h.1).2.choose_spec.choose_spec.choose_spec.choose_spec.2.1.2 (hS _ h.1).2.choose_spec.choose_spec.choose_spec.choose_spec.1.1 (hS _ h.1).2.choose_spec.choose_spec.choose_spec.choose_spec.2.1.1 ?_
  refine c_SI dL_feed_69 (am_min _ _) lk_L_30 rfl ?_
  rw [min_nI (by omega) (by omega), Nat.min_eq_right hge]
  refine c_VV (As := [.int (nI len)]) dL_feed_72 (vr_truncate_0 hn (nI len) (by rw [h.2.2.2.1]; exact ⟨nI_0le (by omega), nI_leN hge (by omega)⟩)) lk_L_36 rfl (isO_VR _ _ _) rfl (ltS hn) ?_
  exact wa_return dL_feed_75 ⟨Nat.le_refl _, Nat.le_refl _, rfl, rfl, rfl, _, rfl, h.1, fun k k1 k2 => (ss_o _ _ _ k1).trans (h.2.1 k k1 k2), fun i hi => (ss_j _ _ hi).trans (h.2.2.1 i hi), by rw [ss_1, if_pos ⟨rfl, rfl⟩], fun q hq => by rw [ss_o _ _ _ (by decide), h.2.2.2.2 q (by omega)]; exact if_pos hq⟩
