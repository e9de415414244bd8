/-! A String of a char[] (Latin1): what its constructor makes. Written by program (wip/whole/gen/m312.py) but for the heads. -/
section CA7
variable {Xx : ab_X} {own : String} {cc : ByteArray} {nL : Nat} {hh : List (Nat × Nat × Nat × Nat)} {R : Room} {Q : ab_Q} {k z pc : Nat} {ls : List (Option Value)} {st : List Value} {n : Nat} {h : ab_H}
theorem wa_newB7 {x : Int32} {len : Nat} (d : decode cc pc = .ok (.newarray .byte, 2)) (hx : x.toInt = (len : Int)) (hb : len ≤ 536870912) (hn1 : n + 1 < ab_CB) (hcells : k + 1 ≤ R.cells) (hslots : z + len ≤ R.slots) (K : WX Xx own cc nL hh R Q (k + 1) (z + len) (pc + 2) ls (.ref n :: st) (n + 1) (ab_up h n (.inl (1, len, .inl (fun _ => 0))))) : WX Xx own cc nL hh R Q k z pc ls (.int x :: st) n h :=
  wa_newa (ty := .byte) (t := 1) (a0 := (len, .inl (fun _ => 0))) d wa_cls_byte rfl rfl (by decide) hx (fun _ => rfl) (fun _ => rfl) trivial (by show len * 1 ≤ _; omega) hn1 hcells hslots K
end CA7
theorem up_up7 {h : ab_H} {b : Nat} {e1 e2 : va_E} : ab_up (ab_up h b e1) b e2 = ab_up h b e2 := by
  funext k
  unfold ab_up
  by_cases hk : k = b
  · rw [if_pos hk, if_pos hk]
  · rw [if_neg hk, if_neg hk, if_neg hk]
def pre7 (f : Nat → Int32) (k : Nat) : Nat → Int32 := fun j => if j < k then f j else 0
theorem pre7_s (f : Nat → Int32) (k : Nat) : upd (pre7 f k) k (f k) = pre7 f (k + 1) := by
  funext j
  unfold upd pre7
  by_cases h : j = k
  · rw [if_pos h, if_pos (by omega), h]
  · rw [if_neg h]
    by_cases h2 : j < k
    · rw [if_pos h2, if_pos (by omega)]
    · rw [if_neg h2, if_neg (by omega)]
theorem chr7 {x : Int32} (h : 0 ≤ x.toInt ∧ x.toInt < 128) : vp_nar .byte x.toInt8.toInt32 = x ∧ x ≤ 255 := by
  have e : x = nI x.toInt.toNat := Int32.toInt_inj.mp (by rw [nI_toInt (by omega)]; omega)
  rw [e]
  exact (by decide +kernel : ∀ k, k < 128 → vp_nar .byte (nI k).toInt8.toInt32 = nI k ∧ nI k ≤ 255) _ (by omega)
theorem lp_comp7 {Q : ab_Q} {n a v len : Nat} {h : ab_H} {f : Nat → Int32} (ha : a < n) (hv : v < n) (hav : ¬ a = v) (hl : len < 100000) (he : h a = .inl (3, len, .inl f)) (hf : ∀ i, i < len → 0 ≤ (f i).toInt ∧ (f i).toInt < 128) : ∀ (r k : Nat) (l6 : Option Value), k + r = len → Q (.inl (some (.int (nI len)))) 0 0 n (ab_up h v (.inl (1, len, .inl (pre7 f (len))))) → WA RJ2 cJ2_compress_fe38e 7 [] (ab_rm 0 0 0) Q 0 0 3 [some (.ref a), some (.int (nI k)), some (.ref v), some (.int (nI k)), some (.int (nI len)), some (.int (nI k)), l6] [] n (ab_up h v (.inl (1, len, .inl (pre7 f (k))))) := by
  intro r
  induction r with
  | zero =>
    intro k l6 hk hQ
    have hk2 : k = len := by omega
    refine wa_iload dJ2_compress_fe38e_3 rfl ?_
    refine wa_iload dJ2_compress_fe38e_5 rfl ?_
    refine wa_icmp_ge 44 dJ2_compress_fe38e_7 rfl (fun c7 => ?_) (fun c7 => absurd (by rw [hk2]; exact Int32.le_refl _) c7)
    refine wa_iload dJ2_compress_fe38e_44 rfl ?_
    subst hk2
    exact wa_ireturn dJ2_compress_fe38e_46 hQ
  | succ r ih =>
    intro k l6 hk hQ
    refine wa_iload dJ2_compress_fe38e_3 rfl ?_
    refine wa_iload dJ2_compress_fe38e_5 rfl ?_
    refine wa_icmp_ge 44 dJ2_compress_fe38e_7 rfl (fun c7 => absurd c7 (nI_ge (by omega) (by omega))) (fun c7 => ?_)
    refine wa_aload_n dJ2_compress_fe38e_10 rfl ?_
    refine wa_iload_n dJ2_compress_fe38e_11 rfl ?_
    refine wa_cald (len := len) (j := k) (f := f) dJ2_compress_fe38e_12 (Or.inl ha) ((ab_up_n _ _ hav).trans he) (nI_toInt (by omega)) (by omega) ?_
    refine wa_istore dJ2_compress_fe38e_13 rfl ?_
    refine wa_iload dJ2_compress_fe38e_15 rfl ?_
    refine wa_sipush (x := 255) dJ2_compress_fe38e_17 (by decide) ?_
    refine wa_icmp_le 26 dJ2_compress_fe38e_20 rfl (fun c20 => ?_) (fun c20 => absurd (chr7 (hf k (by omega))).2 c20)
    refine wa_aload_n dJ2_compress_fe38e_26 rfl ?_
    refine wa_iload_n dJ2_compress_fe38e_27 rfl ?_
    refine wa_iload dJ2_compress_fe38e_28 rfl ?_
    refine wa_i2b dJ2_compress_fe38e_30 ?_
    refine wa_bast (len := len) (j := k) (f := pre7 f k) dJ2_compress_fe38e_31 hv (ab_up_s _ _ _) (nI_toInt (by omega)) (by omega) ?_
    rw [up_up7, (chr7 (hf k (by omega))).1, pre7_s]
    refine wa_iinc (y := 1) dJ2_compress_fe38e_32 rfl (by decide) rfl ?_
    refine wa_iinc (y := 1) dJ2_compress_fe38e_35 rfl (by decide) rfl ?_
    refine wa_iinc (y := 1) dJ2_compress_fe38e_38 rfl (by decide) rfl ?_
    refine wa_goto 3 dJ2_compress_fe38e_41 rfl ?_
    rw [nI_1 k]
    exact ih (k + 1) _ (by omega) hQ
theorem js_comp7 {n a v len : Nat} {h : ab_H} {f : Nat → Int32} (ha : a < n) (hv : v < n) (hav : ¬ a = v) (hl : len < 100000) (he : h a = .inl (3, len, .inl f)) (hf : ∀ i, i < len → 0 ≤ (f i).toInt ∧ (f i).toInt < 128) : AM yJ2_compress_fe38e cJ2_compress_fe38e 7 (some .int) [] 0 0 0 [.ref a, .int 0, .ref v, .int 0, .int (nI len)] n (ab_up h v (.inl (1, len, .inl (pre7 f (0))))) (fun r n' h' => r = .inl (some (.int (nI len))) ∧ n' = n ∧ h' = ab_up h v (.inl (1, len, .inl (pre7 f (len))))) := by
  intro has
  change WA RJ2 cJ2_compress_fe38e 7 [] _ _ 0 0 0 [some (.ref a), some (.int 0), some (.ref v), some (.int 0), some (.int (nI len)), none, none] [] n _
  refine wa_iconst (x := 0) dJ2_compress_fe38e_0 (by decide) ?_
  refine wa_istore dJ2_compress_fe38e_1 rfl ?_
  exact lp_comp7 ha hv hav hl he hf len 0 none (Nat.zero_add _) ⟨Nat.le_refl _, Nat.le_refl _, ⟨_, rfl, rfl⟩, rfl, rfl, rfl⟩
theorem pre7_0 (f : Nat → Int32) : pre7 f 0 = fun _ => 0 := by
  funext j
  exact if_neg (Nat.not_lt_zero j)
theorem js_comp7d {n a len : Nat} {h : ab_H} {f : Nat → Int32} (ha : a < n) (hn1 : n + 1 < ab_CB) (hl : len < 100000) (he : h a = .inl (3, len, .inl f)) (hf : ∀ i, i < len → 0 ≤ (f i).toInt ∧ (f i).toInt < 128) : AM yJ2_compress_dfd3c cJ2_compress_dfd3c 6 (some (.array .byte)) [] 1 1 len [.ref a, .int 0, .int (nI len)] n h (fun r n' h' => r = .inl (some (.ref n)) ∧ n' = n + 1 ∧ h' = ab_up h n (.inl (1, len, .inl (pre7 f len)))) := by
  intro has
  change WA RJ2 cJ2_compress_dfd3c 6 [] _ _ 0 0 0 [some (.ref a), some (.int 0), some (.int (nI len)), none, none, none] [] n _
  refine wa_iload_n dJ2_compress_dfd3c_0 rfl ?_
  refine wa_newB7 (len := len) dJ2_compress_dfd3c_1 (nI_toInt (by omega)) (by omega) hn1 (by simp [ab_rm]) (by simp [ab_rm]) ?_
  rw [← pre7_0 f]
  refine wa_astore_n dJ2_compress_dfd3c_3 rfl ?_
  refine wa_aload_n dJ2_compress_dfd3c_4 rfl ?_
  refine wa_iload_n dJ2_compress_dfd3c_5 rfl ?_
  refine wa_aload_n dJ2_compress_dfd3c_6 rfl ?_
  refine wa_iconst (x := 0) dJ2_compress_dfd3c_7 (by decide) ?_
  refine wa_iload_n dJ2_compress_dfd3c_8 rfl ?_
  refine wa_callS (As := [.ref a, .int 0, .ref n, .int 0, .int (nI len)]) dJ2_compress_dfd3c_9 lk_J2_115 (js_comp7 (by omega) (Nat.lt_succ_self n) (by omega) hl he hf) rfl (by exact Nat.le_of_ble_eq_true rfl) (by unfold ab_fit ab_rm; refine ⟨?_, ?_, ?_, ?_⟩ <;> simp <;> omega) (by exact Nat.le_of_ble_eq_true rfl) (fun ro n' h' hq _ => ?_) (fun E n' h' q _ => by cases q.1)
  obtain ⟨q1, q2, q3⟩ := hq
  rw [q2, q3]
  cases q1
  refine wa_istore dJ2_compress_dfd3c_12 rfl ?_
  refine wa_iload dJ2_compress_dfd3c_14 rfl ?_
  refine wa_iload_n dJ2_compress_dfd3c_16 rfl ?_
  refine wa_icmp_eq 57 dJ2_compress_dfd3c_17 rfl (fun c17 => ?_) (fun c17 => absurd rfl c17)
  refine wa_aload_n dJ2_compress_dfd3c_57 rfl ?_
  exact wa_areturn dJ2_compress_dfd3c_58 ⟨by simp, by simp, ⟨_, rfl, Or.inr ⟨_, rfl⟩⟩, rfl, rfl, rfl⟩
theorem js_coder7 {n v len : Nat} {h : ab_H} {f : Nat → Int32} (hv : v < n) (he : h v = .inl (1, len, .inl f)) : AM yJ2_coderFromArrayLen_85cad cJ2_coderFromArrayLen_85cad 2 (some .byte) [] 0 0 0 [.ref v, .int (nI len)] n h (fun r n' h' => r = .inl (some (.int 0)) ∧ n' = n ∧ h' = h) := by
  intro has
  change WA RJ2 cJ2_coderFromArrayLen_85cad 2 [] _ _ 0 0 0 [some (.ref v), some (.int (nI len))] [] n _
  refine wa_iload_n dJ2_coderFromArrayLen_85cad_0 rfl ?_
  refine wa_aload_n dJ2_coderFromArrayLen_85cad_1 rfl ?_
  refine wa_alen (t := 1) (len := len) dJ2_coderFromArrayLen_85cad_2 (by decide) (Or.inl hv) he rfl ?_
  rw [show Int32.ofNat len = nI len from rfl]
  refine wa_isub dJ2_coderFromArrayLen_85cad_3 ?_
  rw [Int32.sub_self]
  refine wa_bipush (x := 31) dJ2_coderFromArrayLen_85cad_4 (by decide) ?_
  refine wa_iushr dJ2_coderFromArrayLen_85cad_6 ?_
  refine wa_i2b dJ2_coderFromArrayLen_85cad_7 ?_
  exact wa_ireturn dJ2_coderFromArrayLen_85cad_8 ⟨Nat.le_refl _, Nat.le_refl _, ⟨_, rfl, by decide⟩, by congr 3, rfl, rfl⟩
theorem nz7 {k : Nat} (h : 0 < k) (hk : k < 2 ^ 31) : ¬ nI k = 0 := fun z => by
  have e := congrArg Int32.toInt z
  rw [nI_toInt hk, Int32.toInt_zero] at e
  omega
theorem js_initB {n a len : Nat} {h : ab_H} {f : Nat → Int32} (ha : a < n) (hn1 : n + 1 < ab_CB) (hl : len < 100000) (he : h a = .inl (3, len, .inl f)) (hf : ∀ i, i < len → 0 ≤ (f i).toInt ∧ (f i).toInt < 128) {b : Nat} {tl : List Value} (hb : b < n) (hbe : h b = .inr (6, .null :: .int 0 :: tl)) (h0 : 0 < len) : AMi yJ0_init_bb550 cJ0_init_bb550 6 none [] 2 1 len [.ref b, .ref a, .int 0, .int (nI len), .null] n h (fun r n' h' => r = .inl none ∧ n' = n + 1 ∧ h' = ab_up (ab_up h n (.inl (1, len, .inl (pre7 f len)))) b (.inr (6, .ref n :: .int 0 :: tl))) := by
  intro has
  change WA RJ0 cJ0_init_bb550 6 [] _ _ 0 0 0 [some (.ref b), some (.ref a), some (.int 0), some (.int (nI len)), some (.null), none] [] n _
  refine wa_aload_n dJ0_init_bb550_0 rfl ?_
  refine wa_objInit dJ0_init_bb550_1 wl_J0_1 wi_obj wc_obj (by simp [ab_ric]) ?_
  refine wa_iload_n dJ0_init_bb550_4 rfl ?_
  refine wa_if_ne 27 dJ0_init_bb550_5 rfl (fun c5 => ?_) (fun c5 => absurd c5 (nz7 h0 (by omega)))
  refine wa_gets dJ0_init_bb550_27 (v := .int 1) List.mem_cons_self fl_J0_38 trivial ?_
  refine wa_if_eq 58 dJ0_init_bb550_30 rfl (fun c30 => absurd c30 (by decide)) (fun c30 => ?_)
  refine wa_aload_n dJ0_init_bb550_33 rfl ?_
  refine wa_iload_n dJ0_init_bb550_34 rfl ?_
  refine wa_iload_n dJ0_init_bb550_35 rfl ?_
  refine wa_callS (As := [.ref a, .int 0, .int (nI len)]) dJ0_init_bb550_36 lk_J0_177 (js_comp7d ha hn1 hl he hf) rfl (by exact Nat.le_of_ble_eq_true rfl) (by unfold ab_fit ab_ric; refine ⟨?_, ?_, ?_, ?_⟩ <;> simp <;> omega) (by exact Nat.le_of_ble_eq_true rfl) (fun ro n' h' hq _ => ?_) (fun E n' h' q _ => by cases q.1)
  obtain ⟨q1, q2, q3⟩ := hq
  rw [q2, q3]
  cases q1
  refine wa_astore dJ0_init_bb550_39 rfl ?_
  refine wa_aload_n dJ0_init_bb550_41 rfl ?_
  refine wa_aload dJ0_init_bb550_42 rfl ?_
  refine wa_iload_n dJ0_init_bb550_44 rfl ?_
  refine wa_callS (As := [.ref n, .int (nI len)]) dJ0_init_bb550_45 lk_J0_47 (js_coder7 (Nat.lt_succ_self n) (ab_up_s _ _ _)) rfl (by exact Nat.le_of_ble_eq_true rfl) (by unfold ab_fit ab_ric; refine ⟨?_, ?_, ?_, ?_⟩ <;> simp <;> omega) (by exact Nat.le_of_ble_eq_true rfl) (fun ro n' h' hq _ => ?_) (fun E n' h' q _ => by cases q.1)
  obtain ⟨z1, z2, z3⟩ := hq
  rw [z2, z3]
  cases z1
  refine wa_putF (v := .int 0) (ty := .byte) 1 tyJ0 dJ0_init_bb550_48 fl_J0_15 cl_ST.1 cl_ST.2.1 cl_ST.2.2.1 cl_ST.2.2.2 (by decide) rfl (by simp [ab_ric]) rfl rfl (fun _ => rfl) (fun _ => rfl) (by omega) ((ab_up_n _ _ (by omega)).trans hbe) (by simp) ?_
  refine wa_aload_n dJ0_init_bb550_51 rfl ?_
  refine wa_aload dJ0_init_bb550_52 rfl ?_
  refine wa_putF (v := .ref n) (ty := .array .byte) 0 tyJ0 dJ0_init_bb550_54 fl_J0_9 cl_ST.1 cl_ST.2.1 cl_ST.2.2.1 cl_ST.2.2.2 (by decide) rfl (by simp [ab_ric]) rfl rfl (fun _ => rfl) (fun _ => rfl) (by omega) (ab_up_s _ _ _) (by simp) ?_
  rw [up_up7]
  exact wa_return dJ0_init_bb550_57 ⟨by simp, by simp, rfl, rfl, rfl, rfl⟩
theorem js_initC {n a len : Nat} {h : ab_H} {f : Nat → Int32} (ha : a < n) (hn1 : n + 1 < ab_CB) (hl : len < 100000) (he : h a = .inl (3, len, .inl f)) (hf : ∀ i, i < len → 0 ≤ (f i).toInt ∧ (f i).toInt < 128) {b : Nat} {tl : List Value} (hb : b < n) (hbe : h b = .inr (6, .null :: .int 0 :: tl)) (h0 : 0 < len) : AMi yJ0_init_905df cJ0_init_905df 2 none [] 3 1 len [.ref b, .ref a] n h (fun r n' h' => r = .inl none ∧ n' = n + 1 ∧ h' = ab_up (ab_up h n (.inl (1, len, .inl (pre7 f len)))) b (.inr (6, .ref n :: .int 0 :: tl))) := by
  intro has
  change WA RJ0 cJ0_init_905df 2 [] _ _ 0 0 0 [some (.ref b), some (.ref a)] [] n _
  refine wa_aload_n dJ0_init_905df_0 rfl ?_
  refine wa_aload_n dJ0_init_905df_1 rfl ?_
  refine wa_iconst (x := 0) dJ0_init_905df_2 (by decide) ?_
  refine wa_aload_n dJ0_init_905df_3 rfl ?_
  refine wa_alen (t := 3) (len := len) dJ0_init_905df_4 (by decide) (Or.inl ha) he rfl ?_
  rw [show Int32.ofNat len = nI len from rfl]
  refine wa_null dJ0_init_905df_5 ?_
  refine wa_callIc (As := [.ref a, .int 0, .int (nI len), .null]) dJ0_init_905df_6 lk_J0_27 (js_initB ha hn1 hl he hf hb hbe h0) (fun E n' h' q => by cases q.1) rfl rfl (by exact Nat.le_of_ble_eq_true rfl) (by unfold ab_fitc ab_ric; refine ⟨?_, ?_, ?_, ?_⟩ <;> simp <;> omega) (by exact Nat.le_of_ble_eq_true rfl) (fun ro n' h' hq _ => ?_)
  obtain ⟨q1, q2, q3⟩ := hq
  rw [q2, q3]
  cases q1
  exact wa_return dJ0_init_905df_9 ⟨by simp, by simp, rfl, rfl, rfl, rfl⟩

