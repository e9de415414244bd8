/-! ValveRoom: writeRooms. Written by program (wip/whole/gen/m854.py) but for the heads. -/
/-- what a writer leaves -/
def WRO (n0 : Nat) (S0 : SS) (t : List Int32) (n' : Nat) (S' : SS) : Prop := FRb n0 S0 S' ∧ ∃ j' f', (SBI n' S' t.length j' f' ∧ j' ≤ 5) ∧ ∀ i c, t[i]? = some c → f' i = c
theorem WB.st {n m j : Nat} {S : SS} {f : Nat → Int32} (h : SBI n S m j f) (hj : j ≤ 5) (h0 : m = 0) : WB n S n S j f [] 0 0 := by
  subst h0
  exact ⟨h, fun i c hc => by simp at hc, FRb.rf, by omega, by omega⟩
theorem lpv_wrooms {Q : ab_Q} {n0 m0 j0 : Nat} {S0 : SS} {g f0 : Nat → Int32} {T : Int} {nf : Nat → Nat → Int32} {nl : Nat → Nat} (h0 : 279 ≤ n0) (h70 : n0 + 80 ≤ ab_CB) (h : HH S0 34 g (fun _ => True)) (hg : GG T g) (hb0 : SBI n0 S0 m0 j0 f0) (hX : NMX n0 S0 34 (rn g) nf nl) (hNM : ∀ i, i < rn g → (nmr g i).length = nl i ∧ ∀ q c, (nmr g i)[q]? = some c → nf i q = c) (hrr : ∀ i, i < rn g → (of g i 0).toInt.natAbs < 100000000 ∧ (tgt g i).toInt.natAbs < 100000000 ∧ (of g i 1).toInt.natAbs < 100000000) (hWT : WRT g) : ∀ (r i n : Nat) (S : SS) (j : Nat) (f : Nat → Int32) (k z : Nat), i + r = rn g → n0 ≤ n → n ≤ n0 + 10 * i → k ≤ 10 * i → z ≤ 2400 * i - 1200 → FRb n0 S0 S → WB n S n S j f (roomsT g i) 0 0 → (∀ n' S' k' z', n0 ≤ n' → n' ≤ n0 + 60 → k' ≤ 60 → z' ≤ 13200 → WRO n0 S0 (roomsT g (rn g)) n' S' → Q (.inl (some (.int (nI (roomsT g (rn g)).length)))) k' z' n' (Hp S')) → WA RX6 cX6_writeRooms 2 [] (ab_rm 7 70 13200) Q k z 10 [some (.ref 0), some (.int (nI i))] [] n (Hp S) := by
  intro r
  induction r with
  | zero =>
    intro i n S j f k z hk h1 h2 h3 h4 hf hw hQ
    have hk2 : i = rn g := by omega
    have hn : 279 ≤ n := by omega
    have h6 := hg.rn6
    have hlen := rooms_len hWT i (by omega)
    refine wa_iload_n dX6_writeRooms_10 rfl ?_
    refine wa_aload_n dX6_writeRooms_11 rfl ?_
    refine g_VR (by assumption) 4 dX6_writeRooms_12 fl_X6_26 (by decide) rfl ?_
    refine H_hd (h.b hf (Or.inr (by decide))) hn 9 dX6_writeRooms_15 fl_X6_89 (by decide) (by decide) (fun _ _ _ => rfl) ?_
    rw [show g (hm 9) = nI (rn g) from hg.e0]
    refine wa_icmp_ge 54 dX6_writeRooms_18 rfl (fun c18 => ?_) (fun c18 => absurd (by rw [hk2]; exact Int32.le_refl _) c18)
    refine wa_aload_n dX6_writeRooms_54 rfl ?_
    refine g_VR hn 3 dX6_writeRooms_55 fl_X6_19 (by decide) rfl ?_
    refine c_VI dX6_writeRooms_58 (sb_length hn hw.1.2.2.1) lk_X6_303 rfl (isO_SB _ _ _) rfl (ltS hn) ?_
    exact wa_ireturn dX6_writeRooms_61 (by
      have e : i = rn g := hk2
      subst e
      exact hQ n S k z h1 (by omega) (by omega) (by omega) ⟨hf, j, f, ⟨hw.1, hw.2.2.2.2.2.2⟩, hw.2.1⟩)
  | succ r ih =>
    intro i n S j f k z hk h1 h2 h3 h4 hf hw hQ
    have hi : i < rn g := by omega
    have hn : 279 ≤ n := by omega
    have h6 := hg.rn6
    have hlen := rooms_len hWT i (by omega)
    refine wa_iload_n dX6_writeRooms_10 rfl ?_
    refine wa_aload_n dX6_writeRooms_11 rfl ?_
    refine g_VR (by assumption) 4 dX6_writeRooms_12 fl_X6_26 (by decide) rfl ?_
    refine H_hd (h.b hf (Or.inr (by decide))) hn 9 dX6_writeRooms_15 fl_X6_89 (by decide) (by decide) (fun _ _ _ => rfl) ?_
    rw [show g (hm 9) = nI (rn g) from hg.e0]
    refine wa_icmp_ge 54 dX6_writeRooms_18 rfl (fun c18 => absurd c18 (nI_ge (by omega) (by omega))) (fun c18 => ?_)
    refine wa_iload_n dX6_writeRooms_21 rfl ?_
    by_cases hi0 : 0 < i
    · have esp : (if 0 < i then [32] else [] : List Int32) = [32] := if_pos hi0
      refine wa_if_le 35 dX6_writeRooms_22 rfl (fun c22 => absurd c22 (Int32.not_le.mpr (show nI 0 < nI i from nI_lt hi0 (by omega)))) (fun c22 => ?_)
      refine wa_aload_n dX6_writeRooms_25 rfl ?_
      refine g_VR hn 3 dX6_writeRooms_26 fl_X6_19 (by decide) rfl ?_
      refine wa_bipush (x := 32) dX6_writeRooms_29 (by decide) ?_
      refine WA_k (Nat.add_zero _) (Nat.add_zero _) ?_
      refine ap_C (K0 := k) (Z0 := z) dX6_writeRooms_31 lk_X6_295 hn hw (by omega) (by decide) (by omega) (by omega) (by decide) (by simp only [List.length_cons, List.length_nil]; omega) (by exact Nat.le_of_ble_eq_true rfl) (fun n1 S1 j1 f1 k1 z1 b1 w1 => ?_)
      obtain ⟨hn1, hm1, hk1, hz1⟩ := w1.lt hn (by omega)
      have hj7 := w1.2.2.2.1
      refine wa_pop dX6_writeRooms_34 rfl ?_
      refine wa_aload_n dX6_writeRooms_35 rfl ?_
      refine wa_aload_n dX6_writeRooms_36 rfl ?_
      refine g_VR hn1 4 dX6_writeRooms_37 fl_X6_26 (by decide) rfl ?_
      refine g_HO isH_house hn1 10 dX6_writeRooms_40 fl_X6_231 (by decide) rfl ?_
      refine wa_iload_n dX6_writeRooms_43 rfl ?_
      refine L_room isH_house hn1 (nI_toInt (by omega)) (by omega) dX6_writeRooms_44 ?_
      have hfr := hf.tr w1.f h1
      have hx := (hX.stx hi).fr (n' := n1) hb0 hfr (by omega) (by omega)
      refine wa_callV dX6_writeRooms_45 lk_X6_299 (vr_writeOneRoom (fs := nf i) (len := nl i) hn1 (by omega) (h.b hfr (Or.inr (by decide))) hg hi w1.re (by rw [hfr.2.2]; exact hx) (hNM i hi) (hX.2 i hi).1.2.2 (hrr i hi) (by simp only [List.length_append, List.length_cons, List.length_nil]; omega)) rfl (isO_VR _ _ _) rfl (Or.inl (ltS hn1)) (by exact Nat.le_of_ble_eq_true rfl) (by unfold ab_fit ab_rm; refine ⟨?_, ?_, ?_, ?_⟩ <;> simp <;> omega) (by exact Nat.le_of_ble_eq_true rfl) (fun ro n2 h2 hq h12 => ?_) (fun E n' h' q _ => by cases q.1)
      obtain ⟨q1, S2, q2, q3, j2, f2, k2, z2, w2⟩ := hq
      cases q1
      rw [q2]
      have hj9 := w2.lt hn1 (by omega)
      have hj8 := w2.2.2.2.1
      refine wa_iinc (y := 1) dX6_writeRooms_48 rfl (by decide) rfl ?_
      rw [nI_1 i]
      refine wa_goto 10 dX6_writeRooms_51 rfl ?_
      exact ih (i + 1) n2 S2 j2 f2 _ _ (by omega) (by omega) (by omega) (by omega) (by omega) (hfr.tr w2.f (by omega)) (show WB _ _ _ _ _ _ (roomsT g (i + 1)) 0 0 from by have := w2.re; show WB _ _ _ _ _ _ (oneT (roomsT g i ++ (if 0 < i then [32] else [])) g i) 0 0; rw [esp]; exact this) hQ
    have esp : (if 0 < i then [32] else [] : List Int32) = [] := if_neg hi0
    refine wa_if_le 35 dX6_writeRooms_22 rfl (fun c22 => ?_) (fun c22 => absurd (show nI i ≤ nI 0 from nI_leN (by omega) (by omega)) c22)
    refine wa_aload_n dX6_writeRooms_35 rfl ?_
    refine wa_aload_n dX6_writeRooms_36 rfl ?_
    refine g_VR hn 4 dX6_writeRooms_37 fl_X6_26 (by decide) rfl ?_
    refine g_HO isH_house hn 10 dX6_writeRooms_40 fl_X6_231 (by decide) rfl ?_
    refine wa_iload_n dX6_writeRooms_43 rfl ?_
    refine L_room isH_house hn (nI_toInt (by omega)) (by omega) dX6_writeRooms_44 ?_
    have hfr := hf
    have hx := (hX.stx hi).fr (n' := n) hb0 hfr (by omega) (by omega)
    refine wa_callV dX6_writeRooms_45 lk_X6_299 (vr_writeOneRoom (fs := nf i) (len := nl i) hn (by omega) (h.b hfr (Or.inr (by decide))) hg hi hw (by rw [hfr.2.2]; exact hx) (hNM i hi) (hX.2 i hi).1.2.2 (hrr i hi) (by skip; omega)) rfl (isO_VR _ _ _) rfl (Or.inl (ltS hn)) (by exact Nat.le_of_ble_eq_true rfl) (by unfold ab_fit ab_rm; refine ⟨?_, ?_, ?_, ?_⟩ <;> simp <;> omega) (by exact Nat.le_of_ble_eq_true rfl) (fun ro n2 h2 hq h12 => ?_) (fun E n' h' q _ => by cases q.1)
    obtain ⟨q1, S2, q2, q3, j2, f2, k2, z2, w2⟩ := hq
    cases q1
    rw [q2]
    have hj9 := w2.lt hn (by omega)
    have hj8 := w2.2.2.2.1
    refine wa_iinc (y := 1) dX6_writeRooms_48 rfl (by decide) rfl ?_
    rw [nI_1 i]
    refine wa_goto 10 dX6_writeRooms_51 rfl ?_
    exact ih (i + 1) n2 S2 j2 f2 _ _ (by omega) (by omega) (by omega) (by omega) (by omega) (hfr.tr w2.f (by omega)) (show WB _ _ _ _ _ _ (roomsT g (i + 1)) 0 0 from by have := w2.re; show WB _ _ _ _ _ _ (oneT (roomsT g i ++ (if 0 < i then [32] else [])) g i) 0 0; rw [esp, List.append_nil]; exact this) hQ
theorem vr_writeRooms {n0 m0 j0 : Nat} {S0 : SS} {g f0 : Nat → Int32} {T : Int} {nf : Nat → Nat → Int32} {nl : Nat → Nat} (h0 : 279 ≤ n0) (h70 : n0 + 80 ≤ ab_CB) (h : HH S0 34 g (fun _ => True)) (hg : GG T g) (hb0 : SBI n0 S0 m0 j0 f0) (hX : NMX n0 S0 34 (rn g) nf nl) (hNM : ∀ i, i < rn g → (nmr g i).length = nl i ∧ ∀ q c, (nmr g i)[q]? = some c → nf i q = c) (hrr : ∀ i, i < rn g → (of g i 0).toInt.natAbs < 100000000 ∧ (tgt g i).toInt.natAbs < 100000000 ∧ (of g i 1).toInt.natAbs < 100000000) (hWT : WRT g) (hj5 : j0 ≤ 5) : AM yX6_writeRooms cX6_writeRooms 2 (some .int) [] 7 70 13200 [.ref 0] n0 (Hp S0) (PMe n0 60 (fun v n' S' => v = nI (roomsT g (rn g)).length ∧ WRO n0 S0 (roomsT g (rn g)) n' S')) := by
  intro has
  change WA RX6 cX6_writeRooms 2 [] _ _ 0 0 0 [some (.ref 0), none] [] n0 _
  refine wa_aload_n dX6_writeRooms_0 rfl ?_
  refine g_VR h0 3 dX6_writeRooms_1 fl_X6_19 (by decide) rfl ?_
  refine wa_iconst (x := 0) dX6_writeRooms_4 (by decide) ?_
  refine wa_callV dX6_writeRooms_5 lk_X6_292 (sb_setLength h0 hb0 (by omega) (by omega)) rfl (isO_SB _ _ _) rfl (Or.inl (ltS h0)) (by exact Nat.le_of_ble_eq_true rfl) (by unfold ab_fit ab_rm; refine ⟨?_, ?_, ?_, ?_⟩ <;> simp <;> omega) (by exact Nat.le_of_ble_eq_true rfl) (fun ro n' h' hq _ => ?_) (fun E n' h' q _ => by cases q.1)
  obtain ⟨q1, S1, q2, q3, q4, f1, q5⟩ := hq
  rw [q2, q3]
  cases q1
  refine wa_iconst (x := 0) dX6_writeRooms_8 (by decide) ?_
  refine wa_istore_n dX6_writeRooms_9 rfl ?_
  exact lpv_wrooms h0 h70 h hg hb0 hX hNM hrr hWT (rn g) 0 n0 S1 j0 f1 _ _ (Nat.zero_add _) (Nat.le_refl _) (by omega) (by decide) (by decide) q4 (WB.st q5 hj5 rfl) (fun n' S' k' z' b1 b2 b3 b4 w => ⟨by omega, by omega, ⟨_, rfl, rfl⟩, _, S', rfl, rfl, b1, b2, rfl, w⟩)
