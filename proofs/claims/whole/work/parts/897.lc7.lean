/-! The law's cases: load, writers. Written by program (wip/whole/gen/m890.py). -/
theorem lc_writeProgram {L : Nat} {xs : Nat → Int32} {Q : ab_Q} {k z n i c : Nat} {a b c1 d : Option Value} {S : SS} {T : Int} (hi : i + 6 ≤ L) (hL : L ≤ 3072) (hI : INV T n c S) (hT0 : 0 ≤ T) (hT : T ≤ 110000) (hk : k + 80 ≤ 601024) (hz : z + 13300 ≤ 7293034) (hnb : n + 80 ≤ 900000) (hQ : LK L xs Q T n k z i) : LX L xs Q k z 2975 (lsL i a b c1 d) [] n (Hp S) := by
  have hn := hI.n
  have hh := hI.hh
  have hg := hI.gg
  have hm := hI.m
  have hcb := hI.1.2.1
  have e9 : ab_CB = 1000000 := rfl
  by_cases h1 : 0 ≤ xs (i + 1) ∧ xs (i + 1) < S.1 268 0
  · skip
    obtain ⟨r, hr, hr6, e1⟩ := hI.rnI h1
    have h1' : 0 ≤ nI r ∧ nI r < S.1 268 0 := by rw [← e1]; exact h1
    obtain ⟨m, j, f, hsb, hj5, hm5, h20, hf⟩ := hI.ou
    have hlen := prog_len (hg.PT r) 48 (Nat.le_refl _)
    refine wa_aload_n dL_law_2975 rfl ?_
    refine l_rd (q := 1) (x := nI r) e1 dL_law_2976 dL_law_2977 dL_law_2979 dL_law_2980 dL_law_2981 (by decide) (by omega) hL ?_
    refine wa_aload_n dL_law_2982 rfl ?_
    refine wa_callW (As := [.ref 0, .int (nI r), .ref 277]) dL_law_2983 lk_L_324 (wl_writeProgram_0 (P := fun v' n' S' => n' ≤ n + 5 ∧ v' = (nI (progT (pg (S.1 268) r) 48).length) ∧ WRO n S (progT (pg (S.1 268) r) 48) n' S') hn (vr_writeProgram hn (by omega) hh hg hsb hj5 hr) (fun r0 n' h' q => by obtain ⟨v, S', p1, p2, p3, p4, p5, p6⟩ := q; exact ⟨v, S', p1, p2, p4, p5, p6⟩)) rfl (by exact Nat.le_of_ble_eq_true rfl) (fitL (by decide) (by decide) (by omega) (by omega)) (by exact Nat.le_of_ble_eq_true rfl) (fun ro n' h' q _ => ?_) (fun E n' h' q _ => by cases q.1)
    obtain ⟨q1, v, S', q2, hnn, q3, q4, w⟩ := q
    cases q1
    rw [q2, q4]
    have e8' : (so S' (((nI (progT (pg (S.1 268) r) 48).length) : Int32).toInt64)).1 268 = S.1 268 := w.1.2.1 268 (by decide)
    have m1 : mr (so S' (((nI (progT (pg (S.1 268) r) 48).length) : Int32).toInt64)) = 268 := by
      have hm2 := hm
      unfold mr at *
      show (if S'.2.2.2.1 then 269 else 268) = 268
      rw [w.1.1.2.1]
      exact hm2
    have hN := hI.written w hnn (by omega) (((nI (progT (pg (S.1 268) r) 48).length) : Int32).toInt64)
    have hM := mm_writeProgram_0 (n := n') (T := T) (S := so S' (((nI (progT (pg (S.1 268) r) 48).length) : Int32).toInt64)) (by omega) m1 (by rw [e8']; exact hg.1) hr6 (rk_of m1 (by rw [e8']; exact h1'))
    rw [e8'] at hM
    refine wa_istore dL_law_2986 rfl ?_
    refine wa_aload_n dL_law_2988 rfl ?_
    refine l_rd (q := 1) (x := nI r) e1 dL_law_2989 dL_law_2990 dL_law_2992 dL_law_2993 dL_law_2994 (by decide) (by omega) hL ?_
    refine c_VI dL_law_2995 hM lk_L_326 rfl (isO_MO _ _ _) rfl (ltS (by omega)) ?_ (hR := (fitL (by decide) (by decide) (by omega) (by omega)))
    exact l_tail0 dL_law_2998 dL_law_3000 dL_law_3001 dL_law_3004 dL_law_3006 dL_law_3011 dL_law_3013 dL_law_3016 dL_law_3017 dL_law_3018 dL_law_3019 dL_law_3021 dL_law_3022 dL_law_3023 dL_law_3028 (by decide) (by omega) (k0W _ _) (by rw [wrs_2]; rfl) (by omega) (by omega) (hQ _ _ _ _ _ _ _ _ _ (by omega) (by omega) (by omega) (by omega) (hN.mono (by omega) (Nat.le_refl _) hN.1.2.1))
  · skip
    refine wa_aload_n dL_law_2975 rfl ?_
    refine l_rd (q := 1) (x := xs (i + 1)) rfl dL_law_2976 dL_law_2977 dL_law_2979 dL_law_2980 dL_law_2981 (by decide) (by omega) hL ?_
    refine wa_aload_n dL_law_2982 rfl ?_
    refine wa_callW (As := [.ref 0, .int (xs (i + 1)), .ref 277]) dL_law_2983 lk_L_324 (wl_writeProgram_1 hn (vr_writeProgram_1 hn hh hg _ h1)) rfl (by exact Nat.le_of_ble_eq_true rfl) (fitL (by decide) (by decide) (by omega) (by omega)) (by exact Nat.le_of_ble_eq_true rfl) (fun ro n' h' q _ => ?_) (fun E n' h' q _ => by cases q.1)
    obtain ⟨q1, q2, q3⟩ := q
    rw [q2, q3]
    cases q1
    refine wa_istore dL_law_2986 rfl ?_
    refine wa_aload_n dL_law_2988 rfl ?_
    refine l_rd (q := 1) (x := xs (i + 1)) rfl dL_law_2989 dL_law_2990 dL_law_2992 dL_law_2993 dL_law_2994 (by decide) (by omega) hL ?_
    refine c_VI dL_law_2995 (mm_writeProgram_1 hn hm hg.1 _ (rk_no hm h1)) lk_L_326 rfl (isO_MO _ _ _) rfl (ltS (by omega)) ?_ (hR := (fitL (by decide) (by decide) (by omega) (by omega)))
    exact l_tailE (j := 1) dL_law_2998 dL_law_3000 dL_law_3001 dL_law_3004 dL_law_3006 dL_law_3011 (o2 := 15) dL_law_3013 dL_law_3028 (by decide) (by omega) (by decide) (by decide) (th_0 _ _) (by omega) (by omega) (hQ _ _ _ _ _ _ _ _ _ (by omega) (by omega) (by omega) (by omega) ((hI.thI 1).mono (by omega) (Nat.le_refl _) hcb))
theorem lc_writeRooms {L : Nat} {xs : Nat → Int32} {Q : ab_Q} {k z n i c : Nat} {a b c1 d : Option Value} {S : SS} {T : Int} (hi : i + 6 ≤ L) (hL : L ≤ 3072) (hI : INV T n c S) (hT0 : 0 ≤ T) (hT : T ≤ 110000) (hk : k + 80 ≤ 601024) (hz : z + 13300 ≤ 7293034) (hnb : n + 80 ≤ 900000) (hQ : LK L xs Q T n k z i) : LX L xs Q k z 2962 (lsL i a b c1 d) [] n (Hp S) := by
  have hn := hI.n
  have hh := hI.hh
  have hg := hI.gg
  have hm := hI.m
  have hcb := hI.1.2.1
  have e9 : ab_CB = 1000000 := rfl
  obtain ⟨m, j, f, hsb, hj5, hm5, h20, hf⟩ := hI.ou
  obtain ⟨nf, nl, hnr, hnx⟩ := hI.2.1.2.2
  have hrr : ∀ i, i < rn (S.1 268) → (of (S.1 268) i 0).toInt.natAbs < 100000000 ∧ (tgt (S.1 268) i).toInt.natAbs < 100000000 ∧ (of (S.1 268) i 1).toInt.natAbs < 100000000 := fun i hi => by
    have q := hg.2.2.2.2 i hi
    have b1 := q.2.1
    have b2 := tgt_b q.2 hg.2.1 (hg.PT i)
    have b3 := q.1.1
    omega
  have hWT : WRT (S.1 268) := fun i hi => by
    have q := hg.2.2.2.2 i hi
    have b1 := q.2.1
    have b2 := tgt_b q.2 hg.2.1 (hg.PT i)
    have b3 := q.1.1
    have b4 := q.2.2.2.2.2.2
    exact ⟨by omega, by omega, by omega, b4⟩
  have hlen := rooms_len hWT (rn (S.1 268)) (Nat.le_refl _)
  have h6 := hg.rn6
  refine wa_aload_n dL_law_2962 rfl ?_
  refine c_VG dL_law_2963 (vr_writeRooms hn (by omega) hh hg hsb hnx hnr.let hrr hWT hj5) lk_L_320 rfl (isO_VR _ _ _) rfl (ltS hn) (fun ro n' h' q hnn => ?_) (fun E n' h' q _ => by obtain ⟨v, S', e, -⟩ := q; cases e) (hR := (fitL (by decide) (by decide) (by omega) (by omega)))
  obtain ⟨v, S', q1, q2, q3, q4, q5, w⟩ := q
  cases q1
  rw [q2, q5]
  have e8' : S'.1 268 = S.1 268 := w.1.2.1 268 (by decide)
  have m1 : mr S' = 268 := by
    have hm2 := hm
    unfold mr at *
    rw [w.1.1.2.1]
    exact hm2
  have hN := hI.written w hnn (by omega) S'.2.2.2.2.2.2.2.1
  have hM := mm_writeRooms (n := n') (T := T) (S := S') (by omega) m1 (by rw [e8']; exact hg.1) (by rw [e8']; exact hWT)
  rw [e8'] at hM
  refine wa_aload_n dL_law_2966 rfl ?_
  refine c_VI dL_law_2967 hM lk_L_323 rfl (isO_MO _ _ _) rfl (ltS (by omega)) ?_ (hR := (fitL (by decide) (by decide) (by omega) (by omega)))
  exact wa_icmp_eq 3100 dL_law_2970 (by decide) (fun _ => (hQ _ _ _ _ _ _ _ _ _ (by omega) (by omega) (by omega) (by omega) (hN.mono (by omega) (Nat.le_refl _) hN.1.2.1))) (fun z => absurd rfl z)
theorem lc_writePlans {L : Nat} {xs : Nat → Int32} {Q : ab_Q} {k z n i c : Nat} {a b c1 d : Option Value} {S : SS} {T : Int} (hi : i + 6 ≤ L) (hL : L ≤ 3072) (hI : INV T n c S) (hT0 : 0 ≤ T) (hT : T ≤ 110000) (hk : k + 80 ≤ 601024) (hz : z + 13300 ≤ 7293034) (hnb : n + 80 ≤ 900000) (hQ : LK L xs Q T n k z i) : LX L xs Q k z 3031 (lsL i a b c1 d) [] n (Hp S) := by
  have hn := hI.n
  have hh := hI.hh
  have hg := hI.gg
  have hm := hI.m
  have hcb := hI.1.2.1
  have e9 : ab_CB = 1000000 := rfl
  obtain ⟨m, j, f, hsb, hj5, hm5, h20, hf⟩ := hI.ou
  have hrr : ∀ i, i < pn (S.1 268) → (S.1 268 (11 + 3 * i)).toInt.natAbs < 100000000 := fun i hi => by
    have q := hg.2.2.2.1 i hi
    omega
  have hWT : WPT (S.1 268) := fun i hi => by
    have q := hg.2.2.2.1 i hi
    have q2 := hg.2.2.1 i hi
    have h6 := hg.rn6
    exact ⟨q.1, q2.1.1, by omega, q2.2.1, by omega⟩
  have hlen := plans_len hWT (pn (S.1 268)) (Nat.le_refl _)
  have h6 := hg.pn20
  refine wa_aload_n dL_law_3031 rfl ?_
  refine c_VG dL_law_3032 (vr_writePlans hn (by omega) hh hg hsb hj5 hrr hWT) lk_L_327 rfl (isO_VR _ _ _) rfl (ltS hn) (fun ro n' h' q hnn => ?_) (fun E n' h' q _ => by obtain ⟨v, S', e, -⟩ := q; cases e) (hR := (fitL (by decide) (by decide) (by omega) (by omega)))
  obtain ⟨v, S', q1, q2, q3, q4, q5, w⟩ := q
  cases q1
  rw [q2, q5]
  have e8' : S'.1 268 = S.1 268 := w.1.2.1 268 (by decide)
  have m1 : mr S' = 268 := by
    have hm2 := hm
    unfold mr at *
    rw [w.1.1.2.1]
    exact hm2
  have hN := hI.written w hnn (by omega) S'.2.2.2.2.2.2.2.1
  have hM := mm_writePlans (n := n') (T := T) (S := S') (by omega) m1 (by rw [e8']; exact hg.1) (by rw [e8']; exact hWT)
  rw [e8'] at hM
  refine wa_aload_n dL_law_3035 rfl ?_
  refine c_VI dL_law_3036 hM lk_L_330 rfl (isO_MO _ _ _) rfl (ltS (by omega)) ?_ (hR := (fitL (by decide) (by decide) (by omega) (by omega)))
  exact wa_icmp_eq 3100 dL_law_3039 (by decide) (fun _ => (hQ _ _ _ _ _ _ _ _ _ (by omega) (by omega) (by omega) (by omega) (hN.mono (by omega) (Nat.le_refl _) hN.1.2.1))) (fun z => absurd rfl z)
theorem lc_load {L : Nat} {xs : Nat → Int32} {Q : ab_Q} {k z n i c : Nat} {a b c1 d : Option Value} {S : SS} {T : Int} (hi : i + 6 ≤ L) (hL : L ≤ 3072) (hI : INV T n c S) (hT0 : 0 ≤ T) (hT : T ≤ 110000) (hk : k + 80 ≤ 601024) (hz : z + 13300 ≤ 7293034) (hnb : n + 80 ≤ 900000) (hQ : LK L xs Q T n k z i) : LX L xs Q k z 408 (lsL i a b c1 d) [] n (Hp S) := by
  have hn := hI.n
  have hh := hI.hh
  have hg := hI.gg
  have hm := hI.m
  have hcb := hI.1.2.1
  have e9 : ab_CB = 1000000 := rfl
  obtain ⟨m, hm5, hm1, hm6, hmq, hBY⟩ := hI.inp
  have hsbn : sbr S < n := by
    obtain ⟨m1, j1, f1', ⟨⟨a1, a2, a3⟩, -⟩, -⟩ := hI.ou
    exact a2
  refine wa_aload_n dL_law_408 rfl ?_
  refine c_VG dL_law_409 (vr_load (b := S.1 2) (N := m) hn px_wordHere (by omega) hsbn hm5 rfl hm1 hh hg hI.pp hI.c6 hI.h7) lk_L_166 rfl (isO_VR _ _ _) rfl (ltS hn) (fun ro n' h' q hnn => ?_) (fun E n' h' q _ => by obtain ⟨v, S', e, -⟩ := q; cases e) (hR := (fitL (by decide) (by decide) (by omega) (by omega)))
  obtain ⟨v, S', q1, q2, q3, q4, w⟩ := q
  cases q1
  rw [q2]
  have eh : ∀ a, 221 ≤ a → S'.1 a = S.1 a := LDV.hi hI w
  have e71 : S'.1 271 = S.1 2 := (eh 271 (by decide)).trans hmq.symm
  have hM := mm_load (n := n') (m := m) (S := S') (by omega) (RM_of hI.c6 ((congrFun (eh 267 (by decide)) 18).trans hI.h18)) ((congrFun (eh 267 (by decide)) 6).trans hm6) hm5 (by rw [eh 271 (by decide)]; exact hBY)
  refine wa_aload_n dL_law_412 rfl ?_
  refine c_VG dL_law_413 hM lk_L_169 rfl (isO_MO _ _ _) rfl (ltS (by omega)) (fun ro n2 h2 q hn2 => ?_) (fun E n2 h2 q _ => by obtain ⟨-, v, S2, e, -⟩ := q; cases e) (hR := (fitL (by decide) (by decide) (by omega) (by omega)))
  obtain ⟨p1, v2, S2, p2, p3, w2⟩ := q
  cases p2
  rw [p3, p1]
  unfold LDV at w
  unfold LDP at w2
  rw [e71] at w2
  cases hx : pLoad (S.1 2) m with
  | inl e =>
    rw [hx] at w w2
    obtain ⟨w1, w3, w4, w5, w6⟩ := w
    obtain ⟨u1, S1, u2, u3⟩ := w2
    rw [u3]
    have hN := hI.loadE hnn (by omega) w6 w3 w4 w5 u2
    exact wa_icmp_eq 3100 dL_law_416 (by decide) (fun _ => (hQ _ _ _ _ _ _ _ _ _ (by omega) (by omega) (by omega) (by omega) (hN.mono (by omega) (Nat.le_refl _) hN.1.2.1))) (fun z => absurd (w1.trans u1.symm) z)
  | inr st =>
    rw [hx] at w w2
    obtain ⟨w1, w3, Sa, Sb, nf, nl, w4, ⟨w5, w6, w7⟩, w8, w9, w10, w11, w12⟩ := w
    obtain ⟨u1, S1, u2, u3⟩ := w2
    rw [u3]
    have hN := hI.loadS hT0 hnn (by omega) w4 w5 w6 w7 w8 w9 w10 w3 w11 w12 u2
    exact wa_icmp_eq 3100 dL_law_416 (by decide) (fun _ => (hQ _ _ _ _ _ _ _ _ _ (by omega) (by omega) (by omega) (by omega) (hN.mono (by omega) (Nat.le_refl _) hN.1.2.1))) (fun z => absurd (w1.trans u1.symm) z)
