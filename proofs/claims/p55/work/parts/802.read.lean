/-! ValveRoom$Tokens: read. Written by program (wip/whole/gen/m802.py) but for the heads. -/
/-- where the tokens begin -/
def pos (b : Nat → Int32) (N : Nat) : Nat → Nat
  | 0 => run b N 0 0
  | t + 1 => nx b N (pos b N t)
theorem VP_pos (b : Nat → Int32) (N : Nat) : ∀ t, VP b N (pos b N t)
  | 0 => VP_run (Nat.zero_le _)
  | t + 1 => VP_nx (VP_pos b N t)
theorem pos_s {b : Nat → Int32} {N t : Nat} (h : pos b N t < N) : pos b N t < pos b N (t + 1) := nx_gt h
theorem pos_mono {b : Nat → Int32} {N s : Nat} : ∀ t, s ≤ t → pos b N s ≤ pos b N t
  | 0, h => by rw [show s = 0 by omega]; exact Nat.le_refl _
  | t + 1, h => by
    rcases Nat.lt_or_ge t s with q | q
    · rw [show s = t + 1 by omega]; exact Nat.le_refl _
    · exact Nat.le_trans (pos_mono t q) (nx_ge b N _)
theorem pos_ge {b : Nat → Int32} {N : Nat} : ∀ t, (∀ s, s < t → pos b N s < N) → t ≤ pos b N t
  | 0, _ => Nat.zero_le _
  | t + 1, h => by
    have h1 := pos_ge t (fun s hs => h s (by omega))
    have h2 := pos_s (h t (by omega))
    omega
theorem te_pos (b : Nat → Int32) (N t : Nat) : te b N (pos b N t) ≤ pos b N (t + 1) := run_ge b N 0 _
def pv (b : Nat → Int32) (i : Nat) : Nat := if i = 0 then 0 else kd (b (i - 1))
/-- inside a token -/
theorem te_in {b : Nat → Int32} {N p i : Nat} (h1 : p < i) (h2 : i < te b N p) : ¬ kd (b p) = 3 ∧ kd (b i) = kd (b p) ∧ kd (b (i - 1)) = kd (b p) := by
  unfold te at h2
  by_cases hp : p < N
  · rw [if_pos hp] at h2
    by_cases h3 : kd (b p) = 3
    · rw [if_pos h3] at h2
      omega
    · rw [if_neg h3] at h2
      exact ⟨h3, (run_at (by omega) h2).2, (run_at (b := b) (N := N) (k := kd (b p)) (p := p) (q := i - 1) (by omega) (by omega)).2⟩
  · rw [if_neg hp] at h2
    omega
theorem tok_case {b : Nat → Int32} {N i k : Nat} (h1 : ∀ t, t < k → pos b N t < i) (h2 : i ≤ pos b N k) (hi : i < N) :
    (kd (b i) = 0 ∧ i + 1 ≤ pos b N k) ∨ (¬ kd (b i) = 0 ∧ pos b N k = i ∧ (¬ kd (b i) = pv b i ∨ kd (b i) = 3)) ∨ (¬ kd (b i) = 0 ∧ kd (b i) = pv b i ∧ ¬ kd (b i) = 3 ∧ ∃ q, k = q + 1 ∧ i < te b N (pos b N q) ∧ i + 1 ≤ pos b N k) := by
  cases k with
  | zero =>
    by_cases e : i < pos b N 0
    · exact Or.inl ⟨(run_at (Nat.zero_le _) e).2, by omega⟩
    · have e2 : pos b N 0 = i := by omega
      have hv := (VP_pos b N 0).2 (by omega)
      rw [e2] at hv
      refine Or.inr (Or.inl ⟨hv, e2, Or.inl ?_⟩)
      unfold pv
      by_cases i0 : i = 0
      · rw [if_pos i0]; exact hv
      · rw [if_neg i0, (run_at (b := b) (N := N) (k := 0) (p := 0) (q := i - 1) (Nat.zero_le _) (by show i - 1 < pos b N 0; omega)).2]
        exact hv
  | succ q =>
    have hq := h1 q (by omega)
    have hvq := (VP_pos b N q).2 (by omega)
    have hpv : pv b i = kd (b (i - 1)) := if_neg (by omega)
    by_cases c : i < te b N (pos b N q)
    · obtain ⟨c1, c2, c3⟩ := te_in hq c
      refine Or.inr (Or.inr ⟨by rw [c2]; exact hvq, by rw [hpv, c2, c3], by rw [c2]; exact c1, q, rfl, c, ?_⟩)
      have := te_pos b N q
      omega
    · by_cases e : i < pos b N (q + 1)
      · exact Or.inl ⟨(run_at (by omega) e).2, by omega⟩
      · have e2 : pos b N (q + 1) = i := by omega
        have hv := (VP_pos b N (q + 1)).2 (by omega)
        rw [e2] at hv
        refine Or.inr (Or.inl ⟨hv, e2, ?_⟩)
        rw [hpv]
        by_cases c2 : te b N (pos b N q) < i
        · left
          rw [(run_at (b := b) (N := N) (k := 0) (p := te b N (pos b N q)) (q := i - 1) (by omega) (by show i - 1 < pos b N (q + 1); omega)).2]
          exact hv
        · have e3 : te b N (pos b N q) = i := by omega
          have hpN : pos b N q < N := by omega
          by_cases h3 : kd (b (pos b N q)) = 3
          · have e4 : te b N (pos b N q) = pos b N q + 1 := by unfold te; rw [if_pos hpN, if_pos h3]
            have e5 : i - 1 = pos b N q := by omega
            rw [e5, h3]
            by_cases q3 : kd (b i) = 3
            · exact Or.inr q3
            · exact Or.inl q3
          · have e4 : te b N (pos b N q) = run b N (kd (b (pos b N q))) (pos b N q) := by unfold te; rw [if_pos hpN, if_neg h3]
            left
            have r1 := run_end b N (kd (b (pos b N q))) (pos b N q)
            rw [← e4, e3] at r1
            have r2 := (run_at (b := b) (N := N) (k := kd (b (pos b N q))) (p := pos b N q) (q := i - 1) (by omega) (by rw [← e4]; omega)).2
            rw [r2]
            exact fun z => r1 ⟨hi, z⟩
/-- what stands for a token's l bytes -/
def tv (b : Nat → Int32) (p l : Nat) : Int32 := if kd (b p) = 2 then nI (nv b 100000 p l) else if l = 0 then 0 else b (p + l - 1)
def FRt (S0 S : SS) : Prop := S.2 = S0.2 ∧ ∀ a, (a < 26 ∨ 31 ≤ a) → S.1 a = S0.1 a
/-- i bytes are read, k tokens begun -/
def TI (b : Nat → Int32) (N : Nat) (S0 S : SS) (i k : Nat) : Prop := FRt S0 S ∧ S.1 26 0 = nI k ∧ (∀ t, t < k → pos b N t < i) ∧ i ≤ pos b N k ∧
  ∀ t, t < k → S.1 27 t = nI (kd (b (pos b N t))) ∧ S.1 28 t = nI (pos b N t) ∧ S.1 29 t = nI (min i (te b N (pos b N t)) - pos b N t) ∧ S.1 30 t = tv b (pos b N t) (min i (te b N (pos b N t)) - pos b N t)
theorem TI.k_le {b : Nat → Int32} {N i k : Nat} {S0 S : SS} (h : TI b N S0 S i k) (hi : i ≤ N) : k ≤ i := by
  cases k with
  | zero => exact Nat.zero_le _
  | succ q =>
    have h1 := pos_ge (b := b) (N := N) q (fun s hs => by have := h.2.2.1 s (by omega); omega)
    have h2 := h.2.2.1 q (by omega)
    omega
theorem TI.blank {b : Nat → Int32} {N i k : Nat} {S0 S : SS} (h : TI b N S0 S i k) (h0 : kd (b i) = 0) (h1 : i + 1 ≤ pos b N k) : TI b N S0 S (i + 1) k := by
  refine ⟨h.1, h.2.1, fun t ht => by have := h.2.2.1 t ht; omega, h1, fun t ht => ?_⟩
  have hp := h.2.2.1 t ht
  have e : min (i + 1) (te b N (pos b N t)) = min i (te b N (pos b N t)) := by
    by_cases c : i < te b N (pos b N t)
    · have c2 := (te_in hp c).2.1
      have hN : pos b N t < N := by
        have := te_le (b := b) (VP_pos b N t).1
        omega
      have hv := (VP_pos b N t).2 hN
      rw [← c2, h0] at hv
      exact absurd rfl hv
    · omega
  rw [e]
  exact h.2.2.2.2 t ht
theorem ss_o (S : SS) {a a' : Nat} (j : Nat) (x : Int32) (h : ¬ a' = a) : (ss S a j x).1 a' = S.1 a' := if_neg h
theorem ss_e (S : SS) (a j : Nat) (x : Int32) : (ss S a j x).1 a j = x := by rw [ss_1, if_pos ⟨rfl, rfl⟩]
theorem ss_j (S : SS) {a j i : Nat} (x : Int32) (h : ¬ i = j) : (ss S a j x).1 a i = S.1 a i := by rw [ss_1, if_neg (fun z => h z.2)]
theorem kd_dig {x : Int32} (h : kd x = 2) : 48 ≤ x.toInt ∧ x.toInt ≤ 57 := by
  unfold kd at h
  have k1 : (48 : Int32).toInt = 48 := by decide
  have k2 : (57 : Int32).toInt = 57 := by decide
  split at h
  · cases h
  · split at h
    · cases h
    · split at h
      · next q =>
        have a1 := Int32.le_iff_toInt_le.mp q.1
        have a2 := Int32.le_iff_toInt_le.mp q.2
        rw [k1] at a1
        rw [k2] at a2
        exact ⟨a1, a2⟩
      · cases h
/-- one digit more -/
theorem nv_step {b : Nat → Int32} {p l : Nat} (h : kd (b (p + l)) = 2) : i_min (nI (nv b 100000 p l) * 10 + (b (p + l) - 48)) 100000 = nI (nv b 100000 p (l + 1)) := by
  have h1 := kd_dig h
  have h2 := nv_le b 100000 p l
  have k48 : (48 : Int32).toInt = 48 := by decide
  have k100 : (100000 : Int32).toInt = 100000 := by decide
  have e1 : b (p + l) - 48 = nI ((b (p + l)).toInt - 48).toNat := by
    refine Int32.toInt_inj.mp ?_
    rw [i_sub (by rw [k48]; omega) (by rw [k48]; omega), k48, nI_toInt (by omega)]
    omega
  have e2 : nI (nv b 100000 p l) * 10 = nI (nv b 100000 p l * 10) := nI_mul _ 10
  rw [e1, e2, nI_add]
  refine Int32.toInt_inj.mp ?_
  rw [i_min_i, k100, nI_toInt (by omega)]
  show _ = (nI (min 100000 (10 * nv b 100000 p l + ((b (p + l)).toInt - 48).toNat))).toInt
  rw [nI_toInt (by omega)]
  omega
/-- a token begins: its first byte -/
def nw1 (S : SS) (k : Nat) (x y : Int32) (kx : Nat) (b : Int32) : SS := if kx = 2 then ext2 (bgn S k x y) k b else exto (bgn S k x y) k b
theorem TI.new {b : Nat → Int32} {N i k : Nat} {S0 S S' : SS} (h : TI b N S0 S i k) (hi : i < N) (h0 : ¬ kd (b i) = 0) (hk : pos b N k = i) (e : S' = nw1 S k (nI (kd (b i))) (nI i) (kd (b i)) (b i)) : TI b N S0 S' (i + 1) (k + 1) := by
  have hte := te_gt (b := b) (N := N) (p := i) hi
  have hnx := pos_s (b := b) (N := N) (t := k) (by omega)
  have hold : ∀ t, t < k → S'.1 27 t = S.1 27 t ∧ S'.1 28 t = S.1 28 t ∧ S'.1 29 t = S.1 29 t ∧ S'.1 30 t = S.1 30 t := fun t ht => by
    have ne : ¬ t = k := by omega
    rw [e]
    unfold nw1 ext2 exto bgn
    split <;> refine ⟨?_, ?_, ?_, ?_⟩ <;> simp [ss_1, ne]
  have hnew : S'.1 27 k = nI (kd (b i)) ∧ S'.1 28 k = nI i ∧ S'.1 29 k = 1 ∧ S'.1 30 k = tv b i 1 ∧ S'.1 26 0 = nI (k + 1) := by
    rw [e]
    unfold nw1
    by_cases c : kd (b i) = 2
    · rw [if_pos c]
      unfold ext2 bgn
      refine ⟨by simp [ss_1], by simp [ss_1], by simp [ss_1], ?_, by simp [ss_1]⟩
      rw [ss_e]
      have q : (ss (ss (ss (ss (ss (ss S 27 k (nI (kd (b i)))) 28 k (nI i)) 29 k 0) 30 k 0) 26 0 (nI (k + 1))) 29 k ((ss (ss (ss (ss (ss S 27 k (nI (kd (b i)))) 28 k (nI i)) 29 k 0) 30 k 0) 26 0 (nI (k + 1))).1 29 k + 1)).1 30 k = 0 := by simp [ss_1]
      have q2 : (ss (ss (ss (ss (ss S 27 k (nI (kd (b i)))) 28 k (nI i)) 29 k 0) 30 k 0) 26 0 (nI (k + 1))).1 30 k = 0 := by simp [ss_1]
      rw [q2]
      have := nv_step (b := b) (p := i) (l := 0) c
      unfold tv
      rw [if_pos c]
      exact this
    · rw [if_neg c]
      unfold exto bgn
      refine ⟨by simp [ss_1], by simp [ss_1], by simp [ss_1], ?_, by simp [ss_1]⟩
      rw [ss_e]
      unfold tv
      rw [if_neg c, if_neg (by decide)]
      rfl
  have hfr : FRt S0 S' := by
    refine ⟨?_, fun a ha => ?_⟩
    · rw [← h.1.1, e]
      unfold nw1
      split <;> rfl
    · rw [← h.1.2 a ha, e]
      unfold nw1 ext2 exto bgn
      split <;> rw [ss_o _ _ _ (by omega), ss_o _ _ _ (by omega), ss_o _ _ _ (by omega), ss_o _ _ _ (by omega), ss_o _ _ _ (by omega), ss_o _ _ _ (by omega), ss_o _ _ _ (by omega)]
  refine ⟨hfr, hnew.2.2.2.2, fun t ht => ?_, by omega, fun t ht => ?_⟩
  · by_cases c : t = k
    · rw [c, hk]; omega
    · have := h.2.2.1 t (by omega); omega
  · by_cases c : t = k
    · subst c
      rw [hk, show min (i + 1) (te b N i) - i = 1 by omega]
      exact ⟨hnew.1, hnew.2.1, hnew.2.2.1, hnew.2.2.2.1⟩
    · obtain ⟨o1, o2, o3, o4⟩ := hold t (by omega)
      have hte2 := te_pos b N t
      have hm := pos_mono (b := b) (N := N) (s := t + 1) k (by omega)
      rw [o1, o2, o3, o4, show min (i + 1) (te b N (pos b N t)) = min i (te b N (pos b N t)) by omega]
      exact h.2.2.2.2 t (by omega)
def ex1 (S : SS) (q kx : Nat) (b : Int32) : SS := if kx = 2 then ext2 S q b else exto S q b
theorem TI.ext {b : Nat → Int32} {N i q : Nat} {S0 S S' : SS} (h : TI b N S0 S i (q + 1)) (hi : i < N) (ht1 : i < te b N (pos b N q)) (hp1 : i + 1 ≤ pos b N (q + 1)) (e : S' = ex1 S q (kd (b i)) (b i)) : TI b N S0 S' (i + 1) (q + 1) := by
  have hpq := h.2.2.1 q (by omega)
  obtain ⟨c1, c2, c3⟩ := te_in hpq ht1
  have hq := h.2.2.2.2 q (by omega)
  rw [show min i (te b N (pos b N q)) = i by omega] at hq
  have hold : ∀ t, t < q → S'.1 27 t = S.1 27 t ∧ S'.1 28 t = S.1 28 t ∧ S'.1 29 t = S.1 29 t ∧ S'.1 30 t = S.1 30 t := fun t ht => by
    have ne : ¬ t = q := by omega
    rw [e]
    unfold ex1 ext2 exto
    split <;> refine ⟨?_, ?_, ?_, ?_⟩ <;> simp [ss_1, ne]
  have hnew : S'.1 27 q = S.1 27 q ∧ S'.1 28 q = S.1 28 q ∧ S'.1 29 q = nI (i + 1 - pos b N q) ∧ S'.1 30 q = tv b (pos b N q) (i + 1 - pos b N q) ∧ S'.1 26 0 = S.1 26 0 := by
    have el : S.1 29 q + 1 = nI (i + 1 - pos b N q) := by
      rw [hq.2.2.1, nI_1]
      congr 1
      omega
    rw [e]
    unfold ex1
    by_cases c : kd (b i) = 2
    · rw [if_pos c]
      unfold ext2
      refine ⟨by simp [ss_1], by simp [ss_1], by simp [ss_1, el], ?_, by simp [ss_1]⟩
      rw [ss_e, hq.2.2.2]
      have cp : kd (b (pos b N q)) = 2 := by rw [← c2]; exact c
      have e1 : pos b N q + (i - pos b N q) = i := by omega
      have e2 : i + 1 - pos b N q = i - pos b N q + 1 := by omega
      have := nv_step (b := b) (p := pos b N q) (l := i - pos b N q) (by rw [e1]; exact c)
      rw [e1] at this
      unfold tv
      rw [if_pos cp, if_pos cp, e2]
      exact this
    · rw [if_neg c]
      unfold exto
      refine ⟨by simp [ss_1], by simp [ss_1], by simp [ss_1, el], ?_, by simp [ss_1]⟩
      rw [ss_e]
      unfold tv
      rw [if_neg (by rw [← c2]; exact c), if_neg (by omega), show pos b N q + (i + 1 - pos b N q) - 1 = i by omega]
  have hfr : FRt S0 S' := by
    refine ⟨?_, fun a ha => ?_⟩
    · rw [← h.1.1, e]
      unfold ex1
      split <;> rfl
    · rw [← h.1.2 a ha, e]
      unfold ex1 ext2 exto
      split <;> rw [ss_o _ _ _ (by omega), ss_o _ _ _ (by omega)]
  refine ⟨hfr, hnew.2.2.2.2.trans h.2.1, fun t ht => by have := h.2.2.1 t ht; omega, hp1, fun t ht => ?_⟩
  by_cases c : t = q
  · subst c
    rw [show min (i + 1) (te b N (pos b N t)) = i + 1 by omega]
    exact ⟨hnew.1.trans hq.1, hnew.2.1.trans hq.2.1, hnew.2.2.1, hnew.2.2.2.1⟩
  · obtain ⟨o1, o2, o3, o4⟩ := hold t (by omega)
    have hte2 := te_pos b N t
    have hm := pos_mono (b := b) (N := N) (s := t + 1) q (by omega)
    rw [o1, o2, o3, o4, show min (i + 1) (te b N (pos b N t)) = min i (te b N (pos b N t)) by omega]
    exact h.2.2.2.2 t ht
theorem pv_lt (b : Nat → Int32) (i : Nat) : pv b i < 4 := by
  unfold pv
  split
  · decide
  · exact kd_lt _
theorem lp_read {Q : ab_Q} {n N : Nat} {b : Nat → Int32} {S0 : SS} (hn : 269 ≤ n) (hN : N ≤ 500) (eb : S0.1 2 = b) : ∀ (r i k : Nat) (S1 : SS) (l5 : Option Value), i + r = N → TI b N S0 S1 i k → (∀ S' k' x l5, TI b N S0 S' N k' → WA RX5 cX5_read 6 [] (ab_rm 6 0 0) Q 0 0 67 [some (.ref 26), some (.ref 2), some (.int (nI N)), some (.int (nI (x))), some (.int (nI (N))), l5] [] n (Hp S')) → WA RX5 cX5_read 6 [] (ab_rm 6 0 0) Q 0 0 10 [some (.ref 26), some (.ref 2), some (.int (nI N)), some (.int (nI (pv b i))), some (.int (nI (i))), l5] [] n (Hp S1) := by
  intro r
  induction r with
  | zero =>
    intro i k S1 l5 hk h hQ
    have hk2 : i = N := by omega
    refine wa_iload dX5_read_10 rfl ?_
    refine wa_iload_n dX5_read_12 rfl ?_
    refine wa_icmp_ge 67 dX5_read_13 rfl (fun c13 => ?_) (fun c13 => absurd (by rw [hk2]; exact Int32.le_refl _) c13)
    rw [hk2] at h ⊢
    exact hQ S1 k _ _ h
  | succ r ih =>
    intro i k S1 l5 hk h hQ
    have hkl := h.k_le (by omega)
    have hb1 : S1.1 2 i = b i := by rw [h.1.2 2 (by omega), eb]
    rcases tok_case h.2.2.1 h.2.2.2.1 (by omega) with ⟨a1, a2⟩ | ⟨a1, a2, a3⟩ | ⟨a1, a2, a3, q, rfl, a4, a5⟩
    · skip
      refine wa_iload dX5_read_10 rfl ?_
      refine wa_iload_n dX5_read_12 rfl ?_
      refine wa_icmp_ge 67 dX5_read_13 rfl (fun c13 => absurd c13 (nI_ge (by omega) (by omega))) (fun c13 => ?_)
      refine wa_aload_n dX5_read_16 rfl ?_
      refine wa_iload dX5_read_17 rfl ?_
      refine s_bald (j := i) isA_text dX5_read_19 (ltS hn) (ix_nI (by omega)) (by omega) ?_
      rw [hb1]
      refine c_SI dX5_read_20 (tk_kindOf (b i)) lk_X5_34 rfl ?_
      refine wa_istore dX5_read_23 rfl ?_
      refine wa_iload dX5_read_25 rfl ?_
      refine wa_if_eq 58 dX5_read_27 rfl (fun c27 => ?_) (fun c27 => absurd (by rw [a1]; rfl) c27)
      refine wa_iload dX5_read_58 rfl ?_
      refine wa_istore_n dX5_read_60 rfl ?_
      refine wa_iinc (y := 1) dX5_read_61 rfl (by decide) rfl ?_
      refine wa_goto 10 dX5_read_64 rfl ?_
      rw [nI_1 i]
      exact ih (i + 1) k S1 _ (by omega) (h.blank a1 a2) hQ
    · by_cases cx : kd (b i) = 2
      · skip
        refine wa_iload dX5_read_10 rfl ?_
        refine wa_iload_n dX5_read_12 rfl ?_
        refine wa_icmp_ge 67 dX5_read_13 rfl (fun c13 => absurd c13 (nI_ge (by omega) (by omega))) (fun c13 => ?_)
        refine wa_aload_n dX5_read_16 rfl ?_
        refine wa_iload dX5_read_17 rfl ?_
        refine s_bald (j := i) isA_text dX5_read_19 (ltS hn) (ix_nI (by omega)) (by omega) ?_
        rw [hb1]
        refine c_SI dX5_read_20 (tk_kindOf (b i)) lk_X5_34 rfl ?_
        refine wa_istore dX5_read_23 rfl ?_
        refine wa_iload dX5_read_25 rfl ?_
        refine wa_if_eq 58 dX5_read_27 rfl (fun c27 => absurd (nI_inj (a := kd (b i)) (by have := kd_lt (b i); omega) (by decide) c27) a1) (fun c27 => ?_)
        refine wa_iload dX5_read_30 rfl ?_
        refine wa_iload_n dX5_read_32 rfl ?_
        refine wa_icmp_ne 42 dX5_read_33 rfl (fun c33 => ?_) (fun c33 => ?_)
        · refine wa_aload_n dX5_read_42 rfl ?_
          refine wa_iload dX5_read_43 rfl ?_
          refine wa_iload dX5_read_45 rfl ?_
          refine c_VV dX5_read_47 (tk_begin hn (by omega) h.2.1 _ _) lk_X5_38 rfl (isO_TO _ _ _) rfl (ltS hn) ?_
          have hc1 : (bgn S1 k (nI (kd (b i))) (nI i)).1 26 0 = nI (k + 1) := ss_e _ _ _ _
          have hc2 : (bgn S1 k (nI (kd (b i))) (nI i)).1 27 k = nI (kd (b i)) := by
            unfold bgn
            simp [ss_1]
          have hb2 : (bgn S1 k (nI (kd (b i))) (nI i)).1 2 i = b i := by
            unfold bgn
            rw [ss_o _ _ _ (by omega), ss_o _ _ _ (by omega), ss_o _ _ _ (by omega), ss_o _ _ _ (by omega), ss_o _ _ _ (by omega)]
            exact hb1
          refine wa_aload_n dX5_read_50 rfl ?_
          refine wa_aload_n dX5_read_51 rfl ?_
          refine wa_iload dX5_read_52 rfl ?_
          refine s_bald (j := i) isA_text dX5_read_54 (ltS hn) (ix_nI (by omega)) (by omega) ?_
          rw [hb2]
          refine c_VV dX5_read_55 (tk_ext2 (q := k) hn (by omega) hc1 (by rw [hc2, cx]; rfl) (b i)) lk_X5_42 rfl (isO_TO _ _ _) rfl (ltS hn) ?_
          refine wa_iload dX5_read_58 rfl ?_
          refine wa_istore_n dX5_read_60 rfl ?_
          refine wa_iinc (y := 1) dX5_read_61 rfl (by decide) rfl ?_
          refine wa_goto 10 dX5_read_64 rfl ?_
          rw [nI_1 i]
          exact ih (i + 1) (k + 1) _ _ (by omega) (h.new (by omega) a1 a2 (by unfold nw1; rw [if_pos cx])) hQ
        · refine wa_iload dX5_read_36 rfl ?_
          refine wa_iconst (x := 3) dX5_read_38 (by decide) ?_
          refine wa_icmp_ne 50 dX5_read_39 rfl (fun c39 => absurd (a3.resolve_left (fun z => z (nI_inj (a := kd (b i)) (by have := kd_lt (b i); omega) (by have := pv_lt b i; omega) c33))) (fun z => c39 (by rw [z]; rfl))) (fun c39 => ?_)
          refine wa_aload_n dX5_read_42 rfl ?_
          refine wa_iload dX5_read_43 rfl ?_
          refine wa_iload dX5_read_45 rfl ?_
          refine c_VV dX5_read_47 (tk_begin hn (by omega) h.2.1 _ _) lk_X5_38 rfl (isO_TO _ _ _) rfl (ltS hn) ?_
          have hc1 : (bgn S1 k (nI (kd (b i))) (nI i)).1 26 0 = nI (k + 1) := ss_e _ _ _ _
          have hc2 : (bgn S1 k (nI (kd (b i))) (nI i)).1 27 k = nI (kd (b i)) := by
            unfold bgn
            simp [ss_1]
          have hb2 : (bgn S1 k (nI (kd (b i))) (nI i)).1 2 i = b i := by
            unfold bgn
            rw [ss_o _ _ _ (by omega), ss_o _ _ _ (by omega), ss_o _ _ _ (by omega), ss_o _ _ _ (by omega), ss_o _ _ _ (by omega)]
            exact hb1
          refine wa_aload_n dX5_read_50 rfl ?_
          refine wa_aload_n dX5_read_51 rfl ?_
          refine wa_iload dX5_read_52 rfl ?_
          refine s_bald (j := i) isA_text dX5_read_54 (ltS hn) (ix_nI (by omega)) (by omega) ?_
          rw [hb2]
          refine c_VV dX5_read_55 (tk_ext2 (q := k) hn (by omega) hc1 (by rw [hc2, cx]; rfl) (b i)) lk_X5_42 rfl (isO_TO _ _ _) rfl (ltS hn) ?_
          refine wa_iload dX5_read_58 rfl ?_
          refine wa_istore_n dX5_read_60 rfl ?_
          refine wa_iinc (y := 1) dX5_read_61 rfl (by decide) rfl ?_
          refine wa_goto 10 dX5_read_64 rfl ?_
          rw [nI_1 i]
          exact ih (i + 1) (k + 1) _ _ (by omega) (h.new (by omega) a1 a2 (by unfold nw1; rw [if_pos cx])) hQ
      · skip
        refine wa_iload dX5_read_10 rfl ?_
        refine wa_iload_n dX5_read_12 rfl ?_
        refine wa_icmp_ge 67 dX5_read_13 rfl (fun c13 => absurd c13 (nI_ge (by omega) (by omega))) (fun c13 => ?_)
        refine wa_aload_n dX5_read_16 rfl ?_
        refine wa_iload dX5_read_17 rfl ?_
        refine s_bald (j := i) isA_text dX5_read_19 (ltS hn) (ix_nI (by omega)) (by omega) ?_
        rw [hb1]
        refine c_SI dX5_read_20 (tk_kindOf (b i)) lk_X5_34 rfl ?_
        refine wa_istore dX5_read_23 rfl ?_
        refine wa_iload dX5_read_25 rfl ?_
        refine wa_if_eq 58 dX5_read_27 rfl (fun c27 => absurd (nI_inj (a := kd (b i)) (by have := kd_lt (b i); omega) (by decide) c27) a1) (fun c27 => ?_)
        refine wa_iload dX5_read_30 rfl ?_
        refine wa_iload_n dX5_read_32 rfl ?_
        refine wa_icmp_ne 42 dX5_read_33 rfl (fun c33 => ?_) (fun c33 => ?_)
        · refine wa_aload_n dX5_read_42 rfl ?_
          refine wa_iload dX5_read_43 rfl ?_
          refine wa_iload dX5_read_45 rfl ?_
          refine c_VV dX5_read_47 (tk_begin hn (by omega) h.2.1 _ _) lk_X5_38 rfl (isO_TO _ _ _) rfl (ltS hn) ?_
          have hc1 : (bgn S1 k (nI (kd (b i))) (nI i)).1 26 0 = nI (k + 1) := ss_e _ _ _ _
          have hc2 : (bgn S1 k (nI (kd (b i))) (nI i)).1 27 k = nI (kd (b i)) := by
            unfold bgn
            simp [ss_1]
          have hb2 : (bgn S1 k (nI (kd (b i))) (nI i)).1 2 i = b i := by
            unfold bgn
            rw [ss_o _ _ _ (by omega), ss_o _ _ _ (by omega), ss_o _ _ _ (by omega), ss_o _ _ _ (by omega), ss_o _ _ _ (by omega)]
            exact hb1
          refine wa_aload_n dX5_read_50 rfl ?_
          refine wa_aload_n dX5_read_51 rfl ?_
          refine wa_iload dX5_read_52 rfl ?_
          refine s_bald (j := i) isA_text dX5_read_54 (ltS hn) (ix_nI (by omega)) (by omega) ?_
          rw [hb2]
          refine c_VV dX5_read_55 (tk_exto (q := k) hn (by omega) hc1 (fun z => cx (nI_inj (a := kd (b i)) (by have := kd_lt (b i); omega) (by decide) (hc2.symm.trans z))) (b i)) lk_X5_42 rfl (isO_TO _ _ _) rfl (ltS hn) ?_
          refine wa_iload dX5_read_58 rfl ?_
          refine wa_istore_n dX5_read_60 rfl ?_
          refine wa_iinc (y := 1) dX5_read_61 rfl (by decide) rfl ?_
          refine wa_goto 10 dX5_read_64 rfl ?_
          rw [nI_1 i]
          exact ih (i + 1) (k + 1) _ _ (by omega) (h.new (by omega) a1 a2 (by unfold nw1; rw [if_neg cx])) hQ
        · refine wa_iload dX5_read_36 rfl ?_
          refine wa_iconst (x := 3) dX5_read_38 (by decide) ?_
          refine wa_icmp_ne 50 dX5_read_39 rfl (fun c39 => absurd (a3.resolve_left (fun z => z (nI_inj (a := kd (b i)) (by have := kd_lt (b i); omega) (by have := pv_lt b i; omega) c33))) (fun z => c39 (by rw [z]; rfl))) (fun c39 => ?_)
          refine wa_aload_n dX5_read_42 rfl ?_
          refine wa_iload dX5_read_43 rfl ?_
          refine wa_iload dX5_read_45 rfl ?_
          refine c_VV dX5_read_47 (tk_begin hn (by omega) h.2.1 _ _) lk_X5_38 rfl (isO_TO _ _ _) rfl (ltS hn) ?_
          have hc1 : (bgn S1 k (nI (kd (b i))) (nI i)).1 26 0 = nI (k + 1) := ss_e _ _ _ _
          have hc2 : (bgn S1 k (nI (kd (b i))) (nI i)).1 27 k = nI (kd (b i)) := by
            unfold bgn
            simp [ss_1]
          have hb2 : (bgn S1 k (nI (kd (b i))) (nI i)).1 2 i = b i := by
            unfold bgn
            rw [ss_o _ _ _ (by omega), ss_o _ _ _ (by omega), ss_o _ _ _ (by omega), ss_o _ _ _ (by omega), ss_o _ _ _ (by omega)]
            exact hb1
          refine wa_aload_n dX5_read_50 rfl ?_
          refine wa_aload_n dX5_read_51 rfl ?_
          refine wa_iload dX5_read_52 rfl ?_
          refine s_bald (j := i) isA_text dX5_read_54 (ltS hn) (ix_nI (by omega)) (by omega) ?_
          rw [hb2]
          refine c_VV dX5_read_55 (tk_exto (q := k) hn (by omega) hc1 (fun z => cx (nI_inj (a := kd (b i)) (by have := kd_lt (b i); omega) (by decide) (hc2.symm.trans z))) (b i)) lk_X5_42 rfl (isO_TO _ _ _) rfl (ltS hn) ?_
          refine wa_iload dX5_read_58 rfl ?_
          refine wa_istore_n dX5_read_60 rfl ?_
          refine wa_iinc (y := 1) dX5_read_61 rfl (by decide) rfl ?_
          refine wa_goto 10 dX5_read_64 rfl ?_
          rw [nI_1 i]
          exact ih (i + 1) (k + 1) _ _ (by omega) (h.new (by omega) a1 a2 (by unfold nw1; rw [if_neg cx])) hQ
    · have hq1 := (h.2.2.2.2 q (by omega)).1
      have tin := (te_in (h.2.2.1 q (by omega)) a4).2.1
      by_cases cx : kd (b i) = 2
      · skip
        refine wa_iload dX5_read_10 rfl ?_
        refine wa_iload_n dX5_read_12 rfl ?_
        refine wa_icmp_ge 67 dX5_read_13 rfl (fun c13 => absurd c13 (nI_ge (by omega) (by omega))) (fun c13 => ?_)
        refine wa_aload_n dX5_read_16 rfl ?_
        refine wa_iload dX5_read_17 rfl ?_
        refine s_bald (j := i) isA_text dX5_read_19 (ltS hn) (ix_nI (by omega)) (by omega) ?_
        rw [hb1]
        refine c_SI dX5_read_20 (tk_kindOf (b i)) lk_X5_34 rfl ?_
        refine wa_istore dX5_read_23 rfl ?_
        refine wa_iload dX5_read_25 rfl ?_
        refine wa_if_eq 58 dX5_read_27 rfl (fun c27 => absurd (nI_inj (a := kd (b i)) (by have := kd_lt (b i); omega) (by decide) c27) a1) (fun c27 => ?_)
        refine wa_iload dX5_read_30 rfl ?_
        refine wa_iload_n dX5_read_32 rfl ?_
        refine wa_icmp_ne 42 dX5_read_33 rfl (fun c33 => absurd (by rw [a2]) c33) (fun c33 => ?_)
        refine wa_iload dX5_read_36 rfl ?_
        refine wa_iconst (x := 3) dX5_read_38 (by decide) ?_
        refine wa_icmp_ne 50 dX5_read_39 rfl (fun c39 => ?_) (fun c39 => absurd (nI_inj (a := kd (b i)) (by have := kd_lt (b i); omega) (by decide) c39) a3)
        refine wa_aload_n dX5_read_50 rfl ?_
        refine wa_aload_n dX5_read_51 rfl ?_
        refine wa_iload dX5_read_52 rfl ?_
        refine s_bald (j := i) isA_text dX5_read_54 (ltS hn) (ix_nI (by omega)) (by omega) ?_
        rw [hb1]
        refine c_VV dX5_read_55 (tk_ext2 (q := q) hn (by omega) h.2.1 (by rw [hq1, ← tin, cx]; rfl) (b i)) lk_X5_42 rfl (isO_TO _ _ _) rfl (ltS hn) ?_
        refine wa_iload dX5_read_58 rfl ?_
        refine wa_istore_n dX5_read_60 rfl ?_
        refine wa_iinc (y := 1) dX5_read_61 rfl (by decide) rfl ?_
        refine wa_goto 10 dX5_read_64 rfl ?_
        rw [nI_1 i]
        exact ih (i + 1) (q + 1) _ _ (by omega) (h.ext (by omega) a4 a5 (by unfold ex1; rw [if_pos cx])) hQ
      · skip
        refine wa_iload dX5_read_10 rfl ?_
        refine wa_iload_n dX5_read_12 rfl ?_
        refine wa_icmp_ge 67 dX5_read_13 rfl (fun c13 => absurd c13 (nI_ge (by omega) (by omega))) (fun c13 => ?_)
        refine wa_aload_n dX5_read_16 rfl ?_
        refine wa_iload dX5_read_17 rfl ?_
        refine s_bald (j := i) isA_text dX5_read_19 (ltS hn) (ix_nI (by omega)) (by omega) ?_
        rw [hb1]
        refine c_SI dX5_read_20 (tk_kindOf (b i)) lk_X5_34 rfl ?_
        refine wa_istore dX5_read_23 rfl ?_
        refine wa_iload dX5_read_25 rfl ?_
        refine wa_if_eq 58 dX5_read_27 rfl (fun c27 => absurd (nI_inj (a := kd (b i)) (by have := kd_lt (b i); omega) (by decide) c27) a1) (fun c27 => ?_)
        refine wa_iload dX5_read_30 rfl ?_
        refine wa_iload_n dX5_read_32 rfl ?_
        refine wa_icmp_ne 42 dX5_read_33 rfl (fun c33 => absurd (by rw [a2]) c33) (fun c33 => ?_)
        refine wa_iload dX5_read_36 rfl ?_
        refine wa_iconst (x := 3) dX5_read_38 (by decide) ?_
        refine wa_icmp_ne 50 dX5_read_39 rfl (fun c39 => ?_) (fun c39 => absurd (nI_inj (a := kd (b i)) (by have := kd_lt (b i); omega) (by decide) c39) a3)
        refine wa_aload_n dX5_read_50 rfl ?_
        refine wa_aload_n dX5_read_51 rfl ?_
        refine wa_iload dX5_read_52 rfl ?_
        refine s_bald (j := i) isA_text dX5_read_54 (ltS hn) (ix_nI (by omega)) (by omega) ?_
        rw [hb1]
        refine c_VV dX5_read_55 (tk_exto (q := q) hn (by omega) h.2.1 (fun z => cx (by rw [tin]; exact nI_inj (by have := kd_lt (b (pos b N q)); omega) (by decide) (hq1.symm.trans z))) (b i)) lk_X5_42 rfl (isO_TO _ _ _) rfl (ltS hn) ?_
        refine wa_iload dX5_read_58 rfl ?_
        refine wa_istore_n dX5_read_60 rfl ?_
        refine wa_iinc (y := 1) dX5_read_61 rfl (by decide) rfl ?_
        refine wa_goto 10 dX5_read_64 rfl ?_
        rw [nI_1 i]
        exact ih (i + 1) (q + 1) _ _ (by omega) (h.ext (by omega) a4 a5 (by unfold ex1; rw [if_neg cx])) hQ

