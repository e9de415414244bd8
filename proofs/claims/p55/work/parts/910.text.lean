/-! THE TEXT THAT THE LAW WRITES, READ: tokens. -/
/-- the text from p on is l -/
def Suf (b : Nat → Int32) (N p : Nat) (l : List Int32) : Prop := p + l.length = N ∧ ∀ i c, l[i]? = some c → b (p + i) = c
/-- l does not begin with a byte of kind k -/
def HN (k : Nat) (r : List Int32) : Prop := ∀ c l, r = c :: l → ¬ kd c = k
def spc (s : Bool) (r : List Int32) : List Int32 := if s then 32 :: r else r
section TX
variable {b : Nat → Int32} {N : Nat}
theorem Suf.drop {p : Nat} {x l : List Int32} (h : Suf b N p (x ++ l)) : Suf b N (p + x.length) l := by
  obtain ⟨h1, h2⟩ := h
  rw [List.length_append] at h1
  refine ⟨by omega, fun i c hc => ?_⟩
  rw [Nat.add_assoc]
  exact h2 _ c (by rw [List.getElem?_append_right (by omega), Nat.add_sub_cancel_left]; exact hc)
theorem Suf.at {p : Nat} {x l : List Int32} (h : Suf b N p (x ++ l)) {i : Nat} {c : Int32} (hc : x[i]? = some c) : p + i < N ∧ b (p + i) = c := by
  obtain ⟨h1, h2⟩ := h
  have hi : i < x.length := (List.getElem?_eq_some_iff.mp hc).1
  rw [List.length_append] at h1
  exact ⟨by omega, h2 i c (by rw [List.getElem?_append_left hi]; exact hc)⟩
theorem Suf.hd {p : Nat} {c : Int32} {l : List Int32} (h : Suf b N p (c :: l)) : p < N ∧ b p = c :=
  Suf.at (x := [c]) (l := l) h (i := 0) (c := c) rfl
theorem HN.c {k : Nat} {c : Int32} {l : List Int32} (h : ¬ kd c = k) : HN k (c :: l) := fun d m e => by
  cases e
  exact h
theorem run_suf {k : Nat} {r : List Int32} (hr : HN k r) : ∀ (w : List Int32) (p : Nat), Suf b N p (w ++ r) → (∀ c ∈ w, kd c = k) → run b N k p = p + w.length
  | [], p, h, _ => by
    refine run_e (fun z => ?_)
    obtain ⟨z1, z2⟩ := z
    cases r with
    | nil =>
      have h1 : p + 0 = N := h.1
      omega
    | cons c l =>
      have e := (Suf.hd (l := l) h).2
      rw [e] at z2
      exact hr c l rfl z2
  | c :: w, p, h, hw => by
    obtain ⟨h1, h2⟩ := Suf.hd (l := w ++ r) h
    rw [run_s h1 (by rw [h2]; exact hw c List.mem_cons_self), run_suf hr w (p + 1) (Suf.drop (x := [c]) (l := w ++ r) h) (fun d hd => hw d (List.mem_cons_of_mem _ hd)), List.length_cons]
    omega
theorem spc_nx {s : Bool} {q : Nat} {r : List Int32} (h : Suf b N q (spc s r)) (hr : HN 0 r) : Suf b N (run b N 0 q) r := by
  cases s with
  | false =>
    have e : run b N 0 q = q := run_suf (b := b) (N := N) hr [] q h (fun c hc => absurd hc List.not_mem_nil)
    rw [e]
    exact h
  | true =>
    have e : run b N 0 q = q + 1 := run_suf (b := b) (N := N) hr [32] q h (fun c hc => by rw [List.mem_singleton.mp hc]; decide)
    rw [e]
    exact Suf.drop (x := [32]) (l := r) h
theorem spc_hn {k : Nat} {s : Bool} {r : List Int32} (hk : ¬ k = 0) (hs : s = false → HN k r) : HN k (spc s r) := by
  cases s with
  | false => exact hs rfl
  | true =>
    refine HN.c (fun z => hk ?_)
    rw [← z]
    decide
theorem tok_run {k p : Nat} {w r : List Int32} (hk : k = 1 ∨ k = 2) (s : Bool) (h : Suf b N p (w ++ spc s r)) (hw0 : w ≠ []) (hw : ∀ c ∈ w, kd c = k) (hr : HN 0 r) (hs : s = false → HN k r) : tk b N p = k ∧ te b N p = p + w.length ∧ Suf b N (nx b N p) r ∧ p < N := by
  cases w with
  | nil => exact absurd rfl hw0
  | cons c w' =>
    obtain ⟨h1, h2⟩ := Suf.hd (l := w' ++ spc s r) h
    have hc := hw c List.mem_cons_self
    have e1 : tk b N p = k := by unfold tk; rw [if_pos h1, h2, hc]
    have e2 : te b N p = p + (c :: w').length := by
      unfold te
      rw [if_pos h1, h2, hc, if_neg (by omega)]
      exact run_suf (spc_hn (by omega) hs) (c :: w') p h hw
    refine ⟨e1, e2, ?_, h1⟩
    unfold nx
    rw [e2]
    exact spc_nx (Suf.drop h) hr
theorem tok_sym {c : Int32} {p : Nat} {r : List Int32} (s : Bool) (h : Suf b N p (c :: spc s r)) (hc : kd c = 3) (hr : HN 0 r) : tk b N p = 3 ∧ b p = c ∧ Suf b N (nx b N p) r ∧ p < N := by
  obtain ⟨h1, h2⟩ := Suf.hd h
  have e1 : tk b N p = 3 := by unfold tk; rw [if_pos h1, h2, hc]
  have e2 : te b N p = p + 1 := by unfold te; rw [if_pos h1, h2, if_pos hc]
  refine ⟨e1, h2, ?_, h1⟩
  unfold nx
  rw [e2]
  exact spc_nx (Suf.drop (x := [c]) h) hr
theorem wd_ok {w r : List Int32} {p : Nat} (s : Bool) (h : Suf b N p (w ++ spc s r)) (hw0 : w ≠ []) (hw : ∀ c ∈ w, kd c = 1) (hr : HN 0 r) (hs : s = false → HN 1 r) : wd b N w p = true ∧ Suf b N (nx b N p) r := by
  obtain ⟨a1, a2, a3, -⟩ := tok_run (Or.inl rfl) s h hw0 hw hr hs
  refine ⟨wd_iff.mpr ⟨a1, a2, fun j hj => ?_⟩, a3⟩
  have hc := List.getElem?_eq_getElem hj
  rw [(Suf.at h hc).2, List.getD_eq_getElem?_getD, hc]
  rfl
theorem kw_ok : ∀ i, i < 18 → kw i ≠ [] ∧ ∀ c ∈ kw i, kd c = 1 := by decide +kernel
theorem kw_at {i p : Nat} {r : List Int32} (s : Bool) (hi : i < 18) (h : Suf b N p (kw i ++ spc s r)) (hr : HN 0 r) (hs : s = false → HN 1 r) : wd b N (kw i) p = true ∧ Suf b N (nx b N p) r ∧ (∀ j, j < 18 → ¬ j = i → wd b N (kw j) p = false) ∧ ¬ tk b N p = 0 := by
  obtain ⟨a, c⟩ := wd_ok s h (kw_ok i hi).1 (kw_ok i hi).2 hr hs
  refine ⟨a, c, fun j hj hji => Bool.eq_false_iff.mpr (fun z => hji (wd_inj hj hi z a)), ?_⟩
  rw [(wd_iff.mp a).1]
  decide
theorem wd_sym {p : Nat} (h3 : ¬ tk b N p = 1) (l : List Int32) : wd b N l p = false := Bool.eq_false_iff.mpr (fun z => h3 (wd_iff.mp z).1)
theorem kd_dgt : ∀ x, x < 10 → kd (nI (48 + x)) = 2 ∧ ((nI (48 + x)).toInt - 48).toNat = x := by decide
theorem decN_len (a : Nat) : (decN a).length = dk 10 a + 1 := dd_len 10 48 a _
theorem decN_at {a i : Nat} {c : Int32} (h : (decN a)[i]? = some c) : i < dk 10 a + 1 ∧ c = nI (48 + a / 10 ^ (dk 10 a + 1 - 1 - i) % 10) := dd_at _ _ _ h
theorem decN_kd {a : Nat} {c : Int32} (h : c ∈ decN a) : kd c = 2 := by
  obtain ⟨i, hi⟩ := List.getElem?_of_mem h
  rw [(decN_at hi).2]
  exact (kd_dgt _ (Nat.mod_lt _ (by decide))).1
theorem nv_dec {a p : Nat} {l : List Int32} (ha : a ≤ 99999) (h : Suf b N p (decN a ++ l)) : ∀ k, k ≤ dk 10 a + 1 → nv b 99999 p k = a / 10 ^ (dk 10 a + 1 - k)
  | 0, _ => by
    show 0 = _
    rw [Nat.sub_zero, Nat.div_eq_of_lt (dk_ok (B := 10) (by decide) a).2]
  | k + 1, hk => by
    have ih := nv_dec ha h k (by omega)
    have hl := decN_len a
    have hc := List.getElem?_eq_getElem (l := decN a) (i := k) (by omega)
    have e := (decN_at hc).2
    have eb := (Suf.at h hc).2
    have q := kd_dgt (a / 10 ^ (dk 10 a + 1 - 1 - k) % 10) (Nat.mod_lt _ (by decide))
    show min 99999 (10 * nv b 99999 p k + ((b (p + k)).toInt - 48).toNat) = _
    rw [ih, eb, e, q.2]
    have e1 : dk 10 a + 1 - k = (dk 10 a + 1 - (k + 1)) + 1 := by omega
    have e2 : dk 10 a + 1 - 1 - k = dk 10 a + 1 - (k + 1) := by omega
    rw [e1, e2, Nat.pow_succ, ← Nat.div_div_eq_div_mul]
    have e3 := Nat.div_add_mod (a / 10 ^ (dk 10 a + 1 - (k + 1))) 10
    have e4 := Nat.div_le_self a (10 ^ (dk 10 a + 1 - (k + 1)))
    omega
theorem num_at {a p : Nat} {r : List Int32} (s : Bool) (ha : a ≤ 99999) (h : Suf b N p (decN a ++ spc s r)) (hr : HN 0 r) (hs : s = false → HN 2 r) : tk b N p = 2 ∧ vl b N p = a ∧ Suf b N (nx b N p) r := by
  have hl := decN_len a
  obtain ⟨a1, a2, a3, -⟩ := tok_run (Or.inr rfl) s h (fun z => by rw [z] at hl; simp at hl) (fun c hc => decN_kd hc) hr hs
  refine ⟨a1, ?_, a3⟩
  unfold vl
  rw [a2, Nat.add_sub_cancel_left, hl, nv_dec ha h _ (Nat.le_refl _), Nat.sub_self, Nat.pow_zero, Nat.div_one]
theorem pNumH_ok {a p lo hi : Nat} {r : List Int32} (s : Bool) (ha : a ≤ 99999) (h : Suf b N p (decN a ++ spc s r)) (hr : HN 0 r) (hs : s = false → HN 2 r) (h1 : lo ≤ a) (h2 : a ≤ hi) : pNumH b N lo hi p = .inr a ∧ Suf b N (nx b N p) r := by
  obtain ⟨a1, a2, a3⟩ := num_at s ha h hr hs
  refine ⟨?_, a3⟩
  unfold pNumH
  rw [if_pos a1, a2, if_pos ⟨h1, h2⟩]
theorem pNum_ok {a p lo hi : Nat} {r : List Int32} (s : Bool) (ha : a ≤ 99999) (h : Suf b N p (decN a ++ spc s r)) (hr : HN 0 r) (hs : s = false → HN 2 r) (h1 : lo ≤ a) (h2 : a ≤ hi) : pNum b N lo hi p = .inr (a, nx b N p) ∧ Suf b N (nx b N p) r := by
  obtain ⟨a1, a2⟩ := pNumH_ok s ha h hr hs h1 h2
  refine ⟨?_, a2⟩
  unfold pNum
  rw [a1]
  rfl
theorem isS_ok {c : Int32} {p : Nat} {r : List Int32} (s : Bool) (h : Suf b N p (c :: spc s r)) (hc : kd c = 3) (hr : HN 0 r) : isS b N c p = true ∧ Suf b N (nx b N p) r ∧ ¬ tk b N p = 1 := by
  obtain ⟨a1, a2, a3, -⟩ := tok_sym s h hc hr
  exact ⟨isS_iff.mpr ⟨a1, a2⟩, a3, by rw [a1]; decide⟩
theorem isS_no {c d : Int32} {p : Nat} {r : List Int32} (h : Suf b N p (d :: r)) (hcd : ¬ d = c) : isS b N c p = false := Bool.eq_false_iff.mpr (fun z => by
  have := (isS_iff.mp z).2
  rw [(Suf.hd h).2] at this
  exact hcd this)
theorem pSym_ok {c : Int32} {p : Nat} {r : List Int32} (s : Bool) (h : Suf b N p (c :: spc s r)) (hc : kd c = 3) (hr : HN 0 r) : pSym b N c p = .inr (nx b N p) ∧ Suf b N (nx b N p) r := by
  obtain ⟨a1, a2, -⟩ := isS_ok s h hc hr
  refine ⟨?_, a2⟩
  unfold pSym
  rw [if_pos a1]
theorem pEnd_ok {p m : Nat} {g : Nat → Int32} {r : List Int32} (h : Suf b N p (59 :: r)) (hr : HN 0 r) : pEnd b N (p, g, m) = .inr (nx b N p, g, m) ∧ Suf b N (nx b N p) r := by
  obtain ⟨a1, a2⟩ := pSym_ok false h (by decide) hr
  refine ⟨?_, a2⟩
  unfold pEnd
  rw [a1]
  rfl
/-- a name of two letters, the first an r -/
def NMV (k : Nat) : Int32 := 27 * (27 * 0 + 114 - 96) + nI (97 + k) - 96
theorem NMV_pos : ∀ k, k < 3 → 0 < NMV k ∧ ∀ j, j < 3 → NMV j = NMV k → j = k := by decide
theorem kd_let : ∀ k, k < 3 → kd (nI (97 + k)) = 1 := by decide
theorem kw_two : ∀ i, i < 18 → (kw i).length = 2 → (kw i).getD 0 0 = 103 := by decide +kernel
theorem name_at {k p : Nat} {r : List Int32} (s : Bool) (hk : k < 3) (h : Suf b N p ([114, nI (97 + k)] ++ spc s r)) (hr : HN 0 r) (hs : s = false → HN 1 r) : pName b N p = .inr (NMV k) ∧ Suf b N (nx b N p) r := by
  obtain ⟨a1, a2, a3, -⟩ := tok_run (Or.inl rfl) s h (by simp) (fun c hc => by
    rcases List.mem_cons.mp hc with e | hc
    · rw [e]; decide
    · rw [List.mem_singleton.mp hc]; exact kd_let k hk) hr hs
  have hb0 : b p = 114 := (Suf.at h (i := 0) rfl).2
  have hb1 : b (p + 1) = nI (97 + k) := (Suf.at h (i := 1) rfl).2
  have e2 : te b N p - p = 2 := by rw [a2]; simp
  refine ⟨?_, a3⟩
  have hn : isNm b N p = true := by
    refine isNm_iff.mpr ⟨a1, by omega, fun z => ?_⟩
    obtain ⟨i, hi, hw⟩ := kwB_iff.mp z
    obtain ⟨-, w2, w3⟩ := wd_iff.mp hw
    have hl : (kw i).length = 2 := by omega
    have w4 := w3 0 (by omega)
    rw [kw_two i hi hl] at w4
    have w5 : b p = 103 := w4
    rw [hb0] at w5
    exact absurd w5 (by decide)
  unfold pName
  rw [if_pos hn, e2]
  show Sum.inr (27 * (27 * 0 + b (p + 0) - 96) + b (p + 1) - 96) = _
  rw [Nat.add_zero, hb0, hb1]
  rfl
end TX
