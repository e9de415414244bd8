/-! A program of the day as 48 numbers (0: no entry), and as a sorted row of entries. -/
def cnt (P : Nat → Int32) : Nat → Nat
  | 0 => 0
  | t + 1 => cnt P t + (if P t = 0 then 0 else 1)
theorem cnt_s0 {P : Nat → Int32} {t : Nat} (h : P t = 0) : cnt P (t + 1) = cnt P t := by simp [cnt, h]
theorem cnt_s1 {P : Nat → Int32} {t : Nat} (h : ¬ P t = 0) : cnt P (t + 1) = cnt P t + 1 := by simp [cnt, h]
theorem cnt_le (P : Nat → Int32) : ∀ t, cnt P t ≤ t := by
  intro t
  induction t with
  | zero => exact Nat.le_refl _
  | succ t ih =>
    by_cases h : P t = 0
    · rw [cnt_s0 h]; omega
    · rw [cnt_s1 h]; omega
theorem cnt_mono (P : Nat → Int32) {s t : Nat} (h : s ≤ t) : cnt P s ≤ cnt P t := by
  induction t with
  | zero => rw [Nat.le_zero.mp h]; exact Nat.le_refl _
  | succ t ih =>
    rcases Nat.eq_or_lt_of_le h with rfl | h
    · exact Nat.le_refl _
    · have := ih (by omega)
      by_cases h0 : P t = 0
      · rw [cnt_s0 h0]; exact this
      · rw [cnt_s1 h0]; omega
theorem cnt_lt (P : Nat → Int32) {s t : Nat} (h : s < t) (h0 : ¬ P s = 0) : cnt P s < cnt P t := by
  have := cnt_mono P (s := s + 1) (t := t) (by omega)
  rw [cnt_s1 h0] at this
  omega
theorem cnt_nth (P : Nat → Int32) {i : Nat} : ∀ t, i < cnt P t → ∃ s, s < t ∧ ¬ P s = 0 ∧ cnt P s = i := by
  intro t
  induction t with
  | zero => intro h; exact absurd h (Nat.not_lt_zero _)
  | succ t ih =>
    intro h
    by_cases h0 : P t = 0
    · rw [cnt_s0 h0] at h
      obtain ⟨s, h1, h2⟩ := ih h
      exact ⟨s, by omega, h2⟩
    · rw [cnt_s1 h0] at h
      by_cases hi : i = cnt P t
      · exact ⟨t, by omega, h0, hi.symm⟩
      · obtain ⟨s, h1, h2⟩ := ih (by omega)
        exact ⟨s, by omega, h2⟩
theorem cnt_top {P : Nat → Int32} {m : Nat} (h : ∀ t, m ≤ t → P t = 0) : ∀ t, m ≤ t → cnt P t = cnt P m := by
  intro t
  induction t with
  | zero => intro ht; rw [Nat.le_zero.mp ht]
  | succ t ih =>
    intro ht
    rcases Nat.eq_or_lt_of_le ht with rfl | ht
    · rfl
    · rw [cnt_s0 (h t (by omega)), ih (by omega)]
theorem cnt_inj {P : Nat → Int32} {s t : Nat} (hs : ¬ P s = 0) (ht : ¬ P t = 0) (h : cnt P s = cnt P t) : s = t := by
  rcases Nat.lt_trichotomy s t with q | q | q
  · have := cnt_lt P q hs; omega
  · exact q
  · have := cnt_lt P q ht; omega
/-- targets -/
def PT (P : Nat → Int32) : Prop := (∀ t, 48 ≤ t → P t = 0) ∧ ∀ t, P t = 0 ∨ (50 ≤ (P t).toInt ∧ (P t).toInt ≤ 300)
/-- the room's program stands for P -/
def RP (S : SS) (r : Nat) (P : Nat → Int32) : Prop := PT P ∧ S.1 r 14 = nI (cnt P 48) ∧ ∀ t, t < 48 → ¬ P t = 0 → S.1 (r + 2) (cnt P t) = nI (1000 * t) + P t
theorem i_add {x y : Int32} (h1 : -2147483648 ≤ x.toInt + y.toInt) (h2 : x.toInt + y.toInt ≤ 2147483647) : (x + y).toInt = x.toInt + y.toInt := by
  rw [Int32.toInt_add]
  exact Int.bmod_eq_of_le (by omega) (by omega)
theorem i_sub {x y : Int32} (h1 : -2147483648 ≤ x.toInt - y.toInt) (h2 : x.toInt - y.toInt ≤ 2147483647) : (x - y).toInt = x.toInt - y.toInt := by
  rw [Int32.toInt_sub]
  exact Int.bmod_eq_of_le (by omega) (by omega)
theorem i_mul {x y : Int32} (h1 : -2147483648 ≤ x.toInt * y.toInt) (h2 : x.toInt * y.toInt ≤ 2147483647) : (x * y).toInt = x.toInt * y.toInt := by
  rw [Int32.toInt_mul]
  exact Int.bmod_eq_of_le (by omega) (by omega)
theorem PT.v {P : Nat → Int32} (h : PT P) {t : Nat} (ht : t < 48) (h0 : ¬ P t = 0) : (nI (1000 * t) + P t).toInt = 1000 * t + (P t).toInt ∧ 50 ≤ (P t).toInt ∧ (P t).toInt ≤ 300 := by
  have h1 := (h.2 t).resolve_left h0
  refine ⟨?_, h1⟩
  have h2 : (nI (1000 * t)).toInt = ((1000 * t : Nat) : Int) := nI_toInt (by omega)
  rw [i_add (by rw [h2]; omega) (by rw [h2]; omega), h2]
  omega
theorem i_div {x : Int32} {s : Nat} {v : Int} (hx : x.toInt = 1000 * s + v) (h0 : 0 ≤ v) (h1 : v < 1000) (hs : s ≤ 1000000) : x / 1000 = nI s ∧ (x - x / 1000 * 1000).toInt = v := by
  have e : (x / 1000).toInt = (s : Int) := by
    have k : (1000 : Int32).toInt = 1000 := by decide
    rw [Int32.toInt_div, k, hx, Int.tdiv_eq_ediv_of_nonneg (by omega)]
    have : (1000 * (s : Int) + v) / 1000 = s := by omega
    rw [this]
    exact Int.bmod_eq_of_le (by omega) (by omega)
  have e2 : x / 1000 = nI s := Int32.toInt_inj.mp (by rw [e, nI_toInt (by omega)])
  refine ⟨e2, ?_⟩
  have k : (1000 : Int32).toInt = 1000 := by decide
  have e3 : (x / 1000 * 1000).toInt = 1000 * s := by
    rw [i_mul (by rw [e, k]; omega) (by rw [e, k]; omega), e, k]
    omega
  rw [i_sub (by rw [e3, hx]; omega) (by rw [e3, hx]; omega), e3, hx]
  omega
theorem PT.q {P : Nat → Int32} (h : PT P) {t : Nat} (ht : t < 48) (h0 : ¬ P t = 0) : (nI (1000 * t) + P t) / 1000 = nI t ∧ (nI (1000 * t) + P t) - (nI (1000 * t) + P t) / 1000 * 1000 = P t := by
  obtain ⟨h1, h2, h3⟩ := h.v ht h0
  obtain ⟨h4, h5⟩ := i_div h1 (by omega) (by omega) (by omega)
  exact ⟨h4, Int32.toInt_inj.mp h5⟩
/-- the last entry ahead of t, 0 if there is none; what the program tells at t -/
def back (P : Nat → Int32) : Nat → Int32
  | 0 => 0
  | t + 1 => if P t = 0 then back P t else P t
def told (P : Nat → Int32) (t : Nat) : Int32 := if back P (t + 1) = 0 then (if back P 48 = 0 then 200 else back P 48) else back P (t + 1)
theorem back_nth {P : Nat → Int32} {i : Nat} : ∀ t, cnt P t = i + 1 → ∃ s, s < t ∧ ¬ P s = 0 ∧ cnt P s = i ∧ back P t = P s := by
  intro t
  induction t with
  | zero => intro h; cases h
  | succ t ih =>
    intro h
    by_cases h0 : P t = 0
    · rw [cnt_s0 h0] at h
      obtain ⟨s, h1, h2, h3, h4⟩ := ih h
      exact ⟨s, by omega, h2, h3, by simp [back, h0, h4]⟩
    · rw [cnt_s1 h0] at h
      exact ⟨t, by omega, h0, by omega, by simp [back, h0]⟩
theorem back_0 {P : Nat → Int32} : ∀ t, cnt P t = 0 → back P t = 0 := by
  intro t
  induction t with
  | zero => intro _; rfl
  | succ t ih =>
    intro h
    by_cases h0 : P t = 0
    · rw [cnt_s0 h0] at h
      simp [back, h0, ih h]
    · rw [cnt_s1 h0] at h
      omega
/-- an entry's place: what stands there, by the tick -/
theorem RP.at {S : SS} {r : Nat} {P : Nat → Int32} (h : RP S r P) {i : Nat} (hi : i < cnt P 48) : ∃ s, s < 48 ∧ ¬ P s = 0 ∧ cnt P s = i ∧ S.1 (r + 2) i = nI (1000 * s) + P s := by
  obtain ⟨s, h1, h2, h3⟩ := cnt_nth P 48 hi
  exact ⟨s, h1, h2, h3, by rw [← h3]; exact h.2.2 s h1 h2⟩
theorem nI_mul1000 {t : Nat} (h : t ≤ 100001) : nI t * 1000 = nI (1000 * t) := by
  have k : (1000 : Int32).toInt = 1000 := by decide
  have e : (nI t).toInt = (t : Int) := nI_toInt (by omega)
  apply Int32.toInt_inj.mp
  rw [i_mul (by rw [e, k]; omega) (by rw [e, k]; omega), e, k, nI_toInt (by omega)]
  omega
theorem RP.lt {S : SS} {r : Nat} {P : Nat → Int32} (h : RP S r P) {i t : Nat} (hi : i < cnt P 48) (ht : t ≤ 100001) : S.1 (r + 2) i < nI t * 1000 ↔ i < cnt P t := by
  obtain ⟨s, h1, h2, h3, h4⟩ := h.at hi
  obtain ⟨v1, v2, v3⟩ := h.1.v h1 h2
  have e : (nI (1000 * t)).toInt = ((1000 * t : Nat) : Int) := nI_toInt (by omega)
  rw [h4, nI_mul1000 ht, Int32.lt_iff_toInt_lt, v1, e, ← h3]
  constructor
  · intro q
    exact cnt_lt P (by omega) h2
  · intro q
    have : s < t := Nat.lt_of_not_le (fun z => by have := cnt_mono P z; omega)
    omega
theorem cnt_48 {P : Nat → Int32} (h : PT P) (t : Nat) : cnt P t ≤ cnt P 48 := by
  by_cases ht : t ≤ 48
  · exact cnt_mono P ht
  · rw [cnt_top h.1 t (by omega)]; exact Nat.le_refl _
theorem cnt_eq48 {P : Nat → Int32} (h : PT P) {t : Nat} (h0 : ¬ P t = 0) : t < 48 := Nat.lt_of_not_le (fun z => h0 (h.1 t z))
theorem RP.put {S S' : SS} {r : Nat} {P : Nat → Int32} {t : Nat} {v : Int32} (h : RP S r P) (ht : t < 48) (hv : 50 ≤ v.toInt ∧ v.toInt ≤ 300) (h14 : S'.1 r 14 = if P t = 0 then S.1 r 14 + 1 else S.1 r 14)
    (hlo : ∀ i, i < cnt P t → S'.1 (r + 2) i = S.1 (r + 2) i) (hat : S'.1 (r + 2) (cnt P t) = nI (1000 * t) + v) (hhi : ∀ i, cnt P t < i → i ≤ cnt P 48 → S'.1 (r + 2) i = if P t = 0 then S.1 (r + 2) (i - 1) else S.1 (r + 2) i) : RP S' r (upd P t v) := by
  have hv0 : ¬ v = 0 := fun e => by rw [e, Int32.toInt_zero] at hv; omega
  have e0 : ∀ s, s ≤ t → cnt (upd P t v) s = cnt P s := by
    intro s
    induction s with
    | zero => intro _; rfl
    | succ s ih =>
      intro hs
      have : upd P t v s = P s := if_neg (by omega)
      by_cases h0 : P s = 0
      · rw [cnt_s0 h0, cnt_s0 (by rw [this]; exact h0), ih (by omega)]
      · rw [cnt_s1 h0, cnt_s1 (by rw [this]; exact h0), ih (by omega)]
  have ut : upd P t v t = v := if_pos rfl
  have e1 : ∀ s, t < s → cnt (upd P t v) s = if P t = 0 then cnt P s + 1 else cnt P s := by
    intro s
    induction s with
    | zero => intro q; omega
    | succ s ih =>
      intro hs
      by_cases hst : s = t
      · subst hst
        rw [cnt_s1 (by rw [ut]; exact hv0), e0 s (Nat.le_refl _)]
        by_cases h0 : P s = 0
        · rw [if_pos h0, cnt_s0 h0]
        · rw [if_neg h0, cnt_s1 h0]
      · have : upd P t v s = P s := if_neg hst
        have i1 := ih (by omega)
        by_cases h0 : P s = 0
        · rw [cnt_s0 (by rw [this]; exact h0), i1, cnt_s0 h0]
        · rw [cnt_s1 (by rw [this]; exact h0), i1, cnt_s1 h0]
          split <;> rfl
  refine ⟨⟨fun s hs => ?_, fun s => ?_⟩, ?_, fun s hs h0 => ?_⟩
  · have : upd P t v s = P s := if_neg (by omega)
    rw [this]; exact h.1.1 s hs
  · by_cases hst : s = t
    · subst hst; rw [ut]; exact Or.inr hv
    · have : upd P t v s = P s := if_neg hst
      rw [this]; exact h.1.2 s
  · rw [h14, e1 48 ht, h.2.1]
    split
    · exact nI_1 _
    · rfl
  · rcases Nat.lt_trichotomy s t with q | q | q
    · have us : upd P t v s = P s := if_neg (by omega)
      rw [us] at h0 ⊢
      rw [e0 s (by omega), hlo _ (cnt_lt P q h0)]
      exact h.2.2 s hs h0
    · subst q
      rw [e0 s (Nat.le_refl _), ut]
      exact hat
    · have us : upd P t v s = P s := if_neg (by omega)
      rw [us] at h0 ⊢
      have m3 := cnt_le (upd P t v) s
      rw [e1 s q] at m3
      rw [e1 s q]
      have m1 := cnt_mono P (s := t + 1) (t := s) (by omega)
      have m2 := cnt_lt P hs h0
      by_cases ht0 : P t = 0
      · rw [cnt_s0 ht0] at m1
        rw [if_pos ht0] at m3
        rw [if_pos ht0, hhi _ (by omega) (by omega), if_pos ht0, Nat.add_sub_cancel]
        exact h.2.2 s hs h0
      · rw [cnt_s1 ht0] at m1
        rw [if_neg ht0, hhi _ (by omega) (by omega), if_neg ht0]
        exact h.2.2 s hs h0
theorem RP.del {S S' : SS} {r : Nat} {P : Nat → Int32} {t : Nat} (h : RP S r P) (ht0 : ¬ P t = 0) (h14 : S'.1 r 14 = S.1 r 14 - 1)
    (hlo : ∀ i, i < cnt P t → S'.1 (r + 2) i = S.1 (r + 2) i) (hhi : ∀ i, cnt P t ≤ i → i + 1 < cnt P 48 → S'.1 (r + 2) i = S.1 (r + 2) (i + 1)) : RP S' r (upd P t 0) := by
  have ht := cnt_eq48 h.1 ht0
  have ut : upd P t 0 t = 0 := if_pos rfl
  have e0 : ∀ s, s ≤ t → cnt (upd P t 0) s = cnt P s := by
    intro s
    induction s with
    | zero => intro _; rfl
    | succ s ih =>
      intro hs
      have : upd P t 0 s = P s := if_neg (by omega)
      by_cases h0 : P s = 0
      · rw [cnt_s0 h0, cnt_s0 (by rw [this]; exact h0), ih (by omega)]
      · rw [cnt_s1 h0, cnt_s1 (by rw [this]; exact h0), ih (by omega)]
  have e1 : ∀ s, t < s → cnt (upd P t 0) s + 1 = cnt P s := by
    intro s
    induction s with
    | zero => intro q; omega
    | succ s ih =>
      intro hs
      by_cases hst : s = t
      · subst hst
        rw [cnt_s0 ut, e0 s (Nat.le_refl _), cnt_s1 ht0]
      · have : upd P t 0 s = P s := if_neg hst
        have i1 := ih (by omega)
        by_cases h0 : P s = 0
        · rw [cnt_s0 (by rw [this]; exact h0), cnt_s0 h0]; exact i1
        · rw [cnt_s1 (by rw [this]; exact h0), cnt_s1 h0]; omega
  have c48 := e1 48 ht
  refine ⟨⟨fun s hs => ?_, fun s => ?_⟩, ?_, fun s hs h0 => ?_⟩
  · have : upd P t 0 s = P s := if_neg (by omega)
    rw [this]; exact h.1.1 s hs
  · by_cases hst : s = t
    · subst hst; rw [ut]; exact Or.inl rfl
    · have : upd P t 0 s = P s := if_neg hst
      rw [this]; exact h.1.2 s
  · rw [h14, h.2.1, ← c48]
    exact nI_pred _
  · have hst : ¬ s = t := fun e => by subst e; exact h0 ut
    have us : upd P t 0 s = P s := if_neg hst
    rw [us] at h0 ⊢
    rcases Nat.lt_or_gt_of_ne hst with q | q
    · rw [e0 s (by omega), hlo _ (cnt_lt P q h0)]
      exact h.2.2 s hs h0
    · have i1 := e1 s q
      have m1 := cnt_lt P q ht0
      have m2 := cnt_lt P hs h0
      rw [hhi _ (by omega) (by omega), i1]
      exact h.2.2 s hs h0
theorem cnt_0lt {P : Nat → Int32} {t : Nat} (h0 : P t = 0) : ∀ m, t < m → cnt P m < m := by
  intro m
  induction m with
  | zero => intro h; omega
  | succ m ih =>
    intro h
    by_cases hm : t = m
    · subst hm; rw [cnt_s0 h0]; have := cnt_le P t; omega
    · have := ih (by omega)
      by_cases hz : P m = 0
      · rw [cnt_s0 hz]; omega
      · rw [cnt_s1 hz]; omega

