/-! THE ABSTRACT MACHINE: a frame with numbered cells. An abstract reference .ref k is the k-th cell of the world; the real address is α k. Cells at ab_CB and above are constants that nobody writes. -/
def ab_CB : Nat := 1000000
abbrev ab_H : Type := Nat → va_E
abbrev ab_R : Type := Option Value ⊕ String
def ab_cv (α : Nat → Nat) (v : Value) : Value := match v with
  | .ref k => .ref (α k)
  | w => w
def ab_ca (α : Nat → Nat) (a : vp_A) : vp_A := match a with
  | (n, .inr (.inr (.inr (.inr f)))) => (n, .inr (.inr (.inr (.inr (fun j => (f j).map α)))))
  | b => b
def ab_ce (α : Nat → Nat) (T : Nat → ClassId) (x : va_E) : va_E := match x with
  | .inl a => .inl (T a.1, ab_ca α a.2)
  | .inr o => .inr (o.1, o.2.map (ab_cv α))
def ab_up (h : ab_H) (k : Nat) (e : va_E) : ab_H := fun j => if j = k then e else h j
theorem ab_up_s (h : ab_H) (k : Nat) (e : va_E) : ab_up h k e k = e := if_pos rfl
theorem ab_up_n (h : ab_H) {k j : Nat} (e : va_E) (hj : j ≠ k) : ab_up h k e j = h j := if_neg hj
def ab_wl (α : Nat → Nat) (T : Nat → ClassId) (n : Nat) (h : ab_H) : va_W := (List.range n).map (fun k => (α k, ab_ce α T (h k)))
theorem ab_wl_get {α : Nat → Nat} {T : Nat → ClassId} {n k : Nat} {h : ab_H} (hk : k < n) : (ab_wl α T n h)[k]? = some (α k, ab_ce α T (h k)) := by
  simp [ab_wl, hk]
theorem ab_wl_set {α : Nat → Nat} {T : Nat → ClassId} {n k : Nat} {h : ab_H} {e : va_E} (hk : k < n) : (ab_wl α T n h).set k (α k, ab_ce α T e) = ab_wl α T n (ab_up h k e) := by
  apply List.ext_getElem?
  intro i
  by_cases hi : i < n
  · rw [ab_wl_get hi, List.getElem?_set]
    by_cases hik : k = i
    · subst hik
      simp [ab_wl, hk, ab_up]
    · rw [if_neg hik, ab_wl_get hi, ab_up_n _ _ (fun z => hik z.symm)]
  · rw [List.getElem?_eq_none (by simp [ab_wl]; omega), List.getElem?_eq_none (by simp [ab_wl]; omega)]
/-- references within bounds -/
def ab_rk (n k : Nat) : Prop := k < n ∨ ab_CB ≤ k
def ab_wv (n : Nat) (v : Value) : Prop := match v with
  | .ref k => ab_rk n k
  | _ => True
def ab_wa (n : Nat) (a : vp_A) : Prop := match a with
  | (_, .inr (.inr (.inr (.inr f)))) => ∀ j k, f j = some k → ab_rk n k
  | _ => True
def ab_we (n : Nat) (x : va_E) : Prop := match x with
  | .inl a => ab_wa n a.2
  | .inr o => ∀ v ∈ o.2, ab_wv n v
theorem ab_rk.mono {n m k : Nat} (h : ab_rk n k) (hm : n ≤ m) : ab_rk m k := by unfold ab_rk at *; omega
theorem ab_wv.mono {n m : Nat} {v : Value} (h : ab_wv n v) (hm : n ≤ m) : ab_wv m v := by
  cases v <;> first | trivial | exact ab_rk.mono h hm
theorem ab_wa.mono {n m : Nat} {a : vp_A} (h : ab_wa n a) (hm : n ≤ m) : ab_wa m a := by
  obtain ⟨k, a⟩ := a
  rcases a with a | a | a | a | a <;> first | trivial | exact fun j k hk => ab_rk.mono (h j k hk) hm
theorem ab_we.mono {n m : Nat} {x : va_E} (h : ab_we n x) (hm : n ≤ m) : ab_we m x := by
  cases x with
  | inl a => exact ab_wa.mono h hm
  | inr o => exact fun v hv => (h v hv).mono hm
/-- the addresses agree below n and at the constants -/
def ab_Ag (n : Nat) (α α' : Nat → Nat) : Prop := ∀ k, ab_rk n k → α' k = α k
theorem ab_Ag.rf {n : Nat} {α : Nat → Nat} : ab_Ag n α α := fun _ _ => rfl
theorem ab_Ag.tr {n m : Nat} {a b c : Nat → Nat} (h1 : ab_Ag n a b) (h2 : ab_Ag m b c) (hm : n ≤ m) : ab_Ag n a c := fun k hk => (h2 k (hk.mono hm)).trans (h1 k hk)
theorem ab_cv_ag {n : Nat} {α α' : Nat → Nat} (h : ab_Ag n α α') {v : Value} (hv : ab_wv n v) : ab_cv α' v = ab_cv α v := by
  cases v <;> first | rfl | exact congrArg Value.ref (h _ hv)
theorem ab_ca_ag {n : Nat} {α α' : Nat → Nat} (h : ab_Ag n α α') {a : vp_A} (ha : ab_wa n a) : ab_ca α' a = ab_ca α a := by
  obtain ⟨k, a⟩ := a
  rcases a with a | a | a | a | f
  · rfl
  · rfl
  · rfl
  · rfl
  · show ((k, Sum.inr (.inr (.inr (.inr (fun j => (f j).map α'))))) : vp_A) = (k, Sum.inr (.inr (.inr (.inr (fun j => (f j).map α)))))
    have : (fun j => (f j).map α') = (fun j => (f j).map α) := by
      funext j
      cases hj : f j with
      | none => rfl
      | some k => exact congrArg some (h k (ha j k hj))
    rw [this]
theorem ab_map_ag {n : Nat} {α α' : Nat → Nat} (h : ab_Ag n α α') {vs : List Value} (hv : ∀ v ∈ vs, ab_wv n v) : vs.map (ab_cv α') = vs.map (ab_cv α) := List.map_congr_left (fun v hm => ab_cv_ag h (hv v hm))
theorem ab_ce_ag {n : Nat} {α α' : Nat → Nat} {T : Nat → ClassId} (h : ab_Ag n α α') {x : va_E} (hx : ab_we n x) : ab_ce α' T x = ab_ce α T x := by
  cases x with
  | inl a => exact congrArg (fun z => Sum.inl (T a.1, z)) (ab_ca_ag h hx)
  | inr o => exact congrArg (fun z => Sum.inr (o.1, z)) (ab_map_ag h hx)
theorem ab_wl_push {α : Nat → Nat} {T : Nat → ClassId} {n q : Nat} {h : ab_H} {e : va_E} (hn : n ≤ ab_CB) (hn1 : n < ab_CB) (hh : ∀ k, k < n → ab_we n (h k)) (he : ab_we n e) :
    ab_wl α T n h ++ [(q, ab_ce α T e)] = ab_wl (fun k => if k = n then q else α k) T (n + 1) (ab_up h n e) := by
  have hag : ab_Ag n α (fun k => if k = n then q else α k) := fun k hk => if_neg (fun z => by unfold ab_rk at hk; omega)
  apply List.ext_getElem?
  intro i
  by_cases hi : i < n
  · rw [List.getElem?_append_left (by simp [ab_wl]; exact hi), ab_wl_get hi, ab_wl_get (Nat.lt_succ_of_lt hi), ab_up_n _ _ (Nat.ne_of_lt hi), ab_ce_ag hag (hh i hi)]
    simp only [if_neg (Nat.ne_of_lt hi)]
  · by_cases hin : i = n
    · subst hin
      rw [List.getElem?_append_right (by simp [ab_wl]), ab_wl_get (Nat.lt_succ_self _), ab_up_s, ab_ce_ag hag he]
      simp [ab_wl]
    · rw [List.getElem?_eq_none (by simp [ab_wl]; omega), List.getElem?_eq_none (by simp [ab_wl]; omega)]
/-- the classes whose objects the worlds hold, and the arrays -/
abbrev ab_cl : List vw_C := [(RX6, TX6, 10), (RX3, TX3, 9), (RX1, TX1, 15), (RX4, TX4, 15), (RX5, TX5, 6), (RJ0, TJ0, 2), (RJ0, TJ0, 4), (RJ4, TJ4, 4), (RJ0, TJ0, 2), (RJ0, TJ0, 2)]
abbrev ab_tl : List FieldType := [.int, .byte, .boolean, .char, .int, .int, .object "ValveRoom$House", .object "ValveRoom$Room", .object "ValveRoom$Keyword"]
def ab_tys (T : Nat → ClassId) : List (ClassId × FieldType) := ab_tl.zipIdx.map (fun q => (T q.2, q.1))
/-- the world: n cells, apart, all of them made since the start of all -/
def ab_A (base : Nat) : Nat → Prop := fun q => base ≤ q
def ab_Wd (base : Nat) (D : va_G) (T : Nat → ClassId) (α : Nat → Nat) (n : Nat) (h : ab_H) (H : Heap) : Prop :=
  va_P D ab_cl (ab_wl α T n h) H ∧ va_D (ab_A base) (ab_wl α T n h) ∧ (∀ k, k < n → ab_we n (h k)) ∧ n < ab_CB
/-- locals -/
def ab_ll (α : Nat → Nat) (ls : List (Option Value)) : List (Nat × Value) := (List.range ls.length).filterMap (fun i => (ls[i]?.join).map (fun v => (i, ab_cv α v)))
theorem ab_ll_mem {α : Nat → Nat} {ls : List (Option Value)} {i : Nat} {w : Value} : (i, w) ∈ ab_ll α ls ↔ ∃ v, ls[i]? = some (some v) ∧ w = ab_cv α v := by
  unfold ab_ll
  constructor
  · intro h
    obtain ⟨j, hj, he⟩ := List.mem_filterMap.mp h
    cases hv : ls[j]?.join with
    | none => rw [hv] at he; cases he
    | some v =>
      rw [hv] at he
      cases he
      exact ⟨v, Option.join_eq_some_iff.mp hv, rfl⟩
  · rintro ⟨v, hv, rfl⟩
    refine List.mem_filterMap.mpr ⟨i, ?_, ?_⟩
    · rw [List.mem_range]
      exact (List.getElem?_eq_some_iff.mp hv).1
    · rw [hv]; rfl
def ab_LR (α : Nat → Nat) (nL : Nat) (ls : List (Option Value)) (L : Array Slot) : Prop := lv_has L nL (ab_ll α ls) ∧ ls.length = nL
theorem ab_LR.at {α : Nat → Nat} {nL i : Nat} {ls : List (Option Value)} {L : Array Slot} {v : Value} (h : ab_LR α nL ls L) (hv : ls[i]? = some (some v)) : L[i]? = some (.val (ab_cv α v)) := h.1.2.2 (i, ab_cv α v) (ab_ll_mem.mpr ⟨v, hv, rfl⟩)
theorem ab_LR.ag {n : Nat} {α α' : Nat → Nat} {nL : Nat} {ls : List (Option Value)} {L : Array Slot} (h : ab_LR α nL ls L) (hag : ab_Ag n α α') (hw : ∀ v, some v ∈ ls → ab_wv n v) : ab_LR α' nL ls L := by
  refine ⟨⟨h.1.1, h.1.2.1, fun q hq => ?_⟩, h.2⟩
  obtain ⟨i, w⟩ := q
  obtain ⟨v, hv, rfl⟩ := ab_ll_mem.mp hq
  show L[i]? = some (.val (ab_cv α' v))
  rw [ab_cv_ag hag (hw v (List.mem_of_getElem? hv))]
  exact h.at hv
/-- the place before i holds no long or double -/
def ab_c1 (ls : List (Option Value)) (i : Nat) : Bool := match i with
  | 0 => true
  | j + 1 => match ls[j]? with
    | some (some v) => v.category == 1
    | _ => true
theorem ab_cat (α : Nat → Nat) (v : Value) : (ab_cv α v).category = v.category := by cases v <;> rfl
theorem ab_LR.st1 {α : Nat → Nat} {nL i : Nat} {ls : List (Option Value)} {v : Value} (hl : ls.length = nL) (hc : ab_c1 ls i = true) {L' : Array Slot}
    (h : lv_has L' nL ((i, ab_cv α v) :: (ab_ll α ls).filter (fun q => !(q.1 == i) && !(q.1 + 1 == i && q.2.category == 2)))) : ab_LR α nL (ls.set i (some v)) L' := by
  refine ⟨⟨h.1, h.2.1, fun q hq => ?_⟩, by simp [hl]⟩
  obtain ⟨j, w⟩ := q
  obtain ⟨u, hu, rfl⟩ := ab_ll_mem.mp hq
  refine h.2.2 (j, ab_cv α u) ?_
  rw [List.getElem?_set] at hu
  by_cases hij : i = j
  · subst hij
    rw [if_pos rfl] at hu
    split at hu
    · cases hu; exact List.mem_cons_self
    · cases hu
  · rw [if_neg hij] at hu
    refine List.mem_cons_of_mem _ (List.mem_filter.mpr ⟨ab_ll_mem.mpr ⟨u, hu, rfl⟩, ?_⟩)
    by_cases hj1 : j + 1 = i
    · subst hj1
      simp only [ab_c1, hu] at hc
      have hc1 : u.category = 1 := by simpa using hc
      simp [ab_cat, hc1]
    · have : ¬ j = i := fun z => hij z.symm
      simp [this, hj1]
theorem ab_LR.st2 {α : Nat → Nat} {nL i : Nat} {ls : List (Option Value)} {v : Value} (hl : ls.length = nL) (hc : ab_c1 ls i = true) {L' : Array Slot}
    (h : lv_has L' nL ((i, ab_cv α v) :: (ab_ll α ls).filter (fun q => !(q.1 == i) && (!(q.1 == i + 1) && !(q.1 + 1 == i && q.2.category == 2))))) : ab_LR α nL ((ls.set i (some v)).set (i + 1) none) L' := by
  refine ⟨⟨h.1, h.2.1, fun q hq => ?_⟩, by simp [hl]⟩
  obtain ⟨j, w⟩ := q
  obtain ⟨u, hu, rfl⟩ := ab_ll_mem.mp hq
  refine h.2.2 (j, ab_cv α u) ?_
  rw [List.getElem?_set] at hu
  by_cases hij1 : i + 1 = j
  · subst hij1
    rw [if_pos rfl] at hu
    split at hu <;> cases hu
  · rw [if_neg hij1, List.getElem?_set] at hu
    by_cases hij : i = j
    · subst hij
      rw [if_pos rfl] at hu
      split at hu
      · cases hu; exact List.mem_cons_self
      · cases hu
    · rw [if_neg hij] at hu
      refine List.mem_cons_of_mem _ (List.mem_filter.mpr ⟨ab_ll_mem.mpr ⟨u, hu, rfl⟩, ?_⟩)
      have h2 : ¬ j = i := fun z => hij z.symm
      have h3 : ¬ j = i + 1 := fun z => hij1 z.symm
      by_cases hj1 : j + 1 = i
      · subst hj1
        simp only [ab_c1, hu] at hc
        have hc1 : u.category = 1 := by simpa using hc
        simp [ab_cat, hc1]
        omega
      · simp [h2, h3, hj1]

