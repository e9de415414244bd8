/-! What an array's numbers behind its end are doesn't matter. -/
/-- two cells that stand for the same -/
def ab_eq (x y : va_E) : Prop := x = y ∨ ∃ (t len : Nat) (f f' : Nat → Int32), x = .inl (t, len, .inl f) ∧ y = .inl (t, len, .inl f') ∧ ∀ j, j < len → f j = f' j
theorem ab_eq_at {D : va_G} {cl : List vw_C} {α : Nat → Nat} {T : Nat → ClassId} {H : Heap} {q : Nat} {x y : va_E} (e : ab_eq x y) (h : va_at D cl (q, ab_ce α T x) H) : va_at D cl (q, ab_ce α T y) H := by
  rcases e with rfl | ⟨t, len, f, f', rfl, rfl, hf⟩
  · exact h
  · have h2 : H[q]? = some (vp_cell (T t) (len, .inl f)) := h
    show H[q]? = some (vp_cell (T t) (len, .inl f'))
    rw [h2, vp_cell_i, vp_cell_i]
    congr 1
    unfold arrV
    congr 1
    congr 1
    funext j
    exact congrArg Value.int (hf j.val j.isLt)
theorem ab_eq_we {n : Nat} {x y : va_E} (e : ab_eq x y) (h : ab_we n x) : ab_we n y := by
  rcases e with rfl | ⟨t, len, f, f', rfl, rfl, hf⟩
  · exact h
  · exact h
theorem wa_ext {Xx : ab_X} {own : String} {cc : ByteArray} {nL : Nat} {hh : List (Nat × Nat × Nat × Nat)} {R : Room} {Q : ab_Q} {k z pc : Nat} {ls : List (Option Value)} {st : List Value} {n : Nat} {h h' : ab_H} (he : ∀ k, k < n → ab_eq (h k) (h' k))
    (K : WX Xx own cc nL hh R Q k z pc ls st n h') : WX Xx own cc nL hh R Q k z pc ls st n h := by
  intro p l e s m args below meth c base D T cx α H L locs Fin hC hW hL hs hls hS hF hT
  refine K p l e s m args below meth c base D T cx α H L locs Fin hC ⟨?_, ?_, fun k hk => ab_eq_we (he k hk) (hW.2.2.1 k hk), hW.2.2.2⟩ hL hs hls hS hF hT
  · intro k q hq
    have hk : k < n := by
      have := (List.getElem?_eq_some_iff.mp hq).1
      simpa [ab_wl] using this
    rw [ab_wl_get hk] at hq
    cases hq
    exact ab_eq_at (he k hk) (hW.1 k _ (ab_wl_get hk))
  · have hk (g : ab_H) {i : Nat} {q : Nat × va_E} (hq : (ab_wl α T n g)[i]? = some q) : i < n ∧ q.1 = α i := by
      have h1 : i < n := by
        have := (List.getElem?_eq_some_iff.mp hq).1
        simpa [ab_wl] using this
      rw [ab_wl_get h1] at hq
      cases hq
      exact ⟨h1, rfl⟩
    refine ⟨fun i j p q hi hj hpq => ?_, fun i q hi => ?_⟩
    · have h1 := hk h' hi
      have h2 := hk h' hj
      exact hW.2.1.1 i j _ _ (ab_wl_get h1.1) (ab_wl_get h2.1) (by rw [← h1.2, ← h2.2]; exact hpq)
    · have h1 := hk h' hi
      have := hW.2.1.2 i _ (ab_wl_get h1.1)
      rw [h1.2]
      exact this
/-- over states: a row of numbers may change behind its array's end -/
theorem wa_extS {Xx : ab_X} {own : String} {cc : ByteArray} {nL : Nat} {hh : List (Nat × Nat × Nat × Nat)} {R : Room} {Q : ab_Q} {k z pc : Nat} {ls : List (Option Value)} {st : List Value} {n a len : Nat} {S S' : SS} (ha : isA a 0 len) (h2 : S'.2 = S.2) (hn : ∀ b, ¬ b = a → S'.1 b = S.1 b) (hf : ∀ j, j < len → S.1 a j = S'.1 a j)
    (K : WX Xx own cc nL hh R Q k z pc ls st n (Hp S')) : WX Xx own cc nL hh R Q k z pc ls st n (Hp S) := by
  refine wa_ext (fun b _ => ?_) K
  by_cases hb : b = a
  · subst hb
    exact Or.inr ⟨0, len, S.1 b, S'.1 b, ha _ _ _, ha _ _ _, hf⟩
  · left
    show ly_mk b (S.1 b) (S.2.1 b) S.2.2 = ly_mk b (S'.1 b) (S'.2.1 b) S'.2.2
    rw [hn b hb, h2]
