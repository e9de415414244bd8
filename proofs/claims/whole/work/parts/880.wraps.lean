/-! THE LAW'S WRAPPERS: what each answers, out of what the class answers. Written by program (wip/whole/gen/m880.py) but for the heads. -/
/-- two cells that stand for the same: one long, one double -/
def ab_eq2 (x y : va_E) : Prop := x = y ∨ (∃ (t : Nat) (f f' : Nat → Int64), x = .inl (t, 1, .inr (.inl f)) ∧ y = .inl (t, 1, .inr (.inl f')) ∧ f 0 = f' 0) ∨ ∃ (t : Nat) (f f' : Nat → UInt64), x = .inl (t, 1, .inr (.inr (.inr (.inl f)))) ∧ y = .inl (t, 1, .inr (.inr (.inr (.inl f')))) ∧ f 0 = f' 0
theorem ab_eq2_at {D : va_G} {cl : List vw_C} {α : Nat → Nat} {T : Nat → ClassId} {H : Heap} {q : Nat} {x y : va_E} (e : ab_eq2 x y) (h : va_at D cl (q, ab_ce α T x) H) : va_at D cl (q, ab_ce α T y) H := by
  rcases e with rfl | ⟨t, f, f', rfl, rfl, hf⟩ | ⟨t, f, f', rfl, rfl, hf⟩
  · exact h
  · have h2 : H[q]? = some (vp_cell (T t) (1, .inr (.inl f))) := h
    show H[q]? = some (vp_cell (T t) (1, .inr (.inl f')))
    rw [h2, vp_cell_l, vp_cell_l]
    congr 1
    unfold arrV
    congr 1
    congr 1
    funext j
    have : j.val = 0 := by have := j.isLt; omega
    show Value.long (f j.val) = Value.long (f' j.val)
    rw [this, hf]
  · have h2 : H[q]? = some (vp_cell (T t) (1, .inr (.inr (.inr (.inl f))))) := h
    show H[q]? = some (vp_cell (T t) (1, .inr (.inr (.inr (.inl f')))))
    rw [h2, vp_cell_d, vp_cell_d]
    congr 1
    unfold arrV
    congr 1
    congr 1
    funext j
    have : j.val = 0 := by have := j.isLt; omega
    show Value.double (f j.val) = Value.double (f' j.val)
    rw [this, hf]
theorem ab_eq2_we {n : Nat} {x y : va_E} (e : ab_eq2 x y) (h : ab_we n x) : ab_we n y := by
  rcases e with rfl | ⟨t, f, f', rfl, rfl, hf⟩ | ⟨t, f, f', rfl, rfl, hf⟩
  · exact h
  · exact h
  · exact h
section OX
variable {Xx : ab_X} {own : String} {cc : ByteArray} {nL : Nat} {hh : List (Nat × Nat × Nat × Nat)} {R : Room} {Q : ab_Q} {k z pc : Nat} {ls : List (Option Value)} {st : List Value} {n : Nat}
theorem wa_ext2 {h h' : ab_H} (he : ∀ k, k < n → ab_eq2 (h k) (h' k)) (K : WX Xx own cc nL hh R Q k z pc ls st n h') : WX Xx own cc nL hh R Q k z pc ls st n h := by
  intro p l e s m args below meth c base D T cx α H L locs Fin hC hW hL hs hls hS hF hT
  refine K p l e s m args below meth c base D T cx α H L locs Fin hC ⟨?_, ?_, fun k hk => ab_eq2_we (he k hk) (hW.2.2.1 k hk), hW.2.2.2⟩ hL hs hls hS hF hT
  · intro k q hq
    have hk : k < n := by
      have := (List.getElem?_eq_some_iff.mp hq).1
      simpa [ab_wl] using this
    rw [ab_wl_get hk] at hq
    cases hq
    exact ab_eq2_at (he k hk) (hW.1 k _ (ab_wl_get hk))
  · have hk (g : ab_H) {i : Nat} {q : Nat × va_E} (hq : (ab_wl α T n g)[i]? = some q) : i < n ∧ q.1 = α i := by
      have h1 : i < n := by
        have := (List.getElem?_eq_some_iff.mp hq).1
        simpa [ab_wl] using this
      rw [ab_wl_get h1] at hq
      cases hq
      exact ⟨h1, rfl⟩
    refine ⟨fun i j p q hi hj hpq => ?_, fun i q hi => ?_⟩
    · have h1 := hk h' hi
      have h2 := hk h' hj
      exact hW.2.1.1 i j _ _ (ab_wl_get h1.1) (ab_wl_get h2.1) (by rw [← h1.2, ← h2.2]; exact hpq)
    · have h1 := hk h' hi
      have := hW.2.1.2 i _ (ab_wl_get h1.1)
      rw [h1.2]
      exact this
theorem s_last {S : SS} {v : Int64} (hn : 279 ≤ n) (d : decode cc pc = .ok (.lastore, 1)) (K : WX Xx own cc nL hh R Q k z (pc + 1) ls st n (Hp (so S v))) : WX Xx own cc nL hh R Q k z pc ls (.long v :: .int 0 :: .ref 277 :: st) n (Hp S) := by
  refine wa_last (len := 1) (j := 0) (f := fun _ => S.2.2.2.2.2.2.2.1) d (ltS hn) rfl rfl (by decide) (wa_ext2 (fun k _ => ?_) K)
  by_cases hk : k = 277
  · subst hk
    rw [ab_up_s]
    exact Or.inr (Or.inl ⟨4, _, _, rfl, rfl, if_pos rfl⟩)
  · rw [ab_up_n _ _ hk]
    left
    unfold Hp ly_mk
    have e : (so S v).1 = S.1 ∧ (so S v).2.1 = S.2.1 := ⟨rfl, rfl⟩
    rw [e.1, e.2]
    simp only [if_neg hk]
    rfl
theorem s_dast {S : SS} {v : UInt64} (hn : 279 ≤ n) (d : decode cc pc = .ok (.dastore, 1)) (K : WX Xx own cc nL hh R Q k z (pc + 1) ls st n (Hp (sd S v))) : WX Xx own cc nL hh R Q k z pc ls (.double v :: .int 0 :: .ref 278 :: st) n (Hp S) := by
  refine wa_dast (len := 1) (j := 0) (f := fun _ => S.2.2.2.2.2.2.2.2) d (ltS hn) rfl rfl (by decide) (wa_ext2 (fun k _ => ?_) K)
  by_cases hk : k = 278
  · subst hk
    rw [ab_up_s]
    exact Or.inr (Or.inr ⟨5, _, _, rfl, rfl, if_pos rfl⟩)
  · rw [ab_up_n _ _ hk]
    left
    unfold Hp ly_mk
    have e : (sd S v).1 = S.1 ∧ (sd S v).2.1 = S.2.1 := ⟨rfl, rfl⟩
    rw [e.1, e.2]
    by_cases h9 : k < 279
    · have h8 : k < 278 := by omega
      by_cases h7 : k = 277
      · subst h7
        rfl
      · simp only [if_neg h7]
        by_cases h6 : k < 267
        · simp only [if_pos h9, if_pos h6]
          rfl
        · rcases (show k = 267 ∨ k = 268 ∨ k = 269 ∨ k = 270 ∨ k = 271 ∨ k = 272 ∨ k = 273 ∨ k = 274 ∨ k = 275 ∨ k = 276 by omega) with rfl | rfl | rfl | rfl | rfl | rfl | rfl | rfl | rfl | rfl <;> rfl
    · simp only [if_neg h9]
      rfl
end OX
theorem fitW {dp maxL mc ms : Nat} (h : maxL ≤ 40) : ab_fit (ab_rm (dp + 1) mc ms) dp maxL mc ms 0 0 := ⟨by show dp + 21 ≤ dp + 1 + 20; omega, by show 8 + (maxL + 11) + (64 * dp + 12000) ≤ 64 * (dp + 1) + 12000; omega, by show 0 + mc ≤ mc; omega, by show 0 + ms ≤ ms; omega⟩
theorem wl_append_0 {n dp mc ms : Nat} {S : SS} {Q0 : ab_R → Nat → ab_H → Prop} {P : Int32 → Nat → SS → Prop} {a b c d e : Int32} (hn : 279 ≤ n) (hA : AM yX6_append cX6_append 6 (some .int) [] dp mc ms [.ref 0, .int a, .int b, .int c, .int d, .int e] n (Hp S) Q0) (hq : ∀ r n' h', Q0 r n' h' → ∃ (v : Int32) (S' : SS), r = .inl (some (.int v)) ∧ h' = Hp S' ∧ P v n' S') : AM yL_append cL_append 8 (some .int) [(0, 16, 19, 13)] (dp + 1) mc ms [.ref 0, .int a, .int b, .int c, .int d, .int e, .ref 277] n (Hp S) (fun r n' h' => r = .inl (some (.int 0)) ∧ ∃ (v : Int32) (S' : SS), h' = Hp (so S' v.toInt64) ∧ n ≤ n' ∧ P v n' S') := by
  intro has
  change WA RL cL_append 8 [(0, 16, 19, 13)] _ _ 0 0 0 [some (.ref 0), some (.int a), some (.int b), some (.int c), some (.int d), some (.int e), some (.ref 277), none] [] n _
  refine wa_aload dL_append_0 rfl ?_
  refine wa_iconst (x := 0) dL_append_2 (by decide) ?_
  refine wa_aload_n dL_append_3 rfl ?_
  refine wa_iload_n dL_append_4 rfl ?_
  refine wa_iload_n dL_append_5 rfl ?_
  refine wa_iload_n dL_append_6 rfl ?_
  refine wa_iload dL_append_7 rfl ?_
  refine wa_iload dL_append_9 rfl ?_
  refine wa_callV (As := [.int a, .int b, .int c, .int d, .int e]) dL_append_11 lk_L_7 hA rfl (isO_VR _ _ _) rfl (Or.inl (ltS hn)) (by exact Nat.le_of_ble_eq_true rfl) (fitW (by decide)) (by exact Nat.le_of_ble_eq_true rfl) (fun ro n' h' q hn' => ?_) (fun E n' h' q _ => by obtain ⟨v, S', e, -⟩ := hq _ _ _ q; cases e)
  obtain ⟨v, S', e, rfl, hP⟩ := hq _ _ _ q
  cases e
  refine wa_i2l dL_append_14 ?_
  refine s_last (by omega) dL_append_15 ?_
  refine wa_goto 23 dL_append_16 rfl ?_
  refine wa_iconst (x := 0) dL_append_23 (by decide) ?_
  exact wa_ireturn dL_append_24 ⟨by omega, by omega, ⟨_, rfl, rfl⟩, rfl, v, S', rfl, hn', hP⟩
theorem wl_append_1 {n dp mc ms : Nat} {S : SS} {a b c d e : Int32} (hn : 279 ≤ n) (hA : AM yX6_append cX6_append 6 (some .int) [] dp mc ms [.ref 0, .int a, .int b, .int c, .int d, .int e] n (Hp S) (PX ab_xS n S)) : AM yL_append cL_append 8 (some .int) [(0, 16, 19, 13)] (dp + 1) mc ms [.ref 0, .int a, .int b, .int c, .int d, .int e, .ref 277] n (Hp S) (PI 1 n S) := by
  intro has
  change WA RL cL_append 8 [(0, 16, 19, 13)] _ _ 0 0 0 [some (.ref 0), some (.int a), some (.int b), some (.int c), some (.int d), some (.int e), some (.ref 277), none] [] n _
  refine wa_aload dL_append_0 rfl ?_
  refine wa_iconst (x := 0) dL_append_2 (by decide) ?_
  refine wa_aload_n dL_append_3 rfl ?_
  refine wa_iload_n dL_append_4 rfl ?_
  refine wa_iload_n dL_append_5 rfl ?_
  refine wa_iload_n dL_append_6 rfl ?_
  refine wa_iload dL_append_7 rfl ?_
  refine wa_iload dL_append_9 rfl ?_
  refine wa_callV (As := [.int a, .int b, .int c, .int d, .int e]) dL_append_11 lk_L_7 hA rfl (isO_VR _ _ _) rfl (Or.inl (ltS hn)) (by exact Nat.le_of_ble_eq_true rfl) (fitW (by decide)) (by exact Nat.le_of_ble_eq_true rfl) (fun ro n' h' q _ => by cases q.1) (fun E n' h' q _ => ?_)
  obtain ⟨e, rfl, rfl⟩ := q
  cases e
  refine wt_catch [] (0, 16, 19, 13) [] rfl (fun y hy => absurd hy List.not_mem_nil) (by decide) (by decide) wk_L_13 (List.mem_of_getElem? (i := 2) rfl) dL_append_19 rfl (by exact Nat.le_of_ble_eq_true rfl) ?_
  refine wa_iconst (x := 1) dL_append_21 (by decide) ?_
  exact wa_ireturn dL_append_22 ⟨by omega, by omega, ⟨_, rfl, rfl⟩, rfl, rfl, rfl⟩
theorem wl_truncate_0 {n dp mc ms : Nat} {S : SS} {Q0 : ab_R → Nat → ab_H → Prop} {P : Nat → SS → Prop} {a : Int32} (hn : 279 ≤ n) (hA : AM yX6_truncate cX6_truncate 2 none [] dp mc ms [.ref 0, .int a] n (Hp S) Q0) (hq : ∀ r n' h', Q0 r n' h' → ∃ S', r = .inl none ∧ h' = Hp S' ∧ P n' S') : AM yL_truncate cL_truncate 3 (some .int) [(0, 5, 8, 19)] (dp + 1) mc ms [.ref 0, .int a] n (Hp S) (fun r n' h' => r = .inl (some (.int 0)) ∧ ∃ S', h' = Hp S' ∧ n ≤ n' ∧ P n' S') := by
  intro has
  change WA RL cL_truncate 3 [(0, 5, 8, 19)] _ _ 0 0 0 [some (.ref 0), some (.int a), none] [] n _
  refine wa_aload_n dL_truncate_0 rfl ?_
  refine wa_iload_n dL_truncate_1 rfl ?_
  refine wa_callV (As := [.int a]) dL_truncate_2 lk_L_15 hA rfl (isO_VR _ _ _) rfl (Or.inl (ltS hn)) (by exact Nat.le_of_ble_eq_true rfl) (fitW (by decide)) (by exact Nat.le_of_ble_eq_true rfl) (fun ro n' h' q hn' => ?_) (fun E n' h' q _ => by obtain ⟨S', e, -⟩ := hq _ _ _ q; cases e)
  obtain ⟨S', e, rfl, hP⟩ := hq _ _ _ q
  cases e
  refine wa_goto 11 dL_truncate_5 rfl ?_
  refine wa_iconst (x := 0) dL_truncate_11 (by decide) ?_
  exact wa_ireturn dL_truncate_12 ⟨by omega, by omega, ⟨_, rfl, rfl⟩, rfl, _, rfl, hn', hP⟩
theorem wl_truncate_1 {n dp mc ms : Nat} {S : SS} {a : Int32} (hn : 279 ≤ n) (hA : AM yX6_truncate cX6_truncate 2 none [] dp mc ms [.ref 0, .int a] n (Hp S) (PX ab_xA n S)) : AM yL_truncate cL_truncate 3 (some .int) [(0, 5, 8, 19)] (dp + 1) mc ms [.ref 0, .int a] n (Hp S) (PI 1 n S) := by
  intro has
  change WA RL cL_truncate 3 [(0, 5, 8, 19)] _ _ 0 0 0 [some (.ref 0), some (.int a), none] [] n _
  refine wa_aload_n dL_truncate_0 rfl ?_
  refine wa_iload_n dL_truncate_1 rfl ?_
  refine wa_callV (As := [.int a]) dL_truncate_2 lk_L_15 hA rfl (isO_VR _ _ _) rfl (Or.inl (ltS hn)) (by exact Nat.le_of_ble_eq_true rfl) (fitW (by decide)) (by exact Nat.le_of_ble_eq_true rfl) (fun ro n' h' q _ => by cases q.1) (fun E n' h' q _ => ?_)
  obtain ⟨e, rfl, rfl⟩ := q
  cases e
  refine wt_catch_n [] (0, 5, 8, 19) [] rfl (fun y hy => absurd hy List.not_mem_nil) (by decide) (by decide) wk_L_19 (List.mem_of_getElem? (i := 1) rfl) dL_truncate_8 rfl (by exact Nat.le_of_ble_eq_true rfl) ?_
  refine wa_iconst (x := 1) dL_truncate_9 (by decide) ?_
  exact wa_ireturn dL_truncate_10 ⟨by omega, by omega, ⟨_, rfl, rfl⟩, rfl, rfl, rfl⟩
theorem wl_property_0 {n dp mc ms : Nat} {S : SS} {Q0 : ab_R → Nat → ab_H → Prop} {P : Int32 → Nat → SS → Prop} {a : Int32} (hn : 279 ≤ n) (hA : AM yX6_property cX6_property 2 (some .int) [] dp mc ms [.ref 0, .int a] n (Hp S) Q0) (hq : ∀ r n' h', Q0 r n' h' → ∃ (v : Int32) (S' : SS), r = .inl (some (.int v)) ∧ h' = Hp S' ∧ P v n' S') : AM yL_property cL_property 4 (some .int) [(0, 9, 12, 19)] (dp + 1) mc ms [.ref 0, .int a, .ref 277] n (Hp S) (fun r n' h' => r = .inl (some (.int 0)) ∧ ∃ (v : Int32) (S' : SS), h' = Hp (so S' v.toInt64) ∧ n ≤ n' ∧ P v n' S') := by
  intro has
  change WA RL cL_property 4 [(0, 9, 12, 19)] _ _ 0 0 0 [some (.ref 0), some (.int a), some (.ref 277), none] [] n _
  refine wa_aload_n dL_property_0 rfl ?_
  refine wa_iconst (x := 0) dL_property_1 (by decide) ?_
  refine wa_aload_n dL_property_2 rfl ?_
  refine wa_iload_n dL_property_3 rfl ?_
  refine wa_callV (As := [.int a]) dL_property_4 lk_L_21 hA rfl (isO_VR _ _ _) rfl (Or.inl (ltS hn)) (by exact Nat.le_of_ble_eq_true rfl) (fitW (by decide)) (by exact Nat.le_of_ble_eq_true rfl) (fun ro n' h' q hn' => ?_) (fun E n' h' q _ => by obtain ⟨v, S', e, -⟩ := hq _ _ _ q; cases e)
  obtain ⟨v, S', e, rfl, hP⟩ := hq _ _ _ q
  cases e
  refine wa_i2l dL_property_7 ?_
  refine s_last (by omega) dL_property_8 ?_
  refine wa_goto 15 dL_property_9 rfl ?_
  refine wa_iconst (x := 0) dL_property_15 (by decide) ?_
  exact wa_ireturn dL_property_16 ⟨by omega, by omega, ⟨_, rfl, rfl⟩, rfl, v, S', rfl, hn', hP⟩
theorem wl_property_1 {n dp mc ms : Nat} {S : SS} {a : Int32} (hn : 279 ≤ n) (hA : AM yX6_property cX6_property 2 (some .int) [] dp mc ms [.ref 0, .int a] n (Hp S) (PX ab_xA n S)) : AM yL_property cL_property 4 (some .int) [(0, 9, 12, 19)] (dp + 1) mc ms [.ref 0, .int a, .ref 277] n (Hp S) (PI 1 n S) := by
  intro has
  change WA RL cL_property 4 [(0, 9, 12, 19)] _ _ 0 0 0 [some (.ref 0), some (.int a), some (.ref 277), none] [] n _
  refine wa_aload_n dL_property_0 rfl ?_
  refine wa_iconst (x := 0) dL_property_1 (by decide) ?_
  refine wa_aload_n dL_property_2 rfl ?_
  refine wa_iload_n dL_property_3 rfl ?_
  refine wa_callV (As := [.int a]) dL_property_4 lk_L_21 hA rfl (isO_VR _ _ _) rfl (Or.inl (ltS hn)) (by exact Nat.le_of_ble_eq_true rfl) (fitW (by decide)) (by exact Nat.le_of_ble_eq_true rfl) (fun ro n' h' q _ => by cases q.1) (fun E n' h' q _ => ?_)
  obtain ⟨e, rfl, rfl⟩ := q
  cases e
  refine wt_catch_n [] (0, 9, 12, 19) [] rfl (fun y hy => absurd hy List.not_mem_nil) (by decide) (by decide) wk_L_19 (List.mem_of_getElem? (i := 1) rfl) dL_property_12 rfl (by exact Nat.le_of_ble_eq_true rfl) ?_
  refine wa_iconst (x := 1) dL_property_13 (by decide) ?_
  exact wa_ireturn dL_property_14 ⟨by omega, by omega, ⟨_, rfl, rfl⟩, rfl, rfl, rfl⟩
theorem wl_room_0 {n dp mc ms : Nat} {S : SS} {Q0 : ab_R → Nat → ab_H → Prop} {P : Int32 → Nat → SS → Prop} {a b : Int32} (hn : 279 ≤ n) (hA : AM yX6_room cX6_room 4 (some .int) [] dp mc ms [.ref 0, .int a, .int b] n (Hp S) Q0) (hq : ∀ r n' h', Q0 r n' h' → ∃ (v : Int32) (S' : SS), r = .inl (some (.int v)) ∧ h' = Hp S' ∧ P v n' S') : AM yL_room cL_room 5 (some .int) [(0, 10, 13, 29), (0, 10, 17, 19)] (dp + 1) mc ms [.ref 0, .int a, .int b, .ref 277] n (Hp S) (fun r n' h' => r = .inl (some (.int 0)) ∧ ∃ (v : Int32) (S' : SS), h' = Hp (so S' v.toInt64) ∧ n ≤ n' ∧ P v n' S') := by
  intro has
  change WA RL cL_room 5 [(0, 10, 13, 29), (0, 10, 17, 19)] _ _ 0 0 0 [some (.ref 0), some (.int a), some (.int b), some (.ref 277), none] [] n _
  refine wa_aload_n dL_room_0 rfl ?_
  refine wa_iconst (x := 0) dL_room_1 (by decide) ?_
  refine wa_aload_n dL_room_2 rfl ?_
  refine wa_iload_n dL_room_3 rfl ?_
  refine wa_iload_n dL_room_4 rfl ?_
  refine wa_callV (As := [.int a, .int b]) dL_room_5 lk_L_25 hA rfl (isO_VR _ _ _) rfl (Or.inl (ltS hn)) (by exact Nat.le_of_ble_eq_true rfl) (fitW (by decide)) (by exact Nat.le_of_ble_eq_true rfl) (fun ro n' h' q hn' => ?_) (fun E n' h' q _ => by obtain ⟨v, S', e, -⟩ := hq _ _ _ q; cases e)
  obtain ⟨v, S', e, rfl, hP⟩ := hq _ _ _ q
  cases e
  refine wa_i2l dL_room_8 ?_
  refine s_last (by omega) dL_room_9 ?_
  refine wa_goto 21 dL_room_10 rfl ?_
  refine wa_iconst (x := 0) dL_room_21 (by decide) ?_
  exact wa_ireturn dL_room_22 ⟨by omega, by omega, ⟨_, rfl, rfl⟩, rfl, v, S', rfl, hn', hP⟩
theorem wl_room_1 {n dp mc ms : Nat} {S : SS} {a b : Int32} (hn : 279 ≤ n) (hA : AM yX6_room cX6_room 4 (some .int) [] dp mc ms [.ref 0, .int a, .int b] n (Hp S) (PX ab_xI n S)) : AM yL_room cL_room 5 (some .int) [(0, 10, 13, 29), (0, 10, 17, 19)] (dp + 1) mc ms [.ref 0, .int a, .int b, .ref 277] n (Hp S) (PI 1 n S) := by
  intro has
  change WA RL cL_room 5 [(0, 10, 13, 29), (0, 10, 17, 19)] _ _ 0 0 0 [some (.ref 0), some (.int a), some (.int b), some (.ref 277), none] [] n _
  refine wa_aload_n dL_room_0 rfl ?_
  refine wa_iconst (x := 0) dL_room_1 (by decide) ?_
  refine wa_aload_n dL_room_2 rfl ?_
  refine wa_iload_n dL_room_3 rfl ?_
  refine wa_iload_n dL_room_4 rfl ?_
  refine wa_callV (As := [.int a, .int b]) dL_room_5 lk_L_25 hA rfl (isO_VR _ _ _) rfl (Or.inl (ltS hn)) (by exact Nat.le_of_ble_eq_true rfl) (fitW (by decide)) (by exact Nat.le_of_ble_eq_true rfl) (fun ro n' h' q _ => by cases q.1) (fun E n' h' q _ => ?_)
  obtain ⟨e, rfl, rfl⟩ := q
  cases e
  refine wt_catch [] (0, 10, 13, 29) [(0, 10, 17, 19)] rfl (fun y hy => absurd hy List.not_mem_nil) (by decide) (by decide) wk_L_29 (List.mem_of_getElem? (i := 0) rfl) dL_room_13 rfl (by exact Nat.le_of_ble_eq_true rfl) ?_
  refine wa_iconst (x := 1) dL_room_15 (by decide) ?_
  exact wa_ireturn dL_room_16 ⟨by omega, by omega, ⟨_, rfl, rfl⟩, rfl, rfl, rfl⟩
theorem wl_room_2 {n dp mc ms : Nat} {S : SS} {a b : Int32} (hn : 279 ≤ n) (hA : AM yX6_room cX6_room 4 (some .int) [] dp mc ms [.ref 0, .int a, .int b] n (Hp S) (PX ab_xA n S)) : AM yL_room cL_room 5 (some .int) [(0, 10, 13, 29), (0, 10, 17, 19)] (dp + 1) mc ms [.ref 0, .int a, .int b, .ref 277] n (Hp S) (PI 2 n S) := by
  intro has
  change WA RL cL_room 5 [(0, 10, 13, 29), (0, 10, 17, 19)] _ _ 0 0 0 [some (.ref 0), some (.int a), some (.int b), some (.ref 277), none] [] n _
  refine wa_aload_n dL_room_0 rfl ?_
  refine wa_iconst (x := 0) dL_room_1 (by decide) ?_
  refine wa_aload_n dL_room_2 rfl ?_
  refine wa_iload_n dL_room_3 rfl ?_
  refine wa_iload_n dL_room_4 rfl ?_
  refine wa_callV (As := [.int a, .int b]) dL_room_5 lk_L_25 hA rfl (isO_VR _ _ _) rfl (Or.inl (ltS hn)) (by exact Nat.le_of_ble_eq_true rfl) (fitW (by decide)) (by exact Nat.le_of_ble_eq_true rfl) (fun ro n' h' q _ => by cases q.1) (fun E n' h' q _ => ?_)
  obtain ⟨e, rfl, rfl⟩ := q
  cases e
  refine wt_catch [(0, 10, 13, 29)] (0, 10, 17, 19) [] rfl (fun y hy => by
    simp only [List.mem_cons, List.not_mem_nil, or_false] at hy
    subst hy
    exact Or.inr ⟨by decide, ab_xI, wk_L_29, List.mem_of_getElem? (i := 0) rfl⟩) (by decide) (by decide) wk_L_19 (List.mem_of_getElem? (i := 1) rfl) dL_room_17 rfl (by exact Nat.le_of_ble_eq_true rfl) ?_
  refine wa_iconst (x := 2) dL_room_19 (by decide) ?_
  exact wa_ireturn dL_room_20 ⟨by omega, by omega, ⟨_, rfl, rfl⟩, rfl, rfl, rfl⟩
theorem wl_count_0 {n dp mc ms : Nat} {S : SS} {Q0 : ab_R → Nat → ab_H → Prop} {P : Int32 → Nat → SS → Prop} {a b : Int32} (hn : 279 ≤ n) (hA : AM yX6_count cX6_count 4 (some .int) [] dp mc ms [.ref 0, .int a, .int b] n (Hp S) Q0) (hq : ∀ r n' h', Q0 r n' h' → ∃ (v : Int32) (S' : SS), r = .inl (some (.int v)) ∧ h' = Hp S' ∧ P v n' S') : AM yL_count cL_count 5 (some .int) [(0, 10, 13, 29), (0, 10, 17, 19)] (dp + 1) mc ms [.ref 0, .int a, .int b, .ref 277] n (Hp S) (fun r n' h' => r = .inl (some (.int 0)) ∧ ∃ (v : Int32) (S' : SS), h' = Hp (so S' v.toInt64) ∧ n ≤ n' ∧ P v n' S') := by
  intro has
  change WA RL cL_count 5 [(0, 10, 13, 29), (0, 10, 17, 19)] _ _ 0 0 0 [some (.ref 0), some (.int a), some (.int b), some (.ref 277), none] [] n _
  refine wa_aload_n dL_count_0 rfl ?_
  refine wa_iconst (x := 0) dL_count_1 (by decide) ?_
  refine wa_aload_n dL_count_2 rfl ?_
  refine wa_iload_n dL_count_3 rfl ?_
  refine wa_iload_n dL_count_4 rfl ?_
  refine wa_callV (As := [.int a, .int b]) dL_count_5 lk_L_31 hA rfl (isO_VR _ _ _) rfl (Or.inl (ltS hn)) (by exact Nat.le_of_ble_eq_true rfl) (fitW (by decide)) (by exact Nat.le_of_ble_eq_true rfl) (fun ro n' h' q hn' => ?_) (fun E n' h' q _ => by obtain ⟨v, S', e, -⟩ := hq _ _ _ q; cases e)
  obtain ⟨v, S', e, rfl, hP⟩ := hq _ _ _ q
  cases e
  refine wa_i2l dL_count_8 ?_
  refine s_last (by omega) dL_count_9 ?_
  refine wa_goto 21 dL_count_10 rfl ?_
  refine wa_iconst (x := 0) dL_count_21 (by decide) ?_
  exact wa_ireturn dL_count_22 ⟨by omega, by omega, ⟨_, rfl, rfl⟩, rfl, v, S', rfl, hn', hP⟩
theorem wl_count_1 {n dp mc ms : Nat} {S : SS} {a b : Int32} (hn : 279 ≤ n) (hA : AM yX6_count cX6_count 4 (some .int) [] dp mc ms [.ref 0, .int a, .int b] n (Hp S) (PX ab_xI n S)) : AM yL_count cL_count 5 (some .int) [(0, 10, 13, 29), (0, 10, 17, 19)] (dp + 1) mc ms [.ref 0, .int a, .int b, .ref 277] n (Hp S) (PI 1 n S) := by
  intro has
  change WA RL cL_count 5 [(0, 10, 13, 29), (0, 10, 17, 19)] _ _ 0 0 0 [some (.ref 0), some (.int a), some (.int b), some (.ref 277), none] [] n _
  refine wa_aload_n dL_count_0 rfl ?_
  refine wa_iconst (x := 0) dL_count_1 (by decide) ?_
  refine wa_aload_n dL_count_2 rfl ?_
  refine wa_iload_n dL_count_3 rfl ?_
  refine wa_iload_n dL_count_4 rfl ?_
  refine wa_callV (As := [.int a, .int b]) dL_count_5 lk_L_31 hA rfl (isO_VR _ _ _) rfl (Or.inl (ltS hn)) (by exact Nat.le_of_ble_eq_true rfl) (fitW (by decide)) (by exact Nat.le_of_ble_eq_true rfl) (fun ro n' h' q _ => by cases q.1) (fun E n' h' q _ => ?_)
  obtain ⟨e, rfl, rfl⟩ := q
  cases e
  refine wt_catch [] (0, 10, 13, 29) [(0, 10, 17, 19)] rfl (fun y hy => absurd hy List.not_mem_nil) (by decide) (by decide) wk_L_29 (List.mem_of_getElem? (i := 0) rfl) dL_count_13 rfl (by exact Nat.le_of_ble_eq_true rfl) ?_
  refine wa_iconst (x := 1) dL_count_15 (by decide) ?_
  exact wa_ireturn dL_count_16 ⟨by omega, by omega, ⟨_, rfl, rfl⟩, rfl, rfl, rfl⟩
theorem wl_count_2 {n dp mc ms : Nat} {S : SS} {a b : Int32} (hn : 279 ≤ n) (hA : AM yX6_count cX6_count 4 (some .int) [] dp mc ms [.ref 0, .int a, .int b] n (Hp S) (PX ab_xA n S)) : AM yL_count cL_count 5 (some .int) [(0, 10, 13, 29), (0, 10, 17, 19)] (dp + 1) mc ms [.ref 0, .int a, .int b, .ref 277] n (Hp S) (PI 2 n S) := by
  intro has
  change WA RL cL_count 5 [(0, 10, 13, 29), (0, 10, 17, 19)] _ _ 0 0 0 [some (.ref 0), some (.int a), some (.int b), some (.ref 277), none] [] n _
  refine wa_aload_n dL_count_0 rfl ?_
  refine wa_iconst (x := 0) dL_count_1 (by decide) ?_
  refine wa_aload_n dL_count_2 rfl ?_
  refine wa_iload_n dL_count_3 rfl ?_
  refine wa_iload_n dL_count_4 rfl ?_
  refine wa_callV (As := [.int a, .int b]) dL_count_5 lk_L_31 hA rfl (isO_VR _ _ _) rfl (Or.inl (ltS hn)) (by exact Nat.le_of_ble_eq_true rfl) (fitW (by decide)) (by exact Nat.le_of_ble_eq_true rfl) (fun ro n' h' q _ => by cases q.1) (fun E n' h' q _ => ?_)
  obtain ⟨e, rfl, rfl⟩ := q
  cases e
  refine wt_catch [(0, 10, 13, 29)] (0, 10, 17, 19) [] rfl (fun y hy => by
    simp only [List.mem_cons, List.not_mem_nil, or_false] at hy
    subst hy
    exact Or.inr ⟨by decide, ab_xI, wk_L_29, List.mem_of_getElem? (i := 0) rfl⟩) (by decide) (by decide) wk_L_19 (List.mem_of_getElem? (i := 1) rfl) dL_count_17 rfl (by exact Nat.le_of_ble_eq_true rfl) ?_
  refine wa_iconst (x := 2) dL_count_19 (by decide) ?_
  exact wa_ireturn dL_count_20 ⟨by omega, by omega, ⟨_, rfl, rfl⟩, rfl, rfl, rfl⟩
theorem wl_target_0 {n dp mc ms : Nat} {S : SS} {Q0 : ab_R → Nat → ab_H → Prop} {P : Int32 → Nat → SS → Prop} {a : Int32} (hn : 279 ≤ n) (hA : AM yX6_target cX6_target 2 (some .int) [] dp mc ms [.ref 0, .int a] n (Hp S) Q0) (hq : ∀ r n' h', Q0 r n' h' → ∃ (v : Int32) (S' : SS), r = .inl (some (.int v)) ∧ h' = Hp S' ∧ P v n' S') : AM yL_target cL_target 4 (some .int) [(0, 9, 12, 29)] (dp + 1) mc ms [.ref 0, .int a, .ref 277] n (Hp S) (fun r n' h' => r = .inl (some (.int 0)) ∧ ∃ (v : Int32) (S' : SS), h' = Hp (so S' v.toInt64) ∧ n ≤ n' ∧ P v n' S') := by
  intro has
  change WA RL cL_target 4 [(0, 9, 12, 29)] _ _ 0 0 0 [some (.ref 0), some (.int a), some (.ref 277), none] [] n _
  refine wa_aload_n dL_target_0 rfl ?_
  refine wa_iconst (x := 0) dL_target_1 (by decide) ?_
  refine wa_aload_n dL_target_2 rfl ?_
  refine wa_iload_n dL_target_3 rfl ?_
  refine wa_callV (As := [.int a]) dL_target_4 lk_L_34 hA rfl (isO_VR _ _ _) rfl (Or.inl (ltS hn)) (by exact Nat.le_of_ble_eq_true rfl) (fitW (by decide)) (by exact Nat.le_of_ble_eq_true rfl) (fun ro n' h' q hn' => ?_) (fun E n' h' q _ => by obtain ⟨v, S', e, -⟩ := hq _ _ _ q; cases e)
  obtain ⟨v, S', e, rfl, hP⟩ := hq _ _ _ q
  cases e
  refine wa_i2l dL_target_7 ?_
  refine s_last (by omega) dL_target_8 ?_
  refine wa_goto 15 dL_target_9 rfl ?_
  refine wa_iconst (x := 0) dL_target_15 (by decide) ?_
  exact wa_ireturn dL_target_16 ⟨by omega, by omega, ⟨_, rfl, rfl⟩, rfl, v, S', rfl, hn', hP⟩
theorem wl_target_1 {n dp mc ms : Nat} {S : SS} {a : Int32} (hn : 279 ≤ n) (hA : AM yX6_target cX6_target 2 (some .int) [] dp mc ms [.ref 0, .int a] n (Hp S) (PX ab_xI n S)) : AM yL_target cL_target 4 (some .int) [(0, 9, 12, 29)] (dp + 1) mc ms [.ref 0, .int a, .ref 277] n (Hp S) (PI 1 n S) := by
  intro has
  change WA RL cL_target 4 [(0, 9, 12, 29)] _ _ 0 0 0 [some (.ref 0), some (.int a), some (.ref 277), none] [] n _
  refine wa_aload_n dL_target_0 rfl ?_
  refine wa_iconst (x := 0) dL_target_1 (by decide) ?_
  refine wa_aload_n dL_target_2 rfl ?_
  refine wa_iload_n dL_target_3 rfl ?_
  refine wa_callV (As := [.int a]) dL_target_4 lk_L_34 hA rfl (isO_VR _ _ _) rfl (Or.inl (ltS hn)) (by exact Nat.le_of_ble_eq_true rfl) (fitW (by decide)) (by exact Nat.le_of_ble_eq_true rfl) (fun ro n' h' q _ => by cases q.1) (fun E n' h' q _ => ?_)
  obtain ⟨e, rfl, rfl⟩ := q
  cases e
  refine wt_catch_n [] (0, 9, 12, 29) [] rfl (fun y hy => absurd hy List.not_mem_nil) (by decide) (by decide) wk_L_29 (List.mem_of_getElem? (i := 0) rfl) dL_target_12 rfl (by exact Nat.le_of_ble_eq_true rfl) ?_
  refine wa_iconst (x := 1) dL_target_13 (by decide) ?_
  exact wa_ireturn dL_target_14 ⟨by omega, by omega, ⟨_, rfl, rfl⟩, rfl, rfl, rfl⟩
theorem wl_programmed_0 {n dp mc ms : Nat} {S : SS} {Q0 : ab_R → Nat → ab_H → Prop} {P : Int32 → Nat → SS → Prop} {a b : Int32} (hn : 279 ≤ n) (hA : AM yX6_programmed cX6_programmed 4 (some .int) [] dp mc ms [.ref 0, .int a, .int b] n (Hp S) Q0) (hq : ∀ r n' h', Q0 r n' h' → ∃ (v : Int32) (S' : SS), r = .inl (some (.int v)) ∧ h' = Hp S' ∧ P v n' S') : AM yL_programmed cL_programmed 5 (some .int) [(0, 10, 13, 29), (0, 10, 17, 19)] (dp + 1) mc ms [.ref 0, .int a, .int b, .ref 277] n (Hp S) (fun r n' h' => r = .inl (some (.int 0)) ∧ ∃ (v : Int32) (S' : SS), h' = Hp (so S' v.toInt64) ∧ n ≤ n' ∧ P v n' S') := by
  intro has
  change WA RL cL_programmed 5 [(0, 10, 13, 29), (0, 10, 17, 19)] _ _ 0 0 0 [some (.ref 0), some (.int a), some (.int b), some (.ref 277), none] [] n _
  refine wa_aload_n dL_programmed_0 rfl ?_
  refine wa_iconst (x := 0) dL_programmed_1 (by decide) ?_
  refine wa_aload_n dL_programmed_2 rfl ?_
  refine wa_iload_n dL_programmed_3 rfl ?_
  refine wa_iload_n dL_programmed_4 rfl ?_
  refine wa_callV (As := [.int a, .int b]) dL_programmed_5 lk_L_37 hA rfl (isO_VR _ _ _) rfl (Or.inl (ltS hn)) (by exact Nat.le_of_ble_eq_true rfl) (fitW (by decide)) (by exact Nat.le_of_ble_eq_true rfl) (fun ro n' h' q hn' => ?_) (fun E n' h' q _ => by obtain ⟨v, S', e, -⟩ := hq _ _ _ q; cases e)
  obtain ⟨v, S', e, rfl, hP⟩ := hq _ _ _ q
  cases e
  refine wa_i2l dL_programmed_8 ?_
  refine s_last (by omega) dL_programmed_9 ?_
  refine wa_goto 21 dL_programmed_10 rfl ?_
  refine wa_iconst (x := 0) dL_programmed_21 (by decide) ?_
  exact wa_ireturn dL_programmed_22 ⟨by omega, by omega, ⟨_, rfl, rfl⟩, rfl, v, S', rfl, hn', hP⟩
theorem wl_programmed_1 {n dp mc ms : Nat} {S : SS} {a b : Int32} (hn : 279 ≤ n) (hA : AM yX6_programmed cX6_programmed 4 (some .int) [] dp mc ms [.ref 0, .int a, .int b] n (Hp S) (PX ab_xI n S)) : AM yL_programmed cL_programmed 5 (some .int) [(0, 10, 13, 29), (0, 10, 17, 19)] (dp + 1) mc ms [.ref 0, .int a, .int b, .ref 277] n (Hp S) (PI 1 n S) := by
  intro has
  change WA RL cL_programmed 5 [(0, 10, 13, 29), (0, 10, 17, 19)] _ _ 0 0 0 [some (.ref 0), some (.int a), some (.int b), some (.ref 277), none] [] n _
  refine wa_aload_n dL_programmed_0 rfl ?_
  refine wa_iconst (x := 0) dL_programmed_1 (by decide) ?_
  refine wa_aload_n dL_programmed_2 rfl ?_
  refine wa_iload_n dL_programmed_3 rfl ?_
  refine wa_iload_n dL_programmed_4 rfl ?_
  refine wa_callV (As := [.int a, .int b]) dL_programmed_5 lk_L_37 hA rfl (isO_VR _ _ _) rfl (Or.inl (ltS hn)) (by exact Nat.le_of_ble_eq_true rfl) (fitW (by decide)) (by exact Nat.le_of_ble_eq_true rfl) (fun ro n' h' q _ => by cases q.1) (fun E n' h' q _ => ?_)
  obtain ⟨e, rfl, rfl⟩ := q
  cases e
  refine wt_catch [] (0, 10, 13, 29) [(0, 10, 17, 19)] rfl (fun y hy => absurd hy List.not_mem_nil) (by decide) (by decide) wk_L_29 (List.mem_of_getElem? (i := 0) rfl) dL_programmed_13 rfl (by exact Nat.le_of_ble_eq_true rfl) ?_
  refine wa_iconst (x := 1) dL_programmed_15 (by decide) ?_
  exact wa_ireturn dL_programmed_16 ⟨by omega, by omega, ⟨_, rfl, rfl⟩, rfl, rfl, rfl⟩
theorem wl_programmed_2 {n dp mc ms : Nat} {S : SS} {a b : Int32} (hn : 279 ≤ n) (hA : AM yX6_programmed cX6_programmed 4 (some .int) [] dp mc ms [.ref 0, .int a, .int b] n (Hp S) (PX ab_xA n S)) : AM yL_programmed cL_programmed 5 (some .int) [(0, 10, 13, 29), (0, 10, 17, 19)] (dp + 1) mc ms [.ref 0, .int a, .int b, .ref 277] n (Hp S) (PI 2 n S) := by
  intro has
  change WA RL cL_programmed 5 [(0, 10, 13, 29), (0, 10, 17, 19)] _ _ 0 0 0 [some (.ref 0), some (.int a), some (.int b), some (.ref 277), none] [] n _
  refine wa_aload_n dL_programmed_0 rfl ?_
  refine wa_iconst (x := 0) dL_programmed_1 (by decide) ?_
  refine wa_aload_n dL_programmed_2 rfl ?_
  refine wa_iload_n dL_programmed_3 rfl ?_
  refine wa_iload_n dL_programmed_4 rfl ?_
  refine wa_callV (As := [.int a, .int b]) dL_programmed_5 lk_L_37 hA rfl (isO_VR _ _ _) rfl (Or.inl (ltS hn)) (by exact Nat.le_of_ble_eq_true rfl) (fitW (by decide)) (by exact Nat.le_of_ble_eq_true rfl) (fun ro n' h' q _ => by cases q.1) (fun E n' h' q _ => ?_)
  obtain ⟨e, rfl, rfl⟩ := q
  cases e
  refine wt_catch [(0, 10, 13, 29)] (0, 10, 17, 19) [] rfl (fun y hy => by
    simp only [List.mem_cons, List.not_mem_nil, or_false] at hy
    subst hy
    exact Or.inr ⟨by decide, ab_xI, wk_L_29, List.mem_of_getElem? (i := 0) rfl⟩) (by decide) (by decide) wk_L_19 (List.mem_of_getElem? (i := 1) rfl) dL_programmed_17 rfl (by exact Nat.le_of_ble_eq_true rfl) ?_
  refine wa_iconst (x := 2) dL_programmed_19 (by decide) ?_
  exact wa_ireturn dL_programmed_20 ⟨by omega, by omega, ⟨_, rfl, rfl⟩, rfl, rfl, rfl⟩
theorem wl_entry_0 {n dp mc ms : Nat} {S : SS} {Q0 : ab_R → Nat → ab_H → Prop} {P : Int32 → Nat → SS → Prop} {a b : Int32} (hn : 279 ≤ n) (hA : AM yX6_entry cX6_entry 4 (some .int) [] dp mc ms [.ref 0, .int a, .int b] n (Hp S) Q0) (hq : ∀ r n' h', Q0 r n' h' → ∃ (v : Int32) (S' : SS), r = .inl (some (.int v)) ∧ h' = Hp S' ∧ P v n' S') : AM yL_entry cL_entry 5 (some .int) [(0, 10, 13, 29), (0, 10, 17, 43)] (dp + 1) mc ms [.ref 0, .int a, .int b, .ref 277] n (Hp S) (fun r n' h' => r = .inl (some (.int 0)) ∧ ∃ (v : Int32) (S' : SS), h' = Hp (so S' v.toInt64) ∧ n ≤ n' ∧ P v n' S') := by
  intro has
  change WA RL cL_entry 5 [(0, 10, 13, 29), (0, 10, 17, 43)] _ _ 0 0 0 [some (.ref 0), some (.int a), some (.int b), some (.ref 277), none] [] n _
  refine wa_aload_n dL_entry_0 rfl ?_
  refine wa_iconst (x := 0) dL_entry_1 (by decide) ?_
  refine wa_aload_n dL_entry_2 rfl ?_
  refine wa_iload_n dL_entry_3 rfl ?_
  refine wa_iload_n dL_entry_4 rfl ?_
  refine wa_callV (As := [.int a, .int b]) dL_entry_5 lk_L_40 hA rfl (isO_VR _ _ _) rfl (Or.inl (ltS hn)) (by exact Nat.le_of_ble_eq_true rfl) (fitW (by decide)) (by exact Nat.le_of_ble_eq_true rfl) (fun ro n' h' q hn' => ?_) (fun E n' h' q _ => by obtain ⟨v, S', e, -⟩ := hq _ _ _ q; cases e)
  obtain ⟨v, S', e, rfl, hP⟩ := hq _ _ _ q
  cases e
  refine wa_i2l dL_entry_8 ?_
  refine s_last (by omega) dL_entry_9 ?_
  refine wa_goto 21 dL_entry_10 rfl ?_
  refine wa_iconst (x := 0) dL_entry_21 (by decide) ?_
  exact wa_ireturn dL_entry_22 ⟨by omega, by omega, ⟨_, rfl, rfl⟩, rfl, v, S', rfl, hn', hP⟩
theorem wl_entry_1 {n dp mc ms : Nat} {S : SS} {a b : Int32} (hn : 279 ≤ n) (hA : AM yX6_entry cX6_entry 4 (some .int) [] dp mc ms [.ref 0, .int a, .int b] n (Hp S) (PX ab_xI n S)) : AM yL_entry cL_entry 5 (some .int) [(0, 10, 13, 29), (0, 10, 17, 43)] (dp + 1) mc ms [.ref 0, .int a, .int b, .ref 277] n (Hp S) (PI 1 n S) := by
  intro has
  change WA RL cL_entry 5 [(0, 10, 13, 29), (0, 10, 17, 43)] _ _ 0 0 0 [some (.ref 0), some (.int a), some (.int b), some (.ref 277), none] [] n _
  refine wa_aload_n dL_entry_0 rfl ?_
  refine wa_iconst (x := 0) dL_entry_1 (by decide) ?_
  refine wa_aload_n dL_entry_2 rfl ?_
  refine wa_iload_n dL_entry_3 rfl ?_
  refine wa_iload_n dL_entry_4 rfl ?_
  refine wa_callV (As := [.int a, .int b]) dL_entry_5 lk_L_40 hA rfl (isO_VR _ _ _) rfl (Or.inl (ltS hn)) (by exact Nat.le_of_ble_eq_true rfl) (fitW (by decide)) (by exact Nat.le_of_ble_eq_true rfl) (fun ro n' h' q _ => by cases q.1) (fun E n' h' q _ => ?_)
  obtain ⟨e, rfl, rfl⟩ := q
  cases e
  refine wt_catch [] (0, 10, 13, 29) [(0, 10, 17, 43)] rfl (fun y hy => absurd hy List.not_mem_nil) (by decide) (by decide) wk_L_29 (List.mem_of_getElem? (i := 0) rfl) dL_entry_13 rfl (by exact Nat.le_of_ble_eq_true rfl) ?_
  refine wa_iconst (x := 1) dL_entry_15 (by decide) ?_
  exact wa_ireturn dL_entry_16 ⟨by omega, by omega, ⟨_, rfl, rfl⟩, rfl, rfl, rfl⟩
theorem wl_entry_2 {n dp mc ms : Nat} {S : SS} {a b : Int32} (hn : 279 ≤ n) (hA : AM yX6_entry cX6_entry 4 (some .int) [] dp mc ms [.ref 0, .int a, .int b] n (Hp S) (PX ab_xN n S)) : AM yL_entry cL_entry 5 (some .int) [(0, 10, 13, 29), (0, 10, 17, 43)] (dp + 1) mc ms [.ref 0, .int a, .int b, .ref 277] n (Hp S) (PI 2 n S) := by
  intro has
  change WA RL cL_entry 5 [(0, 10, 13, 29), (0, 10, 17, 43)] _ _ 0 0 0 [some (.ref 0), some (.int a), some (.int b), some (.ref 277), none] [] n _
  refine wa_aload_n dL_entry_0 rfl ?_
  refine wa_iconst (x := 0) dL_entry_1 (by decide) ?_
  refine wa_aload_n dL_entry_2 rfl ?_
  refine wa_iload_n dL_entry_3 rfl ?_
  refine wa_iload_n dL_entry_4 rfl ?_
  refine wa_callV (As := [.int a, .int b]) dL_entry_5 lk_L_40 hA rfl (isO_VR _ _ _) rfl (Or.inl (ltS hn)) (by exact Nat.le_of_ble_eq_true rfl) (fitW (by decide)) (by exact Nat.le_of_ble_eq_true rfl) (fun ro n' h' q _ => by cases q.1) (fun E n' h' q _ => ?_)
  obtain ⟨e, rfl, rfl⟩ := q
  cases e
  refine wt_catch [(0, 10, 13, 29)] (0, 10, 17, 43) [] rfl (fun y hy => by
    simp only [List.mem_cons, List.not_mem_nil, or_false] at hy
    subst hy
    exact Or.inr ⟨by decide, ab_xI, wk_L_29, List.mem_of_getElem? (i := 3) rfl⟩) (by decide) (by decide) wk_L_43 (List.mem_of_getElem? (i := 3) rfl) dL_entry_17 rfl (by exact Nat.le_of_ble_eq_true rfl) ?_
  refine wa_iconst (x := 2) dL_entry_19 (by decide) ?_
  exact wa_ireturn dL_entry_20 ⟨by omega, by omega, ⟨_, rfl, rfl⟩, rfl, rfl, rfl⟩
theorem wl_wanted_0 {n dp mc ms : Nat} {S : SS} {Q0 : ab_R → Nat → ab_H → Prop} {P : Int32 → Nat → SS → Prop} {a : Int32} (hn : 279 ≤ n) (hA : AM yX6_wanted cX6_wanted 2 (some .int) [] dp mc ms [.ref 0, .int a] n (Hp S) Q0) (hq : ∀ r n' h', Q0 r n' h' → ∃ (v : Int32) (S' : SS), r = .inl (some (.int v)) ∧ h' = Hp S' ∧ P v n' S') : AM yL_wanted cL_wanted 4 (some .int) [(0, 9, 12, 29)] (dp + 1) mc ms [.ref 0, .int a, .ref 277] n (Hp S) (fun r n' h' => r = .inl (some (.int 0)) ∧ ∃ (v : Int32) (S' : SS), h' = Hp (so S' v.toInt64) ∧ n ≤ n' ∧ P v n' S') := by
  intro has
  change WA RL cL_wanted 4 [(0, 9, 12, 29)] _ _ 0 0 0 [some (.ref 0), some (.int a), some (.ref 277), none] [] n _
  refine wa_aload_n dL_wanted_0 rfl ?_
  refine wa_iconst (x := 0) dL_wanted_1 (by decide) ?_
  refine wa_aload_n dL_wanted_2 rfl ?_
  refine wa_iload_n dL_wanted_3 rfl ?_
  refine wa_callV (As := [.int a]) dL_wanted_4 lk_L_45 hA rfl (isO_VR _ _ _) rfl (Or.inl (ltS hn)) (by exact Nat.le_of_ble_eq_true rfl) (fitW (by decide)) (by exact Nat.le_of_ble_eq_true rfl) (fun ro n' h' q hn' => ?_) (fun E n' h' q _ => by obtain ⟨v, S', e, -⟩ := hq _ _ _ q; cases e)
  obtain ⟨v, S', e, rfl, hP⟩ := hq _ _ _ q
  cases e
  refine wa_i2l dL_wanted_7 ?_
  refine s_last (by omega) dL_wanted_8 ?_
  refine wa_goto 15 dL_wanted_9 rfl ?_
  refine wa_iconst (x := 0) dL_wanted_15 (by decide) ?_
  exact wa_ireturn dL_wanted_16 ⟨by omega, by omega, ⟨_, rfl, rfl⟩, rfl, v, S', rfl, hn', hP⟩
theorem wl_wanted_1 {n dp mc ms : Nat} {S : SS} {a : Int32} (hn : 279 ≤ n) (hA : AM yX6_wanted cX6_wanted 2 (some .int) [] dp mc ms [.ref 0, .int a] n (Hp S) (PX ab_xI n S)) : AM yL_wanted cL_wanted 4 (some .int) [(0, 9, 12, 29)] (dp + 1) mc ms [.ref 0, .int a, .ref 277] n (Hp S) (PI 1 n S) := by
  intro has
  change WA RL cL_wanted 4 [(0, 9, 12, 29)] _ _ 0 0 0 [some (.ref 0), some (.int a), some (.ref 277), none] [] n _
  refine wa_aload_n dL_wanted_0 rfl ?_
  refine wa_iconst (x := 0) dL_wanted_1 (by decide) ?_
  refine wa_aload_n dL_wanted_2 rfl ?_
  refine wa_iload_n dL_wanted_3 rfl ?_
  refine wa_callV (As := [.int a]) dL_wanted_4 lk_L_45 hA rfl (isO_VR _ _ _) rfl (Or.inl (ltS hn)) (by exact Nat.le_of_ble_eq_true rfl) (fitW (by decide)) (by exact Nat.le_of_ble_eq_true rfl) (fun ro n' h' q _ => by cases q.1) (fun E n' h' q _ => ?_)
  obtain ⟨e, rfl, rfl⟩ := q
  cases e
  refine wt_catch_n [] (0, 9, 12, 29) [] rfl (fun y hy => absurd hy List.not_mem_nil) (by decide) (by decide) wk_L_29 (List.mem_of_getElem? (i := 0) rfl) dL_wanted_12 rfl (by exact Nat.le_of_ble_eq_true rfl) ?_
  refine wa_iconst (x := 1) dL_wanted_13 (by decide) ?_
  exact wa_ireturn dL_wanted_14 ⟨by omega, by omega, ⟨_, rfl, rfl⟩, rfl, rfl, rfl⟩
theorem wl_why_0 {n dp mc ms : Nat} {S : SS} {Q0 : ab_R → Nat → ab_H → Prop} {P : Int32 → Nat → SS → Prop} {a : Int32} (hn : 279 ≤ n) (hA : AM yX6_why cX6_why 4 (some .int) [] dp mc ms [.ref 0, .int a] n (Hp S) Q0) (hq : ∀ r n' h', Q0 r n' h' → ∃ (v : Int32) (S' : SS), r = .inl (some (.int v)) ∧ h' = Hp S' ∧ P v n' S') : AM yL_why cL_why 4 (some .int) [(0, 9, 12, 29)] (dp + 1) mc ms [.ref 0, .int a, .ref 277] n (Hp S) (fun r n' h' => r = .inl (some (.int 0)) ∧ ∃ (v : Int32) (S' : SS), h' = Hp (so S' v.toInt64) ∧ n ≤ n' ∧ P v n' S') := by
  intro has
  change WA RL cL_why 4 [(0, 9, 12, 29)] _ _ 0 0 0 [some (.ref 0), some (.int a), some (.ref 277), none] [] n _
  refine wa_aload_n dL_why_0 rfl ?_
  refine wa_iconst (x := 0) dL_why_1 (by decide) ?_
  refine wa_aload_n dL_why_2 rfl ?_
  refine wa_iload_n dL_why_3 rfl ?_
  refine wa_callV (As := [.int a]) dL_why_4 lk_L_48 hA rfl (isO_VR _ _ _) rfl (Or.inl (ltS hn)) (by exact Nat.le_of_ble_eq_true rfl) (fitW (by decide)) (by exact Nat.le_of_ble_eq_true rfl) (fun ro n' h' q hn' => ?_) (fun E n' h' q _ => by obtain ⟨v, S', e, -⟩ := hq _ _ _ q; cases e)
  obtain ⟨v, S', e, rfl, hP⟩ := hq _ _ _ q
  cases e
  refine wa_i2l dL_why_7 ?_
  refine s_last (by omega) dL_why_8 ?_
  refine wa_goto 15 dL_why_9 rfl ?_
  refine wa_iconst (x := 0) dL_why_15 (by decide) ?_
  exact wa_ireturn dL_why_16 ⟨by omega, by omega, ⟨_, rfl, rfl⟩, rfl, v, S', rfl, hn', hP⟩
theorem wl_why_1 {n dp mc ms : Nat} {S : SS} {a : Int32} (hn : 279 ≤ n) (hA : AM yX6_why cX6_why 4 (some .int) [] dp mc ms [.ref 0, .int a] n (Hp S) (PX ab_xI n S)) : AM yL_why cL_why 4 (some .int) [(0, 9, 12, 29)] (dp + 1) mc ms [.ref 0, .int a, .ref 277] n (Hp S) (PI 1 n S) := by
  intro has
  change WA RL cL_why 4 [(0, 9, 12, 29)] _ _ 0 0 0 [some (.ref 0), some (.int a), some (.ref 277), none] [] n _
  refine wa_aload_n dL_why_0 rfl ?_
  refine wa_iconst (x := 0) dL_why_1 (by decide) ?_
  refine wa_aload_n dL_why_2 rfl ?_
  refine wa_iload_n dL_why_3 rfl ?_
  refine wa_callV (As := [.int a]) dL_why_4 lk_L_48 hA rfl (isO_VR _ _ _) rfl (Or.inl (ltS hn)) (by exact Nat.le_of_ble_eq_true rfl) (fitW (by decide)) (by exact Nat.le_of_ble_eq_true rfl) (fun ro n' h' q _ => by cases q.1) (fun E n' h' q _ => ?_)
  obtain ⟨e, rfl, rfl⟩ := q
  cases e
  refine wt_catch_n [] (0, 9, 12, 29) [] rfl (fun y hy => absurd hy List.not_mem_nil) (by decide) (by decide) wk_L_29 (List.mem_of_getElem? (i := 0) rfl) dL_why_12 rfl (by exact Nat.le_of_ble_eq_true rfl) ?_
  refine wa_iconst (x := 1) dL_why_13 (by decide) ?_
  exact wa_ireturn dL_why_14 ⟨by omega, by omega, ⟨_, rfl, rfl⟩, rfl, rfl, rfl⟩
theorem wl_planned_0 {n dp mc ms : Nat} {S : SS} {Q0 : ab_R → Nat → ab_H → Prop} {P : Int32 → Nat → SS → Prop} {a b : Int32} (hn : 279 ≤ n) (hA : AM yX6_planned cX6_planned 3 (some .int) [] dp mc ms [.ref 0, .int a, .int b] n (Hp S) Q0) (hq : ∀ r n' h', Q0 r n' h' → ∃ (v : Int32) (S' : SS), r = .inl (some (.int v)) ∧ h' = Hp S' ∧ P v n' S') : AM yL_planned cL_planned 5 (some .int) [(0, 10, 13, 29), (0, 10, 17, 19)] (dp + 1) mc ms [.ref 0, .int a, .int b, .ref 277] n (Hp S) (fun r n' h' => r = .inl (some (.int 0)) ∧ ∃ (v : Int32) (S' : SS), h' = Hp (so S' v.toInt64) ∧ n ≤ n' ∧ P v n' S') := by
  intro has
  change WA RL cL_planned 5 [(0, 10, 13, 29), (0, 10, 17, 19)] _ _ 0 0 0 [some (.ref 0), some (.int a), some (.int b), some (.ref 277), none] [] n _
  refine wa_aload_n dL_planned_0 rfl ?_
  refine wa_iconst (x := 0) dL_planned_1 (by decide) ?_
  refine wa_aload_n dL_planned_2 rfl ?_
  refine wa_iload_n dL_planned_3 rfl ?_
  refine wa_iload_n dL_planned_4 rfl ?_
  refine wa_callV (As := [.int a, .int b]) dL_planned_5 lk_L_51 hA rfl (isO_VR _ _ _) rfl (Or.inl (ltS hn)) (by exact Nat.le_of_ble_eq_true rfl) (fitW (by decide)) (by exact Nat.le_of_ble_eq_true rfl) (fun ro n' h' q hn' => ?_) (fun E n' h' q _ => by obtain ⟨v, S', e, -⟩ := hq _ _ _ q; cases e)
  obtain ⟨v, S', e, rfl, hP⟩ := hq _ _ _ q
  cases e
  refine wa_i2l dL_planned_8 ?_
  refine s_last (by omega) dL_planned_9 ?_
  refine wa_goto 21 dL_planned_10 rfl ?_
  refine wa_iconst (x := 0) dL_planned_21 (by decide) ?_
  exact wa_ireturn dL_planned_22 ⟨by omega, by omega, ⟨_, rfl, rfl⟩, rfl, v, S', rfl, hn', hP⟩
theorem wl_planned_1 {n dp mc ms : Nat} {S : SS} {a b : Int32} (hn : 279 ≤ n) (hA : AM yX6_planned cX6_planned 3 (some .int) [] dp mc ms [.ref 0, .int a, .int b] n (Hp S) (PX ab_xI n S)) : AM yL_planned cL_planned 5 (some .int) [(0, 10, 13, 29), (0, 10, 17, 19)] (dp + 1) mc ms [.ref 0, .int a, .int b, .ref 277] n (Hp S) (PI 1 n S) := by
  intro has
  change WA RL cL_planned 5 [(0, 10, 13, 29), (0, 10, 17, 19)] _ _ 0 0 0 [some (.ref 0), some (.int a), some (.int b), some (.ref 277), none] [] n _
  refine wa_aload_n dL_planned_0 rfl ?_
  refine wa_iconst (x := 0) dL_planned_1 (by decide) ?_
  refine wa_aload_n dL_planned_2 rfl ?_
  refine wa_iload_n dL_planned_3 rfl ?_
  refine wa_iload_n dL_planned_4 rfl ?_
  refine wa_callV (As := [.int a, .int b]) dL_planned_5 lk_L_51 hA rfl (isO_VR _ _ _) rfl (Or.inl (ltS hn)) (by exact Nat.le_of_ble_eq_true rfl) (fitW (by decide)) (by exact Nat.le_of_ble_eq_true rfl) (fun ro n' h' q _ => by cases q.1) (fun E n' h' q _ => ?_)
  obtain ⟨e, rfl, rfl⟩ := q
  cases e
  refine wt_catch [] (0, 10, 13, 29) [(0, 10, 17, 19)] rfl (fun y hy => absurd hy List.not_mem_nil) (by decide) (by decide) wk_L_29 (List.mem_of_getElem? (i := 0) rfl) dL_planned_13 rfl (by exact Nat.le_of_ble_eq_true rfl) ?_
  refine wa_iconst (x := 1) dL_planned_15 (by decide) ?_
  exact wa_ireturn dL_planned_16 ⟨by omega, by omega, ⟨_, rfl, rfl⟩, rfl, rfl, rfl⟩
theorem wl_planned_2 {n dp mc ms : Nat} {S : SS} {a b : Int32} (hn : 279 ≤ n) (hA : AM yX6_planned cX6_planned 3 (some .int) [] dp mc ms [.ref 0, .int a, .int b] n (Hp S) (PX ab_xA n S)) : AM yL_planned cL_planned 5 (some .int) [(0, 10, 13, 29), (0, 10, 17, 19)] (dp + 1) mc ms [.ref 0, .int a, .int b, .ref 277] n (Hp S) (PI 2 n S) := by
  intro has
  change WA RL cL_planned 5 [(0, 10, 13, 29), (0, 10, 17, 19)] _ _ 0 0 0 [some (.ref 0), some (.int a), some (.int b), some (.ref 277), none] [] n _
  refine wa_aload_n dL_planned_0 rfl ?_
  refine wa_iconst (x := 0) dL_planned_1 (by decide) ?_
  refine wa_aload_n dL_planned_2 rfl ?_
  refine wa_iload_n dL_planned_3 rfl ?_
  refine wa_iload_n dL_planned_4 rfl ?_
  refine wa_callV (As := [.int a, .int b]) dL_planned_5 lk_L_51 hA rfl (isO_VR _ _ _) rfl (Or.inl (ltS hn)) (by exact Nat.le_of_ble_eq_true rfl) (fitW (by decide)) (by exact Nat.le_of_ble_eq_true rfl) (fun ro n' h' q _ => by cases q.1) (fun E n' h' q _ => ?_)
  obtain ⟨e, rfl, rfl⟩ := q
  cases e
  refine wt_catch [(0, 10, 13, 29)] (0, 10, 17, 19) [] rfl (fun y hy => by
    simp only [List.mem_cons, List.not_mem_nil, or_false] at hy
    subst hy
    exact Or.inr ⟨by decide, ab_xI, wk_L_29, List.mem_of_getElem? (i := 0) rfl⟩) (by decide) (by decide) wk_L_19 (List.mem_of_getElem? (i := 1) rfl) dL_planned_17 rfl (by exact Nat.le_of_ble_eq_true rfl) ?_
  refine wa_iconst (x := 2) dL_planned_19 (by decide) ?_
  exact wa_ireturn dL_planned_20 ⟨by omega, by omega, ⟨_, rfl, rfl⟩, rfl, rfl, rfl⟩
theorem wl_tempIn_0 {n dp mc ms : Nat} {S : SS} {Q0 : ab_R → Nat → ab_H → Prop} {P : Int32 → Nat → SS → Prop} {a b : Int32} (hn : 279 ≤ n) (hA : AM yX6_tempIn cX6_tempIn 3 (some .int) [] dp mc ms [.ref 0, .int a, .int b] n (Hp S) Q0) (hq : ∀ r n' h', Q0 r n' h' → ∃ (v : Int32) (S' : SS), r = .inl (some (.int v)) ∧ h' = Hp S' ∧ P v n' S') : AM yL_tempIn cL_tempIn 5 (some .int) [(0, 10, 13, 29), (0, 10, 17, 19)] (dp + 1) mc ms [.ref 0, .int a, .int b, .ref 277] n (Hp S) (fun r n' h' => r = .inl (some (.int 0)) ∧ ∃ (v : Int32) (S' : SS), h' = Hp (so S' v.toInt64) ∧ n ≤ n' ∧ P v n' S') := by
  intro has
  change WA RL cL_tempIn 5 [(0, 10, 13, 29), (0, 10, 17, 19)] _ _ 0 0 0 [some (.ref 0), some (.int a), some (.int b), some (.ref 277), none] [] n _
  refine wa_aload_n dL_tempIn_0 rfl ?_
  refine wa_iconst (x := 0) dL_tempIn_1 (by decide) ?_
  refine wa_aload_n dL_tempIn_2 rfl ?_
  refine wa_iload_n dL_tempIn_3 rfl ?_
  refine wa_iload_n dL_tempIn_4 rfl ?_
  refine wa_callV (As := [.int a, .int b]) dL_tempIn_5 lk_L_54 hA rfl (isO_VR _ _ _) rfl (Or.inl (ltS hn)) (by exact Nat.le_of_ble_eq_true rfl) (fitW (by decide)) (by exact Nat.le_of_ble_eq_true rfl) (fun ro n' h' q hn' => ?_) (fun E n' h' q _ => by obtain ⟨v, S', e, -⟩ := hq _ _ _ q; cases e)
  obtain ⟨v, S', e, rfl, hP⟩ := hq _ _ _ q
  cases e
  refine wa_i2l dL_tempIn_8 ?_
  refine s_last (by omega) dL_tempIn_9 ?_
  refine wa_goto 21 dL_tempIn_10 rfl ?_
  refine wa_iconst (x := 0) dL_tempIn_21 (by decide) ?_
  exact wa_ireturn dL_tempIn_22 ⟨by omega, by omega, ⟨_, rfl, rfl⟩, rfl, v, S', rfl, hn', hP⟩
theorem wl_tempIn_1 {n dp mc ms : Nat} {S : SS} {a b : Int32} (hn : 279 ≤ n) (hA : AM yX6_tempIn cX6_tempIn 3 (some .int) [] dp mc ms [.ref 0, .int a, .int b] n (Hp S) (PX ab_xI n S)) : AM yL_tempIn cL_tempIn 5 (some .int) [(0, 10, 13, 29), (0, 10, 17, 19)] (dp + 1) mc ms [.ref 0, .int a, .int b, .ref 277] n (Hp S) (PI 1 n S) := by
  intro has
  change WA RL cL_tempIn 5 [(0, 10, 13, 29), (0, 10, 17, 19)] _ _ 0 0 0 [some (.ref 0), some (.int a), some (.int b), some (.ref 277), none] [] n _
  refine wa_aload_n dL_tempIn_0 rfl ?_
  refine wa_iconst (x := 0) dL_tempIn_1 (by decide) ?_
  refine wa_aload_n dL_tempIn_2 rfl ?_
  refine wa_iload_n dL_tempIn_3 rfl ?_
  refine wa_iload_n dL_tempIn_4 rfl ?_
  refine wa_callV (As := [.int a, .int b]) dL_tempIn_5 lk_L_54 hA rfl (isO_VR _ _ _) rfl (Or.inl (ltS hn)) (by exact Nat.le_of_ble_eq_true rfl) (fitW (by decide)) (by exact Nat.le_of_ble_eq_true rfl) (fun ro n' h' q _ => by cases q.1) (fun E n' h' q _ => ?_)
  obtain ⟨e, rfl, rfl⟩ := q
  cases e
  refine wt_catch [] (0, 10, 13, 29) [(0, 10, 17, 19)] rfl (fun y hy => absurd hy List.not_mem_nil) (by decide) (by decide) wk_L_29 (List.mem_of_getElem? (i := 0) rfl) dL_tempIn_13 rfl (by exact Nat.le_of_ble_eq_true rfl) ?_
  refine wa_iconst (x := 1) dL_tempIn_15 (by decide) ?_
  exact wa_ireturn dL_tempIn_16 ⟨by omega, by omega, ⟨_, rfl, rfl⟩, rfl, rfl, rfl⟩
theorem wl_tempIn_2 {n dp mc ms : Nat} {S : SS} {a b : Int32} (hn : 279 ≤ n) (hA : AM yX6_tempIn cX6_tempIn 3 (some .int) [] dp mc ms [.ref 0, .int a, .int b] n (Hp S) (PX ab_xA n S)) : AM yL_tempIn cL_tempIn 5 (some .int) [(0, 10, 13, 29), (0, 10, 17, 19)] (dp + 1) mc ms [.ref 0, .int a, .int b, .ref 277] n (Hp S) (PI 2 n S) := by
  intro has
  change WA RL cL_tempIn 5 [(0, 10, 13, 29), (0, 10, 17, 19)] _ _ 0 0 0 [some (.ref 0), some (.int a), some (.int b), some (.ref 277), none] [] n _
  refine wa_aload_n dL_tempIn_0 rfl ?_
  refine wa_iconst (x := 0) dL_tempIn_1 (by decide) ?_
  refine wa_aload_n dL_tempIn_2 rfl ?_
  refine wa_iload_n dL_tempIn_3 rfl ?_
  refine wa_iload_n dL_tempIn_4 rfl ?_
  refine wa_callV (As := [.int a, .int b]) dL_tempIn_5 lk_L_54 hA rfl (isO_VR _ _ _) rfl (Or.inl (ltS hn)) (by exact Nat.le_of_ble_eq_true rfl) (fitW (by decide)) (by exact Nat.le_of_ble_eq_true rfl) (fun ro n' h' q _ => by cases q.1) (fun E n' h' q _ => ?_)
  obtain ⟨e, rfl, rfl⟩ := q
  cases e
  refine wt_catch [(0, 10, 13, 29)] (0, 10, 17, 19) [] rfl (fun y hy => by
    simp only [List.mem_cons, List.not_mem_nil, or_false] at hy
    subst hy
    exact Or.inr ⟨by decide, ab_xI, wk_L_29, List.mem_of_getElem? (i := 0) rfl⟩) (by decide) (by decide) wk_L_19 (List.mem_of_getElem? (i := 1) rfl) dL_tempIn_17 rfl (by exact Nat.le_of_ble_eq_true rfl) ?_
  refine wa_iconst (x := 2) dL_tempIn_19 (by decide) ?_
  exact wa_ireturn dL_tempIn_20 ⟨by omega, by omega, ⟨_, rfl, rfl⟩, rfl, rfl, rfl⟩
theorem wl_valveIn_0 {n dp mc ms : Nat} {S : SS} {Q0 : ab_R → Nat → ab_H → Prop} {P : Int32 → Nat → SS → Prop} {a b : Int32} (hn : 279 ≤ n) (hA : AM yX6_valveIn cX6_valveIn 3 (some .int) [] dp mc ms [.ref 0, .int a, .int b] n (Hp S) Q0) (hq : ∀ r n' h', Q0 r n' h' → ∃ (v : Int32) (S' : SS), r = .inl (some (.int v)) ∧ h' = Hp S' ∧ P v n' S') : AM yL_valveIn cL_valveIn 5 (some .int) [(0, 10, 13, 29), (0, 10, 17, 19)] (dp + 1) mc ms [.ref 0, .int a, .int b, .ref 277] n (Hp S) (fun r n' h' => r = .inl (some (.int 0)) ∧ ∃ (v : Int32) (S' : SS), h' = Hp (so S' v.toInt64) ∧ n ≤ n' ∧ P v n' S') := by
  intro has
  change WA RL cL_valveIn 5 [(0, 10, 13, 29), (0, 10, 17, 19)] _ _ 0 0 0 [some (.ref 0), some (.int a), some (.int b), some (.ref 277), none] [] n _
  refine wa_aload_n dL_valveIn_0 rfl ?_
  refine wa_iconst (x := 0) dL_valveIn_1 (by decide) ?_
  refine wa_aload_n dL_valveIn_2 rfl ?_
  refine wa_iload_n dL_valveIn_3 rfl ?_
  refine wa_iload_n dL_valveIn_4 rfl ?_
  refine wa_callV (As := [.int a, .int b]) dL_valveIn_5 lk_L_57 hA rfl (isO_VR _ _ _) rfl (Or.inl (ltS hn)) (by exact Nat.le_of_ble_eq_true rfl) (fitW (by decide)) (by exact Nat.le_of_ble_eq_true rfl) (fun ro n' h' q hn' => ?_) (fun E n' h' q _ => by obtain ⟨v, S', e, -⟩ := hq _ _ _ q; cases e)
  obtain ⟨v, S', e, rfl, hP⟩ := hq _ _ _ q
  cases e
  refine wa_i2l dL_valveIn_8 ?_
  refine s_last (by omega) dL_valveIn_9 ?_
  refine wa_goto 21 dL_valveIn_10 rfl ?_
  refine wa_iconst (x := 0) dL_valveIn_21 (by decide) ?_
  exact wa_ireturn dL_valveIn_22 ⟨by omega, by omega, ⟨_, rfl, rfl⟩, rfl, v, S', rfl, hn', hP⟩
theorem wl_valveIn_1 {n dp mc ms : Nat} {S : SS} {a b : Int32} (hn : 279 ≤ n) (hA : AM yX6_valveIn cX6_valveIn 3 (some .int) [] dp mc ms [.ref 0, .int a, .int b] n (Hp S) (PX ab_xI n S)) : AM yL_valveIn cL_valveIn 5 (some .int) [(0, 10, 13, 29), (0, 10, 17, 19)] (dp + 1) mc ms [.ref 0, .int a, .int b, .ref 277] n (Hp S) (PI 1 n S) := by
  intro has
  change WA RL cL_valveIn 5 [(0, 10, 13, 29), (0, 10, 17, 19)] _ _ 0 0 0 [some (.ref 0), some (.int a), some (.int b), some (.ref 277), none] [] n _
  refine wa_aload_n dL_valveIn_0 rfl ?_
  refine wa_iconst (x := 0) dL_valveIn_1 (by decide) ?_
  refine wa_aload_n dL_valveIn_2 rfl ?_
  refine wa_iload_n dL_valveIn_3 rfl ?_
  refine wa_iload_n dL_valveIn_4 rfl ?_
  refine wa_callV (As := [.int a, .int b]) dL_valveIn_5 lk_L_57 hA rfl (isO_VR _ _ _) rfl (Or.inl (ltS hn)) (by exact Nat.le_of_ble_eq_true rfl) (fitW (by decide)) (by exact Nat.le_of_ble_eq_true rfl) (fun ro n' h' q _ => by cases q.1) (fun E n' h' q _ => ?_)
  obtain ⟨e, rfl, rfl⟩ := q
  cases e
  refine wt_catch [] (0, 10, 13, 29) [(0, 10, 17, 19)] rfl (fun y hy => absurd hy List.not_mem_nil) (by decide) (by decide) wk_L_29 (List.mem_of_getElem? (i := 0) rfl) dL_valveIn_13 rfl (by exact Nat.le_of_ble_eq_true rfl) ?_
  refine wa_iconst (x := 1) dL_valveIn_15 (by decide) ?_
  exact wa_ireturn dL_valveIn_16 ⟨by omega, by omega, ⟨_, rfl, rfl⟩, rfl, rfl, rfl⟩
theorem wl_valveIn_2 {n dp mc ms : Nat} {S : SS} {a b : Int32} (hn : 279 ≤ n) (hA : AM yX6_valveIn cX6_valveIn 3 (some .int) [] dp mc ms [.ref 0, .int a, .int b] n (Hp S) (PX ab_xA n S)) : AM yL_valveIn cL_valveIn 5 (some .int) [(0, 10, 13, 29), (0, 10, 17, 19)] (dp + 1) mc ms [.ref 0, .int a, .int b, .ref 277] n (Hp S) (PI 2 n S) := by
  intro has
  change WA RL cL_valveIn 5 [(0, 10, 13, 29), (0, 10, 17, 19)] _ _ 0 0 0 [some (.ref 0), some (.int a), some (.int b), some (.ref 277), none] [] n _
  refine wa_aload_n dL_valveIn_0 rfl ?_
  refine wa_iconst (x := 0) dL_valveIn_1 (by decide) ?_
  refine wa_aload_n dL_valveIn_2 rfl ?_
  refine wa_iload_n dL_valveIn_3 rfl ?_
  refine wa_iload_n dL_valveIn_4 rfl ?_
  refine wa_callV (As := [.int a, .int b]) dL_valveIn_5 lk_L_57 hA rfl (isO_VR _ _ _) rfl (Or.inl (ltS hn)) (by exact Nat.le_of_ble_eq_true rfl) (fitW (by decide)) (by exact Nat.le_of_ble_eq_true rfl) (fun ro n' h' q _ => by cases q.1) (fun E n' h' q _ => ?_)
  obtain ⟨e, rfl, rfl⟩ := q
  cases e
  refine wt_catch [(0, 10, 13, 29)] (0, 10, 17, 19) [] rfl (fun y hy => by
    simp only [List.mem_cons, List.not_mem_nil, or_false] at hy
    subst hy
    exact Or.inr ⟨by decide, ab_xI, wk_L_29, List.mem_of_getElem? (i := 0) rfl⟩) (by decide) (by decide) wk_L_19 (List.mem_of_getElem? (i := 1) rfl) dL_valveIn_17 rfl (by exact Nat.le_of_ble_eq_true rfl) ?_
  refine wa_iconst (x := 2) dL_valveIn_19 (by decide) ?_
  exact wa_ireturn dL_valveIn_20 ⟨by omega, by omega, ⟨_, rfl, rfl⟩, rfl, rfl, rfl⟩
theorem wl_warmIn_0 {n dp mc ms : Nat} {S : SS} {Q0 : ab_R → Nat → ab_H → Prop} {P : Int32 → Nat → SS → Prop} {a : Int32} (hn : 279 ≤ n) (hA : AM yX6_warmIn cX6_warmIn 4 (some .int) [] dp mc ms [.ref 0, .int a] n (Hp S) Q0) (hq : ∀ r n' h', Q0 r n' h' → ∃ (v : Int32) (S' : SS), r = .inl (some (.int v)) ∧ h' = Hp S' ∧ P v n' S') : AM yL_warmIn cL_warmIn 4 (some .int) [(0, 9, 12, 29)] (dp + 1) mc ms [.ref 0, .int a, .ref 277] n (Hp S) (fun r n' h' => r = .inl (some (.int 0)) ∧ ∃ (v : Int32) (S' : SS), h' = Hp (so S' v.toInt64) ∧ n ≤ n' ∧ P v n' S') := by
  intro has
  change WA RL cL_warmIn 4 [(0, 9, 12, 29)] _ _ 0 0 0 [some (.ref 0), some (.int a), some (.ref 277), none] [] n _
  refine wa_aload_n dL_warmIn_0 rfl ?_
  refine wa_iconst (x := 0) dL_warmIn_1 (by decide) ?_
  refine wa_aload_n dL_warmIn_2 rfl ?_
  refine wa_iload_n dL_warmIn_3 rfl ?_
  refine wa_callV (As := [.int a]) dL_warmIn_4 lk_L_60 hA rfl (isO_VR _ _ _) rfl (Or.inl (ltS hn)) (by exact Nat.le_of_ble_eq_true rfl) (fitW (by decide)) (by exact Nat.le_of_ble_eq_true rfl) (fun ro n' h' q hn' => ?_) (fun E n' h' q _ => by obtain ⟨v, S', e, -⟩ := hq _ _ _ q; cases e)
  obtain ⟨v, S', e, rfl, hP⟩ := hq _ _ _ q
  cases e
  refine wa_i2l dL_warmIn_7 ?_
  refine s_last (by omega) dL_warmIn_8 ?_
  refine wa_goto 15 dL_warmIn_9 rfl ?_
  refine wa_iconst (x := 0) dL_warmIn_15 (by decide) ?_
  exact wa_ireturn dL_warmIn_16 ⟨by omega, by omega, ⟨_, rfl, rfl⟩, rfl, v, S', rfl, hn', hP⟩
theorem wl_warmIn_1 {n dp mc ms : Nat} {S : SS} {a : Int32} (hn : 279 ≤ n) (hA : AM yX6_warmIn cX6_warmIn 4 (some .int) [] dp mc ms [.ref 0, .int a] n (Hp S) (PX ab_xI n S)) : AM yL_warmIn cL_warmIn 4 (some .int) [(0, 9, 12, 29)] (dp + 1) mc ms [.ref 0, .int a, .ref 277] n (Hp S) (PI 1 n S) := by
  intro has
  change WA RL cL_warmIn 4 [(0, 9, 12, 29)] _ _ 0 0 0 [some (.ref 0), some (.int a), some (.ref 277), none] [] n _
  refine wa_aload_n dL_warmIn_0 rfl ?_
  refine wa_iconst (x := 0) dL_warmIn_1 (by decide) ?_
  refine wa_aload_n dL_warmIn_2 rfl ?_
  refine wa_iload_n dL_warmIn_3 rfl ?_
  refine wa_callV (As := [.int a]) dL_warmIn_4 lk_L_60 hA rfl (isO_VR _ _ _) rfl (Or.inl (ltS hn)) (by exact Nat.le_of_ble_eq_true rfl) (fitW (by decide)) (by exact Nat.le_of_ble_eq_true rfl) (fun ro n' h' q _ => by cases q.1) (fun E n' h' q _ => ?_)
  obtain ⟨e, rfl, rfl⟩ := q
  cases e
  refine wt_catch_n [] (0, 9, 12, 29) [] rfl (fun y hy => absurd hy List.not_mem_nil) (by decide) (by decide) wk_L_29 (List.mem_of_getElem? (i := 0) rfl) dL_warmIn_12 rfl (by exact Nat.le_of_ble_eq_true rfl) ?_
  refine wa_iconst (x := 1) dL_warmIn_13 (by decide) ?_
  exact wa_ireturn dL_warmIn_14 ⟨by omega, by omega, ⟨_, rfl, rfl⟩, rfl, rfl, rfl⟩
theorem wl_emptyIn_0 {n dp mc ms : Nat} {S : SS} {Q0 : ab_R → Nat → ab_H → Prop} {P : Int32 → Nat → SS → Prop} {a : Int32} (hn : 279 ≤ n) (hA : AM yX6_emptyIn cX6_emptyIn 4 (some .int) [] dp mc ms [.ref 0, .int a] n (Hp S) Q0) (hq : ∀ r n' h', Q0 r n' h' → ∃ (v : Int32) (S' : SS), r = .inl (some (.int v)) ∧ h' = Hp S' ∧ P v n' S') : AM yL_emptyIn cL_emptyIn 4 (some .int) [(0, 9, 12, 29)] (dp + 1) mc ms [.ref 0, .int a, .ref 277] n (Hp S) (fun r n' h' => r = .inl (some (.int 0)) ∧ ∃ (v : Int32) (S' : SS), h' = Hp (so S' v.toInt64) ∧ n ≤ n' ∧ P v n' S') := by
  intro has
  change WA RL cL_emptyIn 4 [(0, 9, 12, 29)] _ _ 0 0 0 [some (.ref 0), some (.int a), some (.ref 277), none] [] n _
  refine wa_aload_n dL_emptyIn_0 rfl ?_
  refine wa_iconst (x := 0) dL_emptyIn_1 (by decide) ?_
  refine wa_aload_n dL_emptyIn_2 rfl ?_
  refine wa_iload_n dL_emptyIn_3 rfl ?_
  refine wa_callV (As := [.int a]) dL_emptyIn_4 lk_L_63 hA rfl (isO_VR _ _ _) rfl (Or.inl (ltS hn)) (by exact Nat.le_of_ble_eq_true rfl) (fitW (by decide)) (by exact Nat.le_of_ble_eq_true rfl) (fun ro n' h' q hn' => ?_) (fun E n' h' q _ => by obtain ⟨v, S', e, -⟩ := hq _ _ _ q; cases e)
  obtain ⟨v, S', e, rfl, hP⟩ := hq _ _ _ q
  cases e
  refine wa_i2l dL_emptyIn_7 ?_
  refine s_last (by omega) dL_emptyIn_8 ?_
  refine wa_goto 15 dL_emptyIn_9 rfl ?_
  refine wa_iconst (x := 0) dL_emptyIn_15 (by decide) ?_
  exact wa_ireturn dL_emptyIn_16 ⟨by omega, by omega, ⟨_, rfl, rfl⟩, rfl, v, S', rfl, hn', hP⟩
theorem wl_emptyIn_1 {n dp mc ms : Nat} {S : SS} {a : Int32} (hn : 279 ≤ n) (hA : AM yX6_emptyIn cX6_emptyIn 4 (some .int) [] dp mc ms [.ref 0, .int a] n (Hp S) (PX ab_xI n S)) : AM yL_emptyIn cL_emptyIn 4 (some .int) [(0, 9, 12, 29)] (dp + 1) mc ms [.ref 0, .int a, .ref 277] n (Hp S) (PI 1 n S) := by
  intro has
  change WA RL cL_emptyIn 4 [(0, 9, 12, 29)] _ _ 0 0 0 [some (.ref 0), some (.int a), some (.ref 277), none] [] n _
  refine wa_aload_n dL_emptyIn_0 rfl ?_
  refine wa_iconst (x := 0) dL_emptyIn_1 (by decide) ?_
  refine wa_aload_n dL_emptyIn_2 rfl ?_
  refine wa_iload_n dL_emptyIn_3 rfl ?_
  refine wa_callV (As := [.int a]) dL_emptyIn_4 lk_L_63 hA rfl (isO_VR _ _ _) rfl (Or.inl (ltS hn)) (by exact Nat.le_of_ble_eq_true rfl) (fitW (by decide)) (by exact Nat.le_of_ble_eq_true rfl) (fun ro n' h' q _ => by cases q.1) (fun E n' h' q _ => ?_)
  obtain ⟨e, rfl, rfl⟩ := q
  cases e
  refine wt_catch_n [] (0, 9, 12, 29) [] rfl (fun y hy => absurd hy List.not_mem_nil) (by decide) (by decide) wk_L_29 (List.mem_of_getElem? (i := 0) rfl) dL_emptyIn_12 rfl (by exact Nat.le_of_ble_eq_true rfl) ?_
  refine wa_iconst (x := 1) dL_emptyIn_13 (by decide) ?_
  exact wa_ireturn dL_emptyIn_14 ⟨by omega, by omega, ⟨_, rfl, rfl⟩, rfl, rfl, rfl⟩
theorem wl_exerciseIn_0 {n dp mc ms : Nat} {S : SS} {Q0 : ab_R → Nat → ab_H → Prop} {P : Int32 → Nat → SS → Prop} {a : Int32} (hn : 279 ≤ n) (hA : AM yX6_exerciseIn cX6_exerciseIn 2 (some .int) [] dp mc ms [.ref 0, .int a] n (Hp S) Q0) (hq : ∀ r n' h', Q0 r n' h' → ∃ (v : Int32) (S' : SS), r = .inl (some (.int v)) ∧ h' = Hp S' ∧ P v n' S') : AM yL_exerciseIn cL_exerciseIn 4 (some .int) [(0, 9, 12, 29)] (dp + 1) mc ms [.ref 0, .int a, .ref 277] n (Hp S) (fun r n' h' => r = .inl (some (.int 0)) ∧ ∃ (v : Int32) (S' : SS), h' = Hp (so S' v.toInt64) ∧ n ≤ n' ∧ P v n' S') := by
  intro has
  change WA RL cL_exerciseIn 4 [(0, 9, 12, 29)] _ _ 0 0 0 [some (.ref 0), some (.int a), some (.ref 277), none] [] n _
  refine wa_aload_n dL_exerciseIn_0 rfl ?_
  refine wa_iconst (x := 0) dL_exerciseIn_1 (by decide) ?_
  refine wa_aload_n dL_exerciseIn_2 rfl ?_
  refine wa_iload_n dL_exerciseIn_3 rfl ?_
  refine wa_callV (As := [.int a]) dL_exerciseIn_4 lk_L_66 hA rfl (isO_VR _ _ _) rfl (Or.inl (ltS hn)) (by exact Nat.le_of_ble_eq_true rfl) (fitW (by decide)) (by exact Nat.le_of_ble_eq_true rfl) (fun ro n' h' q hn' => ?_) (fun E n' h' q _ => by obtain ⟨v, S', e, -⟩ := hq _ _ _ q; cases e)
  obtain ⟨v, S', e, rfl, hP⟩ := hq _ _ _ q
  cases e
  refine wa_i2l dL_exerciseIn_7 ?_
  refine s_last (by omega) dL_exerciseIn_8 ?_
  refine wa_goto 15 dL_exerciseIn_9 rfl ?_
  refine wa_iconst (x := 0) dL_exerciseIn_15 (by decide) ?_
  exact wa_ireturn dL_exerciseIn_16 ⟨by omega, by omega, ⟨_, rfl, rfl⟩, rfl, v, S', rfl, hn', hP⟩
theorem wl_exerciseIn_1 {n dp mc ms : Nat} {S : SS} {a : Int32} (hn : 279 ≤ n) (hA : AM yX6_exerciseIn cX6_exerciseIn 2 (some .int) [] dp mc ms [.ref 0, .int a] n (Hp S) (PX ab_xI n S)) : AM yL_exerciseIn cL_exerciseIn 4 (some .int) [(0, 9, 12, 29)] (dp + 1) mc ms [.ref 0, .int a, .ref 277] n (Hp S) (PI 1 n S) := by
  intro has
  change WA RL cL_exerciseIn 4 [(0, 9, 12, 29)] _ _ 0 0 0 [some (.ref 0), some (.int a), some (.ref 277), none] [] n _
  refine wa_aload_n dL_exerciseIn_0 rfl ?_
  refine wa_iconst (x := 0) dL_exerciseIn_1 (by decide) ?_
  refine wa_aload_n dL_exerciseIn_2 rfl ?_
  refine wa_iload_n dL_exerciseIn_3 rfl ?_
  refine wa_callV (As := [.int a]) dL_exerciseIn_4 lk_L_66 hA rfl (isO_VR _ _ _) rfl (Or.inl (ltS hn)) (by exact Nat.le_of_ble_eq_true rfl) (fitW (by decide)) (by exact Nat.le_of_ble_eq_true rfl) (fun ro n' h' q _ => by cases q.1) (fun E n' h' q _ => ?_)
  obtain ⟨e, rfl, rfl⟩ := q
  cases e
  refine wt_catch_n [] (0, 9, 12, 29) [] rfl (fun y hy => absurd hy List.not_mem_nil) (by decide) (by decide) wk_L_29 (List.mem_of_getElem? (i := 0) rfl) dL_exerciseIn_12 rfl (by exact Nat.le_of_ble_eq_true rfl) ?_
  refine wa_iconst (x := 1) dL_exerciseIn_13 (by decide) ?_
  exact wa_ireturn dL_exerciseIn_14 ⟨by omega, by omega, ⟨_, rfl, rfl⟩, rfl, rfl, rfl⟩
theorem wl_lack_0 {n dp mc ms : Nat} {S : SS} {Q0 : ab_R → Nat → ab_H → Prop} {P : Int32 → Nat → SS → Prop} {a b : Int32} (hn : 279 ≤ n) (hA : AM yX6_lack cX6_lack 3 (some .int) [] dp mc ms [.ref 0, .int a, .int b] n (Hp S) Q0) (hq : ∀ r n' h', Q0 r n' h' → ∃ (v : Int32) (S' : SS), r = .inl (some (.int v)) ∧ h' = Hp S' ∧ P v n' S') : AM yL_lack cL_lack 5 (some .int) [(0, 10, 13, 29), (0, 10, 17, 19)] (dp + 1) mc ms [.ref 0, .int a, .int b, .ref 277] n (Hp S) (fun r n' h' => r = .inl (some (.int 0)) ∧ ∃ (v : Int32) (S' : SS), h' = Hp (so S' v.toInt64) ∧ n ≤ n' ∧ P v n' S') := by
  intro has
  change WA RL cL_lack 5 [(0, 10, 13, 29), (0, 10, 17, 19)] _ _ 0 0 0 [some (.ref 0), some (.int a), some (.int b), some (.ref 277), none] [] n _
  refine wa_aload_n dL_lack_0 rfl ?_
  refine wa_iconst (x := 0) dL_lack_1 (by decide) ?_
  refine wa_aload_n dL_lack_2 rfl ?_
  refine wa_iload_n dL_lack_3 rfl ?_
  refine wa_iload_n dL_lack_4 rfl ?_
  refine wa_callV (As := [.int a, .int b]) dL_lack_5 lk_L_69 hA rfl (isO_VR _ _ _) rfl (Or.inl (ltS hn)) (by exact Nat.le_of_ble_eq_true rfl) (fitW (by decide)) (by exact Nat.le_of_ble_eq_true rfl) (fun ro n' h' q hn' => ?_) (fun E n' h' q _ => by obtain ⟨v, S', e, -⟩ := hq _ _ _ q; cases e)
  obtain ⟨v, S', e, rfl, hP⟩ := hq _ _ _ q
  cases e
  refine wa_i2l dL_lack_8 ?_
  refine s_last (by omega) dL_lack_9 ?_
  refine wa_goto 21 dL_lack_10 rfl ?_
  refine wa_iconst (x := 0) dL_lack_21 (by decide) ?_
  exact wa_ireturn dL_lack_22 ⟨by omega, by omega, ⟨_, rfl, rfl⟩, rfl, v, S', rfl, hn', hP⟩
theorem wl_lack_1 {n dp mc ms : Nat} {S : SS} {a b : Int32} (hn : 279 ≤ n) (hA : AM yX6_lack cX6_lack 3 (some .int) [] dp mc ms [.ref 0, .int a, .int b] n (Hp S) (PX ab_xI n S)) : AM yL_lack cL_lack 5 (some .int) [(0, 10, 13, 29), (0, 10, 17, 19)] (dp + 1) mc ms [.ref 0, .int a, .int b, .ref 277] n (Hp S) (PI 1 n S) := by
  intro has
  change WA RL cL_lack 5 [(0, 10, 13, 29), (0, 10, 17, 19)] _ _ 0 0 0 [some (.ref 0), some (.int a), some (.int b), some (.ref 277), none] [] n _
  refine wa_aload_n dL_lack_0 rfl ?_
  refine wa_iconst (x := 0) dL_lack_1 (by decide) ?_
  refine wa_aload_n dL_lack_2 rfl ?_
  refine wa_iload_n dL_lack_3 rfl ?_
  refine wa_iload_n dL_lack_4 rfl ?_
  refine wa_callV (As := [.int a, .int b]) dL_lack_5 lk_L_69 hA rfl (isO_VR _ _ _) rfl (Or.inl (ltS hn)) (by exact Nat.le_of_ble_eq_true rfl) (fitW (by decide)) (by exact Nat.le_of_ble_eq_true rfl) (fun ro n' h' q _ => by cases q.1) (fun E n' h' q _ => ?_)
  obtain ⟨e, rfl, rfl⟩ := q
  cases e
  refine wt_catch [] (0, 10, 13, 29) [(0, 10, 17, 19)] rfl (fun y hy => absurd hy List.not_mem_nil) (by decide) (by decide) wk_L_29 (List.mem_of_getElem? (i := 0) rfl) dL_lack_13 rfl (by exact Nat.le_of_ble_eq_true rfl) ?_
  refine wa_iconst (x := 1) dL_lack_15 (by decide) ?_
  exact wa_ireturn dL_lack_16 ⟨by omega, by omega, ⟨_, rfl, rfl⟩, rfl, rfl, rfl⟩
theorem wl_lack_2 {n dp mc ms : Nat} {S : SS} {a b : Int32} (hn : 279 ≤ n) (hA : AM yX6_lack cX6_lack 3 (some .int) [] dp mc ms [.ref 0, .int a, .int b] n (Hp S) (PX ab_xA n S)) : AM yL_lack cL_lack 5 (some .int) [(0, 10, 13, 29), (0, 10, 17, 19)] (dp + 1) mc ms [.ref 0, .int a, .int b, .ref 277] n (Hp S) (PI 2 n S) := by
  intro has
  change WA RL cL_lack 5 [(0, 10, 13, 29), (0, 10, 17, 19)] _ _ 0 0 0 [some (.ref 0), some (.int a), some (.int b), some (.ref 277), none] [] n _
  refine wa_aload_n dL_lack_0 rfl ?_
  refine wa_iconst (x := 0) dL_lack_1 (by decide) ?_
  refine wa_aload_n dL_lack_2 rfl ?_
  refine wa_iload_n dL_lack_3 rfl ?_
  refine wa_iload_n dL_lack_4 rfl ?_
  refine wa_callV (As := [.int a, .int b]) dL_lack_5 lk_L_69 hA rfl (isO_VR _ _ _) rfl (Or.inl (ltS hn)) (by exact Nat.le_of_ble_eq_true rfl) (fitW (by decide)) (by exact Nat.le_of_ble_eq_true rfl) (fun ro n' h' q _ => by cases q.1) (fun E n' h' q _ => ?_)
  obtain ⟨e, rfl, rfl⟩ := q
  cases e
  refine wt_catch [(0, 10, 13, 29)] (0, 10, 17, 19) [] rfl (fun y hy => by
    simp only [List.mem_cons, List.not_mem_nil, or_false] at hy
    subst hy
    exact Or.inr ⟨by decide, ab_xI, wk_L_29, List.mem_of_getElem? (i := 0) rfl⟩) (by decide) (by decide) wk_L_19 (List.mem_of_getElem? (i := 1) rfl) dL_lack_17 rfl (by exact Nat.le_of_ble_eq_true rfl) ?_
  refine wa_iconst (x := 2) dL_lack_19 (by decide) ?_
  exact wa_ireturn dL_lack_20 ⟨by omega, by omega, ⟨_, rfl, rfl⟩, rfl, rfl, rfl⟩
theorem wl_heatIn_0 {n dp mc ms : Nat} {S : SS} {Q0 : ab_R → Nat → ab_H → Prop} {P : Int32 → Nat → SS → Prop} {a : Int32} (hn : 279 ≤ n) (hA : AM yX6_heatIn cX6_heatIn 4 (some .int) [] dp mc ms [.ref 0, .int a] n (Hp S) Q0) (hq : ∀ r n' h', Q0 r n' h' → ∃ (v : Int32) (S' : SS), r = .inl (some (.int v)) ∧ h' = Hp S' ∧ P v n' S') : AM yL_heatIn cL_heatIn 4 (some .int) [(0, 9, 12, 19)] (dp + 1) mc ms [.ref 0, .int a, .ref 277] n (Hp S) (fun r n' h' => r = .inl (some (.int 0)) ∧ ∃ (v : Int32) (S' : SS), h' = Hp (so S' v.toInt64) ∧ n ≤ n' ∧ P v n' S') := by
  intro has
  change WA RL cL_heatIn 4 [(0, 9, 12, 19)] _ _ 0 0 0 [some (.ref 0), some (.int a), some (.ref 277), none] [] n _
  refine wa_aload_n dL_heatIn_0 rfl ?_
  refine wa_iconst (x := 0) dL_heatIn_1 (by decide) ?_
  refine wa_aload_n dL_heatIn_2 rfl ?_
  refine wa_iload_n dL_heatIn_3 rfl ?_
  refine wa_callV (As := [.int a]) dL_heatIn_4 lk_L_72 hA rfl (isO_VR _ _ _) rfl (Or.inl (ltS hn)) (by exact Nat.le_of_ble_eq_true rfl) (fitW (by decide)) (by exact Nat.le_of_ble_eq_true rfl) (fun ro n' h' q hn' => ?_) (fun E n' h' q _ => by obtain ⟨v, S', e, -⟩ := hq _ _ _ q; cases e)
  obtain ⟨v, S', e, rfl, hP⟩ := hq _ _ _ q
  cases e
  refine wa_i2l dL_heatIn_7 ?_
  refine s_last (by omega) dL_heatIn_8 ?_
  refine wa_goto 15 dL_heatIn_9 rfl ?_
  refine wa_iconst (x := 0) dL_heatIn_15 (by decide) ?_
  exact wa_ireturn dL_heatIn_16 ⟨by omega, by omega, ⟨_, rfl, rfl⟩, rfl, v, S', rfl, hn', hP⟩
theorem wl_heatIn_1 {n dp mc ms : Nat} {S : SS} {a : Int32} (hn : 279 ≤ n) (hA : AM yX6_heatIn cX6_heatIn 4 (some .int) [] dp mc ms [.ref 0, .int a] n (Hp S) (PX ab_xA n S)) : AM yL_heatIn cL_heatIn 4 (some .int) [(0, 9, 12, 19)] (dp + 1) mc ms [.ref 0, .int a, .ref 277] n (Hp S) (PI 1 n S) := by
  intro has
  change WA RL cL_heatIn 4 [(0, 9, 12, 19)] _ _ 0 0 0 [some (.ref 0), some (.int a), some (.ref 277), none] [] n _
  refine wa_aload_n dL_heatIn_0 rfl ?_
  refine wa_iconst (x := 0) dL_heatIn_1 (by decide) ?_
  refine wa_aload_n dL_heatIn_2 rfl ?_
  refine wa_iload_n dL_heatIn_3 rfl ?_
  refine wa_callV (As := [.int a]) dL_heatIn_4 lk_L_72 hA rfl (isO_VR _ _ _) rfl (Or.inl (ltS hn)) (by exact Nat.le_of_ble_eq_true rfl) (fitW (by decide)) (by exact Nat.le_of_ble_eq_true rfl) (fun ro n' h' q _ => by cases q.1) (fun E n' h' q _ => ?_)
  obtain ⟨e, rfl, rfl⟩ := q
  cases e
  refine wt_catch_n [] (0, 9, 12, 19) [] rfl (fun y hy => absurd hy List.not_mem_nil) (by decide) (by decide) wk_L_19 (List.mem_of_getElem? (i := 1) rfl) dL_heatIn_12 rfl (by exact Nat.le_of_ble_eq_true rfl) ?_
  refine wa_iconst (x := 1) dL_heatIn_13 (by decide) ?_
  exact wa_ireturn dL_heatIn_14 ⟨by omega, by omega, ⟨_, rfl, rfl⟩, rfl, rfl, rfl⟩
theorem wl_bestGain_0 {n dp mc ms : Nat} {S : SS} {Q0 : ab_R → Nat → ab_H → Prop} {P : Int32 → Nat → SS → Prop} {a : Int32} (hn : 279 ≤ n) (hA : AM yX6_bestGain cX6_bestGain 6 (some .int) [] dp mc ms [.ref 0, .int a] n (Hp S) Q0) (hq : ∀ r n' h', Q0 r n' h' → ∃ (v : Int32) (S' : SS), r = .inl (some (.int v)) ∧ h' = Hp S' ∧ P v n' S') : AM yL_bestGain cL_bestGain 4 (some .int) [(0, 9, 12, 29)] (dp + 1) mc ms [.ref 0, .int a, .ref 277] n (Hp S) (fun r n' h' => r = .inl (some (.int 0)) ∧ ∃ (v : Int32) (S' : SS), h' = Hp (so S' v.toInt64) ∧ n ≤ n' ∧ P v n' S') := by
  intro has
  change WA RL cL_bestGain 4 [(0, 9, 12, 29)] _ _ 0 0 0 [some (.ref 0), some (.int a), some (.ref 277), none] [] n _
  refine wa_aload_n dL_bestGain_0 rfl ?_
  refine wa_iconst (x := 0) dL_bestGain_1 (by decide) ?_
  refine wa_aload_n dL_bestGain_2 rfl ?_
  refine wa_iload_n dL_bestGain_3 rfl ?_
  refine wa_callV (As := [.int a]) dL_bestGain_4 lk_L_75 hA rfl (isO_VR _ _ _) rfl (Or.inl (ltS hn)) (by exact Nat.le_of_ble_eq_true rfl) (fitW (by decide)) (by exact Nat.le_of_ble_eq_true rfl) (fun ro n' h' q hn' => ?_) (fun E n' h' q _ => by obtain ⟨v, S', e, -⟩ := hq _ _ _ q; cases e)
  obtain ⟨v, S', e, rfl, hP⟩ := hq _ _ _ q
  cases e
  refine wa_i2l dL_bestGain_7 ?_
  refine s_last (by omega) dL_bestGain_8 ?_
  refine wa_goto 15 dL_bestGain_9 rfl ?_
  refine wa_iconst (x := 0) dL_bestGain_15 (by decide) ?_
  exact wa_ireturn dL_bestGain_16 ⟨by omega, by omega, ⟨_, rfl, rfl⟩, rfl, v, S', rfl, hn', hP⟩
theorem wl_bestGain_1 {n dp mc ms : Nat} {S : SS} {a : Int32} (hn : 279 ≤ n) (hA : AM yX6_bestGain cX6_bestGain 6 (some .int) [] dp mc ms [.ref 0, .int a] n (Hp S) (PX ab_xI n S)) : AM yL_bestGain cL_bestGain 4 (some .int) [(0, 9, 12, 29)] (dp + 1) mc ms [.ref 0, .int a, .ref 277] n (Hp S) (PI 1 n S) := by
  intro has
  change WA RL cL_bestGain 4 [(0, 9, 12, 29)] _ _ 0 0 0 [some (.ref 0), some (.int a), some (.ref 277), none] [] n _
  refine wa_aload_n dL_bestGain_0 rfl ?_
  refine wa_iconst (x := 0) dL_bestGain_1 (by decide) ?_
  refine wa_aload_n dL_bestGain_2 rfl ?_
  refine wa_iload_n dL_bestGain_3 rfl ?_
  refine wa_callV (As := [.int a]) dL_bestGain_4 lk_L_75 hA rfl (isO_VR _ _ _) rfl (Or.inl (ltS hn)) (by exact Nat.le_of_ble_eq_true rfl) (fitW (by decide)) (by exact Nat.le_of_ble_eq_true rfl) (fun ro n' h' q _ => by cases q.1) (fun E n' h' q _ => ?_)
  obtain ⟨e, rfl, rfl⟩ := q
  cases e
  refine wt_catch_n [] (0, 9, 12, 29) [] rfl (fun y hy => absurd hy List.not_mem_nil) (by decide) (by decide) wk_L_29 (List.mem_of_getElem? (i := 0) rfl) dL_bestGain_12 rfl (by exact Nat.le_of_ble_eq_true rfl) ?_
  refine wa_iconst (x := 1) dL_bestGain_13 (by decide) ?_
  exact wa_ireturn dL_bestGain_14 ⟨by omega, by omega, ⟨_, rfl, rfl⟩, rfl, rfl, rfl⟩
theorem wl_tempIf_0 {n dp mc ms : Nat} {S : SS} {Q0 : ab_R → Nat → ab_H → Prop} {P : Int32 → Nat → SS → Prop} {a b c : Int32} (hn : 279 ≤ n) (hA : AM yX6_tempIf cX6_tempIf 4 (some .int) [] dp mc ms [.ref 0, .int a, .int b, .int c] n (Hp S) Q0) (hq : ∀ r n' h', Q0 r n' h' → ∃ (v : Int32) (S' : SS), r = .inl (some (.int v)) ∧ h' = Hp S' ∧ P v n' S') : AM yL_tempIf cL_tempIf 6 (some .int) [(0, 12, 15, 29), (0, 12, 19, 19)] (dp + 1) mc ms [.ref 0, .int a, .int b, .int c, .ref 277] n (Hp S) (fun r n' h' => r = .inl (some (.int 0)) ∧ ∃ (v : Int32) (S' : SS), h' = Hp (so S' v.toInt64) ∧ n ≤ n' ∧ P v n' S') := by
  intro has
  change WA RL cL_tempIf 6 [(0, 12, 15, 29), (0, 12, 19, 19)] _ _ 0 0 0 [some (.ref 0), some (.int a), some (.int b), some (.int c), some (.ref 277), none] [] n _
  refine wa_aload dL_tempIf_0 rfl ?_
  refine wa_iconst (x := 0) dL_tempIf_2 (by decide) ?_
  refine wa_aload_n dL_tempIf_3 rfl ?_
  refine wa_iload_n dL_tempIf_4 rfl ?_
  refine wa_iload_n dL_tempIf_5 rfl ?_
  refine wa_iload_n dL_tempIf_6 rfl ?_
  refine wa_callV (As := [.int a, .int b, .int c]) dL_tempIf_7 lk_L_78 hA rfl (isO_VR _ _ _) rfl (Or.inl (ltS hn)) (by exact Nat.le_of_ble_eq_true rfl) (fitW (by decide)) (by exact Nat.le_of_ble_eq_true rfl) (fun ro n' h' q hn' => ?_) (fun E n' h' q _ => by obtain ⟨v, S', e, -⟩ := hq _ _ _ q; cases e)
  obtain ⟨v, S', e, rfl, hP⟩ := hq _ _ _ q
  cases e
  refine wa_i2l dL_tempIf_10 ?_
  refine s_last (by omega) dL_tempIf_11 ?_
  refine wa_goto 23 dL_tempIf_12 rfl ?_
  refine wa_iconst (x := 0) dL_tempIf_23 (by decide) ?_
  exact wa_ireturn dL_tempIf_24 ⟨by omega, by omega, ⟨_, rfl, rfl⟩, rfl, v, S', rfl, hn', hP⟩
theorem wl_tempIf_1 {n dp mc ms : Nat} {S : SS} {a b c : Int32} (hn : 279 ≤ n) (hA : AM yX6_tempIf cX6_tempIf 4 (some .int) [] dp mc ms [.ref 0, .int a, .int b, .int c] n (Hp S) (PX ab_xI n S)) : AM yL_tempIf cL_tempIf 6 (some .int) [(0, 12, 15, 29), (0, 12, 19, 19)] (dp + 1) mc ms [.ref 0, .int a, .int b, .int c, .ref 277] n (Hp S) (PI 1 n S) := by
  intro has
  change WA RL cL_tempIf 6 [(0, 12, 15, 29), (0, 12, 19, 19)] _ _ 0 0 0 [some (.ref 0), some (.int a), some (.int b), some (.int c), some (.ref 277), none] [] n _
  refine wa_aload dL_tempIf_0 rfl ?_
  refine wa_iconst (x := 0) dL_tempIf_2 (by decide) ?_
  refine wa_aload_n dL_tempIf_3 rfl ?_
  refine wa_iload_n dL_tempIf_4 rfl ?_
  refine wa_iload_n dL_tempIf_5 rfl ?_
  refine wa_iload_n dL_tempIf_6 rfl ?_
  refine wa_callV (As := [.int a, .int b, .int c]) dL_tempIf_7 lk_L_78 hA rfl (isO_VR _ _ _) rfl (Or.inl (ltS hn)) (by exact Nat.le_of_ble_eq_true rfl) (fitW (by decide)) (by exact Nat.le_of_ble_eq_true rfl) (fun ro n' h' q _ => by cases q.1) (fun E n' h' q _ => ?_)
  obtain ⟨e, rfl, rfl⟩ := q
  cases e
  refine wt_catch [] (0, 12, 15, 29) [(0, 12, 19, 19)] rfl (fun y hy => absurd hy List.not_mem_nil) (by decide) (by decide) wk_L_29 (List.mem_of_getElem? (i := 0) rfl) dL_tempIf_15 rfl (by exact Nat.le_of_ble_eq_true rfl) ?_
  refine wa_iconst (x := 1) dL_tempIf_17 (by decide) ?_
  exact wa_ireturn dL_tempIf_18 ⟨by omega, by omega, ⟨_, rfl, rfl⟩, rfl, rfl, rfl⟩
theorem wl_tempIf_2 {n dp mc ms : Nat} {S : SS} {a b c : Int32} (hn : 279 ≤ n) (hA : AM yX6_tempIf cX6_tempIf 4 (some .int) [] dp mc ms [.ref 0, .int a, .int b, .int c] n (Hp S) (PX ab_xA n S)) : AM yL_tempIf cL_tempIf 6 (some .int) [(0, 12, 15, 29), (0, 12, 19, 19)] (dp + 1) mc ms [.ref 0, .int a, .int b, .int c, .ref 277] n (Hp S) (PI 2 n S) := by
  intro has
  change WA RL cL_tempIf 6 [(0, 12, 15, 29), (0, 12, 19, 19)] _ _ 0 0 0 [some (.ref 0), some (.int a), some (.int b), some (.int c), some (.ref 277), none] [] n _
  refine wa_aload dL_tempIf_0 rfl ?_
  refine wa_iconst (x := 0) dL_tempIf_2 (by decide) ?_
  refine wa_aload_n dL_tempIf_3 rfl ?_
  refine wa_iload_n dL_tempIf_4 rfl ?_
  refine wa_iload_n dL_tempIf_5 rfl ?_
  refine wa_iload_n dL_tempIf_6 rfl ?_
  refine wa_callV (As := [.int a, .int b, .int c]) dL_tempIf_7 lk_L_78 hA rfl (isO_VR _ _ _) rfl (Or.inl (ltS hn)) (by exact Nat.le_of_ble_eq_true rfl) (fitW (by decide)) (by exact Nat.le_of_ble_eq_true rfl) (fun ro n' h' q _ => by cases q.1) (fun E n' h' q _ => ?_)
  obtain ⟨e, rfl, rfl⟩ := q
  cases e
  refine wt_catch [(0, 12, 15, 29)] (0, 12, 19, 19) [] rfl (fun y hy => by
    simp only [List.mem_cons, List.not_mem_nil, or_false] at hy
    subst hy
    exact Or.inr ⟨by decide, ab_xI, wk_L_29, List.mem_of_getElem? (i := 0) rfl⟩) (by decide) (by decide) wk_L_19 (List.mem_of_getElem? (i := 1) rfl) dL_tempIf_19 rfl (by exact Nat.le_of_ble_eq_true rfl) ?_
  refine wa_iconst (x := 2) dL_tempIf_21 (by decide) ?_
  exact wa_ireturn dL_tempIf_22 ⟨by omega, by omega, ⟨_, rfl, rfl⟩, rfl, rfl, rfl⟩
theorem wl_coldBy_0 {n dp mc ms : Nat} {S : SS} {Q0 : ab_R → Nat → ab_H → Prop} {P : Int32 → Nat → SS → Prop} {a b : Int32} (hn : 279 ≤ n) (hA : AM yX6_coldBy cX6_coldBy 5 (some .int) [] dp mc ms [.ref 0, .int a, .int b] n (Hp S) Q0) (hq : ∀ r n' h', Q0 r n' h' → ∃ (v : Int32) (S' : SS), r = .inl (some (.int v)) ∧ h' = Hp S' ∧ P v n' S') : AM yL_coldBy cL_coldBy 5 (some .int) [(0, 10, 13, 29), (0, 10, 17, 19)] (dp + 1) mc ms [.ref 0, .int a, .int b, .ref 277] n (Hp S) (fun r n' h' => r = .inl (some (.int 0)) ∧ ∃ (v : Int32) (S' : SS), h' = Hp (so S' v.toInt64) ∧ n ≤ n' ∧ P v n' S') := by
  intro has
  change WA RL cL_coldBy 5 [(0, 10, 13, 29), (0, 10, 17, 19)] _ _ 0 0 0 [some (.ref 0), some (.int a), some (.int b), some (.ref 277), none] [] n _
  refine wa_aload_n dL_coldBy_0 rfl ?_
  refine wa_iconst (x := 0) dL_coldBy_1 (by decide) ?_
  refine wa_aload_n dL_coldBy_2 rfl ?_
  refine wa_iload_n dL_coldBy_3 rfl ?_
  refine wa_iload_n dL_coldBy_4 rfl ?_
  refine wa_callV (As := [.int a, .int b]) dL_coldBy_5 lk_L_82 hA rfl (isO_VR _ _ _) rfl (Or.inl (ltS hn)) (by exact Nat.le_of_ble_eq_true rfl) (fitW (by decide)) (by exact Nat.le_of_ble_eq_true rfl) (fun ro n' h' q hn' => ?_) (fun E n' h' q _ => by obtain ⟨v, S', e, -⟩ := hq _ _ _ q; cases e)
  obtain ⟨v, S', e, rfl, hP⟩ := hq _ _ _ q
  cases e
  refine wa_i2l dL_coldBy_8 ?_
  refine s_last (by omega) dL_coldBy_9 ?_
  refine wa_goto 21 dL_coldBy_10 rfl ?_
  refine wa_iconst (x := 0) dL_coldBy_21 (by decide) ?_
  exact wa_ireturn dL_coldBy_22 ⟨by omega, by omega, ⟨_, rfl, rfl⟩, rfl, v, S', rfl, hn', hP⟩
theorem wl_coldBy_1 {n dp mc ms : Nat} {S : SS} {a b : Int32} (hn : 279 ≤ n) (hA : AM yX6_coldBy cX6_coldBy 5 (some .int) [] dp mc ms [.ref 0, .int a, .int b] n (Hp S) (PX ab_xI n S)) : AM yL_coldBy cL_coldBy 5 (some .int) [(0, 10, 13, 29), (0, 10, 17, 19)] (dp + 1) mc ms [.ref 0, .int a, .int b, .ref 277] n (Hp S) (PI 1 n S) := by
  intro has
  change WA RL cL_coldBy 5 [(0, 10, 13, 29), (0, 10, 17, 19)] _ _ 0 0 0 [some (.ref 0), some (.int a), some (.int b), some (.ref 277), none] [] n _
  refine wa_aload_n dL_coldBy_0 rfl ?_
  refine wa_iconst (x := 0) dL_coldBy_1 (by decide) ?_
  refine wa_aload_n dL_coldBy_2 rfl ?_
  refine wa_iload_n dL_coldBy_3 rfl ?_
  refine wa_iload_n dL_coldBy_4 rfl ?_
  refine wa_callV (As := [.int a, .int b]) dL_coldBy_5 lk_L_82 hA rfl (isO_VR _ _ _) rfl (Or.inl (ltS hn)) (by exact Nat.le_of_ble_eq_true rfl) (fitW (by decide)) (by exact Nat.le_of_ble_eq_true rfl) (fun ro n' h' q _ => by cases q.1) (fun E n' h' q _ => ?_)
  obtain ⟨e, rfl, rfl⟩ := q
  cases e
  refine wt_catch [] (0, 10, 13, 29) [(0, 10, 17, 19)] rfl (fun y hy => absurd hy List.not_mem_nil) (by decide) (by decide) wk_L_29 (List.mem_of_getElem? (i := 0) rfl) dL_coldBy_13 rfl (by exact Nat.le_of_ble_eq_true rfl) ?_
  refine wa_iconst (x := 1) dL_coldBy_15 (by decide) ?_
  exact wa_ireturn dL_coldBy_16 ⟨by omega, by omega, ⟨_, rfl, rfl⟩, rfl, rfl, rfl⟩
theorem wl_coldBy_2 {n dp mc ms : Nat} {S : SS} {a b : Int32} (hn : 279 ≤ n) (hA : AM yX6_coldBy cX6_coldBy 5 (some .int) [] dp mc ms [.ref 0, .int a, .int b] n (Hp S) (PX ab_xA n S)) : AM yL_coldBy cL_coldBy 5 (some .int) [(0, 10, 13, 29), (0, 10, 17, 19)] (dp + 1) mc ms [.ref 0, .int a, .int b, .ref 277] n (Hp S) (PI 2 n S) := by
  intro has
  change WA RL cL_coldBy 5 [(0, 10, 13, 29), (0, 10, 17, 19)] _ _ 0 0 0 [some (.ref 0), some (.int a), some (.int b), some (.ref 277), none] [] n _
  refine wa_aload_n dL_coldBy_0 rfl ?_
  refine wa_iconst (x := 0) dL_coldBy_1 (by decide) ?_
  refine wa_aload_n dL_coldBy_2 rfl ?_
  refine wa_iload_n dL_coldBy_3 rfl ?_
  refine wa_iload_n dL_coldBy_4 rfl ?_
  refine wa_callV (As := [.int a, .int b]) dL_coldBy_5 lk_L_82 hA rfl (isO_VR _ _ _) rfl (Or.inl (ltS hn)) (by exact Nat.le_of_ble_eq_true rfl) (fitW (by decide)) (by exact Nat.le_of_ble_eq_true rfl) (fun ro n' h' q _ => by cases q.1) (fun E n' h' q _ => ?_)
  obtain ⟨e, rfl, rfl⟩ := q
  cases e
  refine wt_catch [(0, 10, 13, 29)] (0, 10, 17, 19) [] rfl (fun y hy => by
    simp only [List.mem_cons, List.not_mem_nil, or_false] at hy
    subst hy
    exact Or.inr ⟨by decide, ab_xI, wk_L_29, List.mem_of_getElem? (i := 0) rfl⟩) (by decide) (by decide) wk_L_19 (List.mem_of_getElem? (i := 1) rfl) dL_coldBy_17 rfl (by exact Nat.le_of_ble_eq_true rfl) ?_
  refine wa_iconst (x := 2) dL_coldBy_19 (by decide) ?_
  exact wa_ireturn dL_coldBy_20 ⟨by omega, by omega, ⟨_, rfl, rfl⟩, rfl, rfl, rfl⟩
theorem wl_sum_0 {n dp mc ms : Nat} {S : SS} {Q0 : ab_R → Nat → ab_H → Prop} {P : Int32 → Nat → SS → Prop} {a : Int32} (hn : 279 ≤ n) (hA : AM yX6_sum cX6_sum 4 (some .int) [] dp mc ms [.ref 0, .int a] n (Hp S) Q0) (hq : ∀ r n' h', Q0 r n' h' → ∃ (v : Int32) (S' : SS), r = .inl (some (.int v)) ∧ h' = Hp S' ∧ P v n' S') : AM yL_sum cL_sum 4 (some .int) [(0, 9, 12, 19)] (dp + 1) mc ms [.ref 0, .int a, .ref 277] n (Hp S) (fun r n' h' => r = .inl (some (.int 0)) ∧ ∃ (v : Int32) (S' : SS), h' = Hp (so S' v.toInt64) ∧ n ≤ n' ∧ P v n' S') := by
  intro has
  change WA RL cL_sum 4 [(0, 9, 12, 19)] _ _ 0 0 0 [some (.ref 0), some (.int a), some (.ref 277), none] [] n _
  refine wa_aload_n dL_sum_0 rfl ?_
  refine wa_iconst (x := 0) dL_sum_1 (by decide) ?_
  refine wa_aload_n dL_sum_2 rfl ?_
  refine wa_iload_n dL_sum_3 rfl ?_
  refine wa_callV (As := [.int a]) dL_sum_4 lk_L_85 hA rfl (isO_VR _ _ _) rfl (Or.inl (ltS hn)) (by exact Nat.le_of_ble_eq_true rfl) (fitW (by decide)) (by exact Nat.le_of_ble_eq_true rfl) (fun ro n' h' q hn' => ?_) (fun E n' h' q _ => by obtain ⟨v, S', e, -⟩ := hq _ _ _ q; cases e)
  obtain ⟨v, S', e, rfl, hP⟩ := hq _ _ _ q
  cases e
  refine wa_i2l dL_sum_7 ?_
  refine s_last (by omega) dL_sum_8 ?_
  refine wa_goto 15 dL_sum_9 rfl ?_
  refine wa_iconst (x := 0) dL_sum_15 (by decide) ?_
  exact wa_ireturn dL_sum_16 ⟨by omega, by omega, ⟨_, rfl, rfl⟩, rfl, v, S', rfl, hn', hP⟩
theorem wl_sum_1 {n dp mc ms : Nat} {S : SS} {a : Int32} (hn : 279 ≤ n) (hA : AM yX6_sum cX6_sum 4 (some .int) [] dp mc ms [.ref 0, .int a] n (Hp S) (PX ab_xA n S)) : AM yL_sum cL_sum 4 (some .int) [(0, 9, 12, 19)] (dp + 1) mc ms [.ref 0, .int a, .ref 277] n (Hp S) (PI 1 n S) := by
  intro has
  change WA RL cL_sum 4 [(0, 9, 12, 19)] _ _ 0 0 0 [some (.ref 0), some (.int a), some (.ref 277), none] [] n _
  refine wa_aload_n dL_sum_0 rfl ?_
  refine wa_iconst (x := 0) dL_sum_1 (by decide) ?_
  refine wa_aload_n dL_sum_2 rfl ?_
  refine wa_iload_n dL_sum_3 rfl ?_
  refine wa_callV (As := [.int a]) dL_sum_4 lk_L_85 hA rfl (isO_VR _ _ _) rfl (Or.inl (ltS hn)) (by exact Nat.le_of_ble_eq_true rfl) (fitW (by decide)) (by exact Nat.le_of_ble_eq_true rfl) (fun ro n' h' q _ => by cases q.1) (fun E n' h' q _ => ?_)
  obtain ⟨e, rfl, rfl⟩ := q
  cases e
  refine wt_catch_n [] (0, 9, 12, 19) [] rfl (fun y hy => absurd hy List.not_mem_nil) (by decide) (by decide) wk_L_19 (List.mem_of_getElem? (i := 1) rfl) dL_sum_12 rfl (by exact Nat.le_of_ble_eq_true rfl) ?_
  refine wa_iconst (x := 1) dL_sum_13 (by decide) ?_
  exact wa_ireturn dL_sum_14 ⟨by omega, by omega, ⟨_, rfl, rfl⟩, rfl, rfl, rfl⟩
theorem wl_warmth_0 {n dp mc ms : Nat} {S : SS} {Q0 : ab_R → Nat → ab_H → Prop} {P : UInt32 → Nat → SS → Prop} {a : Int32} (hn : 279 ≤ n) (hA : AM yX6_warmth cX6_warmth 3 (some .float) [] dp mc ms [.ref 0, .int a] n (Hp S) Q0) (hq : ∀ r n' h', Q0 r n' h' → ∃ (v : UInt32) (S' : SS), r = .inl (some (.float v)) ∧ h' = Hp S' ∧ P v n' S') (hne : ∀ (r : ab_R) (n' : Nat) (h' : ab_H) (v : UInt32), Q0 r n' h' → r = .inl (some (.float v)) → vf_n64 (FP.f2d v)) : AM yL_warmth cL_warmth 4 (some .int) [(0, 9, 12, 29)] (dp + 1) mc ms [.ref 0, .int a, .ref 278] n (Hp S) (fun r n' h' => r = .inl (some (.int 0)) ∧ ∃ (v : UInt32) (S' : SS), h' = Hp (sd S' (FP.f2d v)) ∧ n ≤ n' ∧ P v n' S') := by
  intro has
  change WA RL cL_warmth 4 [(0, 9, 12, 29)] _ _ 0 0 0 [some (.ref 0), some (.int a), some (.ref 278), none] [] n _
  refine wa_aload_n dL_warmth_0 rfl ?_
  refine wa_iconst (x := 0) dL_warmth_1 (by decide) ?_
  refine wa_aload_n dL_warmth_2 rfl ?_
  refine wa_iload_n dL_warmth_3 rfl ?_
  refine wa_callV (As := [.int a]) dL_warmth_4 lk_L_88 hA rfl (isO_VR _ _ _) rfl (Or.inl (ltS hn)) (by exact Nat.le_of_ble_eq_true rfl) (fitW (by decide)) (by exact Nat.le_of_ble_eq_true rfl) (fun ro n' h' q hn' => ?_) (fun E n' h' q _ => by obtain ⟨v, S', e, -⟩ := hq _ _ _ q; cases e)
  obtain ⟨v, S', e, rfl, hP⟩ := hq _ _ _ q
  cases e
  refine wa_f2d dL_warmth_7 (hne _ _ _ _ q rfl) ?_
  refine s_dast (by omega) dL_warmth_8 ?_
  refine wa_goto 15 dL_warmth_9 rfl ?_
  refine wa_iconst (x := 0) dL_warmth_15 (by decide) ?_
  exact wa_ireturn dL_warmth_16 ⟨by omega, by omega, ⟨_, rfl, rfl⟩, rfl, v, S', rfl, hn', hP⟩
theorem wl_warmth_1 {n dp mc ms : Nat} {S : SS} {a : Int32} (hn : 279 ≤ n) (hA : AM yX6_warmth cX6_warmth 3 (some .float) [] dp mc ms [.ref 0, .int a] n (Hp S) (PX ab_xI n S)) : AM yL_warmth cL_warmth 4 (some .int) [(0, 9, 12, 29)] (dp + 1) mc ms [.ref 0, .int a, .ref 278] n (Hp S) (PI 1 n S) := by
  intro has
  change WA RL cL_warmth 4 [(0, 9, 12, 29)] _ _ 0 0 0 [some (.ref 0), some (.int a), some (.ref 278), none] [] n _
  refine wa_aload_n dL_warmth_0 rfl ?_
  refine wa_iconst (x := 0) dL_warmth_1 (by decide) ?_
  refine wa_aload_n dL_warmth_2 rfl ?_
  refine wa_iload_n dL_warmth_3 rfl ?_
  refine wa_callV (As := [.int a]) dL_warmth_4 lk_L_88 hA rfl (isO_VR _ _ _) rfl (Or.inl (ltS hn)) (by exact Nat.le_of_ble_eq_true rfl) (fitW (by decide)) (by exact Nat.le_of_ble_eq_true rfl) (fun ro n' h' q _ => by cases q.1) (fun E n' h' q _ => ?_)
  obtain ⟨e, rfl, rfl⟩ := q
  cases e
  refine wt_catch_n [] (0, 9, 12, 29) [] rfl (fun y hy => absurd hy List.not_mem_nil) (by decide) (by decide) wk_L_29 (List.mem_of_getElem? (i := 0) rfl) dL_warmth_12 rfl (by exact Nat.le_of_ble_eq_true rfl) ?_
  refine wa_iconst (x := 1) dL_warmth_13 (by decide) ?_
  exact wa_ireturn dL_warmth_14 ⟨by omega, by omega, ⟨_, rfl, rfl⟩, rfl, rfl, rfl⟩
theorem wl_reckoned_0 {n dp mc ms : Nat} {S : SS} {Q0 : ab_R → Nat → ab_H → Prop} {P : Int32 → Nat → SS → Prop} {a : Int32} (hn : 279 ≤ n) (hA : AM yX6_reckoned cX6_reckoned 2 (some .int) [] dp mc ms [.ref 0, .int a] n (Hp S) Q0) (hq : ∀ r n' h', Q0 r n' h' → ∃ (v : Int32) (S' : SS), r = .inl (some (.int v)) ∧ h' = Hp S' ∧ P v n' S') : AM yL_reckoned cL_reckoned 4 (some .int) [(0, 9, 12, 29)] (dp + 1) mc ms [.ref 0, .int a, .ref 277] n (Hp S) (fun r n' h' => r = .inl (some (.int 0)) ∧ ∃ (v : Int32) (S' : SS), h' = Hp (so S' v.toInt64) ∧ n ≤ n' ∧ P v n' S') := by
  intro has
  change WA RL cL_reckoned 4 [(0, 9, 12, 29)] _ _ 0 0 0 [some (.ref 0), some (.int a), some (.ref 277), none] [] n _
  refine wa_aload_n dL_reckoned_0 rfl ?_
  refine wa_iconst (x := 0) dL_reckoned_1 (by decide) ?_
  refine wa_aload_n dL_reckoned_2 rfl ?_
  refine wa_iload_n dL_reckoned_3 rfl ?_
  refine wa_callV (As := [.int a]) dL_reckoned_4 lk_L_92 hA rfl (isO_VR _ _ _) rfl (Or.inl (ltS hn)) (by exact Nat.le_of_ble_eq_true rfl) (fitW (by decide)) (by exact Nat.le_of_ble_eq_true rfl) (fun ro n' h' q hn' => ?_) (fun E n' h' q _ => by obtain ⟨v, S', e, -⟩ := hq _ _ _ q; cases e)
  obtain ⟨v, S', e, rfl, hP⟩ := hq _ _ _ q
  cases e
  refine wa_i2l dL_reckoned_7 ?_
  refine s_last (by omega) dL_reckoned_8 ?_
  refine wa_goto 15 dL_reckoned_9 rfl ?_
  refine wa_iconst (x := 0) dL_reckoned_15 (by decide) ?_
  exact wa_ireturn dL_reckoned_16 ⟨by omega, by omega, ⟨_, rfl, rfl⟩, rfl, v, S', rfl, hn', hP⟩
theorem wl_reckoned_1 {n dp mc ms : Nat} {S : SS} {a : Int32} (hn : 279 ≤ n) (hA : AM yX6_reckoned cX6_reckoned 2 (some .int) [] dp mc ms [.ref 0, .int a] n (Hp S) (PX ab_xI n S)) : AM yL_reckoned cL_reckoned 4 (some .int) [(0, 9, 12, 29)] (dp + 1) mc ms [.ref 0, .int a, .ref 277] n (Hp S) (PI 1 n S) := by
  intro has
  change WA RL cL_reckoned 4 [(0, 9, 12, 29)] _ _ 0 0 0 [some (.ref 0), some (.int a), some (.ref 277), none] [] n _
  refine wa_aload_n dL_reckoned_0 rfl ?_
  refine wa_iconst (x := 0) dL_reckoned_1 (by decide) ?_
  refine wa_aload_n dL_reckoned_2 rfl ?_
  refine wa_iload_n dL_reckoned_3 rfl ?_
  refine wa_callV (As := [.int a]) dL_reckoned_4 lk_L_92 hA rfl (isO_VR _ _ _) rfl (Or.inl (ltS hn)) (by exact Nat.le_of_ble_eq_true rfl) (fitW (by decide)) (by exact Nat.le_of_ble_eq_true rfl) (fun ro n' h' q _ => by cases q.1) (fun E n' h' q _ => ?_)
  obtain ⟨e, rfl, rfl⟩ := q
  cases e
  refine wt_catch_n [] (0, 9, 12, 29) [] rfl (fun y hy => absurd hy List.not_mem_nil) (by decide) (by decide) wk_L_29 (List.mem_of_getElem? (i := 0) rfl) dL_reckoned_12 rfl (by exact Nat.le_of_ble_eq_true rfl) ?_
  refine wa_iconst (x := 1) dL_reckoned_13 (by decide) ?_
  exact wa_ireturn dL_reckoned_14 ⟨by omega, by omega, ⟨_, rfl, rfl⟩, rfl, rfl, rfl⟩
theorem wl_tick_0 {n dp mc ms : Nat} {S : SS} {Q0 : ab_R → Nat → ab_H → Prop} {P : Int32 → Nat → SS → Prop} {a : Int32} (hn : 279 ≤ n) (hA : AM yX6_tick cX6_tick 4 (some .int) [] dp mc ms [.ref 0, .int a] n (Hp S) Q0) (hq : ∀ r n' h', Q0 r n' h' → ∃ (v : Int32) (S' : SS), r = .inl (some (.int v)) ∧ h' = Hp S' ∧ P v n' S') : AM yL_tick cL_tick 4 (some .int) [(0, 9, 12, 19)] (dp + 1) mc ms [.ref 0, .int a, .ref 277] n (Hp S) (fun r n' h' => r = .inl (some (.int 0)) ∧ ∃ (v : Int32) (S' : SS), h' = Hp (so S' v.toInt64) ∧ n ≤ n' ∧ P v n' S') := by
  intro has
  change WA RL cL_tick 4 [(0, 9, 12, 19)] _ _ 0 0 0 [some (.ref 0), some (.int a), some (.ref 277), none] [] n _
  refine wa_aload_n dL_tick_0 rfl ?_
  refine wa_iconst (x := 0) dL_tick_1 (by decide) ?_
  refine wa_aload_n dL_tick_2 rfl ?_
  refine wa_iload_n dL_tick_3 rfl ?_
  refine wa_callV (As := [.int a]) dL_tick_4 lk_L_95 hA rfl (isO_VR _ _ _) rfl (Or.inl (ltS hn)) (by exact Nat.le_of_ble_eq_true rfl) (fitW (by decide)) (by exact Nat.le_of_ble_eq_true rfl) (fun ro n' h' q hn' => ?_) (fun E n' h' q _ => by obtain ⟨v, S', e, -⟩ := hq _ _ _ q; cases e)
  obtain ⟨v, S', e, rfl, hP⟩ := hq _ _ _ q
  cases e
  refine wa_i2l dL_tick_7 ?_
  refine s_last (by omega) dL_tick_8 ?_
  refine wa_goto 15 dL_tick_9 rfl ?_
  refine wa_iconst (x := 0) dL_tick_15 (by decide) ?_
  exact wa_ireturn dL_tick_16 ⟨by omega, by omega, ⟨_, rfl, rfl⟩, rfl, v, S', rfl, hn', hP⟩
theorem wl_tick_1 {n dp mc ms : Nat} {S : SS} {a : Int32} (hn : 279 ≤ n) (hA : AM yX6_tick cX6_tick 4 (some .int) [] dp mc ms [.ref 0, .int a] n (Hp S) (PX ab_xA n S)) : AM yL_tick cL_tick 4 (some .int) [(0, 9, 12, 19)] (dp + 1) mc ms [.ref 0, .int a, .ref 277] n (Hp S) (PI 1 n S) := by
  intro has
  change WA RL cL_tick 4 [(0, 9, 12, 19)] _ _ 0 0 0 [some (.ref 0), some (.int a), some (.ref 277), none] [] n _
  refine wa_aload_n dL_tick_0 rfl ?_
  refine wa_iconst (x := 0) dL_tick_1 (by decide) ?_
  refine wa_aload_n dL_tick_2 rfl ?_
  refine wa_iload_n dL_tick_3 rfl ?_
  refine wa_callV (As := [.int a]) dL_tick_4 lk_L_95 hA rfl (isO_VR _ _ _) rfl (Or.inl (ltS hn)) (by exact Nat.le_of_ble_eq_true rfl) (fitW (by decide)) (by exact Nat.le_of_ble_eq_true rfl) (fun ro n' h' q _ => by cases q.1) (fun E n' h' q _ => ?_)
  obtain ⟨e, rfl, rfl⟩ := q
  cases e
  refine wt_catch_n [] (0, 9, 12, 19) [] rfl (fun y hy => absurd hy List.not_mem_nil) (by decide) (by decide) wk_L_19 (List.mem_of_getElem? (i := 1) rfl) dL_tick_12 rfl (by exact Nat.le_of_ble_eq_true rfl) ?_
  refine wa_iconst (x := 1) dL_tick_13 (by decide) ?_
  exact wa_ireturn dL_tick_14 ⟨by omega, by omega, ⟨_, rfl, rfl⟩, rfl, rfl, rfl⟩
theorem wl_setProgram_0 {n dp mc ms : Nat} {S : SS} {Q0 : ab_R → Nat → ab_H → Prop} {P : Int32 → Nat → SS → Prop} {a b c : Int32} (hn : 279 ≤ n) (hA : AM yX6_setProgram cX6_setProgram 6 (some .int) [] dp mc ms [.ref 0, .int a, .int b, .int c] n (Hp S) Q0) (hq : ∀ r n' h', Q0 r n' h' → ∃ (v : Int32) (S' : SS), r = .inl (some (.int v)) ∧ h' = Hp S' ∧ P v n' S') : AM yL_setProgram cL_setProgram 6 (some .int) [(0, 12, 15, 29), (0, 12, 19, 19)] (dp + 1) mc ms [.ref 0, .int a, .int b, .int c, .ref 277] n (Hp S) (fun r n' h' => r = .inl (some (.int 0)) ∧ ∃ (v : Int32) (S' : SS), h' = Hp (so S' v.toInt64) ∧ n ≤ n' ∧ P v n' S') := by
  intro has
  change WA RL cL_setProgram 6 [(0, 12, 15, 29), (0, 12, 19, 19)] _ _ 0 0 0 [some (.ref 0), some (.int a), some (.int b), some (.int c), some (.ref 277), none] [] n _
  refine wa_aload dL_setProgram_0 rfl ?_
  refine wa_iconst (x := 0) dL_setProgram_2 (by decide) ?_
  refine wa_aload_n dL_setProgram_3 rfl ?_
  refine wa_iload_n dL_setProgram_4 rfl ?_
  refine wa_iload_n dL_setProgram_5 rfl ?_
  refine wa_iload_n dL_setProgram_6 rfl ?_
  refine wa_callV (As := [.int a, .int b, .int c]) dL_setProgram_7 lk_L_98 hA rfl (isO_VR _ _ _) rfl (Or.inl (ltS hn)) (by exact Nat.le_of_ble_eq_true rfl) (fitW (by decide)) (by exact Nat.le_of_ble_eq_true rfl) (fun ro n' h' q hn' => ?_) (fun E n' h' q _ => by obtain ⟨v, S', e, -⟩ := hq _ _ _ q; cases e)
  obtain ⟨v, S', e, rfl, hP⟩ := hq _ _ _ q
  cases e
  refine wa_i2l dL_setProgram_10 ?_
  refine s_last (by omega) dL_setProgram_11 ?_
  refine wa_goto 23 dL_setProgram_12 rfl ?_
  refine wa_iconst (x := 0) dL_setProgram_23 (by decide) ?_
  exact wa_ireturn dL_setProgram_24 ⟨by omega, by omega, ⟨_, rfl, rfl⟩, rfl, v, S', rfl, hn', hP⟩
theorem wl_setProgram_1 {n dp mc ms : Nat} {S : SS} {a b c : Int32} (hn : 279 ≤ n) (hA : AM yX6_setProgram cX6_setProgram 6 (some .int) [] dp mc ms [.ref 0, .int a, .int b, .int c] n (Hp S) (PX ab_xI n S)) : AM yL_setProgram cL_setProgram 6 (some .int) [(0, 12, 15, 29), (0, 12, 19, 19)] (dp + 1) mc ms [.ref 0, .int a, .int b, .int c, .ref 277] n (Hp S) (PI 1 n S) := by
  intro has
  change WA RL cL_setProgram 6 [(0, 12, 15, 29), (0, 12, 19, 19)] _ _ 0 0 0 [some (.ref 0), some (.int a), some (.int b), some (.int c), some (.ref 277), none] [] n _
  refine wa_aload dL_setProgram_0 rfl ?_
  refine wa_iconst (x := 0) dL_setProgram_2 (by decide) ?_
  refine wa_aload_n dL_setProgram_3 rfl ?_
  refine wa_iload_n dL_setProgram_4 rfl ?_
  refine wa_iload_n dL_setProgram_5 rfl ?_
  refine wa_iload_n dL_setProgram_6 rfl ?_
  refine wa_callV (As := [.int a, .int b, .int c]) dL_setProgram_7 lk_L_98 hA rfl (isO_VR _ _ _) rfl (Or.inl (ltS hn)) (by exact Nat.le_of_ble_eq_true rfl) (fitW (by decide)) (by exact Nat.le_of_ble_eq_true rfl) (fun ro n' h' q _ => by cases q.1) (fun E n' h' q _ => ?_)
  obtain ⟨e, rfl, rfl⟩ := q
  cases e
  refine wt_catch [] (0, 12, 15, 29) [(0, 12, 19, 19)] rfl (fun y hy => absurd hy List.not_mem_nil) (by decide) (by decide) wk_L_29 (List.mem_of_getElem? (i := 0) rfl) dL_setProgram_15 rfl (by exact Nat.le_of_ble_eq_true rfl) ?_
  refine wa_iconst (x := 1) dL_setProgram_17 (by decide) ?_
  exact wa_ireturn dL_setProgram_18 ⟨by omega, by omega, ⟨_, rfl, rfl⟩, rfl, rfl, rfl⟩
theorem wl_setProgram_2 {n dp mc ms : Nat} {S : SS} {a b c : Int32} (hn : 279 ≤ n) (hA : AM yX6_setProgram cX6_setProgram 6 (some .int) [] dp mc ms [.ref 0, .int a, .int b, .int c] n (Hp S) (PX ab_xA n S)) : AM yL_setProgram cL_setProgram 6 (some .int) [(0, 12, 15, 29), (0, 12, 19, 19)] (dp + 1) mc ms [.ref 0, .int a, .int b, .int c, .ref 277] n (Hp S) (PI 2 n S) := by
  intro has
  change WA RL cL_setProgram 6 [(0, 12, 15, 29), (0, 12, 19, 19)] _ _ 0 0 0 [some (.ref 0), some (.int a), some (.int b), some (.int c), some (.ref 277), none] [] n _
  refine wa_aload dL_setProgram_0 rfl ?_
  refine wa_iconst (x := 0) dL_setProgram_2 (by decide) ?_
  refine wa_aload_n dL_setProgram_3 rfl ?_
  refine wa_iload_n dL_setProgram_4 rfl ?_
  refine wa_iload_n dL_setProgram_5 rfl ?_
  refine wa_iload_n dL_setProgram_6 rfl ?_
  refine wa_callV (As := [.int a, .int b, .int c]) dL_setProgram_7 lk_L_98 hA rfl (isO_VR _ _ _) rfl (Or.inl (ltS hn)) (by exact Nat.le_of_ble_eq_true rfl) (fitW (by decide)) (by exact Nat.le_of_ble_eq_true rfl) (fun ro n' h' q _ => by cases q.1) (fun E n' h' q _ => ?_)
  obtain ⟨e, rfl, rfl⟩ := q
  cases e
  refine wt_catch [(0, 12, 15, 29)] (0, 12, 19, 19) [] rfl (fun y hy => by
    simp only [List.mem_cons, List.not_mem_nil, or_false] at hy
    subst hy
    exact Or.inr ⟨by decide, ab_xI, wk_L_29, List.mem_of_getElem? (i := 0) rfl⟩) (by decide) (by decide) wk_L_19 (List.mem_of_getElem? (i := 1) rfl) dL_setProgram_19 rfl (by exact Nat.le_of_ble_eq_true rfl) ?_
  refine wa_iconst (x := 2) dL_setProgram_21 (by decide) ?_
  exact wa_ireturn dL_setProgram_22 ⟨by omega, by omega, ⟨_, rfl, rfl⟩, rfl, rfl, rfl⟩
theorem wl_clearProgram_0 {n dp mc ms : Nat} {S : SS} {Q0 : ab_R → Nat → ab_H → Prop} {P : Int32 → Nat → SS → Prop} {a b : Int32} (hn : 279 ≤ n) (hA : AM yX6_clearProgram cX6_clearProgram 4 (some .int) [] dp mc ms [.ref 0, .int a, .int b] n (Hp S) Q0) (hq : ∀ r n' h', Q0 r n' h' → ∃ (v : Int32) (S' : SS), r = .inl (some (.int v)) ∧ h' = Hp S' ∧ P v n' S') : AM yL_clearProgram cL_clearProgram 5 (some .int) [(0, 10, 13, 29), (0, 10, 17, 19), (0, 10, 21, 43)] (dp + 1) mc ms [.ref 0, .int a, .int b, .ref 277] n (Hp S) (fun r n' h' => r = .inl (some (.int 0)) ∧ ∃ (v : Int32) (S' : SS), h' = Hp (so S' v.toInt64) ∧ n ≤ n' ∧ P v n' S') := by
  intro has
  change WA RL cL_clearProgram 5 [(0, 10, 13, 29), (0, 10, 17, 19), (0, 10, 21, 43)] _ _ 0 0 0 [some (.ref 0), some (.int a), some (.int b), some (.ref 277), none] [] n _
  refine wa_aload_n dL_clearProgram_0 rfl ?_
  refine wa_iconst (x := 0) dL_clearProgram_1 (by decide) ?_
  refine wa_aload_n dL_clearProgram_2 rfl ?_
  refine wa_iload_n dL_clearProgram_3 rfl ?_
  refine wa_iload_n dL_clearProgram_4 rfl ?_
  refine wa_callV (As := [.int a, .int b]) dL_clearProgram_5 lk_L_101 hA rfl (isO_VR _ _ _) rfl (Or.inl (ltS hn)) (by exact Nat.le_of_ble_eq_true rfl) (fitW (by decide)) (by exact Nat.le_of_ble_eq_true rfl) (fun ro n' h' q hn' => ?_) (fun E n' h' q _ => by obtain ⟨v, S', e, -⟩ := hq _ _ _ q; cases e)
  obtain ⟨v, S', e, rfl, hP⟩ := hq _ _ _ q
  cases e
  refine wa_i2l dL_clearProgram_8 ?_
  refine s_last (by omega) dL_clearProgram_9 ?_
  refine wa_goto 25 dL_clearProgram_10 rfl ?_
  refine wa_iconst (x := 0) dL_clearProgram_25 (by decide) ?_
  exact wa_ireturn dL_clearProgram_26 ⟨by omega, by omega, ⟨_, rfl, rfl⟩, rfl, v, S', rfl, hn', hP⟩
theorem wl_clearProgram_1 {n dp mc ms : Nat} {S : SS} {a b : Int32} (hn : 279 ≤ n) (hA : AM yX6_clearProgram cX6_clearProgram 4 (some .int) [] dp mc ms [.ref 0, .int a, .int b] n (Hp S) (PX ab_xI n S)) : AM yL_clearProgram cL_clearProgram 5 (some .int) [(0, 10, 13, 29), (0, 10, 17, 19), (0, 10, 21, 43)] (dp + 1) mc ms [.ref 0, .int a, .int b, .ref 277] n (Hp S) (PI 1 n S) := by
  intro has
  change WA RL cL_clearProgram 5 [(0, 10, 13, 29), (0, 10, 17, 19), (0, 10, 21, 43)] _ _ 0 0 0 [some (.ref 0), some (.int a), some (.int b), some (.ref 277), none] [] n _
  refine wa_aload_n dL_clearProgram_0 rfl ?_
  refine wa_iconst (x := 0) dL_clearProgram_1 (by decide) ?_
  refine wa_aload_n dL_clearProgram_2 rfl ?_
  refine wa_iload_n dL_clearProgram_3 rfl ?_
  refine wa_iload_n dL_clearProgram_4 rfl ?_
  refine wa_callV (As := [.int a, .int b]) dL_clearProgram_5 lk_L_101 hA rfl (isO_VR _ _ _) rfl (Or.inl (ltS hn)) (by exact Nat.le_of_ble_eq_true rfl) (fitW (by decide)) (by exact Nat.le_of_ble_eq_true rfl) (fun ro n' h' q _ => by cases q.1) (fun E n' h' q _ => ?_)
  obtain ⟨e, rfl, rfl⟩ := q
  cases e
  refine wt_catch [] (0, 10, 13, 29) [(0, 10, 17, 19), (0, 10, 21, 43)] rfl (fun y hy => absurd hy List.not_mem_nil) (by decide) (by decide) wk_L_29 (List.mem_of_getElem? (i := 0) rfl) dL_clearProgram_13 rfl (by exact Nat.le_of_ble_eq_true rfl) ?_
  refine wa_iconst (x := 1) dL_clearProgram_15 (by decide) ?_
  exact wa_ireturn dL_clearProgram_16 ⟨by omega, by omega, ⟨_, rfl, rfl⟩, rfl, rfl, rfl⟩
theorem wl_clearProgram_2 {n dp mc ms : Nat} {S : SS} {a b : Int32} (hn : 279 ≤ n) (hA : AM yX6_clearProgram cX6_clearProgram 4 (some .int) [] dp mc ms [.ref 0, .int a, .int b] n (Hp S) (PX ab_xA n S)) : AM yL_clearProgram cL_clearProgram 5 (some .int) [(0, 10, 13, 29), (0, 10, 17, 19), (0, 10, 21, 43)] (dp + 1) mc ms [.ref 0, .int a, .int b, .ref 277] n (Hp S) (PI 2 n S) := by
  intro has
  change WA RL cL_clearProgram 5 [(0, 10, 13, 29), (0, 10, 17, 19), (0, 10, 21, 43)] _ _ 0 0 0 [some (.ref 0), some (.int a), some (.int b), some (.ref 277), none] [] n _
  refine wa_aload_n dL_clearProgram_0 rfl ?_
  refine wa_iconst (x := 0) dL_clearProgram_1 (by decide) ?_
  refine wa_aload_n dL_clearProgram_2 rfl ?_
  refine wa_iload_n dL_clearProgram_3 rfl ?_
  refine wa_iload_n dL_clearProgram_4 rfl ?_
  refine wa_callV (As := [.int a, .int b]) dL_clearProgram_5 lk_L_101 hA rfl (isO_VR _ _ _) rfl (Or.inl (ltS hn)) (by exact Nat.le_of_ble_eq_true rfl) (fitW (by decide)) (by exact Nat.le_of_ble_eq_true rfl) (fun ro n' h' q _ => by cases q.1) (fun E n' h' q _ => ?_)
  obtain ⟨e, rfl, rfl⟩ := q
  cases e
  refine wt_catch [(0, 10, 13, 29)] (0, 10, 17, 19) [(0, 10, 21, 43)] rfl (fun y hy => by
    simp only [List.mem_cons, List.not_mem_nil, or_false] at hy
    subst hy
    exact Or.inr ⟨by decide, ab_xI, wk_L_29, List.mem_of_getElem? (i := 0) rfl⟩) (by decide) (by decide) wk_L_19 (List.mem_of_getElem? (i := 1) rfl) dL_clearProgram_17 rfl (by exact Nat.le_of_ble_eq_true rfl) ?_
  refine wa_iconst (x := 2) dL_clearProgram_19 (by decide) ?_
  exact wa_ireturn dL_clearProgram_20 ⟨by omega, by omega, ⟨_, rfl, rfl⟩, rfl, rfl, rfl⟩
theorem wl_clearProgram_3 {n dp mc ms : Nat} {S : SS} {a b : Int32} (hn : 279 ≤ n) (hA : AM yX6_clearProgram cX6_clearProgram 4 (some .int) [] dp mc ms [.ref 0, .int a, .int b] n (Hp S) (PX ab_xN n S)) : AM yL_clearProgram cL_clearProgram 5 (some .int) [(0, 10, 13, 29), (0, 10, 17, 19), (0, 10, 21, 43)] (dp + 1) mc ms [.ref 0, .int a, .int b, .ref 277] n (Hp S) (PI 3 n S) := by
  intro has
  change WA RL cL_clearProgram 5 [(0, 10, 13, 29), (0, 10, 17, 19), (0, 10, 21, 43)] _ _ 0 0 0 [some (.ref 0), some (.int a), some (.int b), some (.ref 277), none] [] n _
  refine wa_aload_n dL_clearProgram_0 rfl ?_
  refine wa_iconst (x := 0) dL_clearProgram_1 (by decide) ?_
  refine wa_aload_n dL_clearProgram_2 rfl ?_
  refine wa_iload_n dL_clearProgram_3 rfl ?_
  refine wa_iload_n dL_clearProgram_4 rfl ?_
  refine wa_callV (As := [.int a, .int b]) dL_clearProgram_5 lk_L_101 hA rfl (isO_VR _ _ _) rfl (Or.inl (ltS hn)) (by exact Nat.le_of_ble_eq_true rfl) (fitW (by decide)) (by exact Nat.le_of_ble_eq_true rfl) (fun ro n' h' q _ => by cases q.1) (fun E n' h' q _ => ?_)
  obtain ⟨e, rfl, rfl⟩ := q
  cases e
  refine wt_catch [(0, 10, 13, 29), (0, 10, 17, 19)] (0, 10, 21, 43) [] rfl (fun y hy => by
    simp only [List.mem_cons, List.not_mem_nil, or_false] at hy
    rcases hy with rfl | rfl
    · exact Or.inr ⟨by decide, ab_xI, wk_L_29, List.mem_of_getElem? (i := 3) rfl⟩
    · exact Or.inr ⟨by decide, ab_xA, wk_L_19, List.mem_of_getElem? (i := 4) rfl⟩) (by decide) (by decide) wk_L_43 (List.mem_of_getElem? (i := 3) rfl) dL_clearProgram_21 rfl (by exact Nat.le_of_ble_eq_true rfl) ?_
  refine wa_iconst (x := 3) dL_clearProgram_23 (by decide) ?_
  exact wa_ireturn dL_clearProgram_24 ⟨by omega, by omega, ⟨_, rfl, rfl⟩, rfl, rfl, rfl⟩
theorem wl_override_0 {n dp mc ms : Nat} {S : SS} {Q0 : ab_R → Nat → ab_H → Prop} {P : Int32 → Nat → SS → Prop} {a b c : Int32} (hn : 279 ≤ n) (hA : AM yX6_override cX6_override 5 (some .int) [] dp mc ms [.ref 0, .int a, .int b, .int c] n (Hp S) Q0) (hq : ∀ r n' h', Q0 r n' h' → ∃ (v : Int32) (S' : SS), r = .inl (some (.int v)) ∧ h' = Hp S' ∧ P v n' S') : AM yL_override cL_override 6 (some .int) [(0, 12, 15, 29), (0, 12, 19, 19)] (dp + 1) mc ms [.ref 0, .int a, .int b, .int c, .ref 277] n (Hp S) (fun r n' h' => r = .inl (some (.int 0)) ∧ ∃ (v : Int32) (S' : SS), h' = Hp (so S' v.toInt64) ∧ n ≤ n' ∧ P v n' S') := by
  intro has
  change WA RL cL_override 6 [(0, 12, 15, 29), (0, 12, 19, 19)] _ _ 0 0 0 [some (.ref 0), some (.int a), some (.int b), some (.int c), some (.ref 277), none] [] n _
  refine wa_aload dL_override_0 rfl ?_
  refine wa_iconst (x := 0) dL_override_2 (by decide) ?_
  refine wa_aload_n dL_override_3 rfl ?_
  refine wa_iload_n dL_override_4 rfl ?_
  refine wa_iload_n dL_override_5 rfl ?_
  refine wa_iload_n dL_override_6 rfl ?_
  refine wa_callV (As := [.int a, .int b, .int c]) dL_override_7 lk_L_104 hA rfl (isO_VR _ _ _) rfl (Or.inl (ltS hn)) (by exact Nat.le_of_ble_eq_true rfl) (fitW (by decide)) (by exact Nat.le_of_ble_eq_true rfl) (fun ro n' h' q hn' => ?_) (fun E n' h' q _ => by obtain ⟨v, S', e, -⟩ := hq _ _ _ q; cases e)
  obtain ⟨v, S', e, rfl, hP⟩ := hq _ _ _ q
  cases e
  refine wa_i2l dL_override_10 ?_
  refine s_last (by omega) dL_override_11 ?_
  refine wa_goto 23 dL_override_12 rfl ?_
  refine wa_iconst (x := 0) dL_override_23 (by decide) ?_
  exact wa_ireturn dL_override_24 ⟨by omega, by omega, ⟨_, rfl, rfl⟩, rfl, v, S', rfl, hn', hP⟩
theorem wl_override_1 {n dp mc ms : Nat} {S : SS} {a b c : Int32} (hn : 279 ≤ n) (hA : AM yX6_override cX6_override 5 (some .int) [] dp mc ms [.ref 0, .int a, .int b, .int c] n (Hp S) (PX ab_xI n S)) : AM yL_override cL_override 6 (some .int) [(0, 12, 15, 29), (0, 12, 19, 19)] (dp + 1) mc ms [.ref 0, .int a, .int b, .int c, .ref 277] n (Hp S) (PI 1 n S) := by
  intro has
  change WA RL cL_override 6 [(0, 12, 15, 29), (0, 12, 19, 19)] _ _ 0 0 0 [some (.ref 0), some (.int a), some (.int b), some (.int c), some (.ref 277), none] [] n _
  refine wa_aload dL_override_0 rfl ?_
  refine wa_iconst (x := 0) dL_override_2 (by decide) ?_
  refine wa_aload_n dL_override_3 rfl ?_
  refine wa_iload_n dL_override_4 rfl ?_
  refine wa_iload_n dL_override_5 rfl ?_
  refine wa_iload_n dL_override_6 rfl ?_
  refine wa_callV (As := [.int a, .int b, .int c]) dL_override_7 lk_L_104 hA rfl (isO_VR _ _ _) rfl (Or.inl (ltS hn)) (by exact Nat.le_of_ble_eq_true rfl) (fitW (by decide)) (by exact Nat.le_of_ble_eq_true rfl) (fun ro n' h' q _ => by cases q.1) (fun E n' h' q _ => ?_)
  obtain ⟨e, rfl, rfl⟩ := q
  cases e
  refine wt_catch [] (0, 12, 15, 29) [(0, 12, 19, 19)] rfl (fun y hy => absurd hy List.not_mem_nil) (by decide) (by decide) wk_L_29 (List.mem_of_getElem? (i := 0) rfl) dL_override_15 rfl (by exact Nat.le_of_ble_eq_true rfl) ?_
  refine wa_iconst (x := 1) dL_override_17 (by decide) ?_
  exact wa_ireturn dL_override_18 ⟨by omega, by omega, ⟨_, rfl, rfl⟩, rfl, rfl, rfl⟩
theorem wl_override_2 {n dp mc ms : Nat} {S : SS} {a b c : Int32} (hn : 279 ≤ n) (hA : AM yX6_override cX6_override 5 (some .int) [] dp mc ms [.ref 0, .int a, .int b, .int c] n (Hp S) (PX ab_xA n S)) : AM yL_override cL_override 6 (some .int) [(0, 12, 15, 29), (0, 12, 19, 19)] (dp + 1) mc ms [.ref 0, .int a, .int b, .int c, .ref 277] n (Hp S) (PI 2 n S) := by
  intro has
  change WA RL cL_override 6 [(0, 12, 15, 29), (0, 12, 19, 19)] _ _ 0 0 0 [some (.ref 0), some (.int a), some (.int b), some (.int c), some (.ref 277), none] [] n _
  refine wa_aload dL_override_0 rfl ?_
  refine wa_iconst (x := 0) dL_override_2 (by decide) ?_
  refine wa_aload_n dL_override_3 rfl ?_
  refine wa_iload_n dL_override_4 rfl ?_
  refine wa_iload_n dL_override_5 rfl ?_
  refine wa_iload_n dL_override_6 rfl ?_
  refine wa_callV (As := [.int a, .int b, .int c]) dL_override_7 lk_L_104 hA rfl (isO_VR _ _ _) rfl (Or.inl (ltS hn)) (by exact Nat.le_of_ble_eq_true rfl) (fitW (by decide)) (by exact Nat.le_of_ble_eq_true rfl) (fun ro n' h' q _ => by cases q.1) (fun E n' h' q _ => ?_)
  obtain ⟨e, rfl, rfl⟩ := q
  cases e
  refine wt_catch [(0, 12, 15, 29)] (0, 12, 19, 19) [] rfl (fun y hy => by
    simp only [List.mem_cons, List.not_mem_nil, or_false] at hy
    subst hy
    exact Or.inr ⟨by decide, ab_xI, wk_L_29, List.mem_of_getElem? (i := 0) rfl⟩) (by decide) (by decide) wk_L_19 (List.mem_of_getElem? (i := 1) rfl) dL_override_19 rfl (by exact Nat.le_of_ble_eq_true rfl) ?_
  refine wa_iconst (x := 2) dL_override_21 (by decide) ?_
  exact wa_ireturn dL_override_22 ⟨by omega, by omega, ⟨_, rfl, rfl⟩, rfl, rfl, rfl⟩
theorem wl_setWindow_0 {n dp mc ms : Nat} {S : SS} {Q0 : ab_R → Nat → ab_H → Prop} {P : Int32 → Nat → SS → Prop} {a b : Int32} (hn : 279 ≤ n) (hA : AM yX6_setWindow cX6_setWindow 5 (some .boolean) [] dp mc ms [.ref 0, .int a, .int b] n (Hp S) Q0) (hq : ∀ r n' h', Q0 r n' h' → ∃ (v : Int32) (S' : SS), r = .inl (some (.int v)) ∧ h' = Hp S' ∧ P v n' S') : AM yL_setWindow cL_setWindow 5 (some .int) [(0, 17, 20, 29)] (dp + 1) mc ms [.ref 0, .int a, .int b, .ref 277] n (Hp S) (fun r n' h' => r = .inl (some (.int 0)) ∧ ∃ (v : Int32) (S' : SS), h' = Hp (so S' (if v = 0 then 0 else 1)) ∧ n ≤ n' ∧ P v n' S') := by
  intro has
  change WA RL cL_setWindow 5 [(0, 17, 20, 29)] _ _ 0 0 0 [some (.ref 0), some (.int a), some (.int b), some (.ref 277), none] [] n _
  refine wa_aload_n dL_setWindow_0 rfl ?_
  refine wa_iconst (x := 0) dL_setWindow_1 (by decide) ?_
  refine wa_aload_n dL_setWindow_2 rfl ?_
  refine wa_iload_n dL_setWindow_3 rfl ?_
  refine wa_iload_n dL_setWindow_4 rfl ?_
  refine wa_callV (As := [.int a, .int b]) dL_setWindow_5 lk_L_107 hA rfl (isO_VR _ _ _) rfl (Or.inl (ltS hn)) (by exact Nat.le_of_ble_eq_true rfl) (fitW (by decide)) (by exact Nat.le_of_ble_eq_true rfl) (fun ro n' h' q hn' => ?_) (fun E n' h' q _ => by obtain ⟨v, S', e, -⟩ := hq _ _ _ q; cases e)
  obtain ⟨v, S', e, rfl, hP⟩ := hq _ _ _ q
  cases e
  refine wa_if_eq 15 dL_setWindow_8 rfl (fun cz => ?_) (fun cz => ?_)
  · refine wa_lconst (x := 0) dL_setWindow_15 (by decide) ?_
    refine s_last (by omega) dL_setWindow_16 ?_
    refine wa_goto 24 dL_setWindow_17 rfl ?_
    refine wa_iconst (x := 0) dL_setWindow_24 (by decide) ?_
    exact wa_ireturn dL_setWindow_25 ⟨by omega, by omega, ⟨_, rfl, rfl⟩, rfl, v, S', by rw [if_pos cz], hn', hP⟩
  · refine wa_lconst (x := 1) dL_setWindow_11 (by decide) ?_
    refine wa_goto 16 dL_setWindow_12 rfl ?_
    refine s_last (by omega) dL_setWindow_16 ?_
    refine wa_goto 24 dL_setWindow_17 rfl ?_
    refine wa_iconst (x := 0) dL_setWindow_24 (by decide) ?_
    exact wa_ireturn dL_setWindow_25 ⟨by omega, by omega, ⟨_, rfl, rfl⟩, rfl, v, S', by rw [if_neg cz], hn', hP⟩
theorem wl_setWindow_1 {n dp mc ms : Nat} {S : SS} {a b : Int32} (hn : 279 ≤ n) (hA : AM yX6_setWindow cX6_setWindow 5 (some .boolean) [] dp mc ms [.ref 0, .int a, .int b] n (Hp S) (PX ab_xI n S)) : AM yL_setWindow cL_setWindow 5 (some .int) [(0, 17, 20, 29)] (dp + 1) mc ms [.ref 0, .int a, .int b, .ref 277] n (Hp S) (PI 1 n S) := by
  intro has
  change WA RL cL_setWindow 5 [(0, 17, 20, 29)] _ _ 0 0 0 [some (.ref 0), some (.int a), some (.int b), some (.ref 277), none] [] n _
  refine wa_aload_n dL_setWindow_0 rfl ?_
  refine wa_iconst (x := 0) dL_setWindow_1 (by decide) ?_
  refine wa_aload_n dL_setWindow_2 rfl ?_
  refine wa_iload_n dL_setWindow_3 rfl ?_
  refine wa_iload_n dL_setWindow_4 rfl ?_
  refine wa_callV (As := [.int a, .int b]) dL_setWindow_5 lk_L_107 hA rfl (isO_VR _ _ _) rfl (Or.inl (ltS hn)) (by exact Nat.le_of_ble_eq_true rfl) (fitW (by decide)) (by exact Nat.le_of_ble_eq_true rfl) (fun ro n' h' q _ => by cases q.1) (fun E n' h' q _ => ?_)
  obtain ⟨e, rfl, rfl⟩ := q
  cases e
  refine wt_catch [] (0, 17, 20, 29) [] rfl (fun y hy => absurd hy List.not_mem_nil) (by decide) (by decide) wk_L_29 (List.mem_of_getElem? (i := 0) rfl) dL_setWindow_20 rfl (by exact Nat.le_of_ble_eq_true rfl) ?_
  refine wa_iconst (x := 1) dL_setWindow_22 (by decide) ?_
  exact wa_ireturn dL_setWindow_23 ⟨by omega, by omega, ⟨_, rfl, rfl⟩, rfl, rfl, rfl⟩
theorem wl_setPresent_0 {n dp mc ms : Nat} {S : SS} {Q0 : ab_R → Nat → ab_H → Prop} {P : Int32 → Nat → SS → Prop} {a b : Int32} (hn : 279 ≤ n) (hA : AM yX6_setPresent cX6_setPresent 4 (some .int) [] dp mc ms [.ref 0, .int a, .int b] n (Hp S) Q0) (hq : ∀ r n' h', Q0 r n' h' → ∃ (v : Int32) (S' : SS), r = .inl (some (.int v)) ∧ h' = Hp S' ∧ P v n' S') : AM yL_setPresent cL_setPresent 5 (some .int) [(0, 10, 13, 29)] (dp + 1) mc ms [.ref 0, .int a, .int b, .ref 277] n (Hp S) (fun r n' h' => r = .inl (some (.int 0)) ∧ ∃ (v : Int32) (S' : SS), h' = Hp (so S' v.toInt64) ∧ n ≤ n' ∧ P v n' S') := by
  intro has
  change WA RL cL_setPresent 5 [(0, 10, 13, 29)] _ _ 0 0 0 [some (.ref 0), some (.int a), some (.int b), some (.ref 277), none] [] n _
  refine wa_aload_n dL_setPresent_0 rfl ?_
  refine wa_iconst (x := 0) dL_setPresent_1 (by decide) ?_
  refine wa_aload_n dL_setPresent_2 rfl ?_
  refine wa_iload_n dL_setPresent_3 rfl ?_
  refine wa_iload_n dL_setPresent_4 rfl ?_
  refine wa_callV (As := [.int a, .int b]) dL_setPresent_5 lk_L_111 hA rfl (isO_VR _ _ _) rfl (Or.inl (ltS hn)) (by exact Nat.le_of_ble_eq_true rfl) (fitW (by decide)) (by exact Nat.le_of_ble_eq_true rfl) (fun ro n' h' q hn' => ?_) (fun E n' h' q _ => by obtain ⟨v, S', e, -⟩ := hq _ _ _ q; cases e)
  obtain ⟨v, S', e, rfl, hP⟩ := hq _ _ _ q
  cases e
  refine wa_i2l dL_setPresent_8 ?_
  refine s_last (by omega) dL_setPresent_9 ?_
  refine wa_goto 17 dL_setPresent_10 rfl ?_
  refine wa_iconst (x := 0) dL_setPresent_17 (by decide) ?_
  exact wa_ireturn dL_setPresent_18 ⟨by omega, by omega, ⟨_, rfl, rfl⟩, rfl, v, S', rfl, hn', hP⟩
theorem wl_setPresent_1 {n dp mc ms : Nat} {S : SS} {a b : Int32} (hn : 279 ≤ n) (hA : AM yX6_setPresent cX6_setPresent 4 (some .int) [] dp mc ms [.ref 0, .int a, .int b] n (Hp S) (PX ab_xI n S)) : AM yL_setPresent cL_setPresent 5 (some .int) [(0, 10, 13, 29)] (dp + 1) mc ms [.ref 0, .int a, .int b, .ref 277] n (Hp S) (PI 1 n S) := by
  intro has
  change WA RL cL_setPresent 5 [(0, 10, 13, 29)] _ _ 0 0 0 [some (.ref 0), some (.int a), some (.int b), some (.ref 277), none] [] n _
  refine wa_aload_n dL_setPresent_0 rfl ?_
  refine wa_iconst (x := 0) dL_setPresent_1 (by decide) ?_
  refine wa_aload_n dL_setPresent_2 rfl ?_
  refine wa_iload_n dL_setPresent_3 rfl ?_
  refine wa_iload_n dL_setPresent_4 rfl ?_
  refine wa_callV (As := [.int a, .int b]) dL_setPresent_5 lk_L_111 hA rfl (isO_VR _ _ _) rfl (Or.inl (ltS hn)) (by exact Nat.le_of_ble_eq_true rfl) (fitW (by decide)) (by exact Nat.le_of_ble_eq_true rfl) (fun ro n' h' q _ => by cases q.1) (fun E n' h' q _ => ?_)
  obtain ⟨e, rfl, rfl⟩ := q
  cases e
  refine wt_catch [] (0, 10, 13, 29) [] rfl (fun y hy => absurd hy List.not_mem_nil) (by decide) (by decide) wk_L_29 (List.mem_of_getElem? (i := 0) rfl) dL_setPresent_13 rfl (by exact Nat.le_of_ble_eq_true rfl) ?_
  refine wa_iconst (x := 1) dL_setPresent_15 (by decide) ?_
  exact wa_ireturn dL_setPresent_16 ⟨by omega, by omega, ⟨_, rfl, rfl⟩, rfl, rfl, rfl⟩
theorem wl_plan_0 {n dp mc ms : Nat} {S : SS} {Q0 : ab_R → Nat → ab_H → Prop} {P : Int32 → Nat → SS → Prop} {a b c : Int32} (hn : 279 ≤ n) (hA : AM yX6_plan cX6_plan 4 (some .int) [] dp mc ms [.ref 0, .int a, .int b, .int c] n (Hp S) Q0) (hq : ∀ r n' h', Q0 r n' h' → ∃ (v : Int32) (S' : SS), r = .inl (some (.int v)) ∧ h' = Hp S' ∧ P v n' S') : AM yL_plan cL_plan 6 (some .int) [(0, 12, 15, 29), (0, 12, 19, 19), (0, 12, 23, 13)] (dp + 1) mc ms [.ref 0, .int a, .int b, .int c, .ref 277] n (Hp S) (fun r n' h' => r = .inl (some (.int 0)) ∧ ∃ (v : Int32) (S' : SS), h' = Hp (so S' v.toInt64) ∧ n ≤ n' ∧ P v n' S') := by
  intro has
  change WA RL cL_plan 6 [(0, 12, 15, 29), (0, 12, 19, 19), (0, 12, 23, 13)] _ _ 0 0 0 [some (.ref 0), some (.int a), some (.int b), some (.int c), some (.ref 277), none] [] n _
  refine wa_aload dL_plan_0 rfl ?_
  refine wa_iconst (x := 0) dL_plan_2 (by decide) ?_
  refine wa_aload_n dL_plan_3 rfl ?_
  refine wa_iload_n dL_plan_4 rfl ?_
  refine wa_iload_n dL_plan_5 rfl ?_
  refine wa_iload_n dL_plan_6 rfl ?_
  refine wa_callV (As := [.int a, .int b, .int c]) dL_plan_7 lk_L_115 hA rfl (isO_VR _ _ _) rfl (Or.inl (ltS hn)) (by exact Nat.le_of_ble_eq_true rfl) (fitW (by decide)) (by exact Nat.le_of_ble_eq_true rfl) (fun ro n' h' q hn' => ?_) (fun E n' h' q _ => by obtain ⟨v, S', e, -⟩ := hq _ _ _ q; cases e)
  obtain ⟨v, S', e, rfl, hP⟩ := hq _ _ _ q
  cases e
  refine wa_i2l dL_plan_10 ?_
  refine s_last (by omega) dL_plan_11 ?_
  refine wa_goto 27 dL_plan_12 rfl ?_
  refine wa_iconst (x := 0) dL_plan_27 (by decide) ?_
  exact wa_ireturn dL_plan_28 ⟨by omega, by omega, ⟨_, rfl, rfl⟩, rfl, v, S', rfl, hn', hP⟩
theorem wl_plan_1 {n dp mc ms : Nat} {S : SS} {a b c : Int32} (hn : 279 ≤ n) (hA : AM yX6_plan cX6_plan 4 (some .int) [] dp mc ms [.ref 0, .int a, .int b, .int c] n (Hp S) (PX ab_xI n S)) : AM yL_plan cL_plan 6 (some .int) [(0, 12, 15, 29), (0, 12, 19, 19), (0, 12, 23, 13)] (dp + 1) mc ms [.ref 0, .int a, .int b, .int c, .ref 277] n (Hp S) (PI 1 n S) := by
  intro has
  change WA RL cL_plan 6 [(0, 12, 15, 29), (0, 12, 19, 19), (0, 12, 23, 13)] _ _ 0 0 0 [some (.ref 0), some (.int a), some (.int b), some (.int c), some (.ref 277), none] [] n _
  refine wa_aload dL_plan_0 rfl ?_
  refine wa_iconst (x := 0) dL_plan_2 (by decide) ?_
  refine wa_aload_n dL_plan_3 rfl ?_
  refine wa_iload_n dL_plan_4 rfl ?_
  refine wa_iload_n dL_plan_5 rfl ?_
  refine wa_iload_n dL_plan_6 rfl ?_
  refine wa_callV (As := [.int a, .int b, .int c]) dL_plan_7 lk_L_115 hA rfl (isO_VR _ _ _) rfl (Or.inl (ltS hn)) (by exact Nat.le_of_ble_eq_true rfl) (fitW (by decide)) (by exact Nat.le_of_ble_eq_true rfl) (fun ro n' h' q _ => by cases q.1) (fun E n' h' q _ => ?_)
  obtain ⟨e, rfl, rfl⟩ := q
  cases e
  refine wt_catch [] (0, 12, 15, 29) [(0, 12, 19, 19), (0, 12, 23, 13)] rfl (fun y hy => absurd hy List.not_mem_nil) (by decide) (by decide) wk_L_29 (List.mem_of_getElem? (i := 0) rfl) dL_plan_15 rfl (by exact Nat.le_of_ble_eq_true rfl) ?_
  refine wa_iconst (x := 1) dL_plan_17 (by decide) ?_
  exact wa_ireturn dL_plan_18 ⟨by omega, by omega, ⟨_, rfl, rfl⟩, rfl, rfl, rfl⟩
theorem wl_plan_2 {n dp mc ms : Nat} {S : SS} {a b c : Int32} (hn : 279 ≤ n) (hA : AM yX6_plan cX6_plan 4 (some .int) [] dp mc ms [.ref 0, .int a, .int b, .int c] n (Hp S) (PX ab_xA n S)) : AM yL_plan cL_plan 6 (some .int) [(0, 12, 15, 29), (0, 12, 19, 19), (0, 12, 23, 13)] (dp + 1) mc ms [.ref 0, .int a, .int b, .int c, .ref 277] n (Hp S) (PI 2 n S) := by
  intro has
  change WA RL cL_plan 6 [(0, 12, 15, 29), (0, 12, 19, 19), (0, 12, 23, 13)] _ _ 0 0 0 [some (.ref 0), some (.int a), some (.int b), some (.int c), some (.ref 277), none] [] n _
  refine wa_aload dL_plan_0 rfl ?_
  refine wa_iconst (x := 0) dL_plan_2 (by decide) ?_
  refine wa_aload_n dL_plan_3 rfl ?_
  refine wa_iload_n dL_plan_4 rfl ?_
  refine wa_iload_n dL_plan_5 rfl ?_
  refine wa_iload_n dL_plan_6 rfl ?_
  refine wa_callV (As := [.int a, .int b, .int c]) dL_plan_7 lk_L_115 hA rfl (isO_VR _ _ _) rfl (Or.inl (ltS hn)) (by exact Nat.le_of_ble_eq_true rfl) (fitW (by decide)) (by exact Nat.le_of_ble_eq_true rfl) (fun ro n' h' q _ => by cases q.1) (fun E n' h' q _ => ?_)
  obtain ⟨e, rfl, rfl⟩ := q
  cases e
  refine wt_catch [(0, 12, 15, 29)] (0, 12, 19, 19) [(0, 12, 23, 13)] rfl (fun y hy => by
    simp only [List.mem_cons, List.not_mem_nil, or_false] at hy
    subst hy
    exact Or.inr ⟨by decide, ab_xI, wk_L_29, List.mem_of_getElem? (i := 0) rfl⟩) (by decide) (by decide) wk_L_19 (List.mem_of_getElem? (i := 1) rfl) dL_plan_19 rfl (by exact Nat.le_of_ble_eq_true rfl) ?_
  refine wa_iconst (x := 2) dL_plan_21 (by decide) ?_
  exact wa_ireturn dL_plan_22 ⟨by omega, by omega, ⟨_, rfl, rfl⟩, rfl, rfl, rfl⟩
theorem wl_plan_3 {n dp mc ms : Nat} {S : SS} {a b c : Int32} (hn : 279 ≤ n) (hA : AM yX6_plan cX6_plan 4 (some .int) [] dp mc ms [.ref 0, .int a, .int b, .int c] n (Hp S) (PX ab_xS n S)) : AM yL_plan cL_plan 6 (some .int) [(0, 12, 15, 29), (0, 12, 19, 19), (0, 12, 23, 13)] (dp + 1) mc ms [.ref 0, .int a, .int b, .int c, .ref 277] n (Hp S) (PI 3 n S) := by
  intro has
  change WA RL cL_plan 6 [(0, 12, 15, 29), (0, 12, 19, 19), (0, 12, 23, 13)] _ _ 0 0 0 [some (.ref 0), some (.int a), some (.int b), some (.int c), some (.ref 277), none] [] n _
  refine wa_aload dL_plan_0 rfl ?_
  refine wa_iconst (x := 0) dL_plan_2 (by decide) ?_
  refine wa_aload_n dL_plan_3 rfl ?_
  refine wa_iload_n dL_plan_4 rfl ?_
  refine wa_iload_n dL_plan_5 rfl ?_
  refine wa_iload_n dL_plan_6 rfl ?_
  refine wa_callV (As := [.int a, .int b, .int c]) dL_plan_7 lk_L_115 hA rfl (isO_VR _ _ _) rfl (Or.inl (ltS hn)) (by exact Nat.le_of_ble_eq_true rfl) (fitW (by decide)) (by exact Nat.le_of_ble_eq_true rfl) (fun ro n' h' q _ => by cases q.1) (fun E n' h' q _ => ?_)
  obtain ⟨e, rfl, rfl⟩ := q
  cases e
  refine wt_catch [(0, 12, 15, 29), (0, 12, 19, 19)] (0, 12, 23, 13) [] rfl (fun y hy => by
    simp only [List.mem_cons, List.not_mem_nil, or_false] at hy
    rcases hy with rfl | rfl
    · exact Or.inr ⟨by decide, ab_xI, wk_L_29, List.mem_of_getElem? (i := 1) rfl⟩
    · exact Or.inr ⟨by decide, ab_xA, wk_L_19, List.mem_of_getElem? (i := 2) rfl⟩) (by decide) (by decide) wk_L_13 (List.mem_of_getElem? (i := 2) rfl) dL_plan_23 rfl (by exact Nat.le_of_ble_eq_true rfl) ?_
  refine wa_iconst (x := 3) dL_plan_25 (by decide) ?_
  exact wa_ireturn dL_plan_26 ⟨by omega, by omega, ⟨_, rfl, rfl⟩, rfl, rfl, rfl⟩
theorem wl_dropPlan_0 {n dp mc ms : Nat} {S : SS} {Q0 : ab_R → Nat → ab_H → Prop} {P : Int32 → Nat → SS → Prop} {a : Int32} (hn : 279 ≤ n) (hA : AM yX6_dropPlan cX6_dropPlan 2 (some .int) [] dp mc ms [.ref 0, .int a] n (Hp S) Q0) (hq : ∀ r n' h', Q0 r n' h' → ∃ (v : Int32) (S' : SS), r = .inl (some (.int v)) ∧ h' = Hp S' ∧ P v n' S') : AM yL_dropPlan cL_dropPlan 4 (some .int) [(0, 9, 12, 29)] (dp + 1) mc ms [.ref 0, .int a, .ref 277] n (Hp S) (fun r n' h' => r = .inl (some (.int 0)) ∧ ∃ (v : Int32) (S' : SS), h' = Hp (so S' v.toInt64) ∧ n ≤ n' ∧ P v n' S') := by
  intro has
  change WA RL cL_dropPlan 4 [(0, 9, 12, 29)] _ _ 0 0 0 [some (.ref 0), some (.int a), some (.ref 277), none] [] n _
  refine wa_aload_n dL_dropPlan_0 rfl ?_
  refine wa_iconst (x := 0) dL_dropPlan_1 (by decide) ?_
  refine wa_aload_n dL_dropPlan_2 rfl ?_
  refine wa_iload_n dL_dropPlan_3 rfl ?_
  refine wa_callV (As := [.int a]) dL_dropPlan_4 lk_L_118 hA rfl (isO_VR _ _ _) rfl (Or.inl (ltS hn)) (by exact Nat.le_of_ble_eq_true rfl) (fitW (by decide)) (by exact Nat.le_of_ble_eq_true rfl) (fun ro n' h' q hn' => ?_) (fun E n' h' q _ => by obtain ⟨v, S', e, -⟩ := hq _ _ _ q; cases e)
  obtain ⟨v, S', e, rfl, hP⟩ := hq _ _ _ q
  cases e
  refine wa_i2l dL_dropPlan_7 ?_
  refine s_last (by omega) dL_dropPlan_8 ?_
  refine wa_goto 15 dL_dropPlan_9 rfl ?_
  refine wa_iconst (x := 0) dL_dropPlan_15 (by decide) ?_
  exact wa_ireturn dL_dropPlan_16 ⟨by omega, by omega, ⟨_, rfl, rfl⟩, rfl, v, S', rfl, hn', hP⟩
theorem wl_dropPlan_1 {n dp mc ms : Nat} {S : SS} {a : Int32} (hn : 279 ≤ n) (hA : AM yX6_dropPlan cX6_dropPlan 2 (some .int) [] dp mc ms [.ref 0, .int a] n (Hp S) (PX ab_xI n S)) : AM yL_dropPlan cL_dropPlan 4 (some .int) [(0, 9, 12, 29)] (dp + 1) mc ms [.ref 0, .int a, .ref 277] n (Hp S) (PI 1 n S) := by
  intro has
  change WA RL cL_dropPlan 4 [(0, 9, 12, 29)] _ _ 0 0 0 [some (.ref 0), some (.int a), some (.ref 277), none] [] n _
  refine wa_aload_n dL_dropPlan_0 rfl ?_
  refine wa_iconst (x := 0) dL_dropPlan_1 (by decide) ?_
  refine wa_aload_n dL_dropPlan_2 rfl ?_
  refine wa_iload_n dL_dropPlan_3 rfl ?_
  refine wa_callV (As := [.int a]) dL_dropPlan_4 lk_L_118 hA rfl (isO_VR _ _ _) rfl (Or.inl (ltS hn)) (by exact Nat.le_of_ble_eq_true rfl) (fitW (by decide)) (by exact Nat.le_of_ble_eq_true rfl) (fun ro n' h' q _ => by cases q.1) (fun E n' h' q _ => ?_)
  obtain ⟨e, rfl, rfl⟩ := q
  cases e
  refine wt_catch_n [] (0, 9, 12, 29) [] rfl (fun y hy => absurd hy List.not_mem_nil) (by decide) (by decide) wk_L_29 (List.mem_of_getElem? (i := 0) rfl) dL_dropPlan_12 rfl (by exact Nat.le_of_ble_eq_true rfl) ?_
  refine wa_iconst (x := 1) dL_dropPlan_13 (by decide) ?_
  exact wa_ireturn dL_dropPlan_14 ⟨by omega, by omega, ⟨_, rfl, rfl⟩, rfl, rfl, rfl⟩
theorem wl_setOutside_0 {n dp mc ms : Nat} {S : SS} {Q0 : ab_R → Nat → ab_H → Prop} {P : Int32 → Nat → SS → Prop} {a : Int32} (hn : 279 ≤ n) (hA : AM yX6_setOutside cX6_setOutside 3 (some .int) [] dp mc ms [.ref 0, .int a] n (Hp S) Q0) (hq : ∀ r n' h', Q0 r n' h' → ∃ (v : Int32) (S' : SS), r = .inl (some (.int v)) ∧ h' = Hp S' ∧ P v n' S') : AM yL_setOutside cL_setOutside 4 (some .int) [(0, 9, 12, 19)] (dp + 1) mc ms [.ref 0, .int a, .ref 277] n (Hp S) (fun r n' h' => r = .inl (some (.int 0)) ∧ ∃ (v : Int32) (S' : SS), h' = Hp (so S' v.toInt64) ∧ n ≤ n' ∧ P v n' S') := by
  intro has
  change WA RL cL_setOutside 4 [(0, 9, 12, 19)] _ _ 0 0 0 [some (.ref 0), some (.int a), some (.ref 277), none] [] n _
  refine wa_aload_n dL_setOutside_0 rfl ?_
  refine wa_iconst (x := 0) dL_setOutside_1 (by decide) ?_
  refine wa_aload_n dL_setOutside_2 rfl ?_
  refine wa_iload_n dL_setOutside_3 rfl ?_
  refine wa_callV (As := [.int a]) dL_setOutside_4 lk_L_121 hA rfl (isO_VR _ _ _) rfl (Or.inl (ltS hn)) (by exact Nat.le_of_ble_eq_true rfl) (fitW (by decide)) (by exact Nat.le_of_ble_eq_true rfl) (fun ro n' h' q hn' => ?_) (fun E n' h' q _ => by obtain ⟨v, S', e, -⟩ := hq _ _ _ q; cases e)
  obtain ⟨v, S', e, rfl, hP⟩ := hq _ _ _ q
  cases e
  refine wa_i2l dL_setOutside_7 ?_
  refine s_last (by omega) dL_setOutside_8 ?_
  refine wa_goto 15 dL_setOutside_9 rfl ?_
  refine wa_iconst (x := 0) dL_setOutside_15 (by decide) ?_
  exact wa_ireturn dL_setOutside_16 ⟨by omega, by omega, ⟨_, rfl, rfl⟩, rfl, v, S', rfl, hn', hP⟩
theorem wl_setOutside_1 {n dp mc ms : Nat} {S : SS} {a : Int32} (hn : 279 ≤ n) (hA : AM yX6_setOutside cX6_setOutside 3 (some .int) [] dp mc ms [.ref 0, .int a] n (Hp S) (PX ab_xA n S)) : AM yL_setOutside cL_setOutside 4 (some .int) [(0, 9, 12, 19)] (dp + 1) mc ms [.ref 0, .int a, .ref 277] n (Hp S) (PI 1 n S) := by
  intro has
  change WA RL cL_setOutside 4 [(0, 9, 12, 19)] _ _ 0 0 0 [some (.ref 0), some (.int a), some (.ref 277), none] [] n _
  refine wa_aload_n dL_setOutside_0 rfl ?_
  refine wa_iconst (x := 0) dL_setOutside_1 (by decide) ?_
  refine wa_aload_n dL_setOutside_2 rfl ?_
  refine wa_iload_n dL_setOutside_3 rfl ?_
  refine wa_callV (As := [.int a]) dL_setOutside_4 lk_L_121 hA rfl (isO_VR _ _ _) rfl (Or.inl (ltS hn)) (by exact Nat.le_of_ble_eq_true rfl) (fitW (by decide)) (by exact Nat.le_of_ble_eq_true rfl) (fun ro n' h' q _ => by cases q.1) (fun E n' h' q _ => ?_)
  obtain ⟨e, rfl, rfl⟩ := q
  cases e
  refine wt_catch_n [] (0, 9, 12, 19) [] rfl (fun y hy => absurd hy List.not_mem_nil) (by decide) (by decide) wk_L_19 (List.mem_of_getElem? (i := 1) rfl) dL_setOutside_12 rfl (by exact Nat.le_of_ble_eq_true rfl) ?_
  refine wa_iconst (x := 1) dL_setOutside_13 (by decide) ?_
  exact wa_ireturn dL_setOutside_14 ⟨by omega, by omega, ⟨_, rfl, rfl⟩, rfl, rfl, rfl⟩
theorem wl_setControl_0 {n dp mc ms : Nat} {S : SS} {Q0 : ab_R → Nat → ab_H → Prop} {P : Int32 → Nat → SS → Prop} {a b c : Int32} (hn : 279 ≤ n) (hA : AM yX6_setControl cX6_setControl 5 (some .int) [] dp mc ms [.ref 0, .int a, .int b, .int c] n (Hp S) Q0) (hq : ∀ r n' h', Q0 r n' h' → ∃ (v : Int32) (S' : SS), r = .inl (some (.int v)) ∧ h' = Hp S' ∧ P v n' S') : AM yL_setControl cL_setControl 6 (some .int) [(0, 12, 15, 19)] (dp + 1) mc ms [.ref 0, .int a, .int b, .int c, .ref 277] n (Hp S) (fun r n' h' => r = .inl (some (.int 0)) ∧ ∃ (v : Int32) (S' : SS), h' = Hp (so S' v.toInt64) ∧ n ≤ n' ∧ P v n' S') := by
  intro has
  change WA RL cL_setControl 6 [(0, 12, 15, 19)] _ _ 0 0 0 [some (.ref 0), some (.int a), some (.int b), some (.int c), some (.ref 277), none] [] n _
  refine wa_aload dL_setControl_0 rfl ?_
  refine wa_iconst (x := 0) dL_setControl_2 (by decide) ?_
  refine wa_aload_n dL_setControl_3 rfl ?_
  refine wa_iload_n dL_setControl_4 rfl ?_
  refine wa_iload_n dL_setControl_5 rfl ?_
  refine wa_iload_n dL_setControl_6 rfl ?_
  refine wa_callV (As := [.int a, .int b, .int c]) dL_setControl_7 lk_L_124 hA rfl (isO_VR _ _ _) rfl (Or.inl (ltS hn)) (by exact Nat.le_of_ble_eq_true rfl) (fitW (by decide)) (by exact Nat.le_of_ble_eq_true rfl) (fun ro n' h' q hn' => ?_) (fun E n' h' q _ => by obtain ⟨v, S', e, -⟩ := hq _ _ _ q; cases e)
  obtain ⟨v, S', e, rfl, hP⟩ := hq _ _ _ q
  cases e
  refine wa_i2l dL_setControl_10 ?_
  refine s_last (by omega) dL_setControl_11 ?_
  refine wa_goto 19 dL_setControl_12 rfl ?_
  refine wa_iconst (x := 0) dL_setControl_19 (by decide) ?_
  exact wa_ireturn dL_setControl_20 ⟨by omega, by omega, ⟨_, rfl, rfl⟩, rfl, v, S', rfl, hn', hP⟩
theorem wl_setControl_1 {n dp mc ms : Nat} {S : SS} {a b c : Int32} (hn : 279 ≤ n) (hA : AM yX6_setControl cX6_setControl 5 (some .int) [] dp mc ms [.ref 0, .int a, .int b, .int c] n (Hp S) (PX ab_xA n S)) : AM yL_setControl cL_setControl 6 (some .int) [(0, 12, 15, 19)] (dp + 1) mc ms [.ref 0, .int a, .int b, .int c, .ref 277] n (Hp S) (PI 1 n S) := by
  intro has
  change WA RL cL_setControl 6 [(0, 12, 15, 19)] _ _ 0 0 0 [some (.ref 0), some (.int a), some (.int b), some (.int c), some (.ref 277), none] [] n _
  refine wa_aload dL_setControl_0 rfl ?_
  refine wa_iconst (x := 0) dL_setControl_2 (by decide) ?_
  refine wa_aload_n dL_setControl_3 rfl ?_
  refine wa_iload_n dL_setControl_4 rfl ?_
  refine wa_iload_n dL_setControl_5 rfl ?_
  refine wa_iload_n dL_setControl_6 rfl ?_
  refine wa_callV (As := [.int a, .int b, .int c]) dL_setControl_7 lk_L_124 hA rfl (isO_VR _ _ _) rfl (Or.inl (ltS hn)) (by exact Nat.le_of_ble_eq_true rfl) (fitW (by decide)) (by exact Nat.le_of_ble_eq_true rfl) (fun ro n' h' q _ => by cases q.1) (fun E n' h' q _ => ?_)
  obtain ⟨e, rfl, rfl⟩ := q
  cases e
  refine wt_catch [] (0, 12, 15, 19) [] rfl (fun y hy => absurd hy List.not_mem_nil) (by decide) (by decide) wk_L_19 (List.mem_of_getElem? (i := 1) rfl) dL_setControl_15 rfl (by exact Nat.le_of_ble_eq_true rfl) ?_
  refine wa_iconst (x := 1) dL_setControl_17 (by decide) ?_
  exact wa_ireturn dL_setControl_18 ⟨by omega, by omega, ⟨_, rfl, rfl⟩, rfl, rfl, rfl⟩
theorem wl_newBattery_0 {n dp mc ms : Nat} {S : SS} {Q0 : ab_R → Nat → ab_H → Prop} {P : Int32 → Nat → SS → Prop} {a b : Int32} (hn : 279 ≤ n) (hA : AM yX6_newBattery cX6_newBattery 5 (some .int) [] dp mc ms [.ref 0, .int a, .int b] n (Hp S) Q0) (hq : ∀ r n' h', Q0 r n' h' → ∃ (v : Int32) (S' : SS), r = .inl (some (.int v)) ∧ h' = Hp S' ∧ P v n' S') : AM yL_newBattery cL_newBattery 5 (some .int) [(0, 10, 13, 29), (0, 10, 17, 19)] (dp + 1) mc ms [.ref 0, .int a, .int b, .ref 277] n (Hp S) (fun r n' h' => r = .inl (some (.int 0)) ∧ ∃ (v : Int32) (S' : SS), h' = Hp (so S' v.toInt64) ∧ n ≤ n' ∧ P v n' S') := by
  intro has
  change WA RL cL_newBattery 5 [(0, 10, 13, 29), (0, 10, 17, 19)] _ _ 0 0 0 [some (.ref 0), some (.int a), some (.int b), some (.ref 277), none] [] n _
  refine wa_aload_n dL_newBattery_0 rfl ?_
  refine wa_iconst (x := 0) dL_newBattery_1 (by decide) ?_
  refine wa_aload_n dL_newBattery_2 rfl ?_
  refine wa_iload_n dL_newBattery_3 rfl ?_
  refine wa_iload_n dL_newBattery_4 rfl ?_
  refine wa_callV (As := [.int a, .int b]) dL_newBattery_5 lk_L_127 hA rfl (isO_VR _ _ _) rfl (Or.inl (ltS hn)) (by exact Nat.le_of_ble_eq_true rfl) (fitW (by decide)) (by exact Nat.le_of_ble_eq_true rfl) (fun ro n' h' q hn' => ?_) (fun E n' h' q _ => by obtain ⟨v, S', e, -⟩ := hq _ _ _ q; cases e)
  obtain ⟨v, S', e, rfl, hP⟩ := hq _ _ _ q
  cases e
  refine wa_i2l dL_newBattery_8 ?_
  refine s_last (by omega) dL_newBattery_9 ?_
  refine wa_goto 21 dL_newBattery_10 rfl ?_
  refine wa_iconst (x := 0) dL_newBattery_21 (by decide) ?_
  exact wa_ireturn dL_newBattery_22 ⟨by omega, by omega, ⟨_, rfl, rfl⟩, rfl, v, S', rfl, hn', hP⟩
theorem wl_newBattery_1 {n dp mc ms : Nat} {S : SS} {a b : Int32} (hn : 279 ≤ n) (hA : AM yX6_newBattery cX6_newBattery 5 (some .int) [] dp mc ms [.ref 0, .int a, .int b] n (Hp S) (PX ab_xI n S)) : AM yL_newBattery cL_newBattery 5 (some .int) [(0, 10, 13, 29), (0, 10, 17, 19)] (dp + 1) mc ms [.ref 0, .int a, .int b, .ref 277] n (Hp S) (PI 1 n S) := by
  intro has
  change WA RL cL_newBattery 5 [(0, 10, 13, 29), (0, 10, 17, 19)] _ _ 0 0 0 [some (.ref 0), some (.int a), some (.int b), some (.ref 277), none] [] n _
  refine wa_aload_n dL_newBattery_0 rfl ?_
  refine wa_iconst (x := 0) dL_newBattery_1 (by decide) ?_
  refine wa_aload_n dL_newBattery_2 rfl ?_
  refine wa_iload_n dL_newBattery_3 rfl ?_
  refine wa_iload_n dL_newBattery_4 rfl ?_
  refine wa_callV (As := [.int a, .int b]) dL_newBattery_5 lk_L_127 hA rfl (isO_VR _ _ _) rfl (Or.inl (ltS hn)) (by exact Nat.le_of_ble_eq_true rfl) (fitW (by decide)) (by exact Nat.le_of_ble_eq_true rfl) (fun ro n' h' q _ => by cases q.1) (fun E n' h' q _ => ?_)
  obtain ⟨e, rfl, rfl⟩ := q
  cases e
  refine wt_catch [] (0, 10, 13, 29) [(0, 10, 17, 19)] rfl (fun y hy => absurd hy List.not_mem_nil) (by decide) (by decide) wk_L_29 (List.mem_of_getElem? (i := 0) rfl) dL_newBattery_13 rfl (by exact Nat.le_of_ble_eq_true rfl) ?_
  refine wa_iconst (x := 1) dL_newBattery_15 (by decide) ?_
  exact wa_ireturn dL_newBattery_16 ⟨by omega, by omega, ⟨_, rfl, rfl⟩, rfl, rfl, rfl⟩
theorem wl_newBattery_2 {n dp mc ms : Nat} {S : SS} {a b : Int32} (hn : 279 ≤ n) (hA : AM yX6_newBattery cX6_newBattery 5 (some .int) [] dp mc ms [.ref 0, .int a, .int b] n (Hp S) (PX ab_xA n S)) : AM yL_newBattery cL_newBattery 5 (some .int) [(0, 10, 13, 29), (0, 10, 17, 19)] (dp + 1) mc ms [.ref 0, .int a, .int b, .ref 277] n (Hp S) (PI 2 n S) := by
  intro has
  change WA RL cL_newBattery 5 [(0, 10, 13, 29), (0, 10, 17, 19)] _ _ 0 0 0 [some (.ref 0), some (.int a), some (.int b), some (.ref 277), none] [] n _
  refine wa_aload_n dL_newBattery_0 rfl ?_
  refine wa_iconst (x := 0) dL_newBattery_1 (by decide) ?_
  refine wa_aload_n dL_newBattery_2 rfl ?_
  refine wa_iload_n dL_newBattery_3 rfl ?_
  refine wa_iload_n dL_newBattery_4 rfl ?_
  refine wa_callV (As := [.int a, .int b]) dL_newBattery_5 lk_L_127 hA rfl (isO_VR _ _ _) rfl (Or.inl (ltS hn)) (by exact Nat.le_of_ble_eq_true rfl) (fitW (by decide)) (by exact Nat.le_of_ble_eq_true rfl) (fun ro n' h' q _ => by cases q.1) (fun E n' h' q _ => ?_)
  obtain ⟨e, rfl, rfl⟩ := q
  cases e
  refine wt_catch [(0, 10, 13, 29)] (0, 10, 17, 19) [] rfl (fun y hy => by
    simp only [List.mem_cons, List.not_mem_nil, or_false] at hy
    subst hy
    exact Or.inr ⟨by decide, ab_xI, wk_L_29, List.mem_of_getElem? (i := 0) rfl⟩) (by decide) (by decide) wk_L_19 (List.mem_of_getElem? (i := 1) rfl) dL_newBattery_17 rfl (by exact Nat.le_of_ble_eq_true rfl) ?_
  refine wa_iconst (x := 2) dL_newBattery_19 (by decide) ?_
  exact wa_ireturn dL_newBattery_20 ⟨by omega, by omega, ⟨_, rfl, rfl⟩, rfl, rfl, rfl⟩
theorem wl_turn_0 {n dp mc ms : Nat} {S : SS} {Q0 : ab_R → Nat → ab_H → Prop} {P : Int32 → Nat → SS → Prop} {a b : Int32} (hn : 279 ≤ n) (hA : AM yX6_turn cX6_turn 5 (some .int) [] dp mc ms [.ref 0, .int a, .int b] n (Hp S) Q0) (hq : ∀ r n' h', Q0 r n' h' → ∃ (v : Int32) (S' : SS), r = .inl (some (.int v)) ∧ h' = Hp S' ∧ P v n' S') : AM yL_turn cL_turn 5 (some .int) [(0, 10, 13, 29), (0, 10, 17, 19)] (dp + 1) mc ms [.ref 0, .int a, .int b, .ref 277] n (Hp S) (fun r n' h' => r = .inl (some (.int 0)) ∧ ∃ (v : Int32) (S' : SS), h' = Hp (so S' v.toInt64) ∧ n ≤ n' ∧ P v n' S') := by
  intro has
  change WA RL cL_turn 5 [(0, 10, 13, 29), (0, 10, 17, 19)] _ _ 0 0 0 [some (.ref 0), some (.int a), some (.int b), some (.ref 277), none] [] n _
  refine wa_aload_n dL_turn_0 rfl ?_
  refine wa_iconst (x := 0) dL_turn_1 (by decide) ?_
  refine wa_aload_n dL_turn_2 rfl ?_
  refine wa_iload_n dL_turn_3 rfl ?_
  refine wa_iload_n dL_turn_4 rfl ?_
  refine wa_callV (As := [.int a, .int b]) dL_turn_5 lk_L_130 hA rfl (isO_VR _ _ _) rfl (Or.inl (ltS hn)) (by exact Nat.le_of_ble_eq_true rfl) (fitW (by decide)) (by exact Nat.le_of_ble_eq_true rfl) (fun ro n' h' q hn' => ?_) (fun E n' h' q _ => by obtain ⟨v, S', e, -⟩ := hq _ _ _ q; cases e)
  obtain ⟨v, S', e, rfl, hP⟩ := hq _ _ _ q
  cases e
  refine wa_i2l dL_turn_8 ?_
  refine s_last (by omega) dL_turn_9 ?_
  refine wa_goto 21 dL_turn_10 rfl ?_
  refine wa_iconst (x := 0) dL_turn_21 (by decide) ?_
  exact wa_ireturn dL_turn_22 ⟨by omega, by omega, ⟨_, rfl, rfl⟩, rfl, v, S', rfl, hn', hP⟩
theorem wl_turn_1 {n dp mc ms : Nat} {S : SS} {a b : Int32} (hn : 279 ≤ n) (hA : AM yX6_turn cX6_turn 5 (some .int) [] dp mc ms [.ref 0, .int a, .int b] n (Hp S) (PX ab_xI n S)) : AM yL_turn cL_turn 5 (some .int) [(0, 10, 13, 29), (0, 10, 17, 19)] (dp + 1) mc ms [.ref 0, .int a, .int b, .ref 277] n (Hp S) (PI 1 n S) := by
  intro has
  change WA RL cL_turn 5 [(0, 10, 13, 29), (0, 10, 17, 19)] _ _ 0 0 0 [some (.ref 0), some (.int a), some (.int b), some (.ref 277), none] [] n _
  refine wa_aload_n dL_turn_0 rfl ?_
  refine wa_iconst (x := 0) dL_turn_1 (by decide) ?_
  refine wa_aload_n dL_turn_2 rfl ?_
  refine wa_iload_n dL_turn_3 rfl ?_
  refine wa_iload_n dL_turn_4 rfl ?_
  refine wa_callV (As := [.int a, .int b]) dL_turn_5 lk_L_130 hA rfl (isO_VR _ _ _) rfl (Or.inl (ltS hn)) (by exact Nat.le_of_ble_eq_true rfl) (fitW (by decide)) (by exact Nat.le_of_ble_eq_true rfl) (fun ro n' h' q _ => by cases q.1) (fun E n' h' q _ => ?_)
  obtain ⟨e, rfl, rfl⟩ := q
  cases e
  refine wt_catch [] (0, 10, 13, 29) [(0, 10, 17, 19)] rfl (fun y hy => absurd hy List.not_mem_nil) (by decide) (by decide) wk_L_29 (List.mem_of_getElem? (i := 0) rfl) dL_turn_13 rfl (by exact Nat.le_of_ble_eq_true rfl) ?_
  refine wa_iconst (x := 1) dL_turn_15 (by decide) ?_
  exact wa_ireturn dL_turn_16 ⟨by omega, by omega, ⟨_, rfl, rfl⟩, rfl, rfl, rfl⟩
theorem wl_turn_2 {n dp mc ms : Nat} {S : SS} {a b : Int32} (hn : 279 ≤ n) (hA : AM yX6_turn cX6_turn 5 (some .int) [] dp mc ms [.ref 0, .int a, .int b] n (Hp S) (PX ab_xA n S)) : AM yL_turn cL_turn 5 (some .int) [(0, 10, 13, 29), (0, 10, 17, 19)] (dp + 1) mc ms [.ref 0, .int a, .int b, .ref 277] n (Hp S) (PI 2 n S) := by
  intro has
  change WA RL cL_turn 5 [(0, 10, 13, 29), (0, 10, 17, 19)] _ _ 0 0 0 [some (.ref 0), some (.int a), some (.int b), some (.ref 277), none] [] n _
  refine wa_aload_n dL_turn_0 rfl ?_
  refine wa_iconst (x := 0) dL_turn_1 (by decide) ?_
  refine wa_aload_n dL_turn_2 rfl ?_
  refine wa_iload_n dL_turn_3 rfl ?_
  refine wa_iload_n dL_turn_4 rfl ?_
  refine wa_callV (As := [.int a, .int b]) dL_turn_5 lk_L_130 hA rfl (isO_VR _ _ _) rfl (Or.inl (ltS hn)) (by exact Nat.le_of_ble_eq_true rfl) (fitW (by decide)) (by exact Nat.le_of_ble_eq_true rfl) (fun ro n' h' q _ => by cases q.1) (fun E n' h' q _ => ?_)
  obtain ⟨e, rfl, rfl⟩ := q
  cases e
  refine wt_catch [(0, 10, 13, 29)] (0, 10, 17, 19) [] rfl (fun y hy => by
    simp only [List.mem_cons, List.not_mem_nil, or_false] at hy
    subst hy
    exact Or.inr ⟨by decide, ab_xI, wk_L_29, List.mem_of_getElem? (i := 0) rfl⟩) (by decide) (by decide) wk_L_19 (List.mem_of_getElem? (i := 1) rfl) dL_turn_17 rfl (by exact Nat.le_of_ble_eq_true rfl) ?_
  refine wa_iconst (x := 2) dL_turn_19 (by decide) ?_
  exact wa_ireturn dL_turn_20 ⟨by omega, by omega, ⟨_, rfl, rfl⟩, rfl, rfl, rfl⟩
theorem wl_keep_0 {n dp mc ms : Nat} {S : SS} {Q0 : ab_R → Nat → ab_H → Prop} {P : Int32 → Nat → SS → Prop} {a : Int32} (hn : 279 ≤ n) (hA : AM yX6_keep cX6_keep 2 (some .int) [] dp mc ms [.ref 0, .int a] n (Hp S) Q0) (hq : ∀ r n' h', Q0 r n' h' → ∃ (v : Int32) (S' : SS), r = .inl (some (.int v)) ∧ h' = Hp S' ∧ P v n' S') : AM yL_keep cL_keep 4 (some .int) [(0, 9, 12, 29)] (dp + 1) mc ms [.ref 0, .int a, .ref 277] n (Hp S) (fun r n' h' => r = .inl (some (.int 0)) ∧ ∃ (v : Int32) (S' : SS), h' = Hp (so S' v.toInt64) ∧ n ≤ n' ∧ P v n' S') := by
  intro has
  change WA RL cL_keep 4 [(0, 9, 12, 29)] _ _ 0 0 0 [some (.ref 0), some (.int a), some (.ref 277), none] [] n _
  refine wa_aload_n dL_keep_0 rfl ?_
  refine wa_iconst (x := 0) dL_keep_1 (by decide) ?_
  refine wa_aload_n dL_keep_2 rfl ?_
  refine wa_iload_n dL_keep_3 rfl ?_
  refine wa_callV (As := [.int a]) dL_keep_4 lk_L_133 hA rfl (isO_VR _ _ _) rfl (Or.inl (ltS hn)) (by exact Nat.le_of_ble_eq_true rfl) (fitW (by decide)) (by exact Nat.le_of_ble_eq_true rfl) (fun ro n' h' q hn' => ?_) (fun E n' h' q _ => by obtain ⟨v, S', e, -⟩ := hq _ _ _ q; cases e)
  obtain ⟨v, S', e, rfl, hP⟩ := hq _ _ _ q
  cases e
  refine wa_i2l dL_keep_7 ?_
  refine s_last (by omega) dL_keep_8 ?_
  refine wa_goto 15 dL_keep_9 rfl ?_
  refine wa_iconst (x := 0) dL_keep_15 (by decide) ?_
  exact wa_ireturn dL_keep_16 ⟨by omega, by omega, ⟨_, rfl, rfl⟩, rfl, v, S', rfl, hn', hP⟩
theorem wl_keep_1 {n dp mc ms : Nat} {S : SS} {a : Int32} (hn : 279 ≤ n) (hA : AM yX6_keep cX6_keep 2 (some .int) [] dp mc ms [.ref 0, .int a] n (Hp S) (PX ab_xI n S)) : AM yL_keep cL_keep 4 (some .int) [(0, 9, 12, 29)] (dp + 1) mc ms [.ref 0, .int a, .ref 277] n (Hp S) (PI 1 n S) := by
  intro has
  change WA RL cL_keep 4 [(0, 9, 12, 29)] _ _ 0 0 0 [some (.ref 0), some (.int a), some (.ref 277), none] [] n _
  refine wa_aload_n dL_keep_0 rfl ?_
  refine wa_iconst (x := 0) dL_keep_1 (by decide) ?_
  refine wa_aload_n dL_keep_2 rfl ?_
  refine wa_iload_n dL_keep_3 rfl ?_
  refine wa_callV (As := [.int a]) dL_keep_4 lk_L_133 hA rfl (isO_VR _ _ _) rfl (Or.inl (ltS hn)) (by exact Nat.le_of_ble_eq_true rfl) (fitW (by decide)) (by exact Nat.le_of_ble_eq_true rfl) (fun ro n' h' q _ => by cases q.1) (fun E n' h' q _ => ?_)
  obtain ⟨e, rfl, rfl⟩ := q
  cases e
  refine wt_catch_n [] (0, 9, 12, 29) [] rfl (fun y hy => absurd hy List.not_mem_nil) (by decide) (by decide) wk_L_29 (List.mem_of_getElem? (i := 0) rfl) dL_keep_12 rfl (by exact Nat.le_of_ble_eq_true rfl) ?_
  refine wa_iconst (x := 1) dL_keep_13 (by decide) ?_
  exact wa_ireturn dL_keep_14 ⟨by omega, by omega, ⟨_, rfl, rfl⟩, rfl, rfl, rfl⟩
theorem wl_restore_0 {n dp mc ms : Nat} {S : SS} {Q0 : ab_R → Nat → ab_H → Prop} {P : Int32 → Nat → SS → Prop} {a : Int32} (hn : 279 ≤ n) (hA : AM yX6_restore cX6_restore 2 (some .int) [] dp mc ms [.ref 0, .int a] n (Hp S) Q0) (hq : ∀ r n' h', Q0 r n' h' → ∃ (v : Int32) (S' : SS), r = .inl (some (.int v)) ∧ h' = Hp S' ∧ P v n' S') : AM yL_restore cL_restore 4 (some .int) [(0, 9, 12, 29), (0, 9, 15, 13)] (dp + 1) mc ms [.ref 0, .int a, .ref 277] n (Hp S) (fun r n' h' => r = .inl (some (.int 0)) ∧ ∃ (v : Int32) (S' : SS), h' = Hp (so S' v.toInt64) ∧ n ≤ n' ∧ P v n' S') := by
  intro has
  change WA RL cL_restore 4 [(0, 9, 12, 29), (0, 9, 15, 13)] _ _ 0 0 0 [some (.ref 0), some (.int a), some (.ref 277), none] [] n _
  refine wa_aload_n dL_restore_0 rfl ?_
  refine wa_iconst (x := 0) dL_restore_1 (by decide) ?_
  refine wa_aload_n dL_restore_2 rfl ?_
  refine wa_iload_n dL_restore_3 rfl ?_
  refine wa_callV (As := [.int a]) dL_restore_4 lk_L_136 hA rfl (isO_VR _ _ _) rfl (Or.inl (ltS hn)) (by exact Nat.le_of_ble_eq_true rfl) (fitW (by decide)) (by exact Nat.le_of_ble_eq_true rfl) (fun ro n' h' q hn' => ?_) (fun E n' h' q _ => by obtain ⟨v, S', e, -⟩ := hq _ _ _ q; cases e)
  obtain ⟨v, S', e, rfl, hP⟩ := hq _ _ _ q
  cases e
  refine wa_i2l dL_restore_7 ?_
  refine s_last (by omega) dL_restore_8 ?_
  refine wa_goto 18 dL_restore_9 rfl ?_
  refine wa_iconst (x := 0) dL_restore_18 (by decide) ?_
  exact wa_ireturn dL_restore_19 ⟨by omega, by omega, ⟨_, rfl, rfl⟩, rfl, v, S', rfl, hn', hP⟩
theorem wl_restore_1 {n dp mc ms : Nat} {S : SS} {a : Int32} (hn : 279 ≤ n) (hA : AM yX6_restore cX6_restore 2 (some .int) [] dp mc ms [.ref 0, .int a] n (Hp S) (PX ab_xI n S)) : AM yL_restore cL_restore 4 (some .int) [(0, 9, 12, 29), (0, 9, 15, 13)] (dp + 1) mc ms [.ref 0, .int a, .ref 277] n (Hp S) (PI 1 n S) := by
  intro has
  change WA RL cL_restore 4 [(0, 9, 12, 29), (0, 9, 15, 13)] _ _ 0 0 0 [some (.ref 0), some (.int a), some (.ref 277), none] [] n _
  refine wa_aload_n dL_restore_0 rfl ?_
  refine wa_iconst (x := 0) dL_restore_1 (by decide) ?_
  refine wa_aload_n dL_restore_2 rfl ?_
  refine wa_iload_n dL_restore_3 rfl ?_
  refine wa_callV (As := [.int a]) dL_restore_4 lk_L_136 hA rfl (isO_VR _ _ _) rfl (Or.inl (ltS hn)) (by exact Nat.le_of_ble_eq_true rfl) (fitW (by decide)) (by exact Nat.le_of_ble_eq_true rfl) (fun ro n' h' q _ => by cases q.1) (fun E n' h' q _ => ?_)
  obtain ⟨e, rfl, rfl⟩ := q
  cases e
  refine wt_catch_n [] (0, 9, 12, 29) [(0, 9, 15, 13)] rfl (fun y hy => absurd hy List.not_mem_nil) (by decide) (by decide) wk_L_29 (List.mem_of_getElem? (i := 0) rfl) dL_restore_12 rfl (by exact Nat.le_of_ble_eq_true rfl) ?_
  refine wa_iconst (x := 1) dL_restore_13 (by decide) ?_
  exact wa_ireturn dL_restore_14 ⟨by omega, by omega, ⟨_, rfl, rfl⟩, rfl, rfl, rfl⟩
theorem wl_restore_2 {n dp mc ms : Nat} {S : SS} {a : Int32} (hn : 279 ≤ n) (hA : AM yX6_restore cX6_restore 2 (some .int) [] dp mc ms [.ref 0, .int a] n (Hp S) (PX ab_xS n S)) : AM yL_restore cL_restore 4 (some .int) [(0, 9, 12, 29), (0, 9, 15, 13)] (dp + 1) mc ms [.ref 0, .int a, .ref 277] n (Hp S) (PI 2 n S) := by
  intro has
  change WA RL cL_restore 4 [(0, 9, 12, 29), (0, 9, 15, 13)] _ _ 0 0 0 [some (.ref 0), some (.int a), some (.ref 277), none] [] n _
  refine wa_aload_n dL_restore_0 rfl ?_
  refine wa_iconst (x := 0) dL_restore_1 (by decide) ?_
  refine wa_aload_n dL_restore_2 rfl ?_
  refine wa_iload_n dL_restore_3 rfl ?_
  refine wa_callV (As := [.int a]) dL_restore_4 lk_L_136 hA rfl (isO_VR _ _ _) rfl (Or.inl (ltS hn)) (by exact Nat.le_of_ble_eq_true rfl) (fitW (by decide)) (by exact Nat.le_of_ble_eq_true rfl) (fun ro n' h' q _ => by cases q.1) (fun E n' h' q _ => ?_)
  obtain ⟨e, rfl, rfl⟩ := q
  cases e
  refine wt_catch_n [(0, 9, 12, 29)] (0, 9, 15, 13) [] rfl (fun y hy => by
    simp only [List.mem_cons, List.not_mem_nil, or_false] at hy
    subst hy
    exact Or.inr ⟨by decide, ab_xI, wk_L_29, List.mem_of_getElem? (i := 1) rfl⟩) (by decide) (by decide) wk_L_13 (List.mem_of_getElem? (i := 2) rfl) dL_restore_15 rfl (by exact Nat.le_of_ble_eq_true rfl) ?_
  refine wa_iconst (x := 2) dL_restore_16 (by decide) ?_
  exact wa_ireturn dL_restore_17 ⟨by omega, by omega, ⟨_, rfl, rfl⟩, rfl, rfl, rfl⟩
theorem wl_undo_0 {n dp mc ms : Nat} {S : SS} {Q0 : ab_R → Nat → ab_H → Prop} {P : Int32 → Nat → SS → Prop} (hn : 279 ≤ n) (hA : AM yX6_undo cX6_undo 1 (some .int) [] dp mc ms [.ref 0] n (Hp S) Q0) (hq : ∀ r n' h', Q0 r n' h' → ∃ (v : Int32) (S' : SS), r = .inl (some (.int v)) ∧ h' = Hp S' ∧ P v n' S') : AM yL_undo cL_undo 3 (some .int) [(0, 8, 11, 13)] (dp + 1) mc ms [.ref 0, .ref 277] n (Hp S) (fun r n' h' => r = .inl (some (.int 0)) ∧ ∃ (v : Int32) (S' : SS), h' = Hp (so S' v.toInt64) ∧ n ≤ n' ∧ P v n' S') := by
  intro has
  change WA RL cL_undo 3 [(0, 8, 11, 13)] _ _ 0 0 0 [some (.ref 0), some (.ref 277), none] [] n _
  refine wa_aload_n dL_undo_0 rfl ?_
  refine wa_iconst (x := 0) dL_undo_1 (by decide) ?_
  refine wa_aload_n dL_undo_2 rfl ?_
  refine wa_callV (As := []) dL_undo_3 lk_L_139 hA rfl (isO_VR _ _ _) rfl (Or.inl (ltS hn)) (by exact Nat.le_of_ble_eq_true rfl) (fitW (by decide)) (by exact Nat.le_of_ble_eq_true rfl) (fun ro n' h' q hn' => ?_) (fun E n' h' q _ => by obtain ⟨v, S', e, -⟩ := hq _ _ _ q; cases e)
  obtain ⟨v, S', e, rfl, hP⟩ := hq _ _ _ q
  cases e
  refine wa_i2l dL_undo_6 ?_
  refine s_last (by omega) dL_undo_7 ?_
  refine wa_goto 14 dL_undo_8 rfl ?_
  refine wa_iconst (x := 0) dL_undo_14 (by decide) ?_
  exact wa_ireturn dL_undo_15 ⟨by omega, by omega, ⟨_, rfl, rfl⟩, rfl, v, S', rfl, hn', hP⟩
theorem wl_undo_1 {n dp mc ms : Nat} {S : SS} (hn : 279 ≤ n) (hA : AM yX6_undo cX6_undo 1 (some .int) [] dp mc ms [.ref 0] n (Hp S) (PX ab_xS n S)) : AM yL_undo cL_undo 3 (some .int) [(0, 8, 11, 13)] (dp + 1) mc ms [.ref 0, .ref 277] n (Hp S) (PI 1 n S) := by
  intro has
  change WA RL cL_undo 3 [(0, 8, 11, 13)] _ _ 0 0 0 [some (.ref 0), some (.ref 277), none] [] n _
  refine wa_aload_n dL_undo_0 rfl ?_
  refine wa_iconst (x := 0) dL_undo_1 (by decide) ?_
  refine wa_aload_n dL_undo_2 rfl ?_
  refine wa_callV (As := []) dL_undo_3 lk_L_139 hA rfl (isO_VR _ _ _) rfl (Or.inl (ltS hn)) (by exact Nat.le_of_ble_eq_true rfl) (fitW (by decide)) (by exact Nat.le_of_ble_eq_true rfl) (fun ro n' h' q _ => by cases q.1) (fun E n' h' q _ => ?_)
  obtain ⟨e, rfl, rfl⟩ := q
  cases e
  refine wt_catch_n [] (0, 8, 11, 13) [] rfl (fun y hy => absurd hy List.not_mem_nil) (by decide) (by decide) wk_L_13 (List.mem_of_getElem? (i := 2) rfl) dL_undo_11 rfl (by exact Nat.le_of_ble_eq_true rfl) ?_
  refine wa_iconst (x := 1) dL_undo_12 (by decide) ?_
  exact wa_ireturn dL_undo_13 ⟨by omega, by omega, ⟨_, rfl, rfl⟩, rfl, rfl, rfl⟩
theorem wl_writeProgram_0 {n dp mc ms : Nat} {S : SS} {Q0 : ab_R → Nat → ab_H → Prop} {P : Int32 → Nat → SS → Prop} {a : Int32} (hn : 279 ≤ n) (hA : AM yX6_writeProgram cX6_writeProgram 4 (some .int) [] dp mc ms [.ref 0, .int a] n (Hp S) Q0) (hq : ∀ r n' h', Q0 r n' h' → ∃ (v : Int32) (S' : SS), r = .inl (some (.int v)) ∧ h' = Hp S' ∧ P v n' S') : AM yL_writeProgram cL_writeProgram 4 (some .int) [(0, 9, 12, 29)] (dp + 1) mc ms [.ref 0, .int a, .ref 277] n (Hp S) (fun r n' h' => r = .inl (some (.int 0)) ∧ ∃ (v : Int32) (S' : SS), h' = Hp (so S' v.toInt64) ∧ n ≤ n' ∧ P v n' S') := by
  intro has
  change WA RL cL_writeProgram 4 [(0, 9, 12, 29)] _ _ 0 0 0 [some (.ref 0), some (.int a), some (.ref 277), none] [] n _
  refine wa_aload_n dL_writeProgram_0 rfl ?_
  refine wa_iconst (x := 0) dL_writeProgram_1 (by decide) ?_
  refine wa_aload_n dL_writeProgram_2 rfl ?_
  refine wa_iload_n dL_writeProgram_3 rfl ?_
  refine wa_callV (As := [.int a]) dL_writeProgram_4 lk_L_143 hA rfl (isO_VR _ _ _) rfl (Or.inl (ltS hn)) (by exact Nat.le_of_ble_eq_true rfl) (fitW (by decide)) (by exact Nat.le_of_ble_eq_true rfl) (fun ro n' h' q hn' => ?_) (fun E n' h' q _ => by obtain ⟨v, S', e, -⟩ := hq _ _ _ q; cases e)
  obtain ⟨v, S', e, rfl, hP⟩ := hq _ _ _ q
  cases e
  refine wa_i2l dL_writeProgram_7 ?_
  refine s_last (by omega) dL_writeProgram_8 ?_
  refine wa_goto 15 dL_writeProgram_9 rfl ?_
  refine wa_iconst (x := 0) dL_writeProgram_15 (by decide) ?_
  exact wa_ireturn dL_writeProgram_16 ⟨by omega, by omega, ⟨_, rfl, rfl⟩, rfl, v, S', rfl, hn', hP⟩
theorem wl_writeProgram_1 {n dp mc ms : Nat} {S : SS} {a : Int32} (hn : 279 ≤ n) (hA : AM yX6_writeProgram cX6_writeProgram 4 (some .int) [] dp mc ms [.ref 0, .int a] n (Hp S) (PX ab_xI n S)) : AM yL_writeProgram cL_writeProgram 4 (some .int) [(0, 9, 12, 29)] (dp + 1) mc ms [.ref 0, .int a, .ref 277] n (Hp S) (PI 1 n S) := by
  intro has
  change WA RL cL_writeProgram 4 [(0, 9, 12, 29)] _ _ 0 0 0 [some (.ref 0), some (.int a), some (.ref 277), none] [] n _
  refine wa_aload_n dL_writeProgram_0 rfl ?_
  refine wa_iconst (x := 0) dL_writeProgram_1 (by decide) ?_
  refine wa_aload_n dL_writeProgram_2 rfl ?_
  refine wa_iload_n dL_writeProgram_3 rfl ?_
  refine wa_callV (As := [.int a]) dL_writeProgram_4 lk_L_143 hA rfl (isO_VR _ _ _) rfl (Or.inl (ltS hn)) (by exact Nat.le_of_ble_eq_true rfl) (fitW (by decide)) (by exact Nat.le_of_ble_eq_true rfl) (fun ro n' h' q _ => by cases q.1) (fun E n' h' q _ => ?_)
  obtain ⟨e, rfl, rfl⟩ := q
  cases e
  refine wt_catch_n [] (0, 9, 12, 29) [] rfl (fun y hy => absurd hy List.not_mem_nil) (by decide) (by decide) wk_L_29 (List.mem_of_getElem? (i := 0) rfl) dL_writeProgram_12 rfl (by exact Nat.le_of_ble_eq_true rfl) ?_
  refine wa_iconst (x := 1) dL_writeProgram_13 (by decide) ?_
  exact wa_ireturn dL_writeProgram_14 ⟨by omega, by omega, ⟨_, rfl, rfl⟩, rfl, rfl, rfl⟩
theorem wl_outputByte_0 {n dp mc ms : Nat} {S : SS} {Q0 : ab_R → Nat → ab_H → Prop} {P : Int32 → Nat → SS → Prop} {a : Int32} (hn : 279 ≤ n) (hA : AM yX6_outputByte cX6_outputByte 2 (some .int) [] dp mc ms [.ref 0, .int a] n (Hp S) Q0) (hq : ∀ r n' h', Q0 r n' h' → ∃ (v : Int32) (S' : SS), r = .inl (some (.int v)) ∧ h' = Hp S' ∧ P v n' S') : AM yL_outputByte cL_outputByte 4 (some .int) [(0, 9, 12, 43)] (dp + 1) mc ms [.ref 0, .int a, .ref 277] n (Hp S) (fun r n' h' => r = .inl (some (.int 0)) ∧ ∃ (v : Int32) (S' : SS), h' = Hp (so S' v.toInt64) ∧ n ≤ n' ∧ P v n' S') := by
  intro has
  change WA RL cL_outputByte 4 [(0, 9, 12, 43)] _ _ 0 0 0 [some (.ref 0), some (.int a), some (.ref 277), none] [] n _
  refine wa_aload_n dL_outputByte_0 rfl ?_
  refine wa_iconst (x := 0) dL_outputByte_1 (by decide) ?_
  refine wa_aload_n dL_outputByte_2 rfl ?_
  refine wa_iload_n dL_outputByte_3 rfl ?_
  refine wa_callV (As := [.int a]) dL_outputByte_4 lk_L_146 hA rfl (isO_VR _ _ _) rfl (Or.inl (ltS hn)) (by exact Nat.le_of_ble_eq_true rfl) (fitW (by decide)) (by exact Nat.le_of_ble_eq_true rfl) (fun ro n' h' q hn' => ?_) (fun E n' h' q _ => by obtain ⟨v, S', e, -⟩ := hq _ _ _ q; cases e)
  obtain ⟨v, S', e, rfl, hP⟩ := hq _ _ _ q
  cases e
  refine wa_i2l dL_outputByte_7 ?_
  refine s_last (by omega) dL_outputByte_8 ?_
  refine wa_goto 15 dL_outputByte_9 rfl ?_
  refine wa_iconst (x := 0) dL_outputByte_15 (by decide) ?_
  exact wa_ireturn dL_outputByte_16 ⟨by omega, by omega, ⟨_, rfl, rfl⟩, rfl, v, S', rfl, hn', hP⟩
theorem wl_outputByte_1 {n dp mc ms : Nat} {S : SS} {a : Int32} (hn : 279 ≤ n) (hA : AM yX6_outputByte cX6_outputByte 2 (some .int) [] dp mc ms [.ref 0, .int a] n (Hp S) (PX ab_xN n S)) : AM yL_outputByte cL_outputByte 4 (some .int) [(0, 9, 12, 43)] (dp + 1) mc ms [.ref 0, .int a, .ref 277] n (Hp S) (PI 1 n S) := by
  intro has
  change WA RL cL_outputByte 4 [(0, 9, 12, 43)] _ _ 0 0 0 [some (.ref 0), some (.int a), some (.ref 277), none] [] n _
  refine wa_aload_n dL_outputByte_0 rfl ?_
  refine wa_iconst (x := 0) dL_outputByte_1 (by decide) ?_
  refine wa_aload_n dL_outputByte_2 rfl ?_
  refine wa_iload_n dL_outputByte_3 rfl ?_
  refine wa_callV (As := [.int a]) dL_outputByte_4 lk_L_146 hA rfl (isO_VR _ _ _) rfl (Or.inl (ltS hn)) (by exact Nat.le_of_ble_eq_true rfl) (fitW (by decide)) (by exact Nat.le_of_ble_eq_true rfl) (fun ro n' h' q _ => by cases q.1) (fun E n' h' q _ => ?_)
  obtain ⟨e, rfl, rfl⟩ := q
  cases e
  refine wt_catch_n [] (0, 9, 12, 43) [] rfl (fun y hy => absurd hy List.not_mem_nil) (by decide) (by decide) wk_L_43 (List.mem_of_getElem? (i := 3) rfl) dL_outputByte_12 rfl (by exact Nat.le_of_ble_eq_true rfl) ?_
  refine wa_iconst (x := 1) dL_outputByte_13 (by decide) ?_
  exact wa_ireturn dL_outputByte_14 ⟨by omega, by omega, ⟨_, rfl, rfl⟩, rfl, rfl, rfl⟩
