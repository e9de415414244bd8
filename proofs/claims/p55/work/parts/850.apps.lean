/-! ValveRoom's output: appends as steps of a walk. Written by program (wip/whole/gen/m850.py) but for the heads. -/
/-- the list l stands in the builder; k cells, z slots were made for it -/
def WB (n0 : Nat) (S0 : SS) (n : Nat) (S : SS) (j : Nat) (f : Nat → Int32) (l : List Int32) (k z : Nat) : Prop := SBI n S l.length j f ∧ (∀ i c, l[i]? = some c → f i = c) ∧ FRb n0 S0 S ∧ (n0 ≤ n ∧ n ≤ n0 + k) ∧ (k ≤ j ∧ z ≤ 2 * cpS j ∧ j ≤ 5)
theorem grw_5 {j m : Nat} (hj : j ≤ 5) (hm : m ≤ 500) : j + grw j m ≤ 5 ∧ grw j m ≤ 1 ∧ (∀ z, z ≤ 2 * cpS j → z + grs j m ≤ 2 * cpS (j + grw j m)) ∧ m ≤ cpS (j + 1) ∨ m ≤ 500 ∧ cpS (j + 1) < m := by
  by_cases hb : m ≤ cpS (j + 1)
  · refine Or.inl ⟨?_, ?_, fun z hz => ?_, hb⟩
    · unfold grw
      split
      · omega
      · rename_i h
        refine Nat.lt_of_le_of_ne hj (fun e => h ?_)
        subst e
        exact Nat.le_trans hm (by decide)
    · unfold grw
      split <;> omega
    · have := (cpS_s j).1
      unfold grw grs
      split
      · rw [Nat.add_zero]
        omega
      · omega
  · exact Or.inr ⟨hm, by omega⟩
theorem WB.go {n0 n n' k z j : Nat} {S0 S S' : SS} {f : Nat → Int32} {l x : List Int32} (h : WB n0 S0 n S j f l k z) (hl : l.length + x.length ≤ 500) (hx : x.length ≤ 16) (q : APL n S l.length j f x n' S') : (grw j (l.length + x.length) ≤ 1 ∧ k + grw j (l.length + x.length) ≤ 5 ∧ z + grs j (l.length + x.length) ≤ 1200) ∧ ∃ j' f', WB n0 S0 n' S' j' f' (l ++ x) (k + grw j (l.length + x.length)) (z + grs j (l.length + x.length)) := by
  obtain ⟨h1, h2, h3, h4, h5, h6, h7⟩ := h
  obtain ⟨q1, q2, f', q3, q4, q5⟩ := q
  have hs := (cpS_s j).1
  have h16 := (cpS_s j).2
  have hm := h1.2.2.2.1.1
  obtain ⟨g1, g2, g3, g4⟩ | ⟨g1, g2⟩ := grw_5 (j := j) (m := l.length + x.length) h7 hl
  · have h9 := g3 z h6
    have h8 : cpS (j + grw j (l.length + x.length)) ≤ 574 := (by decide : ∀ i, i < 6 → cpS i ≤ 574) _ (by omega)
    refine ⟨⟨g2, by omega, by omega⟩, _, f', ⟨by rw [List.length_append]; exact q3, fun i c hc => ?_, h3.tr q2 h4.1, by omega, by omega, h9, g1⟩⟩
    rw [List.getElem?_append] at hc
    split at hc
    · rw [q4 i (by assumption)]
      exact h2 i c hc
    · have := q5 _ c hc
      rwa [show l.length + (i - l.length) = i by omega] at this
  · omega
theorem grw_fit {n0 n k z j m : Nat} {S0 S : SS} {f : Nat → Int32} {l : List Int32} (h : WB n0 S0 n S j f l k z) (hl : m ≤ 500) (_h : 0 ≤ m) : k + grw j m ≤ 5 ∧ z + grs j m ≤ 1200 := by
  obtain ⟨h1, h2, h3, h4, h5, h6, h7⟩ := h
  have hs := (cpS_s j).1
  have key : ∀ i, i < 6 → cpS i ≤ 574 ∧ (i < 5 → cpS i ≤ 286) := by decide
  have k1 := key j (by omega)
  unfold grw grs
  split
  · have := k1.1
    refine ⟨by omega, ?_⟩
    omega
  · rename_i hh
    have h5' : j < 5 := Nat.lt_of_le_of_ne h7 (fun e => hh (by subst e; exact Nat.le_trans hl (by decide)))
    have k2 := key (j + 1) (by omega)
    have := k1.2 h5'
    refine ⟨by omega, ?_⟩
    omega
section AP
variable {Xx : ab_X} {own : String} {cc : ByteArray} {nL : Nat} {hh : List (Nat × Nat × Nat × Nat)} {Q : ab_Q} {k z pc : Nat} {ls : List (Option Value)} {st : List Value} {n : Nat} {index d : Nat} {n0 j : Nat} {S0 S : SS} {f : Nat → Int32} {l : List Int32}
theorem ap_C (dd : decode cc pc = .ok (.invokevirtual index, 3)) (lk : ab_lkV own index yJ4_append_cf468 cJ4_append_cf468 2 (some (.object "java/lang/StringBuilder")) 1) (hn : 269 ≤ n) (hw : WB n0 S0 n S j f l k z) (hn1 : n + 1 < ab_CB) (hd : 6 ≤ d) {K0 Z0 MC MS : Nat} (hK : K0 + 5 ≤ MC) (hZ : Z0 + 1200 ≤ MS) {x : Int32} (hx : 0 ≤ x.toInt ∧ x.toInt < 128) (hl : l.length + ([x]).length ≤ 500) (hst : (st.map fun v => v.category).sum ≤ 8)
    (K : ∀ n' S' j' f' k' z', n ≤ n' → WB n0 S0 n' S' j' f' (l ++ [x]) k' z' → WX Xx own cc nL hh (ab_rm d MC MS) Q (K0 + k') (Z0 + z') (pc + 3) ls (.ref 267 :: st) n' (Hp S')) : WX Xx own cc nL hh (ab_rm d MC MS) Q (K0 + k) (Z0 + z) pc ls (.int x :: .ref 267 :: st) n (Hp S) := by
  obtain ⟨-, -, -, -, h5, h6, h7⟩ := id hw
  have el : ([x]).length = 1 := rfl
  have hfit : ab_fit (ab_rm d MC MS) 5 2 (grw j (l.length + 1)) (grs j (l.length + 1)) (K0 + k) (Z0 + z) := by
    have g := grw_fit hw (m := l.length + 1) (by rw [← el]; exact hl) (by omega)
    unfold ab_fit ab_rm
    refine ⟨?_, ?_, ?_, ?_⟩ <;> simp <;> omega
  refine wa_callV (As := [.int x]) dd lk (sb_appendC hn hw.1 (by omega) hn1 hx) rfl (isO_SB _ _ _) rfl (Or.inl (ltS hn)) (by exact Nat.le_of_ble_eq_true rfl) hfit hst (fun ro n' h' q hnn => ?_) (fun E n' h' q _ => by cases q.1)
  obtain ⟨q1, S1, q2, q3⟩ := q
  cases q1
  rw [q2]
  have q3 : APL n S l.length j f [x] n' S1 := by
    obtain ⟨a1, a2, f9, a3, a4, a5⟩ := q3
    refine ⟨a1, a2, f9, a3, a4, fun i c hc => ?_⟩
    cases i with
    | zero =>
      simp at hc
      rw [← hc]
      exact a5
    | succ i => simp at hc
  obtain ⟨-, j', f', w⟩ := hw.go hl (by simp) q3
  rw [el] at w
  rw [Nat.add_assoc, Nat.add_assoc]
  exact K _ _ _ _ _ _ hnn w
theorem ap_I (dd : decode cc pc = .ok (.invokevirtual index, 3)) (lk : ab_lkV own index yJ4_append_bf812 cJ4_append_bf812 2 (some (.object "java/lang/StringBuilder")) 1) (hn : 269 ≤ n) (hw : WB n0 S0 n S j f l k z) (hn1 : n + 1 < ab_CB) (hd : 6 ≤ d) {K0 Z0 MC MS : Nat} (hK : K0 + 5 ≤ MC) (hZ : Z0 + 1200 ≤ MS) {v : Int32} (ha : v.toInt.natAbs < 100000000) (hl : l.length + (decI v).length ≤ 500) (hst : (st.map fun v => v.category).sum ≤ 8)
    (K : ∀ n' S' j' f' k' z', n ≤ n' → WB n0 S0 n' S' j' f' (l ++ decI v) k' z' → WX Xx own cc nL hh (ab_rm d MC MS) Q (K0 + k') (Z0 + z') (pc + 3) ls (.ref 267 :: st) n' (Hp S')) : WX Xx own cc nL hh (ab_rm d MC MS) Q (K0 + k) (Z0 + z) pc ls (.int v :: .ref 267 :: st) n (Hp S) := by
  obtain ⟨-, -, -, -, h5, h6, h7⟩ := id hw
  have el : (decI v).length = (decI v).length := rfl
  have hfit : ab_fit (ab_rm d MC MS) 5 2 (grw j (l.length + (decI v).length)) (grs j (l.length + (decI v).length)) (K0 + k) (Z0 + z) := by
    have g := grw_fit hw (m := l.length + (decI v).length) (by rw [← el]; exact hl) (by omega)
    unfold ab_fit ab_rm
    refine ⟨?_, ?_, ?_, ?_⟩ <;> simp <;> omega
  refine wa_callV (As := [.int v]) dd lk (sb_appendI hn hw.1 ha (by omega) hn1) rfl (isO_SB _ _ _) rfl (Or.inl (ltS hn)) (by exact Nat.le_of_ble_eq_true rfl) hfit hst (fun ro n' h' q hnn => ?_) (fun E n' h' q _ => by cases q.1)
  obtain ⟨q1, S1, q2, q3⟩ := q
  cases q1
  rw [q2]
  skip
  obtain ⟨-, j', f', w⟩ := hw.go hl (by have := decI_11 ha; omega) q3
  rw [el] at w
  rw [Nat.add_assoc, Nat.add_assoc]
  exact K _ _ _ _ _ _ hnn w
theorem ap_S (dd : decode cc pc = .ok (.invokevirtual index, 3)) (lk : ab_lkV own index yJ4_append_15ec4 cJ4_append_15ec4 2 (some (.object "java/lang/StringBuilder")) 1) (hn : 269 ≤ n) (hw : WB n0 S0 n S j f l k z) (hn1 : n + 1 < ab_CB) (hd : 6 ≤ d) {K0 Z0 MC MS : Nat} (hK : K0 + 5 ≤ MC) (hZ : Z0 + 1200 ≤ MS) {a len : Nat} {fs : Nat → Int32} {lx : List Int32} (hX : STX n S a len fs) (hlx : lx.length = len ∧ ∀ i c, lx[i]? = some c → fs i = c) (hl : l.length + (lx).length ≤ 500) (hst : (st.map fun v => v.category).sum ≤ 8)
    (K : ∀ n' S' j' f' k' z', n ≤ n' → WB n0 S0 n' S' j' f' (l ++ lx) k' z' → WX Xx own cc nL hh (ab_rm d MC MS) Q (K0 + k') (Z0 + z') (pc + 3) ls (.ref 267 :: st) n' (Hp S')) : WX Xx own cc nL hh (ab_rm d MC MS) Q (K0 + k) (Z0 + z) pc ls (.ref a :: .ref 267 :: st) n (Hp S) := by
  obtain ⟨-, -, -, -, h5, h6, h7⟩ := id hw
  have el : (lx).length = len := hlx.1
  have hfit : ab_fit (ab_rm d MC MS) 5 2 (grw j (l.length + len)) (grs j (l.length + len)) (K0 + k) (Z0 + z) := by
    have g := grw_fit hw (m := l.length + len) (by rw [← el]; exact hl) (by omega)
    unfold ab_fit ab_rm
    refine ⟨?_, ?_, ?_, ?_⟩ <;> simp <;> omega
  refine wa_callV (As := [.ref a]) dd lk (sb_appendS hn hw.1 hX (by omega) hn1) rfl (isO_SB _ _ _) rfl (Or.inl (ltS hn)) (by exact Nat.le_of_ble_eq_true rfl) hfit hst (fun ro n' h' q hnn => ?_) (fun E n' h' q _ => by cases q.1)
  obtain ⟨q1, S1, q2, q3⟩ := q
  cases q1
  rw [q2]
  have q3 : APL n S l.length j f lx n' S1 := by
    obtain ⟨a1, a2, f9, a3, a4, a5⟩ := q3
    rw [← hlx.1] at a1 a3 a5
    refine ⟨a1, a2, f9, a3, a4, fun i c hc => ?_⟩
    have hi : i < lx.length := (List.getElem?_eq_some_iff.mp hc).1
    rw [a5 i hi]
    exact hlx.2 i c hc
  obtain ⟨-, j', f', w⟩ := hw.go hl (by rw [hlx.1]; exact hX.1) q3
  rw [el] at w
  rw [Nat.add_assoc, Nat.add_assoc]
  exact K _ _ _ _ _ _ hnn w
end AP
theorem WB.re {n0 n k z j : Nat} {S0 S : SS} {f : Nat → Int32} {l : List Int32} (h : WB n0 S0 n S j f l k z) : WB n S n S j f l 0 0 := ⟨h.1, h.2.1, FRb.rf, by omega, by have := h.2.2.2.2.2.2; omega⟩
theorem HH.b {n : Nat} {S S' : SS} {a : Nat} {g : Nat → Int32} {P : Nat → Prop} (h : HH S a g P) (q : FRb n S S') (ha : a + 23 ≤ 267 ∨ 268 ≤ a) : HH S' a g P := h.of (fun k h1 h2 => q.2.1 k (by omega))

