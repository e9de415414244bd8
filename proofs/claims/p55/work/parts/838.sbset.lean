/-! StringBuilder: setLength(0), charAt. Written by program (wip/whole/gen/m838.py) but for the heads. -/
theorem WA.imp {own : String} {cc : ByteArray} {nL : Nat} {hh : List (Nat × Nat × Nat × Nat)} {R : Room} {Q Q' : ab_Q} {k z pc : Nat} {ls : List (Option Value)} {st : List Value} {n : Nat} {h : ab_H} (hq : ∀ r k z n h, Q r k z n h → Q' r k z n h) (hw : WA own cc nL hh R Q k z pc ls st n h) : WA own cc nL hh R Q' k z pc ls st n h := by
  intro p l e s m args below meth c base D T C0 α H L locs Fin hC hW hL hs hl hS hF hT
  exact hw p l e s m args below meth c base D T C0 α H L locs Fin hC hW hL hs hl hS (fun ro n' h' α' H' L' locs' k' z' pc' ins q => hF ro n' h' α' H' L' locs' k' z' pc' ins (hq _ _ _ _ _ q)) ⟨fun E n' h' α' H' L' locs' k' z' pc' st' q0 ce q => hT.1 E n' h' α' H' L' locs' k' z' pc' st' q0 ce (hq _ _ _ _ _ q), fun E n' h' α' H' L' locs' k' z' g q => hT.2 E n' h' α' H' L' locs' k' z' g (hq _ _ _ _ _ q)⟩
theorem AM.imp {y : MethodName} {cc : ByteArray} {maxL : Nat} {ret : Option FieldType} {hh : List (Nat × Nat × Nat × Nat)} {d mc ms : Nat} {as : List Value} {n : Nat} {h : ab_H} {Q Q' : ab_R → Nat → ab_H → Prop} (hA : AM y cc maxL ret hh d mc ms as n h Q) (hq : ∀ r n' h', Q r n' h' → Q' r n' h') : AM y cc maxL ret hh d mc ms as n h Q' :=
  fun has => WA.imp (fun r k z n' h' q => ⟨q.1, q.2.1, q.2.2.1, hq _ _ _ q.2.2.2⟩) (hA has)
theorem grw_le {j q : Nat} (h : q ≤ cpS j) : grw j q = 0 ∧ grs j q = 0 := ⟨if_pos h, if_pos h⟩
theorem sb_ensure0 {n m j q : Nat} {S : SS} {f : Nat → Int32} (hn : 269 ≤ n) (h : SBI n S m j f) (h2 : q ≤ cpS j) (hj7 : j ≤ 6) (hn1 : n + 1 < ab_CB) : AM yJ5_ensureCapacityInternal_d00df cJ5_ensureCapacityInternal_d00df 3 none [] 3 0 0 [.ref 267, .int (nI q)] n (Hp S) (fun r n' h' => r = .inl none ∧ ∃ S', h' = Hp S' ∧ n' = n ∧ FRb n S S' ∧ S'.1 267 = S.1 267 ∧ ∃ f', SBI n S' m j f' ∧ ∀ i, i < m → f' i = f i) := by
  have hz := sb_ensure hn h (q := q) (by have := (cpS_s j).1; omega) hj7 hn1
  obtain ⟨e1, e2⟩ := grw_le h2
  rw [e1, e2] at hz
  refine hz.imp (fun r n' h' q0 => ?_)
  obtain ⟨q1, S', q2, q3, q4, q5, ⟨f', q6, q7⟩, q8⟩ := q0
  rw [e1] at q3 q6
  subst q3
  exact ⟨q1, S', q2, rfl, q4, q5, f', q6, q7⟩
