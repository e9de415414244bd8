/-! ValveRoom$Parser: takeStatement. Written by program (wip/whole/gen/m822.py) but for the heads. -/
/-- a statement without its end -/
def pS0 (b : Nat → Int32) (N : Nat) (s : PST) : PR PST :=
  if wd b N (kw 0) s.1 then pb (pOnce b N 0 s) (pOut1 b N) else if wd b N (kw 1) s.1 then pb (pb (pOnce b N 1 s) (pHdr b N 4 1 99)) (pHold b N) else if wd b N (kw 3) s.1 then pb (pOnce b N 2 s) (pHdr b N 6 0 150) else if wd b N (kw 4) s.1 then pb (pb (pb (pOnce b N 3 s) (pHdr b N 7 0 50)) (pHdr b N 8 1 50)) (pHdr b N 9 1 100) else if wd b N (kw 5) s.1 then pb (pOnce b N 4 s) (pHdr b N 10 0 335)
  else if wd b N (kw 6) s.1 then pb (pRoom1 b N s) (fun x => pb (pFit b N x.2) (fun f => .inr (f.2, addR s.2.1 x.1 (nI f.1.1) (nI f.1.2.1) (nI f.1.2.2.1) (nI f.1.2.2.2.1) (nI f.1.2.2.2.2), s.2.2)))
  else if wd b N (kw 12) s.1 then pb (pRoom b N s.2.1 (nx b N s.1)) (fun r => if cnt (pg s.2.1 r) 48 = 0 then pEntries b N r (N + 1) (nx b N s.1, s.2) else .inl (3, nx b N s.1))
  else if wd b N (kw 13) s.1 then pb (pPlan1 b N s) (fun q => .inr (q.2.2.2, f_plan (nI q.1) (nI q.2.1) (nI q.2.2.1) s.2.1, s.2.2)) else .inl (1, s.1)
theorem pb_assoc {α β γ : Type} (x : PR α) (f : α → PR β) (g : β → PR γ) : pb (pb x f) g = pb x (fun a => pb (f a) g) := by
  cases x <;> rfl
theorem pb_ite {α β : Type} (c : Prop) [Decidable c] (x y : PR α) (f : α → PR β) : pb (if c then x else y) f = if c then pb x f else pb y f := by
  by_cases h : c
  · rw [if_pos h, if_pos h]
  · rw [if_neg h, if_neg h]
theorem pStmt_S0 (b : Nat → Int32) (N : Nat) (s : PST) : pStmt b N s = pb (pS0 b N s) (pEnd b N) := by
  unfold pS0 pStmt
  rw [pb_ite, pb_ite, pb_ite, pb_ite, pb_ite, pb_ite, pb_ite, pb_ite]
  refine ite_congr rfl (fun _ => rfl) (fun _ => ?_)
  refine ite_congr rfl (fun _ => rfl) (fun _ => ?_)
  refine ite_congr rfl (fun _ => rfl) (fun _ => ?_)
  refine ite_congr rfl (fun _ => rfl) (fun _ => ?_)
  refine ite_congr rfl (fun _ => rfl) (fun _ => ?_)
  refine ite_congr rfl (fun _ => ?_) (fun _ => ?_)
  · unfold pNewRoom
    rw [pb_assoc]
    refine congrArg (pb _) (funext fun x => ?_)
    rw [pb_assoc]
    rfl
  refine ite_congr rfl (fun _ => ?_) (fun _ => ?_)
  · unfold pProgram
    rw [pb_assoc]
    refine congrArg (pb _) (funext fun x => ?_)
    rw [pb_ite]
    rfl
  refine ite_congr rfl (fun _ => ?_) (fun _ => rfl)
  unfold pPlan
  rw [pb_assoc]
  rfl
theorem am_ordinal {n i : Nat} {S : SS} (hi : i < 18) : AM yJx29ce0_ordinal_8abf5 cJx29ce0_ordinal_8abf5 1 (some .int) [] 0 0 0 [.ref (ab_CB + (112 + i))] n (Hp S) (PI (nI i) n S) := by
  intro has
  change WA RJx29ce0 cJx29ce0_ordinal_8abf5 1 [] _ _ 0 0 0 [some (.ref (ab_CB + (112 + i)))] [] n _
  refine wa_aload_n dJx29ce0_ordinal_8abf5_0 rfl ?_
  refine wa_ordinalf dJx29ce0_ordinal_8abf5_1 fl_Jx29ce0_7 hi ?_
  exact wa_ireturn dJx29ce0_ordinal_8abf5_4 ⟨Nat.le_refl _, Nat.le_refl _, ⟨_, rfl, rfl⟩, rfl, rfl, rfl⟩
def swt (i : Nat) : Nat := ([76, 97, 230, 118, 139, 161, 183, 230, 230, 230, 230, 230, 220, 225, 230, 230, 230, 230] : List Nat).getD i 0
theorem px_sw {Q : ab_Q} {d mc ms i : Nat} {b : Nat → Int32} {N c n : Nat} {S : SS} {t told : Nat} {δ : Nat → Int32} {nf : Nat → Nat → Int32} {nl : Nat → Nat} (hn : 269 ≤ n) (h : CS b N c n S t told δ nf nl) (hd : 1 ≤ d) (hi : kwf b N (pos b N t) = some i) (K : WA RX3 cX3_takeStatement 2 [] (ab_rm d mc ms) Q 0 0 (swt i) [some (.ref 1), some (.ref (ab_CB + (112 + i)))] [] n (Hp S)) : WA RX3 cX3_takeStatement 2 [] (ab_rm d mc ms) Q 0 0 0 [some (.ref 1), none] [] n (Hp S) := by
  have ht := h.tL
  have hc := h.cL
  have h18 := kwf_lt hi
  refine wa_aload_n dX3_takeStatement_0 rfl ?_
  refine g_PA (by assumption) 5 dX3_takeStatement_1 fl_X3_25 (by decide) rfl ?_
  refine g_TO (by assumption) 5 dX3_takeStatement_4 fl_X3_80 (by decide) rfl ?_
  refine wa_aload_n dX3_takeStatement_7 rfl ?_
  refine g_PA hn 6 dX3_takeStatement_8 fl_X3_37 (by decide) (v := .int (nI t)) (congrArg (fun x => some (Value.int x)) h.a) ?_
  refine s_kld2 hn (ix_nI (by omega)) (by omega) (h.kw.trans hi) dX3_takeStatement_11 ?_
  refine wa_astore_n dX3_takeStatement_12 rfl ?_
  refine wa_aload_n dX3_takeStatement_13 rfl ?_
  refine wa_ifnonnull 23 dX3_takeStatement_14 rfl ?_
  refine wa_gets dX3_takeStatement_23 (v := .ref (ab_CB + 131)) (by simp [ab_st]) fl_X3_104 (Or.inr (Nat.le_add_right _ _)) ?_
  refine wa_aload_n dX3_takeStatement_26 rfl ?_
  refine wa_callUK (As := []) dX3_takeStatement_27 lk_X3_109 h18 (am_ordinal h18) (fun E n' h' q => by cases q.1) rfl (by exact Nat.le_of_ble_eq_true rfl) (by unfold ab_fit ab_rm; refine ⟨?_, ?_, ?_, ?_⟩ <;> simp <;> omega) (by exact Nat.le_of_ble_eq_true rfl) (fun ro n' h' hq _ => ?_)
  obtain ⟨q1, rfl, rfl⟩ := hq
  cases q1
  refine wa_iald (f := fun j => ab_sw.getD j 0) (len := 18) dX3_takeStatement_30 (dom_kc S _ (k := 131) (Or.inr (by decide)) (by decide)) (hp_kc S 131) (ix_nI (by omega)) h18 ?_
  rcases (show i = 0 ∨ i = 1 ∨ i = 2 ∨ i = 3 ∨ i = 4 ∨ i = 5 ∨ i = 6 ∨ i = 7 ∨ i = 8 ∨ i = 9 ∨ i = 10 ∨ i = 11 ∨ i = 12 ∨ i = 13 ∨ i = 14 ∨ i = 15 ∨ i = 16 ∨ i = 17 from by omega) with rfl | rfl | rfl | rfl | rfl | rfl | rfl | rfl | rfl | rfl | rfl | rfl | rfl | rfl | rfl | rfl | rfl | rfl
  · exact wa_tableIn 76 dX3_takeStatement_31 (by decide) (by decide) rfl rfl K
  · exact wa_tableIn 97 dX3_takeStatement_31 (by decide) (by decide) rfl rfl K
  · exact wa_tableOut 230 dX3_takeStatement_31 (Or.inl (by decide)) rfl K
  · exact wa_tableIn 118 dX3_takeStatement_31 (by decide) (by decide) rfl rfl K
  · exact wa_tableIn 139 dX3_takeStatement_31 (by decide) (by decide) rfl rfl K
  · exact wa_tableIn 161 dX3_takeStatement_31 (by decide) (by decide) rfl rfl K
  · exact wa_tableIn 183 dX3_takeStatement_31 (by decide) (by decide) rfl rfl K
  · exact wa_tableOut 230 dX3_takeStatement_31 (Or.inl (by decide)) rfl K
  · exact wa_tableOut 230 dX3_takeStatement_31 (Or.inl (by decide)) rfl K
  · exact wa_tableOut 230 dX3_takeStatement_31 (Or.inl (by decide)) rfl K
  · exact wa_tableOut 230 dX3_takeStatement_31 (Or.inl (by decide)) rfl K
  · exact wa_tableOut 230 dX3_takeStatement_31 (Or.inl (by decide)) rfl K
  · exact wa_tableIn 220 dX3_takeStatement_31 (by decide) (by decide) rfl rfl K
  · exact wa_tableIn 225 dX3_takeStatement_31 (by decide) (by decide) rfl rfl K
  · exact wa_tableOut 230 dX3_takeStatement_31 (Or.inl (by decide)) rfl K
  · exact wa_tableOut 230 dX3_takeStatement_31 (Or.inl (by decide)) rfl K
  · exact wa_tableOut 230 dX3_takeStatement_31 (Or.inl (by decide)) rfl K
  · exact wa_tableOut 230 dX3_takeStatement_31 (Or.inl (by decide)) rfl K

