/-! ValveRoom$Parser: takeStatement, case by case. Written by program (wip/whole/gen/m824.py) but for the heads. -/
theorem RB.v01 {α : Type} {S0 S' : SS} {x : PR α} {P : α → SS → Prop} {v : Int32} (h : RB S0 x P v S') : v = 0 ∨ v = 1 := by
  have h2 := h.2
  cases x with
  | inl q => exact Or.inl h2.1
  | inr a => exact Or.inr h2.1
theorem wd_no {b : Nat → Int32} {N p i j : Nat} (h : kwf b N p = some i) (hj : j < 18) (e : ¬ i = j) : ¬ wd b N (kw j) p = true := fun z => by
  have := (kwf_wd hj).mpr z
  rw [h] at this
  exact e (Option.some.inj this)
theorem wd_no0 {b : Nat → Int32} {N p j : Nat} (h : kwf b N p = none) (hj : j < 18) : ¬ wd b N (kw j) p = true := fun z => by
  have := (kwf_wd hj).mpr z
  rw [h] at this
  cases this
theorem CSg.wk {P P' : (Nat → Int32) → Prop} {b : Nat → Int32} {N c n : Nat} {S : SS} {t told : Nat} {δ : Nat → Int32} {nf : Nat → Nat → Int32} {nl : Nat → Nat} (h : CSg P b N c n S t told δ nf nl) (hp : P' δ) : CSg P' b N c n S t told δ nf nl :=
  ⟨h.1, h.2.1, h.2.2.1, h.2.2.2.1, h.2.2.2.2.1, hp, h.2.2.2.2.2.2⟩
theorem PO.up {P : (Nat → Int32) → Prop} {b : Nat → Int32} {N c n t t2 : Nat} {nf : Nat → Nat → Int32} {nl : Nat → Nat} {s : PST} {S' : SS} (h : PO P b N c n t nf nl s S') (ht : t2 ≤ t) : PO P b N c n t2 nf nl s S' := by
  obtain ⟨t', h1, h2, h3⟩ := h
  exact ⟨t', h1, by omega, h3⟩
section CM
variable {own : String} {cc : ByteArray} {nL : Nat} {hh : List (Nat × Nat × Nat × Nat)} {R : Room} {Q : ab_Q} {k z pc : Nat} {ls : List (Option Value)} {st stk : List Value} {n : Nat} {h : ab_H} {S' : SS}
variable {index : Nat} {y : MethodName} {cc2 : ByteArray} {maxL2 : Nat} {ret2 : Option FieldType} {d mc ms : Nat} {As : List Value} {b ci N : Nat} {T0 : u_T} {fs : List Value}
theorem c_VMI {m : Nat} {T : Int32 → Nat → SS → Prop} (dd : decode cc pc = .ok (.invokevirtual index, 3)) (hA : AM y cc2 maxL2 ret2 [] d mc ms (.ref b :: As) n h (PMe n m T)) (lk : ab_lkV own index y cc2 maxL2 ret2 As.length) (hst : stk = As.reverse ++ .ref b :: st) (hbe : h b = .inr (ci, fs)) (hc : ab_cl[ci]? = some (y.cls, T0, N)) (hb : b < n)
    (K : ∀ v n' S', n ≤ n' → n' ≤ n + m → T v n' S' → WA own cc nL hh R Q (k + mc) (z + ms) (pc + 3) ls (.int v :: st) n' (Hp S')) (hlen : (ab_el (.ref b :: As)).length ≤ maxL2 := by exact Nat.le_of_ble_eq_true rfl) (hR : ab_fit R d maxL2 mc ms k z := by unfold ab_fit ab_rm; refine ⟨?_, ?_, ?_, ?_⟩ <;> simp <;> omega) (hrest : (st.map fun v => v.category).sum ≤ 8 := by exact Nat.le_of_ble_eq_true rfl) : WA own cc nL hh R Q k z pc ls stk n h :=
  wa_callV dd lk hA hst hbe hc (Or.inl hb) hlen hR hrest (fun ro n' h' hq _ => by obtain ⟨v, S', h1, rfl, h2, h3, h4⟩ := hq; cases h1; exact K v n' S' h2 h3 h4) (fun E n' h' hq _ => by obtain ⟨v, S', h1, -⟩ := hq; cases h1)
end CM
theorem ts_0 {b : Nat → Int32} {N c n : Nat} {S : SS} {t told : Nat} {δ : Nat → Int32} {nf : Nat → Nat → Int32} {nl : Nat → Nat} (hn : 269 ≤ n) (h : CS b N c n S t told δ nf nl) (hi : kwf b N (pos b N t) = some 0) : AM yX3_takeStatement cX3_takeStatement 2 (some .boolean) [] 8 0 0 [.ref 1] n (Hp S) (PIe n (RB S (pS0 b N (pos b N t, δ, told)) (PO PZ b N c n t nf nl))) := by
  intro has
  change WA RX3 cX3_takeStatement 2 [] _ _ 0 0 0 [some (.ref 1), none] [] n _
  refine px_sw hn h (by decide) hi ?_
  have hk0 := wd_ne ((kwf_wd (by decide)).mp hi)
  have eS : pS0 b N (pos b N t, δ, told) = pb (pOnce b N 0 (pos b N t, δ, told)) (pOut1 b N) := by unfold pS0; rw [if_pos ((kwf_wd (by decide)).mp hi)]
  refine wa_aload_n dX3_takeStatement_76 rfl ?_
  refine wa_iconst (x := 1) dX3_takeStatement_77 (by decide) ?_
  refine c_VQI dX3_takeStatement_78 (px_takeOnce hn h (k := 0) (by decide) hk0) lk_X3_115 rfl (isO_PA _ _ _) rfl (ltS hn) (fun w1 S1 r1 => ?_)
  cases hx1 : pOnce b N 0 (pos b N t, δ, told) with
  | inl e =>
    obtain ⟨f1, rfl, q1⟩ := RB.l hx1 r1
    refine wa_if_eq 95 dX3_takeStatement_81 rfl (fun c81 => ?_) (fun c81 => absurd rfl c81)
    refine wa_iconst (x := 0) dX3_takeStatement_95 (by decide) ?_
    exact wa_ireturn dX3_takeStatement_96 ⟨Nat.le_refl _, Nat.le_refl _, ⟨_, rfl, rfl⟩, rfl, _, _, rfl, rfl, RB.ofl (by rw [eS, hx1]; rfl) f1 q1⟩
  | inr a1 =>
    obtain ⟨s1, δ1, m1⟩ := a1
    obtain ⟨f1, rfl, t1, e1, l1, h1⟩ := RB.r hx1 r1
    dsimp only at e1 h1
    subst e1
    refine wa_if_eq 95 dX3_takeStatement_81 rfl (fun c81 => absurd c81 (by decide)) (fun c81 => ?_)
    refine wa_aload_n dX3_takeStatement_84 rfl ?_
    refine c_VQI dX3_takeStatement_85 (px_takeOutside hn h1) lk_X3_118 rfl (isO_PA _ _ _) rfl (ltS hn) (fun w2 S2 r2 => ?_)
    have r3 : RB S (pS0 b N (pos b N t, δ, told)) (PO PZ b N c n t nf nl) w2 S2 := (RB.fr r2 f1).im (fun e z => by rw [eS, hx1]; exact z) (fun a z z2 => ⟨a, by rw [eS, hx1]; exact z, z2.up (by omega)⟩)
    rcases r2.v01 with rfl | rfl
    · skip
      refine wa_if_eq 95 dX3_takeStatement_88 rfl (fun c88 => ?_) (fun c88 => absurd rfl c88)
      refine wa_iconst (x := 0) dX3_takeStatement_95 (by decide) ?_
      exact wa_ireturn dX3_takeStatement_96 ⟨Nat.le_refl _, Nat.le_refl _, ⟨_, rfl, rfl⟩, rfl, _, _, rfl, rfl, r3⟩
    · skip
      refine wa_if_eq 95 dX3_takeStatement_88 rfl (fun c88 => absurd c88 (by decide)) (fun c88 => ?_)
      refine wa_iconst (x := 1) dX3_takeStatement_91 (by decide) ?_
      refine wa_goto 96 dX3_takeStatement_92 rfl ?_
      exact wa_ireturn dX3_takeStatement_96 ⟨Nat.le_refl _, Nat.le_refl _, ⟨_, rfl, rfl⟩, rfl, _, _, rfl, rfl, r3⟩
theorem ts_1 {b : Nat → Int32} {N c n : Nat} {S : SS} {t told : Nat} {δ : Nat → Int32} {nf : Nat → Nat → Int32} {nl : Nat → Nat} (hn : 269 ≤ n) (h : CS b N c n S t told δ nf nl) (hi : kwf b N (pos b N t) = some 1) : AM yX3_takeStatement cX3_takeStatement 2 (some .boolean) [] 8 0 0 [.ref 1] n (Hp S) (PIe n (RB S (pS0 b N (pos b N t, δ, told)) (PO PZ b N c n t nf nl))) := by
  intro has
  change WA RX3 cX3_takeStatement 2 [] _ _ 0 0 0 [some (.ref 1), none] [] n _
  refine px_sw hn h (by decide) hi ?_
  have hk0 := wd_ne ((kwf_wd (by decide)).mp hi)
  have eS : pS0 b N (pos b N t, δ, told) = pb (pOnce b N 1 (pos b N t, δ, told)) (fun s => pb (pHdr b N 4 1 99 s) (pHold b N)) := by unfold pS0; rw [if_neg (wd_no hi (j := 0) (by decide) (by decide)), if_pos ((kwf_wd (by decide)).mp hi)]; rw [pb_assoc]
  refine wa_aload_n dX3_takeStatement_97 rfl ?_
  refine wa_iconst (x := 2) dX3_takeStatement_98 (by decide) ?_
  refine c_VQI dX3_takeStatement_99 (px_takeOnce hn h (k := 1) (by decide) hk0) lk_X3_115 rfl (isO_PA _ _ _) rfl (ltS hn) (fun w1 S1 r1 => ?_)
  cases hx1 : pOnce b N 1 (pos b N t, δ, told) with
  | inl e =>
    obtain ⟨f1, rfl, q1⟩ := RB.l hx1 r1
    refine wa_if_eq 116 dX3_takeStatement_102 rfl (fun c102 => ?_) (fun c102 => absurd rfl c102)
    refine wa_iconst (x := 0) dX3_takeStatement_116 (by decide) ?_
    exact wa_ireturn dX3_takeStatement_117 ⟨Nat.le_refl _, Nat.le_refl _, ⟨_, rfl, rfl⟩, rfl, _, _, rfl, rfl, RB.ofl (by rw [eS, hx1]; rfl) f1 q1⟩
  | inr a1 =>
    obtain ⟨s1, δ1, m1⟩ := a1
    obtain ⟨f1, rfl, t1, e1, l1, h1⟩ := RB.r hx1 r1
    dsimp only at e1 h1
    subst e1
    refine wa_if_eq 116 dX3_takeStatement_102 rfl (fun c102 => absurd c102 (by decide)) (fun c102 => ?_)
    refine wa_aload_n dX3_takeStatement_105 rfl ?_
    refine c_VQI dX3_takeStatement_106 (px_takeWindow hn h1) lk_X3_121 rfl (isO_PA _ _ _) rfl (ltS hn) (fun w2 S2 r2 => ?_)
    have r3 : RB S (pS0 b N (pos b N t, δ, told)) (PO PZ b N c n t nf nl) w2 S2 := (RB.fr r2 f1).im (fun e z => by rw [eS, hx1]; exact z) (fun a z z2 => ⟨a, by rw [eS, hx1]; exact z, z2.up (by omega)⟩)
    rcases r2.v01 with rfl | rfl
    · skip
      refine wa_if_eq 116 dX3_takeStatement_109 rfl (fun c109 => ?_) (fun c109 => absurd rfl c109)
      refine wa_iconst (x := 0) dX3_takeStatement_116 (by decide) ?_
      exact wa_ireturn dX3_takeStatement_117 ⟨Nat.le_refl _, Nat.le_refl _, ⟨_, rfl, rfl⟩, rfl, _, _, rfl, rfl, r3⟩
    · skip
      refine wa_if_eq 116 dX3_takeStatement_109 rfl (fun c109 => absurd c109 (by decide)) (fun c109 => ?_)
      refine wa_iconst (x := 1) dX3_takeStatement_112 (by decide) ?_
      refine wa_goto 117 dX3_takeStatement_113 rfl ?_
      exact wa_ireturn dX3_takeStatement_117 ⟨Nat.le_refl _, Nat.le_refl _, ⟨_, rfl, rfl⟩, rfl, _, _, rfl, rfl, r3⟩
theorem ts_3 {b : Nat → Int32} {N c n : Nat} {S : SS} {t told : Nat} {δ : Nat → Int32} {nf : Nat → Nat → Int32} {nl : Nat → Nat} (hn : 269 ≤ n) (h : CS b N c n S t told δ nf nl) (hi : kwf b N (pos b N t) = some 3) : AM yX3_takeStatement cX3_takeStatement 2 (some .boolean) [] 8 0 0 [.ref 1] n (Hp S) (PIe n (RB S (pS0 b N (pos b N t, δ, told)) (PO PZ b N c n t nf nl))) := by
  intro has
  change WA RX3 cX3_takeStatement 2 [] _ _ 0 0 0 [some (.ref 1), none] [] n _
  refine px_sw hn h (by decide) hi ?_
  have hk0 := wd_ne ((kwf_wd (by decide)).mp hi)
  have eS : pS0 b N (pos b N t, δ, told) = pb (pOnce b N 2 (pos b N t, δ, told)) (pHdr b N 6 0 150) := by unfold pS0; rw [if_neg (wd_no hi (j := 0) (by decide) (by decide)), if_neg (wd_no hi (j := 1) (by decide) (by decide)), if_pos ((kwf_wd (by decide)).mp hi)]
  refine wa_aload_n dX3_takeStatement_118 rfl ?_
  refine wa_iconst (x := 4) dX3_takeStatement_119 (by decide) ?_
  refine c_VQI dX3_takeStatement_120 (px_takeOnce hn h (k := 2) (by decide) hk0) lk_X3_115 rfl (isO_PA _ _ _) rfl (ltS hn) (fun w1 S1 r1 => ?_)
  cases hx1 : pOnce b N 2 (pos b N t, δ, told) with
  | inl e =>
    obtain ⟨f1, rfl, q1⟩ := RB.l hx1 r1
    refine wa_if_eq 137 dX3_takeStatement_123 rfl (fun c123 => ?_) (fun c123 => absurd rfl c123)
    refine wa_iconst (x := 0) dX3_takeStatement_137 (by decide) ?_
    exact wa_ireturn dX3_takeStatement_138 ⟨Nat.le_refl _, Nat.le_refl _, ⟨_, rfl, rfl⟩, rfl, _, _, rfl, rfl, RB.ofl (by rw [eS, hx1]; rfl) f1 q1⟩
  | inr a1 =>
    obtain ⟨s1, δ1, m1⟩ := a1
    obtain ⟨f1, rfl, t1, e1, l1, h1⟩ := RB.r hx1 r1
    dsimp only at e1 h1
    subst e1
    refine wa_if_eq 137 dX3_takeStatement_123 rfl (fun c123 => absurd c123 (by decide)) (fun c123 => ?_)
    refine wa_aload_n dX3_takeStatement_126 rfl ?_
    refine c_VQI dX3_takeStatement_127 (px_takeBack hn h1) lk_X3_124 rfl (isO_PA _ _ _) rfl (ltS hn) (fun w2 S2 r2 => ?_)
    have r3 : RB S (pS0 b N (pos b N t, δ, told)) (PO PZ b N c n t nf nl) w2 S2 := (RB.fr r2 f1).im (fun e z => by rw [eS, hx1]; exact z) (fun a z z2 => ⟨a, by rw [eS, hx1]; exact z, z2.up (by omega)⟩)
    rcases r2.v01 with rfl | rfl
    · skip
      refine wa_if_eq 137 dX3_takeStatement_130 rfl (fun c130 => ?_) (fun c130 => absurd rfl c130)
      refine wa_iconst (x := 0) dX3_takeStatement_137 (by decide) ?_
      exact wa_ireturn dX3_takeStatement_138 ⟨Nat.le_refl _, Nat.le_refl _, ⟨_, rfl, rfl⟩, rfl, _, _, rfl, rfl, r3⟩
    · skip
      refine wa_if_eq 137 dX3_takeStatement_130 rfl (fun c130 => absurd c130 (by decide)) (fun c130 => ?_)
      refine wa_iconst (x := 1) dX3_takeStatement_133 (by decide) ?_
      refine wa_goto 138 dX3_takeStatement_134 rfl ?_
      exact wa_ireturn dX3_takeStatement_138 ⟨Nat.le_refl _, Nat.le_refl _, ⟨_, rfl, rfl⟩, rfl, _, _, rfl, rfl, r3⟩
theorem ts_4 {b : Nat → Int32} {N c n : Nat} {S : SS} {t told : Nat} {δ : Nat → Int32} {nf : Nat → Nat → Int32} {nl : Nat → Nat} (hn : 269 ≤ n) (h : CS b N c n S t told δ nf nl) (hi : kwf b N (pos b N t) = some 4) : AM yX3_takeStatement cX3_takeStatement 2 (some .boolean) [] 8 0 0 [.ref 1] n (Hp S) (PIe n (RB S (pS0 b N (pos b N t, δ, told)) (PO PZ b N c n t nf nl))) := by
  intro has
  change WA RX3 cX3_takeStatement 2 [] _ _ 0 0 0 [some (.ref 1), none] [] n _
  refine px_sw hn h (by decide) hi ?_
  have hk0 := wd_ne ((kwf_wd (by decide)).mp hi)
  have eS : pS0 b N (pos b N t, δ, told) = pb (pOnce b N 3 (pos b N t, δ, told)) (fun s => pb (pb (pHdr b N 7 0 50 s) (pHdr b N 8 1 50)) (pHdr b N 9 1 100)) := by unfold pS0; rw [if_neg (wd_no hi (j := 0) (by decide) (by decide)), if_neg (wd_no hi (j := 1) (by decide) (by decide)), if_neg (wd_no hi (j := 3) (by decide) (by decide)), if_pos ((kwf_wd (by decide)).mp hi)]; rw [pb_assoc, pb_assoc]; exact congrArg (pb _) (funext fun s => (pb_assoc _ _ _).symm)
  refine wa_aload_n dX3_takeStatement_139 rfl ?_
  refine wa_bipush (x := 8) dX3_takeStatement_140 (by decide) ?_
  refine c_VQI dX3_takeStatement_142 (px_takeOnce hn h (k := 3) (by decide) hk0) lk_X3_115 rfl (isO_PA _ _ _) rfl (ltS hn) (fun w1 S1 r1 => ?_)
  cases hx1 : pOnce b N 3 (pos b N t, δ, told) with
  | inl e =>
    obtain ⟨f1, rfl, q1⟩ := RB.l hx1 r1
    refine wa_if_eq 159 dX3_takeStatement_145 rfl (fun c145 => ?_) (fun c145 => absurd rfl c145)
    refine wa_iconst (x := 0) dX3_takeStatement_159 (by decide) ?_
    exact wa_ireturn dX3_takeStatement_160 ⟨Nat.le_refl _, Nat.le_refl _, ⟨_, rfl, rfl⟩, rfl, _, _, rfl, rfl, RB.ofl (by rw [eS, hx1]; rfl) f1 q1⟩
  | inr a1 =>
    obtain ⟨s1, δ1, m1⟩ := a1
    obtain ⟨f1, rfl, t1, e1, l1, h1⟩ := RB.r hx1 r1
    dsimp only at e1 h1
    subst e1
    refine wa_if_eq 159 dX3_takeStatement_145 rfl (fun c145 => absurd c145 (by decide)) (fun c145 => ?_)
    refine wa_aload_n dX3_takeStatement_148 rfl ?_
    refine c_VQI dX3_takeStatement_149 (px_takeControl hn h1) lk_X3_127 rfl (isO_PA _ _ _) rfl (ltS hn) (fun w2 S2 r2 => ?_)
    have r3 : RB S (pS0 b N (pos b N t, δ, told)) (PO PZ b N c n t nf nl) w2 S2 := (RB.fr r2 f1).im (fun e z => by rw [eS, hx1]; exact z) (fun a z z2 => ⟨a, by rw [eS, hx1]; exact z, z2.up (by omega)⟩)
    rcases r2.v01 with rfl | rfl
    · skip
      refine wa_if_eq 159 dX3_takeStatement_152 rfl (fun c152 => ?_) (fun c152 => absurd rfl c152)
      refine wa_iconst (x := 0) dX3_takeStatement_159 (by decide) ?_
      exact wa_ireturn dX3_takeStatement_160 ⟨Nat.le_refl _, Nat.le_refl _, ⟨_, rfl, rfl⟩, rfl, _, _, rfl, rfl, r3⟩
    · skip
      refine wa_if_eq 159 dX3_takeStatement_152 rfl (fun c152 => absurd c152 (by decide)) (fun c152 => ?_)
      refine wa_iconst (x := 1) dX3_takeStatement_155 (by decide) ?_
      refine wa_goto 160 dX3_takeStatement_156 rfl ?_
      exact wa_ireturn dX3_takeStatement_160 ⟨Nat.le_refl _, Nat.le_refl _, ⟨_, rfl, rfl⟩, rfl, _, _, rfl, rfl, r3⟩
theorem ts_5 {b : Nat → Int32} {N c n : Nat} {S : SS} {t told : Nat} {δ : Nat → Int32} {nf : Nat → Nat → Int32} {nl : Nat → Nat} (hn : 269 ≤ n) (h : CS b N c n S t told δ nf nl) (hi : kwf b N (pos b N t) = some 5) : AM yX3_takeStatement cX3_takeStatement 2 (some .boolean) [] 8 0 0 [.ref 1] n (Hp S) (PIe n (RB S (pS0 b N (pos b N t, δ, told)) (PO PZ b N c n t nf nl))) := by
  intro has
  change WA RX3 cX3_takeStatement 2 [] _ _ 0 0 0 [some (.ref 1), none] [] n _
  refine px_sw hn h (by decide) hi ?_
  have hk0 := wd_ne ((kwf_wd (by decide)).mp hi)
  have eS : pS0 b N (pos b N t, δ, told) = pb (pOnce b N 4 (pos b N t, δ, told)) (pHdr b N 10 0 335) := by unfold pS0; rw [if_neg (wd_no hi (j := 0) (by decide) (by decide)), if_neg (wd_no hi (j := 1) (by decide) (by decide)), if_neg (wd_no hi (j := 3) (by decide) (by decide)), if_neg (wd_no hi (j := 4) (by decide) (by decide)), if_pos ((kwf_wd (by decide)).mp hi)]
  refine wa_aload_n dX3_takeStatement_161 rfl ?_
  refine wa_bipush (x := 16) dX3_takeStatement_162 (by decide) ?_
  refine c_VQI dX3_takeStatement_164 (px_takeOnce hn h (k := 4) (by decide) hk0) lk_X3_115 rfl (isO_PA _ _ _) rfl (ltS hn) (fun w1 S1 r1 => ?_)
  cases hx1 : pOnce b N 4 (pos b N t, δ, told) with
  | inl e =>
    obtain ⟨f1, rfl, q1⟩ := RB.l hx1 r1
    refine wa_if_eq 181 dX3_takeStatement_167 rfl (fun c167 => ?_) (fun c167 => absurd rfl c167)
    refine wa_iconst (x := 0) dX3_takeStatement_181 (by decide) ?_
    exact wa_ireturn dX3_takeStatement_182 ⟨Nat.le_refl _, Nat.le_refl _, ⟨_, rfl, rfl⟩, rfl, _, _, rfl, rfl, RB.ofl (by rw [eS, hx1]; rfl) f1 q1⟩
  | inr a1 =>
    obtain ⟨s1, δ1, m1⟩ := a1
    obtain ⟨f1, rfl, t1, e1, l1, h1⟩ := RB.r hx1 r1
    dsimp only at e1 h1
    subst e1
    refine wa_if_eq 181 dX3_takeStatement_167 rfl (fun c167 => absurd c167 (by decide)) (fun c167 => ?_)
    refine wa_aload_n dX3_takeStatement_170 rfl ?_
    refine c_VQI dX3_takeStatement_171 (px_takeExercise hn h1) lk_X3_130 rfl (isO_PA _ _ _) rfl (ltS hn) (fun w2 S2 r2 => ?_)
    have r3 : RB S (pS0 b N (pos b N t, δ, told)) (PO PZ b N c n t nf nl) w2 S2 := (RB.fr r2 f1).im (fun e z => by rw [eS, hx1]; exact z) (fun a z z2 => ⟨a, by rw [eS, hx1]; exact z, z2.up (by omega)⟩)
    rcases r2.v01 with rfl | rfl
    · skip
      refine wa_if_eq 181 dX3_takeStatement_174 rfl (fun c174 => ?_) (fun c174 => absurd rfl c174)
      refine wa_iconst (x := 0) dX3_takeStatement_181 (by decide) ?_
      exact wa_ireturn dX3_takeStatement_182 ⟨Nat.le_refl _, Nat.le_refl _, ⟨_, rfl, rfl⟩, rfl, _, _, rfl, rfl, r3⟩
    · skip
      refine wa_if_eq 181 dX3_takeStatement_174 rfl (fun c174 => absurd c174 (by decide)) (fun c174 => ?_)
      refine wa_iconst (x := 1) dX3_takeStatement_177 (by decide) ?_
      refine wa_goto 182 dX3_takeStatement_178 rfl ?_
      exact wa_ireturn dX3_takeStatement_182 ⟨Nat.le_refl _, Nat.le_refl _, ⟨_, rfl, rfl⟩, rfl, _, _, rfl, rfl, r3⟩
theorem ts_12 {b : Nat → Int32} {N c n : Nat} {S : SS} {t told : Nat} {δ : Nat → Int32} {nf : Nat → Nat → Int32} {nl : Nat → Nat} (hn : 269 ≤ n) (h : CS b N c n S t told δ nf nl) (hi : kwf b N (pos b N t) = some 12) : AM yX3_takeStatement cX3_takeStatement 2 (some .boolean) [] 8 0 0 [.ref 1] n (Hp S) (PIe n (RB S (pS0 b N (pos b N t, δ, told)) (PO PZ b N c n t nf nl))) := by
  intro has
  change WA RX3 cX3_takeStatement 2 [] _ _ 0 0 0 [some (.ref 1), none] [] n _
  refine px_sw hn h (by decide) hi ?_
  have hk0 := wd_ne ((kwf_wd (by decide)).mp hi)
  have eS := (show pS0 b N (pos b N t, δ, told) = _ from by unfold pS0; rw [if_neg (wd_no hi (j := 0) (by decide) (by decide)), if_neg (wd_no hi (j := 1) (by decide) (by decide)), if_neg (wd_no hi (j := 3) (by decide) (by decide)), if_neg (wd_no hi (j := 4) (by decide) (by decide)), if_neg (wd_no hi (j := 5) (by decide) (by decide)), if_neg (wd_no hi (j := 6) (by decide) (by decide)), if_pos ((kwf_wd (by decide)).mp hi)])
  refine wa_aload_n dX3_takeStatement_220 rfl ?_
  refine c_VQI dX3_takeStatement_221 (px_takeProgram hn h hk0) lk_X3_147 rfl (isO_PA _ _ _) rfl (ltS hn) (fun w1 S1 r1 => ?_)
  exact wa_ireturn dX3_takeStatement_224 ⟨Nat.le_refl _, Nat.le_refl _, ⟨_, rfl, r1.nar⟩, rfl, _, _, rfl, rfl, r1.im (fun e z => by rw [eS]; exact z) (fun a z z2 => ⟨a, by rw [eS]; exact z, z2⟩)⟩
theorem ts_13 {b : Nat → Int32} {N c n : Nat} {S : SS} {t told : Nat} {δ : Nat → Int32} {nf : Nat → Nat → Int32} {nl : Nat → Nat} (hn : 269 ≤ n) (h : CS b N c n S t told δ nf nl) (hi : kwf b N (pos b N t) = some 13) : AM yX3_takeStatement cX3_takeStatement 2 (some .boolean) [] 8 0 0 [.ref 1] n (Hp S) (PIe n (RB S (pS0 b N (pos b N t, δ, told)) (PO PZ b N c n t nf nl))) := by
  intro has
  change WA RX3 cX3_takeStatement 2 [] _ _ 0 0 0 [some (.ref 1), none] [] n _
  refine px_sw hn h (by decide) hi ?_
  have hk0 := wd_ne ((kwf_wd (by decide)).mp hi)
  have eS := (show pS0 b N (pos b N t, δ, told) = _ from by unfold pS0; rw [if_neg (wd_no hi (j := 0) (by decide) (by decide)), if_neg (wd_no hi (j := 1) (by decide) (by decide)), if_neg (wd_no hi (j := 3) (by decide) (by decide)), if_neg (wd_no hi (j := 4) (by decide) (by decide)), if_neg (wd_no hi (j := 5) (by decide) (by decide)), if_neg (wd_no hi (j := 6) (by decide) (by decide)), if_neg (wd_no hi (j := 12) (by decide) (by decide)), if_pos ((kwf_wd (by decide)).mp hi)])
  refine wa_aload_n dX3_takeStatement_225 rfl ?_
  refine c_VQI dX3_takeStatement_226 (px_takePlan hn h hk0) lk_X3_150 rfl (isO_PA _ _ _) rfl (ltS hn) (fun w1 S1 r1 => ?_)
  exact wa_ireturn dX3_takeStatement_229 ⟨Nat.le_refl _, Nat.le_refl _, ⟨_, rfl, r1.nar⟩, rfl, _, _, rfl, rfl, r1.im (fun e z => by rw [eS]; exact z) (fun a z z2 => ⟨a, by rw [eS]; exact z, z2⟩)⟩
theorem ts_no {i : Nat} {b : Nat → Int32} {N c n : Nat} {S : SS} {t told : Nat} {δ : Nat → Int32} {nf : Nat → Nat → Int32} {nl : Nat → Nat} (hn : 269 ≤ n) (h : CS b N c n S t told δ nf nl) (hi : kwf b N (pos b N t) = some i) (hw : swt i = 230) (hne : ∀ j, i = j → ¬ j ∈ [0, 1, 3, 4, 5, 6, 12, 13]) : AM yX3_takeStatement cX3_takeStatement 2 (some .boolean) [] 8 0 0 [.ref 1] n (Hp S) (PIe n (RB S (pS0 b N (pos b N t, δ, told)) (PO PZ b N c n t nf nl))) := by
  intro has
  change WA RX3 cX3_takeStatement 2 [] _ _ 0 0 0 [some (.ref 1), none] [] n _
  refine px_sw hn h (by decide) hi ?_
  rw [hw]
  refine wa_aload_n dX3_takeStatement_230 rfl ?_
  refine wa_iconst (x := 1) dX3_takeStatement_231 (by decide) ?_
  refine c_VI dX3_takeStatement_232 (px_fail (S := S) hn h 1) lk_X3_56 rfl (isO_PA _ _ _) rfl (ltS hn) ?_
  exact wa_ireturn dX3_takeStatement_235 ⟨Nat.le_refl _, Nat.le_refl _, ⟨_, rfl, rfl⟩, rfl, _, _, rfl, rfl, RB.ofl (by unfold pS0; rw [if_neg (wd_no hi (j := 0) (by decide) (fun e => hne 0 e (by decide))), if_neg (wd_no hi (j := 1) (by decide) (fun e => hne 1 e (by decide))), if_neg (wd_no hi (j := 3) (by decide) (fun e => hne 3 e (by decide))), if_neg (wd_no hi (j := 4) (by decide) (fun e => hne 4 e (by decide))), if_neg (wd_no hi (j := 5) (by decide) (fun e => hne 5 e (by decide))), if_neg (wd_no hi (j := 6) (by decide) (fun e => hne 6 e (by decide))), if_neg (wd_no hi (j := 12) (by decide) (fun e => hne 12 e (by decide))), if_neg (wd_no hi (j := 13) (by decide) (fun e => hne 13 e (by decide)))]) (fail_fr FRps.rf _ _) (fail_err _ _ _)⟩
theorem ts_none {b : Nat → Int32} {N c n : Nat} {S : SS} {t told : Nat} {δ : Nat → Int32} {nf : Nat → Nat → Int32} {nl : Nat → Nat} (hn : 269 ≤ n) (h : CS b N c n S t told δ nf nl) (hi : kwf b N (pos b N t) = none) : AM yX3_takeStatement cX3_takeStatement 2 (some .boolean) [] 8 0 0 [.ref 1] n (Hp S) (PIe n (RB S (pS0 b N (pos b N t, δ, told)) (PO PZ b N c n t nf nl))) := by
  intro has
  change WA RX3 cX3_takeStatement 2 [] _ _ 0 0 0 [some (.ref 1), none] [] n _
  have ht := h.tL
  have hc := h.cL
  refine wa_aload_n dX3_takeStatement_0 rfl ?_
  refine g_PA (by assumption) 5 dX3_takeStatement_1 fl_X3_25 (by decide) rfl ?_
  refine g_TO (by assumption) 5 dX3_takeStatement_4 fl_X3_80 (by decide) rfl ?_
  refine wa_aload_n dX3_takeStatement_7 rfl ?_
  refine g_PA hn 6 dX3_takeStatement_8 fl_X3_37 (by decide) (v := .int (nI t)) (congrArg (fun x => some (Value.int x)) h.a) ?_
  refine s_kldN hn (ix_nI (by omega)) (by omega) (h.kw.trans hi) dX3_takeStatement_11 ?_
  refine wa_astore_nN dX3_takeStatement_12 rfl ?_
  refine wa_aload_nN dX3_takeStatement_13 rfl ?_
  refine wa_ifnonnullN dX3_takeStatement_14 ?_
  refine wa_aload_n dX3_takeStatement_17 rfl ?_
  refine wa_iconst (x := 1) dX3_takeStatement_18 (by decide) ?_
  refine c_VI dX3_takeStatement_19 (px_fail (S := S) hn h 1) lk_X3_56 rfl (isO_PA _ _ _) rfl (ltS hn) ?_
  exact wa_ireturn dX3_takeStatement_22 ⟨Nat.le_refl _, Nat.le_refl _, ⟨_, rfl, rfl⟩, rfl, _, _, rfl, rfl, RB.ofl (by unfold pS0; rw [if_neg (wd_no0 hi (j := 0) (by decide)), if_neg (wd_no0 hi (j := 1) (by decide)), if_neg (wd_no0 hi (j := 3) (by decide)), if_neg (wd_no0 hi (j := 4) (by decide)), if_neg (wd_no0 hi (j := 5) (by decide)), if_neg (wd_no0 hi (j := 6) (by decide)), if_neg (wd_no0 hi (j := 12) (by decide)), if_neg (wd_no0 hi (j := 13) (by decide))]) (fail_fr FRps.rf _ _) (fail_err _ _ _)⟩
theorem px_takeStatement_o {b : Nat → Int32} {N c n : Nat} {S : SS} {t told : Nat} {δ : Nat → Int32} {nf : Nat → Nat → Int32} {nl : Nat → Nat} (hn : 269 ≤ n) (h : CS b N c n S t told δ nf nl) (hr : ¬ kwf b N (pos b N t) = some 6) : AM yX3_takeStatement cX3_takeStatement 2 (some .boolean) [] 8 0 0 [.ref 1] n (Hp S) (PIe n (RB S (pS0 b N (pos b N t, δ, told)) (PO PZ b N c n t nf nl))) := by
  cases hi : kwf b N (pos b N t) with
  | none => exact ts_none hn h hi
  | some i =>
    have h18 := kwf_lt hi
    by_cases e0 : i = 0
    · subst e0; exact ts_0 hn h hi
    by_cases e1 : i = 1
    · subst e1; exact ts_1 hn h hi
    by_cases e3 : i = 3
    · subst e3; exact ts_3 hn h hi
    by_cases e4 : i = 4
    · subst e4; exact ts_4 hn h hi
    by_cases e5 : i = 5
    · subst e5; exact ts_5 hn h hi
    by_cases e6 : i = 6
    · subst e6; exact absurd hi hr
    by_cases e12 : i = 12
    · subst e12; exact ts_12 hn h hi
    by_cases e13 : i = 13
    · subst e13; exact ts_13 hn h hi
    rcases (by decide : ∀ i, i < 18 → swt i = 230 ∨ i ∈ [0, 1, 3, 4, 5, 6, 12, 13]) i h18 with hz | hz
    rotate_left
    · simp at hz; omega
    exact ts_no hn h hi hz (fun j e q => by subst e; simp at q; omega)
/-- what a new room leaves -/
def POr (b : Nat → Int32) (N c t : Nat) (δ : Nat → Int32) : PST → Nat → SS → Prop := fun s n' S' => ∃ t' nf' nl', s.1 = pos b N t' ∧ t ≤ t' ∧ CS b N c n' S' t' s.2.2 s.2.1 nf' nl' ∧ rn s.2.1 = rn δ + 1
theorem px_takeStatement_r {b : Nat → Int32} {N c n : Nat} {S : SS} {t told : Nat} {δ : Nat → Int32} {nf : Nat → Nat → Int32} {nl : Nat → Nat} (hn : 269 ≤ n) (h : CS b N c n S t told δ nf nl) (hW : WHT) (hi : kwf b N (pos b N t) = some 6) (hnb : n + 4 ≤ ab_CB) (hsb : sbr S < n) : AM yX3_takeStatement cX3_takeStatement 2 (some .boolean) [] 8 3 16 [.ref 1] n (Hp S) (PMe n 3 (RBn n S (pS0 b N (pos b N t, δ, told)) (POr b N c t δ))) := by
  intro has
  change WA RX3 cX3_takeStatement 2 [] _ _ 0 0 0 [some (.ref 1), none] [] n _
  refine px_sw hn h (by decide) hi ?_
  have hk0 := wd_ne ((kwf_wd (by decide)).mp hi)
  have hH := isH_draft
  have ht := h.tL
  have hc := h.cL
  have h6 := h.gg.1.rn6
  have e0 := h.gg.1.e0
  have eS := (show pS0 b N (pos b N t, δ, told) = _ from by unfold pS0; rw [if_neg (wd_no hi (j := 0) (by decide) (by decide)), if_neg (wd_no hi (j := 1) (by decide) (by decide)), if_neg (wd_no hi (j := 3) (by decide) (by decide)), if_neg (wd_no hi (j := 4) (by decide) (by decide)), if_neg (wd_no hi (j := 5) (by decide) (by decide)), if_pos ((kwf_wd (by decide)).mp hi)])
  refine wa_aload_n dX3_takeStatement_183 rfl ?_
  refine c_VMI dX3_takeStatement_184 (px_takeNewRoom hn h hW hk0 hnb hsb) lk_X3_133 rfl (isO_PA _ _ _) rfl (ltS hn) (fun w1 n1 S1 l1 u1 r1 => ?_)
  have hn1 : 269 ≤ n1 := by omega
  cases hx1 : pRoom1 b N (pos b N t, δ, told) with
  | inl e =>
    obtain ⟨f1, rfl, q1⟩ := RBn.l hx1 r1
    refine wa_if_eq 218 dX3_takeStatement_187 rfl (fun c187 => ?_) (fun c187 => absurd rfl c187)
    refine wa_iconst (x := 0) dX3_takeStatement_218 (by decide) ?_
    exact wa_ireturn dX3_takeStatement_219 ⟨by decide, by decide, ⟨_, rfl, rfl⟩, _, _, rfl, rfl, by omega, by omega, RBn.ofl (by rw [eS, hx1]; rfl) f1 q1⟩
  | inr a1 =>
    obtain ⟨x1, p1⟩ := a1
    obtain ⟨f1, rfl, t0, pw, ls, v, bt, nf1, nl1, e1, g1, h1⟩ := RBn.r hx1 r1
    dsimp only at e1 g1 h1
    subst e1
    have hr : rn δ < 6 := by
      refine Nat.lt_of_le_of_ne h6 (fun z => ?_)
      have : pRoom1 b N (pos b N t, δ, told) = .inl (5, pos b N t) := if_pos z
      rw [this] at hx1
      cases hx1
    refine wa_if_eq 218 dX3_takeStatement_187 rfl (fun c187 => absurd c187 (by decide)) (fun c187 => ?_)
    refine wa_aload_n dX3_takeStatement_190 rfl ?_
    refine wa_aload_n dX3_takeStatement_191 rfl ?_
    refine g_PA hn1 2 dX3_takeStatement_192 fl_X3_18 (by decide) rfl ?_
    refine g_HO isH_draft hn1 10 dX3_takeStatement_195 fl_X3_136 (by decide) rfl ?_
    refine wa_aload_n dX3_takeStatement_198 rfl ?_
    refine g_PA hn1 2 dX3_takeStatement_199 fl_X3_18 (by decide) rfl ?_
    refine H_hd h1.hh hn1 9 dX3_takeStatement_202 fl_X3_140 (by decide) (by decide) (fun _ _ _ => rfl) ?_
    rw [show addR δ x1 t0 pw ls v bt (hm 9) = nI (rn δ + 1) from addR_0.trans (by rw [e0, nI_1])]
    refine wa_iconst (x := 1) dX3_takeStatement_205 (by decide) ?_
    refine wa_isub dX3_takeStatement_206 ?_
    rw [nI_s1]
    refine L_room isH_draft hn1 (nI_toInt (by omega)) (by omega) dX3_takeStatement_207 ?_
    refine c_VQI dX3_takeStatement_208 (px_takeFittings hn1 h1 e0 hr) lk_X3_143 rfl (isO_PA _ _ _) rfl (ltS hn1) (fun w2 S2 r2 => ?_)
    cases hx2 : pFit b N (pos b N (t + 1 + 1)) with
    | inl e =>
      obtain ⟨f2, rfl, q2⟩ := RB.l hx2 r2
      refine wa_if_eq 218 dX3_takeStatement_211 rfl (fun c211 => ?_) (fun c211 => absurd rfl c211)
      refine wa_iconst (x := 0) dX3_takeStatement_218 (by decide) ?_
      exact wa_ireturn dX3_takeStatement_219 ⟨by decide, by decide, ⟨_, rfl, rfl⟩, _, _, rfl, rfl, by omega, by omega, RBn.ofl (by rw [eS, hx1]; show pb (pFit b N (pos b N (t + 1 + 1))) _ = _; rw [hx2]; rfl) (f1.tr (f2.n (n := n)) (Nat.le_refl _)) q2⟩
    | inr a2 =>
      obtain ⟨f2, rfl, t2, e2, l2, ⟨b1, b2, b3, b4, b5⟩, h2⟩ := RB.r hx2 r2
      obtain ⟨⟨y1, y2, y3, y4, y5⟩, p2⟩ := a2
      dsimp only at e2 b1 b2 b3 b4 b5 h2
      subst e2
      have k2 := h2.wk (P' := PZ) ⟨GG_addR h.gg.1 h.gg.2 hr g1 (by rw [nI_toInt (by omega)]; omega) (by rw [nI_toInt (by omega)]; omega) (by rw [nI_toInt (by omega)]; omega) (by rw [nI_toInt (by omega)]; omega) (by rw [nI_toInt (by omega)]; omega), ZR_addR h.gg.2 e0 hr⟩
      refine wa_if_eq 218 dX3_takeStatement_211 rfl (fun c211 => absurd c211 (by decide)) (fun c211 => ?_)
      refine wa_iconst (x := 1) dX3_takeStatement_214 (by decide) ?_
      refine wa_goto 219 dX3_takeStatement_215 rfl ?_
      exact wa_ireturn dX3_takeStatement_219 ⟨by decide, by decide, ⟨_, rfl, rfl⟩, _, _, rfl, rfl, by omega, by omega, RBn.ofr (a := (pos b N t2, addR δ x1 (nI y1) (nI y2) (nI y3) (nI y4) (nI y5), told)) (by rw [eS, hx1]; show pb (pFit b N (pos b N (t + 1 + 1))) _ = _; rw [hx2]; rfl) (f1.tr (f2.n (n := n)) (Nat.le_refl _)) ⟨t2, nf1, nl1, rfl, by omega, k2, rn_addR e0 hr⟩⟩

