/-! ValveRoom$Parser: a program's entries. Written by program (wip/whole/gen/m814.py) but for the heads. -/
def pEnt (b : Nat → Int32) (N r p : Nat) (d : Nat → Int32) (m : Nat) : PR PST := pb (pNumH b N 0 47 p) (fun t => if pg d r t = 0 then pb (pSym b N 58 (nx b N p)) (fun p2 => pb (pNum b N 50 300 p2) (fun q => .inr (q.2, pt d r (18 + t) (nI q.1), m))) else .inl (3, p))
theorem pNum_r {b : Nat → Int32} {N lo hi p : Nat} {q : Nat × Nat} (h : pNum b N lo hi p = .inr q) : pNumH b N lo hi p = .inr q.1 := by
  unfold pNum pb at h
  cases e : pNumH b N lo hi p with
  | inl a =>
    rw [e] at h
    exact absurd h (by simp)
  | inr v =>
    rw [e] at h
    have := Sum.inr.inj h
    rw [← this]
theorem pNum_l {b : Nat → Int32} {N lo hi p : Nat} {q : Nat × Nat} (h : pNum b N lo hi p = .inl q) : pNumH b N lo hi p = .inl q := by
  unfold pNum pb at h
  cases e : pNumH b N lo hi p with
  | inl a =>
    rw [e] at h
    exact congrArg Sum.inl (Sum.inl.inj h)
  | inr v =>
    rw [e] at h
    exact absurd h (by simp)
/-- what an entry leaves -/
def EO (b : Nat → Int32) (N c n t told : Nat) (δ : Nat → Int32) (nf : Nat → Nat → Int32) (nl : Nat → Nat) : PST → SS → Prop := fun s S' => ∃ t', s.1 = pos b N t' ∧ t < t' ∧ s.2.2 = told ∧ rn s.2.1 = rn δ ∧ CS b N c n S' t' told s.2.1 nf nl
theorem ZR_pt {g : Nat → Int32} {i w : Nat} {x : Int32} (h : ZR g) (hi : i < rn g) (hw : w < 66) : ZR (pt g i w x) := fun j hj => by
  rw [rn_cg (pt_lo g x (by decide))] at hj
  unfold pt
  rw [upd_o (by omega)]
  exact h j hj
theorem lpx_entry {Q : ab_Q} {b : Nat → Int32} {N c n : Nat} {S : SS} {t told : Nat} {δ : Nat → Int32} {nf : Nat → Nat → Int32} {nl : Nat → Nat} (hn : 269 ≤ n) (h : CS b N c n S t told δ nf nl) {i : Nat} (hi : i < rn δ) (hC : ∀ v, pNumH b N 0 47 (pos b N t) = .inr v → pg δ i v = 0) (hQ : ∀ v S', RB S (pEnt b N i (pos b N t) δ told) (EO b N c n t told δ nf nl) v S' → Q (.inl (some (.int v))) 0 0 n (Hp S')) : WA RX3 cX3_takeEntry 3 [] (ab_rm 2 0 0) Q 0 0 42 [some (.ref 1), some (.ref (3 + 5 + 3 * i)), none] [] n (Hp S) := by
  have ht := h.tL
  have hc := h.cL
  have h6 := h.gg.1.rn6
  have hR : isR (3 + 5 + 3 * i) := isH_draft.R (by omega)
  refine wa_aload_n dX3_takeEntry_42 rfl ?_
  refine wa_iconst (x := 0) dX3_takeEntry_43 (by decide) ?_
  refine wa_bipush (x := 47) dX3_takeEntry_44 (by decide) ?_
  refine c_VQI dX3_takeEntry_46 (px_takeNumber hn h (lo := 0) (ho := 47) (by decide) (by decide)) lk_X3_100 rfl (isO_PA _ _ _) rfl (ltS hn) (fun w1 S1 r1 => ?_)
  cases hx1 : pNum b N 0 47 (pos b N t) with
  | inl e =>
    obtain ⟨f1, rfl, q1⟩ := RB.l hx1 r1
    refine wa_if_ne 54 dX3_takeEntry_49 rfl (fun c49 => absurd rfl c49) (fun c49 => ?_)
    refine wa_iconst (x := 0) dX3_takeEntry_52 (by decide) ?_
    exact wa_ireturn dX3_takeEntry_53 (hQ _ _ (RB.ofl (by unfold pEnt; rw [pNum_l hx1]; rfl) f1 q1))
  | inr a1 =>
    obtain ⟨v1, p1⟩ := a1
    obtain ⟨f1, rfl, (e1 : p1 = pos b N (t + 1)), g1, m1, h1⟩ := RB.r hx1 r1
    subst e1
    have e1 := hC _ (pNum_r hx1)
    refine wa_if_ne 54 dX3_takeEntry_49 rfl (fun c49 => ?_) (fun c49 => absurd c49 (by decide))
    refine wa_aload_n dX3_takeEntry_54 rfl ?_
    refine g_PA hn 7 dX3_takeEntry_55 fl_X3_97 (by decide) (v := .int (nI v1)) (congrArg (fun x => some (Value.int x)) m1) ?_
    refine wa_istore_n dX3_takeEntry_58 rfl ?_
    refine wa_aload_n dX3_takeEntry_59 rfl ?_
    refine wa_bipush (x := 58) dX3_takeEntry_60 (by decide) ?_
    refine c_VQI dX3_takeEntry_62 (px_takeSymbol hn h1 58) lk_X3_66 rfl (isO_PA _ _ _) rfl (ltS hn) (fun w2 S2 r2 => ?_)
    cases hx2 : pSym b N 58 (pos b N (t + 1)) with
    | inl e =>
      obtain ⟨f2, rfl, q2⟩ := RB.l hx2 r2
      refine wa_if_eq 80 dX3_takeEntry_65 rfl (fun c65 => ?_) (fun c65 => absurd rfl c65)
      refine wa_iconst (x := 0) dX3_takeEntry_80 (by decide) ?_
      exact wa_ireturn dX3_takeEntry_81 (hQ _ _ (RB.ofl (by unfold pEnt; rw [pNum_r hx1]; show (if pg δ i v1 = 0 then _ else _) = _; rw [if_pos e1]; show pb (pSym b N 58 (pos b N (t + 1))) _ = _; rw [hx2]; rfl) (f1.tr f2) q2))
    | inr a2 =>
      obtain ⟨f2, rfl, (e2 : a2 = pos b N (t + 1 + 1)), h2⟩ := RB.r hx2 r2
      subst e2
      refine wa_if_eq 80 dX3_takeEntry_65 rfl (fun c65 => absurd c65 (by decide)) (fun c65 => ?_)
      refine wa_aload_n dX3_takeEntry_68 rfl ?_
      refine wa_bipush (x := 50) dX3_takeEntry_69 (by decide) ?_
      refine wa_sipush (x := 300) dX3_takeEntry_71 (by decide) ?_
      refine c_VQI dX3_takeEntry_74 (px_takeNumber hn h2 (lo := 50) (ho := 300) (by decide) (by decide)) lk_X3_100 rfl (isO_PA _ _ _) rfl (ltS hn) (fun w3 S3 r3 => ?_)
      cases hx3 : pNum b N 50 300 (pos b N (t + 1 + 1)) with
      | inl e =>
        obtain ⟨f3, rfl, q3⟩ := RB.l hx3 r3
        refine wa_if_ne 82 dX3_takeEntry_77 rfl (fun c77 => absurd rfl c77) (fun c77 => ?_)
        refine wa_iconst (x := 0) dX3_takeEntry_80 (by decide) ?_
        exact wa_ireturn dX3_takeEntry_81 (hQ _ _ (RB.ofl (by unfold pEnt; rw [pNum_r hx1]; show (if pg δ i v1 = 0 then _ else _) = _; rw [if_pos e1]; show pb (pSym b N 58 (pos b N (t + 1))) _ = _; rw [hx2]; show pb (pNum b N 50 300 _) _ = _; rw [hx3]; rfl) ((f1.tr f2).tr f3) q3))
      | inr a3 =>
        obtain ⟨v3, p3⟩ := a3
        obtain ⟨f3, rfl, (e3 : p3 = pos b N (t + 1 + 1 + 1)), g3, m3, h3⟩ := RB.r hx3 r3
        subst e3
        refine wa_if_ne 82 dX3_takeEntry_77 rfl (fun c77 => ?_) (fun c77 => absurd c77 (by decide))
        refine wa_aload_n dX3_takeEntry_82 rfl ?_
        refine wa_iload_n dX3_takeEntry_83 rfl ?_
        refine wa_aload_n dX3_takeEntry_84 rfl ?_
        refine g_PA hn 7 dX3_takeEntry_85 fl_X3_97 (by decide) (v := .int (nI v3)) (congrArg (fun x => some (Value.int x)) m3) ?_
        refine c_VQV dX3_takeEntry_88 (am_putEntry hR hn (h3.hh.lvT hi).rp (by omega) (by rw [nI_toInt (by omega)]; omega)) lk_X3_253 rfl (isR.RO hR _ _ _) rfl (lt_RO hR hn) (fun S4 r4 => ?_)
        obtain ⟨a4, b4⟩ := h3.hh.prog hi (by omega) r4
        have h4 := h3.dr b4 a4 ⟨GG_prog h3.gg.1 (by omega) (Or.inr (by rw [nI_toInt (by omega)]; omega)), ZR_pt h3.gg.2 hi (by omega)⟩ (rn_cg (pt_lo δ _ (by decide))) (fun j hj => by rw [of_pt δ _ (by omega) (by omega), if_neg (by omega)])
        refine wa_iconst (x := 1) dX3_takeEntry_91 (by decide) ?_
        exact wa_ireturn dX3_takeEntry_92 (hQ _ _ (RB.ofr (a := (pos b N (t + 1 + 1 + 1), pt δ i (18 + v1) (nI v3), told)) (by unfold pEnt; rw [pNum_r hx1]; show (if pg δ i v1 = 0 then _ else _) = _; rw [if_pos e1]; show pb (pSym b N 58 (pos b N (t + 1))) _ = _; rw [hx2]; show pb (pNum b N 50 300 _) _ = _; rw [hx3]; rfl) (((f1.tr f2).tr f3).tr (FRh.ps b4)) ⟨t + 1 + 1 + 1, rfl, by omega, rfl, rn_cg (pt_lo δ _ (by decide)), h4⟩))
theorem RB.nar {α : Type} {S0 S' : SS} {x : PR α} {P : α → SS → Prop} {v : Int32} (h : RB S0 x P v S') : narrow .boolean (.int v) = .int v := by
  have h2 := h.2
  cases x with
  | inl q =>
    rw [h2.1]
    exact bool01.1
  | inr a =>
    rw [h2.1]
    exact bool01.2
theorem pNumH_v {b : Nat → Int32} {N lo hi p v : Nat} (h : pNumH b N lo hi p = .inr v) : tk b N p = 2 ∧ (lo ≤ vl b N p ∧ vl b N p ≤ hi) ∧ v = vl b N p := by
  unfold pNumH at h
  by_cases h1 : tk b N p = 2
  · rw [if_pos h1] at h
    by_cases h2 : lo ≤ vl b N p ∧ vl b N p ≤ hi
    · rw [if_pos h2] at h
      exact ⟨h1, h2, (Sum.inr.inj h).symm⟩
    · rw [if_neg h2] at h
      exact absurd h (by simp)
  · rw [if_neg h1] at h
    exact absurd h (by simp)
theorem pg_m1 {P : Nat → Int32} (h : PT P) (t : Nat) (hz : ¬ P t = 0) : ¬ P t = -1 := fun z => by
  rcases h.2 t with e | e
  · exact hz e
  · rw [z] at e
    exact absurd e.1 (by decide)
theorem px_takeEntry {b : Nat → Int32} {N c n : Nat} {S : SS} {t told : Nat} {δ : Nat → Int32} {nf : Nat → Nat → Int32} {nl : Nat → Nat} (hn : 269 ≤ n) (h : CS b N c n S t told δ nf nl) {i : Nat} (hi : i < rn δ) : AM yX3_takeEntry cX3_takeEntry 3 (some .boolean) [] 2 0 0 [.ref 1, .ref (3 + 5 + 3 * i)] n (Hp S) (PIe n (RB S (pEnt b N i (pos b N t) δ told) (EO b N c n t told δ nf nl))) := by
  intro has
  change WA RX3 cX3_takeEntry 3 [] _ _ 0 0 0 [some (.ref 1), some (.ref (3 + 5 + 3 * i)), none] [] n _
  have ht := h.tL
  have hc := h.cL
  have h6 := h.gg.1.rn6
  have hR : isR (3 + 5 + 3 * i) := isH_draft.R (by omega)
  by_cases hk : tk b N (pos b N t) = 2
  · have hk2 := (h.tkE (k := 2) (by decide) (by decide)).mpr hk
    have hP := (h.hh.lvT hi).rp
    have v9 := nv_le b 100000 (pos b N t) (te b N (pos b N t) - pos b N t)
    obtain ⟨v1, v2⟩ := nv_rng (b := b) (N := N) (p := pos b N t) (lo := 0) (hi := 47) (by decide)
    by_cases hz : pg δ i (nv b 100000 (pos b N t) (te b N (pos b N t) - pos b N t)) = 0
    · skip
      refine wa_aload_n dX3_takeEntry_0 rfl ?_
      refine g_PA (by assumption) 5 dX3_takeEntry_1 fl_X3_25 (by decide) rfl ?_
      refine g_TO (by assumption) 1 dX3_takeEntry_4 fl_X3_74 (by decide) rfl ?_
      refine wa_aload_n dX3_takeEntry_7 rfl ?_
      refine g_PA hn 6 dX3_takeEntry_8 fl_X3_37 (by decide) (v := .int (nI t)) (congrArg (fun x => some (Value.int x)) h.a) ?_
      refine s_iald (j := t) isA_kinds dX3_takeEntry_11 (ltS hn) (ix_nI (by omega)) (by omega) ?_
      rw [h.kd]
      refine wa_iconst (x := 2) dX3_takeEntry_12 (by decide) ?_
      refine wa_icmp_ne 42 dX3_takeEntry_13 rfl (fun c13 => absurd (by rw [hk2]; rfl) c13) (fun c13 => ?_)
      refine wa_aload_n dX3_takeEntry_16 rfl ?_
      refine wa_aload_n dX3_takeEntry_17 rfl ?_
      refine g_PA (by assumption) 5 dX3_takeEntry_18 fl_X3_25 (by decide) rfl ?_
      refine g_TO (by assumption) 4 dX3_takeEntry_21 fl_X3_77 (by decide) rfl ?_
      refine wa_aload_n dX3_takeEntry_24 rfl ?_
      refine g_PA hn 6 dX3_takeEntry_25 fl_X3_37 (by decide) (v := .int (nI t)) (congrArg (fun x => some (Value.int x)) h.a) ?_
      refine s_iald (j := t) isA_values dX3_takeEntry_28 (ltS hn) (ix_nI (by omega)) (by omega) ?_
      rw [h.vals (tk_lt (by rw [hk]; decide)), tv_num hk]
      refine c_VI dX3_takeEntry_29 (am_toldAt hR hn hP (by omega)) lk_X3_249 rfl (isR.RO hR _ _ _) rfl (lt_RO hR hn) ?_
      rw [if_pos hz]
      refine wa_iconst (x := (-1)) dX3_takeEntry_32 (by decide) ?_
      refine wa_icmp_eq 42 dX3_takeEntry_33 rfl (fun c33 => ?_) (fun c33 => absurd rfl c33)
      exact lpx_entry hn h hi (fun v e => by obtain ⟨-, x1, x2⟩ := pNumH_v e; rw [x2, ← v2 x1]; exact hz) (fun v S2 q => ⟨Nat.le_refl _, Nat.le_refl _, ⟨_, rfl, q.nar⟩, rfl, _, _, rfl, rfl, q⟩)
    · have h48 := cnt_eq48 hP.1 hz
      have e1 := v2 (v1.mp ⟨Nat.zero_le _, by omega⟩)
      refine wa_aload_n dX3_takeEntry_0 rfl ?_
      refine g_PA (by assumption) 5 dX3_takeEntry_1 fl_X3_25 (by decide) rfl ?_
      refine g_TO (by assumption) 1 dX3_takeEntry_4 fl_X3_74 (by decide) rfl ?_
      refine wa_aload_n dX3_takeEntry_7 rfl ?_
      refine g_PA hn 6 dX3_takeEntry_8 fl_X3_37 (by decide) (v := .int (nI t)) (congrArg (fun x => some (Value.int x)) h.a) ?_
      refine s_iald (j := t) isA_kinds dX3_takeEntry_11 (ltS hn) (ix_nI (by omega)) (by omega) ?_
      rw [h.kd]
      refine wa_iconst (x := 2) dX3_takeEntry_12 (by decide) ?_
      refine wa_icmp_ne 42 dX3_takeEntry_13 rfl (fun c13 => absurd (by rw [hk2]; rfl) c13) (fun c13 => ?_)
      refine wa_aload_n dX3_takeEntry_16 rfl ?_
      refine wa_aload_n dX3_takeEntry_17 rfl ?_
      refine g_PA (by assumption) 5 dX3_takeEntry_18 fl_X3_25 (by decide) rfl ?_
      refine g_TO (by assumption) 4 dX3_takeEntry_21 fl_X3_77 (by decide) rfl ?_
      refine wa_aload_n dX3_takeEntry_24 rfl ?_
      refine g_PA hn 6 dX3_takeEntry_25 fl_X3_37 (by decide) (v := .int (nI t)) (congrArg (fun x => some (Value.int x)) h.a) ?_
      refine s_iald (j := t) isA_values dX3_takeEntry_28 (ltS hn) (ix_nI (by omega)) (by omega) ?_
      rw [h.vals (tk_lt (by rw [hk]; decide)), tv_num hk]
      refine c_VI dX3_takeEntry_29 (am_toldAt hR hn hP (by omega)) lk_X3_249 rfl (isR.RO hR _ _ _) rfl (lt_RO hR hn) ?_
      rw [if_neg hz]
      refine wa_iconst (x := (-1)) dX3_takeEntry_32 (by decide) ?_
      refine wa_icmp_eq 42 dX3_takeEntry_33 rfl (fun c33 => absurd c33 (pg_m1 hP.1 _ hz)) (fun c33 => ?_)
      refine wa_aload_n dX3_takeEntry_36 rfl ?_
      refine wa_iconst (x := 3) dX3_takeEntry_37 (by decide) ?_
      refine c_VI dX3_takeEntry_38 (px_fail (S := S) hn h 3) lk_X3_56 rfl (isO_PA _ _ _) rfl (ltS hn) ?_
      exact wa_ireturn dX3_takeEntry_41 ⟨Nat.le_refl _, Nat.le_refl _, ⟨_, rfl, rfl⟩, rfl, _, _, rfl, rfl, RB.ofl (by unfold pEnt pNumH; rw [if_pos hk, if_pos (v1.mp ⟨Nat.zero_le _, by omega⟩)]; show (if pg δ i (vl b N (pos b N t)) = 0 then _ else _) = _; rw [← e1]; exact if_neg hz) (fail_fr FRps.rf _ _) (fail_err _ _ _)⟩
  · have hk2 : ¬ tkk b N c t = 2 := fun z => hk ((h.tkE (k := 2) (by decide) (by decide)).mp z)
    refine wa_aload_n dX3_takeEntry_0 rfl ?_
    refine g_PA (by assumption) 5 dX3_takeEntry_1 fl_X3_25 (by decide) rfl ?_
    refine g_TO (by assumption) 1 dX3_takeEntry_4 fl_X3_74 (by decide) rfl ?_
    refine wa_aload_n dX3_takeEntry_7 rfl ?_
    refine g_PA hn 6 dX3_takeEntry_8 fl_X3_37 (by decide) (v := .int (nI t)) (congrArg (fun x => some (Value.int x)) h.a) ?_
    refine s_iald (j := t) isA_kinds dX3_takeEntry_11 (ltS hn) (ix_nI (by omega)) (by omega) ?_
    rw [h.kd]
    refine wa_iconst (x := 2) dX3_takeEntry_12 (by decide) ?_
    refine wa_icmp_ne 42 dX3_takeEntry_13 rfl (fun c13 => ?_) (fun c13 => absurd (nI_inj (a := tkk b N c t) (b := 2) (by have := h.kl; omega) (by decide) c13) hk2)
    exact lpx_entry hn h hi (fun v e => absurd (pNumH_v e).1 hk) (fun v S2 q => ⟨Nat.le_refl _, Nat.le_refl _, ⟨_, rfl, q.nar⟩, rfl, _, _, rfl, rfl, q⟩)
theorem RB.fr {α : Type} {S0 S1 S' : SS} {x : PR α} {P : α → SS → Prop} {v : Int32} (h : RB S1 x P v S') (f : FRps S0 S1) : RB S0 x P v S' := ⟨f.tr h.1, h.2⟩
theorem RB.im {α β : Type} {S0 S' : SS} {x : PR α} {y : PR β} {P : α → SS → Prop} {P' : β → SS → Prop} {v : Int32} (h : RB S0 x P v S') (hl : ∀ e, x = .inl e → y = .inl e) (hr : ∀ a, x = .inr a → P a S' → ∃ a', y = .inr a' ∧ P' a' S') : RB S0 y P' v S' := by
  refine ⟨h.1, ?_⟩
  have h2 := h.2
  cases e : x with
  | inl q =>
    rw [e] at h2
    rw [hl q e]
    exact h2
  | inr a =>
    rw [e] at h2
    obtain ⟨a', e1, e2⟩ := hr a e h2.2
    rw [e1]
    exact ⟨h2.1, e2⟩
theorem lpx_prog {Q : ab_Q} {b : Nat → Int32} {N c n r told : Nat} {nf : Nat → Nat → Int32} {nl : Nat → Nat} (hn : 269 ≤ n) :
    ∀ (f u i : Nat) (S : SS) (δ : Nat → Int32), CS b N c n S (u + 1) told δ nf nl → r < rn δ → i ≤ u → N < pos b N u + f → ¬ tk b N (pos b N u) = 0 → (∀ v S', RB S (pEntries b N r f (pos b N u, δ, told)) (PO PZ b N c n u nf nl) v S' → Q (.inl (some (.int v))) 0 0 n (Hp S')) → WA RX3 cX3_takeProgram 5 [] (ab_rm 7 0 0) Q 0 0 48 [some (.ref 1), some (.int (nI r)), some (.ref (3 + 5 + 3 * r)), some (.int 1), some (.int (nI i))] [] n (Hp S) := by
  intro f
  induction f with
  | zero =>
    intro u i S δ h hr hi hf hk0 hQ
    have := pos_N b N u
    omega
  | succ f ih =>
    intro u i S δ h hr hi hf hk0 hQ
    have ht := h.tL
    have hc := h.cL
    have hpu := pos_s (tk_lt hk0)
    refine wa_iload dX3_takeProgram_48 rfl ?_
    refine wa_aload_n dX3_takeProgram_50 rfl ?_
    refine g_PA (by assumption) 5 dX3_takeProgram_51 fl_X3_25 (by decide) rfl ?_
    refine g_TO hn 0 dX3_takeProgram_54 fl_X3_60 (by decide) (v := .int (nI c)) (congrArg (fun x => some (Value.int x)) h.1.1.1) ?_
    refine wa_icmp_ge 95 dX3_takeProgram_57 rfl (fun c57 => absurd c57 (nI_ge (by omega) (by omega))) (fun c57 => ?_)
    refine wa_iload_n dX3_takeProgram_60 rfl ?_
    refine wa_if_eq 95 dX3_takeProgram_61 rfl (fun c61 => absurd c61 (by decide)) (fun c61 => ?_)
    refine wa_aload_n dX3_takeProgram_64 rfl ?_
    refine wa_aload_n dX3_takeProgram_65 rfl ?_
    refine c_VQI dX3_takeProgram_66 (px_takeEntry hn h hr) lk_X3_246 rfl (isO_PA _ _ _) rfl (ltS hn) (fun w1 S1 r1 => ?_)
    cases hx1 : pEnt b N r (pos b N (u + 1)) δ told with
    | inl e =>
      obtain ⟨f1, rfl, q1⟩ := RB.l hx1 r1
      refine wa_if_ne 74 dX3_takeProgram_69 rfl (fun c69 => absurd rfl c69) (fun c69 => ?_)
      refine wa_iconst (x := 0) dX3_takeProgram_72 (by decide) ?_
      exact wa_ireturn dX3_takeProgram_73 (hQ _ _ (RB.ofl (by show pb (pEnt b N r (pos b N (u + 1)) δ told) _ = _; rw [hx1]; rfl) f1 q1))
    | inr a1 =>
      obtain ⟨f1, rfl, w1, e1, d1, y1, g1, h1⟩ := RB.r hx1 r1
      obtain ⟨s1, δ1, m1⟩ := a1
      dsimp only at e1 y1 g1 h1
      subst e1
      have y2 := y1.symm
      subst y2
      by_cases hs : isS b N 44 (pos b N w1) = true
      · have ht1 := h1.nend (by rw [(isS_iff.mp hs).1]; decide)
        refine wa_if_ne 74 dX3_takeProgram_69 rfl (fun c69 => ?_) (fun c69 => absurd c69 (by decide))
        refine wa_aload_n dX3_takeProgram_74 rfl ?_
        refine wa_bipush (x := 44) dX3_takeProgram_75 (by decide) ?_
        refine c_VI dX3_takeProgram_77 (px_isSymbol hn h1 44) lk_X3_87 rfl (isO_PA _ _ _) rfl (ltS hn) ?_
        rw [b2i_1 hs]
        refine wa_istore_n dX3_takeProgram_80 rfl ?_
        refine wa_iload_n dX3_takeProgram_81 rfl ?_
        refine wa_if_eq 89 dX3_takeProgram_82 rfl (fun c82 => absurd c82 (by decide)) (fun c82 => ?_)
        refine wa_aload_n dX3_takeProgram_85 rfl ?_
        refine c_VQV dX3_takeProgram_86 (px_pass hn h1) lk_X3_90 rfl (isO_PA _ _ _) rfl (ltS hn) (fun T0 p0 => ?_)
        obtain ⟨p0, t0, ⟨-, p0b⟩, k0⟩ := p0
        obtain rfl := p0b ht1
        refine wa_iinc (y := 1) dX3_takeProgram_89 rfl (by decide) rfl ?_
        rw [nI_1 i]
        refine wa_goto 48 dX3_takeProgram_92 rfl ?_
        exact ih w1 (i + 1) T0 δ1 k0 (by rw [g1]; exact hr) (by omega) (by have := pos_mono (b := b) (N := N) (s := u + 1) w1 (by omega); omega) (by rw [(isS_iff.mp hs).1]; decide) (fun v S2 q => hQ v S2 ((RB.fr q (f1.tr p0)).im (fun e z => by show pb (pEnt b N r (pos b N (u + 1)) δ told) _ = _; rw [hx1]; exact (if_pos hs).trans z) (fun a z z2 => ⟨a, by show pb (pEnt b N r (pos b N (u + 1)) δ told) _ = _; rw [hx1]; exact (if_pos hs).trans z, by obtain ⟨t', y1, y2, y3⟩ := z2; exact ⟨t', y1, by omega, y3⟩⟩)))
      · skip
        refine wa_if_ne 74 dX3_takeProgram_69 rfl (fun c69 => ?_) (fun c69 => absurd c69 (by decide))
        refine wa_aload_n dX3_takeProgram_74 rfl ?_
        refine wa_bipush (x := 44) dX3_takeProgram_75 (by decide) ?_
        refine c_VI dX3_takeProgram_77 (px_isSymbol hn h1 44) lk_X3_87 rfl (isO_PA _ _ _) rfl (ltS hn) ?_
        rw [b2i_0 hs]
        refine wa_istore_n dX3_takeProgram_80 rfl ?_
        refine wa_iload_n dX3_takeProgram_81 rfl ?_
        refine wa_if_eq 89 dX3_takeProgram_82 rfl (fun c82 => ?_) (fun c82 => absurd rfl c82)
        refine wa_iinc (y := 1) dX3_takeProgram_89 rfl (by decide) rfl ?_
        rw [nI_1 i]
        refine wa_goto 48 dX3_takeProgram_92 rfl ?_
        refine wa_iload dX3_takeProgram_48 rfl ?_
        refine wa_aload_n dX3_takeProgram_50 rfl ?_
        refine g_PA (by assumption) 5 dX3_takeProgram_51 fl_X3_25 (by decide) rfl ?_
        refine g_TO hn 0 dX3_takeProgram_54 fl_X3_60 (by decide) (v := .int (nI c)) (congrArg (fun x => some (Value.int x)) h1.1.1.1) ?_
        refine wa_icmp_ge 95 dX3_takeProgram_57 rfl (fun c57 => ?_) (fun c57 => ?_)
        · refine wa_iconst (x := 1) dX3_takeProgram_95 (by decide) ?_
          exact wa_ireturn dX3_takeProgram_96 (hQ _ _ (RB.ofr (a := (pos b N w1, δ1, told)) (by show pb (pEnt b N r (pos b N (u + 1)) δ told) _ = _; rw [hx1]; exact if_neg hs) f1 ⟨w1, rfl, by omega, h1⟩))
        · refine wa_iload_n dX3_takeProgram_60 rfl ?_
          refine wa_if_eq 95 dX3_takeProgram_61 rfl (fun c61 => ?_) (fun c61 => absurd rfl c61)
          refine wa_iconst (x := 1) dX3_takeProgram_95 (by decide) ?_
          exact wa_ireturn dX3_takeProgram_96 (hQ _ _ (RB.ofr (a := (pos b N w1, δ1, told)) (by show pb (pEnt b N r (pos b N (u + 1)) δ told) _ = _; rw [hx1]; exact if_neg hs) f1 ⟨w1, rfl, by omega, h1⟩))
theorem nI_le0 {k : Nat} (h : k < 2 ^ 31) (z : nI k ≤ 0) : k = 0 := by
  have := (nI_leI (a := k) (b := 0) h (by decide)).mp z
  omega
theorem px_takeProgram {b : Nat → Int32} {N c n : Nat} {S : SS} {t told : Nat} {δ : Nat → Int32} {nf : Nat → Nat → Int32} {nl : Nat → Nat} (hn : 269 ≤ n) (h : CS b N c n S t told δ nf nl) (hk0 : ¬ tk b N (pos b N t) = 0) : AM yX3_takeProgram cX3_takeProgram 5 (some .boolean) [] 7 0 0 [.ref 1] n (Hp S) (PIe n (RB S (pb (pRoom b N δ (nx b N (pos b N t))) (fun r => if cnt (pg δ r) 48 = 0 then pEntries b N r (N + 1) (nx b N (pos b N t), δ, told) else .inl (3, nx b N (pos b N t)))) (PO PZ b N c n t nf nl))) := by
  intro has
  change WA RX3 cX3_takeProgram 5 [] _ _ 0 0 0 [some (.ref 1), none, none, none, none] [] n _
  have ht := h.tL
  have hc := h.cL
  have ht1 := h.nend hk0
  refine wa_aload_n dX3_takeProgram_0 rfl ?_
  refine c_VQV dX3_takeProgram_1 (px_pass hn h) lk_X3_90 rfl (isO_PA _ _ _) rfl (ltS hn) (fun T0 p0 => ?_)
  obtain ⟨p0, t0, ⟨-, p0b⟩, k0⟩ := p0
  obtain rfl := p0b ht1
  refine wa_aload_n dX3_takeProgram_4 rfl ?_
  refine c_VQI dX3_takeProgram_5 (px_knownRoomHere hn k0) lk_X3_240 rfl (isO_PA _ _ _) rfl (ltS hn) (fun w1 S1 r1 => ?_)
  obtain ⟨f1, ⟨r, e1, rfl, hr, rfl, hk1⟩ | ⟨e, e1, rfl, q1⟩⟩ := r1
  · have ht2 := k0.nend hk1
    have h6 := k0.gg.1.rn6
    have hR : isR (3 + 5 + 3 * r) := isH_draft.R (by omega)
    have hP := (k0.hh.lvT hr).rp
    have c48 := cnt_le (pg δ r) 48
    by_cases hz : cnt (pg δ r) 48 = 0
    · skip
      refine wa_istore_n dX3_takeProgram_8 rfl ?_
      refine wa_iload_n dX3_takeProgram_9 rfl ?_
      refine wa_iconst (x := (-1)) dX3_takeProgram_10 (by decide) ?_
      refine wa_icmp_ne 16 dX3_takeProgram_11 rfl (fun c11 => ?_) (fun c11 => absurd c11 (nI_m1 (b := r) (by omega)))
      refine wa_aload_n dX3_takeProgram_16 rfl ?_
      refine g_PA (by assumption) 2 dX3_takeProgram_17 fl_X3_18 (by decide) rfl ?_
      refine g_HO isH_draft hn 10 dX3_takeProgram_20 fl_X3_136 (by decide) rfl ?_
      refine wa_iload_n dX3_takeProgram_23 rfl ?_
      refine L_room isH_draft hn (nI_toInt (by omega)) (by omega) dX3_takeProgram_24 ?_
      refine wa_astore_n dX3_takeProgram_25 rfl ?_
      refine wa_aload_n dX3_takeProgram_26 rfl ?_
      refine g_RO hR hn 14 dX3_takeProgram_27 fl_X3_243 (by decide) (v := .int (nI (cnt (pg δ r) 48))) (congrArg (fun x => some (Value.int x)) hP.2.1) ?_
      refine wa_if_le 39 dX3_takeProgram_30 rfl (fun c30 => ?_) (fun c30 => absurd (by rw [hz]; exact Int32.le_refl _) c30)
      refine wa_aload_n dX3_takeProgram_39 rfl ?_
      refine c_VQV dX3_takeProgram_40 (px_pass hn k0) lk_X3_90 rfl (isO_PA _ _ _) rfl (ltS hn) (fun T1 p1 => ?_)
      obtain ⟨p1, t1, ⟨-, p1b⟩, k1⟩ := p1
      obtain rfl := p1b ht2
      refine wa_iconst (x := 1) dX3_takeProgram_43 (by decide) ?_
      refine wa_istore_n dX3_takeProgram_44 rfl ?_
      refine wa_iconst (x := 0) dX3_takeProgram_45 (by decide) ?_
      refine wa_istore dX3_takeProgram_46 rfl ?_
      exact lpx_prog hn (N + 1) (t + 1) 0 T1 δ k1 hr (Nat.zero_le _) (by omega) hk1 (fun v S2 q => ⟨Nat.le_refl _, Nat.le_refl _, ⟨_, rfl, q.nar⟩, rfl, _, _, rfl, rfl, (RB.fr q (p0.tr p1)).im (fun e z => by show pb (pRoom b N δ (pos b N (t + 1))) _ = _; rw [e1]; exact (if_pos hz).trans z) (fun a z z2 => ⟨a, by show pb (pRoom b N δ (pos b N (t + 1))) _ = _; rw [e1]; exact (if_pos hz).trans z, by obtain ⟨t3, y1, y2, y3⟩ := z2; exact ⟨t3, y1, by omega, y3⟩⟩)⟩)
    · skip
      refine wa_istore_n dX3_takeProgram_8 rfl ?_
      refine wa_iload_n dX3_takeProgram_9 rfl ?_
      refine wa_iconst (x := (-1)) dX3_takeProgram_10 (by decide) ?_
      refine wa_icmp_ne 16 dX3_takeProgram_11 rfl (fun c11 => ?_) (fun c11 => absurd c11 (nI_m1 (b := r) (by omega)))
      refine wa_aload_n dX3_takeProgram_16 rfl ?_
      refine g_PA (by assumption) 2 dX3_takeProgram_17 fl_X3_18 (by decide) rfl ?_
      refine g_HO isH_draft hn 10 dX3_takeProgram_20 fl_X3_136 (by decide) rfl ?_
      refine wa_iload_n dX3_takeProgram_23 rfl ?_
      refine L_room isH_draft hn (nI_toInt (by omega)) (by omega) dX3_takeProgram_24 ?_
      refine wa_astore_n dX3_takeProgram_25 rfl ?_
      refine wa_aload_n dX3_takeProgram_26 rfl ?_
      refine g_RO hR hn 14 dX3_takeProgram_27 fl_X3_243 (by decide) (v := .int (nI (cnt (pg δ r) 48))) (congrArg (fun x => some (Value.int x)) hP.2.1) ?_
      refine wa_if_le 39 dX3_takeProgram_30 rfl (fun c30 => absurd c30 (fun z => hz (nI_le0 (by omega) z))) (fun c30 => ?_)
      refine wa_aload_n dX3_takeProgram_33 rfl ?_
      refine wa_iconst (x := 3) dX3_takeProgram_34 (by decide) ?_
      refine c_VI dX3_takeProgram_35 (px_fail hn k0 3) lk_X3_56 rfl (isO_PA _ _ _) rfl (ltS hn) ?_
      exact wa_ireturn dX3_takeProgram_38 ⟨Nat.le_refl _, Nat.le_refl _, ⟨_, rfl, rfl⟩, rfl, _, _, rfl, rfl, RB.ofl (by show pb (pRoom b N δ (pos b N (t + 1))) _ = _; rw [e1]; exact if_neg hz) (fail_fr p0 _ _) (fail_err _ _ _)⟩
  · skip
    refine wa_istore_n dX3_takeProgram_8 rfl ?_
    refine wa_iload_n dX3_takeProgram_9 rfl ?_
    refine wa_iconst (x := (-1)) dX3_takeProgram_10 (by decide) ?_
    refine wa_icmp_ne 16 dX3_takeProgram_11 rfl (fun c11 => absurd rfl c11) (fun c11 => ?_)
    refine wa_iconst (x := 0) dX3_takeProgram_14 (by decide) ?_
    exact wa_ireturn dX3_takeProgram_15 ⟨Nat.le_refl _, Nat.le_refl _, ⟨_, rfl, rfl⟩, rfl, _, _, rfl, rfl, RB.ofl (by show pb (pRoom b N δ (pos b N (t + 1))) _ = _; rw [e1]; rfl) (p0.tr f1) q1⟩

