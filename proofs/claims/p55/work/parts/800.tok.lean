/-! ValveRoom$Tokens. Written by program (wip/whole/gen/m800.py) but for the heads. -/
section KS
variable {own : String} {cc : ByteArray} {nL : Nat} {hh : List (Nat × Nat × Nat × Nat)} {R : Room} {Q : ab_Q} {k z pc : Nat} {ls : List (Option Value)} {st : List Value} {n : Nat} {h : ab_H}
/-- a keyword stored, or null -/
theorem wa_aastK {a len j y : Nat} {f : Nat → Option Nat} {i : Int32} (d : decode cc pc = .ok (.aastore, 1)) (ha : a < n) (he : h a = .inl (8, len, .inr (.inr (.inr (.inr f))))) (hj : i.toInt = (j : Int)) (hjl : j < len) (hy : y < 18)
    (K : WA own cc nL hh R Q k z (pc + 1) ls st n (ab_up h a (.inl (8, len, .inr (.inr (.inr (.inr (va_up f j (some (ab_CB + (112 + y))))))))))) : WA own cc nL hh R Q k z pc ls (.ref (ab_CB + (112 + y)) :: .int i :: .ref a :: st) n h := by
  intro p l e s m args below meth c base D T C0 α H L locs Fin hC hW hL hs hl hS hF hT
  have hg := ab_wl_get (α := α) (T := T) (h := h) ha
  have hw := hW.2.2.1 a ha
  rw [he] at hg hw
  obtain ⟨hin, hjj⟩ := ab_ix hj hjl
  have hAny : va_Any "ValveRoom$Keyword" s H (α (ab_CB + (112 + y))) := by
    obtain ⟨cell, g1, g2, g3⟩ := va_Orecv (hC.2.1 y hy).1 hS
    obtain ⟨kC, hkC, -⟩ := Vm.findClass_spec g3
    refine ⟨cell, g1, g2, ⟨kC, hkC⟩, fun comp hcomp => ?_⟩
    cases Option.some.inj (g3.symm.trans hcomp)
    exact va_asg _ _
  refine va_astqM C0.1 C0.2.1 C0.2.2.2.2.2.1 hW.1 hW.2.1 hS a 8 (E := "ValveRoom$Keyword") (v := α (ab_CB + (112 + y))) hg rfl hAny hin d (fun H1 locs1 hP1 hD1 hS1 => ?_)
  have hfun : va_up (fun q => (f q).map α) i.toNatClampNeg (some (α (ab_CB + (112 + y)))) = (fun q => (va_up f j (some (ab_CB + (112 + y))) q).map α) := by
    funext q
    rw [hjj]
    unfold va_up
    split <;> rfl
  rw [hfun] at hP1 hD1
  exact K p l e s m args below meth c base D T C0 α H1 L locs1 Fin hC (ab_Wd.set (e := .inl (8, len, .inr (.inr (.inr (.inr (va_up f j (some (ab_CB + (112 + y))))))))) ha hW (fun q r hq => by
    unfold va_up at hq
    split at hq
    · cases hq; exact Or.inr (by omega)
    · exact hw q r hq) hP1 hD1) hL (ab_wst (ab_wst (ab_wst hs))) hl hS1 hF hT
theorem wa_aastKN {a len j : Nat} {f : Nat → Option Nat} {i : Int32} (d : decode cc pc = .ok (.aastore, 1)) (ha : a < n) (he : h a = .inl (8, len, .inr (.inr (.inr (.inr f))))) (hj : i.toInt = (j : Int)) (hjl : j < len)
    (K : WA own cc nL hh R Q k z (pc + 1) ls st n (ab_up h a (.inl (8, len, .inr (.inr (.inr (.inr (va_up f j none)))))))) : WA own cc nL hh R Q k z pc ls (.null :: .int i :: .ref a :: st) n h := by
  intro p l e s m args below meth c base D T C0 α H L locs Fin hC hW hL hs hl hS hF hT
  have hg := ab_wl_get (α := α) (T := T) (h := h) ha
  have hw := hW.2.2.1 a ha
  rw [he] at hg hw
  obtain ⟨hin, hjj⟩ := ab_ix hj hjl
  refine va_astqN C0.1 C0.2.1 C0.2.2.2.2.2.1 hW.1 hW.2.1 hS a 8 (C := "ValveRoom$Keyword") hg rfl hin d (fun H1 locs1 hP1 hD1 hS1 => ?_)
  have hfun : va_up (fun q => (f q).map α) i.toNatClampNeg none = (fun q => (va_up f j none q).map α) := by
    funext q
    rw [hjj]
    unfold va_up
    split <;> rfl
  rw [hfun] at hP1 hD1
  exact K p l e s m args below meth c base D T C0 α H1 L locs1 Fin hC (ab_Wd.set (e := .inl (8, len, .inr (.inr (.inr (.inr (va_up f j none)))))) ha hW (fun q r hq => by
    unfold va_up at hq
    split at hq
    · cases hq
    · exact hw q r hq) hP1 hD1) hL (ab_wst (ab_wst (ab_wst hs))) hl hS1 hF hT
end KS
/-- the tokens' keywords set -/
def sk (S : SS) (kf : Nat → Option Nat) : SS := (S.1, S.2.1, (S.2.2.1, S.2.2.2.1, kf, S.2.2.2.2.2))
def updO (f : Nat → Option Nat) (j : Nat) (x : Option Nat) : Nat → Option Nat := fun i => if i = j then x else f i
def kqa (kf : Nat → Option Nat) : Nat → Option Nat := fun i => (kf i).map (fun j => ab_CB + (112 + j))
theorem kqa_up (kf : Nat → Option Nat) (j : Nat) (x : Option Nat) : va_up (kqa kf) j (x.map (fun j => ab_CB + (112 + j))) = kqa (updO kf j x) := by
  funext q
  unfold va_up kqa updO
  by_cases h : q = j
  · rw [if_pos h, if_pos h]
  · rw [if_neg h, if_neg h]
theorem hp_sk {S : SS} {kf : Nat → Option Nat} : ab_up (Hp S) 31 (ly_qa 8 501 (kqa kf)) = Hp (sk S kf) := by
  funext k
  unfold ab_up
  by_cases h : k = 31
  · subst h
    rw [if_pos rfl]
    rfl
  · rw [if_neg h]
    unfold Hp ly_mk
    simp only [if_neg h]
    rfl
section KS2
variable {own : String} {cc : ByteArray} {nL : Nat} {hh : List (Nat × Nat × Nat × Nat)} {R : Room} {Q : ab_Q} {k z pc : Nat} {ls : List (Option Value)} {st : List Value} {n : Nat} {S : SS}
theorem s_kst {j y : Nat} {x : Int32} (hn : 269 ≤ n) (hx : x.toInt = (j : Int)) (hj : j < 501) (hy : y < 18) (d : decode cc pc = .ok (.aastore, 1)) (K : WA own cc nL hh R Q k z (pc + 1) ls st n (Hp (sk S (updO S.2.2.2.2.1 j (some y))))) : WA own cc nL hh R Q k z pc ls (.ref (ab_CB + (112 + y)) :: .int x :: .ref 31 :: st) n (Hp S) := by
  refine wa_aastK (f := kqa S.2.2.2.2.1) (len := 501) d (ltS hn) rfl hx hj hy ?_
  have e := kqa_up S.2.2.2.2.1 j (some y)
  have e2 := hp_sk (S := S) (kf := updO S.2.2.2.2.1 j (some y))
  unfold ly_qa at e2
  rw [show va_up (kqa S.2.2.2.2.1) j (some (ab_CB + (112 + y))) = kqa (updO S.2.2.2.2.1 j (some y)) from e, e2]
  exact K
theorem s_kstN {j : Nat} {x : Int32} (hn : 269 ≤ n) (hx : x.toInt = (j : Int)) (hj : j < 501) (d : decode cc pc = .ok (.aastore, 1)) (K : WA own cc nL hh R Q k z (pc + 1) ls st n (Hp (sk S (updO S.2.2.2.2.1 j none)))) : WA own cc nL hh R Q k z pc ls (.null :: .int x :: .ref 31 :: st) n (Hp S) := by
  refine wa_aastKN (f := kqa S.2.2.2.2.1) (len := 501) d (ltS hn) rfl hx hj ?_
  have e := kqa_up S.2.2.2.2.1 j none
  have e2 := hp_sk (S := S) (kf := updO S.2.2.2.2.1 j none)
  unfold ly_qa at e2
  rw [show va_up (kqa S.2.2.2.2.1) j none = kqa (updO S.2.2.2.2.1 j none) from e, e2]
  exact K
theorem s_kld2 {j y : Nat} {x : Int32} (hn : 269 ≤ n) (hx : x.toInt = (j : Int)) (hj : j < 501) (he : S.2.2.2.2.1 j = some y) (d : decode cc pc = .ok (.aaload, 1)) (K : WA own cc nL hh R Q k z (pc + 1) ls (.ref (ab_CB + (112 + y)) :: st) n (Hp S)) : WA own cc nL hh R Q k z pc ls (.int x :: .ref 31 :: st) n (Hp S) :=
  wa_aaldK (f := kqa S.2.2.2.2.1) (len := 501) d (Or.inl (ltS hn)) rfl hx hj (by unfold kqa; rw [he]; rfl) K
theorem s_kldN {j : Nat} {x : Int32} (hn : 269 ≤ n) (hx : x.toInt = (j : Int)) (hj : j < 501) (he : S.2.2.2.2.1 j = none) (d : decode cc pc = .ok (.aaload, 1)) (K : WA own cc nL hh R Q k z (pc + 1) ls (.null :: st) n (Hp S)) : WA own cc nL hh R Q k z pc ls (.int x :: .ref 31 :: st) n (Hp S) :=
  wa_aaldKN (f := kqa S.2.2.2.2.1) (len := 501) d (Or.inl (ltS hn)) rfl hx hj (by unfold kqa; rw [he]; rfl) K
end KS2
theorem kd_lt (x : Int32) : kd x < 4 := by
  unfold kd
  repeat' split
  all_goals decide
theorem tk_kindOf {n : Nat} {h : ab_H} (x : Int32) : AM yX5_kindOf cX5_kindOf 1 (some .int) [] 0 0 0 [.int x] n h (PIh (nI (kd x)) n h) := by
  intro has
  change WA RX5 cX5_kindOf 1 [] _ _ 0 0 0 [some (.int x)] [] n _
  refine wa_iload_n dX5_kindOf_0 rfl ?_
  refine wa_bipush (x := 32) dX5_kindOf_1 (by decide) ?_
  refine wa_icmp_eq 12 dX5_kindOf_3 rfl (fun c3 => ?_) (fun c3 => ?_)
  · refine wa_iconst (x := 0) dX5_kindOf_12 (by decide) ?_
    first
    | exact wa_ireturn dX5_kindOf_13 ⟨Nat.le_refl _, Nat.le_refl _, ⟨_, rfl, rfl⟩, (ri (by unfold kd; rw [if_pos (Or.inl c3)]; rfl)), rfl, rfl⟩
    | exact wa_ireturn dX5_kindOf_13 ⟨Nat.le_refl _, Nat.le_refl _, ⟨_, rfl, rfl⟩, (ri (by unfold kd; rw [if_pos (Or.inr c9)]; rfl)), rfl, rfl⟩
    | exact wa_ireturn dX5_kindOf_13 ⟨Nat.le_refl _, Nat.le_refl _, ⟨_, rfl, rfl⟩, (ri (by unfold kd; rw [if_neg (fun z => z.elim c3 c9), if_pos ⟨Int32.not_lt.mp c17, Int32.not_lt.mp c23⟩]; rfl)), rfl, rfl⟩
    | exact wa_ireturn dX5_kindOf_13 ⟨Nat.le_refl _, Nat.le_refl _, ⟨_, rfl, rfl⟩, (ri (by unfold kd; rw [if_neg (fun z => z.elim c3 c9), if_neg (fun z => Int32.not_lt.mpr z.1 c17), if_pos ⟨Int32.not_lt.mp c31, Int32.not_lt.mp c37⟩]; rfl)), rfl, rfl⟩
    | exact wa_ireturn dX5_kindOf_13 ⟨Nat.le_refl _, Nat.le_refl _, ⟨_, rfl, rfl⟩, (ri (by unfold kd; rw [if_neg (fun z => z.elim c3 c9), if_neg (fun z => Int32.not_lt.mpr z.2 c23), if_pos ⟨Int32.not_lt.mp c31, Int32.not_lt.mp c37⟩]; rfl)), rfl, rfl⟩
    | exact wa_ireturn dX5_kindOf_13 ⟨Nat.le_refl _, Nat.le_refl _, ⟨_, rfl, rfl⟩, (ri (by unfold kd; rw [if_neg (fun z => z.elim c3 c9), if_neg (fun z => Int32.not_lt.mpr z.1 c17), if_neg (fun z => Int32.not_lt.mpr z.1 c31)]; rfl)), rfl, rfl⟩
    | exact wa_ireturn dX5_kindOf_13 ⟨Nat.le_refl _, Nat.le_refl _, ⟨_, rfl, rfl⟩, (ri (by unfold kd; rw [if_neg (fun z => z.elim c3 c9), if_neg (fun z => Int32.not_lt.mpr z.2 c23), if_neg (fun z => Int32.not_lt.mpr z.1 c31)]; rfl)), rfl, rfl⟩
    | exact wa_ireturn dX5_kindOf_13 ⟨Nat.le_refl _, Nat.le_refl _, ⟨_, rfl, rfl⟩, (ri (by unfold kd; rw [if_neg (fun z => z.elim c3 c9), if_neg (fun z => Int32.not_lt.mpr z.1 c17), if_neg (fun z => Int32.not_lt.mpr z.2 c37)]; rfl)), rfl, rfl⟩
    | exact wa_ireturn dX5_kindOf_13 ⟨Nat.le_refl _, Nat.le_refl _, ⟨_, rfl, rfl⟩, (ri (by unfold kd; rw [if_neg (fun z => z.elim c3 c9), if_neg (fun z => Int32.not_lt.mpr z.2 c23), if_neg (fun z => Int32.not_lt.mpr z.2 c37)]; rfl)), rfl, rfl⟩
  · refine wa_iload_n dX5_kindOf_6 rfl ?_
    refine wa_bipush (x := 10) dX5_kindOf_7 (by decide) ?_
    refine wa_icmp_ne 14 dX5_kindOf_9 rfl (fun c9 => ?_) (fun c9 => ?_)
    · refine wa_iload_n dX5_kindOf_14 rfl ?_
      refine wa_bipush (x := 97) dX5_kindOf_15 (by decide) ?_
      refine wa_icmp_lt 28 dX5_kindOf_17 rfl (fun c17 => ?_) (fun c17 => ?_)
      · refine wa_iload_n dX5_kindOf_28 rfl ?_
        refine wa_bipush (x := 48) dX5_kindOf_29 (by decide) ?_
        refine wa_icmp_lt 44 dX5_kindOf_31 rfl (fun c31 => ?_) (fun c31 => ?_)
        · refine wa_iconst (x := 3) dX5_kindOf_44 (by decide) ?_
          first
          | exact wa_ireturn dX5_kindOf_45 ⟨Nat.le_refl _, Nat.le_refl _, ⟨_, rfl, rfl⟩, (ri (by unfold kd; rw [if_pos (Or.inl c3)]; rfl)), rfl, rfl⟩
          | exact wa_ireturn dX5_kindOf_45 ⟨Nat.le_refl _, Nat.le_refl _, ⟨_, rfl, rfl⟩, (ri (by unfold kd; rw [if_pos (Or.inr c9)]; rfl)), rfl, rfl⟩
          | exact wa_ireturn dX5_kindOf_45 ⟨Nat.le_refl _, Nat.le_refl _, ⟨_, rfl, rfl⟩, (ri (by unfold kd; rw [if_neg (fun z => z.elim c3 c9), if_pos ⟨Int32.not_lt.mp c17, Int32.not_lt.mp c23⟩]; rfl)), rfl, rfl⟩
          | exact wa_ireturn dX5_kindOf_45 ⟨Nat.le_refl _, Nat.le_refl _, ⟨_, rfl, rfl⟩, (ri (by unfold kd; rw [if_neg (fun z => z.elim c3 c9), if_neg (fun z => Int32.not_lt.mpr z.1 c17), if_pos ⟨Int32.not_lt.mp c31, Int32.not_lt.mp c37⟩]; rfl)), rfl, rfl⟩
          | exact wa_ireturn dX5_kindOf_45 ⟨Nat.le_refl _, Nat.le_refl _, ⟨_, rfl, rfl⟩, (ri (by unfold kd; rw [if_neg (fun z => z.elim c3 c9), if_neg (fun z => Int32.not_lt.mpr z.2 c23), if_pos ⟨Int32.not_lt.mp c31, Int32.not_lt.mp c37⟩]; rfl)), rfl, rfl⟩
          | exact wa_ireturn dX5_kindOf_45 ⟨Nat.le_refl _, Nat.le_refl _, ⟨_, rfl, rfl⟩, (ri (by unfold kd; rw [if_neg (fun z => z.elim c3 c9), if_neg (fun z => Int32.not_lt.mpr z.1 c17), if_neg (fun z => Int32.not_lt.mpr z.1 c31)]; rfl)), rfl, rfl⟩
          | exact wa_ireturn dX5_kindOf_45 ⟨Nat.le_refl _, Nat.le_refl _, ⟨_, rfl, rfl⟩, (ri (by unfold kd; rw [if_neg (fun z => z.elim c3 c9), if_neg (fun z => Int32.not_lt.mpr z.2 c23), if_neg (fun z => Int32.not_lt.mpr z.1 c31)]; rfl)), rfl, rfl⟩
          | exact wa_ireturn dX5_kindOf_45 ⟨Nat.le_refl _, Nat.le_refl _, ⟨_, rfl, rfl⟩, (ri (by unfold kd; rw [if_neg (fun z => z.elim c3 c9), if_neg (fun z => Int32.not_lt.mpr z.1 c17), if_neg (fun z => Int32.not_lt.mpr z.2 c37)]; rfl)), rfl, rfl⟩
          | exact wa_ireturn dX5_kindOf_45 ⟨Nat.le_refl _, Nat.le_refl _, ⟨_, rfl, rfl⟩, (ri (by unfold kd; rw [if_neg (fun z => z.elim c3 c9), if_neg (fun z => Int32.not_lt.mpr z.2 c23), if_neg (fun z => Int32.not_lt.mpr z.2 c37)]; rfl)), rfl, rfl⟩
        · refine wa_iload_n dX5_kindOf_34 rfl ?_
          refine wa_bipush (x := 57) dX5_kindOf_35 (by decide) ?_
          refine wa_icmp_gt 44 dX5_kindOf_37 rfl (fun c37 => ?_) (fun c37 => ?_)
          · refine wa_iconst (x := 3) dX5_kindOf_44 (by decide) ?_
            first
            | exact wa_ireturn dX5_kindOf_45 ⟨Nat.le_refl _, Nat.le_refl _, ⟨_, rfl, rfl⟩, (ri (by unfold kd; rw [if_pos (Or.inl c3)]; rfl)), rfl, rfl⟩
            | exact wa_ireturn dX5_kindOf_45 ⟨Nat.le_refl _, Nat.le_refl _, ⟨_, rfl, rfl⟩, (ri (by unfold kd; rw [if_pos (Or.inr c9)]; rfl)), rfl, rfl⟩
            | exact wa_ireturn dX5_kindOf_45 ⟨Nat.le_refl _, Nat.le_refl _, ⟨_, rfl, rfl⟩, (ri (by unfold kd; rw [if_neg (fun z => z.elim c3 c9), if_pos ⟨Int32.not_lt.mp c17, Int32.not_lt.mp c23⟩]; rfl)), rfl, rfl⟩
            | exact wa_ireturn dX5_kindOf_45 ⟨Nat.le_refl _, Nat.le_refl _, ⟨_, rfl, rfl⟩, (ri (by unfold kd; rw [if_neg (fun z => z.elim c3 c9), if_neg (fun z => Int32.not_lt.mpr z.1 c17), if_pos ⟨Int32.not_lt.mp c31, Int32.not_lt.mp c37⟩]; rfl)), rfl, rfl⟩
            | exact wa_ireturn dX5_kindOf_45 ⟨Nat.le_refl _, Nat.le_refl _, ⟨_, rfl, rfl⟩, (ri (by unfold kd; rw [if_neg (fun z => z.elim c3 c9), if_neg (fun z => Int32.not_lt.mpr z.2 c23), if_pos ⟨Int32.not_lt.mp c31, Int32.not_lt.mp c37⟩]; rfl)), rfl, rfl⟩
            | exact wa_ireturn dX5_kindOf_45 ⟨Nat.le_refl _, Nat.le_refl _, ⟨_, rfl, rfl⟩, (ri (by unfold kd; rw [if_neg (fun z => z.elim c3 c9), if_neg (fun z => Int32.not_lt.mpr z.1 c17), if_neg (fun z => Int32.not_lt.mpr z.1 c31)]; rfl)), rfl, rfl⟩
            | exact wa_ireturn dX5_kindOf_45 ⟨Nat.le_refl _, Nat.le_refl _, ⟨_, rfl, rfl⟩, (ri (by unfold kd; rw [if_neg (fun z => z.elim c3 c9), if_neg (fun z => Int32.not_lt.mpr z.2 c23), if_neg (fun z => Int32.not_lt.mpr z.1 c31)]; rfl)), rfl, rfl⟩
            | exact wa_ireturn dX5_kindOf_45 ⟨Nat.le_refl _, Nat.le_refl _, ⟨_, rfl, rfl⟩, (ri (by unfold kd; rw [if_neg (fun z => z.elim c3 c9), if_neg (fun z => Int32.not_lt.mpr z.1 c17), if_neg (fun z => Int32.not_lt.mpr z.2 c37)]; rfl)), rfl, rfl⟩
            | exact wa_ireturn dX5_kindOf_45 ⟨Nat.le_refl _, Nat.le_refl _, ⟨_, rfl, rfl⟩, (ri (by unfold kd; rw [if_neg (fun z => z.elim c3 c9), if_neg (fun z => Int32.not_lt.mpr z.2 c23), if_neg (fun z => Int32.not_lt.mpr z.2 c37)]; rfl)), rfl, rfl⟩
          · refine wa_iconst (x := 2) dX5_kindOf_40 (by decide) ?_
            refine wa_goto 45 dX5_kindOf_41 rfl ?_
            first
            | exact wa_ireturn dX5_kindOf_45 ⟨Nat.le_refl _, Nat.le_refl _, ⟨_, rfl, rfl⟩, (ri (by unfold kd; rw [if_pos (Or.inl c3)]; rfl)), rfl, rfl⟩
            | exact wa_ireturn dX5_kindOf_45 ⟨Nat.le_refl _, Nat.le_refl _, ⟨_, rfl, rfl⟩, (ri (by unfold kd; rw [if_pos (Or.inr c9)]; rfl)), rfl, rfl⟩
            | exact wa_ireturn dX5_kindOf_45 ⟨Nat.le_refl _, Nat.le_refl _, ⟨_, rfl, rfl⟩, (ri (by unfold kd; rw [if_neg (fun z => z.elim c3 c9), if_pos ⟨Int32.not_lt.mp c17, Int32.not_lt.mp c23⟩]; rfl)), rfl, rfl⟩
            | exact wa_ireturn dX5_kindOf_45 ⟨Nat.le_refl _, Nat.le_refl _, ⟨_, rfl, rfl⟩, (ri (by unfold kd; rw [if_neg (fun z => z.elim c3 c9), if_neg (fun z => Int32.not_lt.mpr z.1 c17), if_pos ⟨Int32.not_lt.mp c31, Int32.not_lt.mp c37⟩]; rfl)), rfl, rfl⟩
            | exact wa_ireturn dX5_kindOf_45 ⟨Nat.le_refl _, Nat.le_refl _, ⟨_, rfl, rfl⟩, (ri (by unfold kd; rw [if_neg (fun z => z.elim c3 c9), if_neg (fun z => Int32.not_lt.mpr z.2 c23), if_pos ⟨Int32.not_lt.mp c31, Int32.not_lt.mp c37⟩]; rfl)), rfl, rfl⟩
            | exact wa_ireturn dX5_kindOf_45 ⟨Nat.le_refl _, Nat.le_refl _, ⟨_, rfl, rfl⟩, (ri (by unfold kd; rw [if_neg (fun z => z.elim c3 c9), if_neg (fun z => Int32.not_lt.mpr z.1 c17), if_neg (fun z => Int32.not_lt.mpr z.1 c31)]; rfl)), rfl, rfl⟩
            | exact wa_ireturn dX5_kindOf_45 ⟨Nat.le_refl _, Nat.le_refl _, ⟨_, rfl, rfl⟩, (ri (by unfold kd; rw [if_neg (fun z => z.elim c3 c9), if_neg (fun z => Int32.not_lt.mpr z.2 c23), if_neg (fun z => Int32.not_lt.mpr z.1 c31)]; rfl)), rfl, rfl⟩
            | exact wa_ireturn dX5_kindOf_45 ⟨Nat.le_refl _, Nat.le_refl _, ⟨_, rfl, rfl⟩, (ri (by unfold kd; rw [if_neg (fun z => z.elim c3 c9), if_neg (fun z => Int32.not_lt.mpr z.1 c17), if_neg (fun z => Int32.not_lt.mpr z.2 c37)]; rfl)), rfl, rfl⟩
            | exact wa_ireturn dX5_kindOf_45 ⟨Nat.le_refl _, Nat.le_refl _, ⟨_, rfl, rfl⟩, (ri (by unfold kd; rw [if_neg (fun z => z.elim c3 c9), if_neg (fun z => Int32.not_lt.mpr z.2 c23), if_neg (fun z => Int32.not_lt.mpr z.2 c37)]; rfl)), rfl, rfl⟩
      · refine wa_iload_n dX5_kindOf_20 rfl ?_
        refine wa_bipush (x := 122) dX5_kindOf_21 (by decide) ?_
        refine wa_icmp_gt 28 dX5_kindOf_23 rfl (fun c23 => ?_) (fun c23 => ?_)
        · refine wa_iload_n dX5_kindOf_28 rfl ?_
          refine wa_bipush (x := 48) dX5_kindOf_29 (by decide) ?_
          refine wa_icmp_lt 44 dX5_kindOf_31 rfl (fun c31 => ?_) (fun c31 => ?_)
          · refine wa_iconst (x := 3) dX5_kindOf_44 (by decide) ?_
            first
            | exact wa_ireturn dX5_kindOf_45 ⟨Nat.le_refl _, Nat.le_refl _, ⟨_, rfl, rfl⟩, (ri (by unfold kd; rw [if_pos (Or.inl c3)]; rfl)), rfl, rfl⟩
            | exact wa_ireturn dX5_kindOf_45 ⟨Nat.le_refl _, Nat.le_refl _, ⟨_, rfl, rfl⟩, (ri (by unfold kd; rw [if_pos (Or.inr c9)]; rfl)), rfl, rfl⟩
            | exact wa_ireturn dX5_kindOf_45 ⟨Nat.le_refl _, Nat.le_refl _, ⟨_, rfl, rfl⟩, (ri (by unfold kd; rw [if_neg (fun z => z.elim c3 c9), if_pos ⟨Int32.not_lt.mp c17, Int32.not_lt.mp c23⟩]; rfl)), rfl, rfl⟩
            | exact wa_ireturn dX5_kindOf_45 ⟨Nat.le_refl _, Nat.le_refl _, ⟨_, rfl, rfl⟩, (ri (by unfold kd; rw [if_neg (fun z => z.elim c3 c9), if_neg (fun z => Int32.not_lt.mpr z.1 c17), if_pos ⟨Int32.not_lt.mp c31, Int32.not_lt.mp c37⟩]; rfl)), rfl, rfl⟩
            | exact wa_ireturn dX5_kindOf_45 ⟨Nat.le_refl _, Nat.le_refl _, ⟨_, rfl, rfl⟩, (ri (by unfold kd; rw [if_neg (fun z => z.elim c3 c9), if_neg (fun z => Int32.not_lt.mpr z.2 c23), if_pos ⟨Int32.not_lt.mp c31, Int32.not_lt.mp c37⟩]; rfl)), rfl, rfl⟩
            | exact wa_ireturn dX5_kindOf_45 ⟨Nat.le_refl _, Nat.le_refl _, ⟨_, rfl, rfl⟩, (ri (by unfold kd; rw [if_neg (fun z => z.elim c3 c9), if_neg (fun z => Int32.not_lt.mpr z.1 c17), if_neg (fun z => Int32.not_lt.mpr z.1 c31)]; rfl)), rfl, rfl⟩
            | exact wa_ireturn dX5_kindOf_45 ⟨Nat.le_refl _, Nat.le_refl _, ⟨_, rfl, rfl⟩, (ri (by unfold kd; rw [if_neg (fun z => z.elim c3 c9), if_neg (fun z => Int32.not_lt.mpr z.2 c23), if_neg (fun z => Int32.not_lt.mpr z.1 c31)]; rfl)), rfl, rfl⟩
            | exact wa_ireturn dX5_kindOf_45 ⟨Nat.le_refl _, Nat.le_refl _, ⟨_, rfl, rfl⟩, (ri (by unfold kd; rw [if_neg (fun z => z.elim c3 c9), if_neg (fun z => Int32.not_lt.mpr z.1 c17), if_neg (fun z => Int32.not_lt.mpr z.2 c37)]; rfl)), rfl, rfl⟩
            | exact wa_ireturn dX5_kindOf_45 ⟨Nat.le_refl _, Nat.le_refl _, ⟨_, rfl, rfl⟩, (ri (by unfold kd; rw [if_neg (fun z => z.elim c3 c9), if_neg (fun z => Int32.not_lt.mpr z.2 c23), if_neg (fun z => Int32.not_lt.mpr z.2 c37)]; rfl)), rfl, rfl⟩
          · refine wa_iload_n dX5_kindOf_34 rfl ?_
            refine wa_bipush (x := 57) dX5_kindOf_35 (by decide) ?_
            refine wa_icmp_gt 44 dX5_kindOf_37 rfl (fun c37 => ?_) (fun c37 => ?_)
            · refine wa_iconst (x := 3) dX5_kindOf_44 (by decide) ?_
              first
              | exact wa_ireturn dX5_kindOf_45 ⟨Nat.le_refl _, Nat.le_refl _, ⟨_, rfl, rfl⟩, (ri (by unfold kd; rw [if_pos (Or.inl c3)]; rfl)), rfl, rfl⟩
              | exact wa_ireturn dX5_kindOf_45 ⟨Nat.le_refl _, Nat.le_refl _, ⟨_, rfl, rfl⟩, (ri (by unfold kd; rw [if_pos (Or.inr c9)]; rfl)), rfl, rfl⟩
              | exact wa_ireturn dX5_kindOf_45 ⟨Nat.le_refl _, Nat.le_refl _, ⟨_, rfl, rfl⟩, (ri (by unfold kd; rw [if_neg (fun z => z.elim c3 c9), if_pos ⟨Int32.not_lt.mp c17, Int32.not_lt.mp c23⟩]; rfl)), rfl, rfl⟩
              | exact wa_ireturn dX5_kindOf_45 ⟨Nat.le_refl _, Nat.le_refl _, ⟨_, rfl, rfl⟩, (ri (by unfold kd; rw [if_neg (fun z => z.elim c3 c9), if_neg (fun z => Int32.not_lt.mpr z.1 c17), if_pos ⟨Int32.not_lt.mp c31, Int32.not_lt.mp c37⟩]; rfl)), rfl, rfl⟩
              | exact wa_ireturn dX5_kindOf_45 ⟨Nat.le_refl _, Nat.le_refl _, ⟨_, rfl, rfl⟩, (ri (by unfold kd; rw [if_neg (fun z => z.elim c3 c9), if_neg (fun z => Int32.not_lt.mpr z.2 c23), if_pos ⟨Int32.not_lt.mp c31, Int32.not_lt.mp c37⟩]; rfl)), rfl, rfl⟩
              | exact wa_ireturn dX5_kindOf_45 ⟨Nat.le_refl _, Nat.le_refl _, ⟨_, rfl, rfl⟩, (ri (by unfold kd; rw [if_neg (fun z => z.elim c3 c9), if_neg (fun z => Int32.not_lt.mpr z.1 c17), if_neg (fun z => Int32.not_lt.mpr z.1 c31)]; rfl)), rfl, rfl⟩
              | exact wa_ireturn dX5_kindOf_45 ⟨Nat.le_refl _, Nat.le_refl _, ⟨_, rfl, rfl⟩, (ri (by unfold kd; rw [if_neg (fun z => z.elim c3 c9), if_neg (fun z => Int32.not_lt.mpr z.2 c23), if_neg (fun z => Int32.not_lt.mpr z.1 c31)]; rfl)), rfl, rfl⟩
              | exact wa_ireturn dX5_kindOf_45 ⟨Nat.le_refl _, Nat.le_refl _, ⟨_, rfl, rfl⟩, (ri (by unfold kd; rw [if_neg (fun z => z.elim c3 c9), if_neg (fun z => Int32.not_lt.mpr z.1 c17), if_neg (fun z => Int32.not_lt.mpr z.2 c37)]; rfl)), rfl, rfl⟩
              | exact wa_ireturn dX5_kindOf_45 ⟨Nat.le_refl _, Nat.le_refl _, ⟨_, rfl, rfl⟩, (ri (by unfold kd; rw [if_neg (fun z => z.elim c3 c9), if_neg (fun z => Int32.not_lt.mpr z.2 c23), if_neg (fun z => Int32.not_lt.mpr z.2 c37)]; rfl)), rfl, rfl⟩
            · refine wa_iconst (x := 2) dX5_kindOf_40 (by decide) ?_
              refine wa_goto 45 dX5_kindOf_41 rfl ?_
              first
              | exact wa_ireturn dX5_kindOf_45 ⟨Nat.le_refl _, Nat.le_refl _, ⟨_, rfl, rfl⟩, (ri (by unfold kd; rw [if_pos (Or.inl c3)]; rfl)), rfl, rfl⟩
              | exact wa_ireturn dX5_kindOf_45 ⟨Nat.le_refl _, Nat.le_refl _, ⟨_, rfl, rfl⟩, (ri (by unfold kd; rw [if_pos (Or.inr c9)]; rfl)), rfl, rfl⟩
              | exact wa_ireturn dX5_kindOf_45 ⟨Nat.le_refl _, Nat.le_refl _, ⟨_, rfl, rfl⟩, (ri (by unfold kd; rw [if_neg (fun z => z.elim c3 c9), if_pos ⟨Int32.not_lt.mp c17, Int32.not_lt.mp c23⟩]; rfl)), rfl, rfl⟩
              | exact wa_ireturn dX5_kindOf_45 ⟨Nat.le_refl _, Nat.le_refl _, ⟨_, rfl, rfl⟩, (ri (by unfold kd; rw [if_neg (fun z => z.elim c3 c9), if_neg (fun z => Int32.not_lt.mpr z.1 c17), if_pos ⟨Int32.not_lt.mp c31, Int32.not_lt.mp c37⟩]; rfl)), rfl, rfl⟩
              | exact wa_ireturn dX5_kindOf_45 ⟨Nat.le_refl _, Nat.le_refl _, ⟨_, rfl, rfl⟩, (ri (by unfold kd; rw [if_neg (fun z => z.elim c3 c9), if_neg (fun z => Int32.not_lt.mpr z.2 c23), if_pos ⟨Int32.not_lt.mp c31, Int32.not_lt.mp c37⟩]; rfl)), rfl, rfl⟩
              | exact wa_ireturn dX5_kindOf_45 ⟨Nat.le_refl _, Nat.le_refl _, ⟨_, rfl, rfl⟩, (ri (by unfold kd; rw [if_neg (fun z => z.elim c3 c9), if_neg (fun z => Int32.not_lt.mpr z.1 c17), if_neg (fun z => Int32.not_lt.mpr z.1 c31)]; rfl)), rfl, rfl⟩
              | exact wa_ireturn dX5_kindOf_45 ⟨Nat.le_refl _, Nat.le_refl _, ⟨_, rfl, rfl⟩, (ri (by unfold kd; rw [if_neg (fun z => z.elim c3 c9), if_neg (fun z => Int32.not_lt.mpr z.2 c23), if_neg (fun z => Int32.not_lt.mpr z.1 c31)]; rfl)), rfl, rfl⟩
              | exact wa_ireturn dX5_kindOf_45 ⟨Nat.le_refl _, Nat.le_refl _, ⟨_, rfl, rfl⟩, (ri (by unfold kd; rw [if_neg (fun z => z.elim c3 c9), if_neg (fun z => Int32.not_lt.mpr z.1 c17), if_neg (fun z => Int32.not_lt.mpr z.2 c37)]; rfl)), rfl, rfl⟩
              | exact wa_ireturn dX5_kindOf_45 ⟨Nat.le_refl _, Nat.le_refl _, ⟨_, rfl, rfl⟩, (ri (by unfold kd; rw [if_neg (fun z => z.elim c3 c9), if_neg (fun z => Int32.not_lt.mpr z.2 c23), if_neg (fun z => Int32.not_lt.mpr z.2 c37)]; rfl)), rfl, rfl⟩
        · refine wa_iconst (x := 1) dX5_kindOf_26 (by decide) ?_
          first
          | exact wa_ireturn dX5_kindOf_27 ⟨Nat.le_refl _, Nat.le_refl _, ⟨_, rfl, rfl⟩, (ri (by unfold kd; rw [if_pos (Or.inl c3)]; rfl)), rfl, rfl⟩
          | exact wa_ireturn dX5_kindOf_27 ⟨Nat.le_refl _, Nat.le_refl _, ⟨_, rfl, rfl⟩, (ri (by unfold kd; rw [if_pos (Or.inr c9)]; rfl)), rfl, rfl⟩
          | exact wa_ireturn dX5_kindOf_27 ⟨Nat.le_refl _, Nat.le_refl _, ⟨_, rfl, rfl⟩, (ri (by unfold kd; rw [if_neg (fun z => z.elim c3 c9), if_pos ⟨Int32.not_lt.mp c17, Int32.not_lt.mp c23⟩]; rfl)), rfl, rfl⟩
          | exact wa_ireturn dX5_kindOf_27 ⟨Nat.le_refl _, Nat.le_refl _, ⟨_, rfl, rfl⟩, (ri (by unfold kd; rw [if_neg (fun z => z.elim c3 c9), if_neg (fun z => Int32.not_lt.mpr z.1 c17), if_pos ⟨Int32.not_lt.mp c31, Int32.not_lt.mp c37⟩]; rfl)), rfl, rfl⟩
          | exact wa_ireturn dX5_kindOf_27 ⟨Nat.le_refl _, Nat.le_refl _, ⟨_, rfl, rfl⟩, (ri (by unfold kd; rw [if_neg (fun z => z.elim c3 c9), if_neg (fun z => Int32.not_lt.mpr z.2 c23), if_pos ⟨Int32.not_lt.mp c31, Int32.not_lt.mp c37⟩]; rfl)), rfl, rfl⟩
          | exact wa_ireturn dX5_kindOf_27 ⟨Nat.le_refl _, Nat.le_refl _, ⟨_, rfl, rfl⟩, (ri (by unfold kd; rw [if_neg (fun z => z.elim c3 c9), if_neg (fun z => Int32.not_lt.mpr z.1 c17), if_neg (fun z => Int32.not_lt.mpr z.1 c31)]; rfl)), rfl, rfl⟩
          | exact wa_ireturn dX5_kindOf_27 ⟨Nat.le_refl _, Nat.le_refl _, ⟨_, rfl, rfl⟩, (ri (by unfold kd; rw [if_neg (fun z => z.elim c3 c9), if_neg (fun z => Int32.not_lt.mpr z.2 c23), if_neg (fun z => Int32.not_lt.mpr z.1 c31)]; rfl)), rfl, rfl⟩
          | exact wa_ireturn dX5_kindOf_27 ⟨Nat.le_refl _, Nat.le_refl _, ⟨_, rfl, rfl⟩, (ri (by unfold kd; rw [if_neg (fun z => z.elim c3 c9), if_neg (fun z => Int32.not_lt.mpr z.1 c17), if_neg (fun z => Int32.not_lt.mpr z.2 c37)]; rfl)), rfl, rfl⟩
          | exact wa_ireturn dX5_kindOf_27 ⟨Nat.le_refl _, Nat.le_refl _, ⟨_, rfl, rfl⟩, (ri (by unfold kd; rw [if_neg (fun z => z.elim c3 c9), if_neg (fun z => Int32.not_lt.mpr z.2 c23), if_neg (fun z => Int32.not_lt.mpr z.2 c37)]; rfl)), rfl, rfl⟩
    · refine wa_iconst (x := 0) dX5_kindOf_12 (by decide) ?_
      first
      | exact wa_ireturn dX5_kindOf_13 ⟨Nat.le_refl _, Nat.le_refl _, ⟨_, rfl, rfl⟩, (ri (by unfold kd; rw [if_pos (Or.inl c3)]; rfl)), rfl, rfl⟩
      | exact wa_ireturn dX5_kindOf_13 ⟨Nat.le_refl _, Nat.le_refl _, ⟨_, rfl, rfl⟩, (ri (by unfold kd; rw [if_pos (Or.inr c9)]; rfl)), rfl, rfl⟩
      | exact wa_ireturn dX5_kindOf_13 ⟨Nat.le_refl _, Nat.le_refl _, ⟨_, rfl, rfl⟩, (ri (by unfold kd; rw [if_neg (fun z => z.elim c3 c9), if_pos ⟨Int32.not_lt.mp c17, Int32.not_lt.mp c23⟩]; rfl)), rfl, rfl⟩
      | exact wa_ireturn dX5_kindOf_13 ⟨Nat.le_refl _, Nat.le_refl _, ⟨_, rfl, rfl⟩, (ri (by unfold kd; rw [if_neg (fun z => z.elim c3 c9), if_neg (fun z => Int32.not_lt.mpr z.1 c17), if_pos ⟨Int32.not_lt.mp c31, Int32.not_lt.mp c37⟩]; rfl)), rfl, rfl⟩
      | exact wa_ireturn dX5_kindOf_13 ⟨Nat.le_refl _, Nat.le_refl _, ⟨_, rfl, rfl⟩, (ri (by unfold kd; rw [if_neg (fun z => z.elim c3 c9), if_neg (fun z => Int32.not_lt.mpr z.2 c23), if_pos ⟨Int32.not_lt.mp c31, Int32.not_lt.mp c37⟩]; rfl)), rfl, rfl⟩
      | exact wa_ireturn dX5_kindOf_13 ⟨Nat.le_refl _, Nat.le_refl _, ⟨_, rfl, rfl⟩, (ri (by unfold kd; rw [if_neg (fun z => z.elim c3 c9), if_neg (fun z => Int32.not_lt.mpr z.1 c17), if_neg (fun z => Int32.not_lt.mpr z.1 c31)]; rfl)), rfl, rfl⟩
      | exact wa_ireturn dX5_kindOf_13 ⟨Nat.le_refl _, Nat.le_refl _, ⟨_, rfl, rfl⟩, (ri (by unfold kd; rw [if_neg (fun z => z.elim c3 c9), if_neg (fun z => Int32.not_lt.mpr z.2 c23), if_neg (fun z => Int32.not_lt.mpr z.1 c31)]; rfl)), rfl, rfl⟩
      | exact wa_ireturn dX5_kindOf_13 ⟨Nat.le_refl _, Nat.le_refl _, ⟨_, rfl, rfl⟩, (ri (by unfold kd; rw [if_neg (fun z => z.elim c3 c9), if_neg (fun z => Int32.not_lt.mpr z.1 c17), if_neg (fun z => Int32.not_lt.mpr z.2 c37)]; rfl)), rfl, rfl⟩
      | exact wa_ireturn dX5_kindOf_13 ⟨Nat.le_refl _, Nat.le_refl _, ⟨_, rfl, rfl⟩, (ri (by unfold kd; rw [if_neg (fun z => z.elim c3 c9), if_neg (fun z => Int32.not_lt.mpr z.2 c23), if_neg (fun z => Int32.not_lt.mpr z.2 c37)]; rfl)), rfl, rfl⟩
def bgn (S : SS) (k : Nat) (x y : Int32) : SS := ss (ss (ss (ss (ss S 27 k x) 28 k y) 29 k 0) 30 k 0) 26 0 (nI (k + 1))
theorem tk_begin {n k : Nat} {S : SS} (hn : 269 ≤ n) (hk : k < 501) (h0 : S.1 26 0 = nI k) (x y : Int32) : AM yX5_begin cX5_begin 3 none [] 0 0 0 [.ref 26, .int x, .int y] n (Hp S) (PV n (bgn S k x y)) := by
  intro has
  change WA RX5 cX5_begin 3 [] _ _ 0 0 0 [some (.ref 26), some (.int x), some (.int y)] [] n _
  refine wa_aload_n dX5_begin_0 rfl ?_
  refine g_TO (by assumption) 1 dX5_begin_1 fl_X5_9 (by decide) rfl ?_
  refine wa_aload_n dX5_begin_4 rfl ?_
  refine g_TO hn 0 dX5_begin_5 fl_X5_30 (by decide) (v := .int (nI k)) (congrArg (fun x => some (Value.int x)) h0) ?_
  refine wa_iload_n dX5_begin_8 rfl ?_
  refine s_iast (j := k) isA_kinds dX5_begin_9 (ltS hn) (ix_nI (by omega)) hk ?_
  refine wa_aload_n dX5_begin_10 rfl ?_
  refine g_TO (by assumption) 2 dX5_begin_11 fl_X5_15 (by decide) rfl ?_
  refine wa_aload_n dX5_begin_14 rfl ?_
  refine g_TO hn 0 dX5_begin_15 fl_X5_30 (by decide) (v := .int (nI k)) (congrArg (fun x => some (Value.int x)) (by rw [ss_1, if_neg (by omega)]; exact h0)) ?_
  refine wa_iload_n dX5_begin_18 rfl ?_
  refine s_iast (j := k) isA_starts dX5_begin_19 (ltS hn) (ix_nI (by omega)) hk ?_
  refine wa_aload_n dX5_begin_20 rfl ?_
  refine g_TO (by assumption) 3 dX5_begin_21 fl_X5_18 (by decide) rfl ?_
  refine wa_aload_n dX5_begin_24 rfl ?_
  refine g_TO hn 0 dX5_begin_25 fl_X5_30 (by decide) (v := .int (nI k)) (congrArg (fun x => some (Value.int x)) (by rw [ss_1, if_neg (by omega), ss_1, if_neg (by omega)]; exact h0)) ?_
  refine wa_iconst (x := 0) dX5_begin_28 (by decide) ?_
  refine s_iast (j := k) isA_lengths dX5_begin_29 (ltS hn) (ix_nI (by omega)) hk ?_
  refine wa_aload_n dX5_begin_30 rfl ?_
  refine g_TO (by assumption) 4 dX5_begin_31 fl_X5_21 (by decide) rfl ?_
  refine wa_aload_n dX5_begin_34 rfl ?_
  refine g_TO hn 0 dX5_begin_35 fl_X5_30 (by decide) (v := .int (nI k)) (congrArg (fun x => some (Value.int x)) (by rw [ss_1, if_neg (by omega), ss_1, if_neg (by omega), ss_1, if_neg (by omega)]; exact h0)) ?_
  refine wa_iconst (x := 0) dX5_begin_38 (by decide) ?_
  refine s_iast (j := k) isA_values dX5_begin_39 (ltS hn) (ix_nI (by omega)) hk ?_
  refine wa_aload_n dX5_begin_40 rfl ?_
  refine wa_dup dX5_begin_41 rfl ?_
  refine g_TO hn 0 dX5_begin_42 fl_X5_30 (by decide) (v := .int (nI k)) (congrArg (fun x => some (Value.int x)) (by rw [ss_1, if_neg (by omega), ss_1, if_neg (by omega), ss_1, if_neg (by omega), ss_1, if_neg (by omega)]; exact h0)) ?_
  refine wa_iconst (x := 1) dX5_begin_45 (by decide) ?_
  refine wa_iadd dX5_begin_46 ?_
  rw [nI_1 k]
  refine p_TO (by assumption) 0 dX5_begin_47 fl_X5_30 (by decide) rfl rfl rfl rfl (fun _ _ _ => rfl) (Nat.le_of_ble_eq_true rfl) ?_
  exact wa_return dX5_begin_50 ⟨Nat.le_refl _, Nat.le_refl _, rfl, rfl, rfl, rfl⟩
def ext2 (S : SS) (q : Nat) (x : Int32) : SS := ss (ss S 29 q (S.1 29 q + 1)) 30 q (i_min (S.1 30 q * 10 + (x - 48)) 100000)
def exto (S : SS) (q : Nat) (x : Int32) : SS := ss (ss S 29 q (S.1 29 q + 1)) 30 q x
theorem tk_ext2 {n q : Nat} {S : SS} (hn : 269 ≤ n) (hq : q < 501) (h0 : S.1 26 0 = nI (q + 1)) (h2 : S.1 27 q = 2) (x : Int32) : AM yX5_extend cX5_extend 3 none [] 1 0 0 [.ref 26, .int x] n (Hp S) (PV n (ext2 S q x)) := by
  intro has
  change WA RX5 cX5_extend 3 [] _ _ 0 0 0 [some (.ref 26), some (.int x), none] [] n _
  refine wa_aload_n dX5_extend_0 rfl ?_
  refine g_TO hn 0 dX5_extend_1 fl_X5_30 (by decide) (v := .int (nI (q + 1))) (congrArg (fun x => some (Value.int x)) h0) ?_
  refine wa_iconst (x := 1) dX5_extend_4 (by decide) ?_
  refine wa_isub dX5_extend_5 ?_
  rw [nI_s1 q]
  refine wa_istore_n dX5_extend_6 rfl ?_
  refine wa_aload_n dX5_extend_7 rfl ?_
  refine g_TO (by assumption) 3 dX5_extend_8 fl_X5_18 (by decide) rfl ?_
  refine wa_iload_n dX5_extend_11 rfl ?_
  refine wa_dup2 dX5_extend_12 rfl rfl ?_
  refine s_iald (j := q) isA_lengths dX5_extend_13 (ltS hn) (ix_nI (by omega)) hq ?_
  refine wa_iconst (x := 1) dX5_extend_14 (by decide) ?_
  refine wa_iadd dX5_extend_15 ?_
  refine s_iast (j := q) isA_lengths dX5_extend_16 (ltS hn) (ix_nI (by omega)) hq ?_
  refine wa_aload_n dX5_extend_17 rfl ?_
  refine g_TO (by assumption) 1 dX5_extend_18 fl_X5_9 (by decide) rfl ?_
  refine wa_iload_n dX5_extend_21 rfl ?_
  refine s_iald (j := q) isA_kinds dX5_extend_22 (ltS hn) (ix_nI (by omega)) hq ?_
  rw [show (ss S 29 q (S.1 29 q + 1)).1 27 q = S.1 27 q from by rw [ss_1, if_neg (by omega)]]
  refine wa_iconst (x := 2) dX5_extend_23 (by decide) ?_
  refine wa_icmp_ne 55 dX5_extend_24 rfl (fun c24 => absurd h2 c24) (fun c24 => ?_)
  refine wa_aload_n dX5_extend_27 rfl ?_
  refine g_TO (by assumption) 4 dX5_extend_28 fl_X5_21 (by decide) rfl ?_
  refine wa_iload_n dX5_extend_31 rfl ?_
  refine wa_aload_n dX5_extend_32 rfl ?_
  refine g_TO (by assumption) 4 dX5_extend_33 fl_X5_21 (by decide) rfl ?_
  refine wa_iload_n dX5_extend_36 rfl ?_
  refine s_iald (j := q) isA_values dX5_extend_37 (ltS hn) (ix_nI (by omega)) hq ?_
  rw [show (ss S 29 q (S.1 29 q + 1)).1 30 q = S.1 30 q from by rw [ss_1, if_neg (by omega)]]
  refine wa_bipush (x := 10) dX5_extend_38 (by decide) ?_
  refine wa_imul dX5_extend_40 ?_
  refine wa_iload_n dX5_extend_41 rfl ?_
  refine wa_bipush (x := 48) dX5_extend_42 (by decide) ?_
  refine wa_isub dX5_extend_44 ?_
  refine wa_iadd dX5_extend_45 ?_
  refine wa_ldc dX5_extend_46 wv_X5_50 ?_
  refine c_SI dX5_extend_48 (am_min _ _) lk_X5_51 rfl ?_
  refine s_iast (j := q) isA_values dX5_extend_51 (ltS hn) (ix_nI (by omega)) hq ?_
  refine wa_goto 62 dX5_extend_52 rfl ?_
  exact wa_return dX5_extend_62 ⟨Nat.le_refl _, Nat.le_refl _, rfl, rfl, rfl, rfl⟩
theorem tk_exto {n q : Nat} {S : SS} (hn : 269 ≤ n) (hq : q < 501) (h0 : S.1 26 0 = nI (q + 1)) (h2 : ¬ S.1 27 q = 2) (x : Int32) : AM yX5_extend cX5_extend 3 none [] 1 0 0 [.ref 26, .int x] n (Hp S) (PV n (exto S q x)) := by
  intro has
  change WA RX5 cX5_extend 3 [] _ _ 0 0 0 [some (.ref 26), some (.int x), none] [] n _
  refine wa_aload_n dX5_extend_0 rfl ?_
  refine g_TO hn 0 dX5_extend_1 fl_X5_30 (by decide) (v := .int (nI (q + 1))) (congrArg (fun x => some (Value.int x)) h0) ?_
  refine wa_iconst (x := 1) dX5_extend_4 (by decide) ?_
  refine wa_isub dX5_extend_5 ?_
  rw [nI_s1 q]
  refine wa_istore_n dX5_extend_6 rfl ?_
  refine wa_aload_n dX5_extend_7 rfl ?_
  refine g_TO (by assumption) 3 dX5_extend_8 fl_X5_18 (by decide) rfl ?_
  refine wa_iload_n dX5_extend_11 rfl ?_
  refine wa_dup2 dX5_extend_12 rfl rfl ?_
  refine s_iald (j := q) isA_lengths dX5_extend_13 (ltS hn) (ix_nI (by omega)) hq ?_
  refine wa_iconst (x := 1) dX5_extend_14 (by decide) ?_
  refine wa_iadd dX5_extend_15 ?_
  refine s_iast (j := q) isA_lengths dX5_extend_16 (ltS hn) (ix_nI (by omega)) hq ?_
  refine wa_aload_n dX5_extend_17 rfl ?_
  refine g_TO (by assumption) 1 dX5_extend_18 fl_X5_9 (by decide) rfl ?_
  refine wa_iload_n dX5_extend_21 rfl ?_
  refine s_iald (j := q) isA_kinds dX5_extend_22 (ltS hn) (ix_nI (by omega)) hq ?_
  rw [show (ss S 29 q (S.1 29 q + 1)).1 27 q = S.1 27 q from by rw [ss_1, if_neg (by omega)]]
  refine wa_iconst (x := 2) dX5_extend_23 (by decide) ?_
  refine wa_icmp_ne 55 dX5_extend_24 rfl (fun c24 => ?_) (fun c24 => absurd c24 h2)
  refine wa_aload_n dX5_extend_55 rfl ?_
  refine g_TO (by assumption) 4 dX5_extend_56 fl_X5_21 (by decide) rfl ?_
  refine wa_iload_n dX5_extend_59 rfl ?_
  refine wa_iload_n dX5_extend_60 rfl ?_
  refine s_iast (j := q) isA_values dX5_extend_61 (ltS hn) (ix_nI (by omega)) hq ?_
  exact wa_return dX5_extend_62 ⟨Nat.le_refl _, Nat.le_refl _, rfl, rfl, rfl, rfl⟩
def fo (p : Nat → Prop) [DecidablePred p] : Nat → Nat → Option Nat
  | 0, _ => none
  | r + 1, k => if p k then some k else fo p r (k + 1)
theorem fo_lt {p : Nat → Prop} [DecidablePred p] : ∀ (r k i : Nat), fo p r k = some i → k ≤ i ∧ i < k + r ∧ p i
  | 0, _, _, h => by cases h
  | r + 1, k, i, h => by
    unfold fo at h
    split at h
    · next e => cases h; exact ⟨Nat.le_refl _, by omega, e⟩
    · have := fo_lt r (k + 1) i h
      exact ⟨by omega, by omega, this.2.2⟩
theorem fo_no {p : Nat → Prop} [DecidablePred p] : ∀ (r k : Nat), fo p r k = none → ∀ i, k ≤ i → i < k + r → ¬ p i
  | 0, _, _, i, h1, h2 => by omega
  | r + 1, k, h, i, h1, h2 => by
    unfold fo at h
    split at h
    · cases h
    · next e =>
      by_cases q : i = k
      · rw [q]; exact e
      · exact fo_no r (k + 1) h i (by omega) (by omega)
/-- the l bytes from p on spell the keyword i -/
abbrev SPK (f : Nat → Int32) (p l i : Nat) : Prop := l = (kw i).length ∧ ∀ j, j < (kw i).length → f (p + j) = (kw i).getD j 0
def kwA (f : Nat → Int32) (p l : Nat) : Option Nat := fo (SPK f p l) 18 0
def kvv (x : Option Nat) : Value := match x with
  | none => .null
  | some i => .ref (ab_CB + (112 + i))
theorem kws_ok : ∀ i, i < 18 → ((ab_kws[i]?).map (fun q => q.2)).getD 0 < 56 ∧ ab_ks (((ab_kws[i]?).map (fun q => q.2)).getD 0) = kw i := by decide +kernel
theorem kw_lo : ∀ i, i < 18 → ∀ j, j < (kw i).length → 0 ≤ ((kw i).getD j 0).toInt ∧ ((kw i).getD j 0).toInt < 128 := by decide +kernel
theorem hp_kc (S : SS) (k : Nat) : Hp S (ab_CB + k) = ab_kc k := by
  unfold Hp ly_mk
  have h0 : ¬ ab_CB + k < 3 := by unfold ab_CB; omega
  have h1 : ¬ ab_CB + k < 26 := by unfold ab_CB; omega
  have h2 : ¬ ab_CB + k < 34 := by unfold ab_CB; omega
  have h3 : ¬ ab_CB + k < 80 := by unfold ab_CB; omega
  have h4 : ¬ ab_CB + k < 83 := by unfold ab_CB; omega
  have h5 : ¬ ab_CB + k < 267 := by unfold ab_CB; omega
  have h6 : ¬ ab_CB + k < 269 := by unfold ab_CB; omega
  have h7 : ¬ ab_CB + k < ab_CB := by omega
  rw [if_neg h0, if_neg h1, if_neg h2, if_neg h3, if_neg h4, if_neg h5, if_neg h6, if_neg h7, Nat.add_sub_cancel_left]
theorem dom_kc (S : SS) (n : Nat) {k : Nat} (h : k < 112 ∨ 130 ≤ k) (hk : k < ab_NK) : ab_dom n (Hp S) (ab_CB + k) := Or.inr ⟨k, h, hk, rfl, hp_kc S k⟩
theorem lp_kwAt {Q : ab_Q} {x : Option Nat} {n b L p l : Nat} {S : SS} {f : Nat → Int32} (hn : 269 ≤ n) (hb : ab_dom n (Hp S) b) (hbe : (Hp S) b = .inl (1, L, .inl f)) (hL : L < 2 ^ 31) (hp : p + l ≤ L) (hQ : Q (.inl (some (kvv x))) 0 0 n (Hp S)) :
    ∀ (r k : Nat), k + r = 18 → ∀ l6, fo (SPK f p l) r k = x → WA RX5 cX5_keywordAt 7 [] (ab_rm 5 0 0) Q 0 0 11 [some (.ref b), some (.int (nI p)), some (.int (nI l)), some (.ref (ab_CB + 130)), some (.int 18), some (.int (nI (k))), l6] [] n (Hp S) := by
  intro r
  induction r with
  | zero =>
    intro k hk
    have hk' : 18 = k := by omega
    
    intro l6 he
    have hk2 : k = 18 := by omega
    refine wa_iload dX5_keywordAt_11 rfl ?_
    refine wa_iload dX5_keywordAt_13 rfl ?_
    refine wa_icmp_ge 47 dX5_keywordAt_15 rfl (fun c15 => ?_) (fun c15 => absurd (by rw [hk2]; decide) c15)
    refine wa_null dX5_keywordAt_47 ?_
    exact wa_areturnN dX5_keywordAt_48 (by
      rw [← he] at hQ
      exact hQ)
  | succ r ih =>
    intro k hk
    intro l6 he
    refine wa_iload dX5_keywordAt_11 rfl ?_
    refine wa_iload dX5_keywordAt_13 rfl ?_
    refine wa_icmp_ge 47 dX5_keywordAt_15 rfl (fun c15 => absurd c15 (Int32.not_le.mpr (show nI k < 18 from nI_lt (b := 18) (by omega) (by decide)))) (fun c15 => ?_)
    refine wa_aload_n dX5_keywordAt_18 rfl ?_
    refine wa_iload dX5_keywordAt_19 rfl ?_
    refine wa_aaldK (f := fun j => some (ab_CB + (112 + j))) (len := 18) dX5_keywordAt_21 (dom_kc S n (Or.inr (by decide)) (by decide)) (hp_kc S 130) (ix_nI (by omega)) (by omega) rfl ?_
    refine wa_astore dX5_keywordAt_22 rfl ?_
    refine wa_aload_n dX5_keywordAt_24 rfl ?_
    refine wa_iload_n dX5_keywordAt_25 rfl ?_
    refine wa_iload_n dX5_keywordAt_26 rfl ?_
    refine wa_aload dX5_keywordAt_27 rfl ?_
    obtain ⟨w1, w2⟩ := kws_ok k (by omega)
    refine wa_spelling dX5_keywordAt_29 fl_X5_60 (by omega) rfl ?_
    refine c_SNh dX5_keywordAt_32 (vr_spells (s := fun j => (kw k).getD j 0) (len := (kw k).length) hb hbe hL (by have q := str_lit (S := S) (n := n) w1; rw [w2] at q; exact q) (kw_lo k (by omega)) hp) lk_X5_64 rfl ?_
    refine wa_if_eq 41 dX5_keywordAt_35 rfl (fun c35 => ?_) (fun c35 => ?_)
    · refine wa_iinc (y := 1) dX5_keywordAt_41 rfl (by decide) rfl ?_
      refine wa_goto 11 dX5_keywordAt_44 rfl ?_
      have e9 : fo (SPK f p l) (r + 1) k = fo (SPK f p l) r (k + 1) := if_neg (c2i_f c35)
      rw [nI_1 k]
      exact ih (k + 1) (by omega) _ (e9.symm.trans he)
    · refine wa_aload dX5_keywordAt_38 rfl ?_
      exact wa_areturn dX5_keywordAt_40 (by
        have e9 : fo (SPK f p l) (r + 1) k = some k := if_pos (c2i_t c35)
        rw [← he, e9] at hQ
        exact hQ)
theorem tk_kwAt {n b L p l : Nat} {S : SS} {f : Nat → Int32} (hn : 269 ≤ n) (hb : ab_dom n (Hp S) b) (hbe : (Hp S) b = .inl (1, L, .inl f)) (hL : L < 2 ^ 31) (hp : p + l ≤ L) : AM yX5_keywordAt cX5_keywordAt 7 (some (.object "ValveRoom$Keyword")) [] 5 0 0 [.ref b, .int (nI p), .int (nI l)] n (Hp S) (PAh (kvv (kwA f p l)) n (Hp S)) := by
  intro has
  change WA RX5 cX5_keywordAt 7 [] _ _ 0 0 0 [some (.ref b), some (.int (nI p)), some (.int (nI l)), none, none, none, none] [] n _
  refine wa_getsN dX5_keywordAt_0 (List.mem_of_getElem? (i := 3) rfl) (List.mem_of_getElem? (i := 0) rfl) (Or.inr (by omega)) ?_
  refine wa_astore_n dX5_keywordAt_3 rfl ?_
  refine wa_aload_n dX5_keywordAt_4 rfl ?_
  refine wa_alen (t := 8) (len := 18) dX5_keywordAt_5 (by decide) (dom_kc S n (Or.inr (by decide)) (by decide)) (hp_kc S 130) (v := 18) rfl ?_
  refine wa_istore dX5_keywordAt_6 rfl ?_
  refine wa_iconst (x := 0) dX5_keywordAt_8 (by decide) ?_
  refine wa_istore dX5_keywordAt_9 rfl ?_
  refine lp_kwAt hn hb hbe hL hp ⟨Nat.le_refl _, Nat.le_refl _, ?_, rfl, rfl, rfl⟩ 18 0 rfl _ rfl
  show ab_rok _ (.inl (some (kvv (kwA f p l))))
  cases kwA f p l with
  | none => exact ⟨_, rfl, Or.inl ⟨_, rfl⟩⟩
  | some i => exact ⟨_, rfl, Or.inl ⟨_, rfl⟩⟩

