/-! ValveRoom: remember. Written by program (wip/whole/gen/m790.py) but for the heads. -/
/-- the past's Houses set -/
def sq (S : SS) (f : Nat → Nat) : SS := (S.1, S.2.1, (f, S.2.2.2))
def updN (f : Nat → Nat) (j b : Nat) : Nat → Nat := fun i => if i = j then b else f i
def PPf (f : Nat → Nat) : Prop := (∀ i, i < 6 → ∃ j, j < 6 ∧ f i = 83 + 23 * j) ∧ ∀ i j, i < 6 → j < 6 → f i = f j → i = j
theorem PPf.H {f : Nat → Nat} (h : PPf f) {i : Nat} (hi : i < 6) : isH (f i) := by
  obtain ⟨j, hj, e⟩ := h.1 i hi
  exact Or.inr (Or.inr (Or.inr ⟨j, by omega, e⟩))
theorem PPf.lo {f : Nat → Nat} (h : PPf f) {i : Nat} (hi : i < 6) : 83 ≤ f i ∧ f i + 23 ≤ 221 := by
  obtain ⟨j, hj, e⟩ := h.1 i hi
  omega
theorem PPf.dis {f : Nat → Nat} (h : PPf f) {i j : Nat} (hi : i < 6) (hj : j < 6) (hij : ¬ i = j) : f i + 23 ≤ f j ∨ f j + 23 ≤ f i := by
  obtain ⟨a, ha, ea⟩ := h.1 i hi
  obtain ⟨b, hb, eb⟩ := h.1 j hj
  have : ¬ a = b := fun z => hij (h.2 i j hi hj (by rw [ea, eb, z]))
  omega
theorem sq_q (S : SS) (f f' : Nat → Nat) : sq (sq S f) f' = sq S f' := rfl
theorem sq_id (S : SS) : sq S S.2.2.1 = S := rfl
theorem va_upq (f : Nat → Nat) {j b : Nat} (hj : j < 6) : va_up (fun i => if i < 6 then some (f i) else none) j (some b) = fun i => if i < 6 then some (updN f j b i) else none := by
  funext q
  unfold va_up updN
  by_cases h : q = j
  · subst h
    simp [hj]
  · simp [h]
theorem hp_sq {S : SS} {f : Nat → Nat} : ab_up (Hp S) 80 (ly_qa 6 6 (fun i => if i < 6 then some (f i) else none)) = Hp (sq S f) := by
  funext k
  unfold ab_up
  by_cases h : k = 80
  · subst h
    rw [if_pos rfl]
    rfl
  · rw [if_neg h]
    have e : ∀ a b : Nat, ∀ F w, ly_h a b F w (sq S f).2.2 = ly_h a b F w S.2.2 := fun a b F w => rfl
    unfold Hp ly_mk
    simp only [if_neg h]
    rfl
section RS
variable {own : String} {cc : ByteArray} {nL : Nat} {hh : List (Nat × Nat × Nat × Nat)} {R : Room} {Q : ab_Q} {k z pc : Nat} {ls : List (Option Value)} {st : List Value} {n : Nat} {S : SS}
theorem s_qld {j : Nat} {x : Int32} (hn : 269 ≤ n) (hx : x.toInt = (j : Int)) (hj : j < 6) (d : decode cc pc = .ok (.aaload, 1)) (K : WA own cc nL hh R Q k z (pc + 1) ls (.ref (S.2.2.1 j) :: st) n (Hp S)) : WA own cc nL hh R Q k z pc ls (.int x :: .ref 80 :: st) n (Hp S) :=
  wa_aaldH (f := fun i => if i < 6 then some (S.2.2.1 i) else none) (len := 6) d (Or.inl (ltS hn)) rfl hx hj (if_pos hj) K
theorem s_qst {j b : Nat} {x : Int32} (hn : 269 ≤ n) (hx : x.toInt = (j : Int)) (hj : j < 6) (hb : isH b) (d : decode cc pc = .ok (.aastore, 1)) (K : WA own cc nL hh R Q k z (pc + 1) ls st n (Hp (sq S (updN S.2.2.1 j b)))) : WA own cc nL hh R Q k z pc ls (.ref b :: .int x :: .ref 80 :: st) n (Hp S) := by
  refine wa_aastH (f := fun i => if i < 6 then some (S.2.2.1 i) else none) (len := 6) d (ltS hn) rfl hx hj (lt_HO hb hn) (hb.HO _ _ _) ?_
  have e := hp_sq (S := S) (f := updN S.2.2.1 j b)
  rw [va_upq S.2.2.1 hj]
  unfold ly_qa at e
  rw [e]
  exact K
theorem s_qlen {v : Int32} (hn : 269 ≤ n) (d : decode cc pc = .ok (.arraylength, 1)) (hv : Int32.ofNat 6 = v) (K : WA own cc nL hh R Q k z (pc + 1) ls (.int v :: st) n (Hp S)) : WA own cc nL hh R Q k z pc ls (.ref 80 :: st) n (Hp S) :=
  wa_alen (t := 6) (len := 6) d (by decide) (Or.inl (ltS hn)) rfl hv K
end RS
/-- one place down, k - 1 of them so far; all of them -/
def dnk (f : Nat → Nat) (k : Nat) : Nat → Nat := fun i => if i + 1 < k then f (i + 1) else f i
def rot (f : Nat → Nat) : Nat → Nat := fun i => if i < 5 then f (i + 1) else if i = 5 then f 0 else f i
theorem dnk_s (f : Nat → Nat) {k : Nat} (hk : 1 ≤ k) : updN (dnk f k) (k - 1) (dnk f k k) = dnk f (k + 1) := by
  funext i
  unfold updN dnk
  by_cases h : i = k - 1
  · rw [if_pos h, if_neg (by omega), if_pos (by omega), show i + 1 = k by omega]
  · rw [if_neg h]
    by_cases h2 : i + 1 < k
    · rw [if_pos h2, if_pos (by omega)]
    · rw [if_neg h2, if_neg (by omega)]
theorem dnk_1 (f : Nat → Nat) : dnk f 1 = f := by
  funext i
  unfold dnk
  rw [if_neg (by omega)]
theorem dnk_rot (f : Nat → Nat) : updN (dnk f 6) 5 (f 0) = rot f := by
  funext i
  unfold updN dnk rot
  by_cases h : i = 5
  · subst h; rfl
  · rw [if_neg h]
    by_cases h2 : i < 5
    · rw [if_pos (by omega), if_pos h2]
    · rw [if_neg (by omega), if_neg h2, if_neg h]
theorem PPf.rotP {f : Nat → Nat} (h : PPf f) : PPf (rot f) := by
  have e : ∀ i, i < 6 → ∃ a, a < 6 ∧ rot f i = f a ∧ (a = i + 1 ∨ (i = 5 ∧ a = 0)) := fun i hi => by
    unfold rot
    by_cases h5 : i < 5
    · exact ⟨i + 1, by omega, if_pos h5, Or.inl rfl⟩
    · exact ⟨0, by omega, by rw [if_neg h5, if_pos (by omega)], Or.inr ⟨by omega, rfl⟩⟩
  refine ⟨fun i hi => ?_, fun i j hi hj he => ?_⟩
  · obtain ⟨a, ha, e1, -⟩ := e i hi
    rw [e1]
    exact h.1 a ha
  · obtain ⟨a, ha, e1, q1⟩ := e i hi
    obtain ⟨b, hb, e2, q2⟩ := e j hj
    have := h.2 a b ha hb (by rw [← e1, ← e2, he])
    omega
theorem nI_s1b {k : Nat} (h : 1 ≤ k) : nI k - 1 = nI (k - 1) := nI_sub (b := 1) h
theorem lp_forget {Q : ab_Q} {n o : Nat} {S : SS} {f : Nat → Nat} (hn : 269 ≤ n) (hP : PPf f) (hQ : WA RX6 cX6_forgetOldest 3 [] (ab_rm 0 0 0) Q 0 0 38 [some (.ref 0), some (.ref o), some (.int (nI (6)))] [] n (Hp (sq S (dnk f 6)))) :
    ∀ (r k : Nat), k + r = 6 → 1 ≤ k → WA RX6 cX6_forgetOldest 3 [] (ab_rm 0 0 0) Q 0 0 9 [some (.ref 0), some (.ref o), some (.int (nI (k)))] [] n (Hp (sq S (dnk f k))) := by
  intro r
  induction r with
  | zero =>
    intro k hk
    have hk' : 6 = k := by omega
    
    intro hk1
    have hk2 : k = 6 := by omega
    refine wa_iload_n dX6_forgetOldest_9 rfl ?_
    refine wa_aload_n dX6_forgetOldest_10 rfl ?_
    refine g_VR (by assumption) 6 dX6_forgetOldest_11 fl_X6_33 (by decide) rfl ?_
    refine s_qlen hn dX6_forgetOldest_14 (v := 6) rfl ?_
    refine wa_icmp_ge 38 dX6_forgetOldest_15 rfl (fun c15 => ?_) (fun c15 => absurd (by rw [hk2]; decide) c15)
    rw [hk2]
    exact hQ
  | succ r ih =>
    intro k hk
    intro hk1
    have hH : k < 6 → isH ((sq S (dnk f k)).2.2.1 k) := fun q => by
      show isH (dnk f k k)
      unfold dnk
      rw [if_neg (by omega)]
      exact hP.H q
    refine wa_iload_n dX6_forgetOldest_9 rfl ?_
    refine wa_aload_n dX6_forgetOldest_10 rfl ?_
    refine g_VR (by assumption) 6 dX6_forgetOldest_11 fl_X6_33 (by decide) rfl ?_
    refine s_qlen hn dX6_forgetOldest_14 (v := 6) rfl ?_
    refine wa_icmp_ge 38 dX6_forgetOldest_15 rfl (fun c15 => absurd c15 (Int32.not_le.mpr (show nI k < 6 from nI_lt (b := 6) (by omega) (by decide)))) (fun c15 => ?_)
    refine wa_aload_n dX6_forgetOldest_18 rfl ?_
    refine g_VR (by assumption) 6 dX6_forgetOldest_19 fl_X6_33 (by decide) rfl ?_
    refine wa_iload_n dX6_forgetOldest_22 rfl ?_
    refine wa_iconst (x := 1) dX6_forgetOldest_23 (by decide) ?_
    refine wa_isub dX6_forgetOldest_24 ?_
    rw [nI_s1b hk1]
    refine wa_aload_n dX6_forgetOldest_25 rfl ?_
    refine g_VR (by assumption) 6 dX6_forgetOldest_26 fl_X6_33 (by decide) rfl ?_
    refine wa_iload_n dX6_forgetOldest_29 rfl ?_
    refine s_qld (S := sq S (dnk f k)) hn (ix_nI (by omega)) (by omega) dX6_forgetOldest_30 ?_
    refine s_qst (S := sq S (dnk f k)) hn (ix_nI (by omega)) (by omega) (hH (by omega)) dX6_forgetOldest_31 ?_
    rw [sq_q, show updN (sq S (dnk f k)).2.2.1 (k - 1) ((sq S (dnk f k)).2.2.1 k) = dnk f (k + 1) from dnk_s f hk1]
    refine wa_iinc (y := 1) dX6_forgetOldest_32 rfl (by decide) rfl ?_
    refine wa_goto 9 dX6_forgetOldest_35 rfl ?_
    rw [nI_1 k]
    exact ih (k + 1) (by omega) (by omega)
theorem vr_forget {n : Nat} {S : SS} (hn : 269 ≤ n) (hP : PPf S.2.2.1) (h7 : S.1 0 7 = 6) : AM yX6_forgetOldest cX6_forgetOldest 3 none [] 0 0 0 [.ref 0] n (Hp S) (PV n (ss (sq S (rot S.2.2.1)) 0 7 5)) := by
  intro has
  change WA RX6 cX6_forgetOldest 3 [] _ _ 0 0 0 [some (.ref 0), none, none] [] n _
  refine wa_aload_n dX6_forgetOldest_0 rfl ?_
  refine g_VR (by assumption) 6 dX6_forgetOldest_1 fl_X6_33 (by decide) rfl ?_
  refine wa_iconst (x := 0) dX6_forgetOldest_4 (by decide) ?_
  refine s_qld (j := 0) hn rfl (by decide) dX6_forgetOldest_5 ?_
  refine wa_astore_n dX6_forgetOldest_6 rfl ?_
  refine wa_iconst (x := 1) dX6_forgetOldest_7 (by decide) ?_
  refine wa_istore_n dX6_forgetOldest_8 rfl ?_
  refine wa_cg (show S = sq S (dnk S.2.2.1 1) by rw [dnk_1, sq_id]) ?_
  refine lp_forget hn hP ?_ 5 1 (by omega) (Nat.le_refl _)
  refine wa_aload_n dX6_forgetOldest_38 rfl ?_
  refine g_VR (by assumption) 6 dX6_forgetOldest_39 fl_X6_33 (by decide) rfl ?_
  refine wa_aload_n dX6_forgetOldest_42 rfl ?_
  refine g_VR (by assumption) 6 dX6_forgetOldest_43 fl_X6_33 (by decide) rfl ?_
  refine s_qlen hn dX6_forgetOldest_46 (v := 6) rfl ?_
  refine wa_iconst (x := 1) dX6_forgetOldest_47 (by decide) ?_
  refine wa_isub dX6_forgetOldest_48 ?_
  refine wa_aload_n dX6_forgetOldest_49 rfl ?_
  refine s_qst (S := sq S (dnk S.2.2.1 6)) (j := 5) hn rfl (by decide) (hP.H (by decide)) dX6_forgetOldest_50 ?_
  rw [sq_q, show updN (sq S (dnk S.2.2.1 6)).2.2.1 5 (S.2.2.1 0) = rot S.2.2.1 from dnk_rot _]
  refine wa_aload_n dX6_forgetOldest_51 rfl ?_
  refine wa_dup dX6_forgetOldest_52 rfl ?_
  refine g_VR hn 7 dX6_forgetOldest_53 fl_X6_284 (by decide) (v := .int 6) (congrArg (fun x => some (Value.int x)) h7) ?_
  refine wa_iconst (x := 1) dX6_forgetOldest_56 (by decide) ?_
  refine wa_isub dX6_forgetOldest_57 ?_
  refine p_VR (by assumption) 7 dX6_forgetOldest_58 fl_X6_284 (by decide) rfl rfl rfl rfl (fun _ _ _ => rfl) (Nat.le_of_ble_eq_true rfl) ?_
  exact wa_return dX6_forgetOldest_61 ⟨Nat.le_refl _, Nat.le_refl _, rfl, rfl, rfl, rfl⟩
def pf (c : Nat) (f : Nat → Nat) : Nat → Nat := if c = 6 then rot f else f
def c5 (c : Nat) : Nat := if c = 6 then 5 else c
theorem PPf.pfP {f : Nat → Nat} (h : PPf f) (c : Nat) : PPf (pf c f) := by
  unfold pf
  split
  · exact h.rotP
  · exact h
theorem c5_lt {c : Nat} (h : c ≤ 6) : c5 c < 6 := by
  unfold c5
  split <;> omega
/-- what remember leaves: the House's copy is the latest of the past -/
def REM (S S' : SS) (g : Nat → Int32) (c : Nat) : Prop := S'.2.2 = (pf c S.2.2.1, S.2.2.2) ∧ S'.1 0 7 = nI (c5 c + 1) ∧ (∀ x, ¬ x = 0 → (x < pf c S.2.2.1 (c5 c) ∨ pf c S.2.2.1 (c5 c) + 23 ≤ x) → S'.1 x = S.1 x) ∧ (∀ x, (x < pf c S.2.2.1 (c5 c) ∨ pf c S.2.2.1 (c5 c) + 23 ≤ x) → S'.2.1 x = S.2.1 x) ∧ (∀ j, ¬ j = 7 → S'.1 0 j = S.1 0 j) ∧
  HH S' (pf c S.2.2.1 (c5 c)) g (fun _ => True) ∧ ∀ i, i < rn g → S'.2.1 (pf c S.2.2.1 (c5 c) + 5 + 3 * i) = S.2.1 (34 + 5 + 3 * i)
theorem rem_tl {Q : ab_Q} {n m : Nat} {S : SS} {g : Nat → Int32} {T : Int} (hn : 269 ≤ n) (h : HH S 34 g (fun _ => True)) (hg : GG T g) (hP : PPf S.2.2.1) (hm : m < 6) (h7 : S.1 0 7 = nI m)
    (hQ : ∀ S', S'.2.2 = S.2.2 ∧ S'.1 0 7 = nI (m + 1) ∧ (∀ x, ¬ x = 0 → (x < S.2.2.1 m ∨ S.2.2.1 m + 23 ≤ x) → S'.1 x = S.1 x) ∧ (∀ x, (x < S.2.2.1 m ∨ S.2.2.1 m + 23 ≤ x) → S'.2.1 x = S.2.1 x) ∧ (∀ j, ¬ j = 7 → S'.1 0 j = S.1 0 j) ∧ HH S' (S.2.2.1 m) g (fun _ => True) ∧ (∀ i, i < rn g → S'.2.1 (S.2.2.1 m + 5 + 3 * i) = S.2.1 (34 + 5 + 3 * i)) → Q (.inl none) 0 0 n (Hp S')) : WA RX6 cX6_remember 1 [] (ab_rm 2 0 0) Q 0 0 13 [some (.ref 0)] [] n (Hp S) := by
  refine wa_aload_n dX6_remember_13 rfl ?_
  refine g_VR (by assumption) 6 dX6_remember_14 fl_X6_33 (by decide) rfl ?_
  refine wa_aload_n dX6_remember_17 rfl ?_
  refine g_VR hn 7 dX6_remember_18 fl_X6_284 (by decide) (v := .int (nI m)) (congrArg (fun x => some (Value.int x)) h7) ?_
  refine s_qld hn (ix_nI (by omega)) hm dX6_remember_21 ?_
  refine wa_aload_n dX6_remember_22 rfl ?_
  refine g_VR (by assumption) 4 dX6_remember_23 fl_X6_26 (by decide) rfl ?_
  refine c_VQV dX6_remember_26 (hh_hcopy hn (hP.H hm) (by have := hP.lo hm; omega) h hg.e0 (fun i hi => ⟨hg.opn hi, hg.pre hi⟩)) lk_X6_85 rfl (isH.HO (hP.H hm) _ _ _) rfl (lt_HO (hP.H hm) hn) (fun S1 q1 => ?_)
  refine wa_aload_n dX6_remember_29 rfl ?_
  refine wa_dup dX6_remember_30 rfl ?_
  obtain ⟨q1, q2, q3⟩ := q1
  have hlo := hP.lo hm
  have e7 : S1.1 0 7 = nI m := (congrFun (q2.2 0 (by omega)).1 7).trans h7
  refine g_VR hn 7 dX6_remember_31 fl_X6_284 (by decide) (v := .int (nI m)) (congrArg (fun x => some (Value.int x)) e7) ?_
  refine wa_iconst (x := 1) dX6_remember_34 (by decide) ?_
  refine wa_iadd dX6_remember_35 ?_
  rw [nI_1 m]
  refine p_VR (by assumption) 7 dX6_remember_36 fl_X6_284 (by decide) rfl rfl rfl rfl (fun _ _ _ => rfl) (Nat.le_of_ble_eq_true rfl) ?_
  exact wa_return dX6_remember_39 (hQ _ ⟨q2.1, by rw [ss_1, if_pos ⟨rfl, rfl⟩], fun x hx hx2 => by
      rw [show (ss S1 0 7 (nI (m + 1))).1 x = S1.1 x from if_neg hx]
      exact (q2.2 x hx2).1, fun x hx2 => (q2.2 x hx2).2, fun j hj => by
      rw [ss_1, if_neg (by omega)]
      exact congrFun (q2.2 0 (by omega)).1 j, q1.of (fun k h1 h2 => if_neg (by omega)), q3⟩)
theorem vr_remember {n c : Nat} {S : SS} {g : Nat → Int32} {T : Int} (hn : 269 ≤ n) (h : HH S 34 g (fun _ => True)) (hg : GG T g) (hP : PPf S.2.2.1) (hc : c ≤ 6) (h7 : S.1 0 7 = nI c) : AM yX6_remember cX6_remember 1 none [] 2 0 0 [.ref 0] n (Hp S) (PVe n (fun S' => REM S S' g c)) := by
  intro has
  change WA RX6 cX6_remember 1 [] _ _ 0 0 0 [some (.ref 0)] [] n _
  refine wa_aload_n dX6_remember_0 rfl ?_
  refine g_VR hn 7 dX6_remember_1 fl_X6_284 (by decide) (v := .int (nI c)) (congrArg (fun x => some (Value.int x)) h7) ?_
  refine wa_bipush (x := 6) dX6_remember_4 (by decide) ?_
  by_cases c6 : c = 6
  · refine wa_icmp_lt 13 dX6_remember_6 rfl (fun q => absurd (show nI c < 6 from q) (by rw [c6]; decide)) (fun _ => ?_)
    refine wa_aload_n dX6_remember_9 rfl ?_
    refine c_VV dX6_remember_10 (vr_forget hn hP (by rw [h7, c6]; rfl)) lk_X6_289 rfl (isO_VR _ _ _) rfl (ltS hn) ?_
    refine rem_tl (m := 5) (S := ss (sq S (rot S.2.2.1)) 0 7 5) hn (h.of (fun k h1 h2 => if_neg (by omega))) hg hP.rotP (by decide) (by rw [ss_1, if_pos ⟨rfl, rfl⟩]; rfl) (fun S' q => ⟨Nat.le_refl _, Nat.le_refl _, rfl, rfl, rfl, S', rfl, ?_⟩)
    obtain ⟨q1, q2, q3, q4, q5, q6, q7⟩ := q
    have e1 : pf c S.2.2.1 = rot S.2.2.1 := if_pos c6
    have e2 : c5 c = 5 := if_pos c6
    unfold REM
    rw [e1, e2]
    refine ⟨q1, q2, fun x hx hx2 => (q3 x hx hx2).trans (if_neg hx), q4, fun j hj => (q5 j hj).trans ?_, q6, q7⟩
    rw [ss_1, if_neg (by omega)]
    rfl
  · refine wa_icmp_lt 13 dX6_remember_6 rfl (fun _ => ?_) (fun q => absurd (show nI c < 6 from nI_lt (b := 6) (by omega) (by decide)) q)
    refine rem_tl (m := c) hn h hg hP (by omega) h7 (fun S' q => ⟨Nat.le_refl _, Nat.le_refl _, rfl, rfl, rfl, S', rfl, ?_⟩)
    have e1 : pf c S.2.2.1 = S.2.2.1 := if_neg c6
    have e2 : c5 c = c := if_neg c6
    unfold REM
    rw [e1, e2]
    exact q
theorem HH.rem {S S' : SS} {g g' : Nat → Int32} {c a : Nat} {P : Nat → Prop} (h : HH S a g P) (q : REM S S' g' c) (hP : PPf S.2.2.1) (hc : c ≤ 6) (ha : 0 < a ∧ a + 23 ≤ 83 ∨ 221 ≤ a) : HH S' a g P := by
  have hlo := (hP.pfP c).lo (c5_lt hc)
  exact h.of (fun k h1 h2 => q.2.2.1 k (by omega) (by omega))
/-- what a change leaves -/
abbrev CHG (n : Nat) (S : SS) (g : Nat → Int32) (c : Nat) (g' : Nat → Int32) (v0 : Int32) : ab_R → Nat → ab_H → Prop := PIe n (fun v S' => ∃ S1, REM S S1 g c ∧ HH S' 34 g' (fun _ => True) ∧ FRh 34 S1 S' ∧ v = v0)
theorem HH.put1 {S S' : SS} {a i w : Nat} {g : Nat → Int32} {x : Int32} (h : HH S a g (fun _ => True)) (hw : w < 66) (hl : LV S S' a (a + 5 + 3 * i) (pt g i w x) i) : HH S' a (pt g i w x) (fun _ => True) :=
  h.step (fun k hk => pt_lo g x hk) (fun k _ => rfl) (fun _ => rfl) (fun j hj _ => ⟨trivial, pt_oth hj g x hw⟩) hl
/-- a room changed in any of its cells -/
theorem HH.room {S S' : SS} {a i : Nat} {g g' : Nat → Int32} (h : HH S a g (fun _ => True)) (hi : i < 6) (hg : ∀ k, k < 71 → g' k = g k) (ho : ∀ j, ¬ j = i → rst j g' = rst j g) (hf : ∀ k, ¬ k = a + 5 + 3 * i → ¬ k = a + 5 + 3 * i + 1 → ¬ k = a + 5 + 3 * i + 2 → S'.1 k = S.1 k) (hr : RR S' (a + 5 + 3 * i) g' i) : HH S' a g' (fun _ => True) := by
  have er : rn g' = rn g := rn_cg (hg 0 (by decide))
  have ep : pn g' = pn g := pn_cg (hg 3 (by decide))
  refine ⟨⟨h.1.1, by rw [er]; exact h.1.2.1, by rw [ep]; exact h.1.2.2⟩, fun j hj hj2 => ?_, fun k hk => ?_, fun j hj => ?_⟩
  · rw [hf a (by omega) (by omega) (by omega), hg _ (by have := hm_lt j; omega)]
    exact h.2.1 j hj hj2
  · have h20 := h.1.2.2
    rw [ep] at hk
    rw [hf (a + 2) (by omega) (by omega) (by omega), hf (a + 3) (by omega) (by omega) (by omega), hf (a + 4) (by omega) (by omega) (by omega), hg _ (by omega), hg _ (by omega), hg _ (by omega)]
    exact h.2.2.1 k hk
  · by_cases e : j = i
    · subst e
      exact ⟨g', fun _ _ => rfl, hr, fun _ => rfl⟩
    · have hl := h.lvT (i := j) (by rw [← er]; exact hj)
      refine ⟨g', fun _ _ => rfl, (RR_rst (ho j e).symm hl.2.2.2.2.2).fr (hf _ (by omega) (by omega) (by omega)) (hf _ (by omega) (by omega) (by omega)) (hf _ (by omega) (by omega) (by omega)), fun _ => rfl⟩
theorem pg_ptP (g : Nat → Int32) (i : Nat) {t : Nat} (v : Int32) (ht : t < 48) : pg (pt g i (18 + t) v) i = upd (pg g i) t v := by
  funext s
  unfold pg
  by_cases h : s = t
  · subst h
    rw [if_pos ht, upd_e, of_pt g v (by omega) (by omega), if_pos ⟨rfl, rfl⟩]
  · rw [upd_o h]
    by_cases h2 : s < 48
    · rw [if_pos h2, if_pos h2, of_pt g v (by omega) (by omega), if_neg (by omega)]
    · rw [if_neg h2, if_neg h2]

