/-! ValveRoomModel: kindHere, plans, parseStatement. Written by program (wip/whole/gen/m655.py) but for the heads. -/
def kdF (b : Nat → Int32) (N : Nat) (s : PST) : PR (Nat × PST) := pb (pKind b N s.1) (fun k => .inr (k, s))
def rmF (b : Nat → Int32) (N : Nat) (s : PST) : PR (Nat × PST) := pb (pRoom b N s.2.1 s.1) (fun r => .inr (r, s))
def kv (b : Nat → Int32) (N : Nat) (x : PR PST) : Int32 := match x with
  | .inl _ => -1
  | .inr s => (pKind b N s.1).elim (fun _ => -1) nI
theorem kv_0 {b : Nat → Int32} {N : Nat} {x : PR PST} (h : wx b N x 14 = true) : kv b N x = 0 := by
  cases x with
  | inl e => cases h
  | inr s => show (pKind b N s.1).elim (fun _ => -1) nI = 0; unfold pKind; rw [if_pos (show wd b N (kw 14) s.1 = true from h)]; rfl
theorem kv_1 {b : Nat → Int32} {N : Nat} {x : PR PST} (h0 : ¬ wx b N x 14 = true) (h : wx b N x 15 = true) : kv b N x = 1 := by
  cases x with
  | inl e => cases h
  | inr s => show (pKind b N s.1).elim (fun _ => -1) nI = 1; unfold pKind; rw [if_neg (show ¬ wd b N (kw 14) s.1 = true from h0), if_pos (show wd b N (kw 15) s.1 = true from h)]; rfl
theorem kv_2 {b : Nat → Int32} {N : Nat} {x : PR PST} (h0 : ¬ wx b N x 14 = true) (h1 : ¬ wx b N x 15 = true) (h : wx b N x 16 = true) : kv b N x = 2 := by
  cases x with
  | inl e => cases h
  | inr s => show (pKind b N s.1).elim (fun _ => -1) nI = 2; unfold pKind; rw [if_neg (show ¬ wd b N (kw 14) s.1 = true from h0), if_neg (show ¬ wd b N (kw 15) s.1 = true from h1), if_pos (show wd b N (kw 16) s.1 = true from h)]; rfl
theorem kv_3 {b : Nat → Int32} {N : Nat} {x : PR PST} (h0 : ¬ wx b N x 14 = true) (h1 : ¬ wx b N x 15 = true) (h2 : ¬ wx b N x 16 = true) (h : wx b N x 17 = true) : kv b N x = 3 := by
  cases x with
  | inl e => cases h
  | inr s => show (pKind b N s.1).elim (fun _ => -1) nI = 3; unfold pKind; rw [if_neg (show ¬ wd b N (kw 14) s.1 = true from h0), if_neg (show ¬ wd b N (kw 15) s.1 = true from h1), if_neg (show ¬ wd b N (kw 16) s.1 = true from h2), if_pos (show wd b N (kw 17) s.1 = true from h)]; rfl
theorem kv_4 {b : Nat → Int32} {N : Nat} {x : PR PST} (h0 : ¬ wx b N x 14 = true) (h1 : ¬ wx b N x 15 = true) (h2 : ¬ wx b N x 16 = true) (h3 : ¬ wx b N x 17 = true) : kv b N x = -1 := by
  cases x with
  | inl e => rfl
  | inr s => show (pKind b N s.1).elim (fun _ => -1) nI = -1; unfold pKind; rw [if_neg (show ¬ wd b N (kw 14) s.1 = true from h0), if_neg (show ¬ wd b N (kw 15) s.1 = true from h1), if_neg (show ¬ wd b N (kw 16) s.1 = true from h2), if_neg (show ¬ wd b N (kw 17) s.1 = true from h3)]; rfl
theorem pKind_c (b : Nat → Int32) (N p : Nat) : pKind b N p = .inl (1, p) ∨ ∃ k, k < 4 ∧ pKind b N p = .inr k := by
  unfold pKind
  split
  · exact Or.inr ⟨0, by decide, rfl⟩
  · split
    · exact Or.inr ⟨1, by decide, rfl⟩
    · split
      · exact Or.inr ⟨2, by decide, rfl⟩
      · split
        · exact Or.inr ⟨3, by decide, rfl⟩
        · exact Or.inl rfl
theorem nI_m1' {k : Nat} (h : k < 4) : ¬ nI k = -1 := (by decide : ∀ k, k < 4 → ¬ nI k = -1) k h
theorem kind_eq {b : Nat → Int32} {N : Nat} {S0 S : SS} {x : PR PST} {v : Int32} (hv : v = kv b N x) (h : HS b N S0 S (pb x (fun s => pErr 1 (decide (kv b N (.inr s) = -1)) s))) : HV b N S0 S (fun v => v = 0) nI (pb x (kdF b N)) (i_max 0 v) := by
  subst hv
  cases x with
  | inl e => exact ⟨show i_max 0 (-1) = 0 from by decide, h⟩
  | inr s =>
    have h' : HS b N S0 S (pErr 1 (decide (kv b N (.inr s) = -1)) s) := h
    show HV b N S0 S _ nI (pb (pKind b N s.1) (fun k => .inr (k, s))) _
    unfold pErr at h'
    rcases pKind_c b N s.1 with e | ⟨k, hk, e⟩
    · have e1 : kv b N (.inr s) = -1 := by show (pKind b N s.1).elim (fun _ => -1) nI = -1; rw [e]; rfl
      rw [if_pos (decide_eq_true e1)] at h'
      rw [e, e1]
      exact ⟨by decide, h'⟩
    · have e1 : kv b N (.inr s) = nI k := by show (pKind b N s.1).elim (fun _ => -1) nI = nI k; rw [e]; rfl
      rw [if_neg (by rw [decide_eq_true_iff, e1]; exact nI_m1' hk)] at h'
      rw [e, e1]
      exact ⟨i_max0 (by omega), h'⟩
theorem kh_tail {Q : ab_Q} {n : Nat} {S : SS} {b : Nat → Int32} {N : Nat} {S0 : SS} {x : PR PST} {v : Int32} (hn : 279 ≤ n) (h : HS b N S0 S x) (hv : v = kv b N x) (hQ : ∀ v' S', HV b N S0 S' (fun v => v = 0) nI (pb x (kdF b N)) v' → Q (.inl (some (.int v'))) 0 0 n (Hp S')) : WA RX7 cX7_kindHere 2 [] (ab_rm 5 0 0) Q 0 0 53 [some (.ref 267), none] [.int v] n (Hp S) := by
  refine wa_istore_n dX7_kindHere_53 rfl ?_
  refine wa_aload_n dX7_kindHere_54 rfl ?_
  refine wa_iload_n dX7_kindHere_55 rfl ?_
  refine wa_iconst (x := (-1)) dX7_kindHere_56 (by decide) ?_
  refine wa_jn (P := v = -1) 64 65 (fun a b => wa_icmp_ne 64 dX7_kindHere_57 rfl a (fun c => b (fun z => z c))) dX7_kindHere_60 dX7_kindHere_61 rfl dX7_kindHere_64 rfl Iff.rfl ?_
  refine wa_iconst (x := 1) dX7_kindHere_65 (by decide) ?_
  refine c_VQV dX7_kindHere_66 (mm_errsIf hn h (b2i (v = -1)) 1 (fun s => decide (kv b N (.inr s) = -1)) (by decide) (by decide) (fun s' e => by
    subst e
    rw [hv]
    unfold b2i
    by_cases hm : kv b N (.inr s') = -1
    · rw [if_pos hm, if_pos (decide_eq_true hm)]
    · rw [if_neg hm, if_neg (by rw [decide_eq_true_iff]; exact hm)])) lk_X7_270 rfl (isO_MO _ _ _) rfl (ltS (by assumption)) (fun S1 h1 => ?_)
  refine wa_iconst (x := 0) dX7_kindHere_69 (by decide) ?_
  refine wa_iload_n dX7_kindHere_70 rfl ?_
  refine c_SI dX7_kindHere_71 (am_max _ _) lk_X7_150 rfl ?_
  exact wa_ireturn dX7_kindHere_74 (hQ _ _ (kind_eq hv h1))
theorem mm_kindHere {n : Nat} {S : SS} {b : Nat → Int32} {N : Nat} {S0 : SS} {x : PR PST} (hn : 279 ≤ n) (h : HS b N S0 S x) : AM yX7_kindHere cX7_kindHere 2 (some .int) [] 5 0 0 [.ref 267] n (Hp S) (PIe n (fun v S' => HV b N S0 S' (fun v => v = 0) nI (pb x (kdF b N)) v)) := by
  intro has
  change WA RX7 cX7_kindHere 2 [] _ _ 0 0 0 [some (.ref 267), none] [] n _
  refine wa_aload_n dX7_kindHere_0 rfl ?_
  refine wa_ldcS (j := 33) dX7_kindHere_1 rfl ?_
  refine c_VI dX7_kindHere_3 (mm_isWord (i := 14) hn (by decide) h) lk_X7_217 rfl (isO_MO _ _ _) rfl (ltS (by assumption)) ?_
  refine wa_if_eq 13 dX7_kindHere_6 rfl (fun c6 => ?_) (fun c6 => ?_)
  · refine wa_aload_n dX7_kindHere_13 rfl ?_
    refine wa_ldcS (j := 34) dX7_kindHere_14 rfl ?_
    refine c_VI dX7_kindHere_16 (mm_isWord (i := 15) hn (by decide) h) lk_X7_217 rfl (isO_MO _ _ _) rfl (ltS (by assumption)) ?_
    refine wa_if_eq 26 dX7_kindHere_19 rfl (fun c19 => ?_) (fun c19 => ?_)
    · refine wa_aload_n dX7_kindHere_26 rfl ?_
      refine wa_ldcS (j := 35) dX7_kindHere_27 rfl ?_
      refine c_VI dX7_kindHere_29 (mm_isWord (i := 16) hn (by decide) h) lk_X7_217 rfl (isO_MO _ _ _) rfl (ltS (by assumption)) ?_
      refine wa_if_eq 39 dX7_kindHere_32 rfl (fun c32 => ?_) (fun c32 => ?_)
      · refine wa_aload_n dX7_kindHere_39 rfl ?_
        refine wa_ldcS (j := 36) dX7_kindHere_40 rfl ?_
        refine c_VI dX7_kindHere_42 (mm_isWord (i := 17) hn (by decide) h) lk_X7_217 rfl (isO_MO _ _ _) rfl (ltS (by assumption)) ?_
        refine wa_if_eq 52 dX7_kindHere_45 rfl (fun c45 => ?_) (fun c45 => ?_)
        · refine wa_iconst (x := (-1)) dX7_kindHere_52 (by decide) ?_
          first
          | exact kh_tail hn h (kv_0 (b2i_t c6)).symm (fun v' S' h' => ⟨Nat.le_refl _, Nat.le_refl _, ⟨_, rfl, rfl⟩, rfl, v', S', rfl, rfl, h'⟩)
          | exact kh_tail hn h (kv_1 (b2i_f c6) (b2i_t c19)).symm (fun v' S' h' => ⟨Nat.le_refl _, Nat.le_refl _, ⟨_, rfl, rfl⟩, rfl, v', S', rfl, rfl, h'⟩)
          | exact kh_tail hn h (kv_2 (b2i_f c6) (b2i_f c19) (b2i_t c32)).symm (fun v' S' h' => ⟨Nat.le_refl _, Nat.le_refl _, ⟨_, rfl, rfl⟩, rfl, v', S', rfl, rfl, h'⟩)
          | exact kh_tail hn h (kv_3 (b2i_f c6) (b2i_f c19) (b2i_f c32) (b2i_t c45)).symm (fun v' S' h' => ⟨Nat.le_refl _, Nat.le_refl _, ⟨_, rfl, rfl⟩, rfl, v', S', rfl, rfl, h'⟩)
          | exact kh_tail hn h (kv_4 (b2i_f c6) (b2i_f c19) (b2i_f c32) (b2i_f c45)).symm (fun v' S' h' => ⟨Nat.le_refl _, Nat.le_refl _, ⟨_, rfl, rfl⟩, rfl, v', S', rfl, rfl, h'⟩)
        · refine wa_iconst (x := 3) dX7_kindHere_48 (by decide) ?_
          refine wa_goto 53 dX7_kindHere_49 rfl ?_
          first
          | exact kh_tail hn h (kv_0 (b2i_t c6)).symm (fun v' S' h' => ⟨Nat.le_refl _, Nat.le_refl _, ⟨_, rfl, rfl⟩, rfl, v', S', rfl, rfl, h'⟩)
          | exact kh_tail hn h (kv_1 (b2i_f c6) (b2i_t c19)).symm (fun v' S' h' => ⟨Nat.le_refl _, Nat.le_refl _, ⟨_, rfl, rfl⟩, rfl, v', S', rfl, rfl, h'⟩)
          | exact kh_tail hn h (kv_2 (b2i_f c6) (b2i_f c19) (b2i_t c32)).symm (fun v' S' h' => ⟨Nat.le_refl _, Nat.le_refl _, ⟨_, rfl, rfl⟩, rfl, v', S', rfl, rfl, h'⟩)
          | exact kh_tail hn h (kv_3 (b2i_f c6) (b2i_f c19) (b2i_f c32) (b2i_t c45)).symm (fun v' S' h' => ⟨Nat.le_refl _, Nat.le_refl _, ⟨_, rfl, rfl⟩, rfl, v', S', rfl, rfl, h'⟩)
          | exact kh_tail hn h (kv_4 (b2i_f c6) (b2i_f c19) (b2i_f c32) (b2i_f c45)).symm (fun v' S' h' => ⟨Nat.le_refl _, Nat.le_refl _, ⟨_, rfl, rfl⟩, rfl, v', S', rfl, rfl, h'⟩)
      · refine wa_iconst (x := 2) dX7_kindHere_35 (by decide) ?_
        refine wa_goto 53 dX7_kindHere_36 rfl ?_
        first
        | exact kh_tail hn h (kv_0 (b2i_t c6)).symm (fun v' S' h' => ⟨Nat.le_refl _, Nat.le_refl _, ⟨_, rfl, rfl⟩, rfl, v', S', rfl, rfl, h'⟩)
        | exact kh_tail hn h (kv_1 (b2i_f c6) (b2i_t c19)).symm (fun v' S' h' => ⟨Nat.le_refl _, Nat.le_refl _, ⟨_, rfl, rfl⟩, rfl, v', S', rfl, rfl, h'⟩)
        | exact kh_tail hn h (kv_2 (b2i_f c6) (b2i_f c19) (b2i_t c32)).symm (fun v' S' h' => ⟨Nat.le_refl _, Nat.le_refl _, ⟨_, rfl, rfl⟩, rfl, v', S', rfl, rfl, h'⟩)
        | exact kh_tail hn h (kv_3 (b2i_f c6) (b2i_f c19) (b2i_f c32) (b2i_t c45)).symm (fun v' S' h' => ⟨Nat.le_refl _, Nat.le_refl _, ⟨_, rfl, rfl⟩, rfl, v', S', rfl, rfl, h'⟩)
        | exact kh_tail hn h (kv_4 (b2i_f c6) (b2i_f c19) (b2i_f c32) (b2i_f c45)).symm (fun v' S' h' => ⟨Nat.le_refl _, Nat.le_refl _, ⟨_, rfl, rfl⟩, rfl, v', S', rfl, rfl, h'⟩)
    · refine wa_iconst (x := 1) dX7_kindHere_22 (by decide) ?_
      refine wa_goto 53 dX7_kindHere_23 rfl ?_
      first
      | exact kh_tail hn h (kv_0 (b2i_t c6)).symm (fun v' S' h' => ⟨Nat.le_refl _, Nat.le_refl _, ⟨_, rfl, rfl⟩, rfl, v', S', rfl, rfl, h'⟩)
      | exact kh_tail hn h (kv_1 (b2i_f c6) (b2i_t c19)).symm (fun v' S' h' => ⟨Nat.le_refl _, Nat.le_refl _, ⟨_, rfl, rfl⟩, rfl, v', S', rfl, rfl, h'⟩)
      | exact kh_tail hn h (kv_2 (b2i_f c6) (b2i_f c19) (b2i_t c32)).symm (fun v' S' h' => ⟨Nat.le_refl _, Nat.le_refl _, ⟨_, rfl, rfl⟩, rfl, v', S', rfl, rfl, h'⟩)
      | exact kh_tail hn h (kv_3 (b2i_f c6) (b2i_f c19) (b2i_f c32) (b2i_t c45)).symm (fun v' S' h' => ⟨Nat.le_refl _, Nat.le_refl _, ⟨_, rfl, rfl⟩, rfl, v', S', rfl, rfl, h'⟩)
      | exact kh_tail hn h (kv_4 (b2i_f c6) (b2i_f c19) (b2i_f c32) (b2i_f c45)).symm (fun v' S' h' => ⟨Nat.le_refl _, Nat.le_refl _, ⟨_, rfl, rfl⟩, rfl, v', S', rfl, rfl, h'⟩)
  · refine wa_iconst (x := 0) dX7_kindHere_9 (by decide) ?_
    refine wa_goto 53 dX7_kindHere_10 rfl ?_
    first
    | exact kh_tail hn h (kv_0 (b2i_t c6)).symm (fun v' S' h' => ⟨Nat.le_refl _, Nat.le_refl _, ⟨_, rfl, rfl⟩, rfl, v', S', rfl, rfl, h'⟩)
    | exact kh_tail hn h (kv_1 (b2i_f c6) (b2i_t c19)).symm (fun v' S' h' => ⟨Nat.le_refl _, Nat.le_refl _, ⟨_, rfl, rfl⟩, rfl, v', S', rfl, rfl, h'⟩)
    | exact kh_tail hn h (kv_2 (b2i_f c6) (b2i_f c19) (b2i_t c32)).symm (fun v' S' h' => ⟨Nat.le_refl _, Nat.le_refl _, ⟨_, rfl, rfl⟩, rfl, v', S', rfl, rfl, h'⟩)
    | exact kh_tail hn h (kv_3 (b2i_f c6) (b2i_f c19) (b2i_f c32) (b2i_t c45)).symm (fun v' S' h' => ⟨Nat.le_refl _, Nat.le_refl _, ⟨_, rfl, rfl⟩, rfl, v', S', rfl, rfl, h'⟩)
    | exact kh_tail hn h (kv_4 (b2i_f c6) (b2i_f c19) (b2i_f c32) (b2i_f c45)).symm (fun v' S' h' => ⟨Nat.le_refl _, Nat.le_refl _, ⟨_, rfl, rfl⟩, rfl, v', S', rfl, rfl, h'⟩)
def pl1 (b : Nat → Int32) (N : Nat) (x : PR PST) : PR PST := pb (pb x (fun s => pErr 5 (decide (pn s.2.1 = 20)) s)) (pNext b N)
def pl9 (b : Nat → Int32) (N : Nat) (x : PR PST) : PR (((Nat × Nat) × Nat) × PST) := mvY (mvY (prY (mvY (prY (yNum b N 1 9999 (pl1 b N x)) (rmF b N)) (pNext b N)) (kdF b N)) (pNext b N)) (pEnd b N)
def plF (q : ((Nat × Nat) × Nat) × PST) : PR PST := .inr (q.2.1, f_plan (nI q.1.1.1) (nI q.1.1.2) (nI q.1.2) q.2.2.1, q.2.2.2)
theorem pl1_1 {b : Nat → Int32} {N : Nat} {s : PST} (h : pn s.2.1 = 20) : pl1 b N (.inr s) = .inl (5, s.1) := by
  show pb (pErr 5 (decide (pn s.2.1 = 20)) s) (pNext b N) = _
  unfold pErr
  rw [if_pos (decide_eq_true h)]; rfl
theorem pl1_0 {b : Nat → Int32} {N : Nat} {s : PST} (h : ¬ pn s.2.1 = 20) : pl1 b N (.inr s) = .inr (nx b N s.1, s.2) := by
  show pb (pErr 5 (decide (pn s.2.1 = 20)) s) (pNext b N) = _
  unfold pErr
  rw [if_neg (by rw [decide_eq_true_iff]; exact h)]; rfl
theorem pl_eq (b : Nat → Int32) (N : Nat) (x : PR PST) : pb (pl9 b N x) plF = pb x (pPlan b N) := by
  cases x with
  | inl e => rfl
  | inr s =>
    show _ = pPlan b N s
    unfold pPlan pPlan1 pl9
    by_cases h2 : pn s.2.1 = 20
    · rw [pl1_1 h2, if_pos h2]; rfl
    · rw [pl1_0 h2, if_neg h2]
      unfold yNum mvY prY rmF kdF pEnd pNext
      simp only [pb_pb, pb]
      cases pNum b N 1 9999 (nx b N s.1) with
      | inl e => rfl
      | inr q =>
        simp only [pb]
        cases pRoom b N s.2.1 q.2 with
        | inl e => rfl
        | inr r =>
          simp only [pb]
          cases pKind b N (nx b N q.2) with
          | inl e => rfl
          | inr k =>
            simp only [pb]
            cases pSym b N 59 (nx b N (nx b N q.2)) <;> rfl
theorem rmF_g (b : Nat → Int32) (N : Nat) (s : PST) (r : Nat × PST) (h : rmF b N s = .inr r) : r.2.2.1 = s.2.1 := by
  unfold rmF at h
  cases hp : pRoom b N s.2.1 s.1 <;> rw [hp] at h <;> cases h
  rfl
theorem kdF_g (b : Nat → Int32) (N : Nat) (s : PST) (r : Nat × PST) (h : kdF b N s = .inr r) : r.2.2.1 = s.2.1 := by
  unfold kdF at h
  cases hp : pKind b N s.1 <;> rw [hp] at h <;> cases h
  rfl
theorem yNum_g {b : Nat → Int32} {N lo hi : Nat} {x : PR PST} {q : Nat × PST} (h : yNum b N lo hi x = .inr q) {g : Nat → Int32} (hx : ∀ s, x = .inr s → s.2.1 = g) : q.2.2.1 = g := by
  unfold yNum at h
  cases x with
  | inl e => cases h
  | inr s =>
    have h' : pb (pNum b N lo hi s.1) (fun q => .inr (q.1, (q.2, s.2))) = .inr q := h
    cases hp : pNum b N lo hi s.1 <;> rw [hp] at h' <;> cases h'
    exact hx s rfl
theorem pl_g {b : Nat → Int32} {N : Nat} {s : PST} {q : ((Nat × Nat) × Nat) × PST} (h : pl9 b N (.inr s) = .inr q) : q.2.2.1 = s.2.1 ∧ ¬ pn s.2.1 = 20 ∧ q.1.1.2 < rn s.2.1 := by
  have h20 : ¬ pn s.2.1 = 20 := fun z => by
    unfold pl9 at h
    rw [pl1_1 z] at h
    cases h
  have nxg : ∀ s r : PST, pNext b N s = .inr r → r.2.1 = s.2.1 := fun s r hr => by cases hr; rfl
  have h1 : ∀ s', pl1 b N (.inr s) = .inr s' → s'.2.1 = s.2.1 := fun s' h => by rw [pl1_0 h20] at h; cases h; rfl
  have hN : ∀ q', yNum b N 1 9999 (pl1 b N (.inr s)) = .inr q' → q'.2.2.1 = s.2.1 := fun q' h => yNum_g h h1
  have hR : ∀ q', prY (yNum b N 1 9999 (pl1 b N (.inr s))) (rmF b N) = .inr q' → q'.2.2.1 = s.2.1 := fun q' h => prY_g (P := fun _ => True) h hN (rmF_g b N)
  refine ⟨mvY_g h (fun q1 k1 => mvY_g k1 (fun q2 k2 => prY_g (P := fun _ => True) k2 (fun q3 k3 => mvY_g k3 hR nxg) (kdF_g b N)) nxg) (pEnd_g b N), h20, ?_⟩
  -- the room's number
  have mv : ∀ {α : Type} {y : PR (α × PST)} {F : PST → PR PST} {q : α × PST} {C : α → Prop}, mvY y F = .inr q → (∀ q, y = .inr q → C q.1) → C q.1 := by
    intro α y F q C h hy
    unfold mvY at h
    cases y with
    | inl e => cases h
    | inr q0 =>
      have h' : pb (F q0.2) (fun s => .inr (q0.1, s)) = .inr q := h
      cases hf : F q0.2 with
      | inl e => rw [hf] at h'; cases h'
      | inr s => rw [hf] at h'; cases h'; exact hy q0 rfl
  have pr : ∀ {α β : Type} {y : PR (α × PST)} {F : PST → PR (β × PST)} {q : (α × β) × PST} {C : α → Prop}, prY y F = .inr q → (∀ q, y = .inr q → C q.1) → C q.1.1 := by
    intro α β y F q C h hy
    unfold prY at h
    cases y with
    | inl e => cases h
    | inr q0 =>
      have h' : pb (F q0.2) (fun r => .inr ((q0.1, r.1), r.2)) = .inr q := h
      cases hf : F q0.2 with
      | inl e => rw [hf] at h'; cases h'
      | inr s => rw [hf] at h'; cases h'; exact hy q0 rfl
  have hr : ∀ q', prY (yNum b N 1 9999 (pl1 b N (.inr s))) (rmF b N) = .inr q' → q'.1.2 < rn s.2.1 := fun q' h => by
    cases hy : yNum b N 1 9999 (pl1 b N (.inr s)) with
    | inl e => rw [hy] at h; cases h
    | inr q0 =>
      rw [hy] at h
      have h' : pb (rmF b N q0.2) (fun r => .inr ((q0.1, r.1), r.2)) = .inr q' := h
      cases hf : rmF b N q0.2 with
      | inl e => rw [hf] at h'; cases h'
      | inr r =>
        rw [hf] at h'
        cases h'
        have := yRoom_6 (x := .inr q0.2) (q := r) hf
        rw [rmF_g b N _ _ hf, hN q0 hy] at this
        exact this
  exact mv (C := fun a => a.1.2 < rn s.2.1) h (fun q1 k1 => mv (C := fun a => a.1.2 < rn s.2.1) k1 (fun q2 k2 => pr (C := fun a => a.2 < rn s.2.1) k2 (fun q3 k3 => mv (C := fun a => a.2 < rn s.2.1) k3 hr)))
theorem VG_ins {T : Int} {g : Nat → Int32} (h : VG T g) {K : Nat} (hK : K ≤ pn g) (hp : pn g < 20) {r : Nat} (hr : r < 6) (t kk : Int32) : VG T (f_ins K t (nI r) kk g) := by
  have hlo : ∀ j, j < 11 → ¬ j = 3 → f_ins K t (nI r) kk g j = g j := fun j hj h3 => by
    unfold f_ins
    rw [if_neg h3, if_neg (by omega), if_neg (by omega), if_neg (by omega), if_neg (by omega)]
  have e3 : f_ins K t (nI r) kk g 3 = nI (pn g + 1) := by
    show g 3 + 1 = _
    rw [(VG_pn h).1]; exact nI_1 _
  have ep : pn (f_ins K t (nI r) kk g) = pn g + 1 := by
    unfold pn
    rw [e3, nI_toInt (by omega)]; rfl
  refine ⟨by rw [hlo 1 (by decide) (by decide)]; exact h.1, by rw [hlo 0 (by decide) (by decide)]; exact h.2.1, by rw [e3, nI_toInt (by omega)]; omega, fun k hk => ?_, fun i => ?_⟩
  · rw [ep] at hk
    unfold f_ins
    rw [if_neg (by omega), if_neg (by omega)]
    by_cases hkK : k = K
    · rw [if_pos (by omega), nI_toInt (by omega)]; omega
    · rw [if_neg (by omega), if_neg (by omega)]
      by_cases hlt : k < K
      · rw [if_neg (by omega)]
        exact h.2.2.2.1 k (by omega)
      · rw [if_pos (by omega), show 11 + 3 * k + 1 - 3 = 11 + 3 * (k - 1) + 1 by omega]
        exact h.2.2.2.1 (k - 1) (by omega)
  · have e : pg (f_ins K t (nI r) kk g) i = pg g i := by
      funext t'
      unfold pg of
      by_cases h48 : t' < 48
      · rw [if_pos h48, if_pos h48]
        unfold f_ins
        rw [if_neg (by omega), if_neg (by omega), if_neg (by omega), if_neg (by omega), if_neg (by omega)]
      · rw [if_neg h48, if_neg h48]
    rw [e]; exact h.2.2.2.2 i
theorem VG_plan {T : Int} {g : Nat → Int32} (h : VG T g) (hp : pn g < 20) {r : Nat} (hr : r < 6) (t kk : Int32) : VG T (f_plan t (nI r) kk g) := VG_ins h (ipos_le _ _ _) hp hr t kk
theorem pl_bad {Q : ab_Q} {n : Nat} {S : SS} {b : Nat → Int32} {N : Nat} {S0 : SS} {e : Nat × Nat} {x1 x2 x3 : Int32} (hn : 279 ≤ n) (h : BD b N S0 S e) (hQ : Q (.inl none) 0 0 n (Hp S)) : WA RX7 cX7_parsePlan 5 [] (ab_rm 9 0 0) Q 0 0 56 [some (.ref 267), some (.int x1), some (.int x2), some (.int x3), none] [] n (Hp S) := by
  refine wa_aload_n dX7_parsePlan_56 rfl ?_
  refine c_VI dX7_parsePlan_57 (mm_good hn) lk_X7_165 rfl (isO_MO _ _ _) rfl (ltS (by assumption)) ?_
  rw [b2i_0 h.n0]
  refine wa_if_eq 72 dX7_parsePlan_60 rfl (fun c60 => ?_) (fun c60 => absurd rfl c60)
  exact wa_return dX7_parsePlan_72 hQ
theorem pl_good {Q : ab_Q} {n r : Nat} {S : SS} {b : Nat → Int32} {N : Nat} {S0 : SS} {s : PST} {x1 x2 x3 : Int32} (hn : 279 ≤ n) (h : GD b N S0 S s) (hp : pn s.2.1 < 20) (hr : r < 6) (hx2 : x2 = nI r) (hQ : ∀ S', GD b N S0 S' (s.1, f_plan x1 x2 x3 s.2.1, s.2.2) → Q (.inl none) 0 0 n (Hp S')) : WA RX7 cX7_parsePlan 5 [] (ab_rm 9 0 0) Q 0 0 56 [some (.ref 267), some (.int x1), some (.int x2), some (.int x3), none] [] n (Hp S) := by
  refine wa_aload_n dX7_parsePlan_56 rfl ?_
  refine c_VI dX7_parsePlan_57 (mm_good hn) lk_X7_165 rfl (isO_MO _ _ _) rfl (ltS (by assumption)) ?_
  rw [b2i_1 h.g0]
  refine wa_if_eq 72 dX7_parsePlan_60 rfl (fun c60 => absurd c60 (by decide)) (fun c60 => ?_)
  refine wa_aload_n dX7_parsePlan_63 rfl ?_
  refine wa_iload_n dX7_parsePlan_64 rfl ?_
  refine wa_iload_n dX7_parsePlan_65 rfl ?_
  refine wa_iload_n dX7_parsePlan_66 rfl ?_
  refine c_VI dX7_parsePlan_67 (mm_addPlan (S := S) hn (by rw [h.row]; exact h.vg.2.2.1.1) (by rw [h.row]; exact hp) x1 x2 x3) lk_X7_309 rfl (isO_MO _ _ _) rfl (ltS (by assumption)) ?_
  refine wa_istore dX7_parsePlan_70 rfl ?_
  exact wa_return dX7_parsePlan_72 (hQ _ (by
      show GD b N S0 (su S (mr S) (f_plan x1 x2 x3 (row S))) _
      rw [h.1.1.mr, h.row]
      exact h.dd (by rw [hx2]; exact VG_plan h.vg hp hr _ _)))
theorem mm_parsePlan {n : Nat} {S : SS} {b : Nat → Int32} {N : Nat} {S0 : SS} {x : PR PST} (hn : 279 ≤ n) (h : HS b N S0 S x) : AM yX7_parsePlan cX7_parsePlan 5 none [] 9 0 0 [.ref 267] n (Hp S) (PVe n (fun S' => HS b N S0 S' (pb x (pPlan b N)))) := by
  intro has
  change WA RX7 cX7_parsePlan 5 [] _ _ 0 0 0 [some (.ref 267), none, none, none, none] [] n _
  refine wa_aload_n dX7_parsePlan_0 rfl ?_
  refine wa_aload_n dX7_parsePlan_1 rfl ?_
  refine g_row (by assumption) dX7_parsePlan_2 fl_X7_24 ?_
  refine wa_iconst (x := 3) dX7_parsePlan_5 (by decide) ?_
  refine s_iald (j := 3) isA_mr dX7_parsePlan_6 (lt_mr (by assumption)) rfl (by decide) ?_
  refine wa_bipush (x := 20) dX7_parsePlan_7 (by decide) ?_
  refine wa_jn (P := row S 3 = 20) 16 17 (fun a b => wa_icmp_ne 16 dX7_parsePlan_9 rfl a (fun c => b (fun z => z c))) dX7_parsePlan_12 dX7_parsePlan_13 rfl dX7_parsePlan_16 rfl Iff.rfl ?_
  refine wa_iconst (x := 5) dX7_parsePlan_17 (by decide) ?_
  refine c_VQV dX7_parsePlan_18 (mm_errsIf hn h (b2i (row S 3 = 20)) 5 (fun s => decide (pn s.2.1 = 20)) (by decide) (by decide) (fun s' e => by
    subst e
    have hg : GD b N S0 S s' := h
    have e0 := (VG_pn hg.vg).1
    have e6 := (VG_pn hg.vg).2
    have hiff : s'.2.1 3 = 20 ↔ pn s'.2.1 = 20 := by rw [e0]; exact nI_eq (b := 20) (by omega) (by decide)
    rw [hg.row]
    unfold b2i
    by_cases hm : pn s'.2.1 = 20
    · rw [if_pos (hiff.mpr hm), if_pos (decide_eq_true hm)]
    · rw [if_neg (fun z => hm (hiff.mp z)), if_neg (by rw [decide_eq_true_iff]; exact hm)])) lk_X7_270 rfl (isO_MO _ _ _) rfl (ltS (by assumption)) (fun S1 h1 => ?_)
  refine wa_aload_n dX7_parsePlan_21 rfl ?_
  refine c_VQV dX7_parsePlan_22 (mm_goNext hn h1) lk_X7_214 rfl (isO_MO _ _ _) rfl (ltS (by assumption)) (fun S2 h2 => ?_)
  refine wa_aload_n dX7_parsePlan_25 rfl ?_
  refine wa_iconst (x := 1) dX7_parsePlan_26 (by decide) ?_
  refine wa_sipush (x := 9999) dX7_parsePlan_27 (by decide) ?_
  refine c_VQI dX7_parsePlan_30 (mm_number (x := pl1 b N x) (lo := 1) (ho := 9999) (by decide) (by decide) hn h2) lk_X7_260 rfl (isO_MO _ _ _) rfl (ltS (by assumption)) (fun v3 S3 h3 => ?_)
  refine wa_istore_n dX7_parsePlan_33 rfl ?_
  refine wa_aload_n dX7_parsePlan_34 rfl ?_
  have w3 := h3.w
  refine c_VQI dX7_parsePlan_35 (mm_roomHere hn w3.hs) lk_X7_297 rfl (isO_MO _ _ _) rfl (ltS (by assumption)) (fun v4 S4 h4 => ?_)
  refine wa_istore_n dX7_parsePlan_38 rfl ?_
  refine wa_aload_n dX7_parsePlan_39 rfl ?_
  have w4 := w3.pr (F := rmF b N) (HV.w (α := Nat) h4)
  refine c_VQV dX7_parsePlan_40 (mm_goNext hn w4.hs) lk_X7_214 rfl (isO_MO _ _ _) rfl (ltS (by assumption)) (fun S5 h5 => ?_)
  refine wa_aload_n dX7_parsePlan_43 rfl ?_
  have w5 := w4.go h5
  refine c_VQI dX7_parsePlan_44 (mm_kindHere hn w5.hs) lk_X7_306 rfl (isO_MO _ _ _) rfl (ltS (by assumption)) (fun v6 S6 h6 => ?_)
  refine wa_istore_n dX7_parsePlan_47 rfl ?_
  refine wa_aload_n dX7_parsePlan_48 rfl ?_
  have w6 := w5.pr (F := kdF b N) (HV.w (α := Nat) h6)
  refine c_VQV dX7_parsePlan_49 (mm_goNext hn w6.hs) lk_X7_214 rfl (isO_MO _ _ _) rfl (ltS (by assumption)) (fun S7 h7 => ?_)
  refine wa_aload_n dX7_parsePlan_52 rfl ?_
  have w7 := w6.go h7
  refine c_VQV dX7_parsePlan_53 (mm_semicolon hn w7.hs) lk_X7_290 rfl (isO_MO _ _ _) rfl (ltS (by assumption)) (fun S8 h8 => ?_)
  have w8 : HW b N S0 S8 _ (pl9 b N x) := w7.go h8
  rw [← pl_eq]
  cases hz : pl9 b N x with
  | inl e =>
    rw [hz] at w8
    exact pl_bad hn w8 ⟨Nat.le_refl _, Nat.le_refl _, rfl, rfl, rfl, _, rfl, w8⟩
  | inr q =>
    rw [hz] at w8
    cases x with
    | inl e => cases hz
    | inr s =>
      obtain ⟨⟨⟨k1, k2⟩, k3⟩, hg⟩ := w8
      obtain ⟨g1, g2, g3⟩ := pl_g hz
      have hvg := GD.vg (b := b) (N := N) (S0 := S0) (S := S) h
      have a1 := (VG_pn (g := s.2.1) (T := 0) hvg).2
      have a2 := (VG_rn (g := s.2.1) (T := 0) hvg).2
      refine pl_good (s := q.2) (r := q.1.1.2) hn hg (by rw [g1]; omega) (by omega) k2 (fun S' h' => ⟨Nat.le_refl _, Nat.le_refl _, rfl, rfl, rfl, _, rfl, ?_⟩)
      rw [k1, k2, k3] at h'
      exact h'
theorem mm_parseStatement {n : Nat} {S : SS} {b : Nat → Int32} {N : Nat} {S0 : SS} {x : PR PST} (hn : 279 ≤ n) (h : HS b N S0 S x) : AM yX7_parseStatement cX7_parseStatement 1 none [] 11 0 0 [.ref 267] n (Hp S) (PVe n (fun S' => HS b N S0 S' (pb x (pStmt b N)))) := by
  cases x with
  | inl e =>
    intro has
    change WA RX7 cX7_parseStatement 1 [] _ _ 0 0 0 [some (.ref 267)] [] n _
    replace h : BD b N S0 S e := h
    refine wa_aload_n dX7_parseStatement_0 rfl ?_
    refine wa_ldcS (j := 19) dX7_parseStatement_1 rfl ?_
    refine c_VI dX7_parseStatement_3 (mm_isWord (x := .inl e) (i := 0) hn (by decide) h) lk_X7_217 rfl (isO_MO _ _ _) rfl (ltS (by assumption)) ?_
    refine wa_if_eq 16 dX7_parseStatement_6 rfl (fun c6 => ?_) (fun c6 => absurd rfl c6)
    refine wa_aload_n dX7_parseStatement_16 rfl ?_
    refine wa_ldcS (j := 20) dX7_parseStatement_17 rfl ?_
    refine c_VI dX7_parseStatement_19 (mm_isWord (x := .inl e) (i := 1) hn (by decide) h) lk_X7_217 rfl (isO_MO _ _ _) rfl (ltS (by assumption)) ?_
    refine wa_if_eq 32 dX7_parseStatement_22 rfl (fun c22 => ?_) (fun c22 => absurd rfl c22)
    refine wa_aload_n dX7_parseStatement_32 rfl ?_
    refine wa_ldcS (j := 22) dX7_parseStatement_33 rfl ?_
    refine c_VI dX7_parseStatement_35 (mm_isWord (x := .inl e) (i := 3) hn (by decide) h) lk_X7_217 rfl (isO_MO _ _ _) rfl (ltS (by assumption)) ?_
    refine wa_if_eq 48 dX7_parseStatement_38 rfl (fun c38 => ?_) (fun c38 => absurd rfl c38)
    refine wa_aload_n dX7_parseStatement_48 rfl ?_
    refine wa_ldcS (j := 23) dX7_parseStatement_49 rfl ?_
    refine c_VI dX7_parseStatement_51 (mm_isWord (x := .inl e) (i := 4) hn (by decide) h) lk_X7_217 rfl (isO_MO _ _ _) rfl (ltS (by assumption)) ?_
    refine wa_if_eq 64 dX7_parseStatement_54 rfl (fun c54 => ?_) (fun c54 => absurd rfl c54)
    refine wa_aload_n dX7_parseStatement_64 rfl ?_
    refine wa_ldcS (j := 24) dX7_parseStatement_65 rfl ?_
    refine c_VI dX7_parseStatement_67 (mm_isWord (x := .inl e) (i := 5) hn (by decide) h) lk_X7_217 rfl (isO_MO _ _ _) rfl (ltS (by assumption)) ?_
    refine wa_if_eq 80 dX7_parseStatement_70 rfl (fun c70 => ?_) (fun c70 => absurd rfl c70)
    refine wa_aload_n dX7_parseStatement_80 rfl ?_
    refine wa_ldcS (j := 25) dX7_parseStatement_81 rfl ?_
    refine c_VI dX7_parseStatement_83 (mm_isWord (x := .inl e) (i := 6) hn (by decide) h) lk_X7_217 rfl (isO_MO _ _ _) rfl (ltS (by assumption)) ?_
    refine wa_if_eq 96 dX7_parseStatement_86 rfl (fun c86 => ?_) (fun c86 => absurd rfl c86)
    refine wa_aload_n dX7_parseStatement_96 rfl ?_
    refine wa_ldcS (j := 31) dX7_parseStatement_97 rfl ?_
    refine c_VI dX7_parseStatement_99 (mm_isWord (x := .inl e) (i := 12) hn (by decide) h) lk_X7_217 rfl (isO_MO _ _ _) rfl (ltS (by assumption)) ?_
    refine wa_if_eq 112 dX7_parseStatement_102 rfl (fun c102 => ?_) (fun c102 => absurd rfl c102)
    refine wa_aload_n dX7_parseStatement_112 rfl ?_
    refine wa_ldcS (j := 32) dX7_parseStatement_113 rfl ?_
    refine c_VI dX7_parseStatement_115 (mm_isWord (x := .inl e) (i := 13) hn (by decide) h) lk_X7_217 rfl (isO_MO _ _ _) rfl (ltS (by assumption)) ?_
    refine wa_if_eq 128 dX7_parseStatement_118 rfl (fun c118 => ?_) (fun c118 => absurd rfl c118)
    refine wa_aload_n dX7_parseStatement_128 rfl ?_
    refine wa_iconst (x := 1) dX7_parseStatement_129 (by decide) ?_
    refine c_VV dX7_parseStatement_130 (mm_errs_b hn h.n0 1) lk_X7_208 rfl (isO_MO _ _ _) rfl (ltS (by assumption)) ?_
    exact wa_return dX7_parseStatement_133 ⟨Nat.le_refl _, Nat.le_refl _, rfl, rfl, rfl, _, rfl, h⟩
  | inr s =>
    intro has
    change WA RX7 cX7_parseStatement 1 [] _ _ 0 0 0 [some (.ref 267)] [] n _
    replace h : GD b N S0 S s := h
    refine wa_aload_n dX7_parseStatement_0 rfl ?_
    refine wa_ldcS (j := 19) dX7_parseStatement_1 rfl ?_
    refine c_VI dX7_parseStatement_3 (mm_isWord (x := .inr s) (i := 0) hn (by decide) h) lk_X7_217 rfl (isO_MO _ _ _) rfl (ltS (by assumption)) ?_
    refine wa_if_eq 16 dX7_parseStatement_6 rfl (fun c6 => ?_) (fun c6 => ?_)
    · refine wa_aload_n dX7_parseStatement_16 rfl ?_
      refine wa_ldcS (j := 20) dX7_parseStatement_17 rfl ?_
      refine c_VI dX7_parseStatement_19 (mm_isWord (x := .inr s) (i := 1) hn (by decide) h) lk_X7_217 rfl (isO_MO _ _ _) rfl (ltS (by assumption)) ?_
      refine wa_if_eq 32 dX7_parseStatement_22 rfl (fun c22 => ?_) (fun c22 => ?_)
      · refine wa_aload_n dX7_parseStatement_32 rfl ?_
        refine wa_ldcS (j := 22) dX7_parseStatement_33 rfl ?_
        refine c_VI dX7_parseStatement_35 (mm_isWord (x := .inr s) (i := 3) hn (by decide) h) lk_X7_217 rfl (isO_MO _ _ _) rfl (ltS (by assumption)) ?_
        refine wa_if_eq 48 dX7_parseStatement_38 rfl (fun c38 => ?_) (fun c38 => ?_)
        · refine wa_aload_n dX7_parseStatement_48 rfl ?_
          refine wa_ldcS (j := 23) dX7_parseStatement_49 rfl ?_
          refine c_VI dX7_parseStatement_51 (mm_isWord (x := .inr s) (i := 4) hn (by decide) h) lk_X7_217 rfl (isO_MO _ _ _) rfl (ltS (by assumption)) ?_
          refine wa_if_eq 64 dX7_parseStatement_54 rfl (fun c54 => ?_) (fun c54 => ?_)
          · refine wa_aload_n dX7_parseStatement_64 rfl ?_
            refine wa_ldcS (j := 24) dX7_parseStatement_65 rfl ?_
            refine c_VI dX7_parseStatement_67 (mm_isWord (x := .inr s) (i := 5) hn (by decide) h) lk_X7_217 rfl (isO_MO _ _ _) rfl (ltS (by assumption)) ?_
            refine wa_if_eq 80 dX7_parseStatement_70 rfl (fun c70 => ?_) (fun c70 => ?_)
            · refine wa_aload_n dX7_parseStatement_80 rfl ?_
              refine wa_ldcS (j := 25) dX7_parseStatement_81 rfl ?_
              refine c_VI dX7_parseStatement_83 (mm_isWord (x := .inr s) (i := 6) hn (by decide) h) lk_X7_217 rfl (isO_MO _ _ _) rfl (ltS (by assumption)) ?_
              refine wa_if_eq 96 dX7_parseStatement_86 rfl (fun c86 => ?_) (fun c86 => ?_)
              · refine wa_aload_n dX7_parseStatement_96 rfl ?_
                refine wa_ldcS (j := 31) dX7_parseStatement_97 rfl ?_
                refine c_VI dX7_parseStatement_99 (mm_isWord (x := .inr s) (i := 12) hn (by decide) h) lk_X7_217 rfl (isO_MO _ _ _) rfl (ltS (by assumption)) ?_
                refine wa_if_eq 112 dX7_parseStatement_102 rfl (fun c102 => ?_) (fun c102 => ?_)
                · refine wa_aload_n dX7_parseStatement_112 rfl ?_
                  refine wa_ldcS (j := 32) dX7_parseStatement_113 rfl ?_
                  refine c_VI dX7_parseStatement_115 (mm_isWord (x := .inr s) (i := 13) hn (by decide) h) lk_X7_217 rfl (isO_MO _ _ _) rfl (ltS (by assumption)) ?_
                  refine wa_if_eq 128 dX7_parseStatement_118 rfl (fun c118 => ?_) (fun c118 => ?_)
                  · refine wa_aload_n dX7_parseStatement_128 rfl ?_
                    refine wa_iconst (x := 1) dX7_parseStatement_129 (by decide) ?_
                    refine c_VV dX7_parseStatement_130 (mm_errs_g hn h.g0 (nI 1)) lk_X7_208 rfl (isO_MO _ _ _) rfl (ltS (by assumption)) ?_
                    have h9 := h.er (c := 1) (by decide) (by decide)
                    first
                    | exact wa_return dX7_parseStatement_133 ⟨Nat.le_refl _, Nat.le_refl _, rfl, rfl, rfl, _, rfl, (by show HS b N S0 _ (pStmt b N s); unfold pStmt; rw [if_pos (show wd b N (kw 0) s.1 = true from b2i_t c6)]; exact h9)⟩
                    | exact wa_return dX7_parseStatement_133 ⟨Nat.le_refl _, Nat.le_refl _, rfl, rfl, rfl, _, rfl, (by show HS b N S0 _ (pStmt b N s); unfold pStmt; rw [if_neg (show ¬ wd b N (kw 0) s.1 = true from b2i_f c6), if_pos (show wd b N (kw 1) s.1 = true from b2i_t c22)]; exact h9)⟩
                    | exact wa_return dX7_parseStatement_133 ⟨Nat.le_refl _, Nat.le_refl _, rfl, rfl, rfl, _, rfl, (by show HS b N S0 _ (pStmt b N s); unfold pStmt; rw [if_neg (show ¬ wd b N (kw 0) s.1 = true from b2i_f c6), if_neg (show ¬ wd b N (kw 1) s.1 = true from b2i_f c22), if_pos (show wd b N (kw 3) s.1 = true from b2i_t c38)]; exact h9)⟩
                    | exact wa_return dX7_parseStatement_133 ⟨Nat.le_refl _, Nat.le_refl _, rfl, rfl, rfl, _, rfl, (by show HS b N S0 _ (pStmt b N s); unfold pStmt; rw [if_neg (show ¬ wd b N (kw 0) s.1 = true from b2i_f c6), if_neg (show ¬ wd b N (kw 1) s.1 = true from b2i_f c22), if_neg (show ¬ wd b N (kw 3) s.1 = true from b2i_f c38), if_pos (show wd b N (kw 4) s.1 = true from b2i_t c54)]; exact h9)⟩
                    | exact wa_return dX7_parseStatement_133 ⟨Nat.le_refl _, Nat.le_refl _, rfl, rfl, rfl, _, rfl, (by show HS b N S0 _ (pStmt b N s); unfold pStmt; rw [if_neg (show ¬ wd b N (kw 0) s.1 = true from b2i_f c6), if_neg (show ¬ wd b N (kw 1) s.1 = true from b2i_f c22), if_neg (show ¬ wd b N (kw 3) s.1 = true from b2i_f c38), if_neg (show ¬ wd b N (kw 4) s.1 = true from b2i_f c54), if_pos (show wd b N (kw 5) s.1 = true from b2i_t c70)]; exact h9)⟩
                    | exact wa_return dX7_parseStatement_133 ⟨Nat.le_refl _, Nat.le_refl _, rfl, rfl, rfl, _, rfl, (by show HS b N S0 _ (pStmt b N s); unfold pStmt; rw [if_neg (show ¬ wd b N (kw 0) s.1 = true from b2i_f c6), if_neg (show ¬ wd b N (kw 1) s.1 = true from b2i_f c22), if_neg (show ¬ wd b N (kw 3) s.1 = true from b2i_f c38), if_neg (show ¬ wd b N (kw 4) s.1 = true from b2i_f c54), if_neg (show ¬ wd b N (kw 5) s.1 = true from b2i_f c70), if_pos (show wd b N (kw 6) s.1 = true from b2i_t c86)]; exact h9)⟩
                    | exact wa_return dX7_parseStatement_133 ⟨Nat.le_refl _, Nat.le_refl _, rfl, rfl, rfl, _, rfl, (by show HS b N S0 _ (pStmt b N s); unfold pStmt; rw [if_neg (show ¬ wd b N (kw 0) s.1 = true from b2i_f c6), if_neg (show ¬ wd b N (kw 1) s.1 = true from b2i_f c22), if_neg (show ¬ wd b N (kw 3) s.1 = true from b2i_f c38), if_neg (show ¬ wd b N (kw 4) s.1 = true from b2i_f c54), if_neg (show ¬ wd b N (kw 5) s.1 = true from b2i_f c70), if_neg (show ¬ wd b N (kw 6) s.1 = true from b2i_f c86), if_pos (show wd b N (kw 12) s.1 = true from b2i_t c102)]; exact h9)⟩
                    | exact wa_return dX7_parseStatement_133 ⟨Nat.le_refl _, Nat.le_refl _, rfl, rfl, rfl, _, rfl, (by show HS b N S0 _ (pStmt b N s); unfold pStmt; rw [if_neg (show ¬ wd b N (kw 0) s.1 = true from b2i_f c6), if_neg (show ¬ wd b N (kw 1) s.1 = true from b2i_f c22), if_neg (show ¬ wd b N (kw 3) s.1 = true from b2i_f c38), if_neg (show ¬ wd b N (kw 4) s.1 = true from b2i_f c54), if_neg (show ¬ wd b N (kw 5) s.1 = true from b2i_f c70), if_neg (show ¬ wd b N (kw 6) s.1 = true from b2i_f c86), if_neg (show ¬ wd b N (kw 12) s.1 = true from b2i_f c102), if_pos (show wd b N (kw 13) s.1 = true from b2i_t c118)]; exact h9)⟩
                    | exact wa_return dX7_parseStatement_133 ⟨Nat.le_refl _, Nat.le_refl _, rfl, rfl, rfl, _, rfl, (by show HS b N S0 _ (pStmt b N s); unfold pStmt; rw [if_neg (show ¬ wd b N (kw 0) s.1 = true from b2i_f c6), if_neg (show ¬ wd b N (kw 1) s.1 = true from b2i_f c22), if_neg (show ¬ wd b N (kw 3) s.1 = true from b2i_f c38), if_neg (show ¬ wd b N (kw 4) s.1 = true from b2i_f c54), if_neg (show ¬ wd b N (kw 5) s.1 = true from b2i_f c70), if_neg (show ¬ wd b N (kw 6) s.1 = true from b2i_f c86), if_neg (show ¬ wd b N (kw 12) s.1 = true from b2i_f c102), if_neg (show ¬ wd b N (kw 13) s.1 = true from b2i_f c118)]; exact h9)⟩
                  · refine wa_aload_n dX7_parseStatement_121 rfl ?_
                    refine c_VQV dX7_parseStatement_122 (mm_parsePlan (x := .inr s) hn h) lk_X7_334 rfl (isO_MO _ _ _) rfl (ltS (by assumption)) (fun S9 h9 => ?_)
                    refine wa_goto 133 dX7_parseStatement_125 rfl ?_
                    first
                    | exact wa_return dX7_parseStatement_133 ⟨Nat.le_refl _, Nat.le_refl _, rfl, rfl, rfl, _, rfl, (by show HS b N S0 _ (pStmt b N s); unfold pStmt; rw [if_pos (show wd b N (kw 0) s.1 = true from b2i_t c6)]; exact h9)⟩
                    | exact wa_return dX7_parseStatement_133 ⟨Nat.le_refl _, Nat.le_refl _, rfl, rfl, rfl, _, rfl, (by show HS b N S0 _ (pStmt b N s); unfold pStmt; rw [if_neg (show ¬ wd b N (kw 0) s.1 = true from b2i_f c6), if_pos (show wd b N (kw 1) s.1 = true from b2i_t c22)]; exact h9)⟩
                    | exact wa_return dX7_parseStatement_133 ⟨Nat.le_refl _, Nat.le_refl _, rfl, rfl, rfl, _, rfl, (by show HS b N S0 _ (pStmt b N s); unfold pStmt; rw [if_neg (show ¬ wd b N (kw 0) s.1 = true from b2i_f c6), if_neg (show ¬ wd b N (kw 1) s.1 = true from b2i_f c22), if_pos (show wd b N (kw 3) s.1 = true from b2i_t c38)]; exact h9)⟩
                    | exact wa_return dX7_parseStatement_133 ⟨Nat.le_refl _, Nat.le_refl _, rfl, rfl, rfl, _, rfl, (by show HS b N S0 _ (pStmt b N s); unfold pStmt; rw [if_neg (show ¬ wd b N (kw 0) s.1 = true from b2i_f c6), if_neg (show ¬ wd b N (kw 1) s.1 = true from b2i_f c22), if_neg (show ¬ wd b N (kw 3) s.1 = true from b2i_f c38), if_pos (show wd b N (kw 4) s.1 = true from b2i_t c54)]; exact h9)⟩
                    | exact wa_return dX7_parseStatement_133 ⟨Nat.le_refl _, Nat.le_refl _, rfl, rfl, rfl, _, rfl, (by show HS b N S0 _ (pStmt b N s); unfold pStmt; rw [if_neg (show ¬ wd b N (kw 0) s.1 = true from b2i_f c6), if_neg (show ¬ wd b N (kw 1) s.1 = true from b2i_f c22), if_neg (show ¬ wd b N (kw 3) s.1 = true from b2i_f c38), if_neg (show ¬ wd b N (kw 4) s.1 = true from b2i_f c54), if_pos (show wd b N (kw 5) s.1 = true from b2i_t c70)]; exact h9)⟩
                    | exact wa_return dX7_parseStatement_133 ⟨Nat.le_refl _, Nat.le_refl _, rfl, rfl, rfl, _, rfl, (by show HS b N S0 _ (pStmt b N s); unfold pStmt; rw [if_neg (show ¬ wd b N (kw 0) s.1 = true from b2i_f c6), if_neg (show ¬ wd b N (kw 1) s.1 = true from b2i_f c22), if_neg (show ¬ wd b N (kw 3) s.1 = true from b2i_f c38), if_neg (show ¬ wd b N (kw 4) s.1 = true from b2i_f c54), if_neg (show ¬ wd b N (kw 5) s.1 = true from b2i_f c70), if_pos (show wd b N (kw 6) s.1 = true from b2i_t c86)]; exact h9)⟩
                    | exact wa_return dX7_parseStatement_133 ⟨Nat.le_refl _, Nat.le_refl _, rfl, rfl, rfl, _, rfl, (by show HS b N S0 _ (pStmt b N s); unfold pStmt; rw [if_neg (show ¬ wd b N (kw 0) s.1 = true from b2i_f c6), if_neg (show ¬ wd b N (kw 1) s.1 = true from b2i_f c22), if_neg (show ¬ wd b N (kw 3) s.1 = true from b2i_f c38), if_neg (show ¬ wd b N (kw 4) s.1 = true from b2i_f c54), if_neg (show ¬ wd b N (kw 5) s.1 = true from b2i_f c70), if_neg (show ¬ wd b N (kw 6) s.1 = true from b2i_f c86), if_pos (show wd b N (kw 12) s.1 = true from b2i_t c102)]; exact h9)⟩
                    | exact wa_return dX7_parseStatement_133 ⟨Nat.le_refl _, Nat.le_refl _, rfl, rfl, rfl, _, rfl, (by show HS b N S0 _ (pStmt b N s); unfold pStmt; rw [if_neg (show ¬ wd b N (kw 0) s.1 = true from b2i_f c6), if_neg (show ¬ wd b N (kw 1) s.1 = true from b2i_f c22), if_neg (show ¬ wd b N (kw 3) s.1 = true from b2i_f c38), if_neg (show ¬ wd b N (kw 4) s.1 = true from b2i_f c54), if_neg (show ¬ wd b N (kw 5) s.1 = true from b2i_f c70), if_neg (show ¬ wd b N (kw 6) s.1 = true from b2i_f c86), if_neg (show ¬ wd b N (kw 12) s.1 = true from b2i_f c102), if_pos (show wd b N (kw 13) s.1 = true from b2i_t c118)]; exact h9)⟩
                    | exact wa_return dX7_parseStatement_133 ⟨Nat.le_refl _, Nat.le_refl _, rfl, rfl, rfl, _, rfl, (by show HS b N S0 _ (pStmt b N s); unfold pStmt; rw [if_neg (show ¬ wd b N (kw 0) s.1 = true from b2i_f c6), if_neg (show ¬ wd b N (kw 1) s.1 = true from b2i_f c22), if_neg (show ¬ wd b N (kw 3) s.1 = true from b2i_f c38), if_neg (show ¬ wd b N (kw 4) s.1 = true from b2i_f c54), if_neg (show ¬ wd b N (kw 5) s.1 = true from b2i_f c70), if_neg (show ¬ wd b N (kw 6) s.1 = true from b2i_f c86), if_neg (show ¬ wd b N (kw 12) s.1 = true from b2i_f c102), if_neg (show ¬ wd b N (kw 13) s.1 = true from b2i_f c118)]; exact h9)⟩
                · refine wa_aload_n dX7_parseStatement_105 rfl ?_
                  refine c_VQV dX7_parseStatement_106 (mm_parseProgram (x := .inr s) hn h) lk_X7_331 rfl (isO_MO _ _ _) rfl (ltS (by assumption)) (fun S9 h9 => ?_)
                  refine wa_goto 133 dX7_parseStatement_109 rfl ?_
                  first
                  | exact wa_return dX7_parseStatement_133 ⟨Nat.le_refl _, Nat.le_refl _, rfl, rfl, rfl, _, rfl, (by show HS b N S0 _ (pStmt b N s); unfold pStmt; rw [if_pos (show wd b N (kw 0) s.1 = true from b2i_t c6)]; exact h9)⟩
                  | exact wa_return dX7_parseStatement_133 ⟨Nat.le_refl _, Nat.le_refl _, rfl, rfl, rfl, _, rfl, (by show HS b N S0 _ (pStmt b N s); unfold pStmt; rw [if_neg (show ¬ wd b N (kw 0) s.1 = true from b2i_f c6), if_pos (show wd b N (kw 1) s.1 = true from b2i_t c22)]; exact h9)⟩
                  | exact wa_return dX7_parseStatement_133 ⟨Nat.le_refl _, Nat.le_refl _, rfl, rfl, rfl, _, rfl, (by show HS b N S0 _ (pStmt b N s); unfold pStmt; rw [if_neg (show ¬ wd b N (kw 0) s.1 = true from b2i_f c6), if_neg (show ¬ wd b N (kw 1) s.1 = true from b2i_f c22), if_pos (show wd b N (kw 3) s.1 = true from b2i_t c38)]; exact h9)⟩
                  | exact wa_return dX7_parseStatement_133 ⟨Nat.le_refl _, Nat.le_refl _, rfl, rfl, rfl, _, rfl, (by show HS b N S0 _ (pStmt b N s); unfold pStmt; rw [if_neg (show ¬ wd b N (kw 0) s.1 = true from b2i_f c6), if_neg (show ¬ wd b N (kw 1) s.1 = true from b2i_f c22), if_neg (show ¬ wd b N (kw 3) s.1 = true from b2i_f c38), if_pos (show wd b N (kw 4) s.1 = true from b2i_t c54)]; exact h9)⟩
                  | exact wa_return dX7_parseStatement_133 ⟨Nat.le_refl _, Nat.le_refl _, rfl, rfl, rfl, _, rfl, (by show HS b N S0 _ (pStmt b N s); unfold pStmt; rw [if_neg (show ¬ wd b N (kw 0) s.1 = true from b2i_f c6), if_neg (show ¬ wd b N (kw 1) s.1 = true from b2i_f c22), if_neg (show ¬ wd b N (kw 3) s.1 = true from b2i_f c38), if_neg (show ¬ wd b N (kw 4) s.1 = true from b2i_f c54), if_pos (show wd b N (kw 5) s.1 = true from b2i_t c70)]; exact h9)⟩
                  | exact wa_return dX7_parseStatement_133 ⟨Nat.le_refl _, Nat.le_refl _, rfl, rfl, rfl, _, rfl, (by show HS b N S0 _ (pStmt b N s); unfold pStmt; rw [if_neg (show ¬ wd b N (kw 0) s.1 = true from b2i_f c6), if_neg (show ¬ wd b N (kw 1) s.1 = true from b2i_f c22), if_neg (show ¬ wd b N (kw 3) s.1 = true from b2i_f c38), if_neg (show ¬ wd b N (kw 4) s.1 = true from b2i_f c54), if_neg (show ¬ wd b N (kw 5) s.1 = true from b2i_f c70), if_pos (show wd b N (kw 6) s.1 = true from b2i_t c86)]; exact h9)⟩
                  | exact wa_return dX7_parseStatement_133 ⟨Nat.le_refl _, Nat.le_refl _, rfl, rfl, rfl, _, rfl, (by show HS b N S0 _ (pStmt b N s); unfold pStmt; rw [if_neg (show ¬ wd b N (kw 0) s.1 = true from b2i_f c6), if_neg (show ¬ wd b N (kw 1) s.1 = true from b2i_f c22), if_neg (show ¬ wd b N (kw 3) s.1 = true from b2i_f c38), if_neg (show ¬ wd b N (kw 4) s.1 = true from b2i_f c54), if_neg (show ¬ wd b N (kw 5) s.1 = true from b2i_f c70), if_neg (show ¬ wd b N (kw 6) s.1 = true from b2i_f c86), if_pos (show wd b N (kw 12) s.1 = true from b2i_t c102)]; exact h9)⟩
                  | exact wa_return dX7_parseStatement_133 ⟨Nat.le_refl _, Nat.le_refl _, rfl, rfl, rfl, _, rfl, (by show HS b N S0 _ (pStmt b N s); unfold pStmt; rw [if_neg (show ¬ wd b N (kw 0) s.1 = true from b2i_f c6), if_neg (show ¬ wd b N (kw 1) s.1 = true from b2i_f c22), if_neg (show ¬ wd b N (kw 3) s.1 = true from b2i_f c38), if_neg (show ¬ wd b N (kw 4) s.1 = true from b2i_f c54), if_neg (show ¬ wd b N (kw 5) s.1 = true from b2i_f c70), if_neg (show ¬ wd b N (kw 6) s.1 = true from b2i_f c86), if_neg (show ¬ wd b N (kw 12) s.1 = true from b2i_f c102), if_pos (show wd b N (kw 13) s.1 = true from b2i_t c118)]; exact h9)⟩
                  | exact wa_return dX7_parseStatement_133 ⟨Nat.le_refl _, Nat.le_refl _, rfl, rfl, rfl, _, rfl, (by show HS b N S0 _ (pStmt b N s); unfold pStmt; rw [if_neg (show ¬ wd b N (kw 0) s.1 = true from b2i_f c6), if_neg (show ¬ wd b N (kw 1) s.1 = true from b2i_f c22), if_neg (show ¬ wd b N (kw 3) s.1 = true from b2i_f c38), if_neg (show ¬ wd b N (kw 4) s.1 = true from b2i_f c54), if_neg (show ¬ wd b N (kw 5) s.1 = true from b2i_f c70), if_neg (show ¬ wd b N (kw 6) s.1 = true from b2i_f c86), if_neg (show ¬ wd b N (kw 12) s.1 = true from b2i_f c102), if_neg (show ¬ wd b N (kw 13) s.1 = true from b2i_f c118)]; exact h9)⟩
              · refine wa_aload_n dX7_parseStatement_89 rfl ?_
                refine c_VQV dX7_parseStatement_90 (mm_parseRoom (x := .inr s) hn h) lk_X7_328 rfl (isO_MO _ _ _) rfl (ltS (by assumption)) (fun S9 h9 => ?_)
                refine wa_goto 133 dX7_parseStatement_93 rfl ?_
                first
                | exact wa_return dX7_parseStatement_133 ⟨Nat.le_refl _, Nat.le_refl _, rfl, rfl, rfl, _, rfl, (by show HS b N S0 _ (pStmt b N s); unfold pStmt; rw [if_pos (show wd b N (kw 0) s.1 = true from b2i_t c6)]; exact h9)⟩
                | exact wa_return dX7_parseStatement_133 ⟨Nat.le_refl _, Nat.le_refl _, rfl, rfl, rfl, _, rfl, (by show HS b N S0 _ (pStmt b N s); unfold pStmt; rw [if_neg (show ¬ wd b N (kw 0) s.1 = true from b2i_f c6), if_pos (show wd b N (kw 1) s.1 = true from b2i_t c22)]; exact h9)⟩
                | exact wa_return dX7_parseStatement_133 ⟨Nat.le_refl _, Nat.le_refl _, rfl, rfl, rfl, _, rfl, (by show HS b N S0 _ (pStmt b N s); unfold pStmt; rw [if_neg (show ¬ wd b N (kw 0) s.1 = true from b2i_f c6), if_neg (show ¬ wd b N (kw 1) s.1 = true from b2i_f c22), if_pos (show wd b N (kw 3) s.1 = true from b2i_t c38)]; exact h9)⟩
                | exact wa_return dX7_parseStatement_133 ⟨Nat.le_refl _, Nat.le_refl _, rfl, rfl, rfl, _, rfl, (by show HS b N S0 _ (pStmt b N s); unfold pStmt; rw [if_neg (show ¬ wd b N (kw 0) s.1 = true from b2i_f c6), if_neg (show ¬ wd b N (kw 1) s.1 = true from b2i_f c22), if_neg (show ¬ wd b N (kw 3) s.1 = true from b2i_f c38), if_pos (show wd b N (kw 4) s.1 = true from b2i_t c54)]; exact h9)⟩
                | exact wa_return dX7_parseStatement_133 ⟨Nat.le_refl _, Nat.le_refl _, rfl, rfl, rfl, _, rfl, (by show HS b N S0 _ (pStmt b N s); unfold pStmt; rw [if_neg (show ¬ wd b N (kw 0) s.1 = true from b2i_f c6), if_neg (show ¬ wd b N (kw 1) s.1 = true from b2i_f c22), if_neg (show ¬ wd b N (kw 3) s.1 = true from b2i_f c38), if_neg (show ¬ wd b N (kw 4) s.1 = true from b2i_f c54), if_pos (show wd b N (kw 5) s.1 = true from b2i_t c70)]; exact h9)⟩
                | exact wa_return dX7_parseStatement_133 ⟨Nat.le_refl _, Nat.le_refl _, rfl, rfl, rfl, _, rfl, (by show HS b N S0 _ (pStmt b N s); unfold pStmt; rw [if_neg (show ¬ wd b N (kw 0) s.1 = true from b2i_f c6), if_neg (show ¬ wd b N (kw 1) s.1 = true from b2i_f c22), if_neg (show ¬ wd b N (kw 3) s.1 = true from b2i_f c38), if_neg (show ¬ wd b N (kw 4) s.1 = true from b2i_f c54), if_neg (show ¬ wd b N (kw 5) s.1 = true from b2i_f c70), if_pos (show wd b N (kw 6) s.1 = true from b2i_t c86)]; exact h9)⟩
                | exact wa_return dX7_parseStatement_133 ⟨Nat.le_refl _, Nat.le_refl _, rfl, rfl, rfl, _, rfl, (by show HS b N S0 _ (pStmt b N s); unfold pStmt; rw [if_neg (show ¬ wd b N (kw 0) s.1 = true from b2i_f c6), if_neg (show ¬ wd b N (kw 1) s.1 = true from b2i_f c22), if_neg (show ¬ wd b N (kw 3) s.1 = true from b2i_f c38), if_neg (show ¬ wd b N (kw 4) s.1 = true from b2i_f c54), if_neg (show ¬ wd b N (kw 5) s.1 = true from b2i_f c70), if_neg (show ¬ wd b N (kw 6) s.1 = true from b2i_f c86), if_pos (show wd b N (kw 12) s.1 = true from b2i_t c102)]; exact h9)⟩
                | exact wa_return dX7_parseStatement_133 ⟨Nat.le_refl _, Nat.le_refl _, rfl, rfl, rfl, _, rfl, (by show HS b N S0 _ (pStmt b N s); unfold pStmt; rw [if_neg (show ¬ wd b N (kw 0) s.1 = true from b2i_f c6), if_neg (show ¬ wd b N (kw 1) s.1 = true from b2i_f c22), if_neg (show ¬ wd b N (kw 3) s.1 = true from b2i_f c38), if_neg (show ¬ wd b N (kw 4) s.1 = true from b2i_f c54), if_neg (show ¬ wd b N (kw 5) s.1 = true from b2i_f c70), if_neg (show ¬ wd b N (kw 6) s.1 = true from b2i_f c86), if_neg (show ¬ wd b N (kw 12) s.1 = true from b2i_f c102), if_pos (show wd b N (kw 13) s.1 = true from b2i_t c118)]; exact h9)⟩
                | exact wa_return dX7_parseStatement_133 ⟨Nat.le_refl _, Nat.le_refl _, rfl, rfl, rfl, _, rfl, (by show HS b N S0 _ (pStmt b N s); unfold pStmt; rw [if_neg (show ¬ wd b N (kw 0) s.1 = true from b2i_f c6), if_neg (show ¬ wd b N (kw 1) s.1 = true from b2i_f c22), if_neg (show ¬ wd b N (kw 3) s.1 = true from b2i_f c38), if_neg (show ¬ wd b N (kw 4) s.1 = true from b2i_f c54), if_neg (show ¬ wd b N (kw 5) s.1 = true from b2i_f c70), if_neg (show ¬ wd b N (kw 6) s.1 = true from b2i_f c86), if_neg (show ¬ wd b N (kw 12) s.1 = true from b2i_f c102), if_neg (show ¬ wd b N (kw 13) s.1 = true from b2i_f c118)]; exact h9)⟩
            · refine wa_aload_n dX7_parseStatement_73 rfl ?_
              refine c_VQV dX7_parseStatement_74 (mm_parseExercise (x := .inr s) hn h) lk_X7_325 rfl (isO_MO _ _ _) rfl (ltS (by assumption)) (fun S9 h9 => ?_)
              refine wa_goto 133 dX7_parseStatement_77 rfl ?_
              first
              | exact wa_return dX7_parseStatement_133 ⟨Nat.le_refl _, Nat.le_refl _, rfl, rfl, rfl, _, rfl, (by show HS b N S0 _ (pStmt b N s); unfold pStmt; rw [if_pos (show wd b N (kw 0) s.1 = true from b2i_t c6)]; exact h9)⟩
              | exact wa_return dX7_parseStatement_133 ⟨Nat.le_refl _, Nat.le_refl _, rfl, rfl, rfl, _, rfl, (by show HS b N S0 _ (pStmt b N s); unfold pStmt; rw [if_neg (show ¬ wd b N (kw 0) s.1 = true from b2i_f c6), if_pos (show wd b N (kw 1) s.1 = true from b2i_t c22)]; exact h9)⟩
              | exact wa_return dX7_parseStatement_133 ⟨Nat.le_refl _, Nat.le_refl _, rfl, rfl, rfl, _, rfl, (by show HS b N S0 _ (pStmt b N s); unfold pStmt; rw [if_neg (show ¬ wd b N (kw 0) s.1 = true from b2i_f c6), if_neg (show ¬ wd b N (kw 1) s.1 = true from b2i_f c22), if_pos (show wd b N (kw 3) s.1 = true from b2i_t c38)]; exact h9)⟩
              | exact wa_return dX7_parseStatement_133 ⟨Nat.le_refl _, Nat.le_refl _, rfl, rfl, rfl, _, rfl, (by show HS b N S0 _ (pStmt b N s); unfold pStmt; rw [if_neg (show ¬ wd b N (kw 0) s.1 = true from b2i_f c6), if_neg (show ¬ wd b N (kw 1) s.1 = true from b2i_f c22), if_neg (show ¬ wd b N (kw 3) s.1 = true from b2i_f c38), if_pos (show wd b N (kw 4) s.1 = true from b2i_t c54)]; exact h9)⟩
              | exact wa_return dX7_parseStatement_133 ⟨Nat.le_refl _, Nat.le_refl _, rfl, rfl, rfl, _, rfl, (by show HS b N S0 _ (pStmt b N s); unfold pStmt; rw [if_neg (show ¬ wd b N (kw 0) s.1 = true from b2i_f c6), if_neg (show ¬ wd b N (kw 1) s.1 = true from b2i_f c22), if_neg (show ¬ wd b N (kw 3) s.1 = true from b2i_f c38), if_neg (show ¬ wd b N (kw 4) s.1 = true from b2i_f c54), if_pos (show wd b N (kw 5) s.1 = true from b2i_t c70)]; exact h9)⟩
              | exact wa_return dX7_parseStatement_133 ⟨Nat.le_refl _, Nat.le_refl _, rfl, rfl, rfl, _, rfl, (by show HS b N S0 _ (pStmt b N s); unfold pStmt; rw [if_neg (show ¬ wd b N (kw 0) s.1 = true from b2i_f c6), if_neg (show ¬ wd b N (kw 1) s.1 = true from b2i_f c22), if_neg (show ¬ wd b N (kw 3) s.1 = true from b2i_f c38), if_neg (show ¬ wd b N (kw 4) s.1 = true from b2i_f c54), if_neg (show ¬ wd b N (kw 5) s.1 = true from b2i_f c70), if_pos (show wd b N (kw 6) s.1 = true from b2i_t c86)]; exact h9)⟩
              | exact wa_return dX7_parseStatement_133 ⟨Nat.le_refl _, Nat.le_refl _, rfl, rfl, rfl, _, rfl, (by show HS b N S0 _ (pStmt b N s); unfold pStmt; rw [if_neg (show ¬ wd b N (kw 0) s.1 = true from b2i_f c6), if_neg (show ¬ wd b N (kw 1) s.1 = true from b2i_f c22), if_neg (show ¬ wd b N (kw 3) s.1 = true from b2i_f c38), if_neg (show ¬ wd b N (kw 4) s.1 = true from b2i_f c54), if_neg (show ¬ wd b N (kw 5) s.1 = true from b2i_f c70), if_neg (show ¬ wd b N (kw 6) s.1 = true from b2i_f c86), if_pos (show wd b N (kw 12) s.1 = true from b2i_t c102)]; exact h9)⟩
              | exact wa_return dX7_parseStatement_133 ⟨Nat.le_refl _, Nat.le_refl _, rfl, rfl, rfl, _, rfl, (by show HS b N S0 _ (pStmt b N s); unfold pStmt; rw [if_neg (show ¬ wd b N (kw 0) s.1 = true from b2i_f c6), if_neg (show ¬ wd b N (kw 1) s.1 = true from b2i_f c22), if_neg (show ¬ wd b N (kw 3) s.1 = true from b2i_f c38), if_neg (show ¬ wd b N (kw 4) s.1 = true from b2i_f c54), if_neg (show ¬ wd b N (kw 5) s.1 = true from b2i_f c70), if_neg (show ¬ wd b N (kw 6) s.1 = true from b2i_f c86), if_neg (show ¬ wd b N (kw 12) s.1 = true from b2i_f c102), if_pos (show wd b N (kw 13) s.1 = true from b2i_t c118)]; exact h9)⟩
              | exact wa_return dX7_parseStatement_133 ⟨Nat.le_refl _, Nat.le_refl _, rfl, rfl, rfl, _, rfl, (by show HS b N S0 _ (pStmt b N s); unfold pStmt; rw [if_neg (show ¬ wd b N (kw 0) s.1 = true from b2i_f c6), if_neg (show ¬ wd b N (kw 1) s.1 = true from b2i_f c22), if_neg (show ¬ wd b N (kw 3) s.1 = true from b2i_f c38), if_neg (show ¬ wd b N (kw 4) s.1 = true from b2i_f c54), if_neg (show ¬ wd b N (kw 5) s.1 = true from b2i_f c70), if_neg (show ¬ wd b N (kw 6) s.1 = true from b2i_f c86), if_neg (show ¬ wd b N (kw 12) s.1 = true from b2i_f c102), if_neg (show ¬ wd b N (kw 13) s.1 = true from b2i_f c118)]; exact h9)⟩
          · refine wa_aload_n dX7_parseStatement_57 rfl ?_
            refine c_VQV dX7_parseStatement_58 (mm_parseControl (x := .inr s) hn h) lk_X7_322 rfl (isO_MO _ _ _) rfl (ltS (by assumption)) (fun S9 h9 => ?_)
            refine wa_goto 133 dX7_parseStatement_61 rfl ?_
            first
            | exact wa_return dX7_parseStatement_133 ⟨Nat.le_refl _, Nat.le_refl _, rfl, rfl, rfl, _, rfl, (by show HS b N S0 _ (pStmt b N s); unfold pStmt; rw [if_pos (show wd b N (kw 0) s.1 = true from b2i_t c6)]; exact h9)⟩
            | exact wa_return dX7_parseStatement_133 ⟨Nat.le_refl _, Nat.le_refl _, rfl, rfl, rfl, _, rfl, (by show HS b N S0 _ (pStmt b N s); unfold pStmt; rw [if_neg (show ¬ wd b N (kw 0) s.1 = true from b2i_f c6), if_pos (show wd b N (kw 1) s.1 = true from b2i_t c22)]; exact h9)⟩
            | exact wa_return dX7_parseStatement_133 ⟨Nat.le_refl _, Nat.le_refl _, rfl, rfl, rfl, _, rfl, (by show HS b N S0 _ (pStmt b N s); unfold pStmt; rw [if_neg (show ¬ wd b N (kw 0) s.1 = true from b2i_f c6), if_neg (show ¬ wd b N (kw 1) s.1 = true from b2i_f c22), if_pos (show wd b N (kw 3) s.1 = true from b2i_t c38)]; exact h9)⟩
            | exact wa_return dX7_parseStatement_133 ⟨Nat.le_refl _, Nat.le_refl _, rfl, rfl, rfl, _, rfl, (by show HS b N S0 _ (pStmt b N s); unfold pStmt; rw [if_neg (show ¬ wd b N (kw 0) s.1 = true from b2i_f c6), if_neg (show ¬ wd b N (kw 1) s.1 = true from b2i_f c22), if_neg (show ¬ wd b N (kw 3) s.1 = true from b2i_f c38), if_pos (show wd b N (kw 4) s.1 = true from b2i_t c54)]; exact h9)⟩
            | exact wa_return dX7_parseStatement_133 ⟨Nat.le_refl _, Nat.le_refl _, rfl, rfl, rfl, _, rfl, (by show HS b N S0 _ (pStmt b N s); unfold pStmt; rw [if_neg (show ¬ wd b N (kw 0) s.1 = true from b2i_f c6), if_neg (show ¬ wd b N (kw 1) s.1 = true from b2i_f c22), if_neg (show ¬ wd b N (kw 3) s.1 = true from b2i_f c38), if_neg (show ¬ wd b N (kw 4) s.1 = true from b2i_f c54), if_pos (show wd b N (kw 5) s.1 = true from b2i_t c70)]; exact h9)⟩
            | exact wa_return dX7_parseStatement_133 ⟨Nat.le_refl _, Nat.le_refl _, rfl, rfl, rfl, _, rfl, (by show HS b N S0 _ (pStmt b N s); unfold pStmt; rw [if_neg (show ¬ wd b N (kw 0) s.1 = true from b2i_f c6), if_neg (show ¬ wd b N (kw 1) s.1 = true from b2i_f c22), if_neg (show ¬ wd b N (kw 3) s.1 = true from b2i_f c38), if_neg (show ¬ wd b N (kw 4) s.1 = true from b2i_f c54), if_neg (show ¬ wd b N (kw 5) s.1 = true from b2i_f c70), if_pos (show wd b N (kw 6) s.1 = true from b2i_t c86)]; exact h9)⟩
            | exact wa_return dX7_parseStatement_133 ⟨Nat.le_refl _, Nat.le_refl _, rfl, rfl, rfl, _, rfl, (by show HS b N S0 _ (pStmt b N s); unfold pStmt; rw [if_neg (show ¬ wd b N (kw 0) s.1 = true from b2i_f c6), if_neg (show ¬ wd b N (kw 1) s.1 = true from b2i_f c22), if_neg (show ¬ wd b N (kw 3) s.1 = true from b2i_f c38), if_neg (show ¬ wd b N (kw 4) s.1 = true from b2i_f c54), if_neg (show ¬ wd b N (kw 5) s.1 = true from b2i_f c70), if_neg (show ¬ wd b N (kw 6) s.1 = true from b2i_f c86), if_pos (show wd b N (kw 12) s.1 = true from b2i_t c102)]; exact h9)⟩
            | exact wa_return dX7_parseStatement_133 ⟨Nat.le_refl _, Nat.le_refl _, rfl, rfl, rfl, _, rfl, (by show HS b N S0 _ (pStmt b N s); unfold pStmt; rw [if_neg (show ¬ wd b N (kw 0) s.1 = true from b2i_f c6), if_neg (show ¬ wd b N (kw 1) s.1 = true from b2i_f c22), if_neg (show ¬ wd b N (kw 3) s.1 = true from b2i_f c38), if_neg (show ¬ wd b N (kw 4) s.1 = true from b2i_f c54), if_neg (show ¬ wd b N (kw 5) s.1 = true from b2i_f c70), if_neg (show ¬ wd b N (kw 6) s.1 = true from b2i_f c86), if_neg (show ¬ wd b N (kw 12) s.1 = true from b2i_f c102), if_pos (show wd b N (kw 13) s.1 = true from b2i_t c118)]; exact h9)⟩
            | exact wa_return dX7_parseStatement_133 ⟨Nat.le_refl _, Nat.le_refl _, rfl, rfl, rfl, _, rfl, (by show HS b N S0 _ (pStmt b N s); unfold pStmt; rw [if_neg (show ¬ wd b N (kw 0) s.1 = true from b2i_f c6), if_neg (show ¬ wd b N (kw 1) s.1 = true from b2i_f c22), if_neg (show ¬ wd b N (kw 3) s.1 = true from b2i_f c38), if_neg (show ¬ wd b N (kw 4) s.1 = true from b2i_f c54), if_neg (show ¬ wd b N (kw 5) s.1 = true from b2i_f c70), if_neg (show ¬ wd b N (kw 6) s.1 = true from b2i_f c86), if_neg (show ¬ wd b N (kw 12) s.1 = true from b2i_f c102), if_neg (show ¬ wd b N (kw 13) s.1 = true from b2i_f c118)]; exact h9)⟩
        · refine wa_aload_n dX7_parseStatement_41 rfl ?_
          refine c_VQV dX7_parseStatement_42 (mm_parseBack (x := .inr s) hn h) lk_X7_319 rfl (isO_MO _ _ _) rfl (ltS (by assumption)) (fun S9 h9 => ?_)
          refine wa_goto 133 dX7_parseStatement_45 rfl ?_
          first
          | exact wa_return dX7_parseStatement_133 ⟨Nat.le_refl _, Nat.le_refl _, rfl, rfl, rfl, _, rfl, (by show HS b N S0 _ (pStmt b N s); unfold pStmt; rw [if_pos (show wd b N (kw 0) s.1 = true from b2i_t c6)]; exact h9)⟩
          | exact wa_return dX7_parseStatement_133 ⟨Nat.le_refl _, Nat.le_refl _, rfl, rfl, rfl, _, rfl, (by show HS b N S0 _ (pStmt b N s); unfold pStmt; rw [if_neg (show ¬ wd b N (kw 0) s.1 = true from b2i_f c6), if_pos (show wd b N (kw 1) s.1 = true from b2i_t c22)]; exact h9)⟩
          | exact wa_return dX7_parseStatement_133 ⟨Nat.le_refl _, Nat.le_refl _, rfl, rfl, rfl, _, rfl, (by show HS b N S0 _ (pStmt b N s); unfold pStmt; rw [if_neg (show ¬ wd b N (kw 0) s.1 = true from b2i_f c6), if_neg (show ¬ wd b N (kw 1) s.1 = true from b2i_f c22), if_pos (show wd b N (kw 3) s.1 = true from b2i_t c38)]; exact h9)⟩
          | exact wa_return dX7_parseStatement_133 ⟨Nat.le_refl _, Nat.le_refl _, rfl, rfl, rfl, _, rfl, (by show HS b N S0 _ (pStmt b N s); unfold pStmt; rw [if_neg (show ¬ wd b N (kw 0) s.1 = true from b2i_f c6), if_neg (show ¬ wd b N (kw 1) s.1 = true from b2i_f c22), if_neg (show ¬ wd b N (kw 3) s.1 = true from b2i_f c38), if_pos (show wd b N (kw 4) s.1 = true from b2i_t c54)]; exact h9)⟩
          | exact wa_return dX7_parseStatement_133 ⟨Nat.le_refl _, Nat.le_refl _, rfl, rfl, rfl, _, rfl, (by show HS b N S0 _ (pStmt b N s); unfold pStmt; rw [if_neg (show ¬ wd b N (kw 0) s.1 = true from b2i_f c6), if_neg (show ¬ wd b N (kw 1) s.1 = true from b2i_f c22), if_neg (show ¬ wd b N (kw 3) s.1 = true from b2i_f c38), if_neg (show ¬ wd b N (kw 4) s.1 = true from b2i_f c54), if_pos (show wd b N (kw 5) s.1 = true from b2i_t c70)]; exact h9)⟩
          | exact wa_return dX7_parseStatement_133 ⟨Nat.le_refl _, Nat.le_refl _, rfl, rfl, rfl, _, rfl, (by show HS b N S0 _ (pStmt b N s); unfold pStmt; rw [if_neg (show ¬ wd b N (kw 0) s.1 = true from b2i_f c6), if_neg (show ¬ wd b N (kw 1) s.1 = true from b2i_f c22), if_neg (show ¬ wd b N (kw 3) s.1 = true from b2i_f c38), if_neg (show ¬ wd b N (kw 4) s.1 = true from b2i_f c54), if_neg (show ¬ wd b N (kw 5) s.1 = true from b2i_f c70), if_pos (show wd b N (kw 6) s.1 = true from b2i_t c86)]; exact h9)⟩
          | exact wa_return dX7_parseStatement_133 ⟨Nat.le_refl _, Nat.le_refl _, rfl, rfl, rfl, _, rfl, (by show HS b N S0 _ (pStmt b N s); unfold pStmt; rw [if_neg (show ¬ wd b N (kw 0) s.1 = true from b2i_f c6), if_neg (show ¬ wd b N (kw 1) s.1 = true from b2i_f c22), if_neg (show ¬ wd b N (kw 3) s.1 = true from b2i_f c38), if_neg (show ¬ wd b N (kw 4) s.1 = true from b2i_f c54), if_neg (show ¬ wd b N (kw 5) s.1 = true from b2i_f c70), if_neg (show ¬ wd b N (kw 6) s.1 = true from b2i_f c86), if_pos (show wd b N (kw 12) s.1 = true from b2i_t c102)]; exact h9)⟩
          | exact wa_return dX7_parseStatement_133 ⟨Nat.le_refl _, Nat.le_refl _, rfl, rfl, rfl, _, rfl, (by show HS b N S0 _ (pStmt b N s); unfold pStmt; rw [if_neg (show ¬ wd b N (kw 0) s.1 = true from b2i_f c6), if_neg (show ¬ wd b N (kw 1) s.1 = true from b2i_f c22), if_neg (show ¬ wd b N (kw 3) s.1 = true from b2i_f c38), if_neg (show ¬ wd b N (kw 4) s.1 = true from b2i_f c54), if_neg (show ¬ wd b N (kw 5) s.1 = true from b2i_f c70), if_neg (show ¬ wd b N (kw 6) s.1 = true from b2i_f c86), if_neg (show ¬ wd b N (kw 12) s.1 = true from b2i_f c102), if_pos (show wd b N (kw 13) s.1 = true from b2i_t c118)]; exact h9)⟩
          | exact wa_return dX7_parseStatement_133 ⟨Nat.le_refl _, Nat.le_refl _, rfl, rfl, rfl, _, rfl, (by show HS b N S0 _ (pStmt b N s); unfold pStmt; rw [if_neg (show ¬ wd b N (kw 0) s.1 = true from b2i_f c6), if_neg (show ¬ wd b N (kw 1) s.1 = true from b2i_f c22), if_neg (show ¬ wd b N (kw 3) s.1 = true from b2i_f c38), if_neg (show ¬ wd b N (kw 4) s.1 = true from b2i_f c54), if_neg (show ¬ wd b N (kw 5) s.1 = true from b2i_f c70), if_neg (show ¬ wd b N (kw 6) s.1 = true from b2i_f c86), if_neg (show ¬ wd b N (kw 12) s.1 = true from b2i_f c102), if_neg (show ¬ wd b N (kw 13) s.1 = true from b2i_f c118)]; exact h9)⟩
      · refine wa_aload_n dX7_parseStatement_25 rfl ?_
        refine c_VQV dX7_parseStatement_26 (mm_parseWindow (x := .inr s) hn h) lk_X7_316 rfl (isO_MO _ _ _) rfl (ltS (by assumption)) (fun S9 h9 => ?_)
        refine wa_goto 133 dX7_parseStatement_29 rfl ?_
        first
        | exact wa_return dX7_parseStatement_133 ⟨Nat.le_refl _, Nat.le_refl _, rfl, rfl, rfl, _, rfl, (by show HS b N S0 _ (pStmt b N s); unfold pStmt; rw [if_pos (show wd b N (kw 0) s.1 = true from b2i_t c6)]; exact h9)⟩
        | exact wa_return dX7_parseStatement_133 ⟨Nat.le_refl _, Nat.le_refl _, rfl, rfl, rfl, _, rfl, (by show HS b N S0 _ (pStmt b N s); unfold pStmt; rw [if_neg (show ¬ wd b N (kw 0) s.1 = true from b2i_f c6), if_pos (show wd b N (kw 1) s.1 = true from b2i_t c22)]; exact h9)⟩
        | exact wa_return dX7_parseStatement_133 ⟨Nat.le_refl _, Nat.le_refl _, rfl, rfl, rfl, _, rfl, (by show HS b N S0 _ (pStmt b N s); unfold pStmt; rw [if_neg (show ¬ wd b N (kw 0) s.1 = true from b2i_f c6), if_neg (show ¬ wd b N (kw 1) s.1 = true from b2i_f c22), if_pos (show wd b N (kw 3) s.1 = true from b2i_t c38)]; exact h9)⟩
        | exact wa_return dX7_parseStatement_133 ⟨Nat.le_refl _, Nat.le_refl _, rfl, rfl, rfl, _, rfl, (by show HS b N S0 _ (pStmt b N s); unfold pStmt; rw [if_neg (show ¬ wd b N (kw 0) s.1 = true from b2i_f c6), if_neg (show ¬ wd b N (kw 1) s.1 = true from b2i_f c22), if_neg (show ¬ wd b N (kw 3) s.1 = true from b2i_f c38), if_pos (show wd b N (kw 4) s.1 = true from b2i_t c54)]; exact h9)⟩
        | exact wa_return dX7_parseStatement_133 ⟨Nat.le_refl _, Nat.le_refl _, rfl, rfl, rfl, _, rfl, (by show HS b N S0 _ (pStmt b N s); unfold pStmt; rw [if_neg (show ¬ wd b N (kw 0) s.1 = true from b2i_f c6), if_neg (show ¬ wd b N (kw 1) s.1 = true from b2i_f c22), if_neg (show ¬ wd b N (kw 3) s.1 = true from b2i_f c38), if_neg (show ¬ wd b N (kw 4) s.1 = true from b2i_f c54), if_pos (show wd b N (kw 5) s.1 = true from b2i_t c70)]; exact h9)⟩
        | exact wa_return dX7_parseStatement_133 ⟨Nat.le_refl _, Nat.le_refl _, rfl, rfl, rfl, _, rfl, (by show HS b N S0 _ (pStmt b N s); unfold pStmt; rw [if_neg (show ¬ wd b N (kw 0) s.1 = true from b2i_f c6), if_neg (show ¬ wd b N (kw 1) s.1 = true from b2i_f c22), if_neg (show ¬ wd b N (kw 3) s.1 = true from b2i_f c38), if_neg (show ¬ wd b N (kw 4) s.1 = true from b2i_f c54), if_neg (show ¬ wd b N (kw 5) s.1 = true from b2i_f c70), if_pos (show wd b N (kw 6) s.1 = true from b2i_t c86)]; exact h9)⟩
        | exact wa_return dX7_parseStatement_133 ⟨Nat.le_refl _, Nat.le_refl _, rfl, rfl, rfl, _, rfl, (by show HS b N S0 _ (pStmt b N s); unfold pStmt; rw [if_neg (show ¬ wd b N (kw 0) s.1 = true from b2i_f c6), if_neg (show ¬ wd b N (kw 1) s.1 = true from b2i_f c22), if_neg (show ¬ wd b N (kw 3) s.1 = true from b2i_f c38), if_neg (show ¬ wd b N (kw 4) s.1 = true from b2i_f c54), if_neg (show ¬ wd b N (kw 5) s.1 = true from b2i_f c70), if_neg (show ¬ wd b N (kw 6) s.1 = true from b2i_f c86), if_pos (show wd b N (kw 12) s.1 = true from b2i_t c102)]; exact h9)⟩
        | exact wa_return dX7_parseStatement_133 ⟨Nat.le_refl _, Nat.le_refl _, rfl, rfl, rfl, _, rfl, (by show HS b N S0 _ (pStmt b N s); unfold pStmt; rw [if_neg (show ¬ wd b N (kw 0) s.1 = true from b2i_f c6), if_neg (show ¬ wd b N (kw 1) s.1 = true from b2i_f c22), if_neg (show ¬ wd b N (kw 3) s.1 = true from b2i_f c38), if_neg (show ¬ wd b N (kw 4) s.1 = true from b2i_f c54), if_neg (show ¬ wd b N (kw 5) s.1 = true from b2i_f c70), if_neg (show ¬ wd b N (kw 6) s.1 = true from b2i_f c86), if_neg (show ¬ wd b N (kw 12) s.1 = true from b2i_f c102), if_pos (show wd b N (kw 13) s.1 = true from b2i_t c118)]; exact h9)⟩
        | exact wa_return dX7_parseStatement_133 ⟨Nat.le_refl _, Nat.le_refl _, rfl, rfl, rfl, _, rfl, (by show HS b N S0 _ (pStmt b N s); unfold pStmt; rw [if_neg (show ¬ wd b N (kw 0) s.1 = true from b2i_f c6), if_neg (show ¬ wd b N (kw 1) s.1 = true from b2i_f c22), if_neg (show ¬ wd b N (kw 3) s.1 = true from b2i_f c38), if_neg (show ¬ wd b N (kw 4) s.1 = true from b2i_f c54), if_neg (show ¬ wd b N (kw 5) s.1 = true from b2i_f c70), if_neg (show ¬ wd b N (kw 6) s.1 = true from b2i_f c86), if_neg (show ¬ wd b N (kw 12) s.1 = true from b2i_f c102), if_neg (show ¬ wd b N (kw 13) s.1 = true from b2i_f c118)]; exact h9)⟩
    · refine wa_aload_n dX7_parseStatement_9 rfl ?_
      refine c_VQV dX7_parseStatement_10 (mm_parseOutside (x := .inr s) hn h) lk_X7_313 rfl (isO_MO _ _ _) rfl (ltS (by assumption)) (fun S9 h9 => ?_)
      refine wa_goto 133 dX7_parseStatement_13 rfl ?_
      first
      | exact wa_return dX7_parseStatement_133 ⟨Nat.le_refl _, Nat.le_refl _, rfl, rfl, rfl, _, rfl, (by show HS b N S0 _ (pStmt b N s); unfold pStmt; rw [if_pos (show wd b N (kw 0) s.1 = true from b2i_t c6)]; exact h9)⟩
      | exact wa_return dX7_parseStatement_133 ⟨Nat.le_refl _, Nat.le_refl _, rfl, rfl, rfl, _, rfl, (by show HS b N S0 _ (pStmt b N s); unfold pStmt; rw [if_neg (show ¬ wd b N (kw 0) s.1 = true from b2i_f c6), if_pos (show wd b N (kw 1) s.1 = true from b2i_t c22)]; exact h9)⟩
      | exact wa_return dX7_parseStatement_133 ⟨Nat.le_refl _, Nat.le_refl _, rfl, rfl, rfl, _, rfl, (by show HS b N S0 _ (pStmt b N s); unfold pStmt; rw [if_neg (show ¬ wd b N (kw 0) s.1 = true from b2i_f c6), if_neg (show ¬ wd b N (kw 1) s.1 = true from b2i_f c22), if_pos (show wd b N (kw 3) s.1 = true from b2i_t c38)]; exact h9)⟩
      | exact wa_return dX7_parseStatement_133 ⟨Nat.le_refl _, Nat.le_refl _, rfl, rfl, rfl, _, rfl, (by show HS b N S0 _ (pStmt b N s); unfold pStmt; rw [if_neg (show ¬ wd b N (kw 0) s.1 = true from b2i_f c6), if_neg (show ¬ wd b N (kw 1) s.1 = true from b2i_f c22), if_neg (show ¬ wd b N (kw 3) s.1 = true from b2i_f c38), if_pos (show wd b N (kw 4) s.1 = true from b2i_t c54)]; exact h9)⟩
      | exact wa_return dX7_parseStatement_133 ⟨Nat.le_refl _, Nat.le_refl _, rfl, rfl, rfl, _, rfl, (by show HS b N S0 _ (pStmt b N s); unfold pStmt; rw [if_neg (show ¬ wd b N (kw 0) s.1 = true from b2i_f c6), if_neg (show ¬ wd b N (kw 1) s.1 = true from b2i_f c22), if_neg (show ¬ wd b N (kw 3) s.1 = true from b2i_f c38), if_neg (show ¬ wd b N (kw 4) s.1 = true from b2i_f c54), if_pos (show wd b N (kw 5) s.1 = true from b2i_t c70)]; exact h9)⟩
      | exact wa_return dX7_parseStatement_133 ⟨Nat.le_refl _, Nat.le_refl _, rfl, rfl, rfl, _, rfl, (by show HS b N S0 _ (pStmt b N s); unfold pStmt; rw [if_neg (show ¬ wd b N (kw 0) s.1 = true from b2i_f c6), if_neg (show ¬ wd b N (kw 1) s.1 = true from b2i_f c22), if_neg (show ¬ wd b N (kw 3) s.1 = true from b2i_f c38), if_neg (show ¬ wd b N (kw 4) s.1 = true from b2i_f c54), if_neg (show ¬ wd b N (kw 5) s.1 = true from b2i_f c70), if_pos (show wd b N (kw 6) s.1 = true from b2i_t c86)]; exact h9)⟩
      | exact wa_return dX7_parseStatement_133 ⟨Nat.le_refl _, Nat.le_refl _, rfl, rfl, rfl, _, rfl, (by show HS b N S0 _ (pStmt b N s); unfold pStmt; rw [if_neg (show ¬ wd b N (kw 0) s.1 = true from b2i_f c6), if_neg (show ¬ wd b N (kw 1) s.1 = true from b2i_f c22), if_neg (show ¬ wd b N (kw 3) s.1 = true from b2i_f c38), if_neg (show ¬ wd b N (kw 4) s.1 = true from b2i_f c54), if_neg (show ¬ wd b N (kw 5) s.1 = true from b2i_f c70), if_neg (show ¬ wd b N (kw 6) s.1 = true from b2i_f c86), if_pos (show wd b N (kw 12) s.1 = true from b2i_t c102)]; exact h9)⟩
      | exact wa_return dX7_parseStatement_133 ⟨Nat.le_refl _, Nat.le_refl _, rfl, rfl, rfl, _, rfl, (by show HS b N S0 _ (pStmt b N s); unfold pStmt; rw [if_neg (show ¬ wd b N (kw 0) s.1 = true from b2i_f c6), if_neg (show ¬ wd b N (kw 1) s.1 = true from b2i_f c22), if_neg (show ¬ wd b N (kw 3) s.1 = true from b2i_f c38), if_neg (show ¬ wd b N (kw 4) s.1 = true from b2i_f c54), if_neg (show ¬ wd b N (kw 5) s.1 = true from b2i_f c70), if_neg (show ¬ wd b N (kw 6) s.1 = true from b2i_f c86), if_neg (show ¬ wd b N (kw 12) s.1 = true from b2i_f c102), if_pos (show wd b N (kw 13) s.1 = true from b2i_t c118)]; exact h9)⟩
      | exact wa_return dX7_parseStatement_133 ⟨Nat.le_refl _, Nat.le_refl _, rfl, rfl, rfl, _, rfl, (by show HS b N S0 _ (pStmt b N s); unfold pStmt; rw [if_neg (show ¬ wd b N (kw 0) s.1 = true from b2i_f c6), if_neg (show ¬ wd b N (kw 1) s.1 = true from b2i_f c22), if_neg (show ¬ wd b N (kw 3) s.1 = true from b2i_f c38), if_neg (show ¬ wd b N (kw 4) s.1 = true from b2i_f c54), if_neg (show ¬ wd b N (kw 5) s.1 = true from b2i_f c70), if_neg (show ¬ wd b N (kw 6) s.1 = true from b2i_f c86), if_neg (show ¬ wd b N (kw 12) s.1 = true from b2i_f c102), if_neg (show ¬ wd b N (kw 13) s.1 = true from b2i_f c118)]; exact h9)⟩
