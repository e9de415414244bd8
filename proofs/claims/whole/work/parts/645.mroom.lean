/-! ValveRoomModel: a new room. Written by program (wip/whole/gen/m645.py) but for the heads. -/
/-- what was taken, and that the ints are its -/
def HW {α : Type} (b : Nat → Int32) (N : Nat) (S0 S : SS) (P : α → Prop) (y : PR (α × PST)) : Prop := match y with
  | .inl e => BD b N S0 S e
  | .inr q => P q.1 ∧ GD b N S0 S q.2
theorem HV.w {α : Type} {b : Nat → Int32} {N : Nat} {S0 S : SS} {L : Int32 → Prop} {V : α → Int32} {y : PR (α × PST)} {v : Int32} (h : HV b N S0 S L V y v) : HW b N S0 S (fun a => v = V a) y := by
  cases y with
  | inl e => exact h.2
  | inr q => exact h
theorem HW.hs {α : Type} {b : Nat → Int32} {N : Nat} {S0 S : SS} {P : α → Prop} {y : PR (α × PST)} (h : HW b N S0 S P y) : HS b N S0 S (dY y) := by
  cases y with
  | inl e => exact h
  | inr q => exact h.2
theorem HW.go {α : Type} {b : Nat → Int32} {N : Nat} {S0 S S' : SS} {P : α → Prop} {y : PR (α × PST)} (h : HW b N S0 S P y) {F : PST → PR PST} (h' : HS b N S0 S' (pb (dY y) F)) : HW b N S0 S' P (mvY y F) := by
  cases y with
  | inl e => exact h'
  | inr q =>
    have h2 : HS b N S0 S' (F q.2) := h'
    show HW b N S0 S' P (pb (F q.2) (fun s => .inr (q.1, s)))
    cases hF : F q.2 with
    | inl e => rw [hF] at h2; exact h2
    | inr s => rw [hF] at h2; exact ⟨h.1, h2⟩
def prY {α β : Type} (y : PR (α × PST)) (F : PST → PR (β × PST)) : PR ((α × β) × PST) := pb y (fun q => pb (F q.2) (fun r => .inr ((q.1, r.1), r.2)))
theorem HW.pr {α β : Type} {b : Nat → Int32} {N : Nat} {S0 S S' : SS} {P : α → Prop} {y : PR (α × PST)} (h : HW b N S0 S P y) {F : PST → PR (β × PST)} {P' : β → Prop} (h' : HW b N S0 S' P' (pb (dY y) F)) : HW b N S0 S' (fun q => P q.1 ∧ P' q.2) (prY y F) := by
  cases y with
  | inl e => exact h'
  | inr q =>
    have h2 : HW b N S0 S' P' (F q.2) := h'
    show HW b N S0 S' _ (pb (F q.2) (fun r => .inr ((q.1, r.1), r.2)))
    cases hF : F q.2 with
    | inl e => rw [hF] at h2; exact h2
    | inr s => rw [hF] at h2; exact ⟨⟨h.1, h2.1⟩, h2.2⟩
theorem pb_inr {α : Type} (x : PR α) : pb x .inr = x := by cases x <;> rfl
/-- the steps of a new room, as the reference takes them -/
def nr1 (b : Nat → Int32) (N : Nat) (x : PR PST) : PR PST := pb (pb x (fun s => pErr 5 (decide (rn s.2.1 = 6)) s)) (pNext b N)
def nr2 (b : Nat → Int32) (N : Nat) (x : PR PST) (v : Int32) : PR (Int32 × PST) := mvY (mvY (yName b N (nr1 b N x)) (fun s => pErr 3 (decide (¬ rnm s.2.1 v = -1)) s)) (pNext b N)
def nrA (b : Nat → Int32) (N : Nat) (s : PST) : PR (Nat × PST) := pb (pNumA b N 7 0 400 s.1) (fun q => .inr (q.1, (q.2, s.2)))
def nrI (b : Nat → Int32) (N i pl lo hi : Nat) (s : PST) : PR (Nat × PST) := pb (pNumIf b N i pl lo hi s.1) (fun q => .inr (q.1, (q.2, s.2)))
def nr9 (b : Nat → Int32) (N : Nat) (y : PR (Int32 × PST)) : PR ((((((Int32 × Nat) × Nat) × Nat) × Nat) × Nat) × PST) := mvY (prY (prY (prY (prY (prY y (nrA b N)) (nrI b N 8 10 1 50)) (nrI b N 9 4 0 50)) (nrI b N 10 0 0 100)) (nrI b N 11 1000 0 9999)) (pEnd b N)
def nrF (q : (((((Int32 × Nat) × Nat) × Nat) × Nat) × Nat) × PST) : PR PST := .inr (q.2.1, addR q.2.2.1 q.1.1.1.1.1.1 (nI q.1.1.1.1.1.2) (nI q.1.1.1.1.2) (nI q.1.1.1.2) (nI q.1.1.2) (nI q.1.2), q.2.2.2)
theorem nr_tail (b : Nat → Int32) (N : Nat) (k : Int32) (s : PST) (p : Nat) : pb (pFit b N p) (fun f => pb (pSym b N 59 f.2) (fun p => .inr (p, addR s.2.1 k (nI f.1.1) (nI f.1.2.1) (nI f.1.2.2.1) (nI f.1.2.2.2.1) (nI f.1.2.2.2.2), s.2.2))) = pb (nr9 b N (.inr (k, (p, s.2)))) nrF := by
  unfold pFit nr9 mvY prY nrA nrI pEnd
  simp only [pb_pb, pb]
  cases pNumA b N 7 0 400 p with
  | inl e => rfl
  | inr q1 =>
    simp only [pb]
    cases pNumIf b N 8 10 1 50 q1.2 with
    | inl e => rfl
    | inr q2 =>
      simp only [pb]
      cases pNumIf b N 9 4 0 50 q2.2 with
      | inl e => rfl
      | inr q3 =>
        simp only [pb]
        cases pNumIf b N 10 0 0 100 q3.2 with
        | inl e => rfl
        | inr q4 =>
          simp only [pb]
          cases pNumIf b N 11 1000 0 9999 q4.2 with
          | inl e => rfl
          | inr q5 =>
            simp only [pb]
            cases pSym b N 59 q5.2 <;> rfl
/-- the reference's steps come to the pure ones; v is the name where there is one -/
theorem nr_eq (b : Nat → Int32) (N : Nat) (x : PR PST) (v : Int32) (hv : ∀ q, yName b N (nr1 b N x) = .inr q → v = q.1) : pb (nr9 b N (nr2 b N x v)) nrF = pb x (pNewRoom b N) := by
  cases x with
  | inl e => rfl
  | inr s =>
    show _ = pNewRoom b N s
    unfold pNewRoom pRoom1
    by_cases h6 : rn s.2.1 = 6
    · have e1 : nr1 b N (.inr s) = .inl (5, s.1) := by
        show pb (pErr 5 (decide (rn s.2.1 = 6)) s) (pNext b N) = _
        unfold pErr
        rw [if_pos (decide_eq_true h6)]; rfl
      unfold nr2
      rw [e1, if_pos h6]; rfl
    · have e1 : nr1 b N (.inr s) = .inr (nx b N s.1, s.2) := by
        show pb (pErr 5 (decide (rn s.2.1 = 6)) s) (pNext b N) = _
        unfold pErr
        rw [if_neg (by rw [decide_eq_true_iff]; exact h6)]; rfl
      rw [e1] at hv
      unfold nr2
      rw [e1, if_neg h6]
      have e2 : yName b N (.inr (nx b N s.1, s.2)) = pb (pName b N (nx b N s.1)) (fun k => .inr (k, (nx b N s.1, s.2))) := rfl
      rw [e2] at hv ⊢
      cases hp : pName b N (nx b N s.1) with
      | inl e => rfl
      | inr k =>
        rw [hp] at hv
        have hk : v = k := hv _ rfl
        subst hk
        show pb (nr9 b N (mvY (pb (pErr 3 (decide (¬ rnm s.2.1 v = -1)) (nx b N s.1, s.2)) (fun s => .inr (v, s))) (pNext b N))) nrF = pb (if rnm s.2.1 v = -1 then _ else _) _
        unfold pErr
        by_cases hm : rnm s.2.1 v = -1
        · rw [if_pos hm, if_neg (by rw [decide_eq_true_iff]; exact fun z => z hm)]
          exact (nr_tail b N v s _).symm
        · rw [if_neg hm, if_pos (decide_eq_true hm)]; rfl
theorem nr_rn {b : Nat → Int32} {N : Nat} {s : PST} {v : Int32} {q : (((((Int32 × Nat) × Nat) × Nat) × Nat) × Nat) × PST} (h : nr9 b N (nr2 b N (.inr s) v) = .inr q) : ¬ rn s.2.1 = 6 := fun h6 => by
  have e1 : nr1 b N (.inr s) = .inl (5, s.1) := by
    show pb (pErr 5 (decide (rn s.2.1 = 6)) s) (pNext b N) = _
    unfold pErr
    rw [if_pos (decide_eq_true h6)]; rfl
  unfold nr2 at h
  rw [e1] at h
  cases h
theorem prY_g {α β : Type} {y : PR (α × PST)} {F : PST → PR (β × PST)} {q : (α × β) × PST} (h : prY y F = .inr q) {g : Nat → Int32} {P : α → Prop} (hy : ∀ q, y = .inr q → q.2.2.1 = g) (hF : ∀ s r, F s = .inr r → r.2.2.1 = s.2.1) : q.2.2.1 = g := by
  unfold prY at h
  cases y with
  | inl e => cases h
  | inr q0 =>
    have h' : pb (F q0.2) (fun r => .inr ((q0.1, r.1), r.2)) = .inr q := h
    cases hf : F q0.2 with
    | inl e => rw [hf] at h'; cases h'
    | inr r =>
      rw [hf] at h'
      cases h'
      exact (hF _ _ hf).trans (hy _ rfl)
theorem mvY_g {α : Type} {y : PR (α × PST)} {F : PST → PR PST} {q : α × PST} (h : mvY y F = .inr q) {g : Nat → Int32} (hy : ∀ q, y = .inr q → q.2.2.1 = g) (hF : ∀ s r, F s = .inr r → r.2.1 = s.2.1) : q.2.2.1 = g := by
  unfold mvY at h
  cases y with
  | inl e => cases h
  | inr q0 =>
    have h' : pb (F q0.2) (fun s => .inr (q0.1, s)) = .inr q := h
    cases hf : F q0.2 with
    | inl e => rw [hf] at h'; cases h'
    | inr r =>
      rw [hf] at h'
      cases h'
      exact (hF _ _ hf).trans (hy _ rfl)
theorem pb_g {x : PR PST} {F : PST → PR PST} {s : PST} (h : pb x F = .inr s) {g : Nat → Int32} (hx : ∀ s, x = .inr s → s.2.1 = g) (hF : ∀ s r, F s = .inr r → r.2.1 = s.2.1) : s.2.1 = g := by
  cases x with
  | inl e => cases h
  | inr s0 => exact (hF _ _ h).trans (hx _ rfl)
theorem pErr_g (c : Nat) (P : PST → Bool) (s r : PST) (h : pErr c (P s) s = .inr r) : r.2.1 = s.2.1 := by
  unfold pErr at h
  split at h <;> cases h
  rfl
theorem nrA_g (b : Nat → Int32) (N : Nat) (s : PST) (r : Nat × PST) (h : nrA b N s = .inr r) : r.2.2.1 = s.2.1 := by
  unfold nrA at h
  cases hp : pNumA b N 7 0 400 s.1 <;> rw [hp] at h <;> cases h
  rfl
theorem nrI_g (b : Nat → Int32) (N i pl lo hi : Nat) (s : PST) (r : Nat × PST) (h : nrI b N i pl lo hi s = .inr r) : r.2.2.1 = s.2.1 := by
  unfold nrI at h
  cases hp : pNumIf b N i pl lo hi s.1 <;> rw [hp] at h <;> cases h
  rfl
theorem pEnd_g (b : Nat → Int32) (N : Nat) (s r : PST) (h : pEnd b N s = .inr r) : r.2.1 = s.2.1 := by
  unfold pEnd at h
  cases hp : pSym b N 59 s.1 <;> rw [hp] at h <;> cases h
  rfl
theorem pName_g (b : Nat → Int32) (N : Nat) (x : PR PST) (q : Int32 × PST) (h : yName b N x = .inr q) {g : Nat → Int32} (hx : ∀ s, x = .inr s → s.2.1 = g) : q.2.2.1 = g := by
  cases x with
  | inl e => cases h
  | inr s =>
    have h' : pb (pName b N s.1) (fun k => .inr (k, s)) = .inr q := h
    cases hp : pName b N s.1 <;> rw [hp] at h' <;> cases h'
    exact hx _ rfl
theorem nr_g {b : Nat → Int32} {N : Nat} {s : PST} {v : Int32} {q : (((((Int32 × Nat) × Nat) × Nat) × Nat) × Nat) × PST} (h : nr9 b N (nr2 b N (.inr s) v) = .inr q) : q.2.2.1 = s.2.1 := by
  have h1 : ∀ s', nr1 b N (.inr s) = .inr s' → s'.2.1 = s.2.1 := fun s' h => pb_g h (fun s'' h'' => pErr_g 5 (fun s => decide (rn s.2.1 = 6)) s s'' h'') (fun s r hr => by cases hr; rfl)
  have h2 : ∀ q', nr2 b N (.inr s) v = .inr q' → q'.2.2.1 = s.2.1 := fun q' h => mvY_g h (fun q'' h'' => mvY_g h'' (fun q3 h3 => pName_g b N _ q3 h3 h1) (pErr_g 3 (fun s => decide (¬ rnm s.2.1 v = -1)))) (fun s r hr => by cases hr; rfl)
  exact mvY_g h (fun q1 k1 => prY_g (P := fun _ => True) k1 (fun q2 k2 => prY_g (P := fun _ => True) k2 (fun q3 k3 => prY_g (P := fun _ => True) k3 (fun q4 k4 => prY_g (P := fun _ => True) k4 (fun q5 k5 => prY_g (P := fun _ => True) k5 h2 (nrA_g b N)) (nrI_g b N _ _ _ _)) (nrI_g b N _ _ _ _)) (nrI_g b N _ _ _ _)) (nrI_g b N _ _ _ _)) (pEnd_g b N)
theorem VG_rn1 {T : Int} {g : Nat → Int32} (h : VG T g) (h6 : rn g < 6) : VG T (upd g 0 (g 0 + 1)) ∧ (upd g 0 (g 0 + 1)) 0 = nI (rn g + 1) := by
  have e0 := (VG_rn h).1
  have e : g 0 + 1 = nI (rn g + 1) := by rw [show g 0 = nI (rn g) from e0]; exact nI_1 _
  have hu : ∀ k, ¬ k = 0 → upd g 0 (g 0 + 1) k = g k := fun k hk => if_neg hk
  have hp : ∀ i, pg (upd g 0 (g 0 + 1)) i = pg g i := fun i => by
    funext t
    unfold pg of
    rw [hu _ (by omega)]
  refine ⟨⟨by rw [hu 1 (by decide)]; exact h.1, ?_, by rw [hu 3 (by decide)]; exact h.2.2.1, fun k hk => ?_, fun i => by rw [hp]; exact h.2.2.2.2 i⟩, e⟩
  · have : upd g 0 (g 0 + 1) 0 = nI (rn g + 1) := e
    rw [this, nI_toInt (by omega)]
    omega
  · have ep : pn (upd g 0 (g 0 + 1)) = pn g := congrArg (fun x : Int32 => x.toInt.toNat) (hu 3 (by decide))
    rw [ep] at hk
    rw [hu _ (by omega)]
    exact h.2.2.2.1 k hk
theorem VG_addR {T : Int} {g : Nat → Int32} (h : VG T g) (h6 : rn g < 6) (x t pw ls v bt : Int32) : VG T (addR g x t pw ls v bt) := by
  unfold addR
  exact VG_kp (VG_rn1 h h6).1 ((((((((kp_pt _ _ _ (by decide)).tr (kp_pt _ _ _ (by decide))).tr (kp_pt _ _ _ (by decide))).tr (kp_pt _ _ _ (by decide))).tr (kp_pt _ _ _ (by decide))).tr (kp_pt _ _ _ (by decide))).tr (kp_pt _ _ _ (by decide))))
theorem md_su {S : SS} (hm : mr S = 269) (f : Nat → Int32) (F : (Nat → Int32) → Nat → Int32) : md F (su S 269 f) = su S 269 (F f) := by
  have e : row (su S 269 f) = f := by
    show (su S 269 f).1 (mr S) = f
    rw [hm, su_s]
  unfold md
  rw [e, show mr (su S 269 f) = 269 from hm]
  unfold su
  congr 1
  funext k
  show (if k = 269 then F f else (if k = 269 then f else S.1 k)) = (if k = 269 then F f else S.1 k)
  by_cases hk : k = 269
  · rw [if_pos hk, if_pos hk]
  · rw [if_neg hk, if_neg hk, if_neg hk]
theorem nr_good {Q : ab_Q} {n : Nat} {S : SS} {b : Nat → Int32} {N : Nat} {S0 : SS} {s : PST} {x1 x2 x3 x4 x5 x6 : Int32} (hn : 279 ≤ n) (h : GD b N S0 S s) (h6 : rn s.2.1 < 6) (hQ : ∀ S', GD b N S0 S' (s.1, addR s.2.1 x1 x2 x3 x4 x5 x6, s.2.2) → Q (.inl none) 0 0 n (Hp S')) : WA RX7 cX7_parseRoom 8 [] (ab_rm 10 0 0) Q 0 0 117 [some (.ref 267), some (.int x1), some (.int x2), some (.int x3), some (.int x4), some (.int x5), some (.int x6), none] [] n (Hp S) := by
  refine wa_aload_n dX7_parseRoom_117 rfl ?_
  refine c_VI dX7_parseRoom_118 (mm_good hn) lk_X7_165 rfl (isO_MO _ _ _) rfl (ltS (by assumption)) ?_
  rw [b2i_1 h.g0]
  refine wa_if_ne 125 dX7_parseRoom_121 rfl (fun c121 => ?_) (fun c121 => absurd c121 (by decide))
  refine wa_aload_n dX7_parseRoom_125 rfl ?_
  refine c_VI dX7_parseRoom_126 (mm_rooms hn) lk_X7_56 rfl (isO_MO _ _ _) rfl (ltS (by assumption)) ?_
  rw [show S.1 (mr S) 0 = nI (rn s.2.1) from (congrFun h.row 0).trans (VG_rn h.vg).1]
  refine wa_istore dX7_parseRoom_129 rfl ?_
  refine wa_aload_n dX7_parseRoom_131 rfl ?_
  refine g_row (by assumption) dX7_parseRoom_132 fl_X7_24 ?_
  rw [h.1.1.mr]
  refine wa_iconst (x := 0) dX7_parseRoom_135 (by decide) ?_
  refine wa_dup2 dX7_parseRoom_136 rfl rfl ?_
  refine s_iald (j := 0) isA_draft dX7_parseRoom_137 (ltS (by assumption)) rfl (by decide) ?_
  rw [h.g]
  refine wa_iconst (x := 1) dX7_parseRoom_138 (by decide) ?_
  refine wa_iadd dX7_parseRoom_139 ?_
  refine s_iast (j := 0) isA_draft dX7_parseRoom_140 (ltS (by assumption)) rfl (by decide) ?_
  rw [show ss S 269 0 (s.2.1 0 + 1) = su S 269 (upd s.2.1 0 (s.2.1 0 + 1)) from congrArg (fun f => su S 269 (upd f 0 (s.2.1 0 + 1))) h.g]
  refine wa_aload_n dX7_parseRoom_141 rfl ?_
  refine wa_iload dX7_parseRoom_142 rfl ?_
  refine wa_bipush (x := 11) dX7_parseRoom_144 (by decide) ?_
  refine wa_iload_n dX7_parseRoom_146 rfl ?_
  refine c_VV dX7_parseRoom_147 (mm_put2 (S := su S 269 (upd s.2.1 0 (s.2.1 0 + 1))) (i := rn s.2.1) (w := 11) hn h6 (by decide) x1) lk_X7_105 rfl (isO_MO _ _ _) rfl (ltS (by assumption)) ?_
  rw [show md (fun g => pt g (rn s.2.1) 11 x1) (su S 269 (upd s.2.1 0 (s.2.1 0 + 1))) = su S 269 (pt (upd s.2.1 0 (s.2.1 0 + 1)) (rn s.2.1) 11 x1) from md_su h.1.1.mr _ _]
  refine wa_aload_n dX7_parseRoom_150 rfl ?_
  refine wa_iload dX7_parseRoom_151 rfl ?_
  refine wa_iconst (x := 0) dX7_parseRoom_153 (by decide) ?_
  refine wa_iload_n dX7_parseRoom_154 rfl ?_
  refine c_VV dX7_parseRoom_155 (mm_put2 (S := su S 269 (pt (upd s.2.1 0 (s.2.1 0 + 1)) (rn s.2.1) 11 x1)) (i := rn s.2.1) (w := 0) hn h6 (by decide) x2) lk_X7_105 rfl (isO_MO _ _ _) rfl (ltS (by assumption)) ?_
  rw [show md (fun g => pt g (rn s.2.1) 0 x2) (su S 269 (pt (upd s.2.1 0 (s.2.1 0 + 1)) (rn s.2.1) 11 x1)) = su S 269 (pt (pt (upd s.2.1 0 (s.2.1 0 + 1)) (rn s.2.1) 11 x1) (rn s.2.1) 0 x2) from md_su h.1.1.mr _ _]
  refine wa_aload_n dX7_parseRoom_158 rfl ?_
  refine wa_iload dX7_parseRoom_159 rfl ?_
  refine wa_iconst (x := 3) dX7_parseRoom_161 (by decide) ?_
  refine wa_iload_n dX7_parseRoom_162 rfl ?_
  refine c_VV dX7_parseRoom_163 (mm_put2 (S := su S 269 (pt (pt (upd s.2.1 0 (s.2.1 0 + 1)) (rn s.2.1) 11 x1) (rn s.2.1) 0 x2)) (i := rn s.2.1) (w := 3) hn h6 (by decide) x3) lk_X7_105 rfl (isO_MO _ _ _) rfl (ltS (by assumption)) ?_
  rw [show md (fun g => pt g (rn s.2.1) 3 x3) (su S 269 (pt (pt (upd s.2.1 0 (s.2.1 0 + 1)) (rn s.2.1) 11 x1) (rn s.2.1) 0 x2)) = su S 269 (pt (pt (pt (upd s.2.1 0 (s.2.1 0 + 1)) (rn s.2.1) 11 x1) (rn s.2.1) 0 x2) (rn s.2.1) 3 x3) from md_su h.1.1.mr _ _]
  refine wa_aload_n dX7_parseRoom_166 rfl ?_
  refine wa_iload dX7_parseRoom_167 rfl ?_
  refine wa_iconst (x := 4) dX7_parseRoom_169 (by decide) ?_
  refine wa_iload dX7_parseRoom_170 rfl ?_
  refine c_VV dX7_parseRoom_172 (mm_put2 (S := su S 269 (pt (pt (pt (upd s.2.1 0 (s.2.1 0 + 1)) (rn s.2.1) 11 x1) (rn s.2.1) 0 x2) (rn s.2.1) 3 x3)) (i := rn s.2.1) (w := 4) hn h6 (by decide) x4) lk_X7_105 rfl (isO_MO _ _ _) rfl (ltS (by assumption)) ?_
  rw [show md (fun g => pt g (rn s.2.1) 4 x4) (su S 269 (pt (pt (pt (upd s.2.1 0 (s.2.1 0 + 1)) (rn s.2.1) 11 x1) (rn s.2.1) 0 x2) (rn s.2.1) 3 x3)) = su S 269 (pt (pt (pt (pt (upd s.2.1 0 (s.2.1 0 + 1)) (rn s.2.1) 11 x1) (rn s.2.1) 0 x2) (rn s.2.1) 3 x3) (rn s.2.1) 4 x4) from md_su h.1.1.mr _ _]
  refine wa_aload_n dX7_parseRoom_175 rfl ?_
  refine wa_iload dX7_parseRoom_176 rfl ?_
  refine wa_iconst (x := 1) dX7_parseRoom_178 (by decide) ?_
  refine wa_iload dX7_parseRoom_179 rfl ?_
  refine c_VV dX7_parseRoom_181 (mm_put2 (S := su S 269 (pt (pt (pt (pt (upd s.2.1 0 (s.2.1 0 + 1)) (rn s.2.1) 11 x1) (rn s.2.1) 0 x2) (rn s.2.1) 3 x3) (rn s.2.1) 4 x4)) (i := rn s.2.1) (w := 1) hn h6 (by decide) x5) lk_X7_105 rfl (isO_MO _ _ _) rfl (ltS (by assumption)) ?_
  rw [show md (fun g => pt g (rn s.2.1) 1 x5) (su S 269 (pt (pt (pt (pt (upd s.2.1 0 (s.2.1 0 + 1)) (rn s.2.1) 11 x1) (rn s.2.1) 0 x2) (rn s.2.1) 3 x3) (rn s.2.1) 4 x4)) = su S 269 (pt (pt (pt (pt (pt (upd s.2.1 0 (s.2.1 0 + 1)) (rn s.2.1) 11 x1) (rn s.2.1) 0 x2) (rn s.2.1) 3 x3) (rn s.2.1) 4 x4) (rn s.2.1) 1 x5) from md_su h.1.1.mr _ _]
  refine wa_aload_n dX7_parseRoom_184 rfl ?_
  refine wa_iload dX7_parseRoom_185 rfl ?_
  refine wa_iconst (x := 2) dX7_parseRoom_187 (by decide) ?_
  refine wa_iload dX7_parseRoom_188 rfl ?_
  refine c_VV dX7_parseRoom_190 (mm_put2 (S := su S 269 (pt (pt (pt (pt (pt (upd s.2.1 0 (s.2.1 0 + 1)) (rn s.2.1) 11 x1) (rn s.2.1) 0 x2) (rn s.2.1) 3 x3) (rn s.2.1) 4 x4) (rn s.2.1) 1 x5)) (i := rn s.2.1) (w := 2) hn h6 (by decide) x6) lk_X7_105 rfl (isO_MO _ _ _) rfl (ltS (by assumption)) ?_
  rw [show md (fun g => pt g (rn s.2.1) 2 x6) (su S 269 (pt (pt (pt (pt (pt (upd s.2.1 0 (s.2.1 0 + 1)) (rn s.2.1) 11 x1) (rn s.2.1) 0 x2) (rn s.2.1) 3 x3) (rn s.2.1) 4 x4) (rn s.2.1) 1 x5)) = su S 269 (pt (pt (pt (pt (pt (pt (upd s.2.1 0 (s.2.1 0 + 1)) (rn s.2.1) 11 x1) (rn s.2.1) 0 x2) (rn s.2.1) 3 x3) (rn s.2.1) 4 x4) (rn s.2.1) 1 x5) (rn s.2.1) 2 x6) from md_su h.1.1.mr _ _]
  refine wa_aload_n dX7_parseRoom_193 rfl ?_
  refine wa_iload dX7_parseRoom_194 rfl ?_
  refine wa_bipush (x := 6) dX7_parseRoom_196 (by decide) ?_
  refine wa_iconst (x := 1) dX7_parseRoom_198 (by decide) ?_
  refine c_VV dX7_parseRoom_199 (mm_put2 (S := su S 269 (pt (pt (pt (pt (pt (pt (upd s.2.1 0 (s.2.1 0 + 1)) (rn s.2.1) 11 x1) (rn s.2.1) 0 x2) (rn s.2.1) 3 x3) (rn s.2.1) 4 x4) (rn s.2.1) 1 x5) (rn s.2.1) 2 x6)) (i := rn s.2.1) (w := 6) hn h6 (by decide) 1) lk_X7_105 rfl (isO_MO _ _ _) rfl (ltS (by assumption)) ?_
  rw [show md (fun g => pt g (rn s.2.1) 6 1) (su S 269 (pt (pt (pt (pt (pt (pt (upd s.2.1 0 (s.2.1 0 + 1)) (rn s.2.1) 11 x1) (rn s.2.1) 0 x2) (rn s.2.1) 3 x3) (rn s.2.1) 4 x4) (rn s.2.1) 1 x5) (rn s.2.1) 2 x6)) = su S 269 (pt (pt (pt (pt (pt (pt (pt (upd s.2.1 0 (s.2.1 0 + 1)) (rn s.2.1) 11 x1) (rn s.2.1) 0 x2) (rn s.2.1) 3 x3) (rn s.2.1) 4 x4) (rn s.2.1) 1 x5) (rn s.2.1) 2 x6) (rn s.2.1) 6 1) from md_su h.1.1.mr _ _]
  exact wa_return dX7_parseRoom_202 (hQ _ (h.dd (VG_addR h.vg h6 _ _ _ _ _ _)))
theorem nr_bad {Q : ab_Q} {n : Nat} {S : SS} {b : Nat → Int32} {N : Nat} {S0 : SS} {e : Nat × Nat} {x1 x2 x3 x4 x5 x6 : Int32} (hn : 279 ≤ n) (h : BD b N S0 S e) (hQ : Q (.inl none) 0 0 n (Hp S)) : WA RX7 cX7_parseRoom 8 [] (ab_rm 10 0 0) Q 0 0 117 [some (.ref 267), some (.int x1), some (.int x2), some (.int x3), some (.int x4), some (.int x5), some (.int x6), none] [] n (Hp S) := by
  refine wa_aload_n dX7_parseRoom_117 rfl ?_
  refine c_VI dX7_parseRoom_118 (mm_good hn) lk_X7_165 rfl (isO_MO _ _ _) rfl (ltS (by assumption)) ?_
  rw [b2i_0 h.n0]
  refine wa_if_ne 125 dX7_parseRoom_121 rfl (fun c121 => absurd rfl c121) (fun c121 => ?_)
  exact wa_return dX7_parseRoom_124 hQ
theorem mm_parseRoom {n : Nat} {S : SS} {b : Nat → Int32} {N : Nat} {S0 : SS} {x : PR PST} (hn : 279 ≤ n) (h : HS b N S0 S x) : AM yX7_parseRoom cX7_parseRoom 8 none [] 10 0 0 [.ref 267] n (Hp S) (PVe n (fun S' => HS b N S0 S' (pb x (pNewRoom b N)))) := by
  intro has
  change WA RX7 cX7_parseRoom 8 [] _ _ 0 0 0 [some (.ref 267), none, none, none, none, none, none, none] [] n _
  refine wa_aload_n dX7_parseRoom_0 rfl ?_
  refine wa_aload_n dX7_parseRoom_1 rfl ?_
  refine c_VI dX7_parseRoom_2 (mm_rooms hn) lk_X7_56 rfl (isO_MO _ _ _) rfl (ltS (by assumption)) ?_
  refine wa_bipush (x := 6) dX7_parseRoom_5 (by decide) ?_
  refine wa_jn (P := row S 0 = 6) 14 15 (fun a b => wa_icmp_ne 14 dX7_parseRoom_7 rfl a (fun c => b (fun z => z c))) dX7_parseRoom_10 dX7_parseRoom_11 rfl dX7_parseRoom_14 rfl Iff.rfl ?_
  refine wa_iconst (x := 5) dX7_parseRoom_15 (by decide) ?_
  refine c_VQV dX7_parseRoom_16 (mm_errsIf hn h (b2i (row S 0 = 6)) 5 (fun s => decide (rn s.2.1 = 6)) (by decide) (by decide) (fun s' e => by
    subst e
    have hg : GD b N S0 S s' := h
    have e0 := (VG_rn hg.vg).1
    have e6 := (VG_rn hg.vg).2
    have hiff : s'.2.1 0 = 6 ↔ rn s'.2.1 = 6 := by rw [e0]; exact nI_eq (b := 6) (by omega) (by decide)
    rw [hg.row]
    unfold b2i
    by_cases hm : rn s'.2.1 = 6
    · rw [if_pos (hiff.mpr hm), if_pos (decide_eq_true hm)]
    · rw [if_neg (fun z => hm (hiff.mp z)), if_neg (by rw [decide_eq_true_iff]; exact hm)])) lk_X7_270 rfl (isO_MO _ _ _) rfl (ltS (by assumption)) (fun S1 h1 => ?_)
  refine wa_aload_n dX7_parseRoom_19 rfl ?_
  refine c_VQV dX7_parseRoom_20 (mm_goNext hn h1) lk_X7_214 rfl (isO_MO _ _ _) rfl (ltS (by assumption)) (fun S2 h2 => ?_)
  refine wa_aload_n dX7_parseRoom_23 rfl ?_
  refine c_VQI dX7_parseRoom_24 (mm_nameHere (x := nr1 b N x) hn h2) lk_X7_278 rfl (isO_MO _ _ _) rfl (ltS (by assumption)) (fun v3 S3 h3 => ?_)
  refine wa_istore_n dX7_parseRoom_27 rfl ?_
  refine wa_aload_n dX7_parseRoom_28 rfl ?_
  refine wa_aload_n dX7_parseRoom_29 rfl ?_
  refine wa_iload_n dX7_parseRoom_30 rfl ?_
  refine c_VI dX7_parseRoom_31 (mm_roomNamed hn h3.hs.vg v3) lk_X7_281 rfl (isO_MO _ _ _) rfl (ltS (by assumption)) ?_
  refine wa_iconst (x := (-1)) dX7_parseRoom_34 (by decide) ?_
  refine wa_jn (P := ¬ rnm (row S3) v3 = -1) 42 43 (fun a b => wa_icmp_eq 42 dX7_parseRoom_35 rfl a b) dX7_parseRoom_38 dX7_parseRoom_39 rfl dX7_parseRoom_42 rfl Classical.not_not.symm ?_
  refine wa_iconst (x := 3) dX7_parseRoom_43 (by decide) ?_
  refine c_VQV dX7_parseRoom_44 (mm_errsIf (x := dY (yName b N (nr1 b N x))) hn h3.hs (b2i (¬ rnm (row S3) v3 = -1)) 3 (fun s => decide (¬ rnm s.2.1 v3 = -1)) (by decide) (by decide) (fun s' e => by
    have hg : GD b N S0 S3 s' := by have := h3.hs; rw [e] at this; exact this
    rw [hg.row]
    unfold b2i
    by_cases hm : rnm s'.2.1 v3 = -1
    · rw [if_neg (fun z => z hm), if_neg (by rw [decide_eq_true_iff]; exact fun z => z hm)]
    · rw [if_pos hm, if_pos (decide_eq_true hm)])) lk_X7_270 rfl (isO_MO _ _ _) rfl (ltS (by assumption)) (fun S4 h4 => ?_)
  refine wa_aload_n dX7_parseRoom_47 rfl ?_
  have w4 := h3.w.go h4
  refine c_VQV dX7_parseRoom_48 (mm_goNext hn w4.hs) lk_X7_214 rfl (isO_MO _ _ _) rfl (ltS (by assumption)) (fun S5 h5 => ?_)
  refine wa_aload_n dX7_parseRoom_51 rfl ?_
  refine wa_ldcS (j := 26) dX7_parseRoom_52 rfl ?_
  refine wa_iconst (x := 0) dX7_parseRoom_54 (by decide) ?_
  refine wa_sipush (x := 400) dX7_parseRoom_55 (by decide) ?_
  have w5 : HW b N S0 S5 _ (nr2 b N x v3) := w4.go h5
  refine c_VQI dX7_parseRoom_58 (mm_numberAfter (i := 7) (lo := 0) (ho := 400) (by decide) (by decide) hn (by decide) w5.hs) lk_X7_263 rfl (isO_MO _ _ _) rfl (ltS (by assumption)) (fun v6 S6 h6 => ?_)
  refine wa_istore_n dX7_parseRoom_61 rfl ?_
  refine wa_aload_n dX7_parseRoom_62 rfl ?_
  refine wa_ldcS (j := 27) dX7_parseRoom_63 rfl ?_
  refine wa_bipush (x := 10) dX7_parseRoom_65 (by decide) ?_
  refine wa_iconst (x := 1) dX7_parseRoom_67 (by decide) ?_
  refine wa_bipush (x := 50) dX7_parseRoom_68 (by decide) ?_
  have w6 := w5.pr (F := nrA b N) h6.w
  refine c_VQI dX7_parseRoom_70 (mm_numberIf (i := 8) (pl := 10) (lo := 1) (ho := 50) (by decide) (by decide) hn (by decide) w6.hs) lk_X7_293 rfl (isO_MO _ _ _) rfl (ltS (by assumption)) (fun v7 S7 h7 => ?_)
  refine wa_istore_n dX7_parseRoom_73 rfl ?_
  refine wa_aload_n dX7_parseRoom_74 rfl ?_
  refine wa_ldcS (j := 28) dX7_parseRoom_75 rfl ?_
  refine wa_iconst (x := 4) dX7_parseRoom_77 (by decide) ?_
  refine wa_iconst (x := 0) dX7_parseRoom_78 (by decide) ?_
  refine wa_bipush (x := 50) dX7_parseRoom_79 (by decide) ?_
  have w7 := w6.pr (F := nrI b N 8 10 1 50) h7.w
  refine c_VQI dX7_parseRoom_81 (mm_numberIf (i := 9) (pl := 4) (lo := 0) (ho := 50) (by decide) (by decide) hn (by decide) w7.hs) lk_X7_293 rfl (isO_MO _ _ _) rfl (ltS (by assumption)) (fun v8 S8 h8 => ?_)
  refine wa_istore dX7_parseRoom_84 rfl ?_
  refine wa_aload_n dX7_parseRoom_86 rfl ?_
  refine wa_ldcS (j := 29) dX7_parseRoom_87 rfl ?_
  refine wa_iconst (x := 0) dX7_parseRoom_89 (by decide) ?_
  refine wa_iconst (x := 0) dX7_parseRoom_90 (by decide) ?_
  refine wa_bipush (x := 100) dX7_parseRoom_91 (by decide) ?_
  have w8 := w7.pr (F := nrI b N 9 4 0 50) h8.w
  refine c_VQI dX7_parseRoom_93 (mm_numberIf (i := 10) (pl := 0) (lo := 0) (ho := 100) (by decide) (by decide) hn (by decide) w8.hs) lk_X7_293 rfl (isO_MO _ _ _) rfl (ltS (by assumption)) (fun v9 S9 h9 => ?_)
  refine wa_istore dX7_parseRoom_96 rfl ?_
  refine wa_aload_n dX7_parseRoom_98 rfl ?_
  refine wa_ldcS (j := 30) dX7_parseRoom_99 rfl ?_
  refine wa_sipush (x := 1000) dX7_parseRoom_101 (by decide) ?_
  refine wa_iconst (x := 0) dX7_parseRoom_104 (by decide) ?_
  refine wa_sipush (x := 9999) dX7_parseRoom_105 (by decide) ?_
  have w9 := w8.pr (F := nrI b N 10 0 0 100) h9.w
  refine c_VQI dX7_parseRoom_108 (mm_numberIf (i := 11) (pl := 1000) (lo := 0) (ho := 9999) (by decide) (by decide) hn (by decide) w9.hs) lk_X7_293 rfl (isO_MO _ _ _) rfl (ltS (by assumption)) (fun v10 S10 h10 => ?_)
  refine wa_istore dX7_parseRoom_111 rfl ?_
  refine wa_aload_n dX7_parseRoom_113 rfl ?_
  have w10 := w9.pr (F := nrI b N 11 1000 0 9999) h10.w
  refine c_VQV dX7_parseRoom_114 (mm_semicolon hn w10.hs) lk_X7_290 rfl (isO_MO _ _ _) rfl (ltS (by assumption)) (fun S11 h11 => ?_)
  have w11 : HW b N S0 S11 _ (nr9 b N (nr2 b N x v3)) := w10.go h11
  have hE := nr_eq b N x v3 (fun q e => by have := h3.w; rw [e] at this; exact this.1)
  cases hz : nr9 b N (nr2 b N x v3) with
  | inl e =>
    rw [hz] at w11 hE
    exact nr_bad hn w11 ⟨Nat.le_refl _, Nat.le_refl _, rfl, rfl, rfl, _, rfl, by rw [← hE]; exact w11⟩
  | inr q =>
    rw [hz] at w11 hE
    cases x with
    | inl e => cases hz
    | inr s =>
      obtain ⟨⟨⟨⟨⟨⟨k1, k2⟩, k3⟩, k4⟩, k5⟩, k6⟩, hg⟩ := w11
      have e6 : rn q.2.2.1 < 6 := by
        rw [nr_g hz]
        have a1 := nr_rn hz
        have a2 := (VG_rn (g := s.2.1) (T := 0) (GD.vg (b := b) (N := N) (S0 := S0) (S := S) h)).2
        omega
      refine nr_good (s := q.2) hn hg e6 (fun S' h' => ⟨Nat.le_refl _, Nat.le_refl _, rfl, rfl, rfl, _, rfl, ?_⟩)
      rw [← hE]
      show GD b N S0 S' _
      rw [k1, k2, k3, k4, k5, k6] at h'
      exact h'
