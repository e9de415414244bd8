/-! ValveRoomModel: programs and plans. Written by program (wip/whole/gen/m650.py) but for the heads. -/
def en2 (b : Nat → Int32) (N r : Nat) (x : PR PST) (t : Nat) : PR (Nat × PST) := mvY (mvY (mvY (mvY (yNumH b N 0 47 (pb x (pNext b N))) (fun s => pErr 3 (decide (¬ pg s.2.1 r t = 0)) s)) (pNext b N)) (fun s => pErr 1 (!isS b N 58 s.1) s)) (pNext b N)
def enN (b : Nat → Int32) (N : Nat) (s : PST) : PR (Nat × PST) := pb (pNum b N 50 300 s.1) (fun q => .inr (q.1, (q.2, s.2)))
def enF (r : Nat) (q : (Nat × Nat) × PST) : PR PST := .inr (q.2.1, pt q.2.2.1 r (18 + q.1.1) (nI q.1.2), q.2.2.2)
theorem en_eq (b : Nat → Int32) (N r : Nat) (x : PR PST) (t : Nat) (ht : ∀ q, yNumH b N 0 47 (pb x (pNext b N)) = .inr q → t = q.1) : pb (prY (en2 b N r x t) (enN b N)) (enF r) = pb x (pEntry b N r) := by
  cases x with
  | inl e => rfl
  | inr s =>
    show _ = pEntry b N r s
    unfold pEntry en2
    have e2 : yNumH b N 0 47 (pb (.inr s) (pNext b N)) = pb (pNumH b N 0 47 (nx b N s.1)) (fun k => .inr (k, (nx b N s.1, s.2))) := rfl
    rw [e2] at ht ⊢
    cases hp : pNumH b N 0 47 (nx b N s.1) with
    | inl e => rfl
    | inr k =>
      rw [hp] at ht
      have hk : t = k := ht _ rfl
      subst hk
      show pb (prY (mvY (mvY (mvY (pb (pErr 3 (decide (¬ pg s.2.1 r t = 0)) (nx b N s.1, s.2)) (fun s => .inr (t, s))) (pNext b N)) (fun s => pErr 1 (!isS b N 58 s.1) s)) (pNext b N)) (enN b N)) (enF r) = if pg s.2.1 r t = 0 then _ else _
      unfold pErr
      by_cases h0 : pg s.2.1 r t = 0
      · rw [if_neg (by rw [decide_eq_true_iff]; exact fun z => z h0), if_pos h0]
        show pb (prY (mvY (pb (if (!isS b N 58 (nx b N (nx b N s.1))) = true then .inl (1, nx b N (nx b N s.1)) else .inr (nx b N (nx b N s.1), s.2)) (fun s => .inr (t, s))) (pNext b N)) (enN b N)) (enF r) = _
        unfold pSym
        by_cases h1 : isS b N 58 (nx b N (nx b N s.1)) = true
        · rw [if_pos h1, if_neg (by rw [h1]; decide)]
          show pb (pb (pb (pNum b N 50 300 (nx b N (nx b N (nx b N s.1)))) _) _) _ = pb (pNum b N 50 300 (nx b N (nx b N (nx b N s.1)))) _
          cases pNum b N 50 300 (nx b N (nx b N (nx b N s.1))) <;> rfl
        · rw [if_neg h1, if_pos (by rw [Bool.not_eq_true'] ; exact Bool.not_eq_true _ ▸ h1)]
          rfl
      · rw [if_pos (decide_eq_true h0), if_neg h0]; rfl
theorem numH_le {b : Nat → Int32} {N lo hi p k : Nat} (h : pNumH b N lo hi p = .inr k) : lo ≤ k ∧ k ≤ hi := by
  unfold pNumH at h
  split at h
  · split at h
    · cases h; assumption
    · cases h
  · cases h
theorem yNumH_le {b : Nat → Int32} {N lo hi : Nat} {x : PR PST} {q : Nat × PST} (h : yNumH b N lo hi x = .inr q) : lo ≤ q.1 ∧ q.1 ≤ hi := by
  unfold yNumH at h
  cases x with
  | inl e => cases h
  | inr s =>
    have h' : pb (pNumH b N lo hi s.1) (fun k => .inr (k, s)) = .inr q := h
    cases hp : pNumH b N lo hi s.1 with
    | inl e => rw [hp] at h'; cases h'
    | inr k => rw [hp] at h'; cases h'; exact numH_le hp
theorem yNum_le {b : Nat → Int32} {N lo hi : Nat} {x : PR PST} {q : Nat × PST} (h : yNum b N lo hi x = .inr q) : lo ≤ q.1 ∧ q.1 ≤ hi := by
  unfold yNum pNum at h
  cases x with
  | inl e => cases h
  | inr s =>
    have h' : pb (pb (pNumH b N lo hi s.1) (fun v => .inr (v, nx b N s.1))) (fun q => .inr (q.1, (q.2, s.2))) = .inr q := h
    cases hp : pNumH b N lo hi s.1 with
    | inl e => rw [hp] at h'; cases h'
    | inr k => rw [hp] at h'; cases h'; exact numH_le hp
theorem HV.ex {b : Nat → Int32} {N lo hi : Nat} {S0 S : SS} {y : PR (Nat × PST)} {v : Int32} (h : HV b N S0 S (fun v => v = nI lo) nI y v) (hlh : lo ≤ hi) (hy : ∀ q, y = .inr q → lo ≤ q.1 ∧ q.1 ≤ hi) : ∃ t, lo ≤ t ∧ t ≤ hi ∧ v = nI t ∧ ∀ q, y = .inr q → t = q.1 := by
  cases y with
  | inl e => exact ⟨lo, Nat.le_refl _, hlh, h.1, fun q e => by cases e⟩
  | inr q => exact ⟨q.1, (hy q rfl).1, (hy q rfl).2, h.1, fun q' e => by cases e; rfl⟩
/-- an entry put, in any mode -/
theorem en_put {b : Nat → Int32} {N r t : Nat} {S0 S : SS} {x : PR PST} {v : Int32} {w : Nat} (hw : v = nI w) (h50 : 50 ≤ w) (h300 : w ≤ 300) (ht : t < 48) (h : HW b N S0 S (fun q => t = q.1 ∧ v = nI q.2) (prY (en2 b N r x t) (enN b N))) (he : ∀ q, yNumH b N 0 47 (pb x (pNext b N)) = .inr q → t = q.1) : HS b N S0 (md (fun g => pt g r (18 + t) v) S) (pb x (pEntry b N r)) := by
  rw [← en_eq b N r x t he]
  have hv : v = 0 ∨ (50 ≤ v.toInt ∧ v.toInt ≤ 300) := by rw [hw, nI_toInt (by omega)]; omega
  cases hy : prY (en2 b N r x t) (enN b N) with
  | inl e =>
    rw [hy] at h
    have h' : BD b N S0 S e := h
    show BD b N S0 (su S (mr S) (pt (row S) r (18 + t) v)) e
    rw [h'.1.mr, h'.1.row]
    exact h'.dd (VG_prog h'.vg ht hv)
  | inr q =>
    rw [hy] at h
    obtain ⟨⟨h1, h2⟩, h3⟩ := h
    have h3' : GD b N S0 S q.2 := h3
    show GD b N S0 (su S (mr S) (pt (row S) r (18 + t) v)) (q.2.1, pt q.2.2.1 r (18 + q.1.1) (nI q.1.2), q.2.2.2)
    rw [h3'.1.1.mr, h3'.row, ← h1, ← h2]
    exact h3'.dd (VG_prog h3'.vg ht hv)
theorem en_t {b : Nat → Int32} {N r : Nat} {x : PR PST} {t : Nat} {q : (Nat × Nat) × PST} (hz : prY (en2 b N r x t) (enN b N) = .inr q) (ht : ∀ q, yNumH b N 0 47 (pb x (pNext b N)) = .inr q → t = q.1) : t = q.1.1 := by
  have mv : ∀ {y : PR (Nat × PST)} {F : PST → PR PST} {q : Nat × PST}, mvY y F = .inr q → (∀ q, y = .inr q → t = q.1) → t = q.1 := by
    intro y F q h hy
    unfold mvY at h
    cases y with
    | inl e => cases h
    | inr q0 =>
      have h' : pb (F q0.2) (fun s => .inr (q0.1, s)) = .inr q := h
      cases hf : F q0.2 with
      | inl e => rw [hf] at h'; cases h'
      | inr s => rw [hf] at h'; cases h'; exact hy q0 rfl
  unfold prY at hz
  cases he : en2 b N r x t with
  | inl e => rw [he] at hz; cases hz
  | inr q0 =>
    rw [he] at hz
    have h' : pb (enN b N q0.2) (fun r => .inr ((q0.1, r.1), r.2)) = .inr q := hz
    cases hf : enN b N q0.2 with
    | inl e => rw [hf] at h'; cases h'
    | inr s =>
      rw [hf] at h'
      cases h'
      exact mv he (fun q1 h1 => mv h1 (fun q2 h2 => mv h2 (fun q3 h3 => mv h3 ht)))
theorem mm_parseEntry {n r : Nat} {S : SS} {b : Nat → Int32} {N : Nat} {S0 : SS} {x : PR PST} (hn : 279 ≤ n) (hr : r < 6) (h : HS b N S0 S x) : AM yX7_parseEntry cX7_parseEntry 3 none [] 5 0 0 [.ref 267, .int (nI r)] n (Hp S) (PVe n (fun S' => HS b N S0 S' (pb x (pEntry b N r)))) := by
  intro has
  change WA RX7 cX7_parseEntry 3 [] _ _ 0 0 0 [some (.ref 267), some (.int (nI r)), none] [] n _
  refine wa_aload_n dX7_parseEntry_0 rfl ?_
  refine c_VQV dX7_parseEntry_1 (mm_goNext hn h) lk_X7_214 rfl (isO_MO _ _ _) rfl (ltS (by assumption)) (fun S1 h1 => ?_)
  refine wa_aload_n dX7_parseEntry_4 rfl ?_
  refine wa_iconst (x := 0) dX7_parseEntry_5 (by decide) ?_
  refine wa_bipush (x := 47) dX7_parseEntry_6 (by decide) ?_
  refine c_VQI dX7_parseEntry_8 (mm_numberHere (lo := 0) (ho := 47) (by decide) (by decide) hn h1) lk_X7_211 rfl (isO_MO _ _ _) rfl (ltS (by assumption)) (fun v2 S2 h2 => ?_)
  obtain ⟨t, -, ht, rfl, htq⟩ := h2.ex (hi := 47) (by decide) (fun q e => yNumH_le e)
  refine wa_istore_n dX7_parseEntry_11 rfl ?_
  refine wa_aload_n dX7_parseEntry_12 rfl ?_
  refine wa_aload_n dX7_parseEntry_13 rfl ?_
  refine wa_iload_n dX7_parseEntry_14 rfl ?_
  refine wa_iload_n dX7_parseEntry_15 rfl ?_
  refine c_VI dX7_parseEntry_16 (mm_programAt (i := r) (t := t) hn hr (by omega)) lk_X7_72 rfl (isO_MO _ _ _) rfl (ltS (by assumption)) ?_
  rw [show S2.1 (mr S2) (71 + 66 * r + (18 + t)) = pg (row S2) r t from pg_at (g := row S2) (by omega)]
  refine wa_jn (P := ¬ pg (row S2) r t = 0) 26 27 (fun a b => wa_if_le 26 dX7_parseEntry_19 rfl a b) dX7_parseEntry_22 dX7_parseEntry_23 rfl dX7_parseEntry_26 rfl (by rw [← (h2.hs.vg.2.2.2.2 r).pos t]; exact Int32.not_lt.symm) ?_
  refine wa_iconst (x := 3) dX7_parseEntry_27 (by decide) ?_
  refine c_VQV dX7_parseEntry_28 (mm_errsIf (x := dY (yNumH b N 0 47 (pb x (pNext b N)))) hn h2.hs (b2i (¬ pg (row S2) r t = 0)) 3 (fun s => decide (¬ pg s.2.1 r t = 0)) (by decide) (by decide) (fun s' e => by
    have hg : GD b N S0 S2 s' := by have := h2.hs; rw [e] at this; exact this
    rw [hg.row]
    unfold b2i
    by_cases hm : pg s'.2.1 r t = 0
    · rw [if_neg (fun z => z hm), if_neg (by rw [decide_eq_true_iff]; exact fun z => z hm)]
    · rw [if_pos hm, if_pos (decide_eq_true hm)])) lk_X7_270 rfl (isO_MO _ _ _) rfl (ltS (by assumption)) (fun S3 h3 => ?_)
  refine wa_aload_n dX7_parseEntry_31 rfl ?_
  have w3 := h2.w.go h3
  refine c_VQV dX7_parseEntry_32 (mm_goNext hn w3.hs) lk_X7_214 rfl (isO_MO _ _ _) rfl (ltS (by assumption)) (fun S4 h4 => ?_)
  refine wa_aload_n dX7_parseEntry_35 rfl ?_
  refine wa_aload_n dX7_parseEntry_36 rfl ?_
  refine wa_bipush (x := 58) dX7_parseEntry_37 (by decide) ?_
  have w4 := w3.go h4
  refine c_VI dX7_parseEntry_39 (mm_isSign hn w4.hs 58 (by decide) (by decide)) lk_X7_287 rfl (isO_MO _ _ _) rfl (ltS (by assumption)) ?_
  refine wa_jn (P := ¬ sx b N 58 (dY (mvY (mvY (yNumH b N 0 47 (pb x (pNext b N))) (fun s => pErr 3 (decide (¬ pg s.2.1 r t = 0)) s)) (pNext b N))) = true) 49 50 (fun a b => wa_if_ne 49 dX7_parseEntry_42 rfl a (fun c => b (fun z => z c))) dX7_parseEntry_45 dX7_parseEntry_46 rfl dX7_parseEntry_49 rfl ⟨fun z q => q (b2i_t z), fun z => by rw [b2i_1 (Classical.not_not.mp z)]; decide⟩ ?_
  refine wa_iconst (x := 1) dX7_parseEntry_50 (by decide) ?_
  refine c_VQV dX7_parseEntry_51 (mm_errsIf hn w4.hs _ 1 (fun s => !isS b N 58 s.1) (by decide) (by decide) (fun s' e => by
    rw [e]
    show (if ¬ isS b N 58 s'.1 = true then (1 : Int32) else 0) = _
    by_cases hm : isS b N 58 s'.1 = true
    · rw [if_neg (fun z => z hm), if_neg (by rw [hm]; decide)]
    · rw [if_pos hm, if_pos (by rw [Bool.not_eq_true']; exact Bool.not_eq_true _ ▸ hm)])) lk_X7_270 rfl (isO_MO _ _ _) rfl (ltS (by assumption)) (fun S5 h5 => ?_)
  refine wa_aload_n dX7_parseEntry_54 rfl ?_
  have w5 := w4.go h5
  refine c_VQV dX7_parseEntry_55 (mm_goNext hn w5.hs) lk_X7_214 rfl (isO_MO _ _ _) rfl (ltS (by assumption)) (fun S6 h6 => ?_)
  refine wa_aload_n dX7_parseEntry_58 rfl ?_
  refine wa_iload_n dX7_parseEntry_59 rfl ?_
  refine wa_bipush (x := 18) dX7_parseEntry_60 (by decide) ?_
  refine wa_iload_n dX7_parseEntry_62 rfl ?_
  refine wa_iadd dX7_parseEntry_63 ?_
  rw [show (18 : Int32) + nI t = nI (18 + t) from nI_add 18 t]
  refine wa_aload_n dX7_parseEntry_64 rfl ?_
  refine wa_bipush (x := 50) dX7_parseEntry_65 (by decide) ?_
  refine wa_sipush (x := 300) dX7_parseEntry_67 (by decide) ?_
  have w6 : HW b N S0 S6 _ (en2 b N r x t) := w5.go h6
  refine c_VQI dX7_parseEntry_70 (mm_number (lo := 50) (ho := 300) (by decide) (by decide) hn w6.hs) lk_X7_260 rfl (isO_MO _ _ _) rfl (ltS (by assumption)) (fun v S7 h7 => ?_)
  obtain ⟨w, hw1, hw2, hw3, -⟩ := h7.ex (hi := 300) (by decide) (fun q e => yNum_le e)
  have w7 := w6.pr (F := enN b N) h7.w
  refine c_VV dX7_parseEntry_73 (mm_put2 (i := r) (w := 18 + t) hn hr (by omega) v) lk_X7_105 rfl (isO_MO _ _ _) rfl (ltS (by assumption)) ?_
  exact wa_return dX7_parseEntry_76 ⟨Nat.le_refl _, Nat.le_refl _, rfl, rfl, rfl, _, rfl, (en_put hw3 hw1 hw2 (by omega) (by
      cases hz : prY (en2 b N r x t) (enN b N) with
      | inl e => rw [hz] at w7; exact w7
      | inr q => rw [hz] at w7; exact ⟨⟨en_t hz htq, w7.1.2⟩, w7.2⟩) htq)⟩
theorem nx_lt {b : Nat → Int32} {N p : Nat} (h : p < N) : p < nx b N p := nx_gt h
theorem pNumH_lt {b : Nat → Int32} {N lo hi p k : Nat} (h : pNumH b N lo hi p = .inr k) : p < N := by
  unfold pNumH at h
  split at h
  · rename_i ht; exact tk_lt (b := b) (by rw [ht]; decide)
  · cases h
theorem pNum_gt {b : Nat → Int32} {N lo hi p : Nat} {q : Nat × Nat} (h : pNum b N lo hi p = .inr q) : p < q.2 := by
  unfold pNum at h
  cases hp : pNumH b N lo hi p with
  | inl e => rw [hp] at h; cases h
  | inr k => rw [hp] at h; cases h; exact nx_gt (pNumH_lt hp)
theorem pSym_gt {b : Nat → Int32} {N p q : Nat} {c : Int32} (h : pSym b N c p = .inr q) : p < q := by
  unfold pSym at h
  split at h
  · rename_i hs
    cases h
    exact nx_gt (tk_lt (b := b) (by rw [(isS_iff.mp hs).1]; decide))
  · cases h
theorem pEntry_gt {b : Nat → Int32} {N r : Nat} {s s' : PST} (h : pEntry b N r s = .inr s') : s.1 < s'.1 := by
  unfold pEntry at h
  have a0 := nx_ge b N s.1
  cases h1 : pNumH b N 0 47 (nx b N s.1) with
  | inl e => rw [h1] at h; cases h
  | inr t =>
    rw [h1] at h
    have h' : (if pg s.2.1 r t = 0 then pb (pSym b N 58 (nx b N (nx b N s.1))) (fun p => pb (pNum b N 50 300 p) (fun q => .inr (q.2, pt s.2.1 r (18 + t) (nI q.1), s.2.2))) else .inl (3, nx b N s.1)) = .inr s' := h
    split at h'
    · have a1 := nx_ge b N (nx b N s.1)
      cases h2 : pSym b N 58 (nx b N (nx b N s.1)) with
      | inl e => rw [h2] at h'; cases h'
      | inr p =>
        rw [h2] at h'
        have h3 : pb (pNum b N 50 300 p) (fun q => .inr (q.2, pt s.2.1 r (18 + t) (nI q.1), s.2.2)) = .inr s' := h'
        have a2 := pSym_gt h2
        cases h4 : pNum b N 50 300 p with
        | inl e => rw [h4] at h3; cases h3
        | inr q => rw [h4] at h3; cases h3; have a3 := pNum_gt h4; show s.1 < q.2; omega
    · cases h'
def pLoop (b : Nat → Int32) (N r f : Nat) (s : PST) : PR PST := if isS b N 44 s.1 then pEntries b N r f s else .inr s
theorem pEntries_s (b : Nat → Int32) (N r f : Nat) (s : PST) : pEntries b N r (f + 1) s = pb (pEntry b N r s) (pLoop b N r f) := rfl
theorem lp_entries2 {Q : ab_Q} {n r : Nat} {b : Nat → Int32} {N : Nat} {S0 : SS} (hn : 279 ≤ n) (hr : r < 6) : ∀ (f : Nat) (y : PR PST) (S : SS), HS b N S0 S y → (∀ s, y = .inr s → N - s.1 ≤ f) → (∀ S', HS b N S0 S' (pb (pb y (pLoop b N r f)) (pEnd b N)) → Q (.inl none) 0 0 n (Hp S')) → WA RX7 cX7_parseProgram 2 [] (ab_rm 9 0 0) Q 0 0 47 [some (.ref 267), some (.int (nI r))] [] n (Hp S) := by
  intro f
  induction f with
  | zero =>
    intro y S h hf hQ
    refine wa_aload_n dX7_parseProgram_47 rfl ?_
    refine wa_bipush (x := 44) dX7_parseProgram_48 (by decide) ?_
    refine c_VI dX7_parseProgram_50 (mm_isSign hn h 44 (by decide) (by decide)) lk_X7_287 rfl (isO_MO _ _ _) rfl (ltS (by assumption)) ?_
    refine wa_if_eq 64 dX7_parseProgram_53 rfl (fun c53 => ?_) (fun c53 => ?_)
    · refine wa_aload_n dX7_parseProgram_64 rfl ?_
      refine c_VQV dX7_parseProgram_65 (mm_semicolon hn h) lk_X7_290 rfl (isO_MO _ _ _) rfl (ltS (by assumption)) (fun S9 h9 => ?_)
      have e0 : pb y (pLoop b N r (0)) = y := by
        cases y with
        | inl e => rfl
        | inr s => exact if_neg (fun z => b2i_f c53 z)
      rw [e0] at hQ
      exact wa_return dX7_parseProgram_68 (hQ _ h9)
    · refine wa_aload_n dX7_parseProgram_56 rfl ?_
      refine wa_iload_n dX7_parseProgram_57 rfl ?_
      refine c_VQV dX7_parseProgram_58 (mm_parseEntry hn hr h) lk_X7_303 rfl (isO_MO _ _ _) rfl (ltS (by assumption)) (fun S1 h1 => ?_)
      refine wa_goto 47 dX7_parseProgram_61 rfl ?_
      cases y with
      | inl e => exact absurd (b2i_t c53) (fun z => by cases z)
      | inr s =>
        have h5 : isS b N 44 s.1 = true := b2i_t c53
        have := tk_lt (b := b) (N := N) (p := s.1) (by rw [(isS_iff.mp h5).1]; decide)
        have := hf s rfl
        omega
  | succ f ih =>
    intro y S h hf hQ
    refine wa_aload_n dX7_parseProgram_47 rfl ?_
    refine wa_bipush (x := 44) dX7_parseProgram_48 (by decide) ?_
    refine c_VI dX7_parseProgram_50 (mm_isSign hn h 44 (by decide) (by decide)) lk_X7_287 rfl (isO_MO _ _ _) rfl (ltS (by assumption)) ?_
    refine wa_if_eq 64 dX7_parseProgram_53 rfl (fun c53 => ?_) (fun c53 => ?_)
    · refine wa_aload_n dX7_parseProgram_64 rfl ?_
      refine c_VQV dX7_parseProgram_65 (mm_semicolon hn h) lk_X7_290 rfl (isO_MO _ _ _) rfl (ltS (by assumption)) (fun S9 h9 => ?_)
      have e0 : pb y (pLoop b N r (f + 1)) = y := by
        cases y with
        | inl e => rfl
        | inr s => exact if_neg (fun z => b2i_f c53 z)
      rw [e0] at hQ
      exact wa_return dX7_parseProgram_68 (hQ _ h9)
    · refine wa_aload_n dX7_parseProgram_56 rfl ?_
      refine wa_iload_n dX7_parseProgram_57 rfl ?_
      refine c_VQV dX7_parseProgram_58 (mm_parseEntry hn hr h) lk_X7_303 rfl (isO_MO _ _ _) rfl (ltS (by assumption)) (fun S1 h1 => ?_)
      refine wa_goto 47 dX7_parseProgram_61 rfl ?_
      cases y with
      | inl e => exact absurd (b2i_t c53) (fun z => by cases z)
      | inr s =>
        have h5 : isS b N 44 s.1 = true := b2i_t c53
        have h6 := tk_lt (b := b) (N := N) (p := s.1) (by rw [(isS_iff.mp h5).1]; decide)
        have h7 := hf s rfl
        have e1 : pb (.inr s) (pLoop b N r (f + 1)) = pb (pEntry b N r s) (pLoop b N r f) := if_pos h5
        rw [e1] at hQ
        exact ih (pEntry b N r s) S1 h1 (fun s' e => by have := pEntry_gt e; omega) hQ
def prF (b : Nat → Int32) (N r : Nat) (s : PST) : PR PST := pErr 3 (decide (¬ cnt (pg s.2.1 r) 48 = 0)) s
theorem prog_tail {Q : ab_Q} {n r : Nat} {S : SS} {b : Nat → Int32} {N : Nat} {S0 : SS} {s : PST} (hn : 279 ≤ n) (hr : r < 6) (h : GD b N S0 S s) (hQ : ∀ S', HS b N S0 S' (pb (pEntries b N r (N + 1) s) (pEnd b N)) → Q (.inl none) 0 0 n (Hp S')) : WA RX7 cX7_parseProgram 2 [] (ab_rm 9 0 0) Q 0 0 42 [some (.ref 267), some (.int (nI r))] [] n (Hp S) := by
  refine wa_aload_n dX7_parseProgram_42 rfl ?_
  refine wa_iload_n dX7_parseProgram_43 rfl ?_
  refine c_VQV dX7_parseProgram_44 (mm_parseEntry (x := .inr s) hn hr h) lk_X7_303 rfl (isO_MO _ _ _) rfl (ltS (by assumption)) (fun S1 h1 => ?_)
  refine lp_entries2 hn hr N (pEntry b N r s) S1 h1 (fun s' e => by omega) (fun S9 h9 => hQ S9 ?_)
  rw [pEntries_s]
  exact h9
theorem yRoom_6 {b : Nat → Int32} {N : Nat} {x : PR PST} {q : Nat × PST} (h : yRoom b N x = .inr q) : q.1 < rn q.2.2.1 := by
  cases x with
  | inl e => cases h
  | inr s =>
    have h' : pb (pb (pName b N s.1) (fun x => if rnm s.2.1 x = -1 then .inl (4, s.1) else .inr (rnm s.2.1 x).toInt.toNat)) (fun r => .inr (r, s)) = .inr q := h
    cases hp : pName b N s.1 with
    | inl e => rw [hp] at h'; cases h'
    | inr k =>
      rw [hp] at h'
      have h2 : pb (if rnm s.2.1 k = -1 then (.inl (4, s.1) : PR Nat) else .inr (rnm s.2.1 k).toInt.toNat) (fun r => .inr (r, s)) = .inr q := h'
      by_cases hm : rnm s.2.1 k = -1
      · rw [if_pos hm] at h2; cases h2
      · rw [if_neg hm] at h2
        cases h2
        rcases rnm_cases s.2.1 k with e | ⟨i, hi, e⟩
        · exact absurd e hm
        · show (rnm s.2.1 k).toInt.toNat < rn s.2.1
          have : rn s.2.1 < 2 ^ 31 := by unfold rn; have := (s.2.1 0).toInt_lt; omega
          rw [e, nI_toInt (by omega)]
          exact hi
theorem prog_e (b : Nat → Int32) (N : Nat) (s : PST) : pProgram b N s = pb (yRoom b N (pNext b N s)) (fun q => if cnt (pg q.2.2.1 q.1) 48 = 0 then pb (pEntries b N q.1 (N + 1) q.2) (pEnd b N) else .inl (3, q.2.1)) := by
  show pb (pRoom b N s.2.1 (nx b N s.1)) _ = pb (pb (pRoom b N s.2.1 (nx b N s.1)) _) _
  cases pRoom b N s.2.1 (nx b N s.1) <;> rfl
theorem mm_parseProgram {n : Nat} {S : SS} {b : Nat → Int32} {N : Nat} {S0 : SS} {x : PR PST} (hn : 279 ≤ n) (h : HS b N S0 S x) : AM yX7_parseProgram cX7_parseProgram 2 none [] 9 0 0 [.ref 267] n (Hp S) (PVe n (fun S' => HS b N S0 S' (pb x (pProgram b N)))) := by
  intro has
  change WA RX7 cX7_parseProgram 2 [] _ _ 0 0 0 [some (.ref 267), none] [] n _
  refine wa_aload_n dX7_parseProgram_0 rfl ?_
  refine c_VQV dX7_parseProgram_1 (mm_goNext hn h) lk_X7_214 rfl (isO_MO _ _ _) rfl (ltS (by assumption)) (fun S1 h1 => ?_)
  refine wa_aload_n dX7_parseProgram_4 rfl ?_
  refine c_VQI dX7_parseProgram_5 (mm_roomHere hn h1) lk_X7_297 rfl (isO_MO _ _ _) rfl (ltS (by assumption)) (fun v S2 h2 => ?_)
  have hz : pb x (pProgram b N) = pb (yRoom b N (pb x (pNext b N))) (fun q => if cnt (pg q.2.2.1 q.1) 48 = 0 then pb (pEntries b N q.1 (N + 1) q.2) (pEnd b N) else .inl (3, q.2.1)) := by
    cases x with
    | inl e => rfl
    | inr s => exact prog_e b N s
  rw [hz]
  cases hy : yRoom b N (pb x (pNext b N)) with
  | inl e =>
    rw [hy] at h2
    have h2b : BD b N S0 S2 e := h2.2
    have hv : v = nI 0 := h2.1
    rw [hv]
    have hE : ∀ S', HS b N S0 S' (.inl e) → HS b N S0 S' (.inl e) := fun _ h => h
    refine wa_istore_n dX7_parseProgram_8 rfl ?_
    refine wa_aload_n dX7_parseProgram_9 rfl ?_
    refine wa_aload_n dX7_parseProgram_10 rfl ?_
    refine c_VI dX7_parseProgram_11 (mm_good hn) lk_X7_165 rfl (isO_MO _ _ _) rfl (ltS (by assumption)) ?_
    rw [b2i_0 h2b.n0]
    refine wa_if_eq 29 dX7_parseProgram_14 rfl (fun c14 => ?_) (fun c14 => absurd rfl c14)
    refine wa_iconst (x := 0) dX7_parseProgram_29 (by decide) ?_
    refine wa_iconst (x := 3) dX7_parseProgram_30 (by decide) ?_
    refine c_VQV dX7_parseProgram_31 (mm_errsIf (x := .inl e) hn h2b 0 3 (fun _ => false) (by decide) (by decide) (fun s' e => by cases e)) lk_X7_270 rfl (isO_MO _ _ _) rfl (ltS (by assumption)) (fun S3 h3 => ?_)
    refine wa_aload_n dX7_parseProgram_34 rfl ?_
    refine c_VI dX7_parseProgram_35 (mm_good hn) lk_X7_165 rfl (isO_MO _ _ _) rfl (ltS (by assumption)) ?_
    rw [b2i_0 (BD.n0 (b := b) (N := N) (S0 := S0) (e := e) h3)]
    refine wa_if_ne 42 dX7_parseProgram_38 rfl (fun c38 => absurd rfl c38) (fun c38 => ?_)
    exact wa_return dX7_parseProgram_41 ⟨Nat.le_refl _, Nat.le_refl _, rfl, rfl, rfl, _, rfl, (hE _ h3)⟩
  | inr q =>
    rw [hy] at h2
    have h2g : v = nI q.1 ∧ GD b N S0 S2 q.2 := h2
    have hq6 : q.1 < 6 := by have a1 := yRoom_6 hy; have a2 := (VG_rn (T := 0) h2g.2.vg).2; omega
    have hG : cnt (pg q.2.2.1 q.1) 48 = 0 → ∀ S', HS b N S0 S' (pb (pEntries b N q.1 (N + 1) q.2) (pEnd b N)) → HS b N S0 S' (if cnt (pg q.2.2.1 q.1) 48 = 0 then pb (pEntries b N q.1 (N + 1) q.2) (pEnd b N) else .inl (3, q.2.1)) := fun hc S' h => by rw [if_pos hc]; exact h
    have hN : ¬ cnt (pg q.2.2.1 q.1) 48 = 0 → ∀ S', BD b N S0 S' (3, q.2.1) → HS b N S0 S' (if cnt (pg q.2.2.1 q.1) 48 = 0 then pb (pEntries b N q.1 (N + 1) q.2) (pEnd b N) else .inl (3, q.2.1)) := fun hc S' h => by rw [if_neg hc]; exact h
    rw [h2g.1]
    refine wa_istore_n dX7_parseProgram_8 rfl ?_
    refine wa_aload_n dX7_parseProgram_9 rfl ?_
    refine wa_aload_n dX7_parseProgram_10 rfl ?_
    refine c_VI dX7_parseProgram_11 (mm_good hn) lk_X7_165 rfl (isO_MO _ _ _) rfl (ltS (by assumption)) ?_
    rw [b2i_1 h2g.2.g0]
    refine wa_if_eq 29 dX7_parseProgram_14 rfl (fun c14 => absurd c14 (by decide)) (fun c14 => ?_)
    refine wa_aload_n dX7_parseProgram_17 rfl ?_
    refine wa_iload_n dX7_parseProgram_18 rfl ?_
    refine c_VI dX7_parseProgram_19 (mm_entries (T := 0) (i := q.1) hn hq6 (by rw [h2g.2.row]; exact h2g.2.vg)) lk_X7_300 rfl (isO_MO _ _ _) rfl (ltS (by assumption)) ?_
    rw [h2g.2.row]
    refine wa_jn (P := ¬ cnt (pg q.2.2.1 q.1) 48 = 0) 29 30 (fun a b => wa_if_le 29 dX7_parseProgram_22 rfl a b) dX7_parseProgram_25 dX7_parseProgram_26 rfl dX7_parseProgram_29 rfl (by rw [show (0 : Int32) = nI 0 from rfl, nI_leI (by have := cnt_le (pg q.2.2.1 q.1) 48; omega) (by decide)]; omega) ?_
    refine wa_iconst (x := 3) dX7_parseProgram_30 (by decide) ?_
    refine c_VQV dX7_parseProgram_31 (mm_errsIf (x := .inr q.2) hn h2g.2 (b2i (¬ cnt (pg q.2.2.1 q.1) 48 = 0)) 3 (fun s => decide (¬ cnt (pg s.2.1 q.1) 48 = 0)) (by decide) (by decide) (fun s' e => by
      cases e
      unfold b2i
      by_cases hm : cnt (pg q.2.2.1 q.1) 48 = 0
      · rw [if_neg (fun z => z hm), if_neg (by rw [decide_eq_true_iff]; exact fun z => z hm)]
      · rw [if_pos hm, if_pos (decide_eq_true hm)])) lk_X7_270 rfl (isO_MO _ _ _) rfl (ltS (by assumption)) (fun S3 h3 => ?_)
    have h3' : HS b N S0 S3 (pErr 3 (decide (¬ cnt (pg q.2.2.1 q.1) 48 = 0)) q.2) := h3
    unfold pErr at h3'
    by_cases hc : cnt (pg q.2.2.1 q.1) 48 = 0
    · rw [if_neg (by rw [decide_eq_true_iff]; exact fun z => z hc)] at h3'
      refine wa_aload_n dX7_parseProgram_34 rfl ?_
      refine c_VI dX7_parseProgram_35 (mm_good hn) lk_X7_165 rfl (isO_MO _ _ _) rfl (ltS (by assumption)) ?_
      rw [b2i_1 (GD.g0 (b := b) (N := N) (S0 := S0) (s := q.2) h3')]
      refine wa_if_ne 42 dX7_parseProgram_38 rfl (fun c38 => ?_) (fun c38 => absurd c38 (by decide))
      exact prog_tail (s := q.2) hn hq6 h3' (fun S9 h9 => ⟨Nat.le_refl _, Nat.le_refl _, rfl, rfl, rfl, _, rfl, hG hc S9 h9⟩)
    · rw [if_pos (decide_eq_true hc)] at h3'
      refine wa_aload_n dX7_parseProgram_34 rfl ?_
      refine c_VI dX7_parseProgram_35 (mm_good hn) lk_X7_165 rfl (isO_MO _ _ _) rfl (ltS (by assumption)) ?_
      rw [b2i_0 (BD.n0 (b := b) (N := N) (S0 := S0) (e := (3, q.2.1)) h3')]
      refine wa_if_ne 42 dX7_parseProgram_38 rfl (fun c38 => absurd rfl c38) (fun c38 => ?_)
      exact wa_return dX7_parseProgram_41 ⟨Nat.le_refl _, Nat.le_refl _, rfl, rfl, rfl, _, rfl, (hN hc _ h3')⟩
