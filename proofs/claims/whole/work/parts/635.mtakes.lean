/-! ValveRoomModel: numbers, words, names that are taken. Written by program (wip/whole/gen/m635.py) but for the heads. -/
/-- an int and the state behind it; L: what the int is when an error is told -/
def HV {α : Type} (b : Nat → Int32) (N : Nat) (S0 S : SS) (L : Int32 → Prop) (V : α → Int32) (y : PR (α × PST)) (v : Int32) : Prop := match y with
  | .inl e => L v ∧ BD b N S0 S e
  | .inr q => v = V q.1 ∧ GD b N S0 S q.2
def dY {α : Type} (y : PR (α × PST)) : PR PST := pb y (fun q => .inr q.2)
theorem HV.hs {α : Type} {b : Nat → Int32} {N : Nat} {S0 S : SS} {L : Int32 → Prop} {V : α → Int32} {y : PR (α × PST)} {v : Int32} (h : HV b N S0 S L V y v) : HS b N S0 S (dY y) := by
  cases y with
  | inl e => exact h.2
  | inr q => exact h.2
/-- the value kept, the state one step further -/
def mvY {α : Type} (y : PR (α × PST)) (F : PST → PR PST) : PR (α × PST) := pb y (fun q => pb (F q.2) (fun s => .inr (q.1, s)))
theorem HV.go {α : Type} {b : Nat → Int32} {N : Nat} {S0 S S' : SS} {L : Int32 → Prop} {V : α → Int32} {y : PR (α × PST)} {v : Int32} (h : HV b N S0 S L V y v) {F : PST → PR PST} (hL : ∀ q, y = .inr q → (∃ s, F q.2 = .inr s) ∨ L v) (h' : HS b N S0 S' (pb (dY y) F)) : HV b N S0 S' L V (mvY y F) v := by
  cases y with
  | inl e => exact ⟨h.1, h'⟩
  | inr q =>
    have h2 : HS b N S0 S' (F q.2) := h'
    show HV b N S0 S' L V (pb (F q.2) (fun s => .inr (q.1, s))) v
    cases hF : F q.2 with
    | inl e =>
      rw [hF] at h2
      rcases hL q rfl with ⟨s, hs⟩ | hl
      · rw [hF] at hs; cases hs
      · exact ⟨hl, h2⟩
    | inr s =>
      rw [hF] at h2
      exact ⟨h.1, h2⟩
def yNumH (b : Nat → Int32) (N lo hi : Nat) (x : PR PST) : PR (Nat × PST) := pb x (fun s => pb (pNumH b N lo hi s.1) (fun k => .inr (k, s)))
def yNum (b : Nat → Int32) (N lo hi : Nat) (x : PR PST) : PR (Nat × PST) := pb x (fun s => pb (pNum b N lo hi s.1) (fun q => .inr (q.1, (q.2, s.2))))
theorem yNum_mv (b : Nat → Int32) (N lo hi : Nat) (x : PR PST) : mvY (yNumH b N lo hi x) (pNext b N) = yNum b N lo hi x := by
  cases x with
  | inl e => rfl
  | inr s =>
    show mvY (pb (pNumH b N lo hi s.1) _) _ = pb (pb (pNumH b N lo hi s.1) _) _
    cases pNumH b N lo hi s.1 <;> rfl
theorem vl_le (b : Nat → Int32) (N p : Nat) : vl b N p ≤ 99999 := nv_le _ _ _ _
theorem nh_b1 {Q : ab_Q} {n lo ho : Nat} {S : SS} {b : Nat → Int32} {N : Nat} {S0 : SS} {e : Nat × Nat} (hn : 279 ≤ n) (h : BD b N S0 S e) (hQ : Q (.inl (some (.int (nI lo)))) 0 0 n (Hp S)) : WA RX7 cX7_numberHere 3 [] (ab_rm 2 0 0) Q 0 0 47 [some (.ref 267), some (.int (nI lo)), some (.int (nI ho))] [] n (Hp S) := by
  refine wa_aload_n dX7_numberHere_47 rfl ?_
  refine c_VI dX7_numberHere_48 (mm_good hn) lk_X7_165 rfl (isO_MO _ _ _) rfl (ltS (by assumption)) ?_
  rw [b2i_0 h.n0]
  refine wa_if_eq 61 dX7_numberHere_51 rfl (fun c51 => ?_) (fun c51 => absurd rfl c51)
  refine wa_iload_n dX7_numberHere_61 rfl ?_
  exact wa_ireturn dX7_numberHere_62 hQ
theorem nh_b2 {Q : ab_Q} {n lo ho : Nat} {S : SS} {b : Nat → Int32} {N : Nat} {S0 : SS} {e : Nat × Nat} (hn : 279 ≤ n) (h : BD b N S0 S e) (hQ : Q (.inl (some (.int (nI lo)))) 0 0 n (Hp S)) : WA RX7 cX7_numberHere 3 [] (ab_rm 2 0 0) Q 0 0 20 [some (.ref 267), some (.int (nI lo)), some (.int (nI ho))] [] n (Hp S) := by
  refine wa_aload_n dX7_numberHere_20 rfl ?_
  refine c_VI dX7_numberHere_21 (mm_good hn) lk_X7_165 rfl (isO_MO _ _ _) rfl (ltS (by assumption)) ?_
  rw [b2i_0 h.n0]
  refine wa_if_eq 47 dX7_numberHere_24 rfl (fun c24 => ?_) (fun c24 => absurd rfl c24)
  exact nh_b1 hn h hQ
theorem nh_g1 {Q : ab_Q} {n lo ho : Nat} {S : SS} {b : Nat → Int32} {N : Nat} {S0 : SS} {s : PST} (hn : 279 ≤ n) (h : GD b N S0 S s) (ht : tk b N s.1 = 2) (hQ : Q (.inl (some (.int (nI (vl b N s.1))))) 0 0 n (Hp S)) : WA RX7 cX7_numberHere 3 [] (ab_rm 2 0 0) Q 0 0 47 [some (.ref 267), some (.int (nI lo)), some (.int (nI ho))] [] n (Hp S) := by
  refine wa_aload_n dX7_numberHere_47 rfl ?_
  refine c_VI dX7_numberHere_48 (mm_good hn) lk_X7_165 rfl (isO_MO _ _ _) rfl (ltS (by assumption)) ?_
  rw [b2i_1 h.g0]
  refine wa_if_eq 61 dX7_numberHere_51 rfl (fun c51 => absurd c51 (by decide)) (fun c51 => ?_)
  refine wa_aload_n dX7_numberHere_54 rfl ?_
  refine g_MO (by assumption) 11 dX7_numberHere_55 fl_X7_192 (by decide) rfl ?_
  rw [h.num ht]
  refine wa_goto 62 dX7_numberHere_58 rfl ?_
  exact wa_ireturn dX7_numberHere_62 hQ
theorem nh_g2 {Q : ab_Q} {n : Nat} {S : SS} {b : Nat → Int32} {N : Nat} {S0 : SS} {s : PST} {lo ho : Nat} (hlo : lo ≤ 9999) (hho : ho ≤ 9999) (hn : 279 ≤ n) (h : GD b N S0 S s) (ht : tk b N s.1 = 2) (hG : lo ≤ vl b N s.1 ∧ vl b N s.1 ≤ ho → Q (.inl (some (.int (nI (vl b N s.1))))) 0 0 n (Hp S)) (hB : ¬ (lo ≤ vl b N s.1 ∧ vl b N s.1 ≤ ho) → ∀ S', BD b N S0 S' (2, s.1) → Q (.inl (some (.int (nI lo)))) 0 0 n (Hp S')) : WA RX7 cX7_numberHere 3 [] (ab_rm 2 0 0) Q 0 0 20 [some (.ref 267), some (.int (nI lo)), some (.int (nI ho))] [] n (Hp S) := by
  refine wa_aload_n dX7_numberHere_20 rfl ?_
  refine c_VI dX7_numberHere_21 (mm_good hn) lk_X7_165 rfl (isO_MO _ _ _) rfl (ltS (by assumption)) ?_
  rw [b2i_1 h.g0]
  refine wa_if_eq 47 dX7_numberHere_24 rfl (fun c24 => absurd c24 (by decide)) (fun c24 => ?_)
  refine wa_aload_n dX7_numberHere_27 rfl ?_
  refine g_MO (by assumption) 11 dX7_numberHere_28 fl_X7_192 (by decide) rfl ?_
  rw [h.num ht]
  refine wa_i2l dX7_numberHere_31 ?_
  refine wa_iload_n dX7_numberHere_32 rfl ?_
  refine wa_i2l dX7_numberHere_33 ?_
  refine wa_iload_n dX7_numberHere_34 rfl ?_
  refine wa_i2l dX7_numberHere_35 ?_
  refine c_SI dX7_numberHere_36 (mm_inI (a := nI (vl b N s.1)) (b := nI lo) (c := nI ho) rfl rfl) lk_X7_60 rfl ?_
  refine wa_if_ne 47 dX7_numberHere_39 rfl (fun c39 => ?_) (fun c39 => ?_)
  · first
    | (have hr : ¬ (lo ≤ vl b N s.1 ∧ vl b N s.1 ≤ ho) := fun z => by
         have q := b2i_f c39
         exact q ⟨nI_le z.1 (by have := vl_le b N s.1; omega), nI_le z.2 (by omega)⟩
       exact nh_b1 hn hb (hB hr _ hb))
    | (have hr : lo ≤ vl b N s.1 ∧ vl b N s.1 ≤ ho := by
         have q := b2i_t c39
         exact ⟨(nI_leI (by omega) (by have := vl_le b N s.1; omega)).mp q.1, (nI_leI (by have := vl_le b N s.1; omega) (by omega)).mp q.2⟩
       exact nh_g1 hn h ht (hG hr))
  · refine wa_aload_n dX7_numberHere_42 rfl ?_
    refine wa_iconst (x := 2) dX7_numberHere_43 (by decide) ?_
    refine c_VV dX7_numberHere_44 (mm_errs_g hn h.g0 (nI 2)) lk_X7_208 rfl (isO_MO _ _ _) rfl (ltS (by assumption)) ?_
    have hb := h.er (c := 2) (by decide) (by decide)
    first
    | (have hr : ¬ (lo ≤ vl b N s.1 ∧ vl b N s.1 ≤ ho) := fun z => by
         have q := b2i_f c39
         exact q ⟨nI_le z.1 (by have := vl_le b N s.1; omega), nI_le z.2 (by omega)⟩
       exact nh_b1 hn hb (hB hr _ hb))
    | (have hr : lo ≤ vl b N s.1 ∧ vl b N s.1 ≤ ho := by
         have q := b2i_t c39
         exact ⟨(nI_leI (by omega) (by have := vl_le b N s.1; omega)).mp q.1, (nI_leI (by have := vl_le b N s.1; omega) (by omega)).mp q.2⟩
       exact nh_g1 hn h ht (hG hr))
theorem mm_numberHere {n : Nat} {S : SS} {b : Nat → Int32} {N : Nat} {S0 : SS} {x : PR PST} {lo ho : Nat} (hlo : lo ≤ 9999) (hho : ho ≤ 9999) (hn : 279 ≤ n) (h : HS b N S0 S x) : AM yX7_numberHere cX7_numberHere 3 (some .int) [] 2 0 0 [.ref 267, .int (nI lo), .int (nI ho)] n (Hp S) (PIe n (fun v S' => HV b N S0 S' (fun v => v = nI lo) nI (yNumH b N lo ho x) v)) := by
  cases x with
  | inl e =>
    intro has
    change WA RX7 cX7_numberHere 3 [] _ _ 0 0 0 [some (.ref 267), some (.int (nI lo)), some (.int (nI ho))] [] n _
    replace h : BD b N S0 S e := h
    refine wa_aload_n dX7_numberHere_0 rfl ?_
    refine c_VI dX7_numberHere_1 (mm_good hn) lk_X7_165 rfl (isO_MO _ _ _) rfl (ltS (by assumption)) ?_
    rw [b2i_0 h.n0]
    refine wa_if_eq 20 dX7_numberHere_4 rfl (fun c4 => ?_) (fun c4 => absurd rfl c4)
    exact nh_b2 hn h ⟨Nat.le_refl _, Nat.le_refl _, ⟨_, rfl, rfl⟩, rfl, _, _, rfl, rfl, ⟨rfl, h⟩⟩
  | inr s =>
    intro has
    change WA RX7 cX7_numberHere 3 [] _ _ 0 0 0 [some (.ref 267), some (.int (nI lo)), some (.int (nI ho))] [] n _
    replace h : GD b N S0 S s := h
    have ht3 := tk_3 b N s.1
    refine wa_aload_n dX7_numberHere_0 rfl ?_
    refine c_VI dX7_numberHere_1 (mm_good hn) lk_X7_165 rfl (isO_MO _ _ _) rfl (ltS (by assumption)) ?_
    rw [b2i_1 h.g0]
    refine wa_if_eq 20 dX7_numberHere_4 rfl (fun c4 => absurd c4 (by decide)) (fun c4 => ?_)
    refine wa_aload_n dX7_numberHere_7 rfl ?_
    refine g_MO (by assumption) 10 dX7_numberHere_8 fl_X7_181 (by decide) rfl ?_
    rw [h.tok]
    refine wa_iconst (x := 2) dX7_numberHere_11 (by decide) ?_
    refine wa_icmp_eq 20 dX7_numberHere_12 rfl (fun c12 => ?_) (fun c12 => ?_)
    · first
      | (have ht : ¬ tk b N s.1 = 2 := fun z => c12 (by rw [z]; rfl)
         exact nh_b2 hn hb ⟨Nat.le_refl _, Nat.le_refl _, ⟨_, rfl, rfl⟩, rfl, _, _, rfl, rfl, by
           show HV b N S0 _ _ nI (pb (pNumH b N lo ho s.1) _) _
           unfold pNumH
           rw [if_neg ht]
           exact ⟨rfl, hb⟩⟩)
      | (have ht : tk b N s.1 = 2 := (nI_eq (a := tk b N s.1) (b := 2) (by omega) (by decide)).mp c12
         exact nh_g2 hlo hho hn h ht (fun hr => ⟨Nat.le_refl _, Nat.le_refl _, ⟨_, rfl, rfl⟩, rfl, _, _, rfl, rfl, by
           show HV b N S0 _ _ nI (pb (pNumH b N lo ho s.1) _) _
           unfold pNumH
           rw [if_pos ht, if_pos hr]
           exact ⟨rfl, h⟩⟩) (fun hr S' hb => ⟨Nat.le_refl _, Nat.le_refl _, ⟨_, rfl, rfl⟩, rfl, _, _, rfl, rfl, by
           show HV b N S0 _ _ nI (pb (pNumH b N lo ho s.1) _) _
           unfold pNumH
           rw [if_pos ht, if_neg hr]
           exact ⟨rfl, hb⟩⟩))
    · refine wa_aload_n dX7_numberHere_15 rfl ?_
      refine wa_iconst (x := 1) dX7_numberHere_16 (by decide) ?_
      refine c_VV dX7_numberHere_17 (mm_errs_g hn h.g0 (nI 1)) lk_X7_208 rfl (isO_MO _ _ _) rfl (ltS (by assumption)) ?_
      have hb := h.er (c := 1) (by decide) (by decide)
      first
      | (have ht : ¬ tk b N s.1 = 2 := fun z => c12 (by rw [z]; rfl)
         exact nh_b2 hn hb ⟨Nat.le_refl _, Nat.le_refl _, ⟨_, rfl, rfl⟩, rfl, _, _, rfl, rfl, by
           show HV b N S0 _ _ nI (pb (pNumH b N lo ho s.1) _) _
           unfold pNumH
           rw [if_neg ht]
           exact ⟨rfl, hb⟩⟩)
      | (have ht : tk b N s.1 = 2 := (nI_eq (a := tk b N s.1) (b := 2) (by omega) (by decide)).mp c12
         exact nh_g2 hlo hho hn h ht (fun hr => ⟨Nat.le_refl _, Nat.le_refl _, ⟨_, rfl, rfl⟩, rfl, _, _, rfl, rfl, by
           show HV b N S0 _ _ nI (pb (pNumH b N lo ho s.1) _) _
           unfold pNumH
           rw [if_pos ht, if_pos hr]
           exact ⟨rfl, h⟩⟩) (fun hr S' hb => ⟨Nat.le_refl _, Nat.le_refl _, ⟨_, rfl, rfl⟩, rfl, _, _, rfl, rfl, by
           show HV b N S0 _ _ nI (pb (pNumH b N lo ho s.1) _) _
           unfold pNumH
           rw [if_pos ht, if_neg hr]
           exact ⟨rfl, hb⟩⟩))
theorem mm_number {n : Nat} {S : SS} {b : Nat → Int32} {N : Nat} {S0 : SS} {x : PR PST} {lo ho : Nat} (hlo : lo ≤ 9999) (hho : ho ≤ 9999) (hn : 279 ≤ n) (h : HS b N S0 S x) : AM yX7_number cX7_number 4 (some .int) [] 3 0 0 [.ref 267, .int (nI lo), .int (nI ho)] n (Hp S) (PIe n (fun v S' => HV b N S0 S' (fun v => v = nI lo) nI (yNum b N lo ho x) v)) := by
  intro has
  change WA RX7 cX7_number 4 [] _ _ 0 0 0 [some (.ref 267), some (.int (nI lo)), some (.int (nI ho)), none] [] n _
  refine wa_aload_n dX7_number_0 rfl ?_
  refine wa_iload_n dX7_number_1 rfl ?_
  refine wa_iload_n dX7_number_2 rfl ?_
  refine c_VQI dX7_number_3 (mm_numberHere hlo hho hn h) lk_X7_211 rfl (isO_MO _ _ _) rfl (ltS (by assumption)) (fun v S1 h1 => ?_)
  refine wa_istore_n dX7_number_6 rfl ?_
  refine wa_aload_n dX7_number_7 rfl ?_
  refine c_VQV dX7_number_8 (mm_goNext hn h1.hs) lk_X7_214 rfl (isO_MO _ _ _) rfl (ltS (by assumption)) (fun S2 h2 => ?_)
  refine wa_iload_n dX7_number_11 rfl ?_
  exact wa_ireturn dX7_number_12 ⟨Nat.le_refl _, Nat.le_refl _, ⟨_, rfl, rfl⟩, rfl, _, _, rfl, rfl, (by rw [← yNum_mv]; exact h1.go (fun q _ => Or.inl ⟨_, rfl⟩) h2)⟩
def pWordS (b : Nat → Int32) (N i : Nat) (s : PST) : PR PST := pb (pWord b N i s.1) (fun p => .inr (p, s.2))
theorem pWordS_1 {b : Nat → Int32} {N i : Nat} {s : PST} (h : wd b N (kw i) s.1 = true) : pWordS b N i s = pNext b N s := by
  unfold pWordS pWord
  rw [if_pos h]; rfl
theorem pWordS_0 {b : Nat → Int32} {N i : Nat} {s : PST} (h : ¬ wd b N (kw i) s.1 = true) : pWordS b N i s = .inl (1, s.1) := by
  unfold pWordS pWord
  rw [if_neg h]; rfl
theorem mm_takeWord {n i : Nat} {S : SS} {b : Nat → Int32} {N : Nat} {S0 : SS} {x : PR PST} (hn : 279 ≤ n) (hi : i < 18) (h : HS b N S0 S x) : AM yX7_takeWord cX7_takeWord 2 none [] 5 0 0 [.ref 267, .ref (ab_CB + 2 * (19 + i))] n (Hp S) (PVe n (fun S' => HS b N S0 S' (pb x (pWordS b N i)))) := by
  cases x with
  | inl e =>
    intro has
    change WA RX7 cX7_takeWord 2 [] _ _ 0 0 0 [some (.ref 267), some (.ref (ab_CB + 2 * (19 + i)))] [] n _
    replace h : BD b N S0 S e := h
    refine wa_aload_n dX7_takeWord_0 rfl ?_
    refine wa_aload_n dX7_takeWord_1 rfl ?_
    refine c_VI dX7_takeWord_2 (mm_isWord (x := .inl e) hn hi h) lk_X7_217 rfl (isO_MO _ _ _) rfl (ltS (by assumption)) ?_
    refine wa_if_ne 13 dX7_takeWord_5 rfl (fun c5 => absurd rfl c5) (fun c5 => ?_)
    refine wa_aload_n dX7_takeWord_8 rfl ?_
    refine wa_iconst (x := 1) dX7_takeWord_9 (by decide) ?_
    refine c_VV dX7_takeWord_10 (mm_errs_b hn h.n0 1) lk_X7_208 rfl (isO_MO _ _ _) rfl (ltS (by assumption)) ?_
    refine wa_aload_n dX7_takeWord_13 rfl ?_
    refine c_VQV dX7_takeWord_14 (mm_goNext (x := .inl e) hn h) lk_X7_214 rfl (isO_MO _ _ _) rfl (ltS (by assumption)) (fun S2 h2 => ?_)
    exact wa_return dX7_takeWord_17 ⟨Nat.le_refl _, Nat.le_refl _, rfl, rfl, rfl, _, rfl, h2⟩
  | inr s =>
    intro has
    change WA RX7 cX7_takeWord 2 [] _ _ 0 0 0 [some (.ref 267), some (.ref (ab_CB + 2 * (19 + i)))] [] n _
    replace h : GD b N S0 S s := h
    refine wa_aload_n dX7_takeWord_0 rfl ?_
    refine wa_aload_n dX7_takeWord_1 rfl ?_
    refine c_VI dX7_takeWord_2 (mm_isWord (x := .inr s) hn hi h) lk_X7_217 rfl (isO_MO _ _ _) rfl (ltS (by assumption)) ?_
    refine wa_if_ne 13 dX7_takeWord_5 rfl (fun c5 => ?_) (fun c5 => ?_)
    · refine wa_aload_n dX7_takeWord_13 rfl ?_
      first
      | (refine c_VQV dX7_takeWord_14 (mm_goNext (x := .inl (1, s.1)) hn hb) lk_X7_214 rfl (isO_MO _ _ _) rfl (ltS (by assumption)) (fun S2 h2 => ?_))
      | (refine c_VQV dX7_takeWord_14 (mm_goNext (x := .inr s) hn h) lk_X7_214 rfl (isO_MO _ _ _) rfl (ltS (by assumption)) (fun S2 h2 => ?_))
      first
      | exact wa_return dX7_takeWord_17 ⟨Nat.le_refl _, Nat.le_refl _, rfl, rfl, rfl, _, rfl, (by show HS b N S0 _ (pWordS b N i s); rw [pWordS_1 (b2i_t c5)]; exact h2)⟩
      | exact wa_return dX7_takeWord_17 ⟨Nat.le_refl _, Nat.le_refl _, rfl, rfl, rfl, _, rfl, (by show HS b N S0 _ (pWordS b N i s); rw [pWordS_0 (b2i_f c5)]; exact h2)⟩
    · refine wa_aload_n dX7_takeWord_8 rfl ?_
      refine wa_iconst (x := 1) dX7_takeWord_9 (by decide) ?_
      refine c_VV dX7_takeWord_10 (mm_errs_g hn h.g0 (nI 1)) lk_X7_208 rfl (isO_MO _ _ _) rfl (ltS (by assumption)) ?_
      have hb := h.er (c := 1) (by decide) (by decide)
      refine wa_aload_n dX7_takeWord_13 rfl ?_
      first
      | (refine c_VQV dX7_takeWord_14 (mm_goNext (x := .inl (1, s.1)) hn hb) lk_X7_214 rfl (isO_MO _ _ _) rfl (ltS (by assumption)) (fun S2 h2 => ?_))
      | (refine c_VQV dX7_takeWord_14 (mm_goNext (x := .inr s) hn h) lk_X7_214 rfl (isO_MO _ _ _) rfl (ltS (by assumption)) (fun S2 h2 => ?_))
      first
      | exact wa_return dX7_takeWord_17 ⟨Nat.le_refl _, Nat.le_refl _, rfl, rfl, rfl, _, rfl, (by show HS b N S0 _ (pWordS b N i s); rw [pWordS_1 (b2i_t c5)]; exact h2)⟩
      | exact wa_return dX7_takeWord_17 ⟨Nat.le_refl _, Nat.le_refl _, rfl, rfl, rfl, _, rfl, (by show HS b N S0 _ (pWordS b N i s); rw [pWordS_0 (b2i_f c5)]; exact h2)⟩
theorem pEnd_1 {b : Nat → Int32} {N : Nat} {s : PST} (h : isS b N 59 s.1 = true) : pEnd b N s = pNext b N s := by
  unfold pEnd pSym
  rw [if_pos h]; rfl
theorem pEnd_0 {b : Nat → Int32} {N : Nat} {s : PST} (h : ¬ isS b N 59 s.1 = true) : pEnd b N s = .inl (1, s.1) := by
  unfold pEnd pSym
  rw [if_neg h]; rfl
theorem mm_semicolon {n : Nat} {S : SS} {b : Nat → Int32} {N : Nat} {S0 : SS} {x : PR PST} (hn : 279 ≤ n) (h : HS b N S0 S x) : AM yX7_semicolon cX7_semicolon 1 none [] 3 0 0 [.ref 267] n (Hp S) (PVe n (fun S' => HS b N S0 S' (pb x (pEnd b N)))) := by
  cases x with
  | inl e =>
    intro has
    change WA RX7 cX7_semicolon 1 [] _ _ 0 0 0 [some (.ref 267)] [] n _
    replace h : BD b N S0 S e := h
    refine wa_aload_n dX7_semicolon_0 rfl ?_
    refine c_VI dX7_semicolon_1 (mm_good hn) lk_X7_165 rfl (isO_MO _ _ _) rfl (ltS (by assumption)) ?_
    rw [b2i_0 h.n0]
    refine wa_if_eq 24 dX7_semicolon_4 rfl (fun c4 => ?_) (fun c4 => absurd rfl c4)
    refine wa_aload_n dX7_semicolon_24 rfl ?_
    refine wa_iconst (x := 1) dX7_semicolon_25 (by decide) ?_
    refine c_VV dX7_semicolon_26 (mm_errs_b hn h.n0 1) lk_X7_208 rfl (isO_MO _ _ _) rfl (ltS (by assumption)) ?_
    refine wa_aload_n dX7_semicolon_29 rfl ?_
    refine c_VQV dX7_semicolon_30 (mm_goNext (x := .inl e) hn h) lk_X7_214 rfl (isO_MO _ _ _) rfl (ltS (by assumption)) (fun S2 h2 => ?_)
    exact wa_return dX7_semicolon_33 ⟨Nat.le_refl _, Nat.le_refl _, rfl, rfl, rfl, _, rfl, h2⟩
  | inr s =>
    intro has
    change WA RX7 cX7_semicolon 1 [] _ _ 0 0 0 [some (.ref 267)] [] n _
    replace h : GD b N S0 S s := h
    have ht3 := tk_3 b N s.1
    refine wa_aload_n dX7_semicolon_0 rfl ?_
    refine c_VI dX7_semicolon_1 (mm_good hn) lk_X7_165 rfl (isO_MO _ _ _) rfl (ltS (by assumption)) ?_
    rw [b2i_1 h.g0]
    refine wa_if_eq 24 dX7_semicolon_4 rfl (fun c4 => absurd c4 (by decide)) (fun c4 => ?_)
    refine wa_aload_n dX7_semicolon_7 rfl ?_
    refine g_MO (by assumption) 10 dX7_semicolon_8 fl_X7_181 (by decide) rfl ?_
    rw [h.tok]
    refine wa_iconst (x := 3) dX7_semicolon_11 (by decide) ?_
    refine wa_icmp_ne 24 dX7_semicolon_12 rfl (fun c12 => ?_) (fun c12 => ?_)
    · refine wa_aload_n dX7_semicolon_24 rfl ?_
      refine wa_iconst (x := 1) dX7_semicolon_25 (by decide) ?_
      refine c_VV dX7_semicolon_26 (mm_errs_g hn h.g0 (nI 1)) lk_X7_208 rfl (isO_MO _ _ _) rfl (ltS (by assumption)) ?_
      have hb := h.er (c := 1) (by decide) (by decide)
      refine wa_aload_n dX7_semicolon_29 rfl ?_
      first
      | (refine c_VQV dX7_semicolon_30 (mm_goNext (x := .inl (1, s.1)) hn hb) lk_X7_214 rfl (isO_MO _ _ _) rfl (ltS (by assumption)) (fun S2 h2 => ?_))
      | (refine c_VQV dX7_semicolon_30 (mm_goNext (x := .inr s) hn h) lk_X7_214 rfl (isO_MO _ _ _) rfl (ltS (by assumption)) (fun S2 h2 => ?_))
      first
      | exact wa_return dX7_semicolon_33 ⟨Nat.le_refl _, Nat.le_refl _, rfl, rfl, rfl, _, rfl, (by show HS b N S0 _ (pEnd b N s); rw [pEnd_1 (isS_iff.mpr ⟨ht, (sym_u8 h.1.1.by ht (by decide) (by decide)).mp c21⟩)]; exact h2)⟩
      | exact wa_return dX7_semicolon_33 ⟨Nat.le_refl _, Nat.le_refl _, rfl, rfl, rfl, _, rfl, (by show HS b N S0 _ (pEnd b N s); rw [pEnd_0 (fun z => c21 ((sym_u8 h.1.1.by ht (by decide) (by decide)).mpr (isS_iff.mp z).2))]; exact h2)⟩
      | exact wa_return dX7_semicolon_33 ⟨Nat.le_refl _, Nat.le_refl _, rfl, rfl, rfl, _, rfl, (by show HS b N S0 _ (pEnd b N s); rw [pEnd_0 (fun z => c12 (by rw [(isS_iff.mp z).1]; rfl))]; exact h2)⟩
    · refine wa_aload_n dX7_semicolon_15 rfl ?_
      have ht : tk b N s.1 = 3 := (nI_eq (a := tk b N s.1) (b := 3) (by omega) (by decide)).mp c12
      refine g_MO (by assumption) 11 dX7_semicolon_16 fl_X7_192 (by decide) rfl ?_
      rw [h.val ht]
      refine wa_bipush (x := 59) dX7_semicolon_19 (by decide) ?_
      refine wa_icmp_eq 29 dX7_semicolon_21 rfl (fun c21 => ?_) (fun c21 => ?_)
      · refine wa_aload_n dX7_semicolon_29 rfl ?_
        first
        | (refine c_VQV dX7_semicolon_30 (mm_goNext (x := .inl (1, s.1)) hn hb) lk_X7_214 rfl (isO_MO _ _ _) rfl (ltS (by assumption)) (fun S2 h2 => ?_))
        | (refine c_VQV dX7_semicolon_30 (mm_goNext (x := .inr s) hn h) lk_X7_214 rfl (isO_MO _ _ _) rfl (ltS (by assumption)) (fun S2 h2 => ?_))
        first
        | exact wa_return dX7_semicolon_33 ⟨Nat.le_refl _, Nat.le_refl _, rfl, rfl, rfl, _, rfl, (by show HS b N S0 _ (pEnd b N s); rw [pEnd_1 (isS_iff.mpr ⟨ht, (sym_u8 h.1.1.by ht (by decide) (by decide)).mp c21⟩)]; exact h2)⟩
        | exact wa_return dX7_semicolon_33 ⟨Nat.le_refl _, Nat.le_refl _, rfl, rfl, rfl, _, rfl, (by show HS b N S0 _ (pEnd b N s); rw [pEnd_0 (fun z => c21 ((sym_u8 h.1.1.by ht (by decide) (by decide)).mpr (isS_iff.mp z).2))]; exact h2)⟩
        | exact wa_return dX7_semicolon_33 ⟨Nat.le_refl _, Nat.le_refl _, rfl, rfl, rfl, _, rfl, (by show HS b N S0 _ (pEnd b N s); rw [pEnd_0 (fun z => c12 (by rw [(isS_iff.mp z).1]; rfl))]; exact h2)⟩
      · refine wa_aload_n dX7_semicolon_24 rfl ?_
        refine wa_iconst (x := 1) dX7_semicolon_25 (by decide) ?_
        refine c_VV dX7_semicolon_26 (mm_errs_g hn h.g0 (nI 1)) lk_X7_208 rfl (isO_MO _ _ _) rfl (ltS (by assumption)) ?_
        have hb := h.er (c := 1) (by decide) (by decide)
        refine wa_aload_n dX7_semicolon_29 rfl ?_
        first
        | (refine c_VQV dX7_semicolon_30 (mm_goNext (x := .inl (1, s.1)) hn hb) lk_X7_214 rfl (isO_MO _ _ _) rfl (ltS (by assumption)) (fun S2 h2 => ?_))
        | (refine c_VQV dX7_semicolon_30 (mm_goNext (x := .inr s) hn h) lk_X7_214 rfl (isO_MO _ _ _) rfl (ltS (by assumption)) (fun S2 h2 => ?_))
        first
        | exact wa_return dX7_semicolon_33 ⟨Nat.le_refl _, Nat.le_refl _, rfl, rfl, rfl, _, rfl, (by show HS b N S0 _ (pEnd b N s); rw [pEnd_1 (isS_iff.mpr ⟨ht, (sym_u8 h.1.1.by ht (by decide) (by decide)).mp c21⟩)]; exact h2)⟩
        | exact wa_return dX7_semicolon_33 ⟨Nat.le_refl _, Nat.le_refl _, rfl, rfl, rfl, _, rfl, (by show HS b N S0 _ (pEnd b N s); rw [pEnd_0 (fun z => c21 ((sym_u8 h.1.1.by ht (by decide) (by decide)).mpr (isS_iff.mp z).2))]; exact h2)⟩
        | exact wa_return dX7_semicolon_33 ⟨Nat.le_refl _, Nat.le_refl _, rfl, rfl, rfl, _, rfl, (by show HS b N S0 _ (pEnd b N s); rw [pEnd_0 (fun z => c12 (by rw [(isS_iff.mp z).1]; rfl))]; exact h2)⟩
theorem pb_pb {α β γ : Type} (x : PR α) (f : α → PR β) (g : β → PR γ) : pb (pb x f) g = pb x (fun a => pb (f a) g) := by cases x <;> rfl
def yNumA (b : Nat → Int32) (N i lo hi : Nat) (x : PR PST) : PR (Nat × PST) := pb x (fun s => pb (pNumA b N i lo hi s.1) (fun q => .inr (q.1, (q.2, s.2))))
def yNumIf (b : Nat → Int32) (N i pl lo hi : Nat) (x : PR PST) : PR (Nat × PST) := pb x (fun s => pb (pNumIf b N i pl lo hi s.1) (fun q => .inr (q.1, (q.2, s.2))))
theorem yNumA_e (b : Nat → Int32) (N i lo hi : Nat) (x : PR PST) : yNum b N lo hi (pb x (pWordS b N i)) = yNumA b N i lo hi x := by
  unfold yNum yNumA pNumA pWordS
  rw [pb_pb]
  congr 1
  funext s
  rw [pb_pb, pb_pb]
  congr 1
theorem HV.L {α : Type} {b : Nat → Int32} {N : Nat} {S0 S : SS} {L L' : Int32 → Prop} {V : α → Int32} {y : PR (α × PST)} {v : Int32} (h : HV b N S0 S L V y v) (hl : ∀ v, L v → L' v) : HV b N S0 S L' V y v := by
  cases y with
  | inl e => exact ⟨hl v h.1, h.2⟩
  | inr q => exact h
theorem mm_numberAfter {n i : Nat} {S : SS} {b : Nat → Int32} {N : Nat} {S0 : SS} {x : PR PST} {lo ho : Nat} (hlo : lo ≤ 9999) (hho : ho ≤ 9999) (hn : 279 ≤ n) (hi : i < 18) (h : HS b N S0 S x) : AM yX7_numberAfter cX7_numberAfter 4 (some .int) [] 6 0 0 [.ref 267, .ref (ab_CB + 2 * (19 + i)), .int (nI lo), .int (nI ho)] n (Hp S) (PIe n (fun v S' => HV b N S0 S' (fun v => v = nI lo) nI (yNumA b N i lo ho x) v)) := by
  intro has
  change WA RX7 cX7_numberAfter 4 [] _ _ 0 0 0 [some (.ref 267), some (.ref (ab_CB + 2 * (19 + i))), some (.int (nI lo)), some (.int (nI ho))] [] n _
  refine wa_aload_n dX7_numberAfter_0 rfl ?_
  refine wa_aload_n dX7_numberAfter_1 rfl ?_
  refine c_VQV dX7_numberAfter_2 (mm_takeWord hn hi h) lk_X7_256 rfl (isO_MO _ _ _) rfl (ltS (by assumption)) (fun S1 h1 => ?_)
  refine wa_aload_n dX7_numberAfter_5 rfl ?_
  refine wa_iload_n dX7_numberAfter_6 rfl ?_
  refine wa_iload_n dX7_numberAfter_7 rfl ?_
  refine c_VQI dX7_numberAfter_8 (mm_number hlo hho hn h1) lk_X7_260 rfl (isO_MO _ _ _) rfl (ltS (by assumption)) (fun v S2 h2 => ?_)
  exact wa_ireturn dX7_numberAfter_11 ⟨Nat.le_refl _, Nat.le_refl _, ⟨_, rfl, rfl⟩, rfl, _, _, rfl, rfl, (by rw [← yNumA_e]; exact h2)⟩
theorem mm_numberIf {n i pl : Nat} {S : SS} {b : Nat → Int32} {N : Nat} {S0 : SS} {x : PR PST} {lo ho : Nat} (hlo : lo ≤ 9999) (hho : ho ≤ 9999) (hn : 279 ≤ n) (hi : i < 18) (h : HS b N S0 S x) : AM yX7_numberIf cX7_numberIf 5 (some .int) [] 7 0 0 [.ref 267, .ref (ab_CB + 2 * (19 + i)), .int (nI pl), .int (nI lo), .int (nI ho)] n (Hp S) (PIe n (fun v S' => HV b N S0 S' (fun _ => True) nI (yNumIf b N i pl lo ho x) v)) := by
  cases x with
  | inl e =>
    intro has
    change WA RX7 cX7_numberIf 5 [] _ _ 0 0 0 [some (.ref 267), some (.ref (ab_CB + 2 * (19 + i))), some (.int (nI pl)), some (.int (nI lo)), some (.int (nI ho))] [] n _
    replace h : BD b N S0 S e := h
    refine wa_aload_n dX7_numberIf_0 rfl ?_
    refine wa_aload_n dX7_numberIf_1 rfl ?_
    refine c_VI dX7_numberIf_2 (mm_isWord (x := .inl e) hn hi h) lk_X7_217 rfl (isO_MO _ _ _) rfl (ltS (by assumption)) ?_
    refine wa_if_eq 19 dX7_numberIf_5 rfl (fun c5 => ?_) (fun c5 => absurd rfl c5)
    refine wa_iload_n dX7_numberIf_19 rfl ?_
    exact wa_ireturn dX7_numberIf_20 ⟨Nat.le_refl _, Nat.le_refl _, ⟨_, rfl, rfl⟩, rfl, _, _, rfl, rfl, ⟨trivial, h⟩⟩
  | inr s =>
    intro has
    change WA RX7 cX7_numberIf 5 [] _ _ 0 0 0 [some (.ref 267), some (.ref (ab_CB + 2 * (19 + i))), some (.int (nI pl)), some (.int (nI lo)), some (.int (nI ho))] [] n _
    replace h : GD b N S0 S s := h
    refine wa_aload_n dX7_numberIf_0 rfl ?_
    refine wa_aload_n dX7_numberIf_1 rfl ?_
    refine c_VI dX7_numberIf_2 (mm_isWord (x := .inr s) hn hi h) lk_X7_217 rfl (isO_MO _ _ _) rfl (ltS (by assumption)) ?_
    refine wa_if_eq 19 dX7_numberIf_5 rfl (fun c5 => ?_) (fun c5 => ?_)
    · refine wa_iload_n dX7_numberIf_19 rfl ?_
      first
      | exact wa_ireturn dX7_numberIf_20 ⟨Nat.le_refl _, Nat.le_refl _, ⟨_, rfl, rfl⟩, rfl, _, _, rfl, rfl, (by show HV b N S0 _ _ nI (pb (pNumIf b N i pl lo ho s.1) _) _; unfold pNumIf; rw [if_pos (show wd b N (kw i) s.1 = true from b2i_t c5)]; exact h2.L (fun _ _ => trivial))⟩
      | exact wa_ireturn dX7_numberIf_20 ⟨Nat.le_refl _, Nat.le_refl _, ⟨_, rfl, rfl⟩, rfl, _, _, rfl, rfl, (by show HV b N S0 _ _ nI (pb (pNumIf b N i pl lo ho s.1) _) _; unfold pNumIf; rw [if_neg (show ¬ wd b N (kw i) s.1 = true from b2i_f c5)]; exact ⟨rfl, h⟩)⟩
    · refine wa_aload_n dX7_numberIf_8 rfl ?_
      refine wa_aload_n dX7_numberIf_9 rfl ?_
      refine wa_iload_n dX7_numberIf_10 rfl ?_
      refine wa_iload dX7_numberIf_11 rfl ?_
      refine c_VQI dX7_numberIf_13 (mm_numberAfter (x := .inr s) hlo hho hn hi h) lk_X7_263 rfl (isO_MO _ _ _) rfl (ltS (by assumption)) (fun v S2 h2 => ?_)
      refine wa_goto 20 dX7_numberIf_16 rfl ?_
      first
      | exact wa_ireturn dX7_numberIf_20 ⟨Nat.le_refl _, Nat.le_refl _, ⟨_, rfl, rfl⟩, rfl, _, _, rfl, rfl, (by show HV b N S0 _ _ nI (pb (pNumIf b N i pl lo ho s.1) _) _; unfold pNumIf; rw [if_pos (show wd b N (kw i) s.1 = true from b2i_t c5)]; exact h2.L (fun _ _ => trivial))⟩
      | exact wa_ireturn dX7_numberIf_20 ⟨Nat.le_refl _, Nat.le_refl _, ⟨_, rfl, rfl⟩, rfl, _, _, rfl, rfl, (by show HV b N S0 _ _ nI (pb (pNumIf b N i pl lo ho s.1) _) _; unfold pNumIf; rw [if_neg (show ¬ wd b N (kw i) s.1 = true from b2i_f c5)]; exact ⟨rfl, h⟩)⟩
def yName (b : Nat → Int32) (N : Nat) (x : PR PST) : PR (Int32 × PST) := pb x (fun s => pb (pName b N s.1) (fun k => .inr (k, s)))
theorem isNm_iff {b : Nat → Int32} {N p : Nat} : isNm b N p = true ↔ tk b N p = 1 ∧ te b N p - p ≤ 6 ∧ ¬ kwB b N p = true := by
  unfold isNm
  rw [Bool.and_eq_true, Bool.and_eq_true, decide_eq_true_iff, decide_eq_true_iff, Bool.not_eq_true']
  constructor
  · rintro ⟨⟨h1, h2⟩, h3⟩
    exact ⟨h1, h2, by rw [h3]; decide⟩
  · rintro ⟨h1, h2, h3⟩
    exact ⟨⟨h1, h2⟩, by cases hk : kwB b N p with
      | true => exact absurd hk h3
      | false => rfl⟩
theorem nname_eq {b : Nat → Int32} {N : Nat} {S0 S : SS} {s : PST} {v : Int32} (h : HS b N S0 S (pErr 1 (!isNm b N s.1) s)) (hv : v = if isNm b N s.1 then nmo b s.1 (te b N s.1 - s.1) else 0) : HV b N S0 S (fun v => v = 0) id (yName b N (.inr s)) v := by
  show HV b N S0 S _ id (pb (pName b N s.1) _) v
  unfold pName
  unfold pErr at h
  cases hm : isNm b N s.1 with
  | true =>
    rw [hm] at h hv
    exact ⟨hv, h⟩
  | false =>
    rw [hm] at h hv
    exact ⟨hv, h⟩
theorem nname_tail {Q : ab_Q} {n : Nat} {S : SS} {b : Nat → Int32} {N : Nat} {S0 : SS} {s : PST} {v : Int32} (hn : 279 ≤ n) (h : GD b N S0 S s) (hv : v = if !isNm b N s.1 then 1 else 0) (hQ : ∀ v' S', HV b N S0 S' (fun v => v = 0) id (yName b N (.inr s)) v' → Q (.inl (some (.int v'))) 0 0 n (Hp S')) : WA RX7 cX7_nameHere 1 [] (ab_rm 6 0 0) Q 0 0 42 [some (.ref 267)] [.int v, .ref 267] n (Hp S) := by
  refine wa_iconst (x := 1) dX7_nameHere_42 (by decide) ?_
  refine c_VQV dX7_nameHere_43 (mm_errsIf (x := .inr s) hn h v 1 (fun s => !isNm b N s.1) (by decide) (by decide) (fun s' e => by cases e; exact hv)) lk_X7_270 rfl (isO_MO _ _ _) rfl (ltS (by assumption)) (fun S1 h1 => ?_)
  refine wa_aload_n dX7_nameHere_46 rfl ?_
  refine c_VI dX7_nameHere_47 (mm_good hn) lk_X7_165 rfl (isO_MO _ _ _) rfl (ltS (by assumption)) ?_
  refine wa_if_eq 71 dX7_nameHere_50 rfl (fun c50 => ?_) (fun c50 => ?_)
  · refine wa_iconst (x := 0) dX7_nameHere_71 (by decide) ?_
    first
    | exact wa_ireturn dX7_nameHere_72 (hQ _ _ (nname_eq h1 (by rw [hm]; rfl)))
    | (have hm : isNm b N s.1 = false := by
         have h1' : HS b N S0 S1 (pErr 1 (!isNm b N s.1) s) := h1
         cases hm : isNm b N s.1 with
         | false => rfl
         | true =>
           rw [hm] at h1'
           exact absurd (GD.g0 (b := b) (N := N) (S0 := S0) (s := s) h1') (b2i_f c50)
       exact wa_ireturn dX7_nameHere_72 (hQ _ _ (nname_eq h1 (by rw [hm]; rfl))))
  · refine wa_aload_n dX7_nameHere_53 rfl ?_
    have hm : isNm b N s.1 = true := Classical.byContradiction (fun z => by
      have h1' : HS b N S0 S1 (pErr 1 (!isNm b N s.1) s) := h1
      rw [Bool.not_eq_true] at z
      rw [z] at h1'
      exact b2i_t c50 |> fun q => BD.n0 (b := b) (N := N) (S0 := S0) (e := (1, s.1)) h1' q)
    have hg : GD b N S0 S1 s := by
      have h1' : HS b N S0 S1 (pErr 1 (!isNm b N s.1) s) := h1
      rw [hm] at h1'
      exact h1'
    refine g_MO (by assumption) 5 dX7_nameHere_54 fl_X7_30 (by decide) rfl ?_
    refine wa_aload_n dX7_nameHere_57 rfl ?_
    refine g_MO (by assumption) 9 dX7_nameHere_58 fl_X7_169 (by decide) rfl ?_
    rw [hg.st]
    refine wa_aload_n dX7_nameHere_61 rfl ?_
    refine g_MO (by assumption) 8 dX7_nameHere_62 fl_X7_175 (by decide) rfl ?_
    rw [hg.nx, show nI (te b N s.1) = nI (s.1 + (te b N s.1 - s.1)) from by rw [show s.1 + (te b N s.1 - s.1) = te b N s.1 by have := te_ge b N s.1; omega]]
    refine c_SI dX7_nameHere_65 (mm_nameOf (S := S1) (p := s.1) (l := te b N s.1 - s.1) hn (by have := te_ge b N s.1; have := hg.te; omega)) lk_X7_274 rfl ?_
    rw [hg.1.1.in]
    refine wa_goto 72 dX7_nameHere_68 rfl ?_
    first
    | exact wa_ireturn dX7_nameHere_72 (hQ _ _ (nname_eq h1 (by rw [hm]; rfl)))
    | (have hm : isNm b N s.1 = false := by
         have h1' : HS b N S0 S1 (pErr 1 (!isNm b N s.1) s) := h1
         cases hm : isNm b N s.1 with
         | false => rfl
         | true =>
           rw [hm] at h1'
           exact absurd (GD.g0 (b := b) (N := N) (S0 := S0) (s := s) h1') (b2i_f c50)
       exact wa_ireturn dX7_nameHere_72 (hQ _ _ (nname_eq h1 (by rw [hm]; rfl))))
theorem mm_nameHere {n : Nat} {S : SS} {b : Nat → Int32} {N : Nat} {S0 : SS} {x : PR PST} (hn : 279 ≤ n) (h : HS b N S0 S x) : AM yX7_nameHere cX7_nameHere 1 (some .int) [] 6 0 0 [.ref 267] n (Hp S) (PIe n (fun v S' => HV b N S0 S' (fun v => v = 0) id (yName b N x) v)) := by
  cases x with
  | inl e =>
    intro has
    change WA RX7 cX7_nameHere 1 [] _ _ 0 0 0 [some (.ref 267)] [] n _
    replace h : BD b N S0 S e := h
    refine wa_aload_n dX7_nameHere_0 rfl ?_
    refine wa_aload_n dX7_nameHere_1 rfl ?_
    refine c_VI dX7_nameHere_2 (mm_good hn) lk_X7_165 rfl (isO_MO _ _ _) rfl (ltS (by assumption)) ?_
    rw [b2i_0 h.n0]
    refine wa_if_eq 41 dX7_nameHere_5 rfl (fun c5 => ?_) (fun c5 => absurd rfl c5)
    refine wa_iconst (x := 0) dX7_nameHere_41 (by decide) ?_
    refine wa_iconst (x := 1) dX7_nameHere_42 (by decide) ?_
    refine c_VQV dX7_nameHere_43 (mm_errsIf (x := .inl e) hn h 0 1 (fun _ => false) (by decide) (by decide) (fun s' e => by cases e)) lk_X7_270 rfl (isO_MO _ _ _) rfl (ltS (by assumption)) (fun S1 h1 => ?_)
    refine wa_aload_n dX7_nameHere_46 rfl ?_
    refine c_VI dX7_nameHere_47 (mm_good hn) lk_X7_165 rfl (isO_MO _ _ _) rfl (ltS (by assumption)) ?_
    rw [b2i_0 (BD.n0 (b := b) (N := N) (S0 := S0) (e := e) h1)]
    refine wa_if_eq 71 dX7_nameHere_50 rfl (fun c50 => ?_) (fun c50 => absurd rfl c50)
    refine wa_iconst (x := 0) dX7_nameHere_71 (by decide) ?_
    exact wa_ireturn dX7_nameHere_72 ⟨Nat.le_refl _, Nat.le_refl _, ⟨_, rfl, rfl⟩, rfl, _, _, rfl, rfl, ⟨rfl, h1⟩⟩
  | inr s =>
    intro has
    change WA RX7 cX7_nameHere 1 [] _ _ 0 0 0 [some (.ref 267)] [] n _
    replace h : GD b N S0 S s := h
    have ht3 := tk_3 b N s.1
    have hte := h.te
    refine wa_aload_n dX7_nameHere_0 rfl ?_
    refine wa_aload_n dX7_nameHere_1 rfl ?_
    refine c_VI dX7_nameHere_2 (mm_good hn) lk_X7_165 rfl (isO_MO _ _ _) rfl (ltS (by assumption)) ?_
    rw [b2i_1 h.g0]
    refine wa_if_eq 41 dX7_nameHere_5 rfl (fun c5 => absurd c5 (by decide)) (fun c5 => ?_)
    refine wa_aload_n dX7_nameHere_8 rfl ?_
    refine g_MO (by assumption) 10 dX7_nameHere_9 fl_X7_181 (by decide) rfl ?_
    rw [h.tok]
    refine wa_iconst (x := 1) dX7_nameHere_12 (by decide) ?_
    refine wa_icmp_ne 37 dX7_nameHere_13 rfl (fun c13 => ?_) (fun c13 => ?_)
    · refine wa_iconst (x := 1) dX7_nameHere_37 (by decide) ?_
      refine wa_goto 42 dX7_nameHere_38 rfl ?_
      first
      | exact nname_tail hn h (by rw [if_neg (by rw [isNm_iff.mpr ⟨(nI_eq (a := tk b N s.1) (b := 1) (by omega) (by decide)).mp c13, (nI_leI (by omega) (by decide)).mp (Int32.not_lt.mp c27), b2i_f c34⟩]; decide)]) (fun v' S' h' => ⟨Nat.le_refl _, Nat.le_refl _, ⟨_, rfl, rfl⟩, rfl, v', S', rfl, rfl, h'⟩)
      | exact nname_tail hn h (by
          have hm : ¬ isNm b N s.1 = true := fun z => c13 (by rw [(isNm_iff.mp z).1]; rfl)
          rw [if_pos (by rw [Bool.not_eq_true'] ; exact Bool.not_eq_true _ ▸ hm)]) (fun v' S' h' => ⟨Nat.le_refl _, Nat.le_refl _, ⟨_, rfl, rfl⟩, rfl, v', S', rfl, rfl, h'⟩)
      | exact nname_tail hn h (by
          have hm : ¬ isNm b N s.1 = true := fun z => Int32.not_lt.mpr (nI_le (b := 6) (isNm_iff.mp z).2.1 (by decide)) c27
          rw [if_pos (by rw [Bool.not_eq_true'] ; exact Bool.not_eq_true _ ▸ hm)]) (fun v' S' h' => ⟨Nat.le_refl _, Nat.le_refl _, ⟨_, rfl, rfl⟩, rfl, v', S', rfl, rfl, h'⟩)
      | exact nname_tail hn h (by
          have hm : ¬ isNm b N s.1 = true := fun z => (isNm_iff.mp z).2.2 (b2i_t c34)
          rw [if_pos (by rw [Bool.not_eq_true'] ; exact Bool.not_eq_true _ ▸ hm)]) (fun v' S' h' => ⟨Nat.le_refl _, Nat.le_refl _, ⟨_, rfl, rfl⟩, rfl, v', S', rfl, rfl, h'⟩)
    · refine wa_aload_n dX7_nameHere_16 rfl ?_
      refine g_MO (by assumption) 8 dX7_nameHere_17 fl_X7_175 (by decide) rfl ?_
      rw [h.nx]
      refine wa_aload_n dX7_nameHere_20 rfl ?_
      refine g_MO (by assumption) 9 dX7_nameHere_21 fl_X7_169 (by decide) rfl ?_
      rw [h.st]
      refine wa_isub dX7_nameHere_24 ?_
      rw [nI_sub (te_ge _ _ _)]
      refine wa_bipush (x := 6) dX7_nameHere_25 (by decide) ?_
      refine wa_icmp_gt 37 dX7_nameHere_27 rfl (fun c27 => ?_) (fun c27 => ?_)
      · refine wa_iconst (x := 1) dX7_nameHere_37 (by decide) ?_
        refine wa_goto 42 dX7_nameHere_38 rfl ?_
        first
        | exact nname_tail hn h (by rw [if_neg (by rw [isNm_iff.mpr ⟨(nI_eq (a := tk b N s.1) (b := 1) (by omega) (by decide)).mp c13, (nI_leI (by omega) (by decide)).mp (Int32.not_lt.mp c27), b2i_f c34⟩]; decide)]) (fun v' S' h' => ⟨Nat.le_refl _, Nat.le_refl _, ⟨_, rfl, rfl⟩, rfl, v', S', rfl, rfl, h'⟩)
        | exact nname_tail hn h (by
            have hm : ¬ isNm b N s.1 = true := fun z => c13 (by rw [(isNm_iff.mp z).1]; rfl)
            rw [if_pos (by rw [Bool.not_eq_true'] ; exact Bool.not_eq_true _ ▸ hm)]) (fun v' S' h' => ⟨Nat.le_refl _, Nat.le_refl _, ⟨_, rfl, rfl⟩, rfl, v', S', rfl, rfl, h'⟩)
        | exact nname_tail hn h (by
            have hm : ¬ isNm b N s.1 = true := fun z => Int32.not_lt.mpr (nI_le (b := 6) (isNm_iff.mp z).2.1 (by decide)) c27
            rw [if_pos (by rw [Bool.not_eq_true'] ; exact Bool.not_eq_true _ ▸ hm)]) (fun v' S' h' => ⟨Nat.le_refl _, Nat.le_refl _, ⟨_, rfl, rfl⟩, rfl, v', S', rfl, rfl, h'⟩)
        | exact nname_tail hn h (by
            have hm : ¬ isNm b N s.1 = true := fun z => (isNm_iff.mp z).2.2 (b2i_t c34)
            rw [if_pos (by rw [Bool.not_eq_true'] ; exact Bool.not_eq_true _ ▸ hm)]) (fun v' S' h' => ⟨Nat.le_refl _, Nat.le_refl _, ⟨_, rfl, rfl⟩, rfl, v', S', rfl, rfl, h'⟩)
      · refine wa_aload_n dX7_nameHere_30 rfl ?_
        refine c_VI dX7_nameHere_31 (mm_isKeyword (x := .inr s) hn h) lk_X7_267 rfl (isO_MO _ _ _) rfl (ltS (by assumption)) ?_
        refine wa_if_eq 41 dX7_nameHere_34 rfl (fun c34 => ?_) (fun c34 => ?_)
        · refine wa_iconst (x := 0) dX7_nameHere_41 (by decide) ?_
          first
          | exact nname_tail hn h (by rw [if_neg (by rw [isNm_iff.mpr ⟨(nI_eq (a := tk b N s.1) (b := 1) (by omega) (by decide)).mp c13, (nI_leI (by omega) (by decide)).mp (Int32.not_lt.mp c27), b2i_f c34⟩]; decide)]) (fun v' S' h' => ⟨Nat.le_refl _, Nat.le_refl _, ⟨_, rfl, rfl⟩, rfl, v', S', rfl, rfl, h'⟩)
          | exact nname_tail hn h (by
              have hm : ¬ isNm b N s.1 = true := fun z => c13 (by rw [(isNm_iff.mp z).1]; rfl)
              rw [if_pos (by rw [Bool.not_eq_true'] ; exact Bool.not_eq_true _ ▸ hm)]) (fun v' S' h' => ⟨Nat.le_refl _, Nat.le_refl _, ⟨_, rfl, rfl⟩, rfl, v', S', rfl, rfl, h'⟩)
          | exact nname_tail hn h (by
              have hm : ¬ isNm b N s.1 = true := fun z => Int32.not_lt.mpr (nI_le (b := 6) (isNm_iff.mp z).2.1 (by decide)) c27
              rw [if_pos (by rw [Bool.not_eq_true'] ; exact Bool.not_eq_true _ ▸ hm)]) (fun v' S' h' => ⟨Nat.le_refl _, Nat.le_refl _, ⟨_, rfl, rfl⟩, rfl, v', S', rfl, rfl, h'⟩)
          | exact nname_tail hn h (by
              have hm : ¬ isNm b N s.1 = true := fun z => (isNm_iff.mp z).2.2 (b2i_t c34)
              rw [if_pos (by rw [Bool.not_eq_true'] ; exact Bool.not_eq_true _ ▸ hm)]) (fun v' S' h' => ⟨Nat.le_refl _, Nat.le_refl _, ⟨_, rfl, rfl⟩, rfl, v', S', rfl, rfl, h'⟩)
        · refine wa_iconst (x := 1) dX7_nameHere_37 (by decide) ?_
          refine wa_goto 42 dX7_nameHere_38 rfl ?_
          first
          | exact nname_tail hn h (by rw [if_neg (by rw [isNm_iff.mpr ⟨(nI_eq (a := tk b N s.1) (b := 1) (by omega) (by decide)).mp c13, (nI_leI (by omega) (by decide)).mp (Int32.not_lt.mp c27), b2i_f c34⟩]; decide)]) (fun v' S' h' => ⟨Nat.le_refl _, Nat.le_refl _, ⟨_, rfl, rfl⟩, rfl, v', S', rfl, rfl, h'⟩)
          | exact nname_tail hn h (by
              have hm : ¬ isNm b N s.1 = true := fun z => c13 (by rw [(isNm_iff.mp z).1]; rfl)
              rw [if_pos (by rw [Bool.not_eq_true'] ; exact Bool.not_eq_true _ ▸ hm)]) (fun v' S' h' => ⟨Nat.le_refl _, Nat.le_refl _, ⟨_, rfl, rfl⟩, rfl, v', S', rfl, rfl, h'⟩)
          | exact nname_tail hn h (by
              have hm : ¬ isNm b N s.1 = true := fun z => Int32.not_lt.mpr (nI_le (b := 6) (isNm_iff.mp z).2.1 (by decide)) c27
              rw [if_pos (by rw [Bool.not_eq_true'] ; exact Bool.not_eq_true _ ▸ hm)]) (fun v' S' h' => ⟨Nat.le_refl _, Nat.le_refl _, ⟨_, rfl, rfl⟩, rfl, v', S', rfl, rfl, h'⟩)
          | exact nname_tail hn h (by
              have hm : ¬ isNm b N s.1 = true := fun z => (isNm_iff.mp z).2.2 (b2i_t c34)
              rw [if_pos (by rw [Bool.not_eq_true'] ; exact Bool.not_eq_true _ ▸ hm)]) (fun v' S' h' => ⟨Nat.le_refl _, Nat.le_refl _, ⟨_, rfl, rfl⟩, rfl, v', S', rfl, rfl, h'⟩)
