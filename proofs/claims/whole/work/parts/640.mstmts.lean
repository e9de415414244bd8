/-! ValveRoomModel: roomHere, once, the statements but room, program, plan. Written by program (wip/whole/gen/m640.py) but for the heads. -/
theorem fst_none {P : Nat → Prop} {_ : DecidablePred P} (h : ∀ k, ¬ P k) : ∀ r k, fst P r k = -1
  | 0, _ => rfl
  | r + 1, k => (if_neg (h k)).trans (fst_none h r (k + 1))
theorem fst_cases {P : Nat → Prop} {_ : DecidablePred P} : ∀ r k, fst P r k = -1 ∨ ∃ i, k ≤ i ∧ i < k + r ∧ P i ∧ fst P r k = nI i
  | 0, _ => Or.inl rfl
  | r + 1, k => by
    by_cases h : P k
    · exact Or.inr ⟨k, Nat.le_refl _, by omega, h, if_pos h⟩
    · rcases fst_cases r (k + 1) with e | ⟨i, h1, h2, h3, h4⟩
      · exact Or.inl ((if_neg h).trans e)
      · exact Or.inr ⟨i, by omega, by omega, h3, (if_neg h).trans h4⟩
theorem rnm_0 {g : Nat → Int32} : rnm g 0 = -1 := fst_none (fun k z => absurd z.1 (by decide)) _ _
theorem rnm_cases (g : Nat → Int32) (x : Int32) : rnm g x = -1 ∨ ∃ i, i < rn g ∧ rnm g x = nI i := by
  rcases fst_cases (P := fun r => 0 < x ∧ of g r 11 = x) (rn g) 0 with e | ⟨i, h1, h2, h3, h4⟩
  · exact Or.inl e
  · exact Or.inr ⟨i, by omega, h4⟩
theorem HS.vg {b : Nat → Int32} {N : Nat} {S0 S : SS} {x : PR PST} (h : HS b N S0 S x) : VG 0 (row S) := by
  rw [h.fr.row]
  cases x with
  | inl e => exact h.2.2.2.2
  | inr s =>
    have e : S.1 269 = s.2.1 := h.1.2.2.2.2.1
    rw [e]; exact h.1.2.2.2.2.2.2
theorem GD.row {b : Nat → Int32} {N : Nat} {S0 S : SS} {s : PST} (h : GD b N S0 S s) : row S = s.2.1 := h.1.1.row.trans h.1.2.2.2.2.1
def yRoom (b : Nat → Int32) (N : Nat) (x : PR PST) : PR (Nat × PST) := pb x (fun s => pb (pRoom b N s.2.1 s.1) (fun r => .inr (r, s)))
theorem i_max0 {r : Nat} (h : r < 2 ^ 31) : i_max 0 (nI r) = nI r := by
  unfold i_max
  split
  · rfl
  · rename_i h1
    have h2 : (0 : Int32) ≤ nI r := nI_0le h
    exact Int32.le_antisymm h2 (Int32.not_lt.mp h1)
theorem yRoom_eq {b : Nat → Int32} {N : Nat} {S0 S1 S2 : SS} {x : PR PST} {v : Int32} (h1 : HV b N S0 S1 (fun v => v = 0) id (yName b N x) v) (h2 : HS b N S0 S2 (pb (dY (yName b N x)) (fun s => pErr 4 (decide (rnm s.2.1 v = -1)) s))) : HV b N S0 S2 (fun v => v = 0) nI (yRoom b N x) (i_max 0 (rnm (row S1) v)) := by
  cases x with
  | inl e =>
    have hv : v = 0 := h1.1
    refine ⟨?_, h2⟩
    rw [hv, rnm_0]; decide
  | inr s =>
    show HV b N S0 S2 _ nI (pb (pb (pName b N s.1) _) _) _
    have h1' : HV b N S0 S1 (fun v => v = 0) id (pb (pName b N s.1) (fun k => .inr (k, s))) v := h1
    have h2' : HS b N S0 S2 (pb (dY (pb (pName b N s.1) (fun k => .inr (k, s)))) (fun s => pErr 4 (decide (rnm s.2.1 v = -1)) s)) := h2
    cases hp : pName b N s.1 with
    | inl e =>
      rw [hp] at h1' h2'
      have hv : v = 0 := h1'.1
      refine ⟨?_, h2'⟩
      rw [hv, rnm_0]; decide
    | inr k =>
      rw [hp] at h1' h2'
      have hv : v = k := h1'.1
      have hr : row S1 = s.2.1 := GD.row (b := b) (N := N) (S0 := S0) h1'.2
      have h3 : HS b N S0 S2 (pErr 4 (decide (rnm s.2.1 v = -1)) s) := h2'
      unfold pErr at h3
      rw [hr]
      show HV b N S0 S2 _ nI (pb (if rnm s.2.1 k = -1 then .inl (4, s.1) else .inr (rnm s.2.1 k).toInt.toNat) _) _
      rw [hv] at h3 ⊢
      by_cases hm : rnm s.2.1 k = -1
      · rw [if_pos (decide_eq_true hm)] at h3
        rw [if_pos hm]
        exact ⟨by rw [hm]; decide, h3⟩
      · rw [if_neg (by rw [decide_eq_true_iff]; exact hm)] at h3
        rw [if_neg hm]
        refine ⟨?_, h3⟩
        rcases rnm_cases s.2.1 k with e | ⟨i, hi, e⟩
        · exact absurd e hm
        · have h6 := (VG_rn (g := s.2.1) (T := 0) h3.1.2.2.2.2.2.2).2
          rw [e, i_max0 (by omega), nI_toInt (by omega)]
          rfl
theorem mm_roomHere {n : Nat} {S : SS} {b : Nat → Int32} {N : Nat} {S0 : SS} {x : PR PST} (hn : 279 ≤ n) (h : HS b N S0 S x) : AM yX7_roomHere cX7_roomHere 2 (some .int) [] 7 0 0 [.ref 267] n (Hp S) (PIe n (fun v S' => HV b N S0 S' (fun v => v = 0) nI (yRoom b N x) v)) := by
  intro has
  change WA RX7 cX7_roomHere 2 [] _ _ 0 0 0 [some (.ref 267), none] [] n _
  refine wa_aload_n dX7_roomHere_0 rfl ?_
  refine wa_aload_n dX7_roomHere_1 rfl ?_
  refine c_VQI dX7_roomHere_2 (mm_nameHere hn h) lk_X7_278 rfl (isO_MO _ _ _) rfl (ltS (by assumption)) (fun v S1 h1 => ?_)
  refine c_VI dX7_roomHere_5 (mm_roomNamed hn h1.hs.vg v) lk_X7_281 rfl (isO_MO _ _ _) rfl (ltS (by assumption)) ?_
  refine wa_istore_n dX7_roomHere_8 rfl ?_
  refine wa_aload_n dX7_roomHere_9 rfl ?_
  refine wa_iload_n dX7_roomHere_10 rfl ?_
  refine wa_iconst (x := (-1)) dX7_roomHere_11 (by decide) ?_
  refine wa_jn (P := rnm (row S1) v = -1) 19 20 (fun a b => wa_icmp_ne 19 dX7_roomHere_12 rfl a (fun c => b (fun z => z c))) dX7_roomHere_15 dX7_roomHere_16 rfl dX7_roomHere_19 rfl Iff.rfl ?_
  refine wa_iconst (x := 4) dX7_roomHere_20 (by decide) ?_
  refine c_VQV dX7_roomHere_21 (mm_errsIf (x := dY (yName b N x)) hn h1.hs (b2i (rnm (row S1) v = -1)) 4 (fun s => decide (rnm s.2.1 v = -1)) (by decide) (by decide) (fun s' e => by
    have hg : GD b N S0 S1 s' := by have := h1.hs; rw [e] at this; exact this
    rw [hg.row]
    unfold b2i
    by_cases hm : rnm s'.2.1 v = -1
    · rw [if_pos hm, if_pos (decide_eq_true hm)]
    · rw [if_neg hm, if_neg (by rw [decide_eq_true_iff]; exact hm)])) lk_X7_270 rfl (isO_MO _ _ _) rfl (ltS (by assumption)) (fun S2 h2 => ?_)
  refine wa_iconst (x := 0) dX7_roomHere_24 (by decide) ?_
  refine wa_iload_n dX7_roomHere_25 rfl ?_
  refine c_SI dX7_roomHere_26 (am_max _ _) lk_X7_150 rfl ?_
  exact wa_ireturn dX7_roomHere_29 ⟨Nat.le_refl _, Nat.le_refl _, ⟨_, rfl, rfl⟩, rfl, _, _, rfl, rfl, yRoom_eq h1 h2⟩
theorem told_lt : ∀ m, m < 32 → ∀ k, k < 5 → (m ||| 2 ^ k) < 32 := by decide +kernel
theorem told_bit : ∀ m, m < 32 → ∀ k, k < 5 → ∀ j, j < 5 → (m ||| 2 ^ k).testBit j = if j = k then true else m.testBit j := by decide +kernel
def pTold (k : Nat) (s : PST) : PR PST := .inr (s.1, s.2.1, s.2.2 ||| 2 ^ k)
theorem HS.told {b : Nat → Int32} {N : Nat} {S0 S : SS} {x : PR PST} (h : HS b N S0 S x) {k : Nat} (hk : k < 5) : HS b N S0 (ss S 272 k 1) (pb x (pTold k)) := by
  cases x with
  | inl e => exact ⟨h.1.t _, h.2⟩
  | inr s =>
    have h' : GD b N S0 S s := h
    obtain ⟨⟨h1, h2, h3, h4, h5, ⟨h6, h7⟩, h8⟩, h9⟩ := h'
    refine ⟨⟨h1.t _, h2, h3, h4, h5, ⟨told_lt _ h6 k hk, fun j hj => ?_⟩, h8⟩, h9⟩
    show (if j = k then (1 : Int32) else S.1 272 j) = if (s.2.2 ||| 2 ^ k).testBit j then 1 else 0
    rw [told_bit _ h6 k hk j hj]
    by_cases hjk : j = k
    · rw [if_pos hjk, if_pos hjk]; rfl
    · rw [if_neg hjk, if_neg hjk]; exact h7 j hj
theorem pOnce_e (b : Nat → Int32) (N k : Nat) (x : PR PST) : pb (pb (pb x (fun s => pErr 3 (s.2.2.testBit k) s)) (pTold k)) (pNext b N) = pb x (pOnce b N k) := by
  cases x with
  | inl e => rfl
  | inr s =>
    show pb (pb (pErr 3 (s.2.2.testBit k) s) (pTold k)) (pNext b N) = pOnce b N k s
    unfold pErr pOnce
    split <;> rfl
theorem GD.told5 {b : Nat → Int32} {N : Nat} {S0 S : SS} {s : PST} (h : GD b N S0 S s) (k : Nat) (hk : k < 5) : S.1 272 k = if s.2.2.testBit k then 1 else 0 := h.1.2.2.2.2.2.1.2 k hk
theorem mm_once {n k : Nat} {S : SS} {b : Nat → Int32} {N : Nat} {S0 : SS} {x : PR PST} (hn : 279 ≤ n) (hk : k < 5) (h : HS b N S0 S x) : AM yX7_once cX7_once 2 none [] 3 0 0 [.ref 267, .int (nI k)] n (Hp S) (PVe n (fun S' => HS b N S0 S' (pb x (pOnce b N k)))) := by
  intro has
  change WA RX7 cX7_once 2 [] _ _ 0 0 0 [some (.ref 267), some (.int (nI k))] [] n _
  refine wa_aload_n dX7_once_0 rfl ?_
  refine wa_aload_n dX7_once_1 rfl ?_
  refine g_MO (by assumption) 14 dX7_once_2 fl_X7_37 (by decide) rfl ?_
  refine wa_iload_n dX7_once_5 rfl ?_
  refine s_zald (j := k) isA_hasTold dX7_once_6 (ltS (by assumption)) (ix_nI (by omega)) hk ?_
  refine wa_iconst (x := 3) dX7_once_7 (by decide) ?_
  refine c_VQV dX7_once_8 (mm_errsIf hn h (S.1 272 k) 3 (fun s => s.2.2.testBit k) (by decide) (by decide) (fun s' e => by subst e; exact GD.told5 h k hk)) lk_X7_270 rfl (isO_MO _ _ _) rfl (ltS (by assumption)) (fun S1 h1 => ?_)
  refine wa_aload_n dX7_once_11 rfl ?_
  refine g_MO (by assumption) 14 dX7_once_12 fl_X7_37 (by decide) rfl ?_
  refine wa_iload_n dX7_once_15 rfl ?_
  refine wa_iconst (x := 1) dX7_once_16 (by decide) ?_
  refine s_zast (j := k) isA_hasTold dX7_once_17 (ltS (by assumption)) (ix_nI (by omega)) hk ?_
  refine wa_aload_n dX7_once_18 rfl ?_
  skip
  refine c_VQV dX7_once_19 (mm_goNext hn (h1.told hk)) lk_X7_214 rfl (isO_MO _ _ _) rfl (ltS (by assumption)) (fun S2 h2 => ?_)
  exact wa_return dX7_once_22 ⟨Nat.le_refl _, Nat.le_refl _, rfl, rfl, rfl, _, rfl, (by rw [← pOnce_e]; exact h2)⟩
theorem GD.dd {b : Nat → Int32} {N : Nat} {S0 S : SS} {s : PST} (h : GD b N S0 S s) {f : Nat → Int32} (hf : VG 0 f) : GD b N S0 (su S 269 f) (s.1, f, s.2.2) := by
  obtain ⟨⟨h1, h2, h3, h4, h5, h6, h7⟩, h8, h9⟩ := h
  exact ⟨⟨h1.d _, h2, h3, h4, su_s _ _ _, h6, hf⟩, h8, h9⟩
theorem BD.dd {b : Nat → Int32} {N : Nat} {S0 S : SS} {e : Nat × Nat} (h : BD b N S0 S e) {f : Nat → Int32} (hf : VG 0 f) : BD b N S0 (su S 269 f) e := by
  obtain ⟨h1, h2, h3, h4, h5⟩ := h
  exact ⟨h1.d _, h2, h3, h4, by rw [su_s]; exact hf⟩
theorem BD.vg {b : Nat → Int32} {N : Nat} {S0 S : SS} {e : Nat × Nat} (h : BD b N S0 S e) : VG 0 (S.1 269) := h.2.2.2.2
theorem GD.vg {b : Nat → Int32} {N : Nat} {S0 S : SS} {s : PST} (h : GD b N S0 S s) : VG 0 s.2.1 := h.1.2.2.2.2.2.2
theorem GD.g {b : Nat → Int32} {N : Nat} {S0 S : SS} {s : PST} (h : GD b N S0 S s) : S.1 269 = s.2.1 := h.1.2.2.2.2.1
def hdr (j : Nat) : Prop := ¬ j = 0 ∧ ¬ j = 1 ∧ ¬ j = 3 ∧ j < 11
def yHdr (j : Nat) (y : PR (Nat × PST)) : PR PST := pb y (fun q => .inr (q.2.1, upd q.2.2.1 j (nI q.1), q.2.2.2))
theorem HV.hdr {b : Nat → Int32} {N : Nat} {S0 S : SS} {L : Int32 → Prop} {y : PR (Nat × PST)} {v : Int32} (h : HV b N S0 S L nI y v) {j : Nat} (hj : hdr j) : HS b N S0 (ss S 269 j v) (yHdr j y) := by
  cases y with
  | inl e => exact h.2.dd (upd_hdr _ h.2.vg hj.1 hj.2.1 hj.2.2.1 hj.2.2.2)
  | inr q =>
    have h1 : v = nI q.1 := h.1
    have h2 : GD b N S0 S q.2 := h.2
    show GD b N S0 (su S 269 (upd (S.1 269) j v)) _
    rw [h1, h2.g]
    exact h2.dd (upd_hdr _ h2.vg hj.1 hj.2.1 hj.2.2.1 hj.2.2.2)
theorem yHdr_e (b : Nat → Int32) (N j lo hi : Nat) (x : PR PST) : yHdr j (yNum b N lo hi x) = pb x (pHdr b N j lo hi) := by
  unfold yHdr yNum pHdr
  rw [pb_pb]
  congr 1
  funext s
  rw [pb_pb]; rfl
theorem yHold_e (b : Nat → Int32) (N : Nat) (x : PR PST) : yHdr 5 (yNumA b N 2 1 48 x) = pb x (pHold b N) := by
  unfold yHdr yNumA pHold
  rw [pb_pb]
  congr 1
  funext s
  rw [pb_pb]; rfl
theorem HS.mr9 {b : Nat → Int32} {N : Nat} {S0 S : SS} {x : PR PST} (h : HS b N S0 S x) : mr S = 269 := h.fr.mr
theorem mm_parseWindow {n : Nat} {S : SS} {b : Nat → Int32} {N : Nat} {S0 : SS} {x : PR PST} (hn : 279 ≤ n) (h : HS b N S0 S x) : AM yX7_parseWindow cX7_parseWindow 1 none [] 8 0 0 [.ref 267] n (Hp S) (PVe n (fun S' => HS b N S0 S' (pb x (pWindow b N)))) := by
  intro has
  change WA RX7 cX7_parseWindow 1 [] _ _ 0 0 0 [some (.ref 267)] [] n _
  refine wa_aload_n dX7_parseWindow_0 rfl ?_
  refine wa_iconst (x := 1) dX7_parseWindow_1 (by decide) ?_
  refine c_VQV dX7_parseWindow_2 (mm_once (k := 1) hn (by decide) h) lk_X7_284 rfl (isO_MO _ _ _) rfl (ltS (by assumption)) (fun S1 h1 => ?_)
  refine wa_aload_n dX7_parseWindow_5 rfl ?_
  refine g_row (by assumption) dX7_parseWindow_6 fl_X7_24 ?_
  rw [HS.mr9 h1]
  refine wa_iconst (x := 4) dX7_parseWindow_9 (by decide) ?_
  refine wa_aload_n dX7_parseWindow_10 rfl ?_
  refine wa_iconst (x := 1) dX7_parseWindow_11 (by decide) ?_
  refine wa_bipush (x := 99) dX7_parseWindow_12 (by decide) ?_
  refine c_VQI dX7_parseWindow_14 (mm_number (lo := 1) (ho := 99) (by decide) (by decide) hn h1) lk_X7_260 rfl (isO_MO _ _ _) rfl (ltS (by assumption)) (fun v0 T0 t0 => ?_)
  refine s_iast (j := 4) isA_draft dX7_parseWindow_17 (ltS (by assumption)) rfl (by decide) ?_
  have g0 := t0.hdr (j := 4) (by unfold hdr; decide)
  rw [yHdr_e] at g0
  refine wa_aload_n dX7_parseWindow_18 rfl ?_
  refine g_row (by assumption) dX7_parseWindow_19 fl_X7_24 ?_
  rw [HS.mr9 g0]
  refine wa_iconst (x := 5) dX7_parseWindow_22 (by decide) ?_
  refine wa_aload_n dX7_parseWindow_23 rfl ?_
  refine wa_ldcS (j := 21) dX7_parseWindow_24 rfl ?_
  refine wa_iconst (x := 1) dX7_parseWindow_26 (by decide) ?_
  refine wa_bipush (x := 48) dX7_parseWindow_27 (by decide) ?_
  refine c_VQI dX7_parseWindow_29 (mm_numberAfter (i := 2) (lo := 1) (ho := 48) (by decide) (by decide) hn (by decide) g0) lk_X7_263 rfl (isO_MO _ _ _) rfl (ltS (by assumption)) (fun v1 T1 t1 => ?_)
  refine s_iast (j := 5) isA_draft dX7_parseWindow_32 (ltS (by assumption)) rfl (by decide) ?_
  have g1 := t1.hdr (j := 5) (by unfold hdr; decide)
  rw [yHold_e] at g1
  refine wa_aload_n dX7_parseWindow_33 rfl ?_
  refine c_VQV dX7_parseWindow_34 (mm_semicolon hn g1) lk_X7_290 rfl (isO_MO _ _ _) rfl (ltS (by assumption)) (fun S9 h9 => ?_)
  exact wa_return dX7_parseWindow_37 ⟨Nat.le_refl _, Nat.le_refl _, rfl, rfl, rfl, _, rfl, (by
    have e : pb x (pWindow b N) = pb (pb (pb (pb x (pOnce b N 1)) (pHdr b N 4 1 99)) (pHold b N)) (pEnd b N) := by
      unfold pWindow
      simp only [pb_pb]
    rw [e]; exact h9)⟩
theorem mm_parseBack {n : Nat} {S : SS} {b : Nat → Int32} {N : Nat} {S0 : SS} {x : PR PST} (hn : 279 ≤ n) (h : HS b N S0 S x) : AM yX7_parseBack cX7_parseBack 1 none [] 8 0 0 [.ref 267] n (Hp S) (PVe n (fun S' => HS b N S0 S' (pb x (pBack b N)))) := by
  intro has
  change WA RX7 cX7_parseBack 1 [] _ _ 0 0 0 [some (.ref 267)] [] n _
  refine wa_aload_n dX7_parseBack_0 rfl ?_
  refine wa_iconst (x := 2) dX7_parseBack_1 (by decide) ?_
  refine c_VQV dX7_parseBack_2 (mm_once (k := 2) hn (by decide) h) lk_X7_284 rfl (isO_MO _ _ _) rfl (ltS (by assumption)) (fun S1 h1 => ?_)
  refine wa_aload_n dX7_parseBack_5 rfl ?_
  refine g_row (by assumption) dX7_parseBack_6 fl_X7_24 ?_
  rw [HS.mr9 h1]
  refine wa_bipush (x := 6) dX7_parseBack_9 (by decide) ?_
  refine wa_aload_n dX7_parseBack_11 rfl ?_
  refine wa_iconst (x := 0) dX7_parseBack_12 (by decide) ?_
  refine wa_sipush (x := 150) dX7_parseBack_13 (by decide) ?_
  refine c_VQI dX7_parseBack_16 (mm_number (lo := 0) (ho := 150) (by decide) (by decide) hn h1) lk_X7_260 rfl (isO_MO _ _ _) rfl (ltS (by assumption)) (fun v0 T0 t0 => ?_)
  refine s_iast (j := 6) isA_draft dX7_parseBack_19 (ltS (by assumption)) rfl (by decide) ?_
  have g0 := t0.hdr (j := 6) (by unfold hdr; decide)
  rw [yHdr_e] at g0
  refine wa_aload_n dX7_parseBack_20 rfl ?_
  refine c_VQV dX7_parseBack_21 (mm_semicolon hn g0) lk_X7_290 rfl (isO_MO _ _ _) rfl (ltS (by assumption)) (fun S9 h9 => ?_)
  exact wa_return dX7_parseBack_24 ⟨Nat.le_refl _, Nat.le_refl _, rfl, rfl, rfl, _, rfl, (by
    have e : pb x (pBack b N) = pb (pb (pb x (pOnce b N 2)) (pHdr b N 6 0 150)) (pEnd b N) := by
      unfold pBack
      simp only [pb_pb]
    rw [e]; exact h9)⟩
theorem mm_parseControl {n : Nat} {S : SS} {b : Nat → Int32} {N : Nat} {S0 : SS} {x : PR PST} (hn : 279 ≤ n) (h : HS b N S0 S x) : AM yX7_parseControl cX7_parseControl 1 none [] 8 0 0 [.ref 267] n (Hp S) (PVe n (fun S' => HS b N S0 S' (pb x (pControl b N)))) := by
  intro has
  change WA RX7 cX7_parseControl 1 [] _ _ 0 0 0 [some (.ref 267)] [] n _
  refine wa_aload_n dX7_parseControl_0 rfl ?_
  refine wa_iconst (x := 3) dX7_parseControl_1 (by decide) ?_
  refine c_VQV dX7_parseControl_2 (mm_once (k := 3) hn (by decide) h) lk_X7_284 rfl (isO_MO _ _ _) rfl (ltS (by assumption)) (fun S1 h1 => ?_)
  refine wa_aload_n dX7_parseControl_5 rfl ?_
  refine g_row (by assumption) dX7_parseControl_6 fl_X7_24 ?_
  rw [HS.mr9 h1]
  refine wa_bipush (x := 7) dX7_parseControl_9 (by decide) ?_
  refine wa_aload_n dX7_parseControl_11 rfl ?_
  refine wa_iconst (x := 0) dX7_parseControl_12 (by decide) ?_
  refine wa_bipush (x := 50) dX7_parseControl_13 (by decide) ?_
  refine c_VQI dX7_parseControl_15 (mm_number (lo := 0) (ho := 50) (by decide) (by decide) hn h1) lk_X7_260 rfl (isO_MO _ _ _) rfl (ltS (by assumption)) (fun v0 T0 t0 => ?_)
  refine s_iast (j := 7) isA_draft dX7_parseControl_18 (ltS (by assumption)) rfl (by decide) ?_
  have g0 := t0.hdr (j := 7) (by unfold hdr; decide)
  rw [yHdr_e] at g0
  refine wa_aload_n dX7_parseControl_19 rfl ?_
  refine g_row (by assumption) dX7_parseControl_20 fl_X7_24 ?_
  rw [HS.mr9 g0]
  refine wa_bipush (x := 8) dX7_parseControl_23 (by decide) ?_
  refine wa_aload_n dX7_parseControl_25 rfl ?_
  refine wa_iconst (x := 1) dX7_parseControl_26 (by decide) ?_
  refine wa_bipush (x := 50) dX7_parseControl_27 (by decide) ?_
  refine c_VQI dX7_parseControl_29 (mm_number (lo := 1) (ho := 50) (by decide) (by decide) hn g0) lk_X7_260 rfl (isO_MO _ _ _) rfl (ltS (by assumption)) (fun v1 T1 t1 => ?_)
  refine s_iast (j := 8) isA_draft dX7_parseControl_32 (ltS (by assumption)) rfl (by decide) ?_
  have g1 := t1.hdr (j := 8) (by unfold hdr; decide)
  rw [yHdr_e] at g1
  refine wa_aload_n dX7_parseControl_33 rfl ?_
  refine g_row (by assumption) dX7_parseControl_34 fl_X7_24 ?_
  rw [HS.mr9 g1]
  refine wa_bipush (x := 9) dX7_parseControl_37 (by decide) ?_
  refine wa_aload_n dX7_parseControl_39 rfl ?_
  refine wa_iconst (x := 1) dX7_parseControl_40 (by decide) ?_
  refine wa_bipush (x := 100) dX7_parseControl_41 (by decide) ?_
  refine c_VQI dX7_parseControl_43 (mm_number (lo := 1) (ho := 100) (by decide) (by decide) hn g1) lk_X7_260 rfl (isO_MO _ _ _) rfl (ltS (by assumption)) (fun v2 T2 t2 => ?_)
  refine s_iast (j := 9) isA_draft dX7_parseControl_46 (ltS (by assumption)) rfl (by decide) ?_
  have g2 := t2.hdr (j := 9) (by unfold hdr; decide)
  rw [yHdr_e] at g2
  refine wa_aload_n dX7_parseControl_47 rfl ?_
  refine c_VQV dX7_parseControl_48 (mm_semicolon hn g2) lk_X7_290 rfl (isO_MO _ _ _) rfl (ltS (by assumption)) (fun S9 h9 => ?_)
  exact wa_return dX7_parseControl_51 ⟨Nat.le_refl _, Nat.le_refl _, rfl, rfl, rfl, _, rfl, (by
    have e : pb x (pControl b N) = pb (pb (pb (pb (pb x (pOnce b N 3)) (pHdr b N 7 0 50)) (pHdr b N 8 1 50)) (pHdr b N 9 1 100)) (pEnd b N) := by
      unfold pControl
      simp only [pb_pb]
    rw [e]; exact h9)⟩
theorem mm_parseExercise {n : Nat} {S : SS} {b : Nat → Int32} {N : Nat} {S0 : SS} {x : PR PST} (hn : 279 ≤ n) (h : HS b N S0 S x) : AM yX7_parseExercise cX7_parseExercise 1 none [] 8 0 0 [.ref 267] n (Hp S) (PVe n (fun S' => HS b N S0 S' (pb x (pExercise b N)))) := by
  intro has
  change WA RX7 cX7_parseExercise 1 [] _ _ 0 0 0 [some (.ref 267)] [] n _
  refine wa_aload_n dX7_parseExercise_0 rfl ?_
  refine wa_iconst (x := 4) dX7_parseExercise_1 (by decide) ?_
  refine c_VQV dX7_parseExercise_2 (mm_once (k := 4) hn (by decide) h) lk_X7_284 rfl (isO_MO _ _ _) rfl (ltS (by assumption)) (fun S1 h1 => ?_)
  refine wa_aload_n dX7_parseExercise_5 rfl ?_
  refine g_row (by assumption) dX7_parseExercise_6 fl_X7_24 ?_
  rw [HS.mr9 h1]
  refine wa_bipush (x := 10) dX7_parseExercise_9 (by decide) ?_
  refine wa_aload_n dX7_parseExercise_11 rfl ?_
  refine wa_iconst (x := 0) dX7_parseExercise_12 (by decide) ?_
  refine wa_sipush (x := 335) dX7_parseExercise_13 (by decide) ?_
  refine c_VQI dX7_parseExercise_16 (mm_number (lo := 0) (ho := 335) (by decide) (by decide) hn h1) lk_X7_260 rfl (isO_MO _ _ _) rfl (ltS (by assumption)) (fun v0 T0 t0 => ?_)
  refine s_iast (j := 10) isA_draft dX7_parseExercise_19 (ltS (by assumption)) rfl (by decide) ?_
  have g0 := t0.hdr (j := 10) (by unfold hdr; decide)
  rw [yHdr_e] at g0
  refine wa_aload_n dX7_parseExercise_20 rfl ?_
  refine c_VQV dX7_parseExercise_21 (mm_semicolon hn g0) lk_X7_290 rfl (isO_MO _ _ _) rfl (ltS (by assumption)) (fun S9 h9 => ?_)
  exact wa_return dX7_parseExercise_24 ⟨Nat.le_refl _, Nat.le_refl _, rfl, rfl, rfl, _, rfl, (by
    have e : pb x (pExercise b N) = pb (pb (pb x (pOnce b N 4)) (pHdr b N 10 0 335)) (pEnd b N) := by
      unfold pExercise
      simp only [pb_pb]
    rw [e]; exact h9)⟩
def pSkip (b : Nat → Int32) (N : Nat) (s : PST) : PR PST := if isS b N 45 s.1 then pNext b N s else .inr s
theorem pOut1_1 {b : Nat → Int32} {N : Nat} {s : PST} (h : isS b N 45 s.1 = true) : pOut1 b N s = pb (pNum b N 0 300 (nx b N s.1)) (fun q => .inr (q.2, upd s.2.1 2 (-nI q.1), s.2.2)) := if_pos h
theorem pOut1_0 {b : Nat → Int32} {N : Nat} {s : PST} (h : ¬ isS b N 45 s.1 = true) : pOut1 b N s = pHdr b N 2 0 400 s := if_neg h
theorem out_neg {b : Nat → Int32} {N : Nat} {S0 S : SS} {s : PST} {v : Int32} (hs : isS b N 45 s.1 = true) (h : HV b N S0 S (fun v => v = nI 0) nI (yNum b N 0 300 (pNext b N s)) v) : HS b N S0 (ss S 269 2 (-v)) (pOut1 b N s) := by
  rw [pOut1_1 hs]
  have h' : HV b N S0 S (fun v => v = nI 0) nI (pb (pNum b N 0 300 (nx b N s.1)) (fun q => .inr (q.1, (q.2, s.2)))) v := h
  cases hp : pNum b N 0 300 (nx b N s.1) with
  | inl e =>
    rw [hp] at h'
    exact h'.2.dd (upd_hdr _ h'.2.vg (by decide) (by decide) (by decide) (by decide))
  | inr q =>
    rw [hp] at h'
    have h1 : v = nI q.1 := h'.1
    have h2 : GD b N S0 S (q.2, s.2) := h'.2
    show GD b N S0 (su S 269 (upd (S.1 269) 2 (-v))) _
    rw [h1, h2.g]
    exact h2.dd (upd_hdr _ h2.vg (by decide) (by decide) (by decide) (by decide))
theorem out_tail {Q : ab_Q} {n : Nat} {S : SS} {b : Nat → Int32} {N : Nat} {S0 : SS} {y : PR PST} (hn : 279 ≤ n) (h : HS b N S0 S y) (hQ : ∀ S', HS b N S0 S' (pb (pb y (pOut1 b N)) (pEnd b N)) → Q (.inl none) 0 0 n (Hp S')) : WA RX7 cX7_parseOutside 3 [] (ab_rm 8 0 0) Q 0 0 12 [some (.ref 267), some (.int (b2i (sx b N 45 y = true))), none] [] n (Hp S) := by
  cases y with
  | inl e =>
    change WA RX7 cX7_parseOutside 3 [] (ab_rm 8 0 0) Q 0 0 12 [some (.ref 267), some (.int 0), none] [] n (Hp S)
    refine wa_iload_n dX7_parseOutside_12 rfl ?_
    refine wa_if_eq 20 dX7_parseOutside_13 rfl (fun c13 => ?_) (fun c13 => absurd rfl c13)
    refine wa_aload_n dX7_parseOutside_20 rfl ?_
    refine wa_iconst (x := 0) dX7_parseOutside_21 (by decide) ?_
    refine wa_iload_n dX7_parseOutside_22 rfl ?_
    refine wa_if_eq 32 dX7_parseOutside_23 rfl (fun c23 => ?_) (fun c23 => absurd rfl c23)
    refine wa_sipush (x := 400) dX7_parseOutside_32 (by decide) ?_
    refine c_VQI dX7_parseOutside_35 (mm_number (lo := 0) (ho := 400) (x := .inl e) (by decide) (by decide) hn h) lk_X7_260 rfl (isO_MO _ _ _) rfl (ltS (by assumption)) (fun v T t => ?_)
    refine wa_istore_n dX7_parseOutside_38 rfl ?_
    refine wa_aload_n dX7_parseOutside_39 rfl ?_
    refine g_row (by assumption) dX7_parseOutside_40 fl_X7_24 ?_
    rw [HS.mr9 t.hs]
    refine wa_iconst (x := 2) dX7_parseOutside_43 (by decide) ?_
    refine wa_iload_n dX7_parseOutside_44 rfl ?_
    refine wa_if_eq 53 dX7_parseOutside_45 rfl (fun c45 => ?_) (fun c45 => absurd rfl c45)
    refine wa_iload_n dX7_parseOutside_53 rfl ?_
    refine s_iast (j := 2) isA_draft dX7_parseOutside_54 (ltS (by assumption)) rfl (by decide) ?_
    have g0 := t.hdr (j := 2) (by unfold hdr; decide)
    rw [yHdr_e] at g0
    refine wa_aload_n dX7_parseOutside_55 rfl ?_
    refine c_VQV dX7_parseOutside_56 (mm_semicolon hn g0) lk_X7_290 rfl (isO_MO _ _ _) rfl (ltS (by assumption)) (fun S9 h9 => ?_)
    exact wa_return dX7_parseOutside_59 (hQ _ h9)
  | inr s =>
    by_cases hp : isS b N 45 s.1 = true
    · have hv : b2i (sx b N 45 (.inr s) = true) = 1 := b2i_1 hp
      rw [hv]
      refine wa_iload_n dX7_parseOutside_12 rfl ?_
      refine wa_if_eq 20 dX7_parseOutside_13 rfl (fun c13 => absurd c13 (by decide)) (fun c13 => ?_)
      refine wa_aload_n dX7_parseOutside_16 rfl ?_
      refine c_VQV dX7_parseOutside_17 (mm_goNext (x := .inr s) hn h) lk_X7_214 rfl (isO_MO _ _ _) rfl (ltS (by assumption)) (fun S2 h2 => ?_)
      refine wa_aload_n dX7_parseOutside_20 rfl ?_
      refine wa_iconst (x := 0) dX7_parseOutside_21 (by decide) ?_
      refine wa_iload_n dX7_parseOutside_22 rfl ?_
      refine wa_if_eq 32 dX7_parseOutside_23 rfl (fun c23 => absurd c23 (by decide)) (fun c23 => ?_)
      refine wa_sipush (x := 300) dX7_parseOutside_26 (by decide) ?_
      refine wa_goto 35 dX7_parseOutside_29 rfl ?_
      refine c_VQI dX7_parseOutside_35 (mm_number (lo := 0) (ho := 300) (x := pNext b N s) (by decide) (by decide) hn h2) lk_X7_260 rfl (isO_MO _ _ _) rfl (ltS (by assumption)) (fun v T t => ?_)
      refine wa_istore_n dX7_parseOutside_38 rfl ?_
      refine wa_aload_n dX7_parseOutside_39 rfl ?_
      refine g_row (by assumption) dX7_parseOutside_40 fl_X7_24 ?_
      rw [HS.mr9 t.hs]
      refine wa_iconst (x := 2) dX7_parseOutside_43 (by decide) ?_
      refine wa_iload_n dX7_parseOutside_44 rfl ?_
      refine wa_if_eq 53 dX7_parseOutside_45 rfl (fun c45 => absurd c45 (by decide)) (fun c45 => ?_)
      refine wa_iload_n dX7_parseOutside_48 rfl ?_
      refine wa_ineg dX7_parseOutside_49 ?_
      refine wa_goto 54 dX7_parseOutside_50 rfl ?_
      refine s_iast (j := 2) isA_draft dX7_parseOutside_54 (ltS (by assumption)) rfl (by decide) ?_
      have g0 := out_neg hp t
      refine wa_aload_n dX7_parseOutside_55 rfl ?_
      refine c_VQV dX7_parseOutside_56 (mm_semicolon hn g0) lk_X7_290 rfl (isO_MO _ _ _) rfl (ltS (by assumption)) (fun S9 h9 => ?_)
      exact wa_return dX7_parseOutside_59 (hQ _ h9)
    · have hv : b2i (sx b N 45 (.inr s) = true) = 0 := b2i_0 hp
      rw [hv]
      refine wa_iload_n dX7_parseOutside_12 rfl ?_
      refine wa_if_eq 20 dX7_parseOutside_13 rfl (fun c13 => ?_) (fun c13 => absurd rfl c13)
      refine wa_aload_n dX7_parseOutside_20 rfl ?_
      refine wa_iconst (x := 0) dX7_parseOutside_21 (by decide) ?_
      refine wa_iload_n dX7_parseOutside_22 rfl ?_
      refine wa_if_eq 32 dX7_parseOutside_23 rfl (fun c23 => ?_) (fun c23 => absurd rfl c23)
      refine wa_sipush (x := 400) dX7_parseOutside_32 (by decide) ?_
      refine c_VQI dX7_parseOutside_35 (mm_number (lo := 0) (ho := 400) (x := .inr s) (by decide) (by decide) hn h) lk_X7_260 rfl (isO_MO _ _ _) rfl (ltS (by assumption)) (fun v T t => ?_)
      refine wa_istore_n dX7_parseOutside_38 rfl ?_
      refine wa_aload_n dX7_parseOutside_39 rfl ?_
      refine g_row (by assumption) dX7_parseOutside_40 fl_X7_24 ?_
      rw [HS.mr9 t.hs]
      refine wa_iconst (x := 2) dX7_parseOutside_43 (by decide) ?_
      refine wa_iload_n dX7_parseOutside_44 rfl ?_
      refine wa_if_eq 53 dX7_parseOutside_45 rfl (fun c45 => ?_) (fun c45 => absurd rfl c45)
      refine wa_iload_n dX7_parseOutside_53 rfl ?_
      refine s_iast (j := 2) isA_draft dX7_parseOutside_54 (ltS (by assumption)) rfl (by decide) ?_
      have g0 : HS b N S0 (ss T 269 2 v) (pOut1 b N s) := by
        have g1 := t.hdr (j := 2) (by unfold hdr; decide)
        rw [yHdr_e] at g1
        rw [pOut1_0 hp]
        exact g1
      refine wa_aload_n dX7_parseOutside_55 rfl ?_
      refine c_VQV dX7_parseOutside_56 (mm_semicolon hn g0) lk_X7_290 rfl (isO_MO _ _ _) rfl (ltS (by assumption)) (fun S9 h9 => ?_)
      exact wa_return dX7_parseOutside_59 (hQ _ h9)
theorem mm_parseOutside {n : Nat} {S : SS} {b : Nat → Int32} {N : Nat} {S0 : SS} {x : PR PST} (hn : 279 ≤ n) (h : HS b N S0 S x) : AM yX7_parseOutside cX7_parseOutside 3 none [] 8 0 0 [.ref 267] n (Hp S) (PVe n (fun S' => HS b N S0 S' (pb x (pOutside b N)))) := by
  intro has
  change WA RX7 cX7_parseOutside 3 [] _ _ 0 0 0 [some (.ref 267), none, none] [] n _
  refine wa_aload_n dX7_parseOutside_0 rfl ?_
  refine wa_iconst (x := 0) dX7_parseOutside_1 (by decide) ?_
  refine c_VQV dX7_parseOutside_2 (mm_once (k := 0) hn (by decide) h) lk_X7_284 rfl (isO_MO _ _ _) rfl (ltS (by assumption)) (fun S1 h1 => ?_)
  refine wa_aload_n dX7_parseOutside_5 rfl ?_
  refine wa_bipush (x := 45) dX7_parseOutside_6 (by decide) ?_
  refine c_VI dX7_parseOutside_8 (mm_isSign hn h1 45 (by decide) (by decide)) lk_X7_287 rfl (isO_MO _ _ _) rfl (ltS (by assumption)) ?_
  refine wa_istore_n dX7_parseOutside_11 rfl ?_
  refine out_tail hn h1 (fun S9 h9 => ⟨Nat.le_refl _, Nat.le_refl _, rfl, rfl, rfl, _, rfl, ?_⟩)
  have e : pb x (pOutside b N) = pb (pb (pb x (pOnce b N 0)) (pOut1 b N)) (pEnd b N) := by
    unfold pOutside
    simp only [pb_pb]
  rw [e]; exact h9
