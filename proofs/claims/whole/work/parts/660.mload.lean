/-! ValveRoomModel: layPlain, load. Written by program (wip/whole/gen/m660.py) but for the heads. -/
/-- the reference's row turned to its draft, or to its net -/
def sf (S : SS) (c : Bool) : SS := (S.1, S.2.1, S.2.2.1, c, S.2.2.2.2)
theorem sf_mk (k : Nat) (f : Nat → Int32) (w : Nat) (R : SR) (c : Bool) (h : ¬ k = 267) : ly_mk k f w (R.1, c, R.2.2) = ly_mk k f w R := by
  unfold ly_mk
  by_cases h0 : k < 3
  · rw [if_pos h0, if_pos h0] <;> rfl
  rw [if_neg h0, if_neg h0]
  by_cases h1 : k < 26
  · rw [if_pos h1, if_pos h1] <;> rfl
  rw [if_neg h1, if_neg h1]
  by_cases h2 : k < 34
  · rw [if_pos h2, if_pos h2] <;> rfl
  rw [if_neg h2, if_neg h2]
  by_cases h3 : k < 80
  · rw [if_pos h3, if_pos h3] <;> rfl
  rw [if_neg h3, if_neg h3]
  by_cases h4 : k < 83
  · rw [if_pos h4, if_pos h4] <;> rfl
  rw [if_neg h4, if_neg h4]
  by_cases h5 : k < 267
  · rw [if_pos h5, if_pos h5] <;> rfl
  rw [if_neg h5, if_neg h5]
  by_cases h6 : k < 279
  · rw [if_pos h6, if_pos h6, if_neg h, if_neg h]
  rw [if_neg h6, if_neg h6]
theorem hp_sf {S : SS} {c : Bool} : ab_up (Hp S) 267 (.inr (5, (ly_MO (S.1 267) (S.2.1 267) S.2.2).set 3 (.ref (if c then 269 else 268)))) = Hp (sf S c) := by
  funext k
  unfold ab_up
  by_cases hk : k = 267
  · subst hk
    rw [if_pos rfl]
    rfl
  · rw [if_neg hk]
    exact (sf_mk k (S.1 k) (S.2.1 k) S.2.2 c hk).symm
section SFP
variable {own : String} {cc : ByteArray} {nL : Nat} {hh : List (Nat × Nat × Nat × Nat)} {R : Room} {Q : ab_Q} {k z pc : Nat} {ls : List (Option Value)} {st : List Value} {n : Nat} {S : SS}
theorem p_row {index a : Nat} (c : Bool) (hn : 279 ≤ n) (d : decode cc pc = .ok (.putfield index, 3)) (fl : Cond.fieldLink own index (TX7 3).1 (TX7 3).2.1 (TX7 3).2.2.1 ∈ ab_big) (ha : a = if c then 269 else 268)
    (K : WA own cc nL hh R Q k z (pc + 3) ls st n (Hp (sf S c))) : WA own cc nL hh R Q k z pc ls (.ref a :: .ref 267 :: st) n (Hp S) := by
  subst ha
  refine wa_putf 3 tyX7 d fl cl_MO.1 cl_MO.2.1 cl_MO.2.2.1 cl_MO.2.2.2 (by decide) rfl (ty := .array .int) rfl (fun _ => rfl) (fun _ => rfl) (ltS hn) (isO_MO _ _ _) (Nat.le_of_ble_eq_true rfl) ?_
  rw [hp_sf]
  exact K
end SFP
def zk (f : Nat → Int32) (k : Nat) : Nat → Int32 := fun j => if j < k then 0 else f j
theorem zk_0 (f : Nat → Int32) : zk f 0 = f := by funext j; exact if_neg (Nat.not_lt_zero _)
theorem zk_s (f : Nat → Int32) (k : Nat) : upd (zk f k) k 0 = zk f (k + 1) := by
  funext j
  unfold upd zk
  by_cases h : j = k
  · rw [if_pos h, if_pos (by omega)]
  · rw [if_neg h]
    by_cases h1 : j < k
    · rw [if_pos h1, if_pos (by omega)]
    · rw [if_neg h1, if_neg (by omega)]
theorem VG_plain : VG 0 plain := by
  have e1 : plain 1 = 0 := rfl
  have e0 : plain 0 = 0 := rfl
  have e3 : plain 3 = 0 := rfl
  have ep : pn plain = 0 := rfl
  refine ⟨by rw [e1]; decide, by rw [e0]; decide, by rw [e3]; decide, fun k hk => by rw [ep] at hk; omega, fun i => ?_⟩
  have e : pg plain i = fun _ => 0 := by
    funext t
    unfold pg of plain
    by_cases h : t < 48
    · rw [if_pos h, if_neg (by omega), if_neg (by omega), if_neg (by omega), if_neg (by omega), if_neg (by omega), if_neg (by omega), if_neg (by omega), if_neg (by omega)]
    · rw [if_neg h]
  rw [e]
  exact ⟨fun _ _ => rfl, fun _ => Or.inl rfl⟩
theorem plain_e (f : Nat → Int32) {j : Nat} (hj : j < 467) : (upd (upd (upd (upd (upd (upd (upd (upd (zk f 467) 2 50) 4 8) 5 3) 6 30) 7 3) 8 5) 9 20) 10 100) j = plain j := by
  unfold upd zk plain
  by_cases h2 : j = 2
  · subst h2; rfl
  by_cases h4 : j = 4
  · subst h4; rfl
  by_cases h5 : j = 5
  · subst h5; rfl
  by_cases h6 : j = 6
  · subst h6; rfl
  by_cases h7 : j = 7
  · subst h7; rfl
  by_cases h8 : j = 8
  · subst h8; rfl
  by_cases h9 : j = 9
  · subst h9; rfl
  by_cases h10 : j = 10
  · subst h10; rfl
  rw [if_neg h10, if_neg h9, if_neg h8, if_neg h7, if_neg h6, if_neg h5, if_neg h4, if_neg h2, if_pos hj, if_neg h2, if_neg h4, if_neg h5, if_neg h6, if_neg h7, if_neg h8, if_neg h9, if_neg h10]
theorem lp_plain {Q : ab_Q} {n : Nat} {S : SS} (f : Nat → Int32) (hn : 279 ≤ n) (hQ : ∀ l1, WA RX7 cX7_layPlain 2 [] (ab_rm 0 0 0) Q 0 0 22 [some (.ref 267), l1] [] n (Hp (su S (mr S) (zk f 467)))) :
    ∀ (r k : Nat), k + r = 467 → WA RX7 cX7_layPlain 2 [] (ab_rm 0 0 0) Q 0 0 2 [some (.ref 267), some (.int (nI k))] [] n (Hp (su S (mr S) (zk f k))) := by
  intro r
  induction r with
  | zero =>
    intro k hk
    have hk' : 467 = k := by omega
    
    have hk2 : k = 467 := hk'.symm
    refine wa_iload_n dX7_layPlain_2 rfl ?_
    refine wa_sipush (x := 467) dX7_layPlain_3 (by decide) ?_
    refine wa_icmp_ge 22 dX7_layPlain_6 rfl (fun c6 => ?_) (fun c6 => absurd (nI_le (a := 467) (Nat.le_refl _) (by decide)) (by rw [hk2] at c6; exact c6))
    rw [hk2]
    exact hQ _
  | succ r ih =>
    intro k hk

    refine wa_iload_n dX7_layPlain_2 rfl ?_
    refine wa_sipush (x := 467) dX7_layPlain_3 (by decide) ?_
    refine wa_icmp_ge 22 dX7_layPlain_6 rfl (fun c6 => absurd c6 (Int32.not_le.mpr (nI_lt (a := k) (b := 467) (by omega) (by decide)))) (fun c6 => ?_)
    refine wa_aload_n dX7_layPlain_9 rfl ?_
    refine g_row (by assumption) dX7_layPlain_10 fl_X7_24 ?_
    rw [show mr (su S (mr S) (zk f k)) = mr S from rfl]
    refine wa_iload_n dX7_layPlain_13 rfl ?_
    refine wa_iconst (x := 0) dX7_layPlain_14 (by decide) ?_
    refine s_iast (j := k) (isA_mr (S := S)) dX7_layPlain_15 (lt_mr (S := S) (by assumption)) (ix_nI (by omega)) (by omega) ?_
    rw [ss_su]
    rw [zk_s]
    refine wa_iinc (y := 1) dX7_layPlain_16 rfl (by decide) rfl ?_
    refine wa_goto 2 dX7_layPlain_19 rfl ?_
    rw [nI_1 k]
    exact ih (k + 1) (by omega)
theorem mm_layPlain {n : Nat} {S : SS} (hn : 279 ≤ n) : AM yX7_layPlain cX7_layPlain 2 none [] 0 0 0 [.ref 267] n (Hp S) (PV n (su S (mr S) plain)) := by
  intro has
  change WA RX7 cX7_layPlain 2 [] _ _ 0 0 0 [some (.ref 267), none] [] n _
  refine wa_iconst (x := 0) dX7_layPlain_0 (by decide) ?_
  refine wa_istore_n dX7_layPlain_1 rfl ?_
  refine wa_cg (show su S (mr S) (zk (S.1 (mr S)) 0) = S by rw [zk_0]; exact su_self S (mr S)) ?_
  refine lp_plain (S := S) (S.1 (mr S)) hn (fun l1 => ?_) 467 0 (Nat.zero_add _)
  refine wa_aload_n dX7_layPlain_22 rfl ?_
  refine g_row (by assumption) dX7_layPlain_23 fl_X7_24 ?_
  rw [show mr (su S (mr S) (zk (S.1 (mr S)) 467)) = mr S from rfl]
  refine wa_iconst (x := 2) dX7_layPlain_26 (by decide) ?_
  refine wa_bipush (x := 50) dX7_layPlain_27 (by decide) ?_
  refine s_iast (j := 2) (isA_mr (S := S)) dX7_layPlain_29 (lt_mr (S := S) (by assumption)) rfl (by decide) ?_
  rw [ss_su]
  refine wa_aload_n dX7_layPlain_30 rfl ?_
  refine g_row (by assumption) dX7_layPlain_31 fl_X7_24 ?_
  rw [show mr (su S (mr S) (upd (zk (S.1 (mr S)) 467) 2 50)) = mr S from rfl]
  refine wa_iconst (x := 4) dX7_layPlain_34 (by decide) ?_
  refine wa_bipush (x := 8) dX7_layPlain_35 (by decide) ?_
  refine s_iast (j := 4) (isA_mr (S := S)) dX7_layPlain_37 (lt_mr (S := S) (by assumption)) rfl (by decide) ?_
  rw [ss_su]
  refine wa_aload_n dX7_layPlain_38 rfl ?_
  refine g_row (by assumption) dX7_layPlain_39 fl_X7_24 ?_
  rw [show mr (su S (mr S) (upd (upd (zk (S.1 (mr S)) 467) 2 50) 4 8)) = mr S from rfl]
  refine wa_iconst (x := 5) dX7_layPlain_42 (by decide) ?_
  refine wa_iconst (x := 3) dX7_layPlain_43 (by decide) ?_
  refine s_iast (j := 5) (isA_mr (S := S)) dX7_layPlain_44 (lt_mr (S := S) (by assumption)) rfl (by decide) ?_
  rw [ss_su]
  refine wa_aload_n dX7_layPlain_45 rfl ?_
  refine g_row (by assumption) dX7_layPlain_46 fl_X7_24 ?_
  rw [show mr (su S (mr S) (upd (upd (upd (zk (S.1 (mr S)) 467) 2 50) 4 8) 5 3)) = mr S from rfl]
  refine wa_bipush (x := 6) dX7_layPlain_49 (by decide) ?_
  refine wa_bipush (x := 30) dX7_layPlain_51 (by decide) ?_
  refine s_iast (j := 6) (isA_mr (S := S)) dX7_layPlain_53 (lt_mr (S := S) (by assumption)) rfl (by decide) ?_
  rw [ss_su]
  refine wa_aload_n dX7_layPlain_54 rfl ?_
  refine g_row (by assumption) dX7_layPlain_55 fl_X7_24 ?_
  rw [show mr (su S (mr S) (upd (upd (upd (upd (zk (S.1 (mr S)) 467) 2 50) 4 8) 5 3) 6 30)) = mr S from rfl]
  refine wa_bipush (x := 7) dX7_layPlain_58 (by decide) ?_
  refine wa_iconst (x := 3) dX7_layPlain_60 (by decide) ?_
  refine s_iast (j := 7) (isA_mr (S := S)) dX7_layPlain_61 (lt_mr (S := S) (by assumption)) rfl (by decide) ?_
  rw [ss_su]
  refine wa_aload_n dX7_layPlain_62 rfl ?_
  refine g_row (by assumption) dX7_layPlain_63 fl_X7_24 ?_
  rw [show mr (su S (mr S) (upd (upd (upd (upd (upd (zk (S.1 (mr S)) 467) 2 50) 4 8) 5 3) 6 30) 7 3)) = mr S from rfl]
  refine wa_bipush (x := 8) dX7_layPlain_66 (by decide) ?_
  refine wa_iconst (x := 5) dX7_layPlain_68 (by decide) ?_
  refine s_iast (j := 8) (isA_mr (S := S)) dX7_layPlain_69 (lt_mr (S := S) (by assumption)) rfl (by decide) ?_
  rw [ss_su]
  refine wa_aload_n dX7_layPlain_70 rfl ?_
  refine g_row (by assumption) dX7_layPlain_71 fl_X7_24 ?_
  rw [show mr (su S (mr S) (upd (upd (upd (upd (upd (upd (zk (S.1 (mr S)) 467) 2 50) 4 8) 5 3) 6 30) 7 3) 8 5)) = mr S from rfl]
  refine wa_bipush (x := 9) dX7_layPlain_74 (by decide) ?_
  refine wa_bipush (x := 20) dX7_layPlain_76 (by decide) ?_
  refine s_iast (j := 9) (isA_mr (S := S)) dX7_layPlain_78 (lt_mr (S := S) (by assumption)) rfl (by decide) ?_
  rw [ss_su]
  refine wa_aload_n dX7_layPlain_79 rfl ?_
  refine g_row (by assumption) dX7_layPlain_80 fl_X7_24 ?_
  rw [show mr (su S (mr S) (upd (upd (upd (upd (upd (upd (upd (zk (S.1 (mr S)) 467) 2 50) 4 8) 5 3) 6 30) 7 3) 8 5) 9 20)) = mr S from rfl]
  refine wa_bipush (x := 10) dX7_layPlain_83 (by decide) ?_
  refine wa_bipush (x := 100) dX7_layPlain_85 (by decide) ?_
  refine s_iast (j := 10) (isA_mr (S := S)) dX7_layPlain_87 (lt_mr (S := S) (by assumption)) rfl (by decide) ?_
  rw [ss_su]
  refine wa_extS (isA_mr (S := S)) (S' := su S (mr S) plain) rfl (fun b hb => by rw [su_n _ _ hb, su_n _ _ hb]) (fun j hj => by rw [su_s, su_s]; exact plain_e _ hj) ?_
  exact wa_return dX7_layPlain_88 ⟨Nat.le_refl _, Nat.le_refl _, rfl, rfl, rfl, rfl⟩
def MON (F : PST → PR PST) : Prop := ∀ s s', F s = .inr s' → s.1 ≤ s'.1
theorem pb_inv {α β : Type} {x : PR α} {f : α → PR β} {q : β} (h : pb x f = .inr q) : ∃ a, x = .inr a ∧ f a = .inr q := by
  cases x with
  | inl e => cases h
  | inr a => exact ⟨a, rfl, h⟩
section PG
variable {b : Nat → Int32} {N : Nat}
theorem MON.pbs {F G : PST → PR PST} (hF : MON F) (hG : MON G) : MON (fun s => pb (F s) G) := fun s s' h => by
  obtain ⟨a, h1, h2⟩ := pb_inv h
  exact Nat.le_trans (hF s a h1) (hG a s' h2)
theorem once_m (k : Nat) : MON (pOnce b N k) := fun s s' h => by
  unfold pOnce at h
  split at h
  · cases h
  · cases h; exact nx_ge _ _ _
theorem hdr_m (j lo hi : Nat) : MON (pHdr b N j lo hi) := fun s s' h => by
  obtain ⟨q, h1, h2⟩ := pb_inv h
  cases h2
  exact Nat.le_of_lt (pNum_gt h1)
theorem numA_gt {i lo hi p : Nat} {q : Nat × Nat} (h : pNumA b N i lo hi p = .inr q) : p ≤ q.2 := by
  obtain ⟨r, h1, h2⟩ := pb_inv h
  have h3 := pNum_gt h2
  unfold pWord at h1
  split at h1
  · cases h1
    have := nx_ge b N p
    omega
  · cases h1
theorem numIf_ge {i pl lo hi p : Nat} {q : Nat × Nat} (h : pNumIf b N i pl lo hi p = .inr q) : p ≤ q.2 := by
  unfold pNumIf at h
  split at h
  · exact numA_gt h
  · cases h; exact Nat.le_refl _
theorem hold_m : MON (pHold b N) := fun s s' h => by
  obtain ⟨q, h1, h2⟩ := pb_inv h
  cases h2
  exact numA_gt h1
theorem out1_m : MON (pOut1 b N) := fun s s' h => by
  unfold pOut1 at h
  split at h
  · obtain ⟨q, h1, h2⟩ := pb_inv h
    cases h2
    have a1 := pNum_gt h1
    have a2 := nx_ge b N s.1
    show s.1 ≤ q.2
    omega
  · exact hdr_m _ _ _ s s' h
theorem end_gt {s s' : PST} (h : pEnd b N s = .inr s') : s.1 < s'.1 := by
  obtain ⟨q, h1, h2⟩ := pb_inv h
  cases h2
  exact pSym_gt h1
theorem MON.end {F : PST → PR PST} (hF : MON F) {s s' : PST} (h : pb (F s) (pEnd b N) = .inr s') : s.1 < s'.1 := by
  obtain ⟨a, h1, h2⟩ := pb_inv h
  exact Nat.lt_of_le_of_lt (hF s a h1) (end_gt h2)
theorem entries_m (r : Nat) : ∀ f, MON (pEntries b N r f)
  | 0 => fun s s' h => by cases h; exact Nat.le_refl _
  | f + 1 => fun s s' h => by
    rw [pEntries_s] at h
    obtain ⟨a, h1, h2⟩ := pb_inv h
    have h3 := pEntry_gt h1
    unfold pLoop at h2
    split at h2
    · have := entries_m r f a s' h2
      omega
    · cases h2; omega
theorem room_gt {s s' : PST} (h : pNewRoom b N s = .inr s') : s.1 < s'.1 := by
  obtain ⟨x, h1, h2⟩ := pb_inv h
  obtain ⟨f, h3, h4⟩ := pb_inv h2
  obtain ⟨p, h5, h6⟩ := pb_inv h4
  cases h6
  have a5 := pSym_gt h5
  obtain ⟨q1, k1, h3⟩ := pb_inv h3
  obtain ⟨q2, k2, h3⟩ := pb_inv h3
  obtain ⟨q3, k3, h3⟩ := pb_inv h3
  obtain ⟨q4, k4, h3⟩ := pb_inv h3
  obtain ⟨q5, k5, h3⟩ := pb_inv h3
  cases h3
  have b1 := numA_gt k1
  have b2 := numIf_ge k2
  have b3 := numIf_ge k3
  have b4 := numIf_ge k4
  have b5 := numIf_ge k5
  have b0 : s.1 ≤ x.2 := by
    unfold pRoom1 at h1
    split at h1
    · cases h1
    · obtain ⟨k, j1, j2⟩ := pb_inv h1
      split at j2
      · cases j2
        have c1 := nx_ge b N s.1
        have c2 := nx_ge b N (nx b N s.1)
        exact Nat.le_trans c1 c2
      · cases j2
  show s.1 < p
  have a5' : q5.2 < p := a5
  omega
theorem prog_gt {s s' : PST} (h : pProgram b N s = .inr s') : s.1 < s'.1 := by
  obtain ⟨r, h1, h2⟩ := pb_inv h
  split at h2
  · have := MON.end (entries_m r (N + 1)) h2
    exact Nat.lt_of_le_of_lt (nx_ge b N s.1) this
  · cases h2
theorem plan_gt {s s' : PST} (h : pPlan b N s = .inr s') : s.1 < s'.1 := by
  obtain ⟨q, h1, h2⟩ := pb_inv h
  obtain ⟨p, h3, h4⟩ := pb_inv h2
  cases h4
  have a3 := pSym_gt h3
  unfold pPlan1 at h1
  split at h1
  · cases h1
  · obtain ⟨v, k1, h1⟩ := pb_inv h1
    obtain ⟨r, k2, h1⟩ := pb_inv h1
    obtain ⟨k, k3, h1⟩ := pb_inv h1
    cases h1
    have b1 := pNum_gt k1
    have b2 := nx_ge b N s.1
    have b3 := nx_ge b N v.2
    have b4 := nx_ge b N (nx b N v.2)
    have a3' : nx b N (nx b N v.2) < p := a3
    show s.1 < p
    omega
theorem stmt_gt {s s' : PST} (h : pStmt b N s = .inr s') : s.1 < s'.1 := by
  unfold pStmt at h
  split at h
  · exact MON.end ((once_m 0).pbs out1_m) h
  · split at h
    · exact MON.end (((once_m 1).pbs (hdr_m 4 1 99)).pbs hold_m) h
    · split at h
      · exact MON.end ((once_m 2).pbs (hdr_m 6 0 150)) h
      · split at h
        · exact MON.end ((((once_m 3).pbs (hdr_m 7 0 50)).pbs (hdr_m 8 1 50)).pbs (hdr_m 9 1 100)) h
        · split at h
          · exact MON.end ((once_m 4).pbs (hdr_m 10 0 335)) h
          · split at h
            · exact room_gt h
            · split at h
              · exact prog_gt h
              · split at h
                · exact plan_gt h
                · cases h
end PG
theorem lp_stmts {Q : ab_Q} {n : Nat} {b : Nat → Int32} {N : Nat} {S0 : SS} {l1 : Option Value} (hn : 279 ≤ n) : ∀ (f : Nat) (y : PR PST) (S : SS), HS b N S0 S y → (∀ s, y = .inr s → N - s.1 ≤ f) → (∀ S', HS b N S0 S' (pb y (pAll b N (f + 1))) → WA RX7 cX7_load 2 [] (ab_rm 12 0 0) Q 0 0 111 [some (.ref 267), l1] [] n (Hp S')) → WA RX7 cX7_load 2 [] (ab_rm 12 0 0) Q 0 0 90 [some (.ref 267), l1] [] n (Hp S) := by
  intro f
  induction f with
  | zero =>
    intro y S h hf hQ
    cases y with
    | inl e =>
      replace h : BD b N S0 S e := h
      refine wa_aload_n dX7_load_90 rfl ?_
      refine c_VI dX7_load_91 (mm_good hn) lk_X7_165 rfl (isO_MO _ _ _) rfl (ltS (by assumption)) ?_
      rw [b2i_0 h.n0]
      refine wa_if_eq 111 dX7_load_94 rfl (fun c94 => ?_) (fun c94 => absurd rfl c94)
      exact hQ S h
    | inr s =>
      replace h : GD b N S0 S s := h
      refine wa_aload_n dX7_load_90 rfl ?_
      refine c_VI dX7_load_91 (mm_good hn) lk_X7_165 rfl (isO_MO _ _ _) rfl (ltS (by assumption)) ?_
      rw [b2i_1 h.g0]
      refine wa_if_eq 111 dX7_load_94 rfl (fun c94 => absurd c94 (by decide)) (fun c94 => ?_)
      refine wa_aload_n dX7_load_97 rfl ?_
      refine g_MO (by assumption) 10 dX7_load_98 fl_X7_181 (by decide) rfl ?_
      rw [h.tok]
      refine wa_if_eq 111 dX7_load_101 rfl (fun c101 => ?_) (fun c101 => ?_)
      · have e : pAll b N 1 s = .inr s := if_pos ((nI_eq (a := tk b N s.1) (b := 0) (by have := tk_3 b N s.1; omega) (by decide)).mp c101)
        have hQ2 : ∀ S', HS b N S0 S' (pAll b N 1 s) → _ := hQ
        rw [e] at hQ2
        exact hQ2 S h
      · refine wa_aload_n dX7_load_104 rfl ?_
        refine c_VQV dX7_load_105 (mm_parseStatement (x := .inr s) hn h) lk_X7_337 rfl (isO_MO _ _ _) rfl (ltS (by assumption)) (fun S1 h1 => ?_)
        refine wa_goto 90 dX7_load_108 rfl ?_
        have hk : ¬ tk b N s.1 = 0 := fun z => c101 (by rw [z]; rfl)
        have := tk_lt hk
        have := hf s rfl
        omega
  | succ f ih =>
    intro y S h hf hQ
    cases y with
    | inl e =>
      replace h : BD b N S0 S e := h
      refine wa_aload_n dX7_load_90 rfl ?_
      refine c_VI dX7_load_91 (mm_good hn) lk_X7_165 rfl (isO_MO _ _ _) rfl (ltS (by assumption)) ?_
      rw [b2i_0 h.n0]
      refine wa_if_eq 111 dX7_load_94 rfl (fun c94 => ?_) (fun c94 => absurd rfl c94)
      exact hQ S h
    | inr s =>
      replace h : GD b N S0 S s := h
      refine wa_aload_n dX7_load_90 rfl ?_
      refine c_VI dX7_load_91 (mm_good hn) lk_X7_165 rfl (isO_MO _ _ _) rfl (ltS (by assumption)) ?_
      rw [b2i_1 h.g0]
      refine wa_if_eq 111 dX7_load_94 rfl (fun c94 => absurd c94 (by decide)) (fun c94 => ?_)
      refine wa_aload_n dX7_load_97 rfl ?_
      refine g_MO (by assumption) 10 dX7_load_98 fl_X7_181 (by decide) rfl ?_
      rw [h.tok]
      refine wa_if_eq 111 dX7_load_101 rfl (fun c101 => ?_) (fun c101 => ?_)
      · have e : pAll b N (f + 1 + 1) s = .inr s := if_pos ((nI_eq (a := tk b N s.1) (b := 0) (by have := tk_3 b N s.1; omega) (by decide)).mp c101)
        have hQ2 : ∀ S', HS b N S0 S' (pAll b N (f + 1 + 1) s) → _ := hQ
        rw [e] at hQ2
        exact hQ2 S h
      · refine wa_aload_n dX7_load_104 rfl ?_
        refine c_VQV dX7_load_105 (mm_parseStatement (x := .inr s) hn h) lk_X7_337 rfl (isO_MO _ _ _) rfl (ltS (by assumption)) (fun S1 h1 => ?_)
        refine wa_goto 90 dX7_load_108 rfl ?_
        have hk : ¬ tk b N s.1 = 0 := fun z => c101 (by rw [z]; rfl)
        have h8 := tk_lt hk
        have h9 := hf s rfl
        have e : pAll b N (f + 1 + 1) s = pb (pStmt b N s) (pAll b N (f + 1)) := if_neg hk
        have hQ2 : ∀ S', HS b N S0 S' (pAll b N (f + 1 + 1) s) → _ := hQ
        rw [e] at hQ2
        exact ih (pStmt b N s) S1 h1 (fun s' e' => by have := stmt_gt e'; omega) hQ2
theorem lp_loadc {Q : ab_Q} {n : Nat} {S : SS} (f : Nat → Int32) (hn : 279 ≤ n) (hQ : ∀ l1, WA RX7 cX7_load 2 [] (ab_rm 12 0 0) Q 0 0 160 [some (.ref 267), l1] [] n (Hp (su S 268 (cp f (S.1 269) 467)))) :
    ∀ (r k : Nat), k + r = 467 → WA RX7 cX7_load 2 [] (ab_rm 12 0 0) Q 0 0 135 [some (.ref 267), some (.int (nI k))] [] n (Hp (su S 268 (cp f (S.1 269) k))) := by
  intro r
  induction r with
  | zero =>
    intro k hk
    have hk' : 467 = k := by omega
    
    have hk2 : k = 467 := hk'.symm
    refine wa_iload_n dX7_load_135 rfl ?_
    refine wa_sipush (x := 467) dX7_load_136 (by decide) ?_
    refine wa_icmp_ge 160 dX7_load_139 rfl (fun c139 => ?_) (fun c139 => absurd (nI_le (a := 467) (Nat.le_refl _) (by decide)) (by rw [hk2] at c139; exact c139))
    rw [hk2]
    exact hQ _
  | succ r ih =>
    intro k hk

    refine wa_iload_n dX7_load_135 rfl ?_
    refine wa_sipush (x := 467) dX7_load_136 (by decide) ?_
    refine wa_icmp_ge 160 dX7_load_139 rfl (fun c139 => absurd c139 (Int32.not_le.mpr (nI_lt (a := k) (b := 467) (by omega) (by decide)))) (fun c139 => ?_)
    refine wa_aload_n dX7_load_142 rfl ?_
    refine g_MO (by assumption) 1 dX7_load_143 fl_X7_17 (by decide) rfl ?_
    refine wa_iload_n dX7_load_146 rfl ?_
    refine wa_aload_n dX7_load_147 rfl ?_
    refine g_MO (by assumption) 2 dX7_load_148 fl_X7_21 (by decide) rfl ?_
    refine wa_iload_n dX7_load_151 rfl ?_
    refine s_iald (j := k) isA_draft dX7_load_152 (ltS (by assumption)) (ix_nI (by omega)) (by omega) ?_
    rw [show (su S 268 (cp f (S.1 269) k)).1 269 k = S.1 269 k from congrFun (su_n S _ (by decide)) k]
    refine s_iast (j := k) isA_net dX7_load_153 (ltS (by assumption)) (ix_nI (by omega)) (by omega) ?_
    rw [ss_su, cp_s]
    refine wa_iinc (y := 1) dX7_load_154 rfl (by decide) rfl ?_
    refine wa_goto 135 dX7_load_157 rfl ?_
    rw [nI_1 k]
    exact ih (k + 1) (by omega)
def ldA (S : SS) (m : Nat) : SS := ss (ss (ss (ss (ss (th S 0) 267 7 (nI m)) 267 6 0) 267 8 0) 267 12 0) 267 13 (-1)
def ldB (S : SS) (m : Nat) : SS := su (sf (su (ldA S m) 272 (zk (S.1 272) 5)) true) 269 plain
/-- what load leaves -/
def LDP (S : SS) (m : Nat) (v : Int32) (S' : SS) : Prop := match pLoad (S.1 271) m with
  | .inl e => v = -4 ∧ ∃ S1, BD (S.1 271) m (ldB S m) S1 e ∧ S' = sf S1 false
  | .inr s => v = s.2.1 0 ∧ ∃ S1, GD (S.1 271) m (ldB S m) S1 s ∧ S' = su (f_rem (sf S1 false)) 268 (cp (S1.1 268) s.2.1 467)
theorem ldB_PS {S : SS} {m : Nat} (hm : m ≤ 500) (hB : BY (S.1 271) m) : PS (S.1 271) m (ldB S m) (ldB S m) 0 plain 0 :=
  ⟨⟨rfl, rfl, fun _ _ _ _ => rfl, fun _ _ => rfl, rfl, hm, rfl, hB⟩, ⟨rfl, Nat.zero_le _⟩, rfl, rfl, su_s _ _ _, ⟨by decide, fun k hk => by
    rw [Nat.zero_testBit]
    show (if k < 5 then (0 : Int32) else S.1 272 k) = _
    rw [if_pos hk]; rfl⟩, VG_plain⟩
theorem lp_told {Q : ab_Q} {n m : Nat} {S : SS} (hn : 279 ≤ n) (hQ : ∀ l1, WA RX7 cX7_load 2 [] (ab_rm 12 0 0) Q 0 0 57 [some (.ref 267), l1] [] n (Hp (su (ldA S m) 272 (zk (S.1 272) 5)))) :
    ∀ (r k : Nat), k + r = 5 → WA RX7 cX7_load 2 [] (ab_rm 12 0 0) Q 0 0 35 [some (.ref 267), some (.int (nI k))] [] n (Hp (su (ldA S m) 272 (zk (S.1 272) k))) := by
  intro r
  induction r with
  | zero =>
    intro k hk
    have hk' : 5 = k := by omega
    
    have hk2 : k = 5 := hk'.symm
    refine wa_iload_n dX7_load_35 rfl ?_
    refine wa_aload_n dX7_load_36 rfl ?_
    refine g_MO (by assumption) 14 dX7_load_37 fl_X7_37 (by decide) rfl ?_
    refine s_alen isA_hasTold dX7_load_40 (by decide) (ltS (by assumption)) (v := 5) rfl ?_
    refine wa_icmp_ge 57 dX7_load_41 rfl (fun c41 => ?_) (fun c41 => absurd (nI_le (a := 5) (Nat.le_refl _) (by decide)) (by rw [hk2] at c41; exact c41))
    rw [hk2]
    exact hQ _
  | succ r ih =>
    intro k hk

    refine wa_iload_n dX7_load_35 rfl ?_
    refine wa_aload_n dX7_load_36 rfl ?_
    refine g_MO (by assumption) 14 dX7_load_37 fl_X7_37 (by decide) rfl ?_
    refine s_alen isA_hasTold dX7_load_40 (by decide) (ltS (by assumption)) (v := 5) rfl ?_
    refine wa_icmp_ge 57 dX7_load_41 rfl (fun c41 => absurd c41 (Int32.not_le.mpr (nI_lt (a := k) (b := 5) (by omega) (by decide)))) (fun c41 => ?_)
    refine wa_aload_n dX7_load_44 rfl ?_
    refine g_MO (by assumption) 14 dX7_load_45 fl_X7_37 (by decide) rfl ?_
    refine wa_iload_n dX7_load_48 rfl ?_
    refine wa_iconst (x := 0) dX7_load_49 (by decide) ?_
    refine s_zast (j := k) isA_hasTold dX7_load_50 (ltS (by assumption)) (ix_nI (by omega)) (by omega) ?_
    rw [ss_su, show vp_nar .boolean 0 = 0 from by decide, zk_s]
    refine wa_iinc (y := 1) dX7_load_51 rfl (by decide) rfl ?_
    refine wa_goto 35 dX7_load_54 rfl ?_
    rw [nI_1 k]
    exact ih (k + 1) (by omega)
theorem ld_bad {Q : ab_Q} {n : Nat} {S : SS} {b : Nat → Int32} {N : Nat} {S0 : SS} {e : Nat × Nat} {l1 : Option Value} (hn : 279 ≤ n) (h : BD b N S0 S e) (hQ : Q (.inl (some (.int (-4)))) 0 0 n (Hp (sf S false))) : WA RX7 cX7_load 2 [] (ab_rm 12 0 0) Q 0 0 111 [some (.ref 267), l1] [] n (Hp S) := by
  refine wa_aload_n dX7_load_111 rfl ?_
  refine wa_aload_n dX7_load_112 rfl ?_
  refine g_MO (by assumption) 1 dX7_load_113 fl_X7_17 (by decide) rfl ?_
  refine p_row false (by assumption) dX7_load_116 fl_X7_24 rfl ?_
  refine wa_aload_n dX7_load_119 rfl ?_
  refine c_VI dX7_load_120 (mm_good (S := sf S false) hn) lk_X7_165 rfl (isO_MO _ _ _) rfl (ltS (by assumption)) ?_
  rw [b2i_0 (show ¬ (sf S false).1 267 12 = 0 from h.n0)]
  refine wa_if_ne 129 dX7_load_123 rfl (fun c123 => absurd rfl c123) (fun c123 => ?_)
  refine wa_bipush (x := (-4)) dX7_load_126 (by decide) ?_
  exact wa_ireturn dX7_load_128 hQ
theorem ld_good {Q : ab_Q} {n : Nat} {S : SS} {b : Nat → Int32} {N : Nat} {S0 : SS} {s : PST} {l1 : Option Value} (hn : 279 ≤ n) (h : GD b N S0 S s) (hM : RM (sf S false)) (hQ : Q (.inl (some (.int (s.2.1 0)))) 0 0 n (Hp (su (f_rem (sf S false)) 268 (cp (S.1 268) s.2.1 467)))) : WA RX7 cX7_load 2 [] (ab_rm 12 0 0) Q 0 0 111 [some (.ref 267), l1] [] n (Hp S) := by
  refine wa_aload_n dX7_load_111 rfl ?_
  refine wa_aload_n dX7_load_112 rfl ?_
  refine g_MO (by assumption) 1 dX7_load_113 fl_X7_17 (by decide) rfl ?_
  refine p_row false (by assumption) dX7_load_116 fl_X7_24 rfl ?_
  refine wa_aload_n dX7_load_119 rfl ?_
  refine c_VI dX7_load_120 (mm_good (S := sf S false) hn) lk_X7_165 rfl (isO_MO _ _ _) rfl (ltS (by assumption)) ?_
  rw [b2i_1 (show (sf S false).1 267 12 = 0 from h.g0)]
  refine wa_if_ne 129 dX7_load_123 rfl (fun c123 => ?_) (fun c123 => absurd c123 (by decide))
  refine wa_aload_n dX7_load_129 rfl ?_
  refine c_VV dX7_load_130 (mm_remember (S := sf S false) hn hM) lk_X7_340 rfl (isO_MO _ _ _) rfl (ltS (by assumption)) ?_
  refine wa_iconst (x := 0) dX7_load_133 (by decide) ?_
  refine wa_istore_n dX7_load_134 rfl ?_
  have e9 : (f_rem (sf S false)).1 269 = s.2.1 := (rem_n _ (by decide) (by decide)).trans h.g
  have e8 : (f_rem (sf S false)).1 268 = S.1 268 := rem_n _ (by decide) (by decide)
  have em : mr (f_rem (sf S false)) = 268 := (mr_2 (rem_2 _)).trans rfl
  refine wa_cg (show su (f_rem (sf S false)) 268 (cp (S.1 268) ((f_rem (sf S false)).1 269) 0) = f_rem (sf S false) by rw [cp_0, ← e8]; exact su_self _ _) ?_
  refine lp_loadc (S := f_rem (sf S false)) (S.1 268) hn (fun l1 => ?_) 467 0 (Nat.zero_add _)
  rw [e9]
  refine wa_aload_n dX7_load_160 rfl ?_
  refine c_VI dX7_load_161 (mm_rooms hn) lk_X7_56 rfl (isO_MO _ _ _) rfl (ltS (by assumption)) ?_
  rw [show (su (f_rem (sf S false)) 268 (cp (S.1 268) s.2.1 467)).1 (mr (su (f_rem (sf S false)) 268 (cp (S.1 268) s.2.1 467))) 0 = s.2.1 0 from by rw [show mr (su (f_rem (sf S false)) 268 (cp (S.1 268) s.2.1 467)) = 268 from em, su_s]; rfl]
  exact wa_ireturn dX7_load_164 hQ
theorem mm_load {n m : Nat} {S : SS} (hn : 279 ≤ n) (hM : RM S) (h6 : S.1 267 6 = nI m) (hm5 : m ≤ 500) (hB : BY (S.1 271) m) : AM yX7_load cX7_load 2 (some .int) [] 12 0 0 [.ref 267] n (Hp S) (PIe n (LDP S m)) := by
  intro has
  change WA RX7 cX7_load 2 [] _ _ 0 0 0 [some (.ref 267), none] [] n _
  refine wa_aload_n dX7_load_0 rfl ?_
  refine wa_iconst (x := 0) dX7_load_1 (by decide) ?_
  refine p_MO (by assumption) 0 dX7_load_2 fl_X7_3 (by decide) rfl rfl rfl rfl (fun _ _ _ => rfl) (Nat.le_of_ble_eq_true rfl) ?_
  show WA _ _ _ _ _ _ _ _ _ _ _ _ (Hp (th S 0))
  refine wa_aload_n dX7_load_5 rfl ?_
  refine wa_aload_n dX7_load_6 rfl ?_
  refine g_MO (by assumption) 6 dX7_load_7 fl_X7_152 (by decide) rfl ?_
  rw [show (th S 0).1 267 6 = nI m from (th_k S 0 (by decide)).trans h6]
  refine p_MO (by assumption) 7 dX7_load_10 fl_X7_172 (by decide) rfl rfl rfl rfl (fun _ _ _ => rfl) (Nat.le_of_ble_eq_true rfl) ?_
  refine wa_aload_n dX7_load_13 rfl ?_
  refine wa_iconst (x := 0) dX7_load_14 (by decide) ?_
  refine p_MO (by assumption) 6 dX7_load_15 fl_X7_152 (by decide) rfl rfl rfl rfl (fun _ _ _ => rfl) (Nat.le_of_ble_eq_true rfl) ?_
  refine wa_aload_n dX7_load_18 rfl ?_
  refine wa_iconst (x := 0) dX7_load_19 (by decide) ?_
  refine p_MO (by assumption) 8 dX7_load_20 fl_X7_175 (by decide) rfl rfl rfl rfl (fun _ _ _ => rfl) (Nat.le_of_ble_eq_true rfl) ?_
  refine wa_aload_n dX7_load_23 rfl ?_
  refine wa_iconst (x := 0) dX7_load_24 (by decide) ?_
  refine p_MO (by assumption) 12 dX7_load_25 fl_X7_162 (by decide) rfl rfl rfl rfl (fun _ _ _ => rfl) (Nat.le_of_ble_eq_true rfl) ?_
  refine wa_aload_n dX7_load_28 rfl ?_
  refine wa_iconst (x := (-1)) dX7_load_29 (by decide) ?_
  refine p_MO (by assumption) 13 dX7_load_30 fl_X7_34 (by decide) rfl rfl rfl rfl (fun _ _ _ => rfl) (Nat.le_of_ble_eq_true rfl) ?_
  refine wa_iconst (x := 0) dX7_load_33 (by decide) ?_
  refine wa_istore_n dX7_load_34 rfl ?_
  show WA _ _ _ _ _ _ _ _ _ _ _ _ (Hp (ldA S m))
  refine wa_cg (show su (ldA S m) 272 (zk (S.1 272) 0) = ldA S m by rw [zk_0]; exact su_self (ldA S m) 272) ?_
  refine lp_told hn (fun l1 => ?_) 5 0 (Nat.zero_add _)
  refine wa_aload_n dX7_load_57 rfl ?_
  refine wa_aload_n dX7_load_58 rfl ?_
  refine g_MO (by assumption) 2 dX7_load_59 fl_X7_21 (by decide) rfl ?_
  refine p_row true (by assumption) dX7_load_62 fl_X7_24 rfl ?_
  refine wa_aload_n dX7_load_65 rfl ?_
  refine c_VV dX7_load_66 (mm_layPlain (S := sf (su (ldA S m) 272 (zk (S.1 272) 5)) true) hn) lk_X7_53 rfl (isO_MO _ _ _) rfl (ltS (by assumption)) ?_
  show WA _ _ _ _ _ _ _ _ _ _ _ _ (Hp (ldB S m))
  refine wa_aload_n dX7_load_69 rfl ?_
  refine c_VQV dX7_load_70 (mm_scan hn (ldB_PS hm5 hB)) lk_X7_196 rfl (isO_MO _ _ _) rfl (ltS (by assumption)) (fun S1 h1 => ?_)
  refine wa_aload_n dX7_load_73 rfl ?_
  refine wa_aload_n dX7_load_74 rfl ?_
  refine g_MO (by assumption) 10 dX7_load_75 fl_X7_181 (by decide) rfl ?_
  rw [h1.tok]
  refine wa_jn (P := tk (S.1 271) m (run (S.1 271) m 0 0) = 0) 85 86 (fun a b => wa_if_ne 85 dX7_load_78 rfl a (fun c => b (fun z => z c))) dX7_load_81 dX7_load_82 rfl dX7_load_85 rfl (by rw [show (0 : Int32) = nI 0 from rfl, nI_eq (Nat.lt_of_le_of_lt (tk_3 _ _ _) (by decide)) (by decide)]) ?_
  refine wa_iconst (x := 1) dX7_load_86 (by decide) ?_
  refine c_VQV dX7_load_87 (mm_errsIf (x := .inr (run (S.1 271) m 0 0, plain, 0)) hn h1 _ 1 (fun s => decide (tk (S.1 271) m s.1 = 0)) (by decide) (by decide) (fun s' e => by
      cases e
      unfold b2i
      by_cases hm : tk (S.1 271) m (run (S.1 271) m 0 0) = 0
      · rw [if_pos hm, if_pos (decide_eq_true hm)]
      · rw [if_neg hm, if_neg (by rw [decide_eq_true_iff]; exact hm)])) lk_X7_270 rfl (isO_MO _ _ _) rfl (ltS (by assumption)) (fun S2 h2 => ?_)
  have hz : pLoad (S.1 271) m = pb (pErr 1 (decide (tk (S.1 271) m (run (S.1 271) m 0 0) = 0)) (run (S.1 271) m 0 0, plain, 0)) (pAll (S.1 271) m (m + 1)) := by
    unfold pLoad pErr
    by_cases hk : tk (S.1 271) m (run (S.1 271) m 0 0) = 0
    · rw [if_pos hk, if_pos (decide_eq_true hk)]; rfl
    · rw [if_neg hk, if_neg (by rw [decide_eq_true_iff]; exact hk)]; rfl
  refine lp_stmts hn m _ S2 h2 (fun s' e => by omega) (fun S3 h3 => ?_)
  have h3' : HS (S.1 271) m (ldB S m) S3 (pLoad (S.1 271) m) := by rw [hz]; exact h3
  cases hp : pLoad (S.1 271) m with
  | inl e =>
    rw [hp] at h3'
    exact ld_bad hn h3' ⟨Nat.le_refl _, Nat.le_refl _, ⟨_, rfl, rfl⟩, rfl, _, _, rfl, rfl, by unfold LDP; rw [hp]; exact ⟨rfl, S3, h3', rfl⟩⟩
  | inr s =>
    rw [hp] at h3'
    have e18 : (sf S3 false).1 267 18 = S.1 267 18 := h3'.1.1.2.2.2.1 18 (by decide)
    exact ld_good hn h3' (by unfold RM; rw [e18]; exact hM) ⟨Nat.le_refl _, Nat.le_refl _, ⟨_, rfl, rfl⟩, rfl, _, _, rfl, rfl, by unfold LDP; rw [hp]; exact ⟨rfl, S3, h3', rfl⟩⟩
