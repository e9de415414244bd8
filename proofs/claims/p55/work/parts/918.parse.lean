/-! THE TEXT AS A WHOLE: what is drawn, what is written, what the draft tells then. -/
def x_out (v : Nat → Nat → Nat) : Int32 := if v 2 2 = 0 then nI (v 3 200) else -nI (v 3 100)
def s_out (v : Nat → Nat → Nat) : List Int32 := if 0 < v 1 3 then ab_ks 2 ++ (decI (x_out v) ++ ab_ks 3) else []
def s_win (v : Nat → Nat → Nat) : List Int32 := if v 4 2 = 0 then ab_ks 4 ++ (decI (nI (1 + v 5 12)) ++ (ab_ks 5 ++ (decI (nI (1 + v 6 5)) ++ ab_ks 3))) else []
def s_bak (v : Nat → Nat → Nat) : List Int32 := if v 7 2 = 0 then ab_ks 6 ++ (decI (nI (v 8 80)) ++ ab_ks 3) else []
def s_ctl (v : Nat → Nat → Nat) : List Int32 := if v 9 2 = 0 then ab_ks 7 ++ (decI (nI (v 10 8)) ++ (ab_ks 11 ++ (decI (nI (1 + v 11 12)) ++ (ab_ks 11 ++ (decI (nI (1 + v 12 60)) ++ ab_ks 3))))) else []
def s_exe (v : Nat → Nat → Nat) : List Int32 := if v 13 2 = 0 then ab_ks 15 ++ (decI (nI (v 14 60)) ++ ab_ks 3) else []
def s_o8 (v : Nat → Nat → Nat) (r : Nat) : List Int32 := if v (18 + r) 2 = 0 then ab_ks 18 ++ decI (nI (1 + v (21 + r) 30)) else []
def s_o9 (v : Nat → Nat → Nat) (r : Nat) : List Int32 := if v (24 + r) 2 = 0 then ab_ks 19 ++ decI (nI (v (27 + r) 20)) else []
def s_o10 (v : Nat → Nat → Nat) (r : Nat) : List Int32 := if v (30 + r) 2 = 0 then ab_ks 20 ++ decI (nI (v (33 + r) 101)) else []
def s_o11 (v : Nat → Nat → Nat) (r : Nat) : List Int32 := if v (36 + r) 2 = 0 then ab_ks 21 ++ decI (nI (v (39 + r) 300)) else []
def s_room (v : Nat → Nat → Nat) (r : Nat) : List Int32 := ab_ks 16 ++ ([nI (97 + r)] ++ (ab_ks 17 ++ (decI (nI (100 + v (15 + r) 150)) ++ (s_o8 v r ++ (s_o9 v r ++ (s_o10 v r ++ (s_o11 v r ++ ab_ks 3)))))))
def s_rooms (v : Nat → Nat → Nat) : Nat → List Int32
  | 0 => []
  | n + 1 => s_rooms v n ++ s_room v n
def s_prog (v : Nat → Nat → Nat) : List Int32 := if v 42 2 = 0 then ab_ks 22 ++ (decI (nI (v 43 20)) ++ (ab_ks 23 ++ (decI (nI (50 + v 44 200)) ++ (ab_ks 24 ++ (decI (nI (20 + v 45 28)) ++ (ab_ks 23 ++ (decI (nI (100 + v 46 150)) ++ ab_ks 3))))))) else []
def s_plan (v : Nat → Nat → Nat) (k : Nat) : List Int32 := ab_ks 25 ++ (decI (nI (1 + v (48 + k) 30)) ++ (ab_ks 26 ++ ([nI (97 + v (50 + k) (1 + v 0 3))] ++ (if v (52 + k) 2 = 0 then ab_ks 27 else ab_ks 28))))
def s_plans (v : Nat → Nat → Nat) : Nat → List Int32
  | 0 => []
  | k + 1 => s_plans v k ++ s_plan v k
def s_all (v : Nat → Nat → Nat) : List Int32 := s_out v ++ (s_win v ++ (s_bak v ++ (s_ctl v ++ (s_exe v ++ (s_rooms v (1 + v 0 3) ++ (s_prog v ++ s_plans v (v 47 3)))))))
theorem ks_2 (X : List Int32) : ab_ks 2 ++ X = kw 0 ++ spc true X := by rw [show ab_ks 2 = kw 0 ++ [32] by decide +kernel, List.append_assoc]; rfl
theorem ks_4 (X : List Int32) : ab_ks 4 ++ X = kw 1 ++ spc true X := by rw [show ab_ks 4 = kw 1 ++ [32] by decide +kernel, List.append_assoc]; rfl
theorem ks_5 (X : List Int32) : ab_ks 5 ++ X = spc true (kw 2 ++ spc true X) := by rw [show ab_ks 5 = 32 :: (kw 2 ++ [32]) by decide +kernel, List.cons_append, List.append_assoc]; rfl
theorem ks_6 (X : List Int32) : ab_ks 6 ++ X = kw 3 ++ spc true X := by rw [show ab_ks 6 = kw 3 ++ [32] by decide +kernel, List.append_assoc]; rfl
theorem ks_7 (X : List Int32) : ab_ks 7 ++ X = kw 4 ++ spc true X := by rw [show ab_ks 7 = kw 4 ++ [32] by decide +kernel, List.append_assoc]; rfl
theorem ks_15 (X : List Int32) : ab_ks 15 ++ X = kw 5 ++ spc true X := by rw [show ab_ks 15 = kw 5 ++ [32] by decide +kernel, List.append_assoc]; rfl
theorem ks_3 (X : List Int32) : ab_ks 3 ++ X = 59 :: X := by rw [show ab_ks 3 = [59] by decide +kernel]; rfl
theorem ks_11 (X : List Int32) : ab_ks 11 ++ X = spc true X := by rw [show ab_ks 11 = [32] by decide +kernel]; rfl
theorem ks_16 (X : List Int32) : ab_ks 16 ++ X = kw 6 ++ spc true (114 :: X) := by rw [show ab_ks 16 = kw 6 ++ [32, 114] by decide +kernel, List.append_assoc]; rfl
theorem ks_17 (X : List Int32) : ab_ks 17 ++ X = spc true (kw 7 ++ spc true X) := by rw [show ab_ks 17 = 32 :: (kw 7 ++ [32]) by decide +kernel, List.cons_append, List.append_assoc]; rfl
theorem ks_18 (X : List Int32) : ab_ks 18 ++ X = 32 :: (kw 8 ++ 32 :: X) := by rw [show ab_ks 18 = 32 :: (kw 8 ++ [32]) by decide +kernel, List.cons_append, List.append_assoc]; rfl
theorem ks_19 (X : List Int32) : ab_ks 19 ++ X = 32 :: (kw 9 ++ 32 :: X) := by rw [show ab_ks 19 = 32 :: (kw 9 ++ [32]) by decide +kernel, List.cons_append, List.append_assoc]; rfl
theorem ks_20 (X : List Int32) : ab_ks 20 ++ X = 32 :: (kw 10 ++ 32 :: X) := by rw [show ab_ks 20 = 32 :: (kw 10 ++ [32]) by decide +kernel, List.cons_append, List.append_assoc]; rfl
theorem ks_21 (X : List Int32) : ab_ks 21 ++ X = 32 :: (kw 11 ++ 32 :: X) := by rw [show ab_ks 21 = 32 :: (kw 11 ++ [32]) by decide +kernel, List.cons_append, List.append_assoc]; rfl
theorem ks_22 (X : List Int32) : ab_ks 22 ++ X = kw 12 ++ spc true ([114, nI (97 + 0)] ++ spc true X) := by rw [show ab_ks 22 = kw 12 ++ [32, 114, nI (97 + 0), 32] by decide +kernel, List.append_assoc]; rfl
theorem ks_23 (X : List Int32) : ab_ks 23 ++ X = 58 :: X := by rw [show ab_ks 23 = [58] by decide +kernel]; rfl
theorem ks_24 (X : List Int32) : ab_ks 24 ++ X = 44 :: X := by rw [show ab_ks 24 = [44] by decide +kernel]; rfl
theorem ks_25 (X : List Int32) : ab_ks 25 ++ X = kw 13 ++ spc true X := by rw [show ab_ks 25 = kw 13 ++ [32] by decide +kernel, List.append_assoc]; rfl
theorem ks_26 (X : List Int32) : ab_ks 26 ++ X = spc true (114 :: X) := by rw [show ab_ks 26 = [32, 114] by decide +kernel]; rfl
theorem ks_27 (X : List Int32) : ab_ks 27 ++ X = spc true (kw 14 ++ spc false (59 :: X)) := by rw [show ab_ks 27 = 32 :: (kw 14 ++ [59]) by decide +kernel, List.cons_append, List.append_assoc]; rfl
theorem ks_28 (X : List Int32) : ab_ks 28 ++ X = spc true (kw 17 ++ spc false (59 :: X)) := by rw [show ab_ks 28 = 32 :: (kw 17 ++ [59]) by decide +kernel, List.cons_append, List.append_assoc]; rfl
theorem lt31 {a : Nat} (h : a ≤ 99999) : a < 2 ^ 31 := by omega
/-- the rest of the text goes on so -/
def DN (b : Nat → Int32) (N c : Nat) (s : PST) (R : PR PST) : Prop := ∀ f, c ≤ f → pAll b N f s = R
section PA
variable {b : Nat → Int32} {N : Nat}
theorem DN_go {c : Nat} {s s' : PST} {R : PR PST} (ht : ¬ tk b N s.1 = 0) (e : pStmt b N s = .inr s') (h : DN b N c s' R) : DN b N (c + 1) s R := by
  intro f hf
  cases f with
  | zero => exact absurd hf (by omega)
  | succ f =>
    show (if tk b N s.1 = 0 then .inr s else pb (pStmt b N s) (pAll b N f)) = R
    rw [if_neg ht, e]
    exact h f (by omega)
theorem DN_no {c : Nat} {s : PST} {R : PR PST} (h : DN b N c s R) : DN b N (c + 1) s R := fun f hf => h f (by omega)
theorem once_ok {k p m : Nat} {g : Nat → Int32} (hm : m < 2 ^ k) : pOnce b N k (p, g, m) = .inr (nx b N p, g, m ||| 2 ^ k) := by
  unfold pOnce
  dsimp only
  rw [if_neg (by rw [Nat.testBit_lt_two_pow hm]; decide)]
theorem or_lt {m k : Nat} (hm : m < 2 ^ k) : m ||| 2 ^ k < 2 ^ (k + 1) := Nat.or_lt_two_pow (Nat.lt_of_lt_of_le hm (Nat.pow_le_pow_right (by decide) (Nat.le_succ k))) (Nat.pow_lt_pow_right (by decide) (Nat.lt_succ_self k))
theorem hdr_ok {j lo hi p a m : Nat} {g : Nat → Int32} {r : List Int32} (s : Bool) (ha : a ≤ 99999) (h : Suf b N p (decN a ++ spc s r)) (hr : HN 0 r) (hs : s = false → HN 2 r) (h1 : lo ≤ a) (h2 : a ≤ hi) : pHdr b N j lo hi (p, g, m) = .inr (nx b N p, upd g j (nI a), m) ∧ Suf b N (nx b N p) r := by
  obtain ⟨a1, a2⟩ := pNum_ok (lo := lo) (hi := hi) s ha h hr hs h1 h2
  refine ⟨?_, a2⟩
  unfold pHdr
  dsimp only
  rw [a1, pb_in]
theorem hn59 {k : Nat} (hk : ¬ k = 3) (r : List Int32) : HN k (59 :: r) := HN.c (fun z => hk (by rw [← z]; decide))
theorem hn58 {k : Nat} (hk : ¬ k = 3) (r : List Int32) : HN k (58 :: r) := HN.c (fun z => hk (by rw [← z]; decide))
theorem hn44 {k : Nat} (hk : ¬ k = 3) (r : List Int32) : HN k (44 :: r) := HN.c (fun z => hk (by rw [← z]; decide))
/-- a statement of one number -/
theorem one_ok {i k j lo hi p a m : Nat} {g : Nat → Int32} {r : List Int32} (hi18 : i < 18) (hm : m < 2 ^ k) (ha : a ≤ 99999) (h : Suf b N p (kw i ++ spc true (decN a ++ 59 :: r))) (hr : HN 0 r) (h1 : lo ≤ a) (h2 : a ≤ hi) : ∃ q, pb (pb (pOnce b N k (p, g, m)) (pHdr b N j lo hi)) (pEnd b N) = .inr (q, upd g j (nI a), m ||| 2 ^ k) ∧ Suf b N q r := by
  obtain ⟨-, w2, -, -⟩ := kw_at true hi18 h (decN_hn _ _) (fun z => by cases z)
  obtain ⟨n1, n2⟩ := hdr_ok (j := j) (lo := lo) (hi := hi) (m := m ||| 2 ^ k) (g := g) false ha w2 (hn59 (by decide) _) (fun _ => hn59 (by decide) _) h1 h2
  obtain ⟨e1, e2⟩ := pEnd_ok (m := m ||| 2 ^ k) (g := upd g j (nI a)) n2 hr
  refine ⟨_, ?_, e2⟩
  rw [once_ok hm, pb_in, n1, pb_in, e1]
theorem x_cases {v : Nat → Nat → Nat} (hv : ∀ k n, 0 < n → v k n < n) : (∃ a, a ≤ 400 ∧ x_out v = nI a) ∨ (∃ a, 0 < a ∧ a ≤ 300 ∧ x_out v = -nI a) := by
  have h1 := hv 3 200 (by decide)
  have h2 := hv 3 100 (by decide)
  unfold x_out
  by_cases c : v 2 2 = 0
  · rw [if_pos c]
    exact Or.inl ⟨_, by omega, rfl⟩
  · rw [if_neg c]
    by_cases c2 : v 3 100 = 0
    · rw [c2]
      exact Or.inl ⟨0, by decide, by decide⟩
    · exact Or.inr ⟨_, by omega, by omega, rfl⟩
theorem P_out {v : Nat → Nat → Nat} (hv : ∀ k n, 0 < n → v k n < n) {p : Nat} {g : Nat → Int32} {r : List Int32} (hI : IV g 0 0) (h : Suf b N p (s_out v ++ r)) (hr : HN 0 r) : ∃ p' g' m', Suf b N p' r ∧ IV g' 0 0 ∧ m' < 2 ^ 1 ∧ g' 2 = (if 0 < v 1 3 then x_out v else g 2) ∧ (∀ k, ¬ k = 2 → g' k = g k) ∧ ∀ c R, DN b N c (p', g', m') R → DN b N (c + 1) (p, g, 0) R := by
  unfold s_out at h
  by_cases hc : 0 < v 1 3
  · rw [if_pos hc, List.append_assoc, List.append_assoc, ks_2, ks_3] at h
    rw [if_pos hc]
    rcases x_cases hv with ⟨a, ha, e⟩ | ⟨a, h0, ha, e⟩
    · rw [e, decI_nn (lt31 (by omega))] at h
      obtain ⟨w1, w2, -, wt⟩ := kw_at true (by decide) h (decN_hn _ _) (fun z => by cases z)
      obtain ⟨n0, -, -⟩ := num_at (r := 59 :: r) false (by omega) w2 (hn59 (by decide) _) (fun _ => hn59 (by decide) _)
      obtain ⟨n1, n2⟩ := hdr_ok (j := 2) (lo := 0) (hi := 400) (m := 0 ||| 2 ^ 0) (g := g) false (by omega) w2 (hn59 (by decide) _) (fun _ => hn59 (by decide) _) (Nat.zero_le _) ha
      obtain ⟨e1, e2⟩ := pEnd_ok (m := 0 ||| 2 ^ 0) (g := upd g 2 (nI a)) n2 hr
      refine ⟨_, upd g 2 (nI a), 0 ||| 2 ^ 0, e2, IV_upd _ hI (by decide) (by decide) (by decide) (by decide), by decide, ?_, fun k hk => upd_o hk, fun c R hd => DN_go wt ?_ hd⟩
      · rw [e]; exact upd_e
      · have n3 : isS b N 45 (nx b N p) = false := Bool.eq_false_iff.mpr (fun z => by
          have := (isS_iff.mp z).1
          omega)
        unfold pStmt
        dsimp only
        rw [if_pos w1]
        unfold pOutside
        rw [once_ok (by decide), pb_in]
        unfold pOut1
        dsimp only
        rw [if_neg (by rw [n3]; decide), n1, pb_in, e1]
    · rw [e, decI_neg h0 (lt31 (by omega))] at h
      have hh : Suf b N p (kw 0 ++ spc true (45 :: spc false (decN a ++ 59 :: r))) := h
      obtain ⟨w1, w2, -, wt⟩ := kw_at true (by decide) hh (HN.c (by decide)) (fun z => by cases z)
      obtain ⟨s1, s2, -⟩ := isS_ok false w2 (by decide) (decN_hn _ _)
      obtain ⟨n1, n2⟩ := pNum_ok (r := 59 :: r) (lo := 0) (hi := 300) false (by omega) s2 (hn59 (by decide) _) (fun _ => hn59 (by decide) _) (Nat.zero_le _) ha
      obtain ⟨e1, e2⟩ := pEnd_ok (m := 0 ||| 2 ^ 0) (g := upd g 2 (-nI a)) n2 hr
      refine ⟨_, upd g 2 (-nI a), 0 ||| 2 ^ 0, e2, IV_upd _ hI (by decide) (by decide) (by decide) (by decide), by decide, ?_, fun k hk => upd_o hk, fun c R hd => DN_go wt ?_ hd⟩
      · rw [e]; exact upd_e
      · unfold pStmt
        dsimp only
        rw [if_pos w1]
        unfold pOutside
        rw [once_ok (by decide), pb_in]
        unfold pOut1
        dsimp only
        rw [if_pos s1, n1, pb_in, pb_in, e1]
  · rw [if_neg hc] at h
    rw [if_neg hc]
    exact ⟨p, g, 0, h, hI, by decide, rfl, fun _ _ => rfl, fun c R hd => DN_no hd⟩
theorem P_win {v : Nat → Nat → Nat} (hv : ∀ k n, 0 < n → v k n < n) {p m : Nat} {g : Nat → Int32} {r : List Int32} (hI : IV g 0 0) (hm : m < 2 ^ 1) (h : Suf b N p (s_win v ++ r)) (hr : HN 0 r) : ∃ p' g' m', Suf b N p' r ∧ IV g' 0 0 ∧ m' < 2 ^ 2 ∧ (∀ k, ¬ k = 4 → ¬ k = 5 → g' k = g k) ∧ ∀ c R, DN b N c (p', g', m') R → DN b N (c + 1) (p, g, m) R := by
  have v1 := hv 5 12 (by decide)
  have v2 := hv 6 5 (by decide)
  unfold s_win at h
  by_cases hc : v 4 2 = 0
  · rw [if_pos hc, List.append_assoc, List.append_assoc, List.append_assoc, List.append_assoc, ks_4, decI_nn (lt31 (by omega)), ks_5, decI_nn (lt31 (by omega)), ks_3] at h
    obtain ⟨w1, w2, wf, wt⟩ := kw_at true (by decide) h (decN_hn _ _) (fun z => by cases z)
    obtain ⟨n1, n2⟩ := hdr_ok (j := 4) (lo := 1) (hi := 99) (m := m ||| 2 ^ 1) (g := g) true (by omega) w2 (kw_hn (by decide) (by decide) _) (fun z => by cases z) (by omega) (by omega)
    obtain ⟨u1, u2, -, -⟩ := kw_at true (by decide) n2 (decN_hn _ _) (fun z => by cases z)
    obtain ⟨o1, o2⟩ := pNum_ok (r := 59 :: r) (lo := 1) (hi := 48) false (by omega) u2 (hn59 (by decide) _) (fun _ => hn59 (by decide) _) (by omega) (by omega)
    obtain ⟨e1, e2⟩ := pEnd_ok (m := m ||| 2 ^ 1) (g := upd (upd g 4 (nI (1 + v 5 12))) 5 (nI (1 + v 6 5))) o2 hr
    refine ⟨_, upd (upd g 4 (nI (1 + v 5 12))) 5 (nI (1 + v 6 5)), m ||| 2 ^ 1, e2, IV_upd _ (IV_upd _ hI (by decide) (by decide) (by decide) (by decide)) (by decide) (by decide) (by decide) (by decide), or_lt hm, fun k h4 h5 => (upd_o h5).trans (upd_o h4), fun c R hd => DN_go wt ?_ hd⟩
    unfold pStmt
    dsimp only
    rw [if_neg (by rw [wf 0 (by decide) (by decide)]; decide), if_pos w1]
    unfold pWindow
    rw [once_ok hm, pb_in, n1, pb_in]
    unfold pHold pNumA pWord
    dsimp only
    rw [if_pos u1, pb_in, o1, pb_in, pb_in, e1]
  · rw [if_neg hc] at h
    exact ⟨p, g, m, h, hI, by omega, fun _ _ _ => rfl, fun c R hd => DN_no hd⟩
theorem P_bak {v : Nat → Nat → Nat} (hv : ∀ k n, 0 < n → v k n < n) {p m : Nat} {g : Nat → Int32} {r : List Int32} (hI : IV g 0 0) (hm : m < 2 ^ 2) (h : Suf b N p (s_bak v ++ r)) (hr : HN 0 r) : ∃ p' g' m', Suf b N p' r ∧ IV g' 0 0 ∧ m' < 2 ^ 3 ∧ (∀ k, ¬ k = 6 → g' k = g k) ∧ ∀ c R, DN b N c (p', g', m') R → DN b N (c + 1) (p, g, m) R := by
  have v1 := hv 8 80 (by decide)
  unfold s_bak at h
  by_cases hc : v 7 2 = 0
  · rw [if_pos hc, List.append_assoc, List.append_assoc, ks_6, decI_nn (lt31 (by omega)), ks_3] at h
    obtain ⟨w1, w2, wf, wt⟩ := kw_at true (by decide) h (decN_hn _ _) (fun z => by cases z)
    obtain ⟨q, e1, e2⟩ := one_ok (j := 6) (lo := 0) (hi := 150) (g := g) (by decide) hm (by omega) h hr (Nat.zero_le _) (by omega)
    refine ⟨q, upd g 6 (nI (v 8 80)), m ||| 2 ^ 2, e2, IV_upd _ hI (by decide) (by decide) (by decide) (by decide), or_lt hm, fun k hk => upd_o hk, fun c R hd => DN_go wt ?_ hd⟩
    unfold pStmt
    dsimp only
    rw [if_neg (by rw [wf 0 (by decide) (by decide)]; decide), if_neg (by rw [wf 1 (by decide) (by decide)]; decide), if_pos w1]
    unfold pBack
    rw [e1]
  · rw [if_neg hc] at h
    exact ⟨p, g, m, h, hI, by omega, fun _ _ => rfl, fun c R hd => DN_no hd⟩
theorem P_ctl {v : Nat → Nat → Nat} (hv : ∀ k n, 0 < n → v k n < n) {p m : Nat} {g : Nat → Int32} {r : List Int32} (hI : IV g 0 0) (hm : m < 2 ^ 3) (h : Suf b N p (s_ctl v ++ r)) (hr : HN 0 r) : ∃ p' g' m', Suf b N p' r ∧ IV g' 0 0 ∧ m' < 2 ^ 4 ∧ (∀ k, ¬ k = 7 → ¬ k = 8 → ¬ k = 9 → g' k = g k) ∧ ∀ c R, DN b N c (p', g', m') R → DN b N (c + 1) (p, g, m) R := by
  have v1 := hv 10 8 (by decide)
  have v2 := hv 11 12 (by decide)
  have v3 := hv 12 60 (by decide)
  unfold s_ctl at h
  by_cases hc : v 9 2 = 0
  · rw [if_pos hc, List.append_assoc, List.append_assoc, List.append_assoc, List.append_assoc, List.append_assoc, List.append_assoc, ks_7, decI_nn (lt31 (by omega)), ks_11, decI_nn (lt31 (by omega)), ks_11, decI_nn (lt31 (by omega)), ks_3] at h
    obtain ⟨w1, w2, wf, wt⟩ := kw_at true (by decide) h (decN_hn _ _) (fun z => by cases z)
    obtain ⟨n1, n2⟩ := hdr_ok (j := 7) (lo := 0) (hi := 50) (m := m ||| 2 ^ 3) (g := g) true (by omega) w2 (decN_hn _ _) (fun z => by cases z) (Nat.zero_le _) (by omega)
    obtain ⟨n3, n4⟩ := hdr_ok (j := 8) (lo := 1) (hi := 50) (m := m ||| 2 ^ 3) (g := upd g 7 (nI (v 10 8))) true (by omega) n2 (decN_hn _ _) (fun z => by cases z) (by omega) (by omega)
    obtain ⟨n5, n6⟩ := hdr_ok (r := 59 :: r) (j := 9) (lo := 1) (hi := 100) (m := m ||| 2 ^ 3) (g := upd (upd g 7 (nI (v 10 8))) 8 (nI (1 + v 11 12))) false (by omega) n4 (hn59 (by decide) _) (fun _ => hn59 (by decide) _) (by omega) (by omega)
    obtain ⟨e1, e2⟩ := pEnd_ok (m := m ||| 2 ^ 3) (g := upd (upd (upd g 7 (nI (v 10 8))) 8 (nI (1 + v 11 12))) 9 (nI (1 + v 12 60))) n6 hr
    refine ⟨_, upd (upd (upd g 7 (nI (v 10 8))) 8 (nI (1 + v 11 12))) 9 (nI (1 + v 12 60)), m ||| 2 ^ 3, e2, IV_upd _ (IV_upd _ (IV_upd _ hI (by decide) (by decide) (by decide) (by decide)) (by decide) (by decide) (by decide) (by decide)) (by decide) (by decide) (by decide) (by decide), or_lt hm, fun k h7 h8 h9 => (upd_o h9).trans ((upd_o h8).trans (upd_o h7)), fun c R hd => DN_go wt ?_ hd⟩
    unfold pStmt
    dsimp only
    rw [if_neg (by rw [wf 0 (by decide) (by decide)]; decide), if_neg (by rw [wf 1 (by decide) (by decide)]; decide), if_neg (by rw [wf 3 (by decide) (by decide)]; decide), if_pos w1]
    unfold pControl
    rw [once_ok hm, pb_in, n1, pb_in, n3, pb_in, n5, pb_in, e1]
  · rw [if_neg hc] at h
    exact ⟨p, g, m, h, hI, by omega, fun _ _ _ _ => rfl, fun c R hd => DN_no hd⟩
theorem P_exe {v : Nat → Nat → Nat} (hv : ∀ k n, 0 < n → v k n < n) {p m : Nat} {g : Nat → Int32} {r : List Int32} (hI : IV g 0 0) (hm : m < 2 ^ 4) (h : Suf b N p (s_exe v ++ r)) (hr : HN 0 r) : ∃ p' g' m', Suf b N p' r ∧ IV g' 0 0 ∧ g' 10 = (if v 13 2 = 0 then nI (v 14 60) else g 10) ∧ (∀ k, ¬ k = 10 → g' k = g k) ∧ ∀ c R, DN b N c (p', g', m') R → DN b N (c + 1) (p, g, m) R := by
  have v1 := hv 14 60 (by decide)
  unfold s_exe at h
  by_cases hc : v 13 2 = 0
  · rw [if_pos hc, List.append_assoc, List.append_assoc, ks_15, decI_nn (lt31 (by omega)), ks_3] at h
    rw [if_pos hc]
    obtain ⟨w1, w2, wf, wt⟩ := kw_at true (by decide) h (decN_hn _ _) (fun z => by cases z)
    obtain ⟨q, e1, e2⟩ := one_ok (j := 10) (lo := 0) (hi := 335) (g := g) (by decide) hm (by omega) h hr (Nat.zero_le _) (by omega)
    refine ⟨q, upd g 10 (nI (v 14 60)), m ||| 2 ^ 4, e2, IV_upd _ hI (by decide) (by decide) (by decide) (by decide), upd_e, fun k hk => upd_o hk, fun c R hd => DN_go wt ?_ hd⟩
    unfold pStmt
    dsimp only
    rw [if_neg (by rw [wf 0 (by decide) (by decide)]; decide), if_neg (by rw [wf 1 (by decide) (by decide)]; decide), if_neg (by rw [wf 3 (by decide) (by decide)]; decide), if_neg (by rw [wf 4 (by decide) (by decide)]; decide), if_pos w1]
    unfold pExercise
    rw [e1]
  · rw [if_neg hc] at h
    rw [if_neg hc]
    exact ⟨p, g, m, h, hI, rfl, fun _ _ => rfl, fun c R hd => DN_no hd⟩
theorem o8_eq {v : Nat → Nat → Nat} (hv : ∀ k n, 0 < n → v k n < n) (i : Nat) (l : List (Nat × Nat)) (r : List Int32) : ∃ o x, OP 8 10 1 50 o x ∧ s_o8 v i ++ optR r l = optR r (o ++ l) := by
  have v1 := hv (21 + i) 30 (by decide)
  unfold s_o8
  by_cases c : v (18 + i) 2 = 0
  · rw [if_pos c, List.append_assoc, ks_18, decI_nn (lt31 (by omega))]
    exact ⟨[(8, 1 + v (21 + i) 30)], _, Or.inr ⟨rfl, by omega, by omega, by omega⟩, rfl⟩
  · rw [if_neg c]
    exact ⟨[], 10, Or.inl ⟨rfl, rfl⟩, rfl⟩
theorem o9_eq {v : Nat → Nat → Nat} (hv : ∀ k n, 0 < n → v k n < n) (i : Nat) (l : List (Nat × Nat)) (r : List Int32) : ∃ o x, OP 9 4 0 50 o x ∧ s_o9 v i ++ optR r l = optR r (o ++ l) := by
  have v1 := hv (27 + i) 20 (by decide)
  unfold s_o9
  by_cases c : v (24 + i) 2 = 0
  · rw [if_pos c, List.append_assoc, ks_19, decI_nn (lt31 (by omega))]
    exact ⟨[(9, v (27 + i) 20)], _, Or.inr ⟨rfl, by omega, by omega, by omega⟩, rfl⟩
  · rw [if_neg c]
    exact ⟨[], 4, Or.inl ⟨rfl, rfl⟩, rfl⟩
theorem o10_eq {v : Nat → Nat → Nat} (hv : ∀ k n, 0 < n → v k n < n) (i : Nat) (l : List (Nat × Nat)) (r : List Int32) : ∃ o x, OP 10 0 0 100 o x ∧ s_o10 v i ++ optR r l = optR r (o ++ l) := by
  have v1 := hv (33 + i) 101 (by decide)
  unfold s_o10
  by_cases c : v (30 + i) 2 = 0
  · rw [if_pos c, List.append_assoc, ks_20, decI_nn (lt31 (by omega))]
    exact ⟨[(10, v (33 + i) 101)], _, Or.inr ⟨rfl, by omega, by omega, by omega⟩, rfl⟩
  · rw [if_neg c]
    exact ⟨[], 0, Or.inl ⟨rfl, rfl⟩, rfl⟩
theorem o11_eq {v : Nat → Nat → Nat} (hv : ∀ k n, 0 < n → v k n < n) (i : Nat) (l : List (Nat × Nat)) (r : List Int32) : ∃ o x, OP 11 1000 0 9999 o x ∧ s_o11 v i ++ optR r l = optR r (o ++ l) := by
  have v1 := hv (39 + i) 300 (by decide)
  unfold s_o11
  by_cases c : v (36 + i) 2 = 0
  · rw [if_pos c, List.append_assoc, ks_21, decI_nn (lt31 (by omega))]
    exact ⟨[(11, v (39 + i) 300)], _, Or.inr ⟨rfl, by omega, by omega, by omega⟩, rfl⟩
  · rw [if_neg c]
    exact ⟨[], 1000, Or.inl ⟨rfl, rfl⟩, rfl⟩
theorem opts_eq {v : Nat → Nat → Nat} (hv : ∀ k n, 0 < n → v k n < n) (i : Nat) (r : List Int32) : ∃ o8 v8 o9 v9 o10 v10 o11 v11, OP 8 10 1 50 o8 v8 ∧ OP 9 4 0 50 o9 v9 ∧ OP 10 0 0 100 o10 v10 ∧ OP 11 1000 0 9999 o11 v11 ∧ s_o8 v i ++ (s_o9 v i ++ (s_o10 v i ++ (s_o11 v i ++ 59 :: r))) = optR r (o8 ++ (o9 ++ (o10 ++ o11))) := by
  obtain ⟨o11, v11, h11, e11⟩ := o11_eq hv i [] r
  obtain ⟨o10, v10, h10, e10⟩ := o10_eq hv i o11 r
  obtain ⟨o9, v9, h9, e9⟩ := o9_eq hv i (o10 ++ o11) r
  obtain ⟨o8, v8, h8, e8⟩ := o8_eq hv i (o9 ++ (o10 ++ o11)) r
  rw [List.append_nil] at e11
  have e0 : optR r [] = 59 :: r := rfl
  rw [e0] at e11
  exact ⟨o8, v8, o9, v9, o10, v10, o11, v11, h8, h9, h10, h11, by rw [e11, e10, e9, e8]⟩
theorem P_room {v : Nat → Nat → Nat} (hv : ∀ k n, 0 < n → v k n < n) {i p m : Nat} {g : Nat → Int32} {r : List Int32} (hi : i < 3) (hI : IV g i 0) (h : Suf b N p (s_room v i ++ r)) (hr : HN 0 r) : ∃ p' g', Suf b N p' r ∧ IV g' (i + 1) 0 ∧ (∀ k, k < 71 → ¬ k = 0 → g' k = g k) ∧ (∀ t, t < 48 → of g' 0 (18 + t) = of g 0 (18 + t)) ∧ ∀ c R, DN b N c (p', g', m) R → DN b N (c + 1) (p, g, m) R := by
  have v1 := hv (15 + i) 150 (by decide)
  unfold s_room at h
  rw [List.append_assoc, List.append_assoc, List.append_assoc, List.append_assoc, List.append_assoc, List.append_assoc, List.append_assoc, List.append_assoc, ks_16, ks_17, decI_nn (lt31 (by omega)), ks_3] at h
  obtain ⟨o8, v8, o9, v9, o10, v10, o11, v11, h8, h9, h10, h11, e⟩ := opts_eq hv i r
  rw [e] at h
  have hh : Suf b N p (kw 6 ++ spc true ([114, nI (97 + i)] ++ spc true (kw 7 ++ 32 :: (decN (100 + v (15 + i) 150) ++ optR r (o8 ++ (o9 ++ (o10 ++ o11))))))) := h
  obtain ⟨w1, w2, wf, wt⟩ := kw_at true (by decide) hh (HN.c (by decide)) (fun z => by cases z)
  obtain ⟨n1, n2⟩ := name_at true hi w2 (kw_hn (by decide) (by decide) _) (fun z => by cases z)
  obtain ⟨q, f1, f2⟩ := fit_ok h8 h9 h10 h11 (by omega) n2
  obtain ⟨y1, y2⟩ := pSym_ok false f2 (by decide) hr
  refine ⟨_, addR g (NMV i) (nI (100 + v (15 + i) 150)) (nI v8) (nI v9) (nI v10) (nI v11), y2, IV_addR hI hi _ _ _ _ _, fun k hk h0 => by rw [addR_klo _ _ _ _ _ _ _ hk, if_neg h0], fun t ht => addR_kof _ _ _ _ _ _ _ _ (by omega) (by omega), fun c R hd => DN_go wt ?_ hd⟩
  unfold pStmt
  dsimp only
  rw [if_neg (by rw [wf 0 (by decide) (by decide)]; decide), if_neg (by rw [wf 1 (by decide) (by decide)]; decide), if_neg (by rw [wf 3 (by decide) (by decide)]; decide), if_neg (by rw [wf 4 (by decide) (by decide)]; decide), if_neg (by rw [wf 5 (by decide) (by decide)]; decide), if_pos w1]
  unfold pNewRoom pRoom1
  dsimp only
  rw [if_neg (by rw [hI.rnE]; omega), n1, pb_in, if_pos (rnm_new hI hi), pb_in]
  dsimp only
  rw [f1, pb_in]
  dsimp only
  rw [y1, pb_in]
theorem hn_room (v : Nat → Nat → Nat) (i : Nat) (r : List Int32) : HN 0 (s_room v i ++ r) := by
  unfold s_room
  rw [List.append_assoc, ks_16]
  exact kw_hn (by decide) (by decide) _
theorem hn_rooms {v : Nat → Nat → Nat} : ∀ (n : Nat) (r : List Int32), HN 0 r → HN 0 (s_rooms v n ++ r)
  | 0, r, h => h
  | n + 1, r, h => by
    show HN 0 ((s_rooms v n ++ s_room v n) ++ r)
    rw [List.append_assoc]
    exact hn_rooms n _ (hn_room v n r)
theorem P_rooms {v : Nat → Nat → Nat} (hv : ∀ k n, 0 < n → v k n < n) {p m : Nat} {g : Nat → Int32} (hI : IV g 0 0) : ∀ (n : Nat) (r : List Int32), n ≤ 3 → Suf b N p (s_rooms v n ++ r) → HN 0 r → ∃ p' g', Suf b N p' r ∧ IV g' n 0 ∧ (∀ k, k < 71 → ¬ k = 0 → g' k = g k) ∧ (∀ t, t < 48 → of g' 0 (18 + t) = of g 0 (18 + t)) ∧ ∀ c R, DN b N c (p', g', m) R → DN b N (c + n) (p, g, m) R
  | 0, r, _, h, _ => ⟨p, g, h, hI, fun _ _ _ => rfl, fun _ _ => rfl, fun _ _ hd => hd⟩
  | n + 1, r, hn, h, hr => by
    have h' : Suf b N p ((s_rooms v n ++ s_room v n) ++ r) := h
    rw [List.append_assoc] at h'
    obtain ⟨p1, g1, a1, a2, a3, a4, a5⟩ := P_rooms hv hI n _ (by omega) h' (hn_room v n r)
    obtain ⟨p2, g2, b1, b2, b3, b4, b5⟩ := P_room (m := m) hv (by omega) a2 a1 hr
    refine ⟨p2, g2, b1, b2, fun k hk h0 => (b3 k hk h0).trans (a3 k hk h0), fun t ht => (b4 t ht).trans (a4 t ht), fun c R hd => ?_⟩
    have := a5 (c + 1) R (b5 c R hd)
    rwa [show c + 1 + n = c + (n + 1) by omega] at this
end PA
