/-! THE TEXT AS A WHOLE: programs, plans, all of it. -/
section PB
variable {b : Nat → Int32} {N : Nat}
theorem entry_ok {q a t m : Nat} {g : Nat → Int32} {c : Int32} {X : List Int32} (hc : kd c = 3) (ha : a ≤ 47) (ht1 : 50 ≤ t) (ht2 : t ≤ 300) (hz : pg g 0 a = 0) (h : Suf b N (nx b N q) (decN a ++ 58 :: (decN t ++ c :: X))) : ∃ q', pEntry b N 0 (q, g, m) = .inr (q', pt g 0 (18 + a) (nI t), m) ∧ Suf b N q' (c :: X) := by
  have hcx : ∀ k, ¬ k = 3 → HN k (c :: X) := fun k hk => HN.c (by rw [hc]; exact fun z => hk z.symm)
  obtain ⟨n1, n2⟩ := pNumH_ok (r := 58 :: (decN t ++ c :: X)) (lo := 0) (hi := 47) false (by omega) h (hn58 (by decide) _) (fun _ => hn58 (by decide) _) (Nat.zero_le _) ha
  obtain ⟨y1, y2⟩ := pSym_ok (r := decN t ++ c :: X) false n2 (by decide) (decN_hn _ _)
  obtain ⟨o1, o2⟩ := pNum_ok (r := c :: X) (lo := 50) (hi := 300) false (by omega) y2 (hcx 0 (by decide)) (fun _ => hcx 2 (by decide)) ht1 ht2
  refine ⟨_, ?_, o2⟩
  unfold pEntry
  dsimp only
  rw [n1, pb_in, if_pos hz, y1, pb_in, o1, pb_in]
theorem cnt_z {P : Nat → Int32} : ∀ n, (∀ t, t < n → P t = 0) → cnt P n = 0
  | 0, _ => rfl
  | n + 1, h => by
    rw [cnt_s0 (h n (by omega))]
    exact cnt_z n (fun t ht => h t (by omega))
theorem pg_of {g : Nat → Int32} {i t : Nat} (ht : t < 48) : pg g i t = of g i (18 + t) := if_pos ht
theorem room_at {g : Nat → Int32} {c pl k p : Nat} {r : List Int32} (s : Bool) (hI : IV g c pl) (hk : k < c) (h : Suf b N p ([114, nI (97 + k)] ++ spc s r)) (hr : HN 0 r) (hs : s = false → HN 1 r) : pRoom b N g p = .inr k ∧ Suf b N (nx b N p) r := by
  have hc := hI.1.2
  obtain ⟨n1, n2⟩ := name_at s (by omega) h hr hs
  have e := rnm_old hI hk
  refine ⟨?_, n2⟩
  unfold pRoom
  rw [n1, pb_in, e, if_neg (nI_m1 (by omega)), nI_toInt (by omega)]
  rfl
theorem P_prog {v : Nat → Nat → Nat} (hv : ∀ k n, 0 < n → v k n < n) {c p m : Nat} {g : Nat → Int32} {r : List Int32} (hI : IV g c 0) (hc : 0 < c) (hz : ∀ t, t < 48 → of g 0 (18 + t) = 0) (h : Suf b N p (s_prog v ++ r)) (hr : HN 0 r) : ∃ p' g', Suf b N p' r ∧ IV g' c 0 ∧ (∀ k, k < 71 → g' k = g k) ∧ ∀ c' R, DN b N c' (p', g', m) R → DN b N (c' + 1) (p, g, m) R := by
  have v1 := hv 43 20 (by decide)
  have v2 := hv 44 200 (by decide)
  have v3 := hv 45 28 (by decide)
  have v4 := hv 46 150 (by decide)
  unfold s_prog at h
  by_cases hc2 : v 42 2 = 0
  · rw [if_pos hc2, List.append_assoc, List.append_assoc, List.append_assoc, List.append_assoc, List.append_assoc, List.append_assoc, List.append_assoc, List.append_assoc, ks_22, decI_nn (lt31 (by omega)), ks_23, decI_nn (lt31 (by omega)), ks_24, decI_nn (lt31 (by omega)), ks_23, decI_nn (lt31 (by omega)), ks_3] at h
    obtain ⟨w1, w2, wf, wt⟩ := kw_at true (by decide) h (HN.c (by decide)) (fun z => by cases z)
    have hN := tk_lt wt
    obtain ⟨f, hf⟩ : ∃ f, N + 1 = f + 2 := ⟨N - 1, by omega⟩
    obtain ⟨n1, n2⟩ := room_at (k := 0) true hI hc w2 (decN_hn _ _) (fun z => by cases z)
    obtain ⟨q1, a1, a2⟩ := entry_ok (m := m) (q := nx b N p) (by decide) (by omega) (by omega) (by omega) (by rw [pg_of (by omega)]; exact hz _ (by omega)) n2
    obtain ⟨y1, y2, -⟩ := isS_ok (c := 44) false a2 (by decide) (decN_hn _ _)
    have hz2 : pg (pt g 0 (18 + v 43 20) (nI (50 + v 44 200))) 0 (20 + v 45 28) = 0 := by
      rw [pg_of (by omega), pt_ne _ _ (by omega) (by omega) (by omega)]
      exact hz _ (by omega)
    obtain ⟨q2, b1, b2⟩ := entry_ok (m := m) (q := q1) (by decide) (by omega) (by omega) (by omega) hz2 y2
    have s2 : isS b N 44 q2 = false := isS_no b2 (by decide)
    obtain ⟨e1, e2⟩ := pEnd_ok (m := m) (g := pt (pt g 0 (18 + v 43 20) (nI (50 + v 44 200))) 0 (18 + (20 + v 45 28)) (nI (100 + v 46 150))) b2 hr
    refine ⟨_, pt (pt g 0 (18 + v 43 20) (nI (50 + v 44 200))) 0 (18 + (20 + v 45 28)) (nI (100 + v 46 150)), e2, IV_prog (t := 20 + v 45 28) _ (IV_prog (t := v 43 20) _ hI (by omega)) (by omega), fun k hk => (pt_lo _ _ hk).trans (pt_lo _ _ hk), fun c' R hd => DN_go wt ?_ hd⟩
    have hP : pEntries b N 0 (N + 1) (nx b N p, g, m) = .inr (q2, pt (pt g 0 (18 + v 43 20) (nI (50 + v 44 200))) 0 (18 + (20 + v 45 28)) (nI (100 + v 46 150)), m) := by
      rw [hf]
      show pb (pEntry b N 0 (nx b N p, g, m)) (fun s' => if isS b N 44 s'.1 then pEntries b N 0 (f + 1) s' else .inr s') = _
      rw [a1, pb_in]
      dsimp only
      rw [if_pos y1]
      show pb (pEntry b N 0 (q1, _, m)) (fun s' => if isS b N 44 s'.1 then pEntries b N 0 f s' else .inr s') = _
      rw [b1, pb_in]
      dsimp only
      rw [if_neg (by rw [s2]; decide)]
    unfold pStmt
    dsimp only
    rw [if_neg (by rw [wf 0 (by decide) (by decide)]; decide), if_neg (by rw [wf 1 (by decide) (by decide)]; decide), if_neg (by rw [wf 3 (by decide) (by decide)]; decide), if_neg (by rw [wf 4 (by decide) (by decide)]; decide), if_neg (by rw [wf 5 (by decide) (by decide)]; decide), if_neg (by rw [wf 6 (by decide) (by decide)]; decide), if_pos w1]
    unfold pProgram
    dsimp only
    rw [n1, pb_in, if_pos (cnt_z 48 (fun t ht => by rw [pg_of ht]; exact hz t ht)), hP, pb_in, e1]
  · rw [if_neg hc2] at h
    exact ⟨p, g, h, hI, fun _ _ => rfl, fun c R hd => DN_no hd⟩
theorem P_plan {v : Nat → Nat → Nat} (hv : ∀ k n, 0 < n → v k n < n) {i p m : Nat} {g : Nat → Int32} {r : List Int32} (hi : i < 2) (hI : IV g (1 + v 0 3) i) (h : Suf b N p (s_plan v i ++ r)) (hr : HN 0 r) : ∃ p' g', Suf b N p' r ∧ IV g' (1 + v 0 3) (i + 1) ∧ (∀ k, k < 11 → ¬ k = 3 → g' k = g k) ∧ ∀ c R, DN b N c (p', g', m) R → DN b N (c + 1) (p, g, m) R := by
  have v1 := hv (48 + i) 30 (by decide)
  have v2 := hv (50 + i) (1 + v 0 3) (by omega)
  have hpn := hI.pnE
  unfold s_plan at h
  rw [List.append_assoc, List.append_assoc, List.append_assoc, List.append_assoc, ks_25, decI_nn (lt31 (by omega)), ks_26] at h
  obtain ⟨kk, i0, hk3, hkk, hT⟩ : ∃ kk i0, kk < 4 ∧ ((kk = 0 ∧ i0 = 14) ∨ (kk = 3 ∧ i0 = 17)) ∧ (if v (52 + i) 2 = 0 then ab_ks 27 else ab_ks 28) ++ r = spc true (kw i0 ++ spc false (59 :: r)) := by
    by_cases c : v (52 + i) 2 = 0
    · rw [if_pos c]; exact ⟨0, 14, by decide, Or.inl ⟨rfl, rfl⟩, ks_27 r⟩
    · rw [if_neg c]; exact ⟨3, 17, by decide, Or.inr ⟨rfl, rfl⟩, ks_28 r⟩
  rw [hT] at h
  have h18 : i0 < 18 := by omega
  have hh : Suf b N p (kw 13 ++ spc true (decN (1 + v (48 + i) 30) ++ spc true ([114, nI (97 + v (50 + i) (1 + v 0 3))] ++ spc true (kw i0 ++ spc false (59 :: r))))) := h
  obtain ⟨w1, w2, wf, wt⟩ := kw_at true (by decide) hh (decN_hn _ _) (fun z => by cases z)
  obtain ⟨n1, n2⟩ := pNum_ok (lo := 1) (hi := 9999) true (by omega) w2 (HN.c (by decide)) (fun z => by cases z) (by omega) (by omega)
  obtain ⟨o1, o2⟩ := room_at true hI v2 n2 (kw_hn h18 (by decide) _) (fun z => by cases z)
  obtain ⟨u1, u2, uf, -⟩ := kw_at false h18 o2 (hn59 (by decide) _) (fun _ => hn59 (by decide) _)
  obtain ⟨y1, y2⟩ := pSym_ok (r := r) false u2 (by decide) hr
  have e1 : (nI (1 + v (48 + i) 30)).toInt = ((1 + v (48 + i) 30 : Nat) : Int) := nI_toInt (by omega)
  obtain ⟨j1, j2⟩ := IV_plan hI hi (t := nI (1 + v (48 + i) 30)) (by rw [e1]; omega) (nI (v (50 + i) (1 + v 0 3))) (nI kk)
  refine ⟨_, _, y2, j1, j2, fun c R hd => DN_go wt ?_ hd⟩
  have hK : pKind b N (nx b N (nx b N (nx b N p))) = .inr kk := by
    unfold pKind
    rcases hkk with ⟨rfl, rfl⟩ | ⟨rfl, rfl⟩
    · rw [if_pos u1]
    · rw [if_neg (by rw [uf 14 (by decide) (by decide)]; decide), if_neg (by rw [uf 15 (by decide) (by decide)]; decide), if_neg (by rw [uf 16 (by decide) (by decide)]; decide), if_pos u1]
  unfold pStmt
  dsimp only
  rw [if_neg (by rw [wf 0 (by decide) (by decide)]; decide), if_neg (by rw [wf 1 (by decide) (by decide)]; decide), if_neg (by rw [wf 3 (by decide) (by decide)]; decide), if_neg (by rw [wf 4 (by decide) (by decide)]; decide), if_neg (by rw [wf 5 (by decide) (by decide)]; decide), if_neg (by rw [wf 6 (by decide) (by decide)]; decide), if_neg (by rw [wf 12 (by decide) (by decide)]; decide), if_pos w1]
  unfold pPlan pPlan1
  dsimp only
  rw [if_neg (by rw [hpn]; omega), n1, pb_in]
  dsimp only
  rw [o1, pb_in, hK, pb_in, pb_in]
  dsimp only
  rw [y1, pb_in]
theorem hn_plan (v : Nat → Nat → Nat) (i : Nat) (r : List Int32) : HN 0 (s_plan v i ++ r) := by
  unfold s_plan
  rw [List.append_assoc, ks_25]
  exact kw_hn (by decide) (by decide) _
theorem hn_plans {v : Nat → Nat → Nat} : ∀ (n : Nat) (r : List Int32), HN 0 r → HN 0 (s_plans v n ++ r)
  | 0, r, h => h
  | n + 1, r, h => by
    show HN 0 ((s_plans v n ++ s_plan v n) ++ r)
    rw [List.append_assoc]
    exact hn_plans n _ (hn_plan v n r)
theorem P_plans {v : Nat → Nat → Nat} (hv : ∀ k n, 0 < n → v k n < n) {p m : Nat} {g : Nat → Int32} (hI : IV g (1 + v 0 3) 0) : ∀ (n : Nat) (r : List Int32), n ≤ 2 → Suf b N p (s_plans v n ++ r) → HN 0 r → ∃ p' g', Suf b N p' r ∧ IV g' (1 + v 0 3) n ∧ (∀ k, k < 11 → ¬ k = 3 → g' k = g k) ∧ ∀ c R, DN b N c (p', g', m) R → DN b N (c + n) (p, g, m) R
  | 0, r, _, h, _ => ⟨p, g, h, hI, fun _ _ _ => rfl, fun _ _ hd => hd⟩
  | n + 1, r, hn, h, hr => by
    have h' : Suf b N p ((s_plans v n ++ s_plan v n) ++ r) := h
    rw [List.append_assoc] at h'
    obtain ⟨p1, g1, a1, a2, a3, a4⟩ := P_plans hv hI n _ (by omega) h' (hn_plan v n r)
    obtain ⟨p2, g2, b1, b2, b3, b4⟩ := P_plan (m := m) hv (by omega) a2 a1 hr
    refine ⟨p2, g2, b1, b2, fun k hk h0 => (b3 k hk h0).trans (a3 k hk h0), fun c R hd => ?_⟩
    have := a4 (c + 1) R (b4 c R hd)
    rwa [show c + 1 + n = c + (n + 1) by omega] at this
theorem hn_prog {v : Nat → Nat → Nat} {r : List Int32} (h : HN 0 r) : HN 0 (s_prog v ++ r) := by
  unfold s_prog
  split
  · rw [List.append_assoc, ks_22]
    exact kw_hn (by decide) (by decide) _
  · exact h
theorem hn_exe {v : Nat → Nat → Nat} {r : List Int32} (h : HN 0 r) : HN 0 (s_exe v ++ r) := by
  unfold s_exe
  split
  · rw [List.append_assoc, ks_15]
    exact kw_hn (by decide) (by decide) _
  · exact h
theorem hn_ctl {v : Nat → Nat → Nat} {r : List Int32} (h : HN 0 r) : HN 0 (s_ctl v ++ r) := by
  unfold s_ctl
  split
  · rw [List.append_assoc, ks_7]
    exact kw_hn (by decide) (by decide) _
  · exact h
theorem hn_bak {v : Nat → Nat → Nat} {r : List Int32} (h : HN 0 r) : HN 0 (s_bak v ++ r) := by
  unfold s_bak
  split
  · rw [List.append_assoc, ks_6]
    exact kw_hn (by decide) (by decide) _
  · exact h
theorem hn_win {v : Nat → Nat → Nat} {r : List Int32} (h : HN 0 r) : HN 0 (s_win v ++ r) := by
  unfold s_win
  split
  · rw [List.append_assoc, ks_4]
    exact kw_hn (by decide) (by decide) _
  · exact h
theorem hn_out {v : Nat → Nat → Nat} {r : List Int32} (h : HN 0 r) : HN 0 (s_out v ++ r) := by
  unfold s_out
  split
  · rw [List.append_assoc, ks_2]
    exact kw_hn (by decide) (by decide) _
  · exact h
theorem s_room_len (v : Nat → Nat → Nat) (i : Nat) : 13 ≤ (s_room v i).length := by
  have h1 : (ab_ks 16).length = 6 := by decide +kernel
  have h2 : (ab_ks 17).length = 6 := by decide +kernel
  unfold s_room
  rw [List.length_append, List.length_append, List.length_append, h1, h2]
  simp
  omega
theorem s_all_len (v : Nat → Nat → Nat) : 13 ≤ (s_all v).length := by
  have h := s_room_len v (v 0 3)
  have e : s_rooms v (1 + v 0 3) = s_rooms v (v 0 3) ++ s_room v (v 0 3) := by rw [Nat.add_comm]; rfl
  unfold s_all
  rw [e]
  simp only [List.length_append]
  omega
/-- what the draft tells -/
def FIN (v : Nat → Nat → Nat) (g : Nat → Int32) : Prop := g 0 = nI (1 + v 0 3) ∧ g 1 = 0 ∧ g 2 = (if 0 < v 1 3 then x_out v else 50) ∧ g 3 = nI (v 47 3) ∧ g 10 = (if v 13 2 = 0 then nI (v 14 60) else 100) ∧ (∀ i, of g i 7 = 0 ∧ of g i 16 = 0 ∧ of g i 17 = 0) ∧ PLS g
theorem P_all {v : Nat → Nat → Nat} (hv : ∀ k n, 0 < n → v k n < n) (h : Suf b N 0 (s_all v)) : ∃ s : PST, pLoad b N = .inr s ∧ FIN v s.2.1 := by
  have v0 := hv 0 3 (by decide)
  have v47 := hv 47 3 (by decide)
  have hlen := s_all_len v
  have hN : 13 ≤ N := by
    have := h.1
    omega
  have k8 : HN 0 (s_plans v (v 47 3)) := by
    have := hn_plans (v := v) (v 47 3) [] (fun c l e => by cases e)
    rwa [List.append_nil] at this
  have k7 : HN 0 (s_prog v ++ s_plans v (v 47 3)) := hn_prog k8
  have k6 := hn_rooms (v := v) (1 + v 0 3) _ k7
  have k5 := hn_exe (v := v) k6
  have k4 := hn_ctl (v := v) k5
  have k3 := hn_bak (v := v) k4
  have k2 := hn_win (v := v) k3
  have k1 : HN 0 (s_all v) := by
    unfold s_all
    exact hn_out (v := v) k2
  have er : run b N 0 0 = 0 := run_suf (b := b) (N := N) k1 [] 0 (by rw [List.nil_append]; exact h) (fun c hc => absurd hc List.not_mem_nil)
  have ht : ¬ tk b N 0 = 0 := by
    unfold tk
    rw [if_pos (by omega)]
    cases hs : s_all v with
    | nil => rw [hs] at hlen; simp at hlen
    | cons c l =>
      rw [hs] at h
      rw [(Suf.hd h).2]
      exact k1 c l hs
  obtain ⟨p1, g1, m1, a1, a2, a3, a4, a5, a6⟩ := P_out (r := s_win v ++ (s_bak v ++ (s_ctl v ++ (s_exe v ++ (s_rooms v (1 + v 0 3) ++ (s_prog v ++ s_plans v (v 47 3))))))) hv IV_plain (by unfold s_all at h; exact h) k2
  obtain ⟨p2, g2, m2, b1, b2, b3, b4, b5⟩ := P_win hv a2 a3 a1 k3
  obtain ⟨p3, g3, m3, c1, c2, c3, c4, c5⟩ := P_bak hv b2 b3 b1 k4
  obtain ⟨p4, g4, m4, d1, d2, d3, d4, d5⟩ := P_ctl hv c2 c3 c1 k5
  obtain ⟨p5, g5, m5, e1, e2, e3, e4, e5⟩ := P_exe hv d2 d3 d1 k6
  obtain ⟨p6, g6, f1, f2, f3, f4, f5⟩ := P_rooms (m := m5) hv e2 (1 + v 0 3) _ (by omega) e1 k7
  have z0 : ∀ t, t < 48 → of g6 0 (18 + t) = 0 := fun t ht => by
    rw [f4 t ht]
    unfold of
    rw [e4 _ (by omega), d4 _ (by omega) (by omega) (by omega), c4 _ (by omega), b4 _ (by omega) (by omega), a5 _ (by omega)]
    exact plain_0 (by omega)
  obtain ⟨p7, g7, h1, h2, h3, h4⟩ := P_prog (m := m5) hv f2 (by omega) z0 f1 k8
  have h1' : Suf b N p7 (s_plans v (v 47 3) ++ []) := by rw [List.append_nil]; exact h1
  obtain ⟨p8, g8, i1, i2, i3, i4⟩ := P_plans (m := m5) hv h2 (v 47 3) [] (by omega) h1' (fun c l e => by cases e)
  have hend : DN b N 1 (p8, g8, m5) (.inr (p8, g8, m5)) := by
    intro f hf
    have hp : p8 + 0 = N := i1.1
    cases f with
    | zero => exact absurd hf (by omega)
    | succ f =>
      show (if tk b N p8 = 0 then .inr (p8, g8, m5) else pb (pStmt b N (p8, g8, m5)) (pAll b N f)) = _
      rw [if_pos (show tk b N p8 = 0 from if_neg (by omega))]
  have hA := a6 _ _ (b5 _ _ (c5 _ _ (d5 _ _ (e5 _ _ (f5 _ _ (h4 _ _ (i4 _ _ hend)))))))
  refine ⟨(p8, g8, m5), ?_, ?_⟩
  · unfold pLoad
    rw [er, if_neg ht]
    exact hA (N + 1) (by omega)
  · have q : ∀ k, k < 11 → ¬ k = 0 → ¬ k = 3 → g8 k = g5 k := fun k hk h0 h3' => by rw [i3 k hk h3', h3 k (by omega), f3 k (by omega) h0]
    obtain ⟨j1, j2, j3, -, j5, j6⟩ := i2
    refine ⟨j1.1, j2, ?_, j3.1, ?_, j5, j6⟩
    · show g8 2 = _
      rw [q 2 (by decide) (by decide) (by decide), e4 2 (by decide), d4 2 (by decide) (by decide) (by decide), c4 2 (by decide), b4 2 (by decide) (by decide), a4]
      rfl
    · show g8 10 = _
      rw [q 10 (by decide) (by decide) (by decide), e3, d4 10 (by decide) (by decide) (by decide), c4 10 (by decide), b4 10 (by decide) (by decide), a5 10 (by decide)]
      rfl
end PB
