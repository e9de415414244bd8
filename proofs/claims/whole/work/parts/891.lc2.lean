/-! The law's cases: room, property. Written by program (wip/whole/gen/m890.py). -/
theorem lc_room {L : Nat} {xs : Nat → Int32} {Q : ab_Q} {k z n i c : Nat} {a b c1 d : Option Value} {S : SS} {T : Int} (hi : i + 6 ≤ L) (hL : L ≤ 3072) (hI : INV T n c S) (hT0 : 0 ≤ T) (hT : T ≤ 110000) (hk : k + 80 ≤ 601024) (hz : z + 13300 ≤ 7293034) (hnb : n + 80 ≤ 900000) (hQ : LK L xs Q T n k z i) : LX L xs Q k z 516 (lsL i a b c1 d) [] n (Hp S) := by
  have hn := hI.n
  have hh := hI.hh
  have hg := hI.gg
  have hm := hI.m
  have hcb := hI.1.2.1
  have e9 : ab_CB = 1000000 := rfl
  by_cases h1 : 0 ≤ xs (i + 1) ∧ xs (i + 1) < S.1 268 0
  · skip
    obtain ⟨r, hr, hr6, e1⟩ := hI.rnI h1
    have h1' : 0 ≤ nI r ∧ nI r < S.1 268 0 := by rw [← e1]; exact h1
    by_cases h2 : inr (xs (i + 2)) 0 10
    · skip
      obtain ⟨w, hw, e2⟩ := in_nI (m := 10) (by decide) h2
      rcases (show w = 0 ∨ w = 1 ∨ w = 2 ∨ w = 3 ∨ w = 4 ∨ w = 5 ∨ w = 6 ∨ w = 7 ∨ w = 8 ∨ w = 9 ∨ w = 10 by omega) with rfl | rfl | rfl | rfl | rfl | rfl | rfl | rfl | rfl | rfl | rfl
      · skip
        refine wa_aload_n dL_law_516 rfl ?_
        refine l_rd (q := 1) (x := nI r) e1 dL_law_517 dL_law_518 dL_law_520 dL_law_521 dL_law_522 (by decide) (by omega) hL ?_
        refine l_rd (q := 2) (x := 0) e2 dL_law_523 dL_law_524 dL_law_526 dL_law_527 dL_law_528 (by decide) (by omega) hL ?_
        refine wa_aload_n dL_law_529 rfl ?_
        refine wa_callW (As := [.ref 0, .int (nI r), .int (0), .ref 277]) dL_law_530 lk_L_186 (wl_room_0 (P := fun v' n' S' => n' = n ∧ v' = (of (S.1 268) r 0) ∧ S' = S) hn (vr_room_0_0 hn hh hg (by omega) hr) (fun r n' h' q => ⟨_, _, q.1, q.2.2, q.2.1, rfl, rfl⟩)) rfl (by exact Nat.le_of_ble_eq_true rfl) (fitL (by decide) (by decide) (by omega) (by omega)) (by exact Nat.le_of_ble_eq_true rfl) (fun ro n' h' q _ => ?_) (fun E n' h' q _ => by cases q.1)
        obtain ⟨q1, v, S', q2, -, q3, q4, q5⟩ := q
        cases q1
        rw [q2, q3, q4, q5]
        have hI0 := hI.soI ((of (S.1 268) r 0) : Int32).toInt64
        refine wa_istore dL_law_533 rfl ?_
        refine wa_aload_n dL_law_535 rfl ?_
        refine l_rd (q := 1) (x := nI r) e1 dL_law_536 dL_law_537 dL_law_539 dL_law_540 dL_law_541 (by decide) (by omega) hL ?_
        refine l_rd (q := 2) (x := 0) e2 dL_law_542 dL_law_543 dL_law_545 dL_law_546 dL_law_547 (by decide) (by omega) hL ?_
        refine c_VI dL_law_548 (AM.v (mm_room_0 (w := 0) hn hI0.m hI0.gg.1 hr6 (by decide) (rk_of hI0.m h1') (by decide)) (if_neg (fun z => absurd z.1 (by decide)))) lk_L_189 rfl (isO_MO _ _ _) rfl (ltS (by omega)) ?_ (hR := (fitL (by decide) (by decide) (by omega) (by omega)))
        exact l_tail0 dL_law_551 dL_law_553 dL_law_554 dL_law_557 dL_law_559 dL_law_564 dL_law_566 dL_law_569 dL_law_570 dL_law_571 dL_law_572 dL_law_574 dL_law_575 dL_law_576 dL_law_581 (by decide) (by omega) (th_0 _ _) rfl (by omega) (by omega) (hQ _ _ _ _ _ _ _ _ _ (by omega) (by omega) (by omega) (by omega) ((hI0.thI 0).mono (by omega) (Nat.le_refl _) hcb))
      · skip
        refine wa_aload_n dL_law_516 rfl ?_
        refine l_rd (q := 1) (x := nI r) e1 dL_law_517 dL_law_518 dL_law_520 dL_law_521 dL_law_522 (by decide) (by omega) hL ?_
        refine l_rd (q := 2) (x := 1) e2 dL_law_523 dL_law_524 dL_law_526 dL_law_527 dL_law_528 (by decide) (by omega) hL ?_
        refine wa_aload_n dL_law_529 rfl ?_
        refine wa_callW (As := [.ref 0, .int (nI r), .int (1), .ref 277]) dL_law_530 lk_L_186 (wl_room_0 (P := fun v' n' S' => n' = n ∧ v' = (of (S.1 268) r 1) ∧ S' = S) hn (vr_room_0_1 hn hh hg (by omega) hr) (fun r n' h' q => ⟨_, _, q.1, q.2.2, q.2.1, rfl, rfl⟩)) rfl (by exact Nat.le_of_ble_eq_true rfl) (fitL (by decide) (by decide) (by omega) (by omega)) (by exact Nat.le_of_ble_eq_true rfl) (fun ro n' h' q _ => ?_) (fun E n' h' q _ => by cases q.1)
        obtain ⟨q1, v, S', q2, -, q3, q4, q5⟩ := q
        cases q1
        rw [q2, q3, q4, q5]
        have hI0 := hI.soI ((of (S.1 268) r 1) : Int32).toInt64
        refine wa_istore dL_law_533 rfl ?_
        refine wa_aload_n dL_law_535 rfl ?_
        refine l_rd (q := 1) (x := nI r) e1 dL_law_536 dL_law_537 dL_law_539 dL_law_540 dL_law_541 (by decide) (by omega) hL ?_
        refine l_rd (q := 2) (x := 1) e2 dL_law_542 dL_law_543 dL_law_545 dL_law_546 dL_law_547 (by decide) (by omega) hL ?_
        refine c_VI dL_law_548 (AM.v (mm_room_0 (w := 1) hn hI0.m hI0.gg.1 hr6 (by decide) (rk_of hI0.m h1') (by decide)) (if_neg (fun z => absurd z.1 (by decide)))) lk_L_189 rfl (isO_MO _ _ _) rfl (ltS (by omega)) ?_ (hR := (fitL (by decide) (by decide) (by omega) (by omega)))
        exact l_tail0 dL_law_551 dL_law_553 dL_law_554 dL_law_557 dL_law_559 dL_law_564 dL_law_566 dL_law_569 dL_law_570 dL_law_571 dL_law_572 dL_law_574 dL_law_575 dL_law_576 dL_law_581 (by decide) (by omega) (th_0 _ _) rfl (by omega) (by omega) (hQ _ _ _ _ _ _ _ _ _ (by omega) (by omega) (by omega) (by omega) ((hI0.thI 0).mono (by omega) (Nat.le_refl _) hcb))
      · skip
        refine wa_aload_n dL_law_516 rfl ?_
        refine l_rd (q := 1) (x := nI r) e1 dL_law_517 dL_law_518 dL_law_520 dL_law_521 dL_law_522 (by decide) (by omega) hL ?_
        refine l_rd (q := 2) (x := 2) e2 dL_law_523 dL_law_524 dL_law_526 dL_law_527 dL_law_528 (by decide) (by omega) hL ?_
        refine wa_aload_n dL_law_529 rfl ?_
        refine wa_callW (As := [.ref 0, .int (nI r), .int (2), .ref 277]) dL_law_530 lk_L_186 (wl_room_0 (P := fun v' n' S' => n' = n ∧ v' = (of (S.1 268) r 2) ∧ S' = S) hn (vr_room_0_2 hn hh hg (by omega) hr) (fun r n' h' q => ⟨_, _, q.1, q.2.2, q.2.1, rfl, rfl⟩)) rfl (by exact Nat.le_of_ble_eq_true rfl) (fitL (by decide) (by decide) (by omega) (by omega)) (by exact Nat.le_of_ble_eq_true rfl) (fun ro n' h' q _ => ?_) (fun E n' h' q _ => by cases q.1)
        obtain ⟨q1, v, S', q2, -, q3, q4, q5⟩ := q
        cases q1
        rw [q2, q3, q4, q5]
        have hI0 := hI.soI ((of (S.1 268) r 2) : Int32).toInt64
        refine wa_istore dL_law_533 rfl ?_
        refine wa_aload_n dL_law_535 rfl ?_
        refine l_rd (q := 1) (x := nI r) e1 dL_law_536 dL_law_537 dL_law_539 dL_law_540 dL_law_541 (by decide) (by omega) hL ?_
        refine l_rd (q := 2) (x := 2) e2 dL_law_542 dL_law_543 dL_law_545 dL_law_546 dL_law_547 (by decide) (by omega) hL ?_
        refine c_VI dL_law_548 (AM.v (mm_room_0 (w := 2) hn hI0.m hI0.gg.1 hr6 (by decide) (rk_of hI0.m h1') (by decide)) (if_neg (fun z => absurd z.1 (by decide)))) lk_L_189 rfl (isO_MO _ _ _) rfl (ltS (by omega)) ?_ (hR := (fitL (by decide) (by decide) (by omega) (by omega)))
        exact l_tail0 dL_law_551 dL_law_553 dL_law_554 dL_law_557 dL_law_559 dL_law_564 dL_law_566 dL_law_569 dL_law_570 dL_law_571 dL_law_572 dL_law_574 dL_law_575 dL_law_576 dL_law_581 (by decide) (by omega) (th_0 _ _) rfl (by omega) (by omega) (hQ _ _ _ _ _ _ _ _ _ (by omega) (by omega) (by omega) (by omega) ((hI0.thI 0).mono (by omega) (Nat.le_refl _) hcb))
      · skip
        refine wa_aload_n dL_law_516 rfl ?_
        refine l_rd (q := 1) (x := nI r) e1 dL_law_517 dL_law_518 dL_law_520 dL_law_521 dL_law_522 (by decide) (by omega) hL ?_
        refine l_rd (q := 2) (x := 3) e2 dL_law_523 dL_law_524 dL_law_526 dL_law_527 dL_law_528 (by decide) (by omega) hL ?_
        refine wa_aload_n dL_law_529 rfl ?_
        refine wa_callW (As := [.ref 0, .int (nI r), .int (3), .ref 277]) dL_law_530 lk_L_186 (wl_room_0 (P := fun v' n' S' => n' = n ∧ v' = (of (S.1 268) r 3) ∧ S' = S) hn (vr_room_0_3 hn hh hg (by omega) hr) (fun r n' h' q => ⟨_, _, q.1, q.2.2, q.2.1, rfl, rfl⟩)) rfl (by exact Nat.le_of_ble_eq_true rfl) (fitL (by decide) (by decide) (by omega) (by omega)) (by exact Nat.le_of_ble_eq_true rfl) (fun ro n' h' q _ => ?_) (fun E n' h' q _ => by cases q.1)
        obtain ⟨q1, v, S', q2, -, q3, q4, q5⟩ := q
        cases q1
        rw [q2, q3, q4, q5]
        have hI0 := hI.soI ((of (S.1 268) r 3) : Int32).toInt64
        refine wa_istore dL_law_533 rfl ?_
        refine wa_aload_n dL_law_535 rfl ?_
        refine l_rd (q := 1) (x := nI r) e1 dL_law_536 dL_law_537 dL_law_539 dL_law_540 dL_law_541 (by decide) (by omega) hL ?_
        refine l_rd (q := 2) (x := 3) e2 dL_law_542 dL_law_543 dL_law_545 dL_law_546 dL_law_547 (by decide) (by omega) hL ?_
        refine c_VI dL_law_548 (AM.v (mm_room_0 (w := 3) hn hI0.m hI0.gg.1 hr6 (by decide) (rk_of hI0.m h1') (by decide)) (if_neg (fun z => absurd z.1 (by decide)))) lk_L_189 rfl (isO_MO _ _ _) rfl (ltS (by omega)) ?_ (hR := (fitL (by decide) (by decide) (by omega) (by omega)))
        exact l_tail0 dL_law_551 dL_law_553 dL_law_554 dL_law_557 dL_law_559 dL_law_564 dL_law_566 dL_law_569 dL_law_570 dL_law_571 dL_law_572 dL_law_574 dL_law_575 dL_law_576 dL_law_581 (by decide) (by omega) (th_0 _ _) rfl (by omega) (by omega) (hQ _ _ _ _ _ _ _ _ _ (by omega) (by omega) (by omega) (by omega) ((hI0.thI 0).mono (by omega) (Nat.le_refl _) hcb))
      · skip
        refine wa_aload_n dL_law_516 rfl ?_
        refine l_rd (q := 1) (x := nI r) e1 dL_law_517 dL_law_518 dL_law_520 dL_law_521 dL_law_522 (by decide) (by omega) hL ?_
        refine l_rd (q := 2) (x := 4) e2 dL_law_523 dL_law_524 dL_law_526 dL_law_527 dL_law_528 (by decide) (by omega) hL ?_
        refine wa_aload_n dL_law_529 rfl ?_
        refine wa_callW (As := [.ref 0, .int (nI r), .int (4), .ref 277]) dL_law_530 lk_L_186 (wl_room_0 (P := fun v' n' S' => n' = n ∧ v' = (of (S.1 268) r 4) ∧ S' = S) hn (vr_room_0_4 hn hh hg (by omega) hr) (fun r n' h' q => ⟨_, _, q.1, q.2.2, q.2.1, rfl, rfl⟩)) rfl (by exact Nat.le_of_ble_eq_true rfl) (fitL (by decide) (by decide) (by omega) (by omega)) (by exact Nat.le_of_ble_eq_true rfl) (fun ro n' h' q _ => ?_) (fun E n' h' q _ => by cases q.1)
        obtain ⟨q1, v, S', q2, -, q3, q4, q5⟩ := q
        cases q1
        rw [q2, q3, q4, q5]
        have hI0 := hI.soI ((of (S.1 268) r 4) : Int32).toInt64
        refine wa_istore dL_law_533 rfl ?_
        refine wa_aload_n dL_law_535 rfl ?_
        refine l_rd (q := 1) (x := nI r) e1 dL_law_536 dL_law_537 dL_law_539 dL_law_540 dL_law_541 (by decide) (by omega) hL ?_
        refine l_rd (q := 2) (x := 4) e2 dL_law_542 dL_law_543 dL_law_545 dL_law_546 dL_law_547 (by decide) (by omega) hL ?_
        refine c_VI dL_law_548 (AM.v (mm_room_0 (w := 4) hn hI0.m hI0.gg.1 hr6 (by decide) (rk_of hI0.m h1') (by decide)) (if_neg (fun z => absurd z.1 (by decide)))) lk_L_189 rfl (isO_MO _ _ _) rfl (ltS (by omega)) ?_ (hR := (fitL (by decide) (by decide) (by omega) (by omega)))
        exact l_tail0 dL_law_551 dL_law_553 dL_law_554 dL_law_557 dL_law_559 dL_law_564 dL_law_566 dL_law_569 dL_law_570 dL_law_571 dL_law_572 dL_law_574 dL_law_575 dL_law_576 dL_law_581 (by decide) (by omega) (th_0 _ _) rfl (by omega) (by omega) (hQ _ _ _ _ _ _ _ _ _ (by omega) (by omega) (by omega) (by omega) ((hI0.thI 0).mono (by omega) (Nat.le_refl _) hcb))
      · skip
        refine wa_aload_n dL_law_516 rfl ?_
        refine l_rd (q := 1) (x := nI r) e1 dL_law_517 dL_law_518 dL_law_520 dL_law_521 dL_law_522 (by decide) (by omega) hL ?_
        refine l_rd (q := 2) (x := 5) e2 dL_law_523 dL_law_524 dL_law_526 dL_law_527 dL_law_528 (by decide) (by omega) hL ?_
        refine wa_aload_n dL_law_529 rfl ?_
        refine wa_callW (As := [.ref 0, .int (nI r), .int (5), .ref 277]) dL_law_530 lk_L_186 (wl_room_0 (P := fun v' n' S' => n' = n ∧ v' = (of (S.1 268) r 5) ∧ S' = S) hn (vr_room_0_5 hn hh hg (by omega) hr) (fun r n' h' q => ⟨_, _, q.1, q.2.2, q.2.1, rfl, rfl⟩)) rfl (by exact Nat.le_of_ble_eq_true rfl) (fitL (by decide) (by decide) (by omega) (by omega)) (by exact Nat.le_of_ble_eq_true rfl) (fun ro n' h' q _ => ?_) (fun E n' h' q _ => by cases q.1)
        obtain ⟨q1, v, S', q2, -, q3, q4, q5⟩ := q
        cases q1
        rw [q2, q3, q4, q5]
        have hI0 := hI.soI ((of (S.1 268) r 5) : Int32).toInt64
        refine wa_istore dL_law_533 rfl ?_
        refine wa_aload_n dL_law_535 rfl ?_
        refine l_rd (q := 1) (x := nI r) e1 dL_law_536 dL_law_537 dL_law_539 dL_law_540 dL_law_541 (by decide) (by omega) hL ?_
        refine l_rd (q := 2) (x := 5) e2 dL_law_542 dL_law_543 dL_law_545 dL_law_546 dL_law_547 (by decide) (by omega) hL ?_
        refine c_VI dL_law_548 (AM.v (mm_room_0 (w := 5) hn hI0.m hI0.gg.1 hr6 (by decide) (rk_of hI0.m h1') (by decide)) (if_neg (fun z => absurd z.1 (by decide)))) lk_L_189 rfl (isO_MO _ _ _) rfl (ltS (by omega)) ?_ (hR := (fitL (by decide) (by decide) (by omega) (by omega)))
        exact l_tail0 dL_law_551 dL_law_553 dL_law_554 dL_law_557 dL_law_559 dL_law_564 dL_law_566 dL_law_569 dL_law_570 dL_law_571 dL_law_572 dL_law_574 dL_law_575 dL_law_576 dL_law_581 (by decide) (by omega) (th_0 _ _) rfl (by omega) (by omega) (hQ _ _ _ _ _ _ _ _ _ (by omega) (by omega) (by omega) (by omega) ((hI0.thI 0).mono (by omega) (Nat.le_refl _) hcb))
      · skip
        refine wa_aload_n dL_law_516 rfl ?_
        refine l_rd (q := 1) (x := nI r) e1 dL_law_517 dL_law_518 dL_law_520 dL_law_521 dL_law_522 (by decide) (by omega) hL ?_
        refine l_rd (q := 2) (x := 6) e2 dL_law_523 dL_law_524 dL_law_526 dL_law_527 dL_law_528 (by decide) (by omega) hL ?_
        refine wa_aload_n dL_law_529 rfl ?_
        refine wa_callW (As := [.ref 0, .int (nI r), .int (6), .ref 277]) dL_law_530 lk_L_186 (wl_room_0 (P := fun v' n' S' => n' = n ∧ v' = (of (S.1 268) r 6) ∧ S' = S) hn (vr_room_0_6 hn hh hg (by omega) hr) (fun r n' h' q => ⟨_, _, q.1, q.2.2, q.2.1, rfl, rfl⟩)) rfl (by exact Nat.le_of_ble_eq_true rfl) (fitL (by decide) (by decide) (by omega) (by omega)) (by exact Nat.le_of_ble_eq_true rfl) (fun ro n' h' q _ => ?_) (fun E n' h' q _ => by cases q.1)
        obtain ⟨q1, v, S', q2, -, q3, q4, q5⟩ := q
        cases q1
        rw [q2, q3, q4, q5]
        have hI0 := hI.soI ((of (S.1 268) r 6) : Int32).toInt64
        refine wa_istore dL_law_533 rfl ?_
        refine wa_aload_n dL_law_535 rfl ?_
        refine l_rd (q := 1) (x := nI r) e1 dL_law_536 dL_law_537 dL_law_539 dL_law_540 dL_law_541 (by decide) (by omega) hL ?_
        refine l_rd (q := 2) (x := 6) e2 dL_law_542 dL_law_543 dL_law_545 dL_law_546 dL_law_547 (by decide) (by omega) hL ?_
        refine c_VI dL_law_548 (AM.v (mm_room_0 (w := 6) hn hI0.m hI0.gg.1 hr6 (by decide) (rk_of hI0.m h1') (by decide)) (if_neg (fun z => absurd z.1 (by decide)))) lk_L_189 rfl (isO_MO _ _ _) rfl (ltS (by omega)) ?_ (hR := (fitL (by decide) (by decide) (by omega) (by omega)))
        exact l_tail0 dL_law_551 dL_law_553 dL_law_554 dL_law_557 dL_law_559 dL_law_564 dL_law_566 dL_law_569 dL_law_570 dL_law_571 dL_law_572 dL_law_574 dL_law_575 dL_law_576 dL_law_581 (by decide) (by omega) (th_0 _ _) rfl (by omega) (by omega) (hQ _ _ _ _ _ _ _ _ _ (by omega) (by omega) (by omega) (by omega) ((hI0.thI 0).mono (by omega) (Nat.le_refl _) hcb))
      · skip
        refine wa_aload_n dL_law_516 rfl ?_
        refine l_rd (q := 1) (x := nI r) e1 dL_law_517 dL_law_518 dL_law_520 dL_law_521 dL_law_522 (by decide) (by omega) hL ?_
        refine l_rd (q := 2) (x := 7) e2 dL_law_523 dL_law_524 dL_law_526 dL_law_527 dL_law_528 (by decide) (by omega) hL ?_
        refine wa_aload_n dL_law_529 rfl ?_
        refine wa_callW (As := [.ref 0, .int (nI r), .int (7), .ref 277]) dL_law_530 lk_L_186 (wl_room_0 (P := fun v' n' S' => n' = n ∧ v' = (of (S.1 268) r 7) ∧ S' = S) hn (vr_room_0_7 hn hh hg (by omega) hr) (fun r n' h' q => ⟨_, _, q.1, q.2.2, q.2.1, rfl, rfl⟩)) rfl (by exact Nat.le_of_ble_eq_true rfl) (fitL (by decide) (by decide) (by omega) (by omega)) (by exact Nat.le_of_ble_eq_true rfl) (fun ro n' h' q _ => ?_) (fun E n' h' q _ => by cases q.1)
        obtain ⟨q1, v, S', q2, -, q3, q4, q5⟩ := q
        cases q1
        rw [q2, q3, q4, q5]
        have hI0 := hI.soI ((of (S.1 268) r 7) : Int32).toInt64
        refine wa_istore dL_law_533 rfl ?_
        refine wa_aload_n dL_law_535 rfl ?_
        refine l_rd (q := 1) (x := nI r) e1 dL_law_536 dL_law_537 dL_law_539 dL_law_540 dL_law_541 (by decide) (by omega) hL ?_
        refine l_rd (q := 2) (x := 7) e2 dL_law_542 dL_law_543 dL_law_545 dL_law_546 dL_law_547 (by decide) (by omega) hL ?_
        refine c_VI dL_law_548 (AM.v (mm_room_0 (w := 7) hn hI0.m hI0.gg.1 hr6 (by decide) (rk_of hI0.m h1') (by decide)) (if_neg (fun z => absurd z.1 (by decide)))) lk_L_189 rfl (isO_MO _ _ _) rfl (ltS (by omega)) ?_ (hR := (fitL (by decide) (by decide) (by omega) (by omega)))
        exact l_tail0 dL_law_551 dL_law_553 dL_law_554 dL_law_557 dL_law_559 dL_law_564 dL_law_566 dL_law_569 dL_law_570 dL_law_571 dL_law_572 dL_law_574 dL_law_575 dL_law_576 dL_law_581 (by decide) (by omega) (th_0 _ _) rfl (by omega) (by omega) (hQ _ _ _ _ _ _ _ _ _ (by omega) (by omega) (by omega) (by omega) ((hI0.thI 0).mono (by omega) (Nat.le_refl _) hcb))
      · skip
        refine wa_aload_n dL_law_516 rfl ?_
        refine l_rd (q := 1) (x := nI r) e1 dL_law_517 dL_law_518 dL_law_520 dL_law_521 dL_law_522 (by decide) (by omega) hL ?_
        refine l_rd (q := 2) (x := 8) e2 dL_law_523 dL_law_524 dL_law_526 dL_law_527 dL_law_528 (by decide) (by omega) hL ?_
        refine wa_aload_n dL_law_529 rfl ?_
        refine wa_callW (As := [.ref 0, .int (nI r), .int (8), .ref 277]) dL_law_530 lk_L_186 (wl_room_0 (P := fun v' n' S' => n' = n ∧ v' = (if of (S.1 268) r 9 = 0 then -1 else of (S.1 268) r 8) ∧ S' = S) hn (vr_room_0_8 hn hh hg (by omega) hr) (fun r n' h' q => ⟨_, _, q.1, q.2.2, q.2.1, rfl, rfl⟩)) rfl (by exact Nat.le_of_ble_eq_true rfl) (fitL (by decide) (by decide) (by omega) (by omega)) (by exact Nat.le_of_ble_eq_true rfl) (fun ro n' h' q _ => ?_) (fun E n' h' q _ => by cases q.1)
        obtain ⟨q1, v, S', q2, -, q3, q4, q5⟩ := q
        cases q1
        rw [q2, q3, q4, q5]
        have hI0 := hI.soI ((if of (S.1 268) r 9 = 0 then -1 else of (S.1 268) r 8) : Int32).toInt64
        refine wa_istore dL_law_533 rfl ?_
        refine wa_aload_n dL_law_535 rfl ?_
        refine l_rd (q := 1) (x := nI r) e1 dL_law_536 dL_law_537 dL_law_539 dL_law_540 dL_law_541 (by decide) (by omega) hL ?_
        refine l_rd (q := 2) (x := 8) e2 dL_law_542 dL_law_543 dL_law_545 dL_law_546 dL_law_547 (by decide) (by omega) hL ?_
        refine c_VI dL_law_548 (AM.v (mm_room_0 (w := 8) hn hI0.m hI0.gg.1 hr6 (by decide) (rk_of hI0.m h1') (by decide)) (ite_congr (propext ⟨fun z => z.2, fun z => ⟨rfl, z⟩⟩) (fun _ => rfl) (fun _ => rfl))) lk_L_189 rfl (isO_MO _ _ _) rfl (ltS (by omega)) ?_ (hR := (fitL (by decide) (by decide) (by omega) (by omega)))
        exact l_tail0 dL_law_551 dL_law_553 dL_law_554 dL_law_557 dL_law_559 dL_law_564 dL_law_566 dL_law_569 dL_law_570 dL_law_571 dL_law_572 dL_law_574 dL_law_575 dL_law_576 dL_law_581 (by decide) (by omega) (th_0 _ _) rfl (by omega) (by omega) (hQ _ _ _ _ _ _ _ _ _ (by omega) (by omega) (by omega) (by omega) ((hI0.thI 0).mono (by omega) (Nat.le_refl _) hcb))
      · skip
        refine wa_aload_n dL_law_516 rfl ?_
        refine l_rd (q := 1) (x := nI r) e1 dL_law_517 dL_law_518 dL_law_520 dL_law_521 dL_law_522 (by decide) (by omega) hL ?_
        refine l_rd (q := 2) (x := 9) e2 dL_law_523 dL_law_524 dL_law_526 dL_law_527 dL_law_528 (by decide) (by omega) hL ?_
        refine wa_aload_n dL_law_529 rfl ?_
        refine wa_callW (As := [.ref 0, .int (nI r), .int (9), .ref 277]) dL_law_530 lk_L_186 (wl_room_0 (P := fun v' n' S' => n' = n ∧ v' = (of (S.1 268) r 9) ∧ S' = S) hn (vr_room_0_9 hn hh hg (by omega) hr) (fun r n' h' q => ⟨_, _, q.1, q.2.2, q.2.1, rfl, rfl⟩)) rfl (by exact Nat.le_of_ble_eq_true rfl) (fitL (by decide) (by decide) (by omega) (by omega)) (by exact Nat.le_of_ble_eq_true rfl) (fun ro n' h' q _ => ?_) (fun E n' h' q _ => by cases q.1)
        obtain ⟨q1, v, S', q2, -, q3, q4, q5⟩ := q
        cases q1
        rw [q2, q3, q4, q5]
        have hI0 := hI.soI ((of (S.1 268) r 9) : Int32).toInt64
        refine wa_istore dL_law_533 rfl ?_
        refine wa_aload_n dL_law_535 rfl ?_
        refine l_rd (q := 1) (x := nI r) e1 dL_law_536 dL_law_537 dL_law_539 dL_law_540 dL_law_541 (by decide) (by omega) hL ?_
        refine l_rd (q := 2) (x := 9) e2 dL_law_542 dL_law_543 dL_law_545 dL_law_546 dL_law_547 (by decide) (by omega) hL ?_
        refine c_VI dL_law_548 (AM.v (mm_room_0 (w := 9) hn hI0.m hI0.gg.1 hr6 (by decide) (rk_of hI0.m h1') (by decide)) (if_neg (fun z => absurd z.1 (by decide)))) lk_L_189 rfl (isO_MO _ _ _) rfl (ltS (by omega)) ?_ (hR := (fitL (by decide) (by decide) (by omega) (by omega)))
        exact l_tail0 dL_law_551 dL_law_553 dL_law_554 dL_law_557 dL_law_559 dL_law_564 dL_law_566 dL_law_569 dL_law_570 dL_law_571 dL_law_572 dL_law_574 dL_law_575 dL_law_576 dL_law_581 (by decide) (by omega) (th_0 _ _) rfl (by omega) (by omega) (hQ _ _ _ _ _ _ _ _ _ (by omega) (by omega) (by omega) (by omega) ((hI0.thI 0).mono (by omega) (Nat.le_refl _) hcb))
      · skip
        refine wa_aload_n dL_law_516 rfl ?_
        refine l_rd (q := 1) (x := nI r) e1 dL_law_517 dL_law_518 dL_law_520 dL_law_521 dL_law_522 (by decide) (by omega) hL ?_
        refine l_rd (q := 2) (x := 10) e2 dL_law_523 dL_law_524 dL_law_526 dL_law_527 dL_law_528 (by decide) (by omega) hL ?_
        refine wa_aload_n dL_law_529 rfl ?_
        refine wa_callW (As := [.ref 0, .int (nI r), .int (10), .ref 277]) dL_law_530 lk_L_186 (wl_room_0 (P := fun v' n' S' => n' = n ∧ v' = (of (S.1 268) r 10) ∧ S' = S) hn (vr_room_0_10 hn hh hg (by omega) hr) (fun r n' h' q => ⟨_, _, q.1, q.2.2, q.2.1, rfl, rfl⟩)) rfl (by exact Nat.le_of_ble_eq_true rfl) (fitL (by decide) (by decide) (by omega) (by omega)) (by exact Nat.le_of_ble_eq_true rfl) (fun ro n' h' q _ => ?_) (fun E n' h' q _ => by cases q.1)
        obtain ⟨q1, v, S', q2, -, q3, q4, q5⟩ := q
        cases q1
        rw [q2, q3, q4, q5]
        have hI0 := hI.soI ((of (S.1 268) r 10) : Int32).toInt64
        refine wa_istore dL_law_533 rfl ?_
        refine wa_aload_n dL_law_535 rfl ?_
        refine l_rd (q := 1) (x := nI r) e1 dL_law_536 dL_law_537 dL_law_539 dL_law_540 dL_law_541 (by decide) (by omega) hL ?_
        refine l_rd (q := 2) (x := 10) e2 dL_law_542 dL_law_543 dL_law_545 dL_law_546 dL_law_547 (by decide) (by omega) hL ?_
        refine c_VI dL_law_548 (AM.v (mm_room_0 (w := 10) hn hI0.m hI0.gg.1 hr6 (by decide) (rk_of hI0.m h1') (by decide)) (if_neg (fun z => absurd z.1 (by decide)))) lk_L_189 rfl (isO_MO _ _ _) rfl (ltS (by omega)) ?_ (hR := (fitL (by decide) (by decide) (by omega) (by omega)))
        exact l_tail0 dL_law_551 dL_law_553 dL_law_554 dL_law_557 dL_law_559 dL_law_564 dL_law_566 dL_law_569 dL_law_570 dL_law_571 dL_law_572 dL_law_574 dL_law_575 dL_law_576 dL_law_581 (by decide) (by omega) (th_0 _ _) rfl (by omega) (by omega) (hQ _ _ _ _ _ _ _ _ _ (by omega) (by omega) (by omega) (by omega) ((hI0.thI 0).mono (by omega) (Nat.le_refl _) hcb))
    · skip
      refine wa_aload_n dL_law_516 rfl ?_
      refine l_rd (q := 1) (x := xs (i + 1)) rfl dL_law_517 dL_law_518 dL_law_520 dL_law_521 dL_law_522 (by decide) (by omega) hL ?_
      refine l_rd (q := 2) (x := xs (i + 2)) rfl dL_law_523 dL_law_524 dL_law_526 dL_law_527 dL_law_528 (by decide) (by omega) hL ?_
      refine wa_aload_n dL_law_529 rfl ?_
      refine wa_callW (As := [.ref 0, .int (xs (i + 1)), .int (xs (i + 2)), .ref 277]) dL_law_530 lk_L_186 (wl_room_2 hn (vr_room_2 hn hh hg _ _ h1 h2)) rfl (by exact Nat.le_of_ble_eq_true rfl) (fitL (by decide) (by decide) (by omega) (by omega)) (by exact Nat.le_of_ble_eq_true rfl) (fun ro n' h' q _ => ?_) (fun E n' h' q _ => by cases q.1)
      obtain ⟨q1, q2, q3⟩ := q
      rw [q2, q3]
      cases q1
      refine wa_istore dL_law_533 rfl ?_
      refine wa_aload_n dL_law_535 rfl ?_
      refine l_rd (q := 1) (x := xs (i + 1)) rfl dL_law_536 dL_law_537 dL_law_539 dL_law_540 dL_law_541 (by decide) (by omega) hL ?_
      refine l_rd (q := 2) (x := xs (i + 2)) rfl dL_law_542 dL_law_543 dL_law_545 dL_law_546 dL_law_547 (by decide) (by omega) hL ?_
      refine c_VI dL_law_548 (mm_room_2 hn hm hg.1 _ _ (rk_of hm h1) h2) lk_L_189 rfl (isO_MO _ _ _) rfl (ltS (by omega)) ?_ (hR := (fitL (by decide) (by decide) (by omega) (by omega)))
      exact l_tailE (j := 2) dL_law_551 dL_law_553 dL_law_554 dL_law_557 dL_law_559 dL_law_564 (o2 := 15) dL_law_566 dL_law_581 (by decide) (by omega) (by decide) (by decide) (th_0 _ _) (by omega) (by omega) (hQ _ _ _ _ _ _ _ _ _ (by omega) (by omega) (by omega) (by omega) ((hI.thI 2).mono (by omega) (Nat.le_refl _) hcb))
  · skip
    refine wa_aload_n dL_law_516 rfl ?_
    refine l_rd (q := 1) (x := xs (i + 1)) rfl dL_law_517 dL_law_518 dL_law_520 dL_law_521 dL_law_522 (by decide) (by omega) hL ?_
    refine l_rd (q := 2) (x := xs (i + 2)) rfl dL_law_523 dL_law_524 dL_law_526 dL_law_527 dL_law_528 (by decide) (by omega) hL ?_
    refine wa_aload_n dL_law_529 rfl ?_
    refine wa_callW (As := [.ref 0, .int (xs (i + 1)), .int (xs (i + 2)), .ref 277]) dL_law_530 lk_L_186 (wl_room_1 hn (vr_room_1 hn hh hg _ _ h1)) rfl (by exact Nat.le_of_ble_eq_true rfl) (fitL (by decide) (by decide) (by omega) (by omega)) (by exact Nat.le_of_ble_eq_true rfl) (fun ro n' h' q _ => ?_) (fun E n' h' q _ => by cases q.1)
    obtain ⟨q1, q2, q3⟩ := q
    rw [q2, q3]
    cases q1
    refine wa_istore dL_law_533 rfl ?_
    refine wa_aload_n dL_law_535 rfl ?_
    refine l_rd (q := 1) (x := xs (i + 1)) rfl dL_law_536 dL_law_537 dL_law_539 dL_law_540 dL_law_541 (by decide) (by omega) hL ?_
    refine l_rd (q := 2) (x := xs (i + 2)) rfl dL_law_542 dL_law_543 dL_law_545 dL_law_546 dL_law_547 (by decide) (by omega) hL ?_
    refine c_VI dL_law_548 (mm_room_1 hn hm hg.1 _ _ (rk_no hm h1)) lk_L_189 rfl (isO_MO _ _ _) rfl (ltS (by omega)) ?_ (hR := (fitL (by decide) (by decide) (by omega) (by omega)))
    exact l_tailE (j := 1) dL_law_551 dL_law_553 dL_law_554 dL_law_557 dL_law_559 dL_law_564 (o2 := 15) dL_law_566 dL_law_581 (by decide) (by omega) (by decide) (by decide) (th_0 _ _) (by omega) (by omega) (hQ _ _ _ _ _ _ _ _ _ (by omega) (by omega) (by omega) (by omega) ((hI.thI 1).mono (by omega) (Nat.le_refl _) hcb))
theorem lc_property {L : Nat} {xs : Nat → Int32} {Q : ab_Q} {k z n i c : Nat} {a b c1 d : Option Value} {S : SS} {T : Int} (hi : i + 6 ≤ L) (hL : L ≤ 3072) (hI : INV T n c S) (hT0 : 0 ≤ T) (hT : T ≤ 110000) (hk : k + 80 ≤ 601024) (hz : z + 13300 ≤ 7293034) (hnb : n + 80 ≤ 900000) (hQ : LK L xs Q T n k z i) : LX L xs Q k z 460 (lsL i a b c1 d) [] n (Hp S) := by
  have hn := hI.n
  have hh := hI.hh
  have hg := hI.gg
  have hm := hI.m
  have hcb := hI.1.2.1
  have e9 : ab_CB = 1000000 := rfl
  by_cases h1 : inr (xs (i + 1)) 0 11
  · skip
    obtain ⟨w, hw, e2⟩ := in_nI (m := 11) (by decide) h1
    rcases (show w = 0 ∨ w = 1 ∨ w = 2 ∨ w = 3 ∨ w = 4 ∨ w = 5 ∨ w = 6 ∨ w = 7 ∨ w = 8 ∨ w = 9 ∨ w = 10 ∨ w = 11 by omega) with rfl | rfl | rfl | rfl | rfl | rfl | rfl | rfl | rfl | rfl | rfl | rfl
    · skip
      refine wa_aload_n dL_law_460 rfl ?_
      refine l_rd (q := 1) (x := 0) e2 dL_law_461 dL_law_462 dL_law_464 dL_law_465 dL_law_466 (by decide) (by omega) hL ?_
      refine wa_aload_n dL_law_467 rfl ?_
      refine wa_callW (As := [.ref 0, .int (0), .ref 277]) dL_law_468 lk_L_182 (wl_property_0 (P := fun v' n' S' => n' = n ∧ v' = (S.1 268 0) ∧ S' = S) hn (vr_property_0_0 hn hh hg) (fun r n' h' q => ⟨_, _, q.1, q.2.2, q.2.1, rfl, rfl⟩)) rfl (by exact Nat.le_of_ble_eq_true rfl) (fitL (by decide) (by decide) (by omega) (by omega)) (by exact Nat.le_of_ble_eq_true rfl) (fun ro n' h' q _ => ?_) (fun E n' h' q _ => by cases q.1)
      obtain ⟨q1, v, S', q2, -, q3, q4, q5⟩ := q
      cases q1
      rw [q2, q3, q4, q5]
      have hI0 := hI.soI ((S.1 268 0) : Int32).toInt64
      refine wa_istore dL_law_471 rfl ?_
      refine wa_aload_n dL_law_473 rfl ?_
      refine l_rd (q := 1) (x := 0) e2 dL_law_474 dL_law_475 dL_law_477 dL_law_478 dL_law_479 (by decide) (by omega) hL ?_
      refine c_VI dL_law_480 (AM.v (mm_property_0_0 hn hI0.m hI0.gg.1) rfl) lk_L_185 rfl (isO_MO _ _ _) rfl (ltS (by omega)) ?_ (hR := (fitL (by decide) (by decide) (by omega) (by omega)))
      exact l_tail0 dL_law_483 dL_law_485 dL_law_486 dL_law_489 dL_law_491 dL_law_496 dL_law_498 dL_law_501 dL_law_502 dL_law_503 dL_law_504 dL_law_506 dL_law_507 dL_law_508 dL_law_513 (by decide) (by omega) (th_0 _ _) rfl (by omega) (by omega) (hQ _ _ _ _ _ _ _ _ _ (by omega) (by omega) (by omega) (by omega) ((hI0.thI 0).mono (by omega) (Nat.le_refl _) hcb))
    · skip
      refine wa_aload_n dL_law_460 rfl ?_
      refine l_rd (q := 1) (x := 1) e2 dL_law_461 dL_law_462 dL_law_464 dL_law_465 dL_law_466 (by decide) (by omega) hL ?_
      refine wa_aload_n dL_law_467 rfl ?_
      refine wa_callW (As := [.ref 0, .int (1), .ref 277]) dL_law_468 lk_L_182 (wl_property_0 (P := fun v' n' S' => n' = n ∧ v' = (S.1 268 1) ∧ S' = S) hn (vr_property_0_1 hn hh hg) (fun r n' h' q => ⟨_, _, q.1, q.2.2, q.2.1, rfl, rfl⟩)) rfl (by exact Nat.le_of_ble_eq_true rfl) (fitL (by decide) (by decide) (by omega) (by omega)) (by exact Nat.le_of_ble_eq_true rfl) (fun ro n' h' q _ => ?_) (fun E n' h' q _ => by cases q.1)
      obtain ⟨q1, v, S', q2, -, q3, q4, q5⟩ := q
      cases q1
      rw [q2, q3, q4, q5]
      have hI0 := hI.soI ((S.1 268 1) : Int32).toInt64
      refine wa_istore dL_law_471 rfl ?_
      refine wa_aload_n dL_law_473 rfl ?_
      refine l_rd (q := 1) (x := 1) e2 dL_law_474 dL_law_475 dL_law_477 dL_law_478 dL_law_479 (by decide) (by omega) hL ?_
      refine c_VI dL_law_480 (AM.v (mm_property_0_1 hn hI0.m hI0.gg.1) rfl) lk_L_185 rfl (isO_MO _ _ _) rfl (ltS (by omega)) ?_ (hR := (fitL (by decide) (by decide) (by omega) (by omega)))
      exact l_tail0 dL_law_483 dL_law_485 dL_law_486 dL_law_489 dL_law_491 dL_law_496 dL_law_498 dL_law_501 dL_law_502 dL_law_503 dL_law_504 dL_law_506 dL_law_507 dL_law_508 dL_law_513 (by decide) (by omega) (th_0 _ _) rfl (by omega) (by omega) (hQ _ _ _ _ _ _ _ _ _ (by omega) (by omega) (by omega) (by omega) ((hI0.thI 0).mono (by omega) (Nat.le_refl _) hcb))
    · skip
      refine wa_aload_n dL_law_460 rfl ?_
      refine l_rd (q := 1) (x := 2) e2 dL_law_461 dL_law_462 dL_law_464 dL_law_465 dL_law_466 (by decide) (by omega) hL ?_
      refine wa_aload_n dL_law_467 rfl ?_
      refine wa_callW (As := [.ref 0, .int (2), .ref 277]) dL_law_468 lk_L_182 (wl_property_0 (P := fun v' n' S' => n' = n ∧ v' = ((S.1 268 1 - S.1 268 1 / 48 * 48)) ∧ S' = S) hn (vr_property_0_2 hn hh hg) (fun r n' h' q => ⟨_, _, q.1, q.2.2, q.2.1, rfl, rfl⟩)) rfl (by exact Nat.le_of_ble_eq_true rfl) (fitL (by decide) (by decide) (by omega) (by omega)) (by exact Nat.le_of_ble_eq_true rfl) (fun ro n' h' q _ => ?_) (fun E n' h' q _ => by cases q.1)
      obtain ⟨q1, v, S', q2, -, q3, q4, q5⟩ := q
      cases q1
      rw [q2, q3, q4, q5]
      have hI0 := hI.soI (((S.1 268 1 - S.1 268 1 / 48 * 48)) : Int32).toInt64
      refine wa_istore dL_law_471 rfl ?_
      refine wa_aload_n dL_law_473 rfl ?_
      refine l_rd (q := 1) (x := 2) e2 dL_law_474 dL_law_475 dL_law_477 dL_law_478 dL_law_479 (by decide) (by omega) hL ?_
      refine c_VI dL_law_480 (AM.v (mm_property_0_2 hn hI0.m hI0.gg.1) rfl) lk_L_185 rfl (isO_MO _ _ _) rfl (ltS (by omega)) ?_ (hR := (fitL (by decide) (by decide) (by omega) (by omega)))
      exact l_tail0 dL_law_483 dL_law_485 dL_law_486 dL_law_489 dL_law_491 dL_law_496 dL_law_498 dL_law_501 dL_law_502 dL_law_503 dL_law_504 dL_law_506 dL_law_507 dL_law_508 dL_law_513 (by decide) (by omega) (th_0 _ _) rfl (by omega) (by omega) (hQ _ _ _ _ _ _ _ _ _ (by omega) (by omega) (by omega) (by omega) ((hI0.thI 0).mono (by omega) (Nat.le_refl _) hcb))
    · skip
      refine wa_aload_n dL_law_460 rfl ?_
      refine l_rd (q := 1) (x := 3) e2 dL_law_461 dL_law_462 dL_law_464 dL_law_465 dL_law_466 (by decide) (by omega) hL ?_
      refine wa_aload_n dL_law_467 rfl ?_
      refine wa_callW (As := [.ref 0, .int (3), .ref 277]) dL_law_468 lk_L_182 (wl_property_0 (P := fun v' n' S' => n' = n ∧ v' = (S.1 268 2) ∧ S' = S) hn (vr_property_0_3 hn hh hg) (fun r n' h' q => ⟨_, _, q.1, q.2.2, q.2.1, rfl, rfl⟩)) rfl (by exact Nat.le_of_ble_eq_true rfl) (fitL (by decide) (by decide) (by omega) (by omega)) (by exact Nat.le_of_ble_eq_true rfl) (fun ro n' h' q _ => ?_) (fun E n' h' q _ => by cases q.1)
      obtain ⟨q1, v, S', q2, -, q3, q4, q5⟩ := q
      cases q1
      rw [q2, q3, q4, q5]
      have hI0 := hI.soI ((S.1 268 2) : Int32).toInt64
      refine wa_istore dL_law_471 rfl ?_
      refine wa_aload_n dL_law_473 rfl ?_
      refine l_rd (q := 1) (x := 3) e2 dL_law_474 dL_law_475 dL_law_477 dL_law_478 dL_law_479 (by decide) (by omega) hL ?_
      refine c_VI dL_law_480 (AM.v (mm_property_0_3 hn hI0.m hI0.gg.1) rfl) lk_L_185 rfl (isO_MO _ _ _) rfl (ltS (by omega)) ?_ (hR := (fitL (by decide) (by decide) (by omega) (by omega)))
      exact l_tail0 dL_law_483 dL_law_485 dL_law_486 dL_law_489 dL_law_491 dL_law_496 dL_law_498 dL_law_501 dL_law_502 dL_law_503 dL_law_504 dL_law_506 dL_law_507 dL_law_508 dL_law_513 (by decide) (by omega) (th_0 _ _) rfl (by omega) (by omega) (hQ _ _ _ _ _ _ _ _ _ (by omega) (by omega) (by omega) (by omega) ((hI0.thI 0).mono (by omega) (Nat.le_refl _) hcb))
    · skip
      refine wa_aload_n dL_law_460 rfl ?_
      refine l_rd (q := 1) (x := 4) e2 dL_law_461 dL_law_462 dL_law_464 dL_law_465 dL_law_466 (by decide) (by omega) hL ?_
      refine wa_aload_n dL_law_467 rfl ?_
      refine wa_callW (As := [.ref 0, .int (4), .ref 277]) dL_law_468 lk_L_182 (wl_property_0 (P := fun v' n' S' => n' = n ∧ v' = (S.1 268 3) ∧ S' = S) hn (vr_property_0_4 hn hh hg) (fun r n' h' q => ⟨_, _, q.1, q.2.2, q.2.1, rfl, rfl⟩)) rfl (by exact Nat.le_of_ble_eq_true rfl) (fitL (by decide) (by decide) (by omega) (by omega)) (by exact Nat.le_of_ble_eq_true rfl) (fun ro n' h' q _ => ?_) (fun E n' h' q _ => by cases q.1)
      obtain ⟨q1, v, S', q2, -, q3, q4, q5⟩ := q
      cases q1
      rw [q2, q3, q4, q5]
      have hI0 := hI.soI ((S.1 268 3) : Int32).toInt64
      refine wa_istore dL_law_471 rfl ?_
      refine wa_aload_n dL_law_473 rfl ?_
      refine l_rd (q := 1) (x := 4) e2 dL_law_474 dL_law_475 dL_law_477 dL_law_478 dL_law_479 (by decide) (by omega) hL ?_
      refine c_VI dL_law_480 (AM.v (mm_property_0_4 hn hI0.m hI0.gg.1) rfl) lk_L_185 rfl (isO_MO _ _ _) rfl (ltS (by omega)) ?_ (hR := (fitL (by decide) (by decide) (by omega) (by omega)))
      exact l_tail0 dL_law_483 dL_law_485 dL_law_486 dL_law_489 dL_law_491 dL_law_496 dL_law_498 dL_law_501 dL_law_502 dL_law_503 dL_law_504 dL_law_506 dL_law_507 dL_law_508 dL_law_513 (by decide) (by omega) (th_0 _ _) rfl (by omega) (by omega) (hQ _ _ _ _ _ _ _ _ _ (by omega) (by omega) (by omega) (by omega) ((hI0.thI 0).mono (by omega) (Nat.le_refl _) hcb))
    · skip
      refine wa_aload_n dL_law_460 rfl ?_
      refine l_rd (q := 1) (x := 5) e2 dL_law_461 dL_law_462 dL_law_464 dL_law_465 dL_law_466 (by decide) (by omega) hL ?_
      refine wa_aload_n dL_law_467 rfl ?_
      refine wa_callW (As := [.ref 0, .int (5), .ref 277]) dL_law_468 lk_L_182 (wl_property_0 (P := fun v' n' S' => n' = n ∧ v' = (S.1 268 4) ∧ S' = S) hn (vr_property_0_5 hn hh hg) (fun r n' h' q => ⟨_, _, q.1, q.2.2, q.2.1, rfl, rfl⟩)) rfl (by exact Nat.le_of_ble_eq_true rfl) (fitL (by decide) (by decide) (by omega) (by omega)) (by exact Nat.le_of_ble_eq_true rfl) (fun ro n' h' q _ => ?_) (fun E n' h' q _ => by cases q.1)
      obtain ⟨q1, v, S', q2, -, q3, q4, q5⟩ := q
      cases q1
      rw [q2, q3, q4, q5]
      have hI0 := hI.soI ((S.1 268 4) : Int32).toInt64
      refine wa_istore dL_law_471 rfl ?_
      refine wa_aload_n dL_law_473 rfl ?_
      refine l_rd (q := 1) (x := 5) e2 dL_law_474 dL_law_475 dL_law_477 dL_law_478 dL_law_479 (by decide) (by omega) hL ?_
      refine c_VI dL_law_480 (AM.v (mm_property_0_5 hn hI0.m hI0.gg.1) rfl) lk_L_185 rfl (isO_MO _ _ _) rfl (ltS (by omega)) ?_ (hR := (fitL (by decide) (by decide) (by omega) (by omega)))
      exact l_tail0 dL_law_483 dL_law_485 dL_law_486 dL_law_489 dL_law_491 dL_law_496 dL_law_498 dL_law_501 dL_law_502 dL_law_503 dL_law_504 dL_law_506 dL_law_507 dL_law_508 dL_law_513 (by decide) (by omega) (th_0 _ _) rfl (by omega) (by omega) (hQ _ _ _ _ _ _ _ _ _ (by omega) (by omega) (by omega) (by omega) ((hI0.thI 0).mono (by omega) (Nat.le_refl _) hcb))
    · skip
      refine wa_aload_n dL_law_460 rfl ?_
      refine l_rd (q := 1) (x := 6) e2 dL_law_461 dL_law_462 dL_law_464 dL_law_465 dL_law_466 (by decide) (by omega) hL ?_
      refine wa_aload_n dL_law_467 rfl ?_
      refine wa_callW (As := [.ref 0, .int (6), .ref 277]) dL_law_468 lk_L_182 (wl_property_0 (P := fun v' n' S' => n' = n ∧ v' = (S.1 268 5) ∧ S' = S) hn (vr_property_0_6 hn hh hg) (fun r n' h' q => ⟨_, _, q.1, q.2.2, q.2.1, rfl, rfl⟩)) rfl (by exact Nat.le_of_ble_eq_true rfl) (fitL (by decide) (by decide) (by omega) (by omega)) (by exact Nat.le_of_ble_eq_true rfl) (fun ro n' h' q _ => ?_) (fun E n' h' q _ => by cases q.1)
      obtain ⟨q1, v, S', q2, -, q3, q4, q5⟩ := q
      cases q1
      rw [q2, q3, q4, q5]
      have hI0 := hI.soI ((S.1 268 5) : Int32).toInt64
      refine wa_istore dL_law_471 rfl ?_
      refine wa_aload_n dL_law_473 rfl ?_
      refine l_rd (q := 1) (x := 6) e2 dL_law_474 dL_law_475 dL_law_477 dL_law_478 dL_law_479 (by decide) (by omega) hL ?_
      refine c_VI dL_law_480 (AM.v (mm_property_0_6 hn hI0.m hI0.gg.1) rfl) lk_L_185 rfl (isO_MO _ _ _) rfl (ltS (by omega)) ?_ (hR := (fitL (by decide) (by decide) (by omega) (by omega)))
      exact l_tail0 dL_law_483 dL_law_485 dL_law_486 dL_law_489 dL_law_491 dL_law_496 dL_law_498 dL_law_501 dL_law_502 dL_law_503 dL_law_504 dL_law_506 dL_law_507 dL_law_508 dL_law_513 (by decide) (by omega) (th_0 _ _) rfl (by omega) (by omega) (hQ _ _ _ _ _ _ _ _ _ (by omega) (by omega) (by omega) (by omega) ((hI0.thI 0).mono (by omega) (Nat.le_refl _) hcb))
    · skip
      refine wa_aload_n dL_law_460 rfl ?_
      refine l_rd (q := 1) (x := 7) e2 dL_law_461 dL_law_462 dL_law_464 dL_law_465 dL_law_466 (by decide) (by omega) hL ?_
      refine wa_aload_n dL_law_467 rfl ?_
      refine wa_callW (As := [.ref 0, .int (7), .ref 277]) dL_law_468 lk_L_182 (wl_property_0 (P := fun v' n' S' => n' = n ∧ v' = (S.1 268 6) ∧ S' = S) hn (vr_property_0_7 hn hh hg) (fun r n' h' q => ⟨_, _, q.1, q.2.2, q.2.1, rfl, rfl⟩)) rfl (by exact Nat.le_of_ble_eq_true rfl) (fitL (by decide) (by decide) (by omega) (by omega)) (by exact Nat.le_of_ble_eq_true rfl) (fun ro n' h' q _ => ?_) (fun E n' h' q _ => by cases q.1)
      obtain ⟨q1, v, S', q2, -, q3, q4, q5⟩ := q
      cases q1
      rw [q2, q3, q4, q5]
      have hI0 := hI.soI ((S.1 268 6) : Int32).toInt64
      refine wa_istore dL_law_471 rfl ?_
      refine wa_aload_n dL_law_473 rfl ?_
      refine l_rd (q := 1) (x := 7) e2 dL_law_474 dL_law_475 dL_law_477 dL_law_478 dL_law_479 (by decide) (by omega) hL ?_
      refine c_VI dL_law_480 (AM.v (mm_property_0_7 hn hI0.m hI0.gg.1) rfl) lk_L_185 rfl (isO_MO _ _ _) rfl (ltS (by omega)) ?_ (hR := (fitL (by decide) (by decide) (by omega) (by omega)))
      exact l_tail0 dL_law_483 dL_law_485 dL_law_486 dL_law_489 dL_law_491 dL_law_496 dL_law_498 dL_law_501 dL_law_502 dL_law_503 dL_law_504 dL_law_506 dL_law_507 dL_law_508 dL_law_513 (by decide) (by omega) (th_0 _ _) rfl (by omega) (by omega) (hQ _ _ _ _ _ _ _ _ _ (by omega) (by omega) (by omega) (by omega) ((hI0.thI 0).mono (by omega) (Nat.le_refl _) hcb))
    · skip
      refine wa_aload_n dL_law_460 rfl ?_
      refine l_rd (q := 1) (x := 8) e2 dL_law_461 dL_law_462 dL_law_464 dL_law_465 dL_law_466 (by decide) (by omega) hL ?_
      refine wa_aload_n dL_law_467 rfl ?_
      refine wa_callW (As := [.ref 0, .int (8), .ref 277]) dL_law_468 lk_L_182 (wl_property_0 (P := fun v' n' S' => n' = n ∧ v' = (S.1 268 7) ∧ S' = S) hn (vr_property_0_8 hn hh hg) (fun r n' h' q => ⟨_, _, q.1, q.2.2, q.2.1, rfl, rfl⟩)) rfl (by exact Nat.le_of_ble_eq_true rfl) (fitL (by decide) (by decide) (by omega) (by omega)) (by exact Nat.le_of_ble_eq_true rfl) (fun ro n' h' q _ => ?_) (fun E n' h' q _ => by cases q.1)
      obtain ⟨q1, v, S', q2, -, q3, q4, q5⟩ := q
      cases q1
      rw [q2, q3, q4, q5]
      have hI0 := hI.soI ((S.1 268 7) : Int32).toInt64
      refine wa_istore dL_law_471 rfl ?_
      refine wa_aload_n dL_law_473 rfl ?_
      refine l_rd (q := 1) (x := 8) e2 dL_law_474 dL_law_475 dL_law_477 dL_law_478 dL_law_479 (by decide) (by omega) hL ?_
      refine c_VI dL_law_480 (AM.v (mm_property_0_8 hn hI0.m hI0.gg.1) rfl) lk_L_185 rfl (isO_MO _ _ _) rfl (ltS (by omega)) ?_ (hR := (fitL (by decide) (by decide) (by omega) (by omega)))
      exact l_tail0 dL_law_483 dL_law_485 dL_law_486 dL_law_489 dL_law_491 dL_law_496 dL_law_498 dL_law_501 dL_law_502 dL_law_503 dL_law_504 dL_law_506 dL_law_507 dL_law_508 dL_law_513 (by decide) (by omega) (th_0 _ _) rfl (by omega) (by omega) (hQ _ _ _ _ _ _ _ _ _ (by omega) (by omega) (by omega) (by omega) ((hI0.thI 0).mono (by omega) (Nat.le_refl _) hcb))
    · skip
      refine wa_aload_n dL_law_460 rfl ?_
      refine l_rd (q := 1) (x := 9) e2 dL_law_461 dL_law_462 dL_law_464 dL_law_465 dL_law_466 (by decide) (by omega) hL ?_
      refine wa_aload_n dL_law_467 rfl ?_
      refine wa_callW (As := [.ref 0, .int (9), .ref 277]) dL_law_468 lk_L_182 (wl_property_0 (P := fun v' n' S' => n' = n ∧ v' = (S.1 268 8) ∧ S' = S) hn (vr_property_0_9 hn hh hg) (fun r n' h' q => ⟨_, _, q.1, q.2.2, q.2.1, rfl, rfl⟩)) rfl (by exact Nat.le_of_ble_eq_true rfl) (fitL (by decide) (by decide) (by omega) (by omega)) (by exact Nat.le_of_ble_eq_true rfl) (fun ro n' h' q _ => ?_) (fun E n' h' q _ => by cases q.1)
      obtain ⟨q1, v, S', q2, -, q3, q4, q5⟩ := q
      cases q1
      rw [q2, q3, q4, q5]
      have hI0 := hI.soI ((S.1 268 8) : Int32).toInt64
      refine wa_istore dL_law_471 rfl ?_
      refine wa_aload_n dL_law_473 rfl ?_
      refine l_rd (q := 1) (x := 9) e2 dL_law_474 dL_law_475 dL_law_477 dL_law_478 dL_law_479 (by decide) (by omega) hL ?_
      refine c_VI dL_law_480 (AM.v (mm_property_0_9 hn hI0.m hI0.gg.1) rfl) lk_L_185 rfl (isO_MO _ _ _) rfl (ltS (by omega)) ?_ (hR := (fitL (by decide) (by decide) (by omega) (by omega)))
      exact l_tail0 dL_law_483 dL_law_485 dL_law_486 dL_law_489 dL_law_491 dL_law_496 dL_law_498 dL_law_501 dL_law_502 dL_law_503 dL_law_504 dL_law_506 dL_law_507 dL_law_508 dL_law_513 (by decide) (by omega) (th_0 _ _) rfl (by omega) (by omega) (hQ _ _ _ _ _ _ _ _ _ (by omega) (by omega) (by omega) (by omega) ((hI0.thI 0).mono (by omega) (Nat.le_refl _) hcb))
    · skip
      refine wa_aload_n dL_law_460 rfl ?_
      refine l_rd (q := 1) (x := 10) e2 dL_law_461 dL_law_462 dL_law_464 dL_law_465 dL_law_466 (by decide) (by omega) hL ?_
      refine wa_aload_n dL_law_467 rfl ?_
      refine wa_callW (As := [.ref 0, .int (10), .ref 277]) dL_law_468 lk_L_182 (wl_property_0 (P := fun v' n' S' => n' = n ∧ v' = (S.1 268 9) ∧ S' = S) hn (vr_property_0_10 hn hh hg) (fun r n' h' q => ⟨_, _, q.1, q.2.2, q.2.1, rfl, rfl⟩)) rfl (by exact Nat.le_of_ble_eq_true rfl) (fitL (by decide) (by decide) (by omega) (by omega)) (by exact Nat.le_of_ble_eq_true rfl) (fun ro n' h' q _ => ?_) (fun E n' h' q _ => by cases q.1)
      obtain ⟨q1, v, S', q2, -, q3, q4, q5⟩ := q
      cases q1
      rw [q2, q3, q4, q5]
      have hI0 := hI.soI ((S.1 268 9) : Int32).toInt64
      refine wa_istore dL_law_471 rfl ?_
      refine wa_aload_n dL_law_473 rfl ?_
      refine l_rd (q := 1) (x := 10) e2 dL_law_474 dL_law_475 dL_law_477 dL_law_478 dL_law_479 (by decide) (by omega) hL ?_
      refine c_VI dL_law_480 (AM.v (mm_property_0_10 hn hI0.m hI0.gg.1) rfl) lk_L_185 rfl (isO_MO _ _ _) rfl (ltS (by omega)) ?_ (hR := (fitL (by decide) (by decide) (by omega) (by omega)))
      exact l_tail0 dL_law_483 dL_law_485 dL_law_486 dL_law_489 dL_law_491 dL_law_496 dL_law_498 dL_law_501 dL_law_502 dL_law_503 dL_law_504 dL_law_506 dL_law_507 dL_law_508 dL_law_513 (by decide) (by omega) (th_0 _ _) rfl (by omega) (by omega) (hQ _ _ _ _ _ _ _ _ _ (by omega) (by omega) (by omega) (by omega) ((hI0.thI 0).mono (by omega) (Nat.le_refl _) hcb))
    · skip
      refine wa_aload_n dL_law_460 rfl ?_
      refine l_rd (q := 1) (x := 11) e2 dL_law_461 dL_law_462 dL_law_464 dL_law_465 dL_law_466 (by decide) (by omega) hL ?_
      refine wa_aload_n dL_law_467 rfl ?_
      refine wa_callW (As := [.ref 0, .int (11), .ref 277]) dL_law_468 lk_L_182 (wl_property_0 (P := fun v' n' S' => n' = n ∧ v' = (S.1 268 10) ∧ S' = S) hn (vr_property_0_11 hn hh hg) (fun r n' h' q => ⟨_, _, q.1, q.2.2, q.2.1, rfl, rfl⟩)) rfl (by exact Nat.le_of_ble_eq_true rfl) (fitL (by decide) (by decide) (by omega) (by omega)) (by exact Nat.le_of_ble_eq_true rfl) (fun ro n' h' q _ => ?_) (fun E n' h' q _ => by cases q.1)
      obtain ⟨q1, v, S', q2, -, q3, q4, q5⟩ := q
      cases q1
      rw [q2, q3, q4, q5]
      have hI0 := hI.soI ((S.1 268 10) : Int32).toInt64
      refine wa_istore dL_law_471 rfl ?_
      refine wa_aload_n dL_law_473 rfl ?_
      refine l_rd (q := 1) (x := 11) e2 dL_law_474 dL_law_475 dL_law_477 dL_law_478 dL_law_479 (by decide) (by omega) hL ?_
      refine c_VI dL_law_480 (AM.v (mm_property_0_11 hn hI0.m hI0.gg.1) rfl) lk_L_185 rfl (isO_MO _ _ _) rfl (ltS (by omega)) ?_ (hR := (fitL (by decide) (by decide) (by omega) (by omega)))
      exact l_tail0 dL_law_483 dL_law_485 dL_law_486 dL_law_489 dL_law_491 dL_law_496 dL_law_498 dL_law_501 dL_law_502 dL_law_503 dL_law_504 dL_law_506 dL_law_507 dL_law_508 dL_law_513 (by decide) (by omega) (th_0 _ _) rfl (by omega) (by omega) (hQ _ _ _ _ _ _ _ _ _ (by omega) (by omega) (by omega) (by omega) ((hI0.thI 0).mono (by omega) (Nat.le_refl _) hcb))
  · skip
    refine wa_aload_n dL_law_460 rfl ?_
    refine l_rd (q := 1) (x := xs (i + 1)) rfl dL_law_461 dL_law_462 dL_law_464 dL_law_465 dL_law_466 (by decide) (by omega) hL ?_
    refine wa_aload_n dL_law_467 rfl ?_
    refine wa_callW (As := [.ref 0, .int (xs (i + 1)), .ref 277]) dL_law_468 lk_L_182 (wl_property_1 hn (vr_property_1 hn hh hg _ h1)) rfl (by exact Nat.le_of_ble_eq_true rfl) (fitL (by decide) (by decide) (by omega) (by omega)) (by exact Nat.le_of_ble_eq_true rfl) (fun ro n' h' q _ => ?_) (fun E n' h' q _ => by cases q.1)
    obtain ⟨q1, q2, q3⟩ := q
    rw [q2, q3]
    cases q1
    refine wa_istore dL_law_471 rfl ?_
    refine wa_aload_n dL_law_473 rfl ?_
    refine l_rd (q := 1) (x := xs (i + 1)) rfl dL_law_474 dL_law_475 dL_law_477 dL_law_478 dL_law_479 (by decide) (by omega) hL ?_
    refine c_VI dL_law_480 (mm_property_1 hn hm hg.1 _ h1) lk_L_185 rfl (isO_MO _ _ _) rfl (ltS (by omega)) ?_ (hR := (fitL (by decide) (by decide) (by omega) (by omega)))
    exact l_tailE (j := 1) dL_law_483 dL_law_485 dL_law_486 dL_law_489 dL_law_491 dL_law_496 (o2 := 15) dL_law_498 dL_law_513 (by decide) (by omega) (by decide) (by decide) (th_0 _ _) (by omega) (by omega) (hQ _ _ _ _ _ _ _ _ _ (by omega) (by omega) (by omega) (by omega) ((hI.thI 1).mono (by omega) (Nat.le_refl _) hcb))
