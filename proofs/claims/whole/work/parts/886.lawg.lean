/-! THE LAW'S BODY: the script, an argument read, the ends of a case. -/
def ab_XS (L : Nat) (xs : Nat → Int32) : ab_X := fun s T b0 => va_X (T 1000) L xs s s.heap ∧ T 1000 < b0
section XS
variable {own : String} {cc : ByteArray} {nL : Nat} {hh : List (Nat × Nat × Nat × Nat)} {R : Room} {Q : ab_Q} {k z pc : Nat} {ls : List (Option Value)} {st : List Value} {n : Nat} {h : ab_H} {L : Nat} {xs : Nat → Int32}
theorem wx_sld {j : Nat} {i : Int32} (d : decode cc pc = .ok (.iaload, 1)) (hj : i.toInt = (j : Int)) (hjl : j < L) (K : WX (ab_XS L xs) own cc nL hh R Q k z (pc + 1) ls (.int (xs j) :: st) n h) : WX (ab_XS L xs) own cc nL hh R Q k z pc ls (.int i :: .ref (ab_CB + 500000) :: st) n h := by
  intro p l e s m args below meth c base D T C0 α H L0 locs Fin hC hW hL hs hl hS hF hT
  obtain ⟨hX, hb⟩ := C0.2.2.2.2.2.2.2.2.2.2.2
  have ha : α (ab_CB + 500000) = T 1000 := hC.2.2.2.2.2.2.2.2.2.2.2.2.1
  have hbs := C0.2.2.2.2.2.2.1
  have hb2 : (show Nat from T 1000) < base := hb
  have hb3 : (show Nat from T 1000) < s.heap.size := Nat.lt_of_lt_of_le hb2 hbs
  obtain ⟨hin, hjj⟩ := ab_ix hj hjl
  show W p l e R s m args below meth c H locs k z Fin (F0 m pc L0 (.int i :: .ref (α (ab_CB + 500000)) :: st.map (ab_cv α)))
  rw [ha]
  refine va_sld C0.1 C0.2.1 hX hb3 (fun z => Nat.lt_irrefl _ (Nat.lt_of_lt_of_le hb2 z)) hS hin d ?_
  rw [hjj]
  exact K p l e s m args below meth c base D T C0 α H L0 locs Fin hC hW hL (ab_ws1 ab_wi (ab_wst (ab_wst hs))) hl hS hF hT
theorem wx_slen {v : Int32} (d : decode cc pc = .ok (.arraylength, 1)) (hv : Int32.ofNat L = v) (K : WX (ab_XS L xs) own cc nL hh R Q k z (pc + 1) ls (.int v :: st) n h) : WX (ab_XS L xs) own cc nL hh R Q k z pc ls (.ref (ab_CB + 500000) :: st) n h := by
  subst hv
  intro p l e s m args below meth c base D T C0 α H L0 locs Fin hC hW hL hs hl hS hF hT
  obtain ⟨hX, hb⟩ := C0.2.2.2.2.2.2.2.2.2.2.2
  have ha : α (ab_CB + 500000) = T 1000 := hC.2.2.2.2.2.2.2.2.2.2.2.2.1
  have hbs := C0.2.2.2.2.2.2.1
  have hb2 : (show Nat from T 1000) < base := hb
  have hb3 : (show Nat from T 1000) < s.heap.size := Nat.lt_of_lt_of_le hb2 hbs
  show W p l e R s m args below meth c H locs k z Fin (F0 m pc L0 (.ref (α (ab_CB + 500000)) :: st.map (ab_cv α)))
  rw [ha]
  refine va_slen C0.1 C0.2.1 hX hb3 (fun z => Nat.lt_irrefl _ (Nat.lt_of_lt_of_le hb2 z)) hS d ?_
  exact K p l e s m args below meth c base D T C0 α H L0 locs Fin hC hW hL (ab_ws1 ab_wi (ab_wst hs)) hl hS hF hT
end XS
abbrev LX (L : Nat) (xs : Nat → Int32) (Q : ab_Q) (k z pc : Nat) (ls : List (Option Value)) (st : List Value) (n : Nat) (h : ab_H) : Prop := WX (ab_XS L xs) RL cL_law 10 [] room_1 Q k z pc ls st n h
abbrev lsL (i : Nat) (a b c d : Option Value) : List (Option Value) := [some (.ref (ab_CB + 500000)), some (.ref 0), some (.ref 267), some (.ref 277), some (.ref 278), some (.int (nI i)), a, b, c, d]
theorem fitL {d maxL mc ms k z : Nat} (hd : d ≤ 20) (hm : maxL ≤ 20) (hk : k + mc ≤ 601024) (hz : z + ms ≤ 7293034) : ab_fit room_1 d maxL mc ms k z := ⟨by show d + 21 ≤ 2048; omega, by show 8 + (maxL + 11) + (64 * d + 12000) ≤ 84000; omega, hk, hz⟩
/-- behind the case: the law goes on -/
abbrev LK (L : Nat) (xs : Nat → Int32) (Q : ab_Q) (T : Int) (n k z i : Nat) : Prop := ∀ (n' c' : Nat) (S' : SS) (k' z' : Nat) (a b c d : Option Value), n ≤ n' → n' ≤ n + 80 → k' ≤ k + 80 → z' ≤ z + 13300 → INV (T + 200) n' c' S' → LX L xs Q k' z' 3100 (lsL i a b c d) [] n' (Hp S')
section LG
variable {L : Nat} {xs : Nat → Int32} {Q : ab_Q} {k z pc n i : Nat} {a b c d : Option Value} {st : List Value} {h : ab_H} {S : SS}
theorem l_rd {q : Nat} {iq : Int} {x : Int32} (hx : xs (i + q) = x) (d0 : decode cL_law pc = .ok (.aload_n 0, 1)) (d1 : decode cL_law (pc + 1) = .ok (.iload 5, 2)) (d2 : decode cL_law (pc + 3) = .ok (.iconst iq, 1)) (d3 : decode cL_law (pc + 4) = .ok (.iadd, 1)) (d4 : decode cL_law (pc + 5) = .ok (.iaload, 1)) (hq : Int32.ofInt iq = nI q) (hi : i + q < L) (hL : L ≤ 3072)
    (K : LX L xs Q k z (pc + 6) (lsL i a b c d) (.int x :: st) n h) : LX L xs Q k z pc (lsL i a b c d) st n h := by
  subst hx
  refine wa_aload_n d0 rfl ?_
  refine wa_iload d1 rfl ?_
  refine wa_iconst (x := nI q) d2 hq ?_
  refine wa_iadd d3 ?_
  rw [nI_addS]
  exact wx_sld d4 (nI_toInt (by omega)) hi K
theorem l_tailE {j : Nat} {y : Int32} {off : Int} (d0 : decode cL_law pc = .ok (.istore 7, 2)) (d1 : decode cL_law (pc + 2) = .ok (.aload_n 2, 1)) (d2 : decode cL_law (pc + 3) = .ok (.invokevirtual 159, 3)) (d3 : decode cL_law (pc + 6) = .ok (.iload 6, 2)) (d4 : decode cL_law (pc + 8) = .ok (.if_icmp .eq 5, 3)) (d5 : decode cL_law (pc + 13) = .ok (.iload 6, 2)) {o2 : Nat} (d6 : decode cL_law (pc + 15) = .ok (.ifCond .ne (o2 : Int), 3)) (d7 : decode cL_law (pc + 15 + o2) = .ok (.goto off, 3)) (ht : ((pc + 15 + o2 : Nat) : Int) + off = ((3100 : Nat) : Int)) (hn : 279 ≤ n) (hj : 1 ≤ j) (hj3 : j ≤ 3) (h0 : S.1 267 0 = nI j) (hk : k ≤ 601024) (hz : z ≤ 7293034)
    (K : LX L xs Q k z 3100 (lsL i (some (.int (nI j))) (some (.int y)) c d) [] n (Hp S)) : LX L xs Q k z pc (lsL i (some (.int (nI j))) b c d) [.int y] n (Hp S) := by
  refine wa_istore d0 rfl ?_
  refine wa_aload_n d1 rfl ?_
  refine c_VI d2 (mm_thrown hn) lk_L_159 rfl (isO_MO _ _ _) rfl (ltS hn) ?_ (hR := fitL (by decide) (by decide) (by omega) (by omega))
  rw [h0]
  refine wa_iload d3 rfl ?_
  refine wa_icmp_eq (pc + 13) d4 (by omega) (fun _ => ?_) (fun z => absurd rfl z)
  refine wa_iload d5 rfl ?_
  refine wa_if_ne (pc + 15 + o2) d6 (by omega) (fun _ => ?_) (fun z => absurd z (nz7 hj (by omega)))
  exact wa_goto 3100 d7 ht K
theorem lg_cmp_rf (x : Int64) : lg_cmp x x = 0 := by
  unfold lg_cmp
  rw [if_neg (fun z => by rw [gt_iff_lt, Int64.lt_iff_toInt_lt] at z; omega), if_pos rfl]
theorem l_tail0 {y : Int32} {off : Int} (d0 : decode cL_law pc = .ok (.istore 7, 2)) (d1 : decode cL_law (pc + 2) = .ok (.aload_n 2, 1)) (d2 : decode cL_law (pc + 3) = .ok (.invokevirtual 159, 3)) (d3 : decode cL_law (pc + 6) = .ok (.iload 6, 2)) (d4 : decode cL_law (pc + 8) = .ok (.if_icmp .eq 5, 3)) (d5 : decode cL_law (pc + 13) = .ok (.iload 6, 2)) (d6 : decode cL_law (pc + 15) = .ok (.ifCond .ne 15, 3))
    (e0 : decode cL_law (pc + 18) = .ok (.aload_n 3, 1)) (e1 : decode cL_law (pc + 19) = .ok (.iconst 0, 1)) (e2 : decode cL_law (pc + 20) = .ok (.laload, 1)) (e3 : decode cL_law (pc + 21) = .ok (.iload 7, 2)) (e4 : decode cL_law (pc + 23) = .ok (.i2l, 1)) (e5 : decode cL_law (pc + 24) = .ok (.lcmp, 1)) (e6 : decode cL_law (pc + 25) = .ok (.ifCond .eq 5, 3)) (d7 : decode cL_law (pc + 30) = .ok (.goto off, 3)) (ht : ((pc + 30 : Nat) : Int) + off = ((3100 : Nat) : Int)) (hn : 279 ≤ n) (h0 : S.1 267 0 = 0) (hout : S.2.2.2.2.2.2.2.1 = y.toInt64) (hk : k ≤ 601024) (hz : z ≤ 7293034)
    (K : LX L xs Q k z 3100 (lsL i (some (.int 0)) (some (.int y)) c d) [] n (Hp S)) : LX L xs Q k z pc (lsL i (some (.int 0)) b c d) [.int y] n (Hp S) := by
  refine wa_istore d0 rfl ?_
  refine wa_aload_n d1 rfl ?_
  refine c_VI d2 (mm_thrown hn) lk_L_159 rfl (isO_MO _ _ _) rfl (ltS hn) ?_ (hR := fitL (by decide) (by decide) (by omega) (by omega))
  rw [h0]
  refine wa_iload d3 rfl ?_
  refine wa_icmp_eq (pc + 13) d4 (by omega) (fun _ => ?_) (fun z => absurd rfl z)
  refine wa_iload d5 rfl ?_
  refine wa_if_ne (pc + 30) d6 (by omega) (fun z => absurd rfl z) (fun _ => ?_)
  refine wa_aload_n e0 rfl ?_
  refine wa_iconst (x := 0) e1 (by decide) ?_
  refine wa_lald (len := 1) (j := 0) (f := fun _ => S.2.2.2.2.2.2.2.1) e2 (Or.inl (ltS hn)) rfl rfl (by decide) ?_
  rw [hout]
  refine wa_iload e3 rfl ?_
  refine wa_i2l e4 ?_
  refine wa_lcmp e5 ?_
  rw [lg_cmp_rf]
  refine wa_if_eq (pc + 30) e6 (by omega) (fun _ => ?_) (fun z => absurd rfl z)
  exact wa_goto 3100 d7 ht K
end LG
theorem rk_of {S : SS} {x : Int32} (hm : mr S = 268) (h : 0 ≤ x ∧ x < S.1 268 0) : rk S x := by
  show 0 ≤ x ∧ x < row S 0
  rw [row_net hm]
  exact h
theorem rk_no {S : SS} {x : Int32} (hm : mr S = 268) (h : ¬ (0 ≤ x ∧ x < S.1 268 0)) : ¬ rk S x := fun z => h (by
  have z2 : 0 ≤ x ∧ x < row S 0 := z
  rw [row_net hm] at z2
  exact z2)
/-- numbers in a range -/
theorem in_nI {x : Int32} {m : Nat} (hm : m < 2 ^ 31) (h : inr x 0 (nI m)) : ∃ r, r ≤ m ∧ x = nI r := by
  have h1 : 0 ≤ x.toInt := by have := h.1; rw [Int32.le_iff_toInt_le, Int32.toInt_zero] at this; exact this
  have h2 : x.toInt ≤ m := by have := h.2; rw [Int32.le_iff_toInt_le, nI_toInt hm] at this; exact this
  exact ⟨x.toInt.toNat, by omega, (nI_of_nn h1).1⟩
theorem rk_nI {x y : Int32} {m : Nat} (hm : m < 2 ^ 31) (e : y = nI m) (h : 0 ≤ x ∧ x < y) : ∃ r, r < m ∧ x = nI r := by
  have h1 : 0 ≤ x.toInt := by have := h.1; rw [Int32.le_iff_toInt_le, Int32.toInt_zero] at this; exact this
  have h2 : x.toInt < m := by have := h.2; rw [e, Int32.lt_iff_toInt_lt, nI_toInt hm] at this; exact this
  exact ⟨x.toInt.toNat, by omega, (nI_of_nn h1).1⟩
theorem INV.rnI {T : Int} {n c : Nat} {S : SS} (h : INV T n c S) {x : Int32} (hx : 0 ≤ x ∧ x < S.1 268 0) : ∃ r, r < rn (S.1 268) ∧ r < 6 ∧ x = nI r := by
  have h6 := h.gg.rn6
  obtain ⟨r, h1, h2⟩ := rk_nI (by omega) h.gg.e0 hx
  exact ⟨r, h1, by omega, h2⟩
theorem INV.pnI {T : Int} {n c : Nat} {S : SS} (h : INV T n c S) {x : Int32} (hx : 0 ≤ x ∧ x < S.1 268 3) : ∃ r, r < pn (S.1 268) ∧ r < 20 ∧ x = nI r := by
  have h6 := h.gg.pn20
  obtain ⟨r, h1, h2⟩ := rk_nI (by omega) h.gg.e3 hx
  exact ⟨r, h1, by omega, h2⟩
/-- below a count, and up to one less -/
theorem pl_iff {x y : Int32} {m : Nat} (hm : m < 2 ^ 31) (e : y = nI m) : inr x 0 (y - 1) ↔ 0 ≤ x ∧ x < y := by
  have k1 : (1 : Int32).toInt = 1 := by decide
  have hy : (y - 1).toInt = (m : Int) - 1 := by rw [e, i_sub (by rw [nI_toInt hm, k1]; omega) (by rw [nI_toInt hm, k1]; omega), nI_toInt hm, k1]
  have h1 : x ≤ y - 1 ↔ x < y := by
    rw [Int32.le_iff_toInt_le, Int32.lt_iff_toInt_lt, hy, e, nI_toInt hm]
    omega
  exact and_congr Iff.rfl h1
theorem RM_of {S : SS} {c : Nat} (hc : c ≤ 6) (h : S.1 267 18 = nI c) : RM S := by
  unfold RM
  rw [h, nI_toInt (by omega)]
  omega
theorem f_rem_so {S : SS} {v : Int64} {x : Int32} : f_rem (th (so S v) x) = so (f_rem (th S x)) v := by
  unfold f_rem
  rw [show (th (so S v) x).1 = (th S x).1 from rfl]
  split <;> rfl
theorem md_rem {F : (Nat → Int32) → Nat → Int32} {S : SS} {v : Int64} {c : Nat} {G : Nat → Int32} (hm : mr S = 268) (hc : c ≤ 6) (h18 : S.1 267 18 = nI c) (e : S.1 268 = G) : md F (f_rem (th (so S v) 0)) = so (su (f_rem (th S 0)) 268 (F G)) v := by
  obtain ⟨a1, a2, -⟩ := frem (S := th S 0) hc ((th_k S 0 (by decide)).trans h18)
  have e1 : mr (f_rem (th S 0)) = 268 := (mr_2 a1).trans hm
  have e2 : row (so (f_rem (th S 0)) v) = G := by
    rw [row_net (S := so (f_rem (th S 0)) v) e1]
    show (f_rem (th S 0)).1 268 = G
    rw [a2 268 (by decide) (by decide), th_n S 0 (by decide), e]
  rw [f_rem_so]
  unfold md
  rw [e2, show mr (so (f_rem (th S 0)) v) = 268 from e1]
  rfl
theorem INV.cm {T : Int} {n c : Nat} {S S1 S' : SS} (h : INV T n c S) (q : REM S S1 (S.1 268) c) (fc : FRc 34 S1 S') : mr S' = 268 ∧ (∀ a, 221 ≤ a → S'.1 a = S.1 a) := by
  have hlo := (h.pp.pfP c).lo (c5_lt h.c6)
  have e22 : S'.2.2 = (pf c S.2.2.1, S.2.2.2) := by rw [fc.1, q.1]
  refine ⟨?_, fun a ha => ((fc.2 a (by omega)).1).trans (q.2.2.1 a (by omega) (by omega))⟩
  have hm := h.m
  unfold mr at *
  rw [e22]
  exact hm
