/-! ValveRoomModel: writeRooms, writeProgram, writePlans. Written by program (wip/whole/gen/m604.py) but for the heads. -/
theorem vs_ldcw {p : Program} {l : Launch} {e : Env} {R : Room} {s : State} {m : MethodId} {args : Array Value} {below : List Frame} {meth : Method} {c : Code} {H : Heap} {locs : List Loc} {cells slots : Nat} {Fin : State → Prop} {cc : ByteArray} {pc : Nat} {ls : Array Slot} {rest : List Value} (hexec : p.tables.exec = Jvm.exec) (hb : c.code = cc) {own tx : String} {index q : Nat} (hown : s.vm.findClass own = some m.cls) (hZ : vk_R own index tx q s) (hdg : decode cc pc = .ok (.ldc_w index, 3))
    (k : W p l e R s m args below meth c H locs cells slots Fin (F0 m (pc + 3) ls (.ref q :: rest))) : W p l e R s m args below meth c H locs cells slots Fin (F0 m pc ls rest) := by
  intro T hT X
  obtain ⟨t, a1, b1⟩ := k T hT X
  refine ⟨t, ?_, b1⟩
  obtain ⟨kk, cf, i, a', hk, hcf, hcp, -, hr, hev'⟩ := Cond.stringRef_spec hown hZ.1
  cases hZ.2.symm.trans hev'
  obtain ⟨k', hk', he⟩ := X.warmed.alike.2.2 _ _ hk
  have hr' : k'.resolved[index]? = some (some (.string q)) := by
    rcases X.warmed.entry hk hk' index with h | ⟨h, -⟩
    · rw [h]; exact hr
    · rw [hr] at h; cases h
  have hdg' : decode c.code (F0 m pc ls rest).pc = .ok (.ldc_w index, 3) := by rw [hb]; exact hdg
  jvm_step X.here [hexec, hdg', ldc_w.wp_string (e := e) (s := T) (f := F0 m pc ls rest) X.here.top hk' (by rw [he]; exact hcf) hcp hr']
  exact a1
section JN
variable {own : String} {cc : ByteArray} {nL : Nat} {hh : List (Nat × Nat × Nat × Nat)} {R : Room} {Q : ab_Q} {k z pc : Nat} {ls : List (Option Value)} {st st2 : List Value} {n : Nat} {h : ab_H}
theorem wa_ldcwS {index j : Nat} {tx : String} {b : List Int32} (d : decode cc pc = .ok (.ldc_w index, 3)) (hq : ab_lits[j]? = some (own, index, tx, b))
    (K : WA own cc nL hh R Q k z (pc + 3) ls (.ref (ab_CB + 2 * j) :: st) n h) : WA own cc nL hh R Q k z pc ls st n h := by
  intro p l e s m args below meth c base D T C0 α H L locs Fin hC hW hL hs hl hS hF hT
  exact vs_ldcw C0.1 C0.2.1 C0.2.2.2.1 (hC.2.2.2.2.1 j _ hq) d (K p l e s m args below meth c base D T C0 α H L locs Fin hC hW hL (ab_ws1 (v := .ref (ab_CB + 2 * j)) (Or.inr (by omega)) hs) hl hS hF hT)
/-- 'c ? 1 : 0' -/
theorem wa_jn {P : Prop} [Decidable P] {C : Prop} {off : Int} (tgt j : Nat) (br : (C → WA own cc nL hh R Q k z tgt ls st n h) → (¬ C → WA own cc nL hh R Q k z (pc + 3) ls st n h) → WA own cc nL hh R Q k z pc ls st2 n h)
    (d1 : decode cc (pc + 3) = .ok (.iconst 1, 1)) (d2 : decode cc (pc + 3 + 1) = .ok (.goto off, 3)) (ht : ((pc + 3 + 1 : Nat) : Int) + off = (j : Int)) (d3 : decode cc tgt = .ok (.iconst 0, 1)) (hj : tgt + 1 = j) (h1 : C ↔ ¬ P)
    (K : WA own cc nL hh R Q k z j ls (.int (b2i P) :: st) n h) : WA own cc nL hh R Q k z pc ls st2 n h := by
  subst hj
  refine br (fun c => ?_) (fun c => ?_)
  · refine wa_iconst (x := 0) d3 (by decide) ?_
    rw [b2i_0 (h1.mp c)] at K
    exact K
  · refine wa_iconst (x := 1) d1 (by decide) ?_
    refine wa_goto (tgt + 1) d2 ht ?_
    rw [b2i_1 (Classical.byContradiction fun z => c (h1.mpr z))] at K
    exact K
end JN
theorem wr_wrs (c : Int32) (S : SS) (l : List Int32) : wr c (wrs S l) = wrs S (l ++ [c]) := wrs_app l [c] S
theorem W20 {S : SS} (l : List Int32) (h : S.1 267 20 = 0) (hl : l.length ≤ 500) : (wrs S l).1 267 20 = nI l.length := by
  have := wrs_20 l (S := S) (m := 0) h (by omega)
  rw [Nat.zero_add] at this
  exact this
theorem ilen1 (P : Prop) [Decidable P] (c : Int32) : (if P then [c] else []).length ≤ 1 := by split <;> simp
theorem decN_len {a m : Nat} (h : a < 10 ^ (m + 1)) : (decN a).length ≤ m + 1 := by
  unfold decN
  rw [dd_len]
  have := dk_le (B := 10) (by decide) h
  omega
theorem decI_len (v : Int32) (hv : -2147483648 < v.toInt) : (decI v).length ≤ 11 := by
  have h2 := v.toInt_lt
  unfold decI
  rw [List.length_append]
  have h3 := decN_len (a := v.toInt.natAbs) (m := 9) (by omega)
  have : (if v < 0 then [(45 : Int32)] else []).length ≤ 1 := by split <;> simp
  omega
theorem decI_len2 {v : Int32} {m K : Nat} (h0 : 0 ≤ v.toInt) (h1 : v.toInt.toNat < K) (hK : K ≤ 10 ^ (m + 1)) : (decI v).length ≤ m + 1 := by
  unfold decI
  rw [if_neg (by rw [Int32.lt_iff_toInt_lt, Int32.toInt_zero]; omega), List.nil_append]
  have e : v.toInt.natAbs = v.toInt.toNat := by omega
  rw [e]
  exact decN_len (Nat.lt_of_lt_of_le h1 hK)
theorem nmN_len {a : Nat} (h : a < 27 ^ 6) : (nmN a).length ≤ 6 := by
  unfold nmN
  split
  · rw [dd_len]
    have := dk_le (B := 27) (a := a) (m := 5) (by decide) h
    omega
  · exact Nat.zero_le _
/-- what is written of the rooms, the plans, a program -/
def nmr (g : Nat → Int32) (r : Nat) : List Int32 := nmN (of g r 11).toInt.toNat
def roomsT (g : Nat → Int32) : Nat → List Int32
  | 0 => []
  | r + 1 => roomsT g r ++ (if 0 < r then [32] else []) ++ nmr g r ++ [58] ++ decI (of g r 0) ++ [62] ++ decI (tgt g r) ++ [47] ++ decI (of g r 1) ++ (if of g r 5 = 1 then [119] else []) ++ (if of g r 6 = 0 then [110] else []) ++ (if 0 < of g r 7 then [109] else [])
def sgn (x : Int32) : Int32 := if x = 0 then 111 else if x = 1 then 99 else if x = 2 then 43 else 45
def plansT (g : Nat → Int32) : Nat → List Int32
  | 0 => []
  | k + 1 => plansT g k ++ (if 0 < k then [32] else []) ++ decI (g (11 + 3 * k)) ++ [64] ++ decI (g (11 + 3 * k + 1)) ++ [sgn (g (11 + 3 * k + 2))]
def progT (P : Nat → Int32) : Nat → List Int32
  | 0 => []
  | t + 1 => if P t = 0 then progT P t else progT P t ++ (if 0 < (progT P t).length then [44] else []) ++ decI (nI t) ++ [58] ++ decI (P t)
def WRT (g : Nat → Int32) : Prop := ∀ r, r < rn g → -2147483648 < (of g r 0).toInt ∧ -2147483648 < (tgt g r).toInt ∧ -2147483648 < (of g r 1).toInt ∧ 0 < (of g r 11).toInt ∧ (of g r 11).toInt < 27 ^ 6
def WPT (g : Nat → Int32) : Prop := ∀ k, k < pn g → 0 ≤ (g (11 + 3 * k)).toInt ∧ 0 ≤ (g (11 + 3 * k + 1)).toInt ∧ (g (11 + 3 * k + 1)).toInt < 10 ∧ 0 ≤ (g (11 + 3 * k + 2)).toInt ∧ (g (11 + 3 * k + 2)).toInt < 4
theorem rooms_len {g : Nat → Int32} (hw : WRT g) : ∀ r, r ≤ rn g → (roomsT g r).length ≤ 46 * r := by
  intro r
  induction r with
  | zero => intro _; exact Nat.le_refl _
  | succ r ih =>
    intro hr
    obtain ⟨h1, h2, h3, h4, h5⟩ := hw r (by omega)
    have i0 := ih (by omega)
    have e1 := decI_len _ h1
    have e2 := decI_len _ h2
    have e3 := decI_len _ h3
    have e4 : (nmr g r).length ≤ 6 := nmN_len (by omega)
    have b1 := ilen1 (0 < r) 32
    have b2 := ilen1 (of g r 5 = 1) 119
    have b3 := ilen1 (of g r 6 = 0) 110
    have b4 := ilen1 (0 < of g r 7) 109
    unfold roomsT
    simp only [List.length_append, List.length_cons, List.length_nil]
    omega
theorem plans_len {g : Nat → Int32} (hw : WPT g) : ∀ r, r ≤ pn g → (plansT g r).length ≤ 25 * r := by
  intro r
  induction r with
  | zero => intro _; exact Nat.le_refl _
  | succ r ih =>
    intro hr
    obtain ⟨h1, h2, h3, h4, h5⟩ := hw r (by omega)
    have i0 := ih (by omega)
    have e1 := decI_len (g (11 + 3 * r)) (by omega)
    have e2 := decI_len (g (11 + 3 * r + 1)) (by omega)
    have b1 := ilen1 (0 < r) 32
    unfold plansT
    simp only [List.length_append, List.length_cons, List.length_nil]
    omega
theorem prog_len {P : Nat → Int32} (hP : PT P) : ∀ t, t ≤ 48 → (progT P t).length ≤ 7 * t := by
  intro t
  induction t with
  | zero => intro _; exact Nat.le_refl _
  | succ t ih =>
    intro ht
    have i0 := ih (by omega)
    unfold progT
    split
    · omega
    · rename_i h0
      have hv := (hP.2 t).resolve_left h0
      have e1 : (decI (nI t)).length ≤ 2 := decI_len2 (m := 1) (K := 100) (by rw [nI_toInt (by omega)]; omega) (by rw [nI_toInt (by omega)]; omega) (by decide)
      have e2 : (decI (P t)).length ≤ 3 := decI_len2 (m := 2) (K := 1000) (by omega) (by omega) (by decide)
      have b1 := ilen1 (0 < (progT P t).length) 44
      simp only [List.length_append, List.length_cons, List.length_nil]
      omega
theorem str_lit {S : SS} {n j : Nat} (hj : j < 56) : STR n (Hp S) (ab_CB + 2 * j) (ab_ks j).length (fun i => (ab_ks j).getD i 0) := by
  have hk : ∀ k, Hp S (ab_CB + k) = ab_kc k := fun k => by
    unfold Hp ly_mk
    have h0 : ¬ ab_CB + k < 3 := by unfold ab_CB; omega
    have h1 : ¬ ab_CB + k < 26 := by unfold ab_CB; omega
    have h2 : ¬ ab_CB + k < 34 := by unfold ab_CB; omega
    have h3 : ¬ ab_CB + k < 80 := by unfold ab_CB; omega
    have h4 : ¬ ab_CB + k < 83 := by unfold ab_CB; omega
    have h5 : ¬ ab_CB + k < 267 := by unfold ab_CB; omega
    have h6 : ¬ ab_CB + k < 279 := by unfold ab_CB; omega
    have h7 : ¬ ab_CB + k < ab_CB := by omega
    rw [if_neg h0, if_neg h1, if_neg h2, if_neg h3, if_neg h4, if_neg h5, if_neg h6, if_neg h7, Nat.add_sub_cancel_left]
  have e1 : ab_kc (2 * j) = .inr (9, [.ref (ab_CB + (2 * j + 1)), .int 0]) := by
    unfold ab_kc
    rw [if_pos (by omega), if_pos (by omega)]
  have e2 : ab_kc (2 * j + 1) = .inl (1, ((ab_ks j).length, .inl (fun i => (ab_ks j).getD i 0))) := by
    unfold ab_kc
    rw [if_pos (by omega), if_neg (by omega), show (2 * j + 1) / 2 = j by omega]
  have hlen : (ab_ks j).length < 2 ^ 31 := Nat.lt_of_le_of_lt ((by decide +kernel : ∀ j, j < 56 → (ab_ks j).length ≤ 40) j hj) (by decide)
  refine ⟨hlen, 9, 2, ab_CB + (2 * j + 1), [], ⟨rfl, ?_, Nat.le_refl _⟩, ⟨Or.inr ⟨2 * j, Or.inl (by omega), by unfold ab_NK; omega, rfl, hk _⟩, (hk _).trans e1⟩, Or.inr ⟨2 * j + 1, Or.inl (by omega), by unfold ab_NK; omega, rfl, hk _⟩, (hk _).trans e2⟩
  intro w hw
  refine inB_J0 w ?_
  obtain ⟨i, hi, rfl⟩ := List.mem_map.mp hw
  exact List.mem_map.mpr ⟨i, List.mem_range.mpr (Nat.lt_of_lt_of_le (List.mem_range.mp hi) (by decide)), rfl⟩
theorem lp_wrooms {Q : ab_Q} {n : Nat} {S0 : SS} {T : Int} (g : Nat → Int32) (hn : 279 ≤ n) (h20 : S0.1 267 20 = 0) (hRow : ∀ l, row (wrs S0 l) = g) (hW : ∀ l, VG T (row (wrs S0 l))) (hV : VG T g) (hw : WRT g) (hQ : Q (.inl (some (.int (nI (roomsT g (rn g)).length)))) 0 0 n (Hp (wrs S0 (roomsT g (rn g))))) :
    ∀ (r k : Nat), k + r = rn g → WA RX7 cX7_writeRooms 2 [] (ab_rm 4 0 0) Q 0 0 12 [some (.ref 267), some (.int (nI k))] [] n (Hp (wrs S0 (roomsT g k))) := by
  intro r
  induction r with
  | zero =>
    intro k hk
    have hk' : rn g = k := by omega
    
    have hk2 : k = rn g := hk'.symm
    refine wa_iload_n dX7_writeRooms_12 rfl ?_
    refine wa_aload_n dX7_writeRooms_13 rfl ?_
    refine c_VI dX7_writeRooms_14 (mm_rooms hn) lk_X7_56 rfl (isO_MO _ _ _) rfl (ltS (by assumption)) ?_
    rw [show (wrs S0 (roomsT g k)).1 (mr (wrs S0 (roomsT g k))) 0 = g 0 from congrFun (hRow _) 0, show g 0 = nI (rn g) from (VG_rn hV).1]
    refine wa_icmp_ge 156 dX7_writeRooms_17 rfl (fun c17 => ?_) (fun c17 => absurd (by rw [hk2]; exact Int32.le_refl _) c17)
    refine wa_aload_n dX7_writeRooms_156 rfl ?_
    refine g_MO (by assumption) 20 dX7_writeRooms_157 fl_X7_424 (by decide) rfl ?_
    rw [W20 _ h20 (by have := rooms_len hw k (by omega); have := (VG_rn hV).2; omega), hk2]
    exact wa_ireturn dX7_writeRooms_160 hQ
  | succ r ih =>
    intro k hk
    have h6 := (VG_rn hV).2
    obtain ⟨h1, h2, h3, h4, h5⟩ := hw k (by omega)
    have i0 := rooms_len hw k (by omega)
    have e1 := decI_len _ h1
    have e2 := decI_len _ h2
    have e3 := decI_len _ h3
    have e4 : (nmr g k).length ≤ 6 := nmN_len (by omega)
    have e5 : (nmN (of g k 11).toInt.toNat).length ≤ 6 := e4
    have b1 := ilen1 (0 < k) 32
    have b2 := ilen1 (of g k 5 = 1) 119
    have b3 := ilen1 (of g k 6 = 0) 110
    have b4 := ilen1 (0 < of g k 7) 109
    have hA : True := trivial
    refine wa_iload_n dX7_writeRooms_12 rfl ?_
    refine wa_aload_n dX7_writeRooms_13 rfl ?_
    refine c_VI dX7_writeRooms_14 (mm_rooms hn) lk_X7_56 rfl (isO_MO _ _ _) rfl (ltS (by assumption)) ?_
    rw [show (wrs S0 (roomsT g k)).1 (mr (wrs S0 (roomsT g k))) 0 = g 0 from congrFun (hRow _) 0, show g 0 = nI (rn g) from (VG_rn hV).1]
    refine wa_icmp_ge 156 dX7_writeRooms_17 rfl (fun c17 => absurd c17 (Int32.not_le.mpr (nI_lt (by omega) (by omega)))) (fun c17 => ?_)
    refine wa_aload_n dX7_writeRooms_20 rfl ?_
    refine wa_iload_n dX7_writeRooms_21 rfl ?_
    refine wa_jn (P := 0 < k) 29 30 (fun a b => wa_if_le 29 dX7_writeRooms_22 rfl a b) dX7_writeRooms_25 dX7_writeRooms_26 rfl dX7_writeRooms_29 rfl (by rw [show (0 : Int32) = nI 0 from rfl, nI_leI (by omega) (by decide)]; omega) ?_
    refine wa_bipush (x := 32) dX7_writeRooms_30 (by decide) ?_
    refine c_VV dX7_writeRooms_32 (mm_writeIf (S := wrs S0 (roomsT g k)) hn (W20 (roomsT g k) h20 (by have := hA; (try simp only [List.length_append, List.length_cons, List.length_nil]); omega)) (by have := hA; (try simp only [List.length_append, List.length_cons, List.length_nil]); omega) (0 < k) 32) lk_X7_430 rfl (isO_MO _ _ _) rfl (ltS (by assumption)) ?_
    rw [show bt 32 = 32 from by decide, wrs_app]
    refine wa_aload_n dX7_writeRooms_35 rfl ?_
    refine wa_iload_n dX7_writeRooms_36 rfl ?_
    refine c_VV dX7_writeRooms_37 (mm_writeName (S := wrs S0 (roomsT g k ++ (if 0 < k then [32] else []))) (a := (of g k 11).toInt.toNat) hn (by omega) (by omega) (by rw [hRow]; exact (nI_of_nn (by omega)).1) (W20 (roomsT g k ++ (if 0 < k then [32] else [])) h20 (by have := hA; (try simp only [List.length_append, List.length_cons, List.length_nil]); omega)) (by have := hA; (try simp only [List.length_append, List.length_cons, List.length_nil]); omega) (by omega)) lk_X7_433 rfl (isO_MO _ _ _) rfl (ltS (by assumption)) ?_
    rw [wrs_app]
    refine wa_aload_n dX7_writeRooms_40 rfl ?_
    refine wa_bipush (x := 58) dX7_writeRooms_41 (by decide) ?_
    refine c_VV dX7_writeRooms_43 (mm_write (S := wrs S0 (roomsT g k ++ (if 0 < k then [32] else []) ++ nmr g k)) hn (W20 (roomsT g k ++ (if 0 < k then [32] else []) ++ nmr g k) h20 (by have := hA; (try simp only [List.length_append, List.length_cons, List.length_nil]); omega)) (by have := hA; (try simp only [List.length_append, List.length_cons, List.length_nil]); omega) 58) lk_X7_427 rfl (isO_MO _ _ _) rfl (ltS (by assumption)) ?_
    rw [show bt 58 = 58 from by decide, wr_wrs]
    refine wa_aload_n dX7_writeRooms_46 rfl ?_
    refine wa_aload_n dX7_writeRooms_47 rfl ?_
    refine wa_iload_n dX7_writeRooms_48 rfl ?_
    refine wa_iconst (x := 0) dX7_writeRooms_49 (by decide) ?_
    refine c_VI dX7_writeRooms_50 (mm_of2 (S := wrs S0 _) (i := k) (w := 0) hn (by omega) (by decide)) lk_X7_68 rfl (isO_MO _ _ _) rfl (ltS (by assumption)) ?_
    rw [hRow]
    refine c_VV dX7_writeRooms_53 (mm_writeInt (S := wrs S0 (roomsT g k ++ (if 0 < k then [32] else []) ++ nmr g k ++ [58])) (v := of g k 0) hn h1 (W20 (roomsT g k ++ (if 0 < k then [32] else []) ++ nmr g k ++ [58]) h20 (by have := hA; (try simp only [List.length_append, List.length_cons, List.length_nil]); omega)) (by have := hA; (try simp only [List.length_append, List.length_cons, List.length_nil]); omega)) lk_X7_436 rfl (isO_MO _ _ _) rfl (ltS (by assumption)) ?_
    rw [wrs_app]
    refine wa_aload_n dX7_writeRooms_56 rfl ?_
    refine wa_bipush (x := 62) dX7_writeRooms_57 (by decide) ?_
    refine c_VV dX7_writeRooms_59 (mm_write (S := wrs S0 (roomsT g k ++ (if 0 < k then [32] else []) ++ nmr g k ++ [58] ++ decI (of g k 0))) hn (W20 (roomsT g k ++ (if 0 < k then [32] else []) ++ nmr g k ++ [58] ++ decI (of g k 0)) h20 (by have := hA; (try simp only [List.length_append, List.length_cons, List.length_nil]); omega)) (by have := hA; (try simp only [List.length_append, List.length_cons, List.length_nil]); omega) 62) lk_X7_427 rfl (isO_MO _ _ _) rfl (ltS (by assumption)) ?_
    rw [show bt 62 = 62 from by decide, wr_wrs]
    refine wa_aload_n dX7_writeRooms_62 rfl ?_
    refine wa_aload_n dX7_writeRooms_63 rfl ?_
    refine wa_iload_n dX7_writeRooms_64 rfl ?_
    refine c_VI dX7_writeRooms_65 (mt_targetOf (S := wrs S0 _) (i := k) hn (by omega) (hW _)) lk_X7_78 rfl (isO_MO _ _ _) rfl (ltS (by assumption)) ?_
    rw [hRow]
    refine c_VV dX7_writeRooms_68 (mm_writeInt (S := wrs S0 (roomsT g k ++ (if 0 < k then [32] else []) ++ nmr g k ++ [58] ++ decI (of g k 0) ++ [62])) (v := tgt g k) hn h2 (W20 (roomsT g k ++ (if 0 < k then [32] else []) ++ nmr g k ++ [58] ++ decI (of g k 0) ++ [62]) h20 (by have := hA; (try simp only [List.length_append, List.length_cons, List.length_nil]); omega)) (by have := hA; (try simp only [List.length_append, List.length_cons, List.length_nil]); omega)) lk_X7_436 rfl (isO_MO _ _ _) rfl (ltS (by assumption)) ?_
    rw [wrs_app]
    refine wa_aload_n dX7_writeRooms_71 rfl ?_
    refine wa_bipush (x := 47) dX7_writeRooms_72 (by decide) ?_
    refine c_VV dX7_writeRooms_74 (mm_write (S := wrs S0 (roomsT g k ++ (if 0 < k then [32] else []) ++ nmr g k ++ [58] ++ decI (of g k 0) ++ [62] ++ decI (tgt g k))) hn (W20 (roomsT g k ++ (if 0 < k then [32] else []) ++ nmr g k ++ [58] ++ decI (of g k 0) ++ [62] ++ decI (tgt g k)) h20 (by have := hA; (try simp only [List.length_append, List.length_cons, List.length_nil]); omega)) (by have := hA; (try simp only [List.length_append, List.length_cons, List.length_nil]); omega) 47) lk_X7_427 rfl (isO_MO _ _ _) rfl (ltS (by assumption)) ?_
    rw [show bt 47 = 47 from by decide, wr_wrs]
    refine wa_aload_n dX7_writeRooms_77 rfl ?_
    refine wa_aload_n dX7_writeRooms_78 rfl ?_
    refine wa_iload_n dX7_writeRooms_79 rfl ?_
    refine wa_iconst (x := 1) dX7_writeRooms_80 (by decide) ?_
    refine c_VI dX7_writeRooms_81 (mm_of2 (S := wrs S0 _) (i := k) (w := 1) hn (by omega) (by decide)) lk_X7_68 rfl (isO_MO _ _ _) rfl (ltS (by assumption)) ?_
    rw [hRow]
    refine c_VV dX7_writeRooms_84 (mm_writeInt (S := wrs S0 (roomsT g k ++ (if 0 < k then [32] else []) ++ nmr g k ++ [58] ++ decI (of g k 0) ++ [62] ++ decI (tgt g k) ++ [47])) (v := of g k 1) hn h3 (W20 (roomsT g k ++ (if 0 < k then [32] else []) ++ nmr g k ++ [58] ++ decI (of g k 0) ++ [62] ++ decI (tgt g k) ++ [47]) h20 (by have := hA; (try simp only [List.length_append, List.length_cons, List.length_nil]); omega)) (by have := hA; (try simp only [List.length_append, List.length_cons, List.length_nil]); omega)) lk_X7_436 rfl (isO_MO _ _ _) rfl (ltS (by assumption)) ?_
    rw [wrs_app]
    refine wa_aload_n dX7_writeRooms_87 rfl ?_
    refine wa_aload_n dX7_writeRooms_88 rfl ?_
    refine wa_iload_n dX7_writeRooms_89 rfl ?_
    refine wa_iconst (x := 5) dX7_writeRooms_90 (by decide) ?_
    refine c_VI dX7_writeRooms_91 (mm_of2 (S := wrs S0 _) (i := k) (w := 5) hn (by omega) (by decide)) lk_X7_68 rfl (isO_MO _ _ _) rfl (ltS (by assumption)) ?_
    rw [hRow]
    refine wa_iconst (x := 1) dX7_writeRooms_94 (by decide) ?_
    refine wa_jn (P := of g k 5 = 1) 102 103 (fun a b => wa_icmp_ne 102 dX7_writeRooms_95 rfl a (fun c => b (fun z => z c))) dX7_writeRooms_98 dX7_writeRooms_99 rfl dX7_writeRooms_102 rfl Iff.rfl ?_
    refine wa_bipush (x := 119) dX7_writeRooms_103 (by decide) ?_
    refine c_VV dX7_writeRooms_105 (mm_writeIf (S := wrs S0 (roomsT g k ++ (if 0 < k then [32] else []) ++ nmr g k ++ [58] ++ decI (of g k 0) ++ [62] ++ decI (tgt g k) ++ [47] ++ decI (of g k 1))) hn (W20 (roomsT g k ++ (if 0 < k then [32] else []) ++ nmr g k ++ [58] ++ decI (of g k 0) ++ [62] ++ decI (tgt g k) ++ [47] ++ decI (of g k 1)) h20 (by have := hA; (try simp only [List.length_append, List.length_cons, List.length_nil]); omega)) (by have := hA; (try simp only [List.length_append, List.length_cons, List.length_nil]); omega) (of g k 5 = 1) 119) lk_X7_430 rfl (isO_MO _ _ _) rfl (ltS (by assumption)) ?_
    rw [show bt 119 = 119 from by decide, wrs_app]
    refine wa_aload_n dX7_writeRooms_108 rfl ?_
    refine wa_aload_n dX7_writeRooms_109 rfl ?_
    refine wa_iload_n dX7_writeRooms_110 rfl ?_
    refine wa_bipush (x := 6) dX7_writeRooms_111 (by decide) ?_
    refine c_VI dX7_writeRooms_113 (mm_of2 (S := wrs S0 _) (i := k) (w := 6) hn (by omega) (by decide)) lk_X7_68 rfl (isO_MO _ _ _) rfl (ltS (by assumption)) ?_
    rw [hRow]
    refine wa_jn (P := of g k 6 = 0) 123 124 (fun a b => wa_if_ne 123 dX7_writeRooms_116 rfl a (fun c => b (fun z => z c))) dX7_writeRooms_119 dX7_writeRooms_120 rfl dX7_writeRooms_123 rfl Iff.rfl ?_
    refine wa_bipush (x := 110) dX7_writeRooms_124 (by decide) ?_
    refine c_VV dX7_writeRooms_126 (mm_writeIf (S := wrs S0 (roomsT g k ++ (if 0 < k then [32] else []) ++ nmr g k ++ [58] ++ decI (of g k 0) ++ [62] ++ decI (tgt g k) ++ [47] ++ decI (of g k 1) ++ (if of g k 5 = 1 then [119] else []))) hn (W20 (roomsT g k ++ (if 0 < k then [32] else []) ++ nmr g k ++ [58] ++ decI (of g k 0) ++ [62] ++ decI (tgt g k) ++ [47] ++ decI (of g k 1) ++ (if of g k 5 = 1 then [119] else [])) h20 (by have := hA; (try simp only [List.length_append, List.length_cons, List.length_nil]); omega)) (by have := hA; (try simp only [List.length_append, List.length_cons, List.length_nil]); omega) (of g k 6 = 0) 110) lk_X7_430 rfl (isO_MO _ _ _) rfl (ltS (by assumption)) ?_
    rw [show bt 110 = 110 from by decide, wrs_app]
    refine wa_aload_n dX7_writeRooms_129 rfl ?_
    refine wa_aload_n dX7_writeRooms_130 rfl ?_
    refine wa_iload_n dX7_writeRooms_131 rfl ?_
    refine wa_bipush (x := 7) dX7_writeRooms_132 (by decide) ?_
    refine c_VI dX7_writeRooms_134 (mm_of2 (S := wrs S0 _) (i := k) (w := 7) hn (by omega) (by decide)) lk_X7_68 rfl (isO_MO _ _ _) rfl (ltS (by assumption)) ?_
    rw [hRow]
    refine wa_jn (P := 0 < of g k 7) 144 145 (fun a b => wa_if_le 144 dX7_writeRooms_137 rfl a b) dX7_writeRooms_140 dX7_writeRooms_141 rfl dX7_writeRooms_144 rfl Int32.not_lt.symm ?_
    refine wa_bipush (x := 109) dX7_writeRooms_145 (by decide) ?_
    refine c_VV dX7_writeRooms_147 (mm_writeIf (S := wrs S0 (roomsT g k ++ (if 0 < k then [32] else []) ++ nmr g k ++ [58] ++ decI (of g k 0) ++ [62] ++ decI (tgt g k) ++ [47] ++ decI (of g k 1) ++ (if of g k 5 = 1 then [119] else []) ++ (if of g k 6 = 0 then [110] else []))) hn (W20 (roomsT g k ++ (if 0 < k then [32] else []) ++ nmr g k ++ [58] ++ decI (of g k 0) ++ [62] ++ decI (tgt g k) ++ [47] ++ decI (of g k 1) ++ (if of g k 5 = 1 then [119] else []) ++ (if of g k 6 = 0 then [110] else [])) h20 (by have := hA; (try simp only [List.length_append, List.length_cons, List.length_nil]); omega)) (by have := hA; (try simp only [List.length_append, List.length_cons, List.length_nil]); omega) (0 < of g k 7) 109) lk_X7_430 rfl (isO_MO _ _ _) rfl (ltS (by assumption)) ?_
    rw [show bt 109 = 109 from by decide, wrs_app]
    refine wa_iinc (y := 1) dX7_writeRooms_150 rfl (by decide) rfl ?_
    refine wa_goto 12 dX7_writeRooms_153 rfl ?_
    rw [nI_1 k]
    exact ih (k + 1) (by omega)
theorem mm_writeRooms {n : Nat} {S : SS} {T : Int} (hn : 279 ≤ n) (hm : mr S = 268) (hV : VG T (S.1 268)) (hw : WRT (S.1 268)) : AM yX7_writeRooms cX7_writeRooms 2 (some .int) [] 4 0 0 [.ref 267] n (Hp S) (PI (nI (roomsT (S.1 268) (rn (S.1 268))).length) n (wrs (ss (th S 0) 267 20 0) (roomsT (S.1 268) (rn (S.1 268))))) := by
  intro has
  change WA RX7 cX7_writeRooms 2 [] _ _ 0 0 0 [some (.ref 267), none] [] n _
  have hRow : ∀ l, row (wrs (ss (th S 0) 267 20 0) l) = S.1 268 := fun l => by
    rw [wrs_row]
    show (if mr (th S 0) = 267 then _ else (th S 0).1 (mr (th S 0))) = _
    rw [show mr (th S 0) = 268 from hm]
    rfl
  have hW : ∀ l, VG T (row (wrs (ss (th S 0) 267 20 0) l)) := fun l => by rw [hRow]; exact hV
  refine wa_aload_n dX7_writeRooms_0 rfl ?_
  refine wa_iconst (x := 0) dX7_writeRooms_1 (by decide) ?_
  refine p_MO (by assumption) 0 dX7_writeRooms_2 fl_X7_3 (by decide) rfl rfl rfl rfl (fun _ _ _ => rfl) (Nat.le_of_ble_eq_true rfl) ?_
  show WA _ _ _ _ _ _ _ _ _ _ _ _ (Hp (th S 0))
  refine wa_aload_n dX7_writeRooms_5 rfl ?_
  refine wa_iconst (x := 0) dX7_writeRooms_6 (by decide) ?_
  refine p_MO (by assumption) 20 dX7_writeRooms_7 fl_X7_424 (by decide) rfl rfl rfl rfl (fun _ _ _ => rfl) (Nat.le_of_ble_eq_true rfl) ?_
  refine wa_iconst (x := 0) dX7_writeRooms_10 (by decide) ?_
  refine wa_istore_n dX7_writeRooms_11 rfl ?_
  exact lp_wrooms (S0 := (ss (th S 0) 267 20 0)) (S.1 268) hn rfl hRow hW hV hw ⟨Nat.le_refl _, Nat.le_refl _, ⟨_, rfl, rfl⟩, rfl, rfl, rfl⟩ (rn (S.1 268)) 0 (Nat.zero_add _)
theorem sgn_chr {x : Int32} (h0 : 0 ≤ x.toInt) (h1 : x.toInt < 4) : bt (chr ((ab_ks 37).getD x.toInt.toNat 0)) = sgn x := by
  obtain ⟨e, -⟩ := nI_of_nn h0
  have h2 : x.toInt.toNat < 4 := by omega
  rw [show sgn x = sgn (nI x.toInt.toNat) from congrArg sgn e]
  exact (by decide +kernel : ∀ k, k < 4 → bt (chr ((ab_ks 37).getD k 0)) = sgn (nI k)) _ h2
theorem lp_wplans {Q : ab_Q} {n : Nat} {S0 : SS} {T : Int} (g : Nat → Int32) (hn : 279 ≤ n) (h20 : S0.1 267 20 = 0) (hRow : ∀ l, row (wrs S0 l) = g) (hRow2 : ∀ l, (wrs S0 l).1 268 = g) (hV : VG T g) (hw : WPT g) (hQ : Q (.inl (some (.int (nI (plansT g (pn g)).length)))) 0 0 n (Hp (wrs S0 (plansT g (pn g))))) :
    ∀ (r k : Nat), k + r = pn g → WA RX7 cX7_writePlans 2 [] (ab_rm 4 0 0) Q 0 0 12 [some (.ref 267), some (.int (nI k))] [] n (Hp (wrs S0 (plansT g k))) := by
  intro r
  induction r with
  | zero =>
    intro k hk
    have hk' : pn g = k := by omega
    
    have hk2 : k = pn g := hk'.symm
    refine wa_iload_n dX7_writePlans_12 rfl ?_
    refine wa_aload_n dX7_writePlans_13 rfl ?_
    refine g_MO (by assumption) 1 dX7_writePlans_14 fl_X7_17 (by decide) rfl ?_
    refine wa_iconst (x := 3) dX7_writePlans_17 (by decide) ?_
    refine s_iald (j := 3) isA_net dX7_writePlans_18 (ltS (by assumption)) rfl (by decide) ?_
    rw [show (wrs S0 (plansT g k)).1 268 3 = g 3 from congrFun (hRow2 _) 3, show g 3 = nI (pn g) from (VG_pn hV).1]
    refine wa_icmp_ge 85 dX7_writePlans_19 rfl (fun c19 => ?_) (fun c19 => absurd (by rw [hk2]; exact Int32.le_refl _) c19)
    refine wa_aload_n dX7_writePlans_85 rfl ?_
    refine g_MO (by assumption) 20 dX7_writePlans_86 fl_X7_424 (by decide) rfl ?_
    rw [W20 _ h20 (by have := plans_len hw k (by omega); have := (VG_pn hV).2; omega), hk2]
    exact wa_ireturn dX7_writePlans_89 hQ
  | succ r ih =>
    intro k hk
    have h6 := (VG_pn hV).2
    obtain ⟨h1, h2, h3, h4, h5⟩ := hw k (by omega)
    have i0 := plans_len hw k (by omega)
    have e1 := decI_len (g (11 + 3 * k)) (by omega)
    have e2 : (decI (g (11 + 3 * k + 1))).length ≤ 1 := decI_len2 (m := 0) (K := 10) (by omega) (by omega) (by decide)
    have b1 := ilen1 (0 < k) 32
    have hA : True := trivial
    refine wa_iload_n dX7_writePlans_12 rfl ?_
    refine wa_aload_n dX7_writePlans_13 rfl ?_
    refine g_MO (by assumption) 1 dX7_writePlans_14 fl_X7_17 (by decide) rfl ?_
    refine wa_iconst (x := 3) dX7_writePlans_17 (by decide) ?_
    refine s_iald (j := 3) isA_net dX7_writePlans_18 (ltS (by assumption)) rfl (by decide) ?_
    rw [show (wrs S0 (plansT g k)).1 268 3 = g 3 from congrFun (hRow2 _) 3, show g 3 = nI (pn g) from (VG_pn hV).1]
    refine wa_icmp_ge 85 dX7_writePlans_19 rfl (fun c19 => absurd c19 (Int32.not_le.mpr (nI_lt (by omega) (by omega)))) (fun c19 => ?_)
    refine wa_aload_n dX7_writePlans_22 rfl ?_
    refine wa_iload_n dX7_writePlans_23 rfl ?_
    refine wa_jn (P := 0 < k) 31 32 (fun a b => wa_if_le 31 dX7_writePlans_24 rfl a b) dX7_writePlans_27 dX7_writePlans_28 rfl dX7_writePlans_31 rfl (by rw [show (0 : Int32) = nI 0 from rfl, nI_leI (by omega) (by decide)]; omega) ?_
    refine wa_bipush (x := 32) dX7_writePlans_32 (by decide) ?_
    refine c_VV dX7_writePlans_34 (mm_writeIf (S := wrs S0 (plansT g k)) hn (W20 (plansT g k) h20 (by have := hA; (try simp only [List.length_append, List.length_cons, List.length_nil]); omega)) (by have := hA; (try simp only [List.length_append, List.length_cons, List.length_nil]); omega) (0 < k) 32) lk_X7_430 rfl (isO_MO _ _ _) rfl (ltS (by assumption)) ?_
    rw [show bt 32 = 32 from by decide, wrs_app]
    refine wa_aload_n dX7_writePlans_37 rfl ?_
    refine wa_aload_n dX7_writePlans_38 rfl ?_
    refine wa_iload_n dX7_writePlans_39 rfl ?_
    refine wa_iconst (x := 0) dX7_writePlans_40 (by decide) ?_
    refine c_VI dX7_writePlans_41 (mm_ofPlan (S := wrs S0 _) (k := k) (w := 0) hn (by omega) (by decide)) lk_X7_132 rfl (isO_MO _ _ _) rfl (ltS (by assumption)) ?_
    rw [show ∀ l, (wrs S0 l).1 (mr (wrs S0 l)) (11 + 3 * k + 0) = g (11 + 3 * k + 0) from fun l => congrFun (hRow l) _]
    refine c_VV dX7_writePlans_44 (mm_writeInt (S := wrs S0 (plansT g k ++ (if 0 < k then [32] else []))) (v := g (11 + 3 * k)) hn (by omega) (W20 (plansT g k ++ (if 0 < k then [32] else [])) h20 (by have := hA; (try simp only [List.length_append, List.length_cons, List.length_nil]); omega)) (by have := hA; (try simp only [List.length_append, List.length_cons, List.length_nil]); omega)) lk_X7_436 rfl (isO_MO _ _ _) rfl (ltS (by assumption)) ?_
    rw [wrs_app]
    refine wa_aload_n dX7_writePlans_47 rfl ?_
    refine wa_bipush (x := 64) dX7_writePlans_48 (by decide) ?_
    refine c_VV dX7_writePlans_50 (mm_write (S := wrs S0 (plansT g k ++ (if 0 < k then [32] else []) ++ decI (g (11 + 3 * k)))) hn (W20 (plansT g k ++ (if 0 < k then [32] else []) ++ decI (g (11 + 3 * k))) h20 (by have := hA; (try simp only [List.length_append, List.length_cons, List.length_nil]); omega)) (by have := hA; (try simp only [List.length_append, List.length_cons, List.length_nil]); omega) 64) lk_X7_427 rfl (isO_MO _ _ _) rfl (ltS (by assumption)) ?_
    rw [show bt 64 = 64 from by decide, wr_wrs]
    refine wa_aload_n dX7_writePlans_53 rfl ?_
    refine wa_aload_n dX7_writePlans_54 rfl ?_
    refine wa_iload_n dX7_writePlans_55 rfl ?_
    refine wa_iconst (x := 1) dX7_writePlans_56 (by decide) ?_
    refine c_VI dX7_writePlans_57 (mm_ofPlan (S := wrs S0 _) (k := k) (w := 1) hn (by omega) (by decide)) lk_X7_132 rfl (isO_MO _ _ _) rfl (ltS (by assumption)) ?_
    rw [show ∀ l, (wrs S0 l).1 (mr (wrs S0 l)) (11 + 3 * k + 1) = g (11 + 3 * k + 1) from fun l => congrFun (hRow l) _]
    refine c_VV dX7_writePlans_60 (mm_writeInt (S := wrs S0 (plansT g k ++ (if 0 < k then [32] else []) ++ decI (g (11 + 3 * k)) ++ [64])) (v := g (11 + 3 * k + 1)) hn (by omega) (W20 (plansT g k ++ (if 0 < k then [32] else []) ++ decI (g (11 + 3 * k)) ++ [64]) h20 (by have := hA; (try simp only [List.length_append, List.length_cons, List.length_nil]); omega)) (by have := hA; (try simp only [List.length_append, List.length_cons, List.length_nil]); omega)) lk_X7_436 rfl (isO_MO _ _ _) rfl (ltS (by assumption)) ?_
    rw [wrs_app]
    refine wa_aload_n dX7_writePlans_63 rfl ?_
    refine wa_ldcwS (j := 37) dX7_writePlans_64 rfl ?_
    refine wa_aload_n dX7_writePlans_67 rfl ?_
    refine wa_iload_n dX7_writePlans_68 rfl ?_
    refine wa_iconst (x := 2) dX7_writePlans_69 (by decide) ?_
    refine c_VI dX7_writePlans_70 (mm_ofPlan (S := wrs S0 _) (k := k) (w := 2) hn (by omega) (by decide)) lk_X7_132 rfl (isO_MO _ _ _) rfl (ltS (by assumption)) ?_
    rw [show ∀ l, (wrs S0 l).1 (mr (wrs S0 l)) (11 + 3 * k + 2) = g (11 + 3 * k + 2) from fun l => congrFun (hRow l) _]
    rw [show g (11 + 3 * k + 2) = nI (g (11 + 3 * k + 2)).toInt.toNat from (nI_of_nn h4).1]
    obtain ⟨hlen9, ci9, N9, v9, tl9, ⟨hcl9, hin9, hN9⟩, ⟨ha9, he9⟩, hv9, hve9⟩ := str_lit (S := wrs S0 (plansT g k ++ (if 0 < k then [32] else []) ++ decI (g (11 + 3 * k)) ++ [64] ++ decI (g (11 + 3 * k + 1)))) (n := n) (j := 37) (by decide)
    refine c_VAh dX7_writePlans_73 (am_charAt (str_lit (S := wrs S0 (plansT g k ++ (if 0 < k then [32] else []) ++ decI (g (11 + 3 * k)) ++ [64] ++ decI (g (11 + 3 * k + 1)))) (n := n) (j := 37) (by decide)) (j := (g (11 + 3 * k + 2)).toInt.toNat) (Nat.lt_of_lt_of_eq (by omega) (show 4 = (ab_ks 37).length by decide))) lk_X7_204 rfl he9 hcl9 ha9 ?_
    refine c_VV dX7_writePlans_76 (mm_write (S := wrs S0 (plansT g k ++ (if 0 < k then [32] else []) ++ decI (g (11 + 3 * k)) ++ [64] ++ decI (g (11 + 3 * k + 1)))) hn (W20 (plansT g k ++ (if 0 < k then [32] else []) ++ decI (g (11 + 3 * k)) ++ [64] ++ decI (g (11 + 3 * k + 1))) h20 (by have := hA; (try simp only [List.length_append, List.length_cons, List.length_nil]); omega)) (by have := hA; (try simp only [List.length_append, List.length_cons, List.length_nil]); omega) (chr ((ab_ks 37).getD (g (11 + 3 * k + 2)).toInt.toNat 0))) lk_X7_427 rfl (isO_MO _ _ _) rfl (ltS (by assumption)) ?_
    rw [show bt (chr ((ab_ks 37).getD (g (11 + 3 * k + 2)).toInt.toNat 0)) = sgn (g (11 + 3 * k + 2)) from sgn_chr h4 h5, wr_wrs]
    refine wa_iinc (y := 1) dX7_writePlans_79 rfl (by decide) rfl ?_
    refine wa_goto 12 dX7_writePlans_82 rfl ?_
    rw [nI_1 k]
    exact ih (k + 1) (by omega)
theorem mm_writePlans {n : Nat} {S : SS} {T : Int} (hn : 279 ≤ n) (hm : mr S = 268) (hV : VG T (S.1 268)) (hw : WPT (S.1 268)) : AM yX7_writePlans cX7_writePlans 2 (some .int) [] 4 0 0 [.ref 267] n (Hp S) (PI (nI (plansT (S.1 268) (pn (S.1 268))).length) n (wrs (ss (th S 0) 267 20 0) (plansT (S.1 268) (pn (S.1 268))))) := by
  intro has
  change WA RX7 cX7_writePlans 2 [] _ _ 0 0 0 [some (.ref 267), none] [] n _
  have hRow : ∀ l, row (wrs (ss (th S 0) 267 20 0) l) = S.1 268 := fun l => by
    rw [wrs_row]
    show (if mr (th S 0) = 267 then _ else (th S 0).1 (mr (th S 0))) = _
    rw [show mr (th S 0) = 268 from hm]
    rfl
  have hW : ∀ l, VG T (row (wrs (ss (th S 0) 267 20 0) l)) := fun l => by rw [hRow]; exact hV
  have hRow2 : ∀ l, (wrs (ss (th S 0) 267 20 0) l).1 268 = S.1 268 := fun l => (wrs_n (by decide) (by decide) l _).trans rfl
  refine wa_aload_n dX7_writePlans_0 rfl ?_
  refine wa_iconst (x := 0) dX7_writePlans_1 (by decide) ?_
  refine p_MO (by assumption) 0 dX7_writePlans_2 fl_X7_3 (by decide) rfl rfl rfl rfl (fun _ _ _ => rfl) (Nat.le_of_ble_eq_true rfl) ?_
  show WA _ _ _ _ _ _ _ _ _ _ _ _ (Hp (th S 0))
  refine wa_aload_n dX7_writePlans_5 rfl ?_
  refine wa_iconst (x := 0) dX7_writePlans_6 (by decide) ?_
  refine p_MO (by assumption) 20 dX7_writePlans_7 fl_X7_424 (by decide) rfl rfl rfl rfl (fun _ _ _ => rfl) (Nat.le_of_ble_eq_true rfl) ?_
  refine wa_iconst (x := 0) dX7_writePlans_10 (by decide) ?_
  refine wa_istore_n dX7_writePlans_11 rfl ?_
  exact lp_wplans (S0 := (ss (th S 0) 267 20 0)) (S.1 268) hn rfl hRow hRow2 hV hw ⟨Nat.le_refl _, Nat.le_refl _, ⟨_, rfl, rfl⟩, rfl, rfl, rfl⟩ (pn (S.1 268)) 0 (Nat.zero_add _)
theorem lp_wprog {Q : ab_Q} {n i : Nat} {S0 : SS} {T : Int} {P : Nat → Int32} (g : Nat → Int32) (hn : 279 ≤ n) (hi : i < 6) (h20 : S0.1 267 20 = 0) (hRow : ∀ l, row (wrs S0 l) = g) (hV : VG T g) (hP : PT P) (hPg : ∀ k, k < 48 → g (71 + 66 * i + (18 + k)) = P k) (hQ : Q (.inl (some (.int (nI (progT P 48).length)))) 0 0 n (Hp (wrs S0 (progT P 48)))) :
    ∀ (r k : Nat), k + r = 48 → WA RX7 cX7_writeProgram 3 [] (ab_rm 4 0 0) Q 0 0 21 [some (.ref 267), some (.int (nI i)), some (.int (nI k))] [] n (Hp (wrs S0 (progT P k))) := by
  intro r
  induction r with
  | zero =>
    intro k hk
    have hk' : 48 = k := by omega
    
    have hk2 : k = 48 := hk'.symm
    refine wa_iload_n dX7_writeProgram_21 rfl ?_
    refine wa_bipush (x := 48) dX7_writeProgram_22 (by decide) ?_
    refine wa_icmp_ge 81 dX7_writeProgram_24 rfl (fun c24 => ?_) (fun c24 => absurd (by rw [hk2]; decide) c24)
    refine wa_aload_n dX7_writeProgram_81 rfl ?_
    refine g_MO (by assumption) 20 dX7_writeProgram_82 fl_X7_424 (by decide) rfl ?_
    rw [W20 _ h20 (by have := prog_len hP k (by omega); omega), hk2]
    exact wa_ireturn dX7_writeProgram_85 hQ
  | succ r ih =>
    intro k hk

    refine wa_iload_n dX7_writeProgram_21 rfl ?_
    refine wa_bipush (x := 48) dX7_writeProgram_22 (by decide) ?_
    refine wa_icmp_ge 81 dX7_writeProgram_24 rfl (fun c24 => absurd c24 (Int32.not_le.mpr (nI_lt (a := k) (b := 48) (by omega) (by decide)))) (fun c24 => ?_)
    refine wa_aload_n dX7_writeProgram_27 rfl ?_
    refine wa_iload_n dX7_writeProgram_28 rfl ?_
    refine wa_iload_n dX7_writeProgram_29 rfl ?_
    refine c_VI dX7_writeProgram_30 (mm_programAt (S := wrs S0 _) (i := i) (t := k) hn hi (by omega)) lk_X7_72 rfl (isO_MO _ _ _) rfl (ltS (by assumption)) ?_
    rw [show ∀ l, (wrs S0 l).1 (mr (wrs S0 l)) (71 + 66 * i + (18 + k)) = P k from fun l => (congrFun (hRow l) _).trans (hPg k (by omega))]
    have i0 := prog_len hP k (by omega)
    have e1 : (decI (nI k)).length ≤ 2 := decI_len2 (m := 1) (K := 100) (by rw [nI_toInt (by omega)]; omega) (by rw [nI_toInt (by omega)]; omega) (by decide)
    have b1 := ilen1 (0 < (progT P k).length) 44
    have hA : True := trivial
    refine wa_if_le 75 dX7_writeProgram_33 rfl (fun c33 => ?_) (fun c33 => ?_)
    · refine wa_iinc (y := 1) dX7_writeProgram_75 rfl (by decide) rfl ?_
      refine wa_goto 21 dX7_writeProgram_78 rfl ?_
      first
      | (have e9 : progT P (k + 1) = progT P k := if_pos (Classical.byContradiction fun z => Int32.not_lt.mpr c33 ((hP.pos k).mpr z))
         rw [nI_1 k, ← e9]
         exact ih (k + 1) (by omega))
      | (rw [nI_1 k, show progT P k ++ (if 0 < (progT P k).length then [44] else []) ++ decI (nI k) ++ [58] ++ decI (P k) = progT P (k + 1) from (if_neg h0).symm]
         exact ih (k + 1) (by omega))
    · have h0 : ¬ P k = 0 := (hP.pos k).mp (Int32.not_le.mp c33)
      have hv := (hP.2 k).resolve_left h0
      have e2 : (decI (P k)).length ≤ 3 := decI_len2 (m := 2) (K := 1000) (by omega) (by omega) (by decide)
      refine wa_aload_n dX7_writeProgram_36 rfl ?_
      refine wa_aload_n dX7_writeProgram_37 rfl ?_
      refine g_MO (by assumption) 20 dX7_writeProgram_38 fl_X7_424 (by decide) rfl ?_
      rw [W20 _ h20 (by omega)]
      refine wa_jn (P := 0 < (progT P k).length) 48 49 (fun a b => wa_if_le 48 dX7_writeProgram_41 rfl a b) dX7_writeProgram_44 dX7_writeProgram_45 rfl dX7_writeProgram_48 rfl (by rw [show (0 : Int32) = nI 0 from rfl, nI_leI (by omega) (by decide)]; omega) ?_
      refine wa_bipush (x := 44) dX7_writeProgram_49 (by decide) ?_
      refine c_VV dX7_writeProgram_51 (mm_writeIf (S := wrs S0 (progT P k)) hn (W20 (progT P k) h20 (by have := hA; (try simp only [List.length_append, List.length_cons, List.length_nil]); omega)) (by have := hA; (try simp only [List.length_append, List.length_cons, List.length_nil]); omega) (0 < (progT P k).length) 44) lk_X7_430 rfl (isO_MO _ _ _) rfl (ltS (by assumption)) ?_
      rw [show bt 44 = 44 from by decide, wrs_app]
      refine wa_aload_n dX7_writeProgram_54 rfl ?_
      refine wa_iload_n dX7_writeProgram_55 rfl ?_
      refine c_VV dX7_writeProgram_56 (mm_writeInt (S := wrs S0 (progT P k ++ (if 0 < (progT P k).length then [44] else []))) (v := nI k) hn (by rw [nI_toInt (by omega)]; omega) (W20 (progT P k ++ (if 0 < (progT P k).length then [44] else [])) h20 (by have := hA; (try simp only [List.length_append, List.length_cons, List.length_nil]); omega)) (by have := hA; (try simp only [List.length_append, List.length_cons, List.length_nil]); omega)) lk_X7_436 rfl (isO_MO _ _ _) rfl (ltS (by assumption)) ?_
      rw [wrs_app]
      refine wa_aload_n dX7_writeProgram_59 rfl ?_
      refine wa_bipush (x := 58) dX7_writeProgram_60 (by decide) ?_
      refine c_VV dX7_writeProgram_62 (mm_write (S := wrs S0 (progT P k ++ (if 0 < (progT P k).length then [44] else []) ++ decI (nI k))) hn (W20 (progT P k ++ (if 0 < (progT P k).length then [44] else []) ++ decI (nI k)) h20 (by have := hA; (try simp only [List.length_append, List.length_cons, List.length_nil]); omega)) (by have := hA; (try simp only [List.length_append, List.length_cons, List.length_nil]); omega) 58) lk_X7_427 rfl (isO_MO _ _ _) rfl (ltS (by assumption)) ?_
      rw [show bt 58 = 58 from by decide, wr_wrs]
      refine wa_aload_n dX7_writeProgram_65 rfl ?_
      refine wa_aload_n dX7_writeProgram_66 rfl ?_
      refine wa_iload_n dX7_writeProgram_67 rfl ?_
      refine wa_iload_n dX7_writeProgram_68 rfl ?_
      refine c_VI dX7_writeProgram_69 (mm_programAt (S := wrs S0 _) (i := i) (t := k) hn hi (by omega)) lk_X7_72 rfl (isO_MO _ _ _) rfl (ltS (by assumption)) ?_
      rw [show ∀ l, (wrs S0 l).1 (mr (wrs S0 l)) (71 + 66 * i + (18 + k)) = P k from fun l => (congrFun (hRow l) _).trans (hPg k (by omega))]
      refine c_VV dX7_writeProgram_72 (mm_writeInt (S := wrs S0 (progT P k ++ (if 0 < (progT P k).length then [44] else []) ++ decI (nI k) ++ [58])) (v := P k) hn (by omega) (W20 (progT P k ++ (if 0 < (progT P k).length then [44] else []) ++ decI (nI k) ++ [58]) h20 (by have := hA; (try simp only [List.length_append, List.length_cons, List.length_nil]); omega)) (by have := hA; (try simp only [List.length_append, List.length_cons, List.length_nil]); omega)) lk_X7_436 rfl (isO_MO _ _ _) rfl (ltS (by assumption)) ?_
      rw [wrs_app]
      refine wa_iinc (y := 1) dX7_writeProgram_75 rfl (by decide) rfl ?_
      refine wa_goto 21 dX7_writeProgram_78 rfl ?_
      first
      | (have e9 : progT P (k + 1) = progT P k := if_pos (Classical.byContradiction fun z => Int32.not_lt.mpr c33 ((hP.pos k).mpr z))
         rw [nI_1 k, ← e9]
         exact ih (k + 1) (by omega))
      | (rw [nI_1 k, show progT P k ++ (if 0 < (progT P k).length then [44] else []) ++ decI (nI k) ++ [58] ++ decI (P k) = progT P (k + 1) from (if_neg h0).symm]
         exact ih (k + 1) (by omega))
theorem mm_writeProgram_1 {n : Nat} {S : SS} {T : Int} (hn : 279 ≤ n) (hm : mr S = 268) (hV : VG T (S.1 268)) (r : Int32) (h1 : ¬ rk S r) : AM yX7_writeProgram cX7_writeProgram 3 (some .int) [] 4 0 0 [.ref 267, .int r] n (Hp S) (PI 0 n (th S 1)) := by
  intro has
  change WA RX7 cX7_writeProgram 3 [] _ _ 0 0 0 [some (.ref 267), some (.int r), none] [] n _
  have hVr : VG T (row S) := by rw [row_net hm]; exact hV
  refine wa_aload_n dX7_writeProgram_0 rfl ?_
  refine wa_aload_n dX7_writeProgram_1 rfl ?_
  refine wa_iload_n dX7_writeProgram_2 rfl ?_
  refine c_VI dX7_writeProgram_3 (mm_isRoom (by assumption) hVr r) lk_X7_347 rfl (isO_MO _ _ _) rfl (ltS (by assumption)) ?_
  refine c_VI dX7_writeProgram_6 (mm_passes1 (by assumption) (rk S r)) lk_X7_155 rfl (isO_MO _ _ _) rfl (ltS (by assumption)) ?_
  rw [b2i_0 (fun z => h1 z), if_neg h1]
  refine wa_if_ne 14 dX7_writeProgram_9 rfl (fun c9 => absurd rfl c9) (fun c9 => ?_)
  refine wa_iconst (x := 0) dX7_writeProgram_12 (by decide) ?_
  exact wa_ireturn dX7_writeProgram_13 ⟨Nat.le_refl _, Nat.le_refl _, ⟨_, rfl, rfl⟩, rfl, rfl, rfl⟩
theorem mm_writeProgram_0 {n : Nat} {S : SS} {T : Int} (hn : 279 ≤ n) (hm : mr S = 268) (hV : VG T (S.1 268)) {i : Nat} (hi : i < 6) (h1 : rk S (nI i)) : AM yX7_writeProgram cX7_writeProgram 3 (some .int) [] 4 0 0 [.ref 267, .int (nI i)] n (Hp S) (PI (nI (progT (pg (S.1 268) i) 48).length) n (wrs (ss (th S 0) 267 20 0) (progT (pg (S.1 268) i) 48))) := by
  intro has
  change WA RX7 cX7_writeProgram 3 [] _ _ 0 0 0 [some (.ref 267), some (.int (nI i)), none] [] n _
  have hVr : VG T (row S) := by rw [row_net hm]; exact hV
  have hRow : ∀ l, row (wrs (ss (th S 0) 267 20 0) l) = S.1 268 := fun l => by
    rw [wrs_row]
    show (if mr (th S 0) = 267 then _ else (th S 0).1 (mr (th S 0))) = _
    rw [show mr (th S 0) = 268 from hm]
    rfl
  have hW : ∀ l, VG T (row (wrs (ss (th S 0) 267 20 0) l)) := fun l => by rw [hRow]; exact hV
  refine wa_aload_n dX7_writeProgram_0 rfl ?_
  refine wa_aload_n dX7_writeProgram_1 rfl ?_
  refine wa_iload_n dX7_writeProgram_2 rfl ?_
  refine c_VI dX7_writeProgram_3 (mm_isRoom (by assumption) hVr (nI i)) lk_X7_347 rfl (isO_MO _ _ _) rfl (ltS (by assumption)) ?_
  refine c_VI dX7_writeProgram_6 (mm_passes1 (by assumption) (rk S (nI i))) lk_X7_155 rfl (isO_MO _ _ _) rfl (ltS (by assumption)) ?_
  rw [b2i_1 h1, if_pos h1]
  refine wa_if_ne 14 dX7_writeProgram_9 rfl (fun c9 => ?_) (fun c9 => absurd c9 (by decide))
  refine wa_aload_n dX7_writeProgram_14 rfl ?_
  refine wa_iconst (x := 0) dX7_writeProgram_15 (by decide) ?_
  refine p_MO (by assumption) 20 dX7_writeProgram_16 fl_X7_424 (by decide) rfl rfl rfl rfl (fun _ _ _ => rfl) (Nat.le_of_ble_eq_true rfl) ?_
  refine wa_iconst (x := 0) dX7_writeProgram_19 (by decide) ?_
  refine wa_istore_n dX7_writeProgram_20 rfl ?_
  exact lp_wprog (S0 := (ss (th S 0) 267 20 0)) (P := pg (S.1 268) i) (S.1 268) hn hi rfl hRow hV (hV.2.2.2.2 i) (fun k hk => pg_at hk) ⟨Nat.le_refl _, Nat.le_refl _, ⟨_, rfl, rfl⟩, rfl, rfl, rfl⟩ 48 0 (Nat.zero_add _)
