/-! Null stored into a local. -/
section NL
variable {own : String} {cc : ByteArray} {nL : Nat} {hh : List (Nat × Nat × Nat × Nat)} {R : Room} {Q : ab_Q} {k z pc : Nat} {ls : List (Option Value)} {st : List Value} {n : Nat} {h : ab_H}
theorem wa_astore_nN {i : Fin 4} (d : decode cc pc = .ok (.astore_n i, 1)) (hc : ab_c1 ls (i : Nat) = true) (K : WA own cc nL hh R Q k z (pc + 1) (ls.set (i : Nat) (some .null)) st n h) (hi : (i : Nat) < nL := by exact Nat.le_of_ble_eq_true rfl) : WA own cc nL hh R Q k z pc ls (.null :: st) n h :=
  wa_st (i := (i : Nat)) (v := .null) (fun u hu => ab_mset hu) (fun α hx hb hL kk => lv_astore_nN hx hb d rfl hL.1 hi rfl (fun L' h' => kk L' (ab_LR.st1 (v := .null) hL.2 hc h'))) K
theorem wa_astoreN {i : Nat} (d : decode cc pc = .ok (.astore i, 2)) (hc : ab_c1 ls i = true) (K : WA own cc nL hh R Q k z (pc + 2) (ls.set i (some .null)) st n h) (hi : i < nL := by exact Nat.le_of_ble_eq_true rfl) : WA own cc nL hh R Q k z pc ls (.null :: st) n h :=
  wa_st (i := i) (v := .null) (fun u hu => ab_mset hu) (fun α hx hb hL kk => lv_astoreN hx hb d hL.1 hi rfl (fun L' h' => kk L' (ab_LR.st1 (v := .null) hL.2 hc h'))) K
theorem wa_aloadN {i : Nat} (d : decode cc pc = .ok (.aload i, 2)) (hl : ls[i]? = some (some .null)) (K : WA own cc nL hh R Q k z (pc + 2) ls (.null :: st) n h) : WA own cc nL hh R Q k z pc ls st n h :=
  wa_go (fun α hx hb hL => lv_aloadN hx hb d (hL.at hl)) (fun h _ => ab_ws1 ab_wn h) K
end NL
