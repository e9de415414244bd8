/-! Null stored into a local. -/
section NL
variable {own : String} {cc : ByteArray} {nL : Nat} {hh : List (Nat × Nat × Nat × Nat)} {R : Room} {Q : ab_Q} {k z pc : Nat} {ls : List (Option Value)} {st : List Value} {n : Nat} {h : ab_H}
theorem wa_astore_nN {i : Fin 4} (d : decode cc pc = .ok (.astore_n i, 1)) (hc : ab_c1 ls (i : Nat) = true) (K : WA own cc nL hh R Q k z (pc + 1) (ls.set (i : Nat) (some .null)) st n h) (hi : (i : Nat) < nL := by exact Nat.le_of_ble_eq_true rfl) : WA own cc nL hh R Q k z pc ls (.null :: st) n h :=
  wa_st (i := (i : Nat)) (v := .null) (fun u hu => ab_mset hu) (fun α hx hb hL kk => lv_astore_nN hx hb d rfl hL.1 hi rfl (fun L' h' => kk L' (ab_LR.st1 (v := .null) hL.2 hc h'))) K
end NL
