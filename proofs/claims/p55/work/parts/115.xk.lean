/-! The four exceptions that the class throws: what wa_throw wants of them; a handler that begins with astore_n. -/
theorem xk_ISE : ab_xk "ValveRoom" ab_xS 51 55 := ⟨by decide +kernel, by decide +kernel, by decide +kernel, by decide +kernel, by decide +kernel⟩
theorem xk_NSE : ab_xkX "ValveRoom" ab_xN 189 193 13 prog_34_method_4_code := ⟨by decide +kernel, by decide +kernel, by decide +kernel, by decide +kernel, by decide +kernel⟩
theorem nse_0 : decode prog_34_method_4_code 0 = .ok (.aload_n 0, 1) := by decide +kernel
theorem nse_1 : decode prog_34_method_4_code 1 = .ok (.aload_n 1, 1) := by decide +kernel
theorem nse_2 : decode prog_34_method_4_code 2 = .ok (.invokespecial 13, 3) := by decide +kernel
theorem nse_5 : decode prog_34_method_4_code 5 = .ok (.return_, 1) := by decide +kernel
theorem xk_IOB : ab_xk "ValveRoom" ab_xI 324 328 := ⟨by decide +kernel, by decide +kernel, by decide +kernel, by decide +kernel, by decide +kernel⟩
theorem xk_IAE : ab_xk "ValveRoom" ab_xA 333 337 := ⟨by decide +kernel, by decide +kernel, by decide +kernel, by decide +kernel, by decide +kernel⟩
section XK
variable {Xx : ab_X} {own : String} {cc : ByteArray} {nL : Nat} {hh : List (Nat × Nat × Nat × Nat)} {R : Room} {Q : ab_Q} {k z pc : Nat} {ls : List (Option Value)} {st : List Value} {n : Nat} {h : ab_H}
theorem wt_catch_n {E : String} {i : Fin 4} (pre : List (Nat × Nat × Nat × Nat)) (x : Nat × Nat × Nat × Nat) (suf : List (Nat × Nat × Nat × Nat)) (hsplit : hh = pre ++ x :: suf)
    (hpass : ∀ y ∈ pre, covers ⟨y.1, y.2.1, y.2.2.1, y.2.2.2⟩ pc = false ∨ (y.2.2.2 ≠ 0 ∧ ∃ nm : String, Cond.classLink own y.2.2.2 nm ∈ ab_big ∧ (E, nm) ∈ ab_nN))
    (hx : covers ⟨x.1, x.2.1, x.2.2.1, x.2.2.2⟩ pc = true) (h0 : x.2.2.2 ≠ 0) (hlink : Cond.classLink own x.2.2.2 E ∈ ab_big) (hcast : (E, E) ∈ ab_nC)
    (d : decode cc x.2.2.1 = .ok (.astore_n i, 1)) (hc : ab_c1 ls (i : Nat) = true) (hi : (i : Nat) < nL) (K : WX Xx own cc nL hh R Q k z (x.2.2.1 + 1) (ls.set (i : Nat) none) [] n h) : WTX Xx own cc nL hh R Q k z pc ls E n h := by
  intro p l e s m args below meth c base D T C0 α H L locs Fin st q ce hC hW hL hl hS hF hT hce hv hcl
  refine vx_catch (own := own) (name := E) (E := E) (ce := ce) C0.2.2.2.1 (tableOf pre) ⟨x.1, x.2.1, x.2.2.1, x.2.2.2⟩ (tableOf suf) (by rw [C0.2.2.2.2.2.2.2.1, hsplit]; simp [tableOf]) ?_ hx h0 (C0.2.2.2.2.1 _ hlink) (va_Nw.use rfl (hC.2.2.2.2.2.2.2.2.1 _ hcast)) hce hv hcl ?_
  · intro y hy
    obtain ⟨y0, hy0, rfl⟩ := List.mem_map.mp hy
    rcases hpass y0 hy0 with q | ⟨q, nm, q1, q2⟩
    · exact Or.inl q
    · exact Or.inr ⟨q, nm, C0.2.2.2.2.1 _ q1, hC.2.2.2.2.2.2.2.2.2.2.1 _ q2⟩
  · refine lv_astore_n (x := q) C0.1 C0.2.1 d rfl hL.1 hi rfl (fun L' h' => ?_)
    exact K p l e s m args below meth c base D T C0 α H L' locs Fin hC hW (ab_LR.stN hL.2 hc h') (fun v hv => absurd hv List.not_mem_nil) (fun u hu => hl u (ab_mnone hu)) hS hF hT
end XK
