/-! ValveRoom: what would be, tried in a House of its own. Written by program (wip/whole/gen/m787.py) but for the heads. -/
theorem HH.wk {S : SS} {a : Nat} {g : Nat → Int32} {P P' : Nat → Prop} (h : HH S a g P) (hp : ∀ i, P' i → P i) : HH S a g P' := by
  refine ⟨h.1, h.2.1, h.2.2.1, fun i hi => ?_⟩
  obtain ⟨γ, h1, h2, h3⟩ := h.2.2.2 i hi
  exact ⟨γ, h1, h2, fun q => h3 (hp i q)⟩
/-- a House's cells unchanged -/
theorem HH.of {S S' : SS} {a : Nat} {g : Nat → Int32} {P : Nat → Prop} (h : HH S a g P) (e : ∀ k, a ≤ k → k < a + 23 → S'.1 k = S.1 k) : HH S' a g P := by
  refine h.hdr (fun k h1 h2 => e k (by omega) h2) (fun _ _ => rfl) rfl h.1.2.2 (fun j hj hj2 => ?_) (fun k hk => ?_)
  · rw [e a (by omega) (by omega)]
    exact h.2.1 j hj hj2
  · rw [e (a + 2) (by omega) (by omega), e (a + 3) (by omega) (by omega), e (a + 4) (by omega) (by omega)]
    exact h.2.2.1 k hk
theorem FRc.rf {a : Nat} {S : SS} : FRc a S S := ⟨rfl, fun _ _ => ⟨rfl, rfl⟩⟩
theorem FRc.tr {a : Nat} {S0 S1 S2 : SS} (h1 : FRc a S0 S1) (h2 : FRc a S1 S2) : FRc a S0 S2 := ⟨h2.1.trans h1.1, fun x hx => ⟨(h2.2 x hx).1.trans (h1.2 x hx).1, (h2.2 x hx).2.trans (h1.2 x hx).2⟩⟩
theorem FRh.c {a : Nat} {S0 S1 : SS} (h : FRh a S0 S1) : FRc a S0 S1 := ⟨by rw [h.1], fun x hx => ⟨h.2 x hx, by rw [h.1]⟩⟩
theorem GG_ticks {T : Int} {g : Nat → Int32} (h : GG T g) : ∀ k : Nat, T + k ≤ 200001 → GG (T + k) (ticksN g k)
  | 0, _ => by
    have e : T + ((0 : Nat) : Int) = T := by omega
    rw [e]
    exact h
  | k + 1, hk => by
    have h1 := (GG_tick (GG_ticks h k (by omega)) (by omega)).1
    have e : T + (k : Int) + 1 = T + ((k + 1 : Nat) : Int) := by omega
    rw [e] at h1
    exact h1
theorem GG_upd {T : Int} {g : Nat → Int32} {j : Nat} (x : Int32) (h : GG T g) (h0 : ¬ j = 0) (h1 : ¬ j = 1) (h3 : ¬ j = 3) (h11 : j < 11) (hH : GH (upd g j x)) : GG T (upd g j x) := by
  have ep : pn (upd g j x) = pn g := pn_cg (upd_o (fun z => h3 z.symm))
  have er : rn (upd g j x) = rn g := rn_cg (upd_o (fun z => h0 z.symm))
  refine ⟨upd_hdr x h.1 h0 h1 h3 h11, hH, fun k hk => ?_, fun k hk => ?_, fun i hi => ?_⟩
  · rw [er, upd_o (by omega), upd_o (by omega)]
    exact h.2.2.1 k (by rw [← ep]; exact hk)
  · rw [upd_o (by omega)]
    exact h.2.2.2.1 k (by rw [← ep]; exact hk)
  · exact (h.2.2.2.2 i (by rw [← er]; exact hi)).cg (fun w _ => upd_o (by omega))
theorem GH_2 {g : Nat → Int32} {x : Int32} (h : GH g) (hx : -300 ≤ x.toInt ∧ x.toInt ≤ 400) : GH (upd g 2 x) := by
  unfold GH
  rw [upd_e, upd_o (k := 4) (by decide), upd_o (k := 5) (by decide), upd_o (k := 6) (by decide), upd_o (k := 7) (by decide), upd_o (k := 8) (by decide), upd_o (k := 9) (by decide), upd_o (k := 10) (by decide)]
  exact ⟨hx, h.2⟩
theorem GH_7 {g : Nat → Int32} {x : Int32} (h : GH g) (hx : 0 ≤ x.toInt ∧ x.toInt ≤ 50) : GH (upd g 7 x) := by
  unfold GH
  rw [upd_e, upd_o (k := 2) (by decide), upd_o (k := 4) (by decide), upd_o (k := 5) (by decide), upd_o (k := 6) (by decide), upd_o (k := 8) (by decide), upd_o (k := 9) (by decide), upd_o (k := 10) (by decide)]
  exact ⟨h.1, h.2.1, h.2.2.1, h.2.2.2.1, hx, h.2.2.2.2.2⟩
theorem GH_8 {g : Nat → Int32} {x : Int32} (h : GH g) (hx : 1 ≤ x.toInt ∧ x.toInt ≤ 50) : GH (upd g 8 x) := by
  unfold GH
  rw [upd_e, upd_o (k := 2) (by decide), upd_o (k := 4) (by decide), upd_o (k := 5) (by decide), upd_o (k := 6) (by decide), upd_o (k := 7) (by decide), upd_o (k := 9) (by decide), upd_o (k := 10) (by decide)]
  exact ⟨h.1, h.2.1, h.2.2.1, h.2.2.2.1, h.2.2.2.2.1, hx, h.2.2.2.2.2.2⟩
theorem GH_9 {g : Nat → Int32} {x : Int32} (h : GH g) (hx : 1 ≤ x.toInt ∧ x.toInt ≤ 100) : GH (upd g 9 x) := by
  unfold GH
  rw [upd_e, upd_o (k := 2) (by decide), upd_o (k := 4) (by decide), upd_o (k := 5) (by decide), upd_o (k := 6) (by decide), upd_o (k := 7) (by decide), upd_o (k := 8) (by decide), upd_o (k := 10) (by decide)]
  exact ⟨h.1, h.2.1, h.2.2.1, h.2.2.2.1, h.2.2.2.2.1, h.2.2.2.2.2.1, hx, h.2.2.2.2.2.2.2⟩
theorem GG_room {T : Int} {g g' : Nat → Int32} (h : GG T g) (hk : kp g g') (hR : ∀ j, j < rn g → GR T T g' j) : GG T g' := by
  have ep : pn g' = pn g := pn_cg (hk.2 3 (by decide))
  have er : rn g' = rn g := rn_cg (hk.2 0 (by decide))
  have h20 := h.pn20
  refine ⟨VG_kp h.1 hk, h.2.1.kp hk, fun k q => ?_, fun k q => ?_, fun i hi => hR i (by rw [← er]; exact hi)⟩
  · rw [ep] at q
    rw [er, hk.2 _ (by omega), hk.2 _ (by omega)]
    exact h.2.2.1 k q
  · rw [ep] at q
    rw [hk.2 _ (by omega)]
    exact h.2.2.2.1 k q
/-- one number of one room -/
theorem GG_pt {T : Int} {g : Nat → Int32} {i w : Nat} (x : Int32) (h : GG T g) (hw : w < 18) (hR : i < rn g → GR T T (pt g i w x) i) : GG T (pt g i w x) := by
  refine GG_room h (kp_pt g i x hw) (fun j hj => ?_)
  by_cases e : j = i
  · subst e
    exact hR hj
  · exact GR_rst (pt_oth e g x (by omega)) (h.2.2.2.2 j hj)
