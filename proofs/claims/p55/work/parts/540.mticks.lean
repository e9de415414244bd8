/-! ValveRoomModel: many ticks; a plan more. Written by program (wip/whole/gen/m540.py) but for the heads. -/
theorem drop_pl {g : Nat → Int32} {m k w : Nat} (hw : w < 3) (hk : k < pn g - m) : f_drop 0 m g (11 + 3 * k + w) = g (11 + 3 * (k + m) + w) := by
  unfold f_drop
  rw [if_neg (by omega), if_pos (by omega)]
  congr 1
  omega
theorem VG_kp {T : Int} {g g' : Nat → Int32} (h : VG T g) (e : kp g g') : VG T g' := by
  have e1 := e.2 1 (by decide)
  have e0 := e.2 0 (by decide)
  have e3 := e.2 3 (by decide)
  have ep : pn g' = pn g := congrArg (fun x : Int32 => x.toInt.toNat) e3
  refine ⟨by rw [e1]; exact h.1, by rw [e0]; exact h.2.1, by rw [e3]; exact h.2.2.1, fun k hk => ?_, fun i => by rw [e.1]; exact h.2.2.2.2 i⟩
  rw [ep] at hk
  have := (VG_pn h).2
  rw [e.2 _ (by omega)]
  exact h.2.2.2.1 k hk
theorem i_subN {x : Int32} {m : Nat} (h0 : 0 ≤ x.toInt) (h : m ≤ x.toInt.toNat) : (x - nI m).toInt = x.toInt - m := by
  have e := (nI_of_nn h0).2
  have e2 := nI_toInt (n := m) (by omega)
  rw [i_sub (by omega) (by omega), e2]
theorem VG_drop {T : Int} {g : Nat → Int32} {m : Nat} (h : VG T g) (hm : m ≤ pn g) : VG T (f_drop 0 m g) := by
  have hp := (VG_pn h).2
  have e3 : (f_drop 0 m g 3).toInt = (g 3).toInt - m := i_subN h.2.2.1.1 hm
  have e1 : f_drop 0 m g 1 = g 1 := drop_lo (by decide) (by decide)
  have e0 : f_drop 0 m g 0 = g 0 := drop_lo (by decide) (by decide)
  have ep : pn (f_drop 0 m g) = pn g - m := by unfold pn; rw [e3]; have := h.2.2.1.1; omega
  refine ⟨by rw [e1]; exact h.1, by rw [e0]; exact h.2.1, ?_, fun k hk => ?_, fun i => by rw [drop_pg hp]; exact h.2.2.2.2 i⟩
  · rw [e3]
    have := h.2.2.1
    unfold pn at hm
    omega
  · rw [ep] at hk
    rw [drop_pl (by decide) hk]
    exact h.2.2.2.1 (k + m) (by omega)
theorem VG_due {T : Int} {g : Nat → Int32} (h : VG T g) : VG T (f_due g) := by
  have kc := kp_cars g (dueN g)
  refine VG_drop (VG_kp h kc) ?_
  have : pn (f_cars g (dueN g)) = pn g := congrArg (fun x : Int32 => x.toInt.toNat) (kc.2 3 (by decide))
  rw [this]
  exact dueN_le g
theorem VG_le {T T' : Int} {g : Nat → Int32} (h : VG T g) (hT : T ≤ T') : VG T' g := ⟨⟨h.1.1, Int.le_trans h.1.2 hT⟩, h.2⟩
def ticksN (g : Nat → Int32) : Nat → Nat → Int32
  | 0 => g
  | k + 1 => f_tick (ticksN g k)
def sumN (g : Nat → Int32) (w : Nat) : Nat → Int32
  | 0 => 0
  | k + 1 => sumN g w k + of g k w
