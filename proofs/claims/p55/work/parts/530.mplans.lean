/-! ValveRoomModel: plans and a tick. Written by program (wip/whole/gen/m530.py) but for the heads. -/
/-- the numbers of plans and of rooms -/
def pn (g : Nat → Int32) : Nat := (g 3).toInt.toNat
def rn (g : Nat → Int32) : Nat := (g 0).toInt.toNat
def f_carry (i : Nat) (k : Int32) (g : Nat → Int32) : Nat → Int32 := ad (if k = 0 ∨ k = 1 then pt g i 5 (if k = 0 then 1 else 0) else pt g i 6 (if k = 2 then 1 else 0)) i 15 1
def f_drop (a m : Nat) (g : Nat → Int32) : Nat → Int32 := fun j => if j = 3 then g 3 - nI m else if 11 + 3 * a ≤ j ∧ j < 11 + 3 * (pn g - m) then g (j + 3 * m) else g j
/-- the room of plan k -/
def pr (g : Nat → Int32) (k : Nat) : Nat := (g (11 + 3 * k + 1)).toInt.toNat
def f_cars (g : Nat → Int32) : Nat → Nat → Int32
  | 0 => g
  | k + 1 => f_carry (pr g k) (g (11 + 3 * k + 2)) (f_cars g k)
def du (g : Nat → Int32) : Nat → Nat → Nat
  | 0, k => k
  | r + 1, k => if g (11 + 3 * k) = g 1 then du g r (k + 1) else k
def dueN (g : Nat → Int32) : Nat := du g (pn g) 0
def goOns (g : Nat → Int32) : Nat → Nat → Int32
  | 0 => g
  | k + 1 => f_goOn k (goOns g k)
def f_time (g : Nat → Int32) : Nat → Int32 := upd g 1 (g 1 + 1)
def f_due (g : Nat → Int32) : Nat → Int32 := f_drop 0 (dueN g) (f_cars g (dueN g))
def f_tick (g : Nat → Int32) : Nat → Int32 := goOns (f_due (f_time g)) (rn g)
/-- a house's numbers are in their ranges -/
def VG (T : Int) (g : Nat → Int32) : Prop := (0 ≤ (g 1).toInt ∧ (g 1).toInt ≤ T) ∧ (0 ≤ (g 0).toInt ∧ (g 0).toInt ≤ 6) ∧ (0 ≤ (g 3).toInt ∧ (g 3).toInt ≤ 20) ∧ (∀ k, k < pn g → 0 ≤ (g (11 + 3 * k + 1)).toInt ∧ (g (11 + 3 * k + 1)).toInt < 6) ∧ ∀ i, PT (pg g i)
theorem VG_rn {T : Int} {g : Nat → Int32} (h : VG T g) : g 0 = nI (rn g) ∧ rn g ≤ 6 := ⟨(nI_of_nn h.2.1.1).1, by unfold rn; have := h.2.1; omega⟩
theorem VG_pn {T : Int} {g : Nat → Int32} (h : VG T g) : g 3 = nI (pn g) ∧ pn g ≤ 20 := ⟨(nI_of_nn h.2.2.1.1).1, by unfold pn; have := h.2.2.1; omega⟩
theorem kp_carry (g : Nat → Int32) (i : Nat) (k : Int32) : kp g (f_carry i k g) := by
  unfold f_carry
  refine kp.tr (b := if k = 0 ∨ k = 1 then pt g i 5 (if k = 0 then 1 else 0) else pt g i 6 (if k = 2 then 1 else 0)) ?_ (kp_ad _ i _ (by decide))
  split
  · exact kp_pt g i _ (by decide)
  · exact kp_pt g i _ (by decide)
theorem kp_cars (g : Nat → Int32) : ∀ k, kp g (f_cars g k)
  | 0 => kp.rf
  | k + 1 => (kp_cars g k).tr (kp_carry _ _ _)
theorem kp_goOns (g : Nat → Int32) : ∀ k, kp g (goOns g k)
  | 0 => kp.rf
  | k + 1 => (kp_goOns g k).tr (kp_goOn _ _)
theorem du_le (g : Nat → Int32) : ∀ r k, k ≤ du g r k ∧ du g r k ≤ k + r
  | 0, k => ⟨Nat.le_refl _, Nat.le_refl _⟩
  | r + 1, k => by
    have h := du_le g r (k + 1)
    show k ≤ (if g (11 + 3 * k) = g 1 then du g r (k + 1) else k) ∧ (if g (11 + 3 * k) = g 1 then du g r (k + 1) else k) ≤ k + (r + 1)
    split <;> omega
theorem dueN_le (g : Nat → Int32) : dueN g ≤ pn g := by have := (du_le g (pn g) 0).2; unfold dueN; omega
theorem pg_time (g : Nat → Int32) (i : Nat) : pg (f_time g) i = pg g i := by
  funext t
  unfold pg of
  split
  · exact if_neg (by omega)
  · rfl
theorem i_add1 {x : Int32} (h1 : 0 ≤ x.toInt) (h2 : x.toInt < 2147483647) : (x + 1).toInt = x.toInt + 1 := by
  have e : (1 : Int32).toInt = 1 := by decide
  rw [i_add (by omega) (by omega), e]
theorem VG_time {T : Int} {g : Nat → Int32} (hV : VG T g) (hT : T < 2147483647) : VG (T + 1) (f_time g) := by
  have h1 := hV.1
  have e1 : (g 1 + 1).toInt = (g 1).toInt + 1 := i_add1 h1.1 (by omega)
  refine ⟨?_, hV.2.1, hV.2.2.1, fun k hk => ?_, fun i => (pg_time g i).symm ▸ hV.2.2.2.2 i⟩
  · show 0 ≤ (g 1 + 1).toInt ∧ (g 1 + 1).toInt ≤ T + 1
    omega
  · have e : f_time g (11 + 3 * k + 1) = g (11 + 3 * k + 1) := if_neg (by omega)
    rw [e]; exact hV.2.2.2.1 k hk
theorem drop_hi {g : Nat → Int32} {a m j : Nat} (hp : pn g ≤ 20) (hj : 71 ≤ j) : f_drop a m g j = g j := by
  unfold f_drop
  rw [if_neg (by omega), if_neg (by omega)]
theorem drop_lo {g : Nat → Int32} {a m j : Nat} (hj : j < 11) (h3 : ¬ j = 3) : f_drop a m g j = g j := by
  unfold f_drop
  rw [if_neg h3, if_neg (by omega)]
theorem drop_pg {g : Nat → Int32} {a m : Nat} (hp : pn g ≤ 20) (i : Nat) : pg (f_drop a m g) i = pg g i := by
  funext t
  unfold pg of
  split
  · exact drop_hi hp (by omega)
  · rfl
