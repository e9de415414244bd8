/-! ValveRoomModel: targets, driving. Written by program (wip/whole/gen/m510.py) but for the heads. -/
abbrev row (S : SS) : Nat → Int32 := S.1 (mr S)
def of (g : Nat → Int32) (i w : Nat) : Int32 := g (71 + 66 * i + w)
def pt (g : Nat → Int32) (i w : Nat) (x : Int32) : Nat → Int32 := upd g (71 + 66 * i + w) x
def ad (g : Nat → Int32) (i w : Nat) (x : Int32) : Nat → Int32 := upd g (71 + 66 * i + w) (of g i w + x)
theorem of_pt (g : Nat → Int32) {i w i' w' : Nat} (x : Int32) (hw : w < 66) (hw' : w' < 66) : of (pt g i w x) i' w' = if i' = i ∧ w' = w then x else of g i' w' := by
  unfold of pt upd
  by_cases h : i' = i ∧ w' = w
  · rw [if_pos (by omega), if_pos h]
  · rw [if_neg (by omega), if_neg h]
theorem of_ad (g : Nat → Int32) {i w i' w' : Nat} (x : Int32) (hw : w < 66) (hw' : w' < 66) : of (ad g i w x) i' w' = if i' = i ∧ w' = w then of g i w + x else of g i' w' := of_pt g (of g i w + x) hw hw'
theorem pt_lo (g : Nat → Int32) {i w k : Nat} (x : Int32) (hk : k < 71) : pt g i w x k = g k := if_neg (by omega)
/-- the program of room i; what it tells; its target; is it within the band; what is wanted of the valve -/
def pg (g : Nat → Int32) (i : Nat) : Nat → Int32 := fun t => if t < 48 then of g i (18 + t) else 0
def tod (g : Nat → Int32) : Nat := (g 1).toInt.toNat % 48
def tgt (g : Nat → Int32) (i : Nat) : Int32 := if 0 < of g i 9 then of g i 8 else told (pg g i) (tod g) - (if of g i 6 = 1 then 0 else g 6)
def mis (g : Nat → Int32) (i : Nat) : Int32 := tgt g i - of g i 0
def drs (g : Nat → Int32) (i : Nat) (to most : Int32) : Int32 := i_min (i_min (i_abs (to - of g i 1)) most) (of g i 2)
def f_drive (i : Nat) (to most : Int32) (g : Nat → Int32) : Nat → Int32 := ad (ad (ad g i 1 (if to < of g i 1 then -drs g i to most else drs g i to most)) i 2 (-drs g i to most)) i 12 (drs g i to most)
theorem nI_div {a b : Nat} (ha : a < 2 ^ 31) (hb : b < 2 ^ 31) (h0 : 0 < b) : nI a / nI b = nI (a / b) := by
  apply Int32.toInt_inj.mp
  have h1 := Nat.div_le_self a b
  rw [Int32.toInt_div, nI_toInt ha, nI_toInt hb, nI_toInt (by omega), Int.tdiv_eq_ediv_of_nonneg (by omega), ← Int.natCast_ediv]
  generalize a / b = q at h1 ⊢
  exact Int.bmod_eq_of_le (by omega) (by omega)
theorem nI_mul (a b : Nat) : nI a * nI b = nI (a * b) := (Int32.ofNat_mul a b).symm
theorem nI_sub {a b : Nat} (h : b ≤ a) : nI a - nI b = nI (a - b) := by
  have := nI_add (a - b) b
  rw [Nat.sub_add_cancel h] at this
  rw [← this, Int32.add_sub_cancel]
theorem nI_rem {a b : Nat} (ha : a < 2 ^ 31) (hb : b < 2 ^ 31) (h0 : 0 < b) : nI a - nI a / nI b * nI b = nI (a % b) := by
  rw [nI_div ha hb h0, nI_mul, nI_sub (Nat.div_mul_le_self a b)]
  congr 1
  have := Nat.div_add_mod a b
  rw [Nat.mul_comm] at this
  omega
theorem nI_of_nn {x : Int32} (h : 0 ≤ x.toInt) : x = nI x.toInt.toNat ∧ x.toInt.toNat < 2 ^ 31 := by
  have h2 := Int32.toInt_lt x
  refine ⟨Int32.toInt_inj.mp ?_, by omega⟩
  rw [nI_toInt (by omega)]
  omega
theorem rem48 {x : Int32} (h : 0 ≤ x.toInt) : x - x / 48 * 48 = nI (x.toInt.toNat % 48) := by
  obtain ⟨h1, h2⟩ := nI_of_nn h
  have := nI_rem (a := x.toInt.toNat) (b := 48) h2 (by decide) (by decide)
  rw [← h1] at this
  exact this
