/-! ValveRoomModel: write, writeIf, writeInt, writeName. Written by program (wip/whole/gen/m602.py) but for the heads. -/
/-- digits by base B: how many more than one; from the j-th down, o more -/
def dkf (B : Nat) : Nat → Nat → Nat
  | 0, _ => 0
  | f + 1, a => if a < B then 0 else dkf B f (a / B) + 1
def dk (B a : Nat) : Nat := dkf B a a
theorem dkf_ok {B : Nat} (hB : 2 ≤ B) : ∀ f a, a ≤ f → (B ^ dkf B f a ≤ a ∨ dkf B f a = 0) ∧ a < B ^ (dkf B f a + 1) := by
  intro f
  induction f with
  | zero =>
    intro a ha
    refine ⟨Or.inr rfl, ?_⟩
    show a < B ^ 1
    rw [Nat.pow_one]; omega
  | succ f ih =>
    intro a ha
    by_cases h : a < B
    · have e : dkf B (f + 1) a = 0 := if_pos h
      rw [e]
      refine ⟨Or.inr rfl, ?_⟩
      rw [Nat.zero_add, Nat.pow_one]; exact h
    · have e : dkf B (f + 1) a = dkf B f (a / B) + 1 := if_neg h
      have hlt : a / B < a := Nat.div_lt_self (by omega) (by omega)
      obtain ⟨h1, h2⟩ := ih (a / B) (by omega)
      rw [e]
      refine ⟨Or.inl ?_, ?_⟩
      · rcases h1 with h1 | h1
        · rw [Nat.pow_succ]
          exact (Nat.le_div_iff_mul_le (by omega)).mp h1
        · rw [h1, Nat.zero_add, Nat.pow_one]; omega
      · rw [Nat.pow_succ]
        exact (Nat.div_lt_iff_lt_mul (by omega)).mp h2
theorem dk_ok {B : Nat} (hB : 2 ≤ B) (a : Nat) : (B ^ dk B a ≤ a ∨ dk B a = 0) ∧ a < B ^ (dk B a + 1) := dkf_ok hB a a (Nat.le_refl _)
theorem dk_lt {B a k : Nat} (hB : 2 ≤ B) (h : k < dk B a) : B ^ (k + 1) ≤ a := by
  rcases (dk_ok hB a).1 with h1 | h1
  · exact Nat.le_trans (Nat.pow_le_pow_right (by omega) h) h1
  · omega
def dd (B o a : Nat) : Nat → List Int32
  | 0 => []
  | j + 1 => nI (o + a / B ^ j % B) :: dd B o a j
theorem dd_len (B o a : Nat) : ∀ j, (dd B o a j).length = j
  | 0 => rfl
  | j + 1 => congrArg (· + 1) (dd_len B o a j)
def decN (a : Nat) : List Int32 := dd 10 48 a (dk 10 a + 1)
def decI (v : Int32) : List Int32 := (if v < 0 then [45] else []) ++ decN v.toInt.natAbs
theorem dk_le {B a m : Nat} (hB : 2 ≤ B) (h : a < B ^ (m + 1)) : dk B a ≤ m := by
  rcases Nat.lt_or_ge m (dk B a) with q | q
  · have := dk_lt hB q; omega
  · exact q
/-- bytes written -/
def bt (x : Int32) : Int32 := vp_nar .byte x.toInt8.toInt32
theorem iabs_nI {v : Int32} (h : -2147483648 < v.toInt) : i_abs v = nI v.toInt.natAbs := by
  have h2 := v.toInt_lt
  unfold i_abs
  by_cases h0 : 0 ≤ v
  · rw [if_pos h0]
    rw [Int32.le_iff_toInt_le, Int32.toInt_zero] at h0
    apply Int32.toInt_inj.mp
    rw [nI_toInt (by omega)]
    omega
  · rw [if_neg h0]
    rw [Int32.le_iff_toInt_le, Int32.toInt_zero] at h0
    apply Int32.toInt_inj.mp
    rw [nI_toInt (by omega), Int32.toInt_neg]
    rw [Int.bmod_eq_of_le (by omega) (by omega)]
    omega
