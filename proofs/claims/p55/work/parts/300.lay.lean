/-! THE LAYOUT: where everything lies behind the constructors; the state of all as numbers; the world that it stands for. -/
/-- past's Houses; whether the reference's row is its draft; the keywords of the tokens; StringBuilder's bytes; cells made later; out[0]; outD[0] -/
abbrev SR : Type := (Nat → Nat) × Bool × (Nat → Option Nat) × Nat × (Nat → va_E) × Int64 × UInt64
/-- the numbers of each cell; the names of the rooms; the rest -/
abbrev SS : Type := (Nat → Nat → Int32) × (Nat → Nat) × SR
abbrev ly_L : Type := (Nat → Int32) → Nat → SR → List Value
def ly_VR : ly_L := fun f _ _ => [.ref 1, .int (f 1), .int (f 2), .ref 32, .ref 34, .ref 57, .ref 80, .int (f 7), .ref 81, .ref 82]
def ly_PA : ly_L := fun f _ _ => [.ref 2, .int (f 1), .ref 3, .int (f 3), .int (f 4), .ref 26, .int (f 6), .int (f 7), .int (f 8)]
def ly_HO (b : Nat) : ly_L := fun f _ _ => [.int (f 0), .int (f 1), .int (f 2), .int (f 3), .int (f 4), .int (f 5), .int (f 6), .int (f 7), .int (f 8), .int (f 9), .ref (b + 1), .int (f 11), .ref (b + 2), .ref (b + 3), .ref (b + 4)]
def ly_RO (a : Nat) : ly_L := fun f w _ => [.ref w, .int (f 1), .int (f 2), .int (f 3), .int (f 4), .int (f 5), .int (f 6), .int (f 7), .int (f 8), .int (f 9), .int (f 10), .int (f 11), .ref (a + 1), .ref (a + 2), .int (f 14)]
def ly_TO : ly_L := fun f _ _ => [.int (f 0), .ref 27, .ref 28, .ref 29, .ref 30, .ref 31]
def ly_SB : ly_L := fun f _ R => [.ref R.2.2.2.1, .int 0, .int (f 2), .int (f 3)]
def ly_ia (t len : Nat) (f : Nat → Int32) : va_E := .inl (t, len, .inl f)
def ly_qa (t len : Nat) (f : Nat → Option Nat) : va_E := .inl (t, len, .inr (.inr (.inr (.inr f))))
def ly_h (b o : Nat) (f : Nat → Int32) (w : Nat) (R : SR) : va_E :=
  if o = 0 then .inr (2, ly_HO b f w R) else if o = 1 then ly_qa 7 6 (fun i => if i < 6 then some (b + 5 + 3 * i) else none) else if o < 5 then ly_ia 0 20 f
  else if (o - 5) % 3 = 0 then .inr (3, ly_RO (b + o) f w R) else if (o - 5) % 3 = 1 then ly_ia 0 6 f else ly_ia 0 48 f
def ly_mk (k : Nat) (f : Nat → Int32) (w : Nat) (R : SR) : va_E :=
  if k < 3 then (if k = 0 then .inr (0, ly_VR f w R) else if k = 1 then .inr (1, ly_PA f w R) else ly_ia 1 500 f)
  else if k < 26 then ly_h 3 (k - 3) f w R
  else if k < 34 then (if k = 26 then .inr (4, ly_TO f w R) else if k < 31 then ly_ia 0 501 f else if k = 31 then ly_qa 8 501 (fun i => (R.2.2.1 i).map (fun j => ab_CB + (112 + j))) else if k = 32 then .inr (7, [.ref 33, .int 0, .int 0, .int 0]) else R.2.2.2.2.1 k)
  else if k < 80 then (if k < 57 then ly_h 34 (k - 34) f w R else ly_h 57 (k - 57) f w R)
  else if k < 83 then (if k = 80 then ly_qa 6 6 (fun i => if i < 6 then some (R.1 i) else none) else if k = 81 then ly_qa 6 2 (fun i => if i < 2 then some (221 + 23 * i) else none) else ly_ia 2 2 f)
  else if k < 267 then ly_h (83 + 23 * ((k - 83) / 23)) ((k - 83) % 23) f w R
  else if k < 269 then (if k = 267 then .inr (7, ly_SB f w R) else R.2.2.2.2.1 k)
  else if k < ab_CB then R.2.2.2.2.1 k else ab_kc (k - ab_CB)
def Hp (S : SS) : ab_H := fun k => ly_mk k (S.1 k) (S.2.1 k) S.2.2
def isO (a c : Nat) (L : ly_L) : Prop := ∀ f w R, ly_mk a f w R = .inr (c, L f w R)
def isA (a t len : Nat) : Prop := ∀ f w R, ly_mk a f w R = ly_ia t len f
/-- a House's place -/
def isH (b : Nat) : Prop := b = 3 ∨ b = 34 ∨ b = 57 ∨ ∃ j, j < 8 ∧ b = 83 + 23 * j
def isR (r : Nat) : Prop := ∃ b i, isH b ∧ i < 6 ∧ r = b + 5 + 3 * i
theorem ly_at {b : Nat} (h : isH b) {o : Nat} (ho : o < 23) : ∀ f w R, ly_mk (b + o) f w R = ly_h b o f w R := by
  intro f w R
  rcases h with rfl | rfl | rfl | ⟨j, hj, rfl⟩
  · unfold ly_mk
    rw [if_neg (by omega), if_pos (by omega), show 3 + o - 3 = o by omega]
  · unfold ly_mk
    rw [if_neg (by omega), if_neg (by omega), if_neg (by omega), if_pos (by omega), if_pos (by omega), show 34 + o - 34 = o by omega]
  · unfold ly_mk
    rw [if_neg (by omega), if_neg (by omega), if_neg (by omega), if_pos (by omega), if_neg (by omega), show 57 + o - 57 = o by omega]
  · unfold ly_mk
    rw [if_neg (by omega), if_neg (by omega), if_neg (by omega), if_neg (by omega), if_neg (by omega), if_pos (by omega), show (83 + 23 * j + o - 83) / 23 = j by omega, show (83 + 23 * j + o - 83) % 23 = o by omega]
theorem isH.HO {b : Nat} (h : isH b) : isO b 2 (ly_HO b) := fun f w R => by
  have := ly_at h (o := 0) (by omega) f w R
  rw [Nat.add_zero] at this
  rw [this]; rfl
theorem isH.pl {b : Nat} (h : isH b) {o : Nat} (h1 : 2 ≤ o) (h2 : o < 5) : isA (b + o) 0 20 := fun f w R => by
  rw [ly_at h (by omega)]
  unfold ly_h
  rw [if_neg (by omega), if_neg (by omega), if_pos h2]
theorem isH.rooms {b : Nat} (h : isH b) (f : Nat → Int32) (w : Nat) (R : SR) : ly_mk (b + 1) f w R = ly_qa 7 6 (fun i => if i < 6 then some (b + 5 + 3 * i) else none) := by
  rw [ly_at h (by omega)]; rfl
theorem isR.RO {r : Nat} (h : isR r) : isO r 3 (ly_RO r) := fun f w R => by
  obtain ⟨b, i, hb, hi, rfl⟩ := h
  have := ly_at hb (o := 5 + 3 * i) (by omega) f w R
  rw [show b + (5 + 3 * i) = b + 5 + 3 * i by omega] at this
  rw [this]
  unfold ly_h
  rw [if_neg (by omega), if_neg (by omega), if_neg (by omega), if_pos (by omega), show b + (5 + 3 * i) = b + 5 + 3 * i by omega]
theorem isR.cnt {r : Nat} (h : isR r) : isA (r + 1) 0 6 := fun f w R => by
  obtain ⟨b, i, hb, hi, rfl⟩ := h
  have := ly_at hb (o := 6 + 3 * i) (by omega) f w R
  rw [show b + (6 + 3 * i) = b + 5 + 3 * i + 1 by omega] at this
  rw [this]
  unfold ly_h
  rw [if_neg (by omega), if_neg (by omega), if_neg (by omega), if_neg (by omega), if_pos (by omega)]
theorem isR.prg {r : Nat} (h : isR r) : isA (r + 2) 0 48 := fun f w R => by
  obtain ⟨b, i, hb, hi, rfl⟩ := h
  have := ly_at hb (o := 7 + 3 * i) (by omega) f w R
  rw [show b + (7 + 3 * i) = b + 5 + 3 * i + 2 by omega] at this
  rw [this]
  unfold ly_h
  rw [if_neg (by omega), if_neg (by omega), if_neg (by omega), if_neg (by omega), if_neg (by omega)]
theorem isH.lt {b : Nat} (h : isH b) : b + 23 ≤ 267 := by
  rcases h with rfl | rfl | rfl | ⟨j, hj, rfl⟩ <;> omega
theorem isR.lt {r : Nat} (h : isR r) : r + 3 ≤ 267 := by
  obtain ⟨b, i, hb, hi, rfl⟩ := h
  have := hb.lt
  omega
theorem isH.R {b i : Nat} (h : isH b) (hi : i < 6) : isR (b + 5 + 3 * i) := ⟨b, i, h, hi, rfl⟩
theorem isO_VR : isO 0 0 ly_VR := fun _ _ _ => rfl
theorem isO_PA : isO 1 1 ly_PA := fun _ _ _ => rfl
theorem isA_text : isA 2 1 500 := fun _ _ _ => rfl
theorem isO_TO : isO 26 4 ly_TO := fun _ _ _ => rfl
theorem isA_kinds : isA 27 0 501 := fun _ _ _ => rfl
theorem isA_starts : isA 28 0 501 := fun _ _ _ => rfl
theorem isA_lengths : isA 29 0 501 := fun _ _ _ => rfl
theorem isA_values : isA 30 0 501 := fun _ _ _ => rfl
theorem isO_SB : isO 267 7 ly_SB := fun _ _ _ => rfl
theorem isA_isKept : isA 82 2 2 := fun _ _ _ => rfl
theorem isH_draft : isH 3 := Or.inl rfl
theorem isH_house : isH 34 := Or.inr (Or.inl rfl)
theorem isH_trial : isH 57 := Or.inr (Or.inr (Or.inl rfl))
/-- a row of numbers written; one number written -/
def su (S : SS) (a : Nat) (f : Nat → Int32) : SS := (fun k => if k = a then f else S.1 k, S.2)
def ss (S : SS) (a j : Nat) (x : Int32) : SS := su S a (upd (S.1 a) j x)
theorem ss_1 (S : SS) (a j : Nat) (x : Int32) (a' j' : Nat) : (ss S a j x).1 a' j' = if a' = a ∧ j' = j then x else S.1 a' j' := by
  unfold ss su upd
  by_cases h1 : a' = a
  · subst h1
    by_cases h2 : j' = j
    · simp [h2]
    · simp [h2]
  · simp [h1]
theorem ss_2 (S : SS) (a j : Nat) (x : Int32) : (ss S a j x).2 = S.2 := rfl
theorem su_2 (S : SS) (a : Nat) (f : Nat → Int32) : (su S a f).2 = S.2 := rfl
theorem hp_su {S : SS} {a : Nat} {f : Nat → Int32} {e : va_E} (h : ly_mk a f (S.2.1 a) S.2.2 = e) : ab_up (Hp S) a e = Hp (su S a f) := by
  funext k
  unfold ab_up Hp su
  by_cases hk : k = a
  · subst hk
    simp [h]
  · simp [hk]
def sw (S : SS) (a w : Nat) : SS := (S.1, fun k => if k = a then w else S.2.1 k, S.2.2)
theorem hp_sw {S : SS} {a w : Nat} {e : va_E} (h : ly_mk a (S.1 a) w S.2.2 = e) : ab_up (Hp S) a e = Hp (sw S a w) := by
  funext k
  unfold ab_up Hp sw
  by_cases hk : k = a
  · subst hk
    simp [h]
  · simp [hk]
def ab_clsok (c : Nat) (C : String) (T0 : u_T) (N : Nat) (ty0 : Nat → FieldType) : Prop := ab_cl[c]? = some (C, T0, N) ∧ (∀ w ∈ u_ws C T0 N, w ∈ ab_big) ∧ (∀ k, k < N → parseFieldDescriptor (T0 k).2.2.1 = some (ty0 k)) ∧ (∀ a, a < N → ∀ b, b < N → a ≠ b → (T0 a).2.1 ≠ (T0 b).2.1)
theorem cl_VR : ab_clsok 0 RX6 TX6 10 tyX6 := ⟨rfl, inB_X6, tyX6_ok, nmX6⟩
theorem cl_PA : ab_clsok 1 RX3 TX3 9 tyX3 := ⟨rfl, inB_X3, tyX3_ok, nmX3⟩
theorem cl_HO : ab_clsok 2 RX1 TX1 15 tyX1 := ⟨rfl, inB_X1, tyX1_ok, nmX1⟩
theorem cl_RO : ab_clsok 3 RX4 TX4 15 tyX4 := ⟨rfl, inB_X4, tyX4_ok, nmX4⟩
theorem cl_TO : ab_clsok 4 RX5 TX5 6 tyX5 := ⟨rfl, inB_X5, tyX5_ok, nmX5⟩
theorem cl_ST : ab_clsok 6 RJ0 TJ0 4 tyJ0 := ⟨rfl, inB_J0, tyJ0_ok, nmJ0⟩
theorem cl_SB : ab_clsok 7 RJ4 TJ4 4 tyJ4 := ⟨rfl, inB_J4, tyJ4_ok, nmJ4⟩
section SL
variable {Xx : ab_X} {own : String} {cc : ByteArray} {nL : Nat} {hh : List (Nat × Nat × Nat × Nat)} {R : Room} {Q : ab_Q} {k z pc : Nat} {ls : List (Option Value)} {st : List Value} {n : Nat} {S : SS}
theorem s_getf {a c N index : Nat} {C : String} {T0 : u_T} {ty0 : Nat → FieldType} {L : ly_L} {v : Value} (hcl : ab_clsok c C T0 N ty0) (ho : isO a c L) (kf : Nat) (d : decode cc pc = .ok (.getfield index, 3)) (fl : Cond.fieldLink own index (T0 kf).1 (T0 kf).2.1 (T0 kf).2.2.1 ∈ ab_big) (ha : a < n) (hk : kf < N) (hv : (L (S.1 a) (S.2.1 a) S.2.2)[kf]? = some v)
    (K : WX Xx own cc nL hh R Q k z (pc + 3) ls (v :: st) n (Hp S)) : WX Xx own cc nL hh R Q k z pc ls (.ref a :: st) n (Hp S) :=
  wa_getf kf d fl hcl.1 hcl.2.1 hk (Or.inl ha) (ho _ _ _) hv K
theorem s_puti {a c N index : Nat} {C : String} {T0 : u_T} {ty0 : Nat → FieldType} {L : ly_L} {x : Int32} (hcl : ab_clsok c C T0 N ty0) (ho : isO a c L) (kf : Nat) (d : decode cc pc = .ok (.putfield index, 3)) (fl : Cond.fieldLink own index (T0 kf).1 (T0 kf).2.1 (T0 kf).2.2.1 ∈ ab_big) (ha : a < n) (hk : kf < N) (hfin : (T0 kf).2.2.2 = false)
    {ty : FieldType} (hd : parseFieldDescriptor (T0 kf).2.2.1 = some ty) (hn : narrow ty (.int x) = .int x) (hfit : fits ty (.int x) = true) (hset : ∀ f w Rr, (L f w Rr).set kf (.int x) = L (upd f kf x) w Rr) (hlen : kf < (L (S.1 a) (S.2.1 a) S.2.2).length)
    (K : WX Xx own cc nL hh R Q k z (pc + 3) ls st n (Hp (ss S a kf x))) : WX Xx own cc nL hh R Q k z pc ls (.int x :: .ref a :: st) n (Hp S) := by
  refine wa_putf kf ty0 d fl hcl.1 hcl.2.1 hcl.2.2.1 hcl.2.2.2 hk hfin hd (fun _ => hn) (fun _ => hfit) ha (ho _ _ _) hlen ?_
  rw [hset, hp_su (S := S) (f := upd (S.1 a) kf x) (ho _ _ _)]
  exact K
theorem s_iald {a len j : Nat} {i : Int32} (ho : isA a 0 len) (d : decode cc pc = .ok (.iaload, 1)) (ha : a < n) (hj : i.toInt = (j : Int)) (hjl : j < len) (K : WX Xx own cc nL hh R Q k z (pc + 1) ls (.int (S.1 a j) :: st) n (Hp S)) : WX Xx own cc nL hh R Q k z pc ls (.int i :: .ref a :: st) n (Hp S) :=
  wa_iald d (Or.inl ha) (ho _ _ _) hj hjl K
theorem s_bald {a len j : Nat} {i : Int32} (ho : isA a 1 len) (d : decode cc pc = .ok (.baload, 1)) (ha : a < n) (hj : i.toInt = (j : Int)) (hjl : j < len) (K : WX Xx own cc nL hh R Q k z (pc + 1) ls (.int (S.1 a j) :: st) n (Hp S)) : WX Xx own cc nL hh R Q k z pc ls (.int i :: .ref a :: st) n (Hp S) :=
  wa_bald d (Or.inl ha) (ho _ _ _) hj hjl K
theorem s_zald {a len j : Nat} {i : Int32} (ho : isA a 2 len) (d : decode cc pc = .ok (.baload, 1)) (ha : a < n) (hj : i.toInt = (j : Int)) (hjl : j < len) (K : WX Xx own cc nL hh R Q k z (pc + 1) ls (.int (S.1 a j) :: st) n (Hp S)) : WX Xx own cc nL hh R Q k z pc ls (.int i :: .ref a :: st) n (Hp S) :=
  wa_zald d (Or.inl ha) (ho _ _ _) hj hjl K
theorem s_iast {a len j : Nat} {i x : Int32} (ho : isA a 0 len) (d : decode cc pc = .ok (.iastore, 1)) (ha : a < n) (hj : i.toInt = (j : Int)) (hjl : j < len) (K : WX Xx own cc nL hh R Q k z (pc + 1) ls st n (Hp (ss S a j x))) : WX Xx own cc nL hh R Q k z pc ls (.int x :: .int i :: .ref a :: st) n (Hp S) := by
  refine wa_iast d ha (ho _ _ _) hj hjl ?_
  have e := hp_su (S := S) (a := a) (f := upd (S.1 a) j x) (e := .inl (0, len, .inl (upd (S.1 a) j x))) (ho _ _ _)
  rw [e]
  exact K
theorem s_bast {a len j : Nat} {i x : Int32} (ho : isA a 1 len) (d : decode cc pc = .ok (.bastore, 1)) (ha : a < n) (hj : i.toInt = (j : Int)) (hjl : j < len) (K : WX Xx own cc nL hh R Q k z (pc + 1) ls st n (Hp (ss S a j (vp_nar .byte x)))) : WX Xx own cc nL hh R Q k z pc ls (.int x :: .int i :: .ref a :: st) n (Hp S) := by
  refine wa_bast d ha (ho _ _ _) hj hjl ?_
  have e := hp_su (S := S) (a := a) (f := upd (S.1 a) j (vp_nar .byte x)) (e := .inl (1, len, .inl (upd (S.1 a) j (vp_nar .byte x)))) (ho _ _ _)
  rw [e]
  exact K
theorem s_zast {a len j : Nat} {i x : Int32} (ho : isA a 2 len) (d : decode cc pc = .ok (.bastore, 1)) (ha : a < n) (hj : i.toInt = (j : Int)) (hjl : j < len) (K : WX Xx own cc nL hh R Q k z (pc + 1) ls st n (Hp (ss S a j (vp_nar .boolean x)))) : WX Xx own cc nL hh R Q k z pc ls (.int x :: .int i :: .ref a :: st) n (Hp S) := by
  refine wa_zast d ha (ho _ _ _) hj hjl ?_
  have e := hp_su (S := S) (a := a) (f := upd (S.1 a) j (vp_nar .boolean x)) (e := .inl (2, len, .inl (upd (S.1 a) j (vp_nar .boolean x)))) (ho _ _ _)
  rw [e]
  exact K
theorem s_alen {a t len : Nat} {v : Int32} (ho : isA a t len) (d : decode cc pc = .ok (.arraylength, 1)) (ht : t < 9) (ha : a < n) (hv : Int32.ofNat len = v) (K : WX Xx own cc nL hh R Q k z (pc + 1) ls (.int v :: st) n (Hp S)) : WX Xx own cc nL hh R Q k z pc ls (.ref a :: st) n (Hp S) :=
  wa_alen d ht (Or.inl ha) (ho _ _ _) hv K
end SL
/-- ends of methods: an int, nothing, a throw; the world's numbers behind it -/
abbrev PI (v : Int32) (n : Nat) (S : SS) : ab_R → Nat → ab_H → Prop := fun r n' h' => r = .inl (some (.int v)) ∧ n' = n ∧ h' = Hp S
abbrev PV (n : Nat) (S : SS) : ab_R → Nat → ab_H → Prop := fun r n' h' => r = .inl none ∧ n' = n ∧ h' = Hp S
abbrev PA (v : Value) (n : Nat) (S : SS) : ab_R → Nat → ab_H → Prop := fun r n' h' => r = .inl (some v) ∧ n' = n ∧ h' = Hp S
abbrev PX (E : String) (n : Nat) (S : SS) : ab_R → Nat → ab_H → Prop := fun r n' h' => r = .inr E ∧ n' = n ∧ h' = Hp S

