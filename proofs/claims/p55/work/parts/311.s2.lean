/-! Reads and writes of fields by class, the world's numbers known. -/
section S2
variable {Xx : ab_X} {own : String} {cc : ByteArray} {nL : Nat} {hh : List (Nat × Nat × Nat × Nat)} {R : Room} {Q : ab_Q} {k z pc : Nat} {ls : List (Option Value)} {st : List Value} {n : Nat} {S : SS}
theorem lt_HO {a : Nat} (h : isH a) (hn : 269 ≤ n) : a < n := by have := h.lt; omega
theorem lt_RO {a : Nat} (h : isR a) (hn : 269 ≤ n) : a < n := by have := h.lt; omega
theorem lt_R1 {a : Nat} (h : isR a) (hn : 269 ≤ n) : a + 1 < n := by have := h.lt; omega
theorem lt_R2 {a : Nat} (h : isR a) (hn : 269 ≤ n) : a + 2 < n := by have := h.lt; omega
theorem ltS {a : Nat} (hn : 269 ≤ n) (h : a < 269 := by decide) : a < n := by omega
theorem g_HO {a index : Nat} {v : Value} (hb : isH a) (hn : 269 ≤ n) (kf : Nat) (d : decode cc pc = .ok (.getfield index, 3)) (fl : Cond.fieldLink own index (TX1 kf).1 (TX1 kf).2.1 (TX1 kf).2.2.1 ∈ ab_big) (hk : kf < 15) (hv : (ly_HO a (S.1 a) (S.2.1 a) S.2.2)[kf]? = some v)
    (K : WX Xx own cc nL hh R Q k z (pc + 3) ls (v :: st) n (Hp S)) : WX Xx own cc nL hh R Q k z pc ls (.ref a :: st) n (Hp S) := s_getf cl_HO hb.HO kf d fl (lt_HO hb hn) hk hv K
theorem g_RO {a index : Nat} {v : Value} (hb : isR a) (hn : 269 ≤ n) (kf : Nat) (d : decode cc pc = .ok (.getfield index, 3)) (fl : Cond.fieldLink own index (TX4 kf).1 (TX4 kf).2.1 (TX4 kf).2.2.1 ∈ ab_big) (hk : kf < 15) (hv : (ly_RO a (S.1 a) (S.2.1 a) S.2.2)[kf]? = some v)
    (K : WX Xx own cc nL hh R Q k z (pc + 3) ls (v :: st) n (Hp S)) : WX Xx own cc nL hh R Q k z pc ls (.ref a :: st) n (Hp S) := s_getf cl_RO hb.RO kf d fl (lt_RO hb hn) hk hv K
theorem g_VR {index : Nat} {v : Value} (hn : 269 ≤ n) (kf : Nat) (d : decode cc pc = .ok (.getfield index, 3)) (fl : Cond.fieldLink own index (TX6 kf).1 (TX6 kf).2.1 (TX6 kf).2.2.1 ∈ ab_big) (hk : kf < 10) (hv : (ly_VR (S.1 0) (S.2.1 0) S.2.2)[kf]? = some v)
    (K : WX Xx own cc nL hh R Q k z (pc + 3) ls (v :: st) n (Hp S)) : WX Xx own cc nL hh R Q k z pc ls (.ref 0 :: st) n (Hp S) := s_getf cl_VR isO_VR kf d fl (ltS hn) hk hv K
theorem g_PA {index : Nat} {v : Value} (hn : 269 ≤ n) (kf : Nat) (d : decode cc pc = .ok (.getfield index, 3)) (fl : Cond.fieldLink own index (TX3 kf).1 (TX3 kf).2.1 (TX3 kf).2.2.1 ∈ ab_big) (hk : kf < 9) (hv : (ly_PA (S.1 1) (S.2.1 1) S.2.2)[kf]? = some v)
    (K : WX Xx own cc nL hh R Q k z (pc + 3) ls (v :: st) n (Hp S)) : WX Xx own cc nL hh R Q k z pc ls (.ref 1 :: st) n (Hp S) := s_getf cl_PA isO_PA kf d fl (ltS hn) hk hv K
theorem g_TO {index : Nat} {v : Value} (hn : 269 ≤ n) (kf : Nat) (d : decode cc pc = .ok (.getfield index, 3)) (fl : Cond.fieldLink own index (TX5 kf).1 (TX5 kf).2.1 (TX5 kf).2.2.1 ∈ ab_big) (hk : kf < 6) (hv : (ly_TO (S.1 26) (S.2.1 26) S.2.2)[kf]? = some v)
    (K : WX Xx own cc nL hh R Q k z (pc + 3) ls (v :: st) n (Hp S)) : WX Xx own cc nL hh R Q k z pc ls (.ref 26 :: st) n (Hp S) := s_getf cl_TO isO_TO kf d fl (ltS hn) hk hv K
theorem g_SB {index : Nat} {v : Value} (hn : 269 ≤ n) (kf : Nat) (d : decode cc pc = .ok (.getfield index, 3)) (fl : Cond.fieldLink own index (TJ4 kf).1 (TJ4 kf).2.1 (TJ4 kf).2.2.1 ∈ ab_big) (hk : kf < 4) (hv : (ly_SB (S.1 267) (S.2.1 267) S.2.2)[kf]? = some v)
    (K : WX Xx own cc nL hh R Q k z (pc + 3) ls (v :: st) n (Hp S)) : WX Xx own cc nL hh R Q k z pc ls (.ref 267 :: st) n (Hp S) := s_getf cl_SB isO_SB kf d fl (ltS hn) hk hv K
theorem p_HO {a index : Nat} {x : Int32} {ty : FieldType} (hb : isH a) (hn : 269 ≤ n) (kf : Nat) (d : decode cc pc = .ok (.putfield index, 3)) (fl : Cond.fieldLink own index (TX1 kf).1 (TX1 kf).2.1 (TX1 kf).2.2.1 ∈ ab_big) (hk : kf < 15) (hfin : (TX1 kf).2.2.2 = false) (hd : parseFieldDescriptor (TX1 kf).2.2.1 = some ty) (hnr : narrow ty (.int x) = .int x) (hfit : fits ty (.int x) = true)
    (hset : ∀ f w Rr, (ly_HO a f w Rr).set kf (.int x) = ly_HO a (upd f kf x) w Rr) (hlen : kf < (ly_HO a (S.1 a) (S.2.1 a) S.2.2).length) (K : WX Xx own cc nL hh R Q k z (pc + 3) ls st n (Hp (ss S a kf x))) : WX Xx own cc nL hh R Q k z pc ls (.int x :: .ref a :: st) n (Hp S) := s_puti cl_HO hb.HO kf d fl (lt_HO hb hn) hk hfin hd hnr hfit hset hlen K
theorem p_RO {a index : Nat} {x : Int32} {ty : FieldType} (hb : isR a) (hn : 269 ≤ n) (kf : Nat) (d : decode cc pc = .ok (.putfield index, 3)) (fl : Cond.fieldLink own index (TX4 kf).1 (TX4 kf).2.1 (TX4 kf).2.2.1 ∈ ab_big) (hk : kf < 15) (hfin : (TX4 kf).2.2.2 = false) (hd : parseFieldDescriptor (TX4 kf).2.2.1 = some ty) (hnr : narrow ty (.int x) = .int x) (hfit : fits ty (.int x) = true)
    (hset : ∀ f w Rr, (ly_RO a f w Rr).set kf (.int x) = ly_RO a (upd f kf x) w Rr) (hlen : kf < (ly_RO a (S.1 a) (S.2.1 a) S.2.2).length) (K : WX Xx own cc nL hh R Q k z (pc + 3) ls st n (Hp (ss S a kf x))) : WX Xx own cc nL hh R Q k z pc ls (.int x :: .ref a :: st) n (Hp S) := s_puti cl_RO hb.RO kf d fl (lt_RO hb hn) hk hfin hd hnr hfit hset hlen K
theorem p_VR {index : Nat} {x : Int32} {ty : FieldType} (hn : 269 ≤ n) (kf : Nat) (d : decode cc pc = .ok (.putfield index, 3)) (fl : Cond.fieldLink own index (TX6 kf).1 (TX6 kf).2.1 (TX6 kf).2.2.1 ∈ ab_big) (hk : kf < 10) (hfin : (TX6 kf).2.2.2 = false) (hd : parseFieldDescriptor (TX6 kf).2.2.1 = some ty) (hnr : narrow ty (.int x) = .int x) (hfit : fits ty (.int x) = true)
    (hset : ∀ f w Rr, (ly_VR f w Rr).set kf (.int x) = ly_VR (upd f kf x) w Rr) (hlen : kf < (ly_VR (S.1 0) (S.2.1 0) S.2.2).length) (K : WX Xx own cc nL hh R Q k z (pc + 3) ls st n (Hp (ss S 0 kf x))) : WX Xx own cc nL hh R Q k z pc ls (.int x :: .ref 0 :: st) n (Hp S) := s_puti cl_VR isO_VR kf d fl (ltS hn) hk hfin hd hnr hfit hset hlen K
theorem p_PA {index : Nat} {x : Int32} {ty : FieldType} (hn : 269 ≤ n) (kf : Nat) (d : decode cc pc = .ok (.putfield index, 3)) (fl : Cond.fieldLink own index (TX3 kf).1 (TX3 kf).2.1 (TX3 kf).2.2.1 ∈ ab_big) (hk : kf < 9) (hfin : (TX3 kf).2.2.2 = false) (hd : parseFieldDescriptor (TX3 kf).2.2.1 = some ty) (hnr : narrow ty (.int x) = .int x) (hfit : fits ty (.int x) = true)
    (hset : ∀ f w Rr, (ly_PA f w Rr).set kf (.int x) = ly_PA (upd f kf x) w Rr) (hlen : kf < (ly_PA (S.1 1) (S.2.1 1) S.2.2).length) (K : WX Xx own cc nL hh R Q k z (pc + 3) ls st n (Hp (ss S 1 kf x))) : WX Xx own cc nL hh R Q k z pc ls (.int x :: .ref 1 :: st) n (Hp S) := s_puti cl_PA isO_PA kf d fl (ltS hn) hk hfin hd hnr hfit hset hlen K
theorem p_TO {index : Nat} {x : Int32} {ty : FieldType} (hn : 269 ≤ n) (kf : Nat) (d : decode cc pc = .ok (.putfield index, 3)) (fl : Cond.fieldLink own index (TX5 kf).1 (TX5 kf).2.1 (TX5 kf).2.2.1 ∈ ab_big) (hk : kf < 6) (hfin : (TX5 kf).2.2.2 = false) (hd : parseFieldDescriptor (TX5 kf).2.2.1 = some ty) (hnr : narrow ty (.int x) = .int x) (hfit : fits ty (.int x) = true)
    (hset : ∀ f w Rr, (ly_TO f w Rr).set kf (.int x) = ly_TO (upd f kf x) w Rr) (hlen : kf < (ly_TO (S.1 26) (S.2.1 26) S.2.2).length) (K : WX Xx own cc nL hh R Q k z (pc + 3) ls st n (Hp (ss S 26 kf x))) : WX Xx own cc nL hh R Q k z pc ls (.int x :: .ref 26 :: st) n (Hp S) := s_puti cl_TO isO_TO kf d fl (ltS hn) hk hfin hd hnr hfit hset hlen K
end S2
theorem su_s (S : SS) (a : Nat) (f : Nat → Int32) : (su S a f).1 a = f := if_pos rfl
theorem su_n (S : SS) {a b : Nat} (f : Nat → Int32) (h : b ≠ a) : (su S a f).1 b = S.1 b := if_neg h
theorem ss_su (S : SS) (a j : Nat) (f : Nat → Int32) (x : Int32) : ss (su S a f) a j x = su S a (upd f j x) := by
  unfold ss
  rw [su_s]
  unfold su
  congr 1
  funext k
  by_cases h : k = a
  · simp [h]
  · simp [h]
theorem su_self (S : SS) (a : Nat) : su S a (S.1 a) = S := by
  unfold su
  have : (fun k => if k = a then S.1 a else S.1 k) = S.1 := by
    funext k
    by_cases h : k = a
    · simp [h]
    · simp [h]
  rw [this]
abbrev PVe (n : Nat) (T : SS → Prop) : ab_R → Nat → ab_H → Prop := fun r n' h' => r = .inl none ∧ n' = n ∧ ∃ S', h' = Hp S' ∧ T S'
abbrev PIe (n : Nat) (T : Int32 → SS → Prop) : ab_R → Nat → ab_H → Prop := fun r n' h' => n' = n ∧ ∃ v S', r = .inl (some (.int v)) ∧ h' = Hp S' ∧ T v S'
/-- the reference's row: its net or its draft -/
def mr (S : SS) : Nat := if S.2.2.2.1 then 269 else 268
theorem lt_pl {n a o : Nat} (h : isH a) (hn : 269 ≤ n) (ho : o < 5 := by decide) : a + o < n := by have := h.lt; omega
theorem mr_2 {S S' : SS} (h : S'.2 = S.2) : mr S' = mr S := by unfold mr; rw [h]
abbrev b2i (p : Prop) [Decidable p] : Int32 := if p then 1 else 0
section S3
variable {Xx : ab_X} {own : String} {cc : ByteArray} {nL : Nat} {hh : List (Nat × Nat × Nat × Nat)} {R : Room} {Q : ab_Q} {k z pc : Nat} {ls : List (Option Value)} {st : List Value} {n : Nat} {S : SS}
end S3
