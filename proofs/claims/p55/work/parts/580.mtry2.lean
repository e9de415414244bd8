/-! ValveRoomModel: what would be, more. Written by program (wip/whole/gen/m580.py) but for the heads. -/
theorem upd_hdr {T : Int} {g : Nat → Int32} {j : Nat} (x : Int32) (h : VG T g) (h0 : ¬ j = 0) (h1 : ¬ j = 1) (h3 : ¬ j = 3) (h11 : j < 11) : VG T (upd g j x) := by
  have e (a : Nat) (ha : ¬ a = j) : upd g j x a = g a := if_neg ha
  have e0 : upd g j x 0 = g 0 := e 0 (fun z => h0 z.symm)
  have e1 : upd g j x 1 = g 1 := e 1 (fun z => h1 z.symm)
  have e3 : upd g j x 3 = g 3 := e 3 (fun z => h3 z.symm)
  have ep : pn (upd g j x) = pn g := congrArg (fun x : Int32 => x.toInt.toNat) e3
  refine ⟨by rw [e1]; exact h.1, by rw [e0]; exact h.2.1, by rw [e3]; exact h.2.2.1, fun k hk => ?_, fun i => ?_⟩
  · rw [ep] at hk
    rw [e _ (by omega)]
    exact h.2.2.2.1 k hk
  · have : pg (upd g j x) i = pg g i := by
      funext t
      unfold pg of
      split
      · exact e _ (by omega)
      · rfl
    rw [this]
    exact h.2.2.2.2 i
/-- the first tick, of the r from k on, at which p holds; -1 if none -/
def fst (p : Nat → Prop) [DecidablePred p] : Nat → Nat → Int32
  | 0, _ => -1
  | r + 1, k => if p k then nI k else fst p r (k + 1)
