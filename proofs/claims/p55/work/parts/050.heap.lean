/-! THE ABSTRACT JUDGEMENT'S ROWS that read and write the world. -/
theorem ab_ce_inr {α : Nat → Nat} {T : Nat → ClassId} {c : Nat} {fs : List Value} : ab_ce α T (.inr (c, fs)) = .inr (c, fs.map (ab_cv α)) := rfl
theorem ab_ix {i : Int32} {j len : Nat} (hj : i.toInt = (j : Int)) (hl : j < len) : vp_in i len ∧ i.toNatClampNeg = j := by
  refine ⟨vp_in_iff.mpr ⟨by omega, by omega⟩, ?_⟩
  show i.toInt.toNat = j
  omega
def ab_dom (n : Nat) (h : ab_H) (a : Nat) : Prop := a < n ∨ ∃ i, (i < 112 ∨ 130 ≤ i) ∧ i < ab_NK ∧ a = ab_CB + i ∧ h a = ab_kc i
theorem ab_kc_w : ∀ i, ab_we 0 (ab_kc i) := by
  intro i
  unfold ab_kc
  split
  · split
    · intro v hv
      rcases List.mem_cons.mp hv with rfl | hv
      · exact Or.inr (by omega)
      · rcases List.mem_cons.mp hv with rfl | hv
        · trivial
        · cases hv
    · trivial
  · split
    · intro v hv
      rcases List.mem_cons.mp hv with rfl | hv
      · exact Or.inr (by omega)
      · rcases List.mem_cons.mp hv with rfl | hv
        · trivial
        · cases hv
    · split
      · intro j k hk
        cases hk
        exact Or.inr (by omega)
      · split
        · trivial
        · split <;> trivial
theorem ab_ke.ag {base : Nat} {α α' : Nat → Nat} {U : State} {H : Heap} {a : Nat} {x : va_E} (hag : ∀ k, ab_CB ≤ k → α' k = α k) (ha : ab_CB ≤ a) (hx : ab_we 0 x) (h : ab_ke base α U H a x) : ab_ke base α' U H a x := by
  have hA : ab_Ag 0 α α' := fun k hk => hag k (by unfold ab_rk at hk; omega)
  rcases x with ⟨t, len, f | f | f | f | f⟩ | o
  · obtain ⟨ty, h1, h2⟩ := h
    exact ⟨ty, h1, by rw [hag a ha]; exact h2⟩
  · exact h
  · exact h
  · exact h
  · obtain ⟨ty, h1, h2⟩ := h
    refine ⟨ty, h1, ?_⟩
    have e : (fun j => va_rf ((f j).map α')) = (fun j => va_rf ((f j).map α)) := by
      funext j
      cases hj : f j with
      | none => rfl
      | some k => exact congrArg (fun z => va_rf (some z)) (hA k (hx j k hj))
    rw [hag a ha, e]
    exact h2
  · obtain ⟨h1, h2, h3⟩ := h
    refine ⟨h1, by rw [hag a ha]; exact h2, fun k v hk hv => ?_⟩
    rw [hag a ha, ab_cv_ag hA (hx v (List.mem_of_getElem? hv))]
    exact h3 k v hk hv
theorem ab_ke.mv {base : Nat} {α : Nat → Nat} {s U : State} {H H1 : Heap} {a : Nat} {x : va_E} (h : ab_ke base α s H a x) (hvm : s.vm.Alike U.vm) (hk : ∀ q : Nat, q < H.size → ¬ ab_A base q → H1[q]? = H[q]?) : ab_ke base α U H1 a x := by
  rcases x with ⟨t, len, f | f | f | f | f⟩ | o
  · obtain ⟨ty, h1, h2⟩ := h
    exact ⟨ty, h1, (h2.moved hvm).kept hk⟩
  · exact h
  · exact h
  · exact h
  · obtain ⟨ty, h1, h2⟩ := h
    exact ⟨ty, h1, (h2.moved hvm).kept hk⟩
  · obtain ⟨h1, h2, h3⟩ := h
    exact ⟨h1, (h2.moved hvm).kept hk, fun k v hk9 hv => ((h3 k v hk9 hv).moved hvm).kept hk⟩
theorem ab_pt {base : Nat} {D : va_G} {T : Nat → ClassId} {α : Nat → Nat} {n a : Nat} {h : ab_H} {H : Heap} (hW : ab_Wd base D T α n h H) (hd : a < n) : va_P D ab_cl [(α a, ab_ce α T (h a))] H ∧ ab_we n (h a) := by
  refine ⟨fun k q hk => ?_, hW.2.2.1 a hd⟩
  cases k with
  | zero => cases hk; exact hW.1 a _ (ab_wl_get hd)
  | succ k => cases hk
/-- a cell that may be read: the world's or a constant -/
theorem ab_cst {base : Nat} {D : va_G} {T : Nat → ClassId} {α : Nat → Nat} {s : State} {n a : Nat} {h : ab_H} (hC : ab_Cn base D T α s s.heap) (hd : ab_dom n h a) : a < n ∨ (ab_ke base α s s.heap a (h a) ∧ ab_we n (h a)) := by
  rcases hd with hd | ⟨i, hi1, hi, rfl, he⟩
  · exact Or.inl hd
  · refine Or.inr ⟨?_, ?_⟩
    · rw [he]; exact hC.1 i hi1 hi
    · rw [he]; exact (ab_kc_w i).mono (Nat.zero_le _)
/-- an object that may be called -/
theorem ab_rcv {base : Nat} {D : va_G} {T : Nat → ClassId} {α : Nat → Nat} {s : State} {n b ci N : Nat} {h : ab_H} {H : Heap} {locs : List Loc} {C : String} {T0 : u_T} {fs : List Value} (hC : ab_Cn base D T α s s.heap) (hK : va_K D ab_cl (ab_tys T) s) (hW : ab_Wd base D T α n h H) (hS : va_S (ab_A base) s.heap H locs) (hb : ab_dom n h b) (hbe : h b = .inr (ci, fs)) (hc : ab_cl[ci]? = some (C, T0, N)) :
    ∃ cell : Cell, H[α b]? = some cell ∧ cell.vm.isStatics = false ∧ s.vm.findClass C = some cell.cls := by
  rcases ab_cst hC hb with hb | ⟨hk, -⟩
  · obtain ⟨hP, -⟩ := ab_pt hW hb
    rw [hbe] at hP
    exact va_recv (q0 := 0) (a := α b) hK hP hc rfl
  · rw [hbe] at hk
    obtain ⟨h9, hO, -⟩ := hk
    have h9' : ci = 9 := h9
    subst h9'
    cases hc
    obtain ⟨cell, h1, h2, h3, -⟩ := hO.kept hS.2.1
    exact ⟨cell, h1, h2, h3⟩
theorem ab_big_mem {w : Cond} (i : Nat) (h1 : lw_tbl[i]? = some w) (h2 : goodWord w = true) : w ∈ ab_big := List.mem_filter.mpr ⟨List.mem_append_left _ (List.mem_of_getElem? h1), h2⟩
theorem ab_big_memx {w : Cond} (i : Nat) (h1 : ab_xsel[i]? = some w) (h2 : goodWord w = true) : w ∈ ab_big := List.mem_filter.mpr ⟨List.mem_append_right _ (List.mem_of_getElem? h1), h2⟩
section HP
variable {Xx : ab_X} {own : String} {cc : ByteArray} {nL : Nat} {hh : List (Nat × Nat × Nat × Nat)} {R : Room} {Q : ab_Q} {k z pc : Nat} {ls : List (Option Value)} {st : List Value} {n : Nat} {h : ab_H}
theorem wa_getf {ci index a : Nat} {C : String} {T0 : u_T} {N : Nat} {fs : List Value} {v : Value} (kf : Nat) (d : decode cc pc = .ok (.getfield index, 3)) (hlink : Cond.fieldLink own index (T0 kf).1 (T0 kf).2.1 (T0 kf).2.2.1 ∈ ab_big) (hc : ab_cl[ci]? = some (C, T0, N)) (hin : ∀ w ∈ u_ws C T0 N, w ∈ ab_big) (hk : kf < N) (ha : ab_dom n h a) (he : h a = .inr (ci, fs)) (hv : fs[kf]? = some v)
    (K : WX Xx own cc nL hh R Q k z (pc + 3) ls (v :: st) n h) : WX Xx own cc nL hh R Q k z pc ls (.ref a :: st) n h := by
  intro p l e s m args below meth c base D T C0 α H L locs Fin hC hW hL hs hl hS hF hT
  rcases ab_cst hC ha with ha | ⟨hk9, hw⟩
  case inr =>
    rw [he] at hk9 hw
    obtain ⟨h9, -, hF9⟩ := hk9
    have h9' : ci = 9 := h9
    subst h9'
    cases hc
    exact vk_getf C0.1 C0.2.1 (hF9 kf v hk hv) hS C0.2.2.2.1 (C0.2.2.2.2.1 _ hlink) (fun x hx => hx) d
      (K p l e s m args below meth c base D T C0 α H L locs Fin hC hW hL (ab_ws1 (hw v (List.mem_of_getElem? hv)) (ab_wst hs)) hl hS hF hT)
  obtain ⟨hP, hw⟩ := ab_pt hW ha
  rw [he] at hP hw
  exact va_get C0.1 C0.2.1 C0.2.2.2.2.1 hin C0.2.2.2.1 C0.2.2.2.2.2.1 hP 0 (fs := fs.map (ab_cv α)) rfl hc kf hk (C0.2.2.2.2.1 _ hlink) (fun x hx => hx) (v := ab_cv α v) (by rw [List.getElem?_map, hv]; rfl) d
    (K p l e s m args below meth c base D T C0 α H L locs Fin hC hW hL (ab_ws1 (hw v (List.mem_of_getElem? hv)) (ab_wst hs)) hl hS hF hT)
theorem ab_Wd.set {base : Nat} {D : va_G} {T : Nat → ClassId} {α : Nat → Nat} {a : Nat} {e : va_E} {H H1 : Heap} (ha : a < n) (hW : ab_Wd base D T α n h H) (he : ab_we n e) (hP : va_P D ab_cl ((ab_wl α T n h).set a (α a, ab_ce α T e)) H1) (hD : va_D (ab_A base) ((ab_wl α T n h).set a (α a, ab_ce α T e))) : ab_Wd base D T α n (ab_up h a e) H1 := by
  rw [ab_wl_set ha] at hP hD
  refine ⟨hP, hD, fun j hj => ?_, hW.2.2.2⟩
  by_cases hja : j = a
  · subst hja; rw [ab_up_s]; exact he
  · rw [ab_up_n _ _ hja]; exact hW.2.2.1 j hj
theorem ab_map_set {α : Nat → Nat} {fs : List Value} {k : Nat} {v : Value} : (fs.map (ab_cv α)).set k (ab_cv α v) = (fs.set k v).map (ab_cv α) := by rw [List.map_set]
theorem ab_we_set {n c k : Nat} {fs : List Value} {v : Value} (hv : ab_wv n v) (hw : ab_we n (.inr (c, fs))) : ab_we n (.inr (c, fs.set k v)) := by
  intro u hu
  rcases List.mem_or_eq_of_mem_set hu with q | q
  · exact hw u q
  · rw [q]; exact hv
theorem wa_putf {ci index a : Nat} {C : String} {T0 : u_T} {N : Nat} {fs : List Value} {v : Value} {ty : FieldType} (kf : Nat) (ty0 : Nat → FieldType) (d : decode cc pc = .ok (.putfield index, 3)) (hlink : Cond.fieldLink own index (T0 kf).1 (T0 kf).2.1 (T0 kf).2.2.1 ∈ ab_big) (hc : ab_cl[ci]? = some (C, T0, N)) (hin : ∀ w ∈ u_ws C T0 N, w ∈ ab_big)
    (hty : ∀ k, k < N → parseFieldDescriptor (T0 k).2.2.1 = some (ty0 k)) (hnm : ∀ a, a < N → ∀ b, b < N → a ≠ b → (T0 a).2.1 ≠ (T0 b).2.1) (hk : kf < N) (hfin : (T0 kf).2.2.2 = false) (hd : parseFieldDescriptor (T0 kf).2.2.1 = some ty) (hn : ∀ α, narrow ty (ab_cv α v) = ab_cv α v) (hfit : ∀ α, fits ty (ab_cv α v) = true) (ha : a < n) (he : h a = .inr (ci, fs)) (hl0 : kf < fs.length)
    (K : WX Xx own cc nL hh R Q k z (pc + 3) ls st n (ab_up h a (.inr (ci, fs.set kf v)))) : WX Xx own cc nL hh R Q k z pc ls (v :: .ref a :: st) n h := by
  intro p l e s m args below meth c base D T C0 α H L locs Fin hC hW hL hs hl hS hF hT
  have hw := hW.2.2.1 a ha
  have hg := ab_wl_get (α := α) (T := T) (h := h) ha
  rw [he] at hw hg
  refine va_put C0.1 C0.2.1 C0.2.2.2.2.1 hin ty0 hty hnm C0.2.2.2.1 C0.2.2.2.2.2.1 hW.1 hW.2.1 hS a hg hc kf hk (C0.2.2.2.2.1 _ hlink) (fun x hx => hx) hfin hd (hn α) (hfit α) (by rw [List.length_map]; exact hl0) d (fun H1 locs1 hP1 hD1 hS1 => ?_)
  rw [ab_map_set] at hP1 hD1
  exact K p l e s m args below meth c base D T C0 α H1 L locs1 Fin hC (ab_Wd.set ha hW (ab_we_set (hs _ List.mem_cons_self) hw) hP1 hD1) hL (ab_wst (ab_wst hs)) hl hS1 hF hT
end HP
