/-! THE ABSTRACT JUDGEMENT: arrays, new objects, statics, constants. Written by program (wip/whole/gen/mk06.py). -/
section AR
variable {Xx : ab_X} {own : String} {cc : ByteArray} {nL : Nat} {hh : List (Nat × Nat × Nat × Nat)} {R : Room} {Q : ab_Q} {k z pc : Nat} {ls : List (Option Value)} {st : List Value} {n : Nat} {h : ab_H}
theorem wa_iald {a len j : Nat} {f : Nat → Int32} {i : Int32} (d : decode cc pc = .ok (.iaload, 1)) (ha : ab_dom n h a) (he : h a = .inl (0, len, .inl f)) (hj : i.toInt = (j : Int)) (hjl : j < len)
    (K : WX Xx own cc nL hh R Q k z (pc + 1) ls (.int (f j) :: st) n h) : WX Xx own cc nL hh R Q k z pc ls (.int i :: .ref a :: st) n h := by
  intro p l e s m args below meth c base D T C0 α H L locs Fin hC hW hL hs hl hS hF hT
  obtain ⟨hin, hjj⟩ := ab_ix hj hjl
  rcases ab_cst hC ha with ha | ⟨hk9, -⟩
  case inr =>
    rw [he] at hk9
    obtain ⟨ty9, ht9, hT9⟩ := hk9
    cases ht9
    exact va_ti C0.1 C0.2.1 hT9 hS hin (v := .int (f j)) (by rw [hjj]) d (K p l e s m args below meth c base D T C0 α H L locs Fin hC hW hL (ab_ws1 ab_wi (ab_wst (ab_wst hs))) hl hS hF hT)
  obtain ⟨hP, hw⟩ := ab_pt hW ha
  rw [he] at hP hw
  have K1 := K p l e s m args below meth c base D T C0 α H L locs Fin hC hW hL (ab_ws1 ab_wi (ab_wst (ab_wst hs))) hl hS hF hT
  rw [← hjj] at K1
  exact va_iald C0.1 C0.2.1 C0.2.2.2.2.2.1 hP 0 0 (f := f) rfl rfl hin d K1
theorem wa_bald {a len j : Nat} {f : Nat → Int32} {i : Int32} (d : decode cc pc = .ok (.baload, 1)) (ha : ab_dom n h a) (he : h a = .inl (1, len, .inl f)) (hj : i.toInt = (j : Int)) (hjl : j < len)
    (K : WX Xx own cc nL hh R Q k z (pc + 1) ls (.int (f j) :: st) n h) : WX Xx own cc nL hh R Q k z pc ls (.int i :: .ref a :: st) n h := by
  intro p l e s m args below meth c base D T C0 α H L locs Fin hC hW hL hs hl hS hF hT
  obtain ⟨hin, hjj⟩ := ab_ix hj hjl
  rcases ab_cst hC ha with ha | ⟨hk9, -⟩
  case inr =>
    rw [he] at hk9
    obtain ⟨ty9, ht9, hT9⟩ := hk9
    cases ht9
    exact va_tb C0.1 C0.2.1 hT9 hS hin (v := .int (f j)) (by rw [hjj]) d (K p l e s m args below meth c base D T C0 α H L locs Fin hC hW hL (ab_ws1 ab_wi (ab_wst (ab_wst hs))) hl hS hF hT)
  obtain ⟨hP, hw⟩ := ab_pt hW ha
  rw [he] at hP hw
  have K1 := K p l e s m args below meth c base D T C0 α H L locs Fin hC hW hL (ab_ws1 ab_wi (ab_wst (ab_wst hs))) hl hS hF hT
  rw [← hjj] at K1
  exact va_bald C0.1 C0.2.1 C0.2.2.2.2.2.1 hP 0 1 (f := f) rfl rfl hin d K1
theorem wa_zald {a len j : Nat} {f : Nat → Int32} {i : Int32} (d : decode cc pc = .ok (.baload, 1)) (ha : ab_dom n h a) (he : h a = .inl (2, len, .inl f)) (hj : i.toInt = (j : Int)) (hjl : j < len)
    (K : WX Xx own cc nL hh R Q k z (pc + 1) ls (.int (f j) :: st) n h) : WX Xx own cc nL hh R Q k z pc ls (.int i :: .ref a :: st) n h := by
  intro p l e s m args below meth c base D T C0 α H L locs Fin hC hW hL hs hl hS hF hT
  obtain ⟨hin, hjj⟩ := ab_ix hj hjl
  rcases ab_cst hC ha with ha | ⟨hk9, -⟩
  case inr =>
    rw [he] at hk9
    obtain ⟨ty9, ht9, hT9⟩ := hk9
    cases ht9
    exact va_tz C0.1 C0.2.1 hT9 hS hin (v := .int (f j)) (by rw [hjj]) d (K p l e s m args below meth c base D T C0 α H L locs Fin hC hW hL (ab_ws1 ab_wi (ab_wst (ab_wst hs))) hl hS hF hT)
  obtain ⟨hP, hw⟩ := ab_pt hW ha
  rw [he] at hP hw
  have K1 := K p l e s m args below meth c base D T C0 α H L locs Fin hC hW hL (ab_ws1 ab_wi (ab_wst (ab_wst hs))) hl hS hF hT
  rw [← hjj] at K1
  exact va_zald C0.1 C0.2.1 C0.2.2.2.2.2.1 hP 0 2 (f := f) rfl rfl hin d K1
theorem wa_cald {a len j : Nat} {f : Nat → Int32} {i : Int32} (d : decode cc pc = .ok (.caload, 1)) (ha : ab_dom n h a) (he : h a = .inl (3, len, .inl f)) (hj : i.toInt = (j : Int)) (hjl : j < len)
    (K : WX Xx own cc nL hh R Q k z (pc + 1) ls (.int (f j) :: st) n h) : WX Xx own cc nL hh R Q k z pc ls (.int i :: .ref a :: st) n h := by
  intro p l e s m args below meth c base D T C0 α H L locs Fin hC hW hL hs hl hS hF hT
  obtain ⟨hin, hjj⟩ := ab_ix hj hjl
  rcases ab_cst hC ha with ha | ⟨hk9, -⟩
  case inr =>
    rw [he] at hk9
    obtain ⟨ty9, ht9, hT9⟩ := hk9
    cases ht9
    exact va_tc C0.1 C0.2.1 hT9 hS hin (v := .int (f j)) (by rw [hjj]) d (K p l e s m args below meth c base D T C0 α H L locs Fin hC hW hL (ab_ws1 ab_wi (ab_wst (ab_wst hs))) hl hS hF hT)
  obtain ⟨hP, hw⟩ := ab_pt hW ha
  rw [he] at hP hw
  have K1 := K p l e s m args below meth c base D T C0 α H L locs Fin hC hW hL (ab_ws1 ab_wi (ab_wst (ab_wst hs))) hl hS hF hT
  rw [← hjj] at K1
  exact va_cald C0.1 C0.2.1 C0.2.2.2.2.2.1 hP 0 3 (f := f) rfl rfl hin d K1
theorem wa_aaldH {a len j b : Nat} {f : Nat → Option Nat} {i : Int32} (d : decode cc pc = .ok (.aaload, 1)) (ha : ab_dom n h a) (he : h a = .inl (6, len, .inr (.inr (.inr (.inr f))))) (hj : i.toInt = (j : Int)) (hjl : j < len) (hb : f j = some b)
    (K : WX Xx own cc nL hh R Q k z (pc + 1) ls (.ref b :: st) n h) : WX Xx own cc nL hh R Q k z pc ls (.int i :: .ref a :: st) n h := by
  intro p l e s m args below meth c base D T C0 α H L locs Fin hC hW hL hs hl hS hF hT
  obtain ⟨hin, hjj⟩ := ab_ix hj hjl
  rcases ab_cst hC ha with ha | ⟨hk9, hw9⟩
  case inr =>
    rw [he] at hk9 hw9
    obtain ⟨ty9, ht9, hT9⟩ := hk9
    cases ht9
    exact vb_tq C0.1 C0.2.1 hT9 hS hin (v := .ref (α b)) (by rw [hjj, hb]; rfl) d (K p l e s m args below meth c base D T C0 α H L locs Fin hC hW hL (ab_ws1 (v := .ref b) (hw9 j b hb) (ab_wst (ab_wst hs))) hl hS hF hT)
  obtain ⟨hP, hw⟩ := ab_pt hW ha
  rw [he] at hP hw
  have K1 := K p l e s m args below meth c base D T C0 α H L locs Fin hC hW hL (ab_ws1 (v := .ref b) (hw j b hb) (ab_wst (ab_wst hs))) hl hS hF hT
  have K2 : W p l e R s m args below meth c H locs k z Fin (F0 m (pc + 1) L (va_rf ((fun q => (f q).map α) i.toNatClampNeg) :: st.map (ab_cv α))) := by
    show W p l e R s m args below meth c H locs k z Fin (F0 m (pc + 1) L (va_rf ((f i.toNatClampNeg).map α) :: st.map (ab_cv α)))
    rw [hjj, hb]
    exact K1
  exact va_aldq C0.1 C0.2.1 C0.2.2.2.2.2.1 hP 0 6 (C := "ValveRoom$House") rfl rfl hin d K2
theorem wa_aaldHN {a len j : Nat} {f : Nat → Option Nat} {i : Int32} (d : decode cc pc = .ok (.aaload, 1)) (ha : ab_dom n h a) (he : h a = .inl (6, len, .inr (.inr (.inr (.inr f))))) (hj : i.toInt = (j : Int)) (hjl : j < len) (hb : f j = none)
    (K : WX Xx own cc nL hh R Q k z (pc + 1) ls (.null :: st) n h) : WX Xx own cc nL hh R Q k z pc ls (.int i :: .ref a :: st) n h := by
  intro p l e s m args below meth c base D T C0 α H L locs Fin hC hW hL hs hl hS hF hT
  obtain ⟨hin, hjj⟩ := ab_ix hj hjl
  rcases ab_cst hC ha with ha | ⟨hk9, hw9⟩
  case inr =>
    rw [he] at hk9 hw9
    obtain ⟨ty9, ht9, hT9⟩ := hk9
    cases ht9
    exact vb_tq C0.1 C0.2.1 hT9 hS hin (v := .null) (by rw [hjj, hb]; rfl) d (K p l e s m args below meth c base D T C0 α H L locs Fin hC hW hL (ab_ws1 (v := .null) trivial (ab_wst (ab_wst hs))) hl hS hF hT)
  obtain ⟨hP, hw⟩ := ab_pt hW ha
  rw [he] at hP hw
  have K1 := K p l e s m args below meth c base D T C0 α H L locs Fin hC hW hL (ab_ws1 (v := .null) trivial (ab_wst (ab_wst hs))) hl hS hF hT
  have K2 : W p l e R s m args below meth c H locs k z Fin (F0 m (pc + 1) L (va_rf ((fun q => (f q).map α) i.toNatClampNeg) :: st.map (ab_cv α))) := by
    show W p l e R s m args below meth c H locs k z Fin (F0 m (pc + 1) L (va_rf ((f i.toNatClampNeg).map α) :: st.map (ab_cv α)))
    rw [hjj, hb]
    exact K1
  exact va_aldq C0.1 C0.2.1 C0.2.2.2.2.2.1 hP 0 6 (C := "ValveRoom$House") rfl rfl hin d K2
theorem wa_aaldR {a len j b : Nat} {f : Nat → Option Nat} {i : Int32} (d : decode cc pc = .ok (.aaload, 1)) (ha : ab_dom n h a) (he : h a = .inl (7, len, .inr (.inr (.inr (.inr f))))) (hj : i.toInt = (j : Int)) (hjl : j < len) (hb : f j = some b)
    (K : WX Xx own cc nL hh R Q k z (pc + 1) ls (.ref b :: st) n h) : WX Xx own cc nL hh R Q k z pc ls (.int i :: .ref a :: st) n h := by
  intro p l e s m args below meth c base D T C0 α H L locs Fin hC hW hL hs hl hS hF hT
  obtain ⟨hin, hjj⟩ := ab_ix hj hjl
  rcases ab_cst hC ha with ha | ⟨hk9, hw9⟩
  case inr =>
    rw [he] at hk9 hw9
    obtain ⟨ty9, ht9, hT9⟩ := hk9
    cases ht9
    exact vb_tq C0.1 C0.2.1 hT9 hS hin (v := .ref (α b)) (by rw [hjj, hb]; rfl) d (K p l e s m args below meth c base D T C0 α H L locs Fin hC hW hL (ab_ws1 (v := .ref b) (hw9 j b hb) (ab_wst (ab_wst hs))) hl hS hF hT)
  obtain ⟨hP, hw⟩ := ab_pt hW ha
  rw [he] at hP hw
  have K1 := K p l e s m args below meth c base D T C0 α H L locs Fin hC hW hL (ab_ws1 (v := .ref b) (hw j b hb) (ab_wst (ab_wst hs))) hl hS hF hT
  have K2 : W p l e R s m args below meth c H locs k z Fin (F0 m (pc + 1) L (va_rf ((fun q => (f q).map α) i.toNatClampNeg) :: st.map (ab_cv α))) := by
    show W p l e R s m args below meth c H locs k z Fin (F0 m (pc + 1) L (va_rf ((f i.toNatClampNeg).map α) :: st.map (ab_cv α)))
    rw [hjj, hb]
    exact K1
  exact va_aldq C0.1 C0.2.1 C0.2.2.2.2.2.1 hP 0 7 (C := "ValveRoom$Room") rfl rfl hin d K2
theorem wa_aaldRN {a len j : Nat} {f : Nat → Option Nat} {i : Int32} (d : decode cc pc = .ok (.aaload, 1)) (ha : ab_dom n h a) (he : h a = .inl (7, len, .inr (.inr (.inr (.inr f))))) (hj : i.toInt = (j : Int)) (hjl : j < len) (hb : f j = none)
    (K : WX Xx own cc nL hh R Q k z (pc + 1) ls (.null :: st) n h) : WX Xx own cc nL hh R Q k z pc ls (.int i :: .ref a :: st) n h := by
  intro p l e s m args below meth c base D T C0 α H L locs Fin hC hW hL hs hl hS hF hT
  obtain ⟨hin, hjj⟩ := ab_ix hj hjl
  rcases ab_cst hC ha with ha | ⟨hk9, hw9⟩
  case inr =>
    rw [he] at hk9 hw9
    obtain ⟨ty9, ht9, hT9⟩ := hk9
    cases ht9
    exact vb_tq C0.1 C0.2.1 hT9 hS hin (v := .null) (by rw [hjj, hb]; rfl) d (K p l e s m args below meth c base D T C0 α H L locs Fin hC hW hL (ab_ws1 (v := .null) trivial (ab_wst (ab_wst hs))) hl hS hF hT)
  obtain ⟨hP, hw⟩ := ab_pt hW ha
  rw [he] at hP hw
  have K1 := K p l e s m args below meth c base D T C0 α H L locs Fin hC hW hL (ab_ws1 (v := .null) trivial (ab_wst (ab_wst hs))) hl hS hF hT
  have K2 : W p l e R s m args below meth c H locs k z Fin (F0 m (pc + 1) L (va_rf ((fun q => (f q).map α) i.toNatClampNeg) :: st.map (ab_cv α))) := by
    show W p l e R s m args below meth c H locs k z Fin (F0 m (pc + 1) L (va_rf ((f i.toNatClampNeg).map α) :: st.map (ab_cv α)))
    rw [hjj, hb]
    exact K1
  exact va_aldq C0.1 C0.2.1 C0.2.2.2.2.2.1 hP 0 7 (C := "ValveRoom$Room") rfl rfl hin d K2
theorem wa_aaldK {a len j b : Nat} {f : Nat → Option Nat} {i : Int32} (d : decode cc pc = .ok (.aaload, 1)) (ha : ab_dom n h a) (he : h a = .inl (8, len, .inr (.inr (.inr (.inr f))))) (hj : i.toInt = (j : Int)) (hjl : j < len) (hb : f j = some b)
    (K : WX Xx own cc nL hh R Q k z (pc + 1) ls (.ref b :: st) n h) : WX Xx own cc nL hh R Q k z pc ls (.int i :: .ref a :: st) n h := by
  intro p l e s m args below meth c base D T C0 α H L locs Fin hC hW hL hs hl hS hF hT
  obtain ⟨hin, hjj⟩ := ab_ix hj hjl
  rcases ab_cst hC ha with ha | ⟨hk9, hw9⟩
  case inr =>
    rw [he] at hk9 hw9
    obtain ⟨ty9, ht9, hT9⟩ := hk9
    cases ht9
    exact vb_tq C0.1 C0.2.1 hT9 hS hin (v := .ref (α b)) (by rw [hjj, hb]; rfl) d (K p l e s m args below meth c base D T C0 α H L locs Fin hC hW hL (ab_ws1 (v := .ref b) (hw9 j b hb) (ab_wst (ab_wst hs))) hl hS hF hT)
  obtain ⟨hP, hw⟩ := ab_pt hW ha
  rw [he] at hP hw
  have K1 := K p l e s m args below meth c base D T C0 α H L locs Fin hC hW hL (ab_ws1 (v := .ref b) (hw j b hb) (ab_wst (ab_wst hs))) hl hS hF hT
  have K2 : W p l e R s m args below meth c H locs k z Fin (F0 m (pc + 1) L (va_rf ((fun q => (f q).map α) i.toNatClampNeg) :: st.map (ab_cv α))) := by
    show W p l e R s m args below meth c H locs k z Fin (F0 m (pc + 1) L (va_rf ((f i.toNatClampNeg).map α) :: st.map (ab_cv α)))
    rw [hjj, hb]
    exact K1
  exact va_aldq C0.1 C0.2.1 C0.2.2.2.2.2.1 hP 0 8 (C := "ValveRoom$Keyword") rfl rfl hin d K2
theorem wa_aaldKN {a len j : Nat} {f : Nat → Option Nat} {i : Int32} (d : decode cc pc = .ok (.aaload, 1)) (ha : ab_dom n h a) (he : h a = .inl (8, len, .inr (.inr (.inr (.inr f))))) (hj : i.toInt = (j : Int)) (hjl : j < len) (hb : f j = none)
    (K : WX Xx own cc nL hh R Q k z (pc + 1) ls (.null :: st) n h) : WX Xx own cc nL hh R Q k z pc ls (.int i :: .ref a :: st) n h := by
  intro p l e s m args below meth c base D T C0 α H L locs Fin hC hW hL hs hl hS hF hT
  obtain ⟨hin, hjj⟩ := ab_ix hj hjl
  rcases ab_cst hC ha with ha | ⟨hk9, hw9⟩
  case inr =>
    rw [he] at hk9 hw9
    obtain ⟨ty9, ht9, hT9⟩ := hk9
    cases ht9
    exact vb_tq C0.1 C0.2.1 hT9 hS hin (v := .null) (by rw [hjj, hb]; rfl) d (K p l e s m args below meth c base D T C0 α H L locs Fin hC hW hL (ab_ws1 (v := .null) trivial (ab_wst (ab_wst hs))) hl hS hF hT)
  obtain ⟨hP, hw⟩ := ab_pt hW ha
  rw [he] at hP hw
  have K1 := K p l e s m args below meth c base D T C0 α H L locs Fin hC hW hL (ab_ws1 (v := .null) trivial (ab_wst (ab_wst hs))) hl hS hF hT
  have K2 : W p l e R s m args below meth c H locs k z Fin (F0 m (pc + 1) L (va_rf ((fun q => (f q).map α) i.toNatClampNeg) :: st.map (ab_cv α))) := by
    show W p l e R s m args below meth c H locs k z Fin (F0 m (pc + 1) L (va_rf ((f i.toNatClampNeg).map α) :: st.map (ab_cv α)))
    rw [hjj, hb]
    exact K1
  exact va_aldq C0.1 C0.2.1 C0.2.2.2.2.2.1 hP 0 8 (C := "ValveRoom$Keyword") rfl rfl hin d K2
theorem wa_iast {a len j : Nat} {f : Nat → Int32} {i : Int32} {x : Int32} (d : decode cc pc = .ok (.iastore, 1)) (ha : a < n) (he : h a = .inl (0, len, .inl f)) (hj : i.toInt = (j : Int)) (hjl : j < len)
    (K : WX Xx own cc nL hh R Q k z (pc + 1) ls st n (ab_up h a (.inl (0, len, .inl (upd f j x))))) : WX Xx own cc nL hh R Q k z pc ls (.int x :: .int i :: .ref a :: st) n h := by
  intro p l e s m args below meth c base D T C0 α H L locs Fin hC hW hL hs hl hS hF hT
  have hg := ab_wl_get (α := α) (T := T) (h := h) ha
  rw [he] at hg
  obtain ⟨hin, hjj⟩ := ab_ix hj hjl
  refine va_iast C0.1 C0.2.1 C0.2.2.2.2.2.1 hW.1 hW.2.1 hS a 0 (f := f) hg rfl hin d (fun H1 locs1 hP1 hD1 hS1 => ?_)
  rw [hjj] at hP1 hD1
  exact K p l e s m args below meth c base D T C0 α H1 L locs1 Fin hC (ab_Wd.set (e := .inl (0, len, .inl (upd f j x))) ha hW trivial hP1 hD1) hL (ab_wst (ab_wst (ab_wst hs))) hl hS1 hF hT
theorem wa_bast {a len j : Nat} {f : Nat → Int32} {i : Int32} {x : Int32} (d : decode cc pc = .ok (.bastore, 1)) (ha : a < n) (he : h a = .inl (1, len, .inl f)) (hj : i.toInt = (j : Int)) (hjl : j < len)
    (K : WX Xx own cc nL hh R Q k z (pc + 1) ls st n (ab_up h a (.inl (1, len, .inl (upd f j (vp_nar .byte x)))))) : WX Xx own cc nL hh R Q k z pc ls (.int x :: .int i :: .ref a :: st) n h := by
  intro p l e s m args below meth c base D T C0 α H L locs Fin hC hW hL hs hl hS hF hT
  have hg := ab_wl_get (α := α) (T := T) (h := h) ha
  rw [he] at hg
  obtain ⟨hin, hjj⟩ := ab_ix hj hjl
  refine va_bast C0.1 C0.2.1 C0.2.2.2.2.2.1 hW.1 hW.2.1 hS a 1 (f := f) hg rfl hin d (fun H1 locs1 hP1 hD1 hS1 => ?_)
  rw [hjj] at hP1 hD1
  exact K p l e s m args below meth c base D T C0 α H1 L locs1 Fin hC (ab_Wd.set (e := .inl (1, len, .inl (upd f j (vp_nar .byte x)))) ha hW trivial hP1 hD1) hL (ab_wst (ab_wst (ab_wst hs))) hl hS1 hF hT
theorem wa_zast {a len j : Nat} {f : Nat → Int32} {i : Int32} {x : Int32} (d : decode cc pc = .ok (.bastore, 1)) (ha : a < n) (he : h a = .inl (2, len, .inl f)) (hj : i.toInt = (j : Int)) (hjl : j < len)
    (K : WX Xx own cc nL hh R Q k z (pc + 1) ls st n (ab_up h a (.inl (2, len, .inl (upd f j (vp_nar .boolean x)))))) : WX Xx own cc nL hh R Q k z pc ls (.int x :: .int i :: .ref a :: st) n h := by
  intro p l e s m args below meth c base D T C0 α H L locs Fin hC hW hL hs hl hS hF hT
  have hg := ab_wl_get (α := α) (T := T) (h := h) ha
  rw [he] at hg
  obtain ⟨hin, hjj⟩ := ab_ix hj hjl
  refine va_zast C0.1 C0.2.1 C0.2.2.2.2.2.1 hW.1 hW.2.1 hS a 2 (f := f) hg rfl hin d (fun H1 locs1 hP1 hD1 hS1 => ?_)
  rw [hjj] at hP1 hD1
  exact K p l e s m args below meth c base D T C0 α H1 L locs1 Fin hC (ab_Wd.set (e := .inl (2, len, .inl (upd f j (vp_nar .boolean x)))) ha hW trivial hP1 hD1) hL (ab_wst (ab_wst (ab_wst hs))) hl hS1 hF hT
theorem wa_cast {a len j : Nat} {f : Nat → Int32} {i : Int32} {x : Int32} (d : decode cc pc = .ok (.castore, 1)) (ha : a < n) (he : h a = .inl (3, len, .inl f)) (hj : i.toInt = (j : Int)) (hjl : j < len)
    (K : WX Xx own cc nL hh R Q k z (pc + 1) ls st n (ab_up h a (.inl (3, len, .inl (upd f j (vp_nar .char x)))))) : WX Xx own cc nL hh R Q k z pc ls (.int x :: .int i :: .ref a :: st) n h := by
  intro p l e s m args below meth c base D T C0 α H L locs Fin hC hW hL hs hl hS hF hT
  have hg := ab_wl_get (α := α) (T := T) (h := h) ha
  rw [he] at hg
  obtain ⟨hin, hjj⟩ := ab_ix hj hjl
  refine va_cast C0.1 C0.2.1 C0.2.2.2.2.2.1 hW.1 hW.2.1 hS a 3 (f := f) hg rfl hin d (fun H1 locs1 hP1 hD1 hS1 => ?_)
  rw [hjj] at hP1 hD1
  exact K p l e s m args below meth c base D T C0 α H1 L locs1 Fin hC (ab_Wd.set (e := .inl (3, len, .inl (upd f j (vp_nar .char x)))) ha hW trivial hP1 hD1) hL (ab_wst (ab_wst (ab_wst hs))) hl hS1 hF hT
theorem wa_aastH {a len j b : Nat} {f : Nat → Option Nat} {fs : List Value} {i : Int32} (d : decode cc pc = .ok (.aastore, 1)) (ha : a < n) (he : h a = .inl (6, len, .inr (.inr (.inr (.inr f))))) (hj : i.toInt = (j : Int)) (hjl : j < len) (hb : b < n) (hbe : h b = .inr (2, fs))
    (K : WX Xx own cc nL hh R Q k z (pc + 1) ls st n (ab_up h a (.inl (6, len, .inr (.inr (.inr (.inr (va_up f j (some b))))))))) : WX Xx own cc nL hh R Q k z pc ls (.ref b :: .int i :: .ref a :: st) n h := by
  intro p l e s m args below meth c base D T C0 α H L locs Fin hC hW hL hs hl hS hF hT
  have hg := ab_wl_get (α := α) (T := T) (h := h) ha
  have hgb := ab_wl_get (α := α) (T := T) (h := h) hb
  have hw := hW.2.2.1 a ha
  rw [he] at hg hw
  rw [hbe] at hgb
  obtain ⟨hin, hjj⟩ := ab_ix hj hjl
  refine va_astq C0.1 C0.2.1 C0.2.2.2.2.2.1 hW.1 hW.2.1 hS a 6 b 2 (v := α b) hg rfl hgb rfl hin d (fun H1 locs1 hP1 hD1 hS1 => ?_)
  have hfun : va_up (fun q => (f q).map α) i.toNatClampNeg (some (α b)) = (fun q => (va_up f j (some b) q).map α) := by
    funext q
    rw [hjj]
    unfold va_up
    split <;> rfl
  rw [hfun] at hP1 hD1
  exact K p l e s m args below meth c base D T C0 α H1 L locs1 Fin hC (ab_Wd.set (e := .inl (6, len, .inr (.inr (.inr (.inr (va_up f j (some b))))))) ha hW (fun q r hq => by
    unfold va_up at hq
    split at hq
    · cases hq; exact Or.inl hb
    · exact hw q r hq) hP1 hD1) hL (ab_wst (ab_wst (ab_wst hs))) hl hS1 hF hT
theorem wa_aastR {a len j b : Nat} {f : Nat → Option Nat} {fs : List Value} {i : Int32} (d : decode cc pc = .ok (.aastore, 1)) (ha : a < n) (he : h a = .inl (7, len, .inr (.inr (.inr (.inr f))))) (hj : i.toInt = (j : Int)) (hjl : j < len) (hb : b < n) (hbe : h b = .inr (3, fs))
    (K : WX Xx own cc nL hh R Q k z (pc + 1) ls st n (ab_up h a (.inl (7, len, .inr (.inr (.inr (.inr (va_up f j (some b))))))))) : WX Xx own cc nL hh R Q k z pc ls (.ref b :: .int i :: .ref a :: st) n h := by
  intro p l e s m args below meth c base D T C0 α H L locs Fin hC hW hL hs hl hS hF hT
  have hg := ab_wl_get (α := α) (T := T) (h := h) ha
  have hgb := ab_wl_get (α := α) (T := T) (h := h) hb
  have hw := hW.2.2.1 a ha
  rw [he] at hg hw
  rw [hbe] at hgb
  obtain ⟨hin, hjj⟩ := ab_ix hj hjl
  refine va_astq C0.1 C0.2.1 C0.2.2.2.2.2.1 hW.1 hW.2.1 hS a 7 b 3 (v := α b) hg rfl hgb rfl hin d (fun H1 locs1 hP1 hD1 hS1 => ?_)
  have hfun : va_up (fun q => (f q).map α) i.toNatClampNeg (some (α b)) = (fun q => (va_up f j (some b) q).map α) := by
    funext q
    rw [hjj]
    unfold va_up
    split <;> rfl
  rw [hfun] at hP1 hD1
  exact K p l e s m args below meth c base D T C0 α H1 L locs1 Fin hC (ab_Wd.set (e := .inl (7, len, .inr (.inr (.inr (.inr (va_up f j (some b))))))) ha hW (fun q r hq => by
    unfold va_up at hq
    split at hq
    · cases hq; exact Or.inl hb
    · exact hw q r hq) hP1 hD1) hL (ab_wst (ab_wst (ab_wst hs))) hl hS1 hF hT
theorem wa_alen {a t len : Nat} {x : (Nat → Int32) ⊕ (Nat → Int64) ⊕ (Nat → UInt32) ⊕ (Nat → UInt64) ⊕ (Nat → Option Nat)} {v : Int32} (d : decode cc pc = .ok (.arraylength, 1)) (ht : t < 9) (ha : ab_dom n h a) (he : h a = .inl (t, len, x)) (hv : Int32.ofNat len = v)
    (K : WX Xx own cc nL hh R Q k z (pc + 1) ls (.int v :: st) n h) : WX Xx own cc nL hh R Q k z pc ls (.ref a :: st) n h := by
  intro p l e s m args below meth c base D T C0 α H L locs Fin hC hW hL hs hl hS hF hT
  rcases ab_cst hC ha with ha | ⟨hk9, -⟩
  case inr =>
    rw [he] at hk9
    have K9 := K p l e s m args below meth c base D T C0 α H L locs Fin hC hW hL (ab_ws1 ab_wi (ab_wst hs)) hl hS hF hT
    rcases x with f | f | f | f | f
    · obtain ⟨ty9, -, hT9⟩ := hk9
      exact va_tlen C0.1 C0.2.1 hT9 hS hv d K9
    · exact False.elim hk9
    · exact False.elim hk9
    · exact False.elim hk9
    · obtain ⟨ty9, -, hT9⟩ := hk9
      exact va_tlen C0.1 C0.2.1 hT9 hS hv d K9
  obtain ⟨hP, hw⟩ := ab_pt hW ha
  rw [he] at hP
  have hx : ∀ x, (ab_ca α (len, x)).1 = len := by
    intro x
    rcases x with x | x | x | x | x <;> rfl
  have ht2 : ∃ ty, (ab_tys T)[t]? = some (T t, ty) := by
    unfold ab_tys
    match t, ht with
    | 0, _ => exact ⟨_, rfl⟩
    | 1, _ => exact ⟨_, rfl⟩
    | 2, _ => exact ⟨_, rfl⟩
    | 3, _ => exact ⟨_, rfl⟩
    | 4, _ => exact ⟨_, rfl⟩
    | 5, _ => exact ⟨_, rfl⟩
    | 6, _ => exact ⟨_, rfl⟩
    | 7, _ => exact ⟨_, rfl⟩
    | 8, _ => exact ⟨_, rfl⟩
  obtain ⟨ty, ht2⟩ := ht2
  exact va_alen C0.1 C0.2.1 C0.2.2.2.2.2.1 hP 0 t (x := ab_ca α (len, x)) rfl ht2 (by rw [hx, hv]) d
    (K p l e s m args below meth c base D T C0 α H L locs Fin hC hW hL (ab_ws1 ab_wi (ab_wst hs)) hl hS hF hT)
theorem wa_gets {index : Nat} {v : Value} {C f ds : String} (d : decode cc pc = .ok (.getstatic index, 3)) (hq : (C, f, ds, v) ∈ ab_st) (hlink : Cond.fieldLink own index C f ds ∈ ab_big) (hv : ab_wv 0 v)
    (K : WX Xx own cc nL hh R Q k z (pc + 3) ls (v :: st) n h) : WX Xx own cc nL hh R Q k z pc ls st n h := by
  intro p l e s m args below meth c base D T C0 α H L locs Fin hC hW hL hs hl hS hF hT
  exact va_gets C0.1 C0.2.1 (v := ab_cv α v) (hC.2.2.2.1 _ hq) hS C0.2.2.2.1 (C0.2.2.2.2.1 _ hlink) (fun x hx => hx) d (K p l e s m args below meth c base D T C0 α H L locs Fin hC hW hL (ab_ws1 (hv.mono (Nat.zero_le _)) hs) hl hS hF hT)
theorem wa_getsSI {index : Nat} (d : decode cc pc = .ok (.getstatic index, 3)) (hlink : Cond.fieldLink own index "jdk/internal/util/Preconditions" "SIOOBE_FORMATTER" "Ljava/util/function/BiFunction;" ∈ ab_big)
    (K : ∀ w : Value, (w = .null ∨ w = .ref (ab_CB + 134)) → WX Xx own cc nL hh R Q k z (pc + 3) ls (w :: st) n h) : WX Xx own cc nL hh R Q k z pc ls st n h := by
  intro p l e s m args below meth c base D T C0 α H L locs Fin hC hW hL hs hl hS hF hT
  obtain ⟨w, hw, hz⟩ := hC.2.2.2.2.2.2.2.2.2.2.2.2.2
  have hv : ab_wv n w := by
    rcases hw with rfl | rfl
    · trivial
    · exact Or.inr (by omega)
  exact va_gets C0.1 C0.2.1 (v := ab_cv α w) hz hS C0.2.2.2.1 (C0.2.2.2.2.1 _ hlink) (fun x hx => hx) d (K w hw p l e s m args below meth c base D T C0 α H L locs Fin hC hW hL (ab_ws1 hv hs) hl hS hF hT)
theorem wa_getsN {index : Nat} {v : Value} {C f ds host : String} (d : decode cc pc = .ok (.getstatic index, 3)) (hq : (C, f, ds, v) ∈ ab_st) (hlink : (own, index, C, f, ds, host) ∈ ab_nF) (hv : ab_wv 0 v)
    (K : WX Xx own cc nL hh R Q k z (pc + 3) ls (v :: st) n h) : WX Xx own cc nL hh R Q k z pc ls st n h := by
  intro p l e s m args below meth c base D T C0 α H L locs Fin hC hW hL hs hl hS hF hT
  exact va_getsN C0.1 C0.2.1 (v := ab_cv α v) (hC.2.2.2.1 _ hq) hS C0.2.2.2.1 (va_Nw.use rfl (hC.2.2.2.2.2.2.2.1 _ hlink)) (fun x hx => hx) d (K p l e s m args below meth c base D T C0 α H L locs Fin hC hW hL (ab_ws1 (hv.mono (Nat.zero_le _)) hs) hl hS hF hT)
theorem wa_ldcS {index j : Nat} {tx : String} {b : List Int32} (d : decode cc pc = .ok (.ldc index, 2)) (hq : ab_lits[j]? = some (own, index, tx, b))
    (K : WX Xx own cc nL hh R Q k z (pc + 2) ls (.ref (ab_CB + 2 * j) :: st) n h) : WX Xx own cc nL hh R Q k z pc ls st n h := by
  intro p l e s m args below meth c base D T C0 α H L locs Fin hC hW hL hs hl hS hF hT
  exact va_ldcS C0.1 C0.2.1 C0.2.2.2.1 (hC.2.2.2.2.1 j _ hq) d (K p l e s m args below meth c base D T C0 α H L locs Fin hC hW hL (ab_ws1 (v := .ref (ab_CB + 2 * j)) (Or.inr (by omega)) hs) hl hS hF hT)
theorem wa_ldc {index : Nat} {v : Int32} (d : decode cc pc = .ok (.ldc index, 2)) (hlink : Cond.constant own index v ∈ ab_big)
    (K : WX Xx own cc nL hh R Q k z (pc + 2) ls (.int v :: st) n h) : WX Xx own cc nL hh R Q k z pc ls st n h := by
  intro p l e s m args below meth c base D T C0 α H L locs Fin hC hW hL hs hl hS hF hT
  exact lv_ldc C0.1 C0.2.1 C0.2.2.2.1 (C0.2.2.2.2.1 _ hlink) d (K p l e s m args below meth c base D T C0 α H L locs Fin hC hW hL (ab_ws1 ab_wi hs) hl hS hF hT)
theorem wa_ldcw {index : Nat} {v : Int32} (d : decode cc pc = .ok (.ldc_w index, 3)) (hlink : Cond.constant own index v ∈ ab_big)
    (K : WX Xx own cc nL hh R Q k z (pc + 3) ls (.int v :: st) n h) : WX Xx own cc nL hh R Q k z pc ls st n h := by
  intro p l e s m args below meth c base D T C0 α H L locs Fin hC hW hL hs hl hS hF hT
  exact lv_ldcw C0.1 C0.2.1 C0.2.2.2.1 (C0.2.2.2.2.1 _ hlink) d (K p l e s m args below meth c base D T C0 α H L locs Fin hC hW hL (ab_ws1 ab_wi hs) hl hS hF hT)
theorem wa_ldcf {index : Nat} {v : UInt32} (d : decode cc pc = .ok (.ldc index, 2)) (hlink : Cond.constantFloat own index v ∈ ab_big)
    (K : WX Xx own cc nL hh R Q k z (pc + 2) ls (.float v :: st) n h) : WX Xx own cc nL hh R Q k z pc ls st n h := by
  intro p l e s m args below meth c base D T C0 α H L locs Fin hC hW hL hs hl hS hF hT
  exact lv_ldcf C0.1 C0.2.1 C0.2.2.2.1 (C0.2.2.2.2.1 _ hlink) d (K p l e s m args below meth c base D T C0 α H L locs Fin hC hW hL (ab_ws1 ab_wf hs) hl hS hF hT)
theorem wa_ldc2 {index : Nat} {v : Int64} (d : decode cc pc = .ok (.ldc2_w index, 3)) (hlink : Cond.constantLong own index v ∈ ab_big)
    (K : WX Xx own cc nL hh R Q k z (pc + 3) ls (.long v :: st) n h) : WX Xx own cc nL hh R Q k z pc ls st n h := by
  intro p l e s m args below meth c base D T C0 α H L locs Fin hC hW hL hs hl hS hF hT
  exact lv_ldc2 C0.1 C0.2.1 C0.2.2.2.1 (C0.2.2.2.2.1 _ hlink) d (K p l e s m args below meth c base D T C0 α H L locs Fin hC hW hL (ab_ws1 ab_wl' hs) hl hS hF hT)
end AR
