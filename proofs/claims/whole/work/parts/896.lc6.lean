/-! The law's cases: buffers, direct answers. Written by program (wip/whole/gen/m890.py). -/
theorem lc_append {L : Nat} {xs : Nat → Int32} {Q : ab_Q} {k z n i c : Nat} {a b c1 d : Option Value} {S : SS} {T : Int} (hi : i + 6 ≤ L) (hL : L ≤ 3072) (hI : INV T n c S) (hT0 : 0 ≤ T) (hT : T ≤ 110000) (hk : k + 80 ≤ 601024) (hz : z + 13300 ≤ 7293034) (hnb : n + 80 ≤ 900000) (hQ : LK L xs Q T n k z i) : LX L xs Q k z 268 (lsL i a b c1 d) [] n (Hp S) := by
  have hn := hI.n
  have hh := hI.hh
  have hg := hI.gg
  have hm := hI.m
  have hcb := hI.1.2.1
  have e9 : ab_CB = 1000000 := rfl
  obtain ⟨m, hm5, hm1, hm6, -, -⟩ := hI.inp
  by_cases h1 : m ≤ 480
  · skip
    refine wa_aload_n dL_law_268 rfl ?_
    refine l_rd (q := 1) (x := xs (i + 1)) rfl dL_law_269 dL_law_270 dL_law_272 dL_law_273 dL_law_274 (by decide) (by omega) hL ?_
    refine l_rd (q := 2) (x := xs (i + 2)) rfl dL_law_275 dL_law_276 dL_law_278 dL_law_279 dL_law_280 (by decide) (by omega) hL ?_
    refine l_rd (q := 3) (x := xs (i + 3)) rfl dL_law_281 dL_law_282 dL_law_284 dL_law_285 dL_law_286 (by decide) (by omega) hL ?_
    refine l_rd (q := 4) (x := xs (i + 4)) rfl dL_law_287 dL_law_288 dL_law_290 dL_law_291 dL_law_292 (by decide) (by omega) hL ?_
    refine l_rd (q := 5) (x := xs (i + 5)) rfl dL_law_293 dL_law_294 dL_law_296 dL_law_297 dL_law_298 (by decide) (by omega) hL ?_
    refine wa_aload_n dL_law_299 rfl ?_
    refine wa_callW (As := [.ref 0, .int (xs (i + 1)), .int (xs (i + 2)), .int (xs (i + 3)), .int (xs (i + 4)), .int (xs (i + 5)), .ref 277]) dL_law_300 lk_L_153 (wl_append_0 (P := fun v' n' S' => n' = n ∧ v' = (nI (m + 20)) ∧ S' = aps 2 1 1 m (b20 (xs (i + 1)) (xs (i + 2)) (xs (i + 3)) (xs (i + 4)) (xs (i + 5))) S) hn (vr_append_0 hn hm1 h1 (xs (i + 1)) (xs (i + 2)) (xs (i + 3)) (xs (i + 4)) (xs (i + 5))) (fun r n' h' q => ⟨_, _, q.1, q.2.2, q.2.1, rfl, rfl⟩)) rfl (by exact Nat.le_of_ble_eq_true rfl) (fitL (by decide) (by decide) (by omega) (by omega)) (by exact Nat.le_of_ble_eq_true rfl) (fun ro n' h' q _ => ?_) (fun E n' h' q _ => by cases q.1)
    obtain ⟨q1, v, S', q2, -, q3, q4, q5⟩ := q
    cases q1
    rw [q2, q3, q4, q5]
    have e6 : (so (aps 2 1 1 m (b20 (xs (i + 1)) (xs (i + 2)) (xs (i + 3)) (xs (i + 4)) (xs (i + 5))) S) (((nI (m + 20)) : Int32).toInt64)).1 267 6 = nI m := (congrFun (show (aps 2 1 1 m (b20 (xs (i + 1)) (xs (i + 2)) (xs (i + 3)) (xs (i + 4)) (xs (i + 5))) S).1 267 = S.1 267 from aps_n (by decide) (by decide) _ _ _) 6).trans hm6
    have hN := hI.append hm1 hm6 h1 (xs (i + 1)) (xs (i + 2)) (xs (i + 3)) (xs (i + 4)) (xs (i + 5)) (((nI (m + 20)) : Int32).toInt64)
    have hM := mm_append_0 (S := so (aps 2 1 1 m (b20 (xs (i + 1)) (xs (i + 2)) (xs (i + 3)) (xs (i + 4)) (xs (i + 5))) S) (((nI (m + 20)) : Int32).toInt64)) hn e6 h1 (xs (i + 1)) (xs (i + 2)) (xs (i + 3)) (xs (i + 4)) (xs (i + 5))
    rw [app20 ((th_k _ 0 (by decide)).trans e6) h1] at hM
    refine wa_istore dL_law_303 rfl ?_
    refine wa_aload_n dL_law_305 rfl ?_
    refine l_rd (q := 1) (x := xs (i + 1)) rfl dL_law_306 dL_law_307 dL_law_309 dL_law_310 dL_law_311 (by decide) (by omega) hL ?_
    refine l_rd (q := 2) (x := xs (i + 2)) rfl dL_law_312 dL_law_313 dL_law_315 dL_law_316 dL_law_317 (by decide) (by omega) hL ?_
    refine l_rd (q := 3) (x := xs (i + 3)) rfl dL_law_318 dL_law_319 dL_law_321 dL_law_322 dL_law_323 (by decide) (by omega) hL ?_
    refine l_rd (q := 4) (x := xs (i + 4)) rfl dL_law_324 dL_law_325 dL_law_327 dL_law_328 dL_law_329 (by decide) (by omega) hL ?_
    refine l_rd (q := 5) (x := xs (i + 5)) rfl dL_law_330 dL_law_331 dL_law_333 dL_law_334 dL_law_335 (by decide) (by omega) hL ?_
    refine c_VI dL_law_336 hM lk_L_158 rfl (isO_MO _ _ _) rfl (ltS (by omega)) ?_ (hR := (fitL (by decide) (by decide) (by omega) (by omega)))
    exact l_tail0 dL_law_339 dL_law_341 dL_law_342 dL_law_345 dL_law_347 dL_law_352 dL_law_354 dL_law_357 dL_law_358 dL_law_359 dL_law_360 dL_law_362 dL_law_363 dL_law_364 dL_law_369 (by decide) (by omega) ((aps_b (by decide) (by decide) _ _ _).trans (th_0 _ _)) rfl (by omega) (by omega) (hQ _ _ _ _ _ _ _ _ _ (by omega) (by omega) (by omega) (by omega) (hN.mono (by omega) (Nat.le_refl _) hcb))
  · skip
    refine wa_aload_n dL_law_268 rfl ?_
    refine l_rd (q := 1) (x := xs (i + 1)) rfl dL_law_269 dL_law_270 dL_law_272 dL_law_273 dL_law_274 (by decide) (by omega) hL ?_
    refine l_rd (q := 2) (x := xs (i + 2)) rfl dL_law_275 dL_law_276 dL_law_278 dL_law_279 dL_law_280 (by decide) (by omega) hL ?_
    refine l_rd (q := 3) (x := xs (i + 3)) rfl dL_law_281 dL_law_282 dL_law_284 dL_law_285 dL_law_286 (by decide) (by omega) hL ?_
    refine l_rd (q := 4) (x := xs (i + 4)) rfl dL_law_287 dL_law_288 dL_law_290 dL_law_291 dL_law_292 (by decide) (by omega) hL ?_
    refine l_rd (q := 5) (x := xs (i + 5)) rfl dL_law_293 dL_law_294 dL_law_296 dL_law_297 dL_law_298 (by decide) (by omega) hL ?_
    refine wa_aload_n dL_law_299 rfl ?_
    refine wa_callW (As := [.ref 0, .int (xs (i + 1)), .int (xs (i + 2)), .int (xs (i + 3)), .int (xs (i + 4)), .int (xs (i + 5)), .ref 277]) dL_law_300 lk_L_153 (wl_append_1 hn (vr_append_1 hn hm1 hm5 h1 (xs (i + 1)) (xs (i + 2)) (xs (i + 3)) (xs (i + 4)) (xs (i + 5)))) rfl (by exact Nat.le_of_ble_eq_true rfl) (fitL (by decide) (by decide) (by omega) (by omega)) (by exact Nat.le_of_ble_eq_true rfl) (fun ro n' h' q _ => ?_) (fun E n' h' q _ => by cases q.1)
    obtain ⟨q1, q2, q3⟩ := q
    rw [q2, q3]
    cases q1
    refine wa_istore dL_law_303 rfl ?_
    refine wa_aload_n dL_law_305 rfl ?_
    refine l_rd (q := 1) (x := xs (i + 1)) rfl dL_law_306 dL_law_307 dL_law_309 dL_law_310 dL_law_311 (by decide) (by omega) hL ?_
    refine l_rd (q := 2) (x := xs (i + 2)) rfl dL_law_312 dL_law_313 dL_law_315 dL_law_316 dL_law_317 (by decide) (by omega) hL ?_
    refine l_rd (q := 3) (x := xs (i + 3)) rfl dL_law_318 dL_law_319 dL_law_321 dL_law_322 dL_law_323 (by decide) (by omega) hL ?_
    refine l_rd (q := 4) (x := xs (i + 4)) rfl dL_law_324 dL_law_325 dL_law_327 dL_law_328 dL_law_329 (by decide) (by omega) hL ?_
    refine l_rd (q := 5) (x := xs (i + 5)) rfl dL_law_330 dL_law_331 dL_law_333 dL_law_334 dL_law_335 (by decide) (by omega) hL ?_
    refine c_VI dL_law_336 (mm_append_1 hn hm6 hm5 h1 (xs (i + 1)) (xs (i + 2)) (xs (i + 3)) (xs (i + 4)) (xs (i + 5))) lk_L_158 rfl (isO_MO _ _ _) rfl (ltS (by omega)) ?_ (hR := (fitL (by decide) (by decide) (by omega) (by omega)))
    exact l_tailE (j := 1) dL_law_339 dL_law_341 dL_law_342 dL_law_345 dL_law_347 dL_law_352 (o2 := 15) dL_law_354 dL_law_369 (by decide) (by omega) (by decide) (by decide) (th_0 _ _) (by omega) (by omega) (hQ _ _ _ _ _ _ _ _ _ (by omega) (by omega) (by omega) (by omega) ((hI.thI 1).mono (by omega) (Nat.le_refl _) hcb))
theorem lc_truncate {L : Nat} {xs : Nat → Int32} {Q : ab_Q} {k z n i c : Nat} {a b c1 d : Option Value} {S : SS} {T : Int} (hi : i + 6 ≤ L) (hL : L ≤ 3072) (hI : INV T n c S) (hT0 : 0 ≤ T) (hT : T ≤ 110000) (hk : k + 80 ≤ 601024) (hz : z + 13300 ≤ 7293034) (hnb : n + 80 ≤ 900000) (hQ : LK L xs Q T n k z i) : LX L xs Q k z 372 (lsL i a b c1 d) [] n (Hp S) := by
  have hn := hI.n
  have hh := hI.hh
  have hg := hI.gg
  have hm := hI.m
  have hcb := hI.1.2.1
  have e9 : ab_CB = 1000000 := rfl
  obtain ⟨m, hm5, hm1, hm6, -, -⟩ := hI.inp
  by_cases h1 : inr (xs (i + 1)) 0 (S.1 1 1)
  · skip
    have h1m := h1
    rw [hm1] at h1m
    obtain ⟨w, hw, e1⟩ := in_nI (by omega) h1m
    have h1' : inr (nI w) 0 (S.1 1 1) := by rw [← e1]; exact h1
    refine wa_aload_n dL_law_372 rfl ?_
    refine l_rd (q := 1) (x := nI w) e1 dL_law_373 dL_law_374 dL_law_376 dL_law_377 dL_law_378 (by decide) (by omega) hL ?_
    refine wa_callW (As := [.ref 0, .int (nI w)]) dL_law_379 lk_L_162 (wl_truncate_0 (P := fun n' S' => n' = n ∧ S' = ss S 1 1 (nI w)) hn (vr_truncate_0 hn _ h1') (fun r n' h' q => ⟨_, q.1, q.2.2, q.2.1, rfl⟩)) rfl (by exact Nat.le_of_ble_eq_true rfl) (fitL (by decide) (by decide) (by omega) (by omega)) (by exact Nat.le_of_ble_eq_true rfl) (fun ro n' h' q _ => ?_) (fun E n' h' q _ => by cases q.1)
    obtain ⟨q1, S', q2, -, q3, q5⟩ := q
    cases q1
    rw [q2, q3, q5]
    have hN := hI.len hm1 hm5 hw
    have hM := mm_truncate_0 (S := ss S 1 1 (nI w)) hn (nI w) (by rw [show (ss S 1 1 (nI w)).1 267 6 = S.1 1 1 from hm6.trans hm1.symm]; exact h1')
    refine wa_istore dL_law_382 rfl ?_
    refine wa_aload_n dL_law_384 rfl ?_
    refine l_rd (q := 1) (x := nI w) e1 dL_law_385 dL_law_386 dL_law_388 dL_law_389 dL_law_390 (by decide) (by omega) hL ?_
    refine c_VV dL_law_391 hM lk_L_165 rfl (isO_MO _ _ _) rfl (ltS (by omega)) ?_ (hR := (fitL (by decide) (by decide) (by omega) (by omega)))
    exact l_tailV (j := 0) dL_law_394 dL_law_395 dL_law_398 dL_law_400 dL_law_405 (by decide) (by omega) ((ss_j _ _ (by decide)).trans (th_0 _ _)) (by omega) (by omega) (hQ _ _ _ _ _ _ _ _ _ (by omega) (by omega) (by omega) (by omega) (hN.mono (by omega) (Nat.le_refl _) hcb))
  · skip
    refine wa_aload_n dL_law_372 rfl ?_
    refine l_rd (q := 1) (x := xs (i + 1)) rfl dL_law_373 dL_law_374 dL_law_376 dL_law_377 dL_law_378 (by decide) (by omega) hL ?_
    refine wa_callW (As := [.ref 0, .int (xs (i + 1))]) dL_law_379 lk_L_162 (wl_truncate_1 hn (vr_truncate_1 hn _ h1)) rfl (by exact Nat.le_of_ble_eq_true rfl) (fitL (by decide) (by decide) (by omega) (by omega)) (by exact Nat.le_of_ble_eq_true rfl) (fun ro n' h' q _ => ?_) (fun E n' h' q _ => by cases q.1)
    obtain ⟨q1, q2, q3⟩ := q
    rw [q2, q3]
    cases q1
    refine wa_istore dL_law_382 rfl ?_
    refine wa_aload_n dL_law_384 rfl ?_
    refine l_rd (q := 1) (x := xs (i + 1)) rfl dL_law_385 dL_law_386 dL_law_388 dL_law_389 dL_law_390 (by decide) (by omega) hL ?_
    refine c_VV dL_law_391 (mm_truncate_1 hn _ (fun z => h1 (by rw [hm1, ← hm6]; exact z))) lk_L_165 rfl (isO_MO _ _ _) rfl (ltS (by omega)) ?_ (hR := (fitL (by decide) (by decide) (by omega) (by omega)))
    exact l_tailV (j := 1) dL_law_394 dL_law_395 dL_law_398 dL_law_400 dL_law_405 (by decide) (by omega) (th_0 _ _) (by omega) (by omega) (hQ _ _ _ _ _ _ _ _ _ (by omega) (by omega) (by omega) (by omega) ((hI.thI 1).mono (by omega) (Nat.le_refl _) hcb))
theorem lc_outputByte {L : Nat} {xs : Nat → Int32} {Q : ab_Q} {k z n i c : Nat} {a b c1 d : Option Value} {S : SS} {T : Int} (hi : i + 6 ≤ L) (hL : L ≤ 3072) (hI : INV T n c S) (hT0 : 0 ≤ T) (hT : T ≤ 110000) (hk : k + 80 ≤ 601024) (hz : z + 13300 ≤ 7293034) (hnb : n + 80 ≤ 900000) (hQ : LK L xs Q T n k z i) : LX L xs Q k z 3044 (lsL i a b c1 d) [] n (Hp S) := by
  have hn := hI.n
  have hh := hI.hh
  have hg := hI.gg
  have hm := hI.m
  have hcb := hI.1.2.1
  have e9 : ab_CB = 1000000 := rfl
  obtain ⟨m, j, f, hsb, hj5, hm5, h20, hf⟩ := hI.ou
  have hpl := pl_iff (x := xs (i + 1)) (m := m) (by omega) h20
  by_cases h1 : 0 ≤ xs (i + 1) ∧ xs (i + 1) < nI m
  · skip
    obtain ⟨w, hw, e1⟩ := rk_nI (by omega) rfl h1
    have h1m : inr (nI w) 0 (S.1 267 20 - 1) := by rw [← e1]; exact hpl.mpr (by rw [h20]; exact h1)
    refine wa_aload_n dL_law_3044 rfl ?_
    refine l_rd (q := 1) (x := nI w) e1 dL_law_3045 dL_law_3046 dL_law_3048 dL_law_3049 dL_law_3050 (by decide) (by omega) hL ?_
    refine wa_aload_n dL_law_3051 rfl ?_
    refine wa_callW (As := [.ref 0, .int (nI w), .ref 277]) dL_law_3052 lk_L_331 (wl_outputByte_0 (P := fun v' n' S' => n' = n ∧ v' = (f w) ∧ S' = S) hn (vr_outputByte_0 hn hsb hw) (fun r n' h' q => ⟨_, _, q.1, q.2.2, q.2.1, rfl, rfl⟩)) rfl (by exact Nat.le_of_ble_eq_true rfl) (fitL (by decide) (by decide) (by omega) (by omega)) (by exact Nat.le_of_ble_eq_true rfl) (fun ro n' h' q _ => ?_) (fun E n' h' q _ => by cases q.1)
    obtain ⟨q1, v, S', q2, -, q3, q4, q5⟩ := q
    cases q1
    rw [q2, q3, q4, q5]
    have hI0 := hI.soI ((f w) : Int32).toInt64
    refine wa_istore dL_law_3055 rfl ?_
    refine wa_aload_n dL_law_3057 rfl ?_
    refine l_rd (q := 1) (x := nI w) e1 dL_law_3058 dL_law_3059 dL_law_3061 dL_law_3062 dL_law_3063 (by decide) (by omega) hL ?_
    refine c_VI dL_law_3064 (AM.v (mm_outputByte_0 hn (by omega) h1m) (hf w hw).symm) lk_L_333 rfl (isO_MO _ _ _) rfl (ltS (by omega)) ?_ (hR := (fitL (by decide) (by decide) (by omega) (by omega)))
    exact l_tail0 dL_law_3067 dL_law_3069 dL_law_3070 dL_law_3073 dL_law_3075 dL_law_3080 dL_law_3082 dL_law_3085 dL_law_3086 dL_law_3087 dL_law_3088 dL_law_3090 dL_law_3091 dL_law_3092 dL_law_3097 (by decide) (by omega) (th_0 _ _) rfl (by omega) (by omega) (hQ _ _ _ _ _ _ _ _ _ (by omega) (by omega) (by omega) (by omega) ((hI0.thI 0).mono (by omega) (Nat.le_refl _) hcb))
  · skip
    refine wa_aload_n dL_law_3044 rfl ?_
    refine l_rd (q := 1) (x := xs (i + 1)) rfl dL_law_3045 dL_law_3046 dL_law_3048 dL_law_3049 dL_law_3050 (by decide) (by omega) hL ?_
    refine wa_aload_n dL_law_3051 rfl ?_
    refine wa_callW (As := [.ref 0, .int (xs (i + 1)), .ref 277]) dL_law_3052 lk_L_331 (wl_outputByte_1 hn (vr_outputByte_1 hn hsb h1)) rfl (by exact Nat.le_of_ble_eq_true rfl) (fitL (by decide) (by decide) (by omega) (by omega)) (by exact Nat.le_of_ble_eq_true rfl) (fun ro n' h' q _ => ?_) (fun E n' h' q _ => by cases q.1)
    obtain ⟨q1, q2, q3⟩ := q
    rw [q2, q3]
    cases q1
    refine wa_istore dL_law_3055 rfl ?_
    refine wa_aload_n dL_law_3057 rfl ?_
    refine l_rd (q := 1) (x := xs (i + 1)) rfl dL_law_3058 dL_law_3059 dL_law_3061 dL_law_3062 dL_law_3063 (by decide) (by omega) hL ?_
    refine c_VI dL_law_3064 (mm_outputByte_1 hn _ (fun z => h1 (by have := hpl.mp z; rw [h20] at this; exact this))) lk_L_333 rfl (isO_MO _ _ _) rfl (ltS (by omega)) ?_ (hR := (fitL (by decide) (by decide) (by omega) (by omega)))
    exact l_tailE (j := 1) dL_law_3067 dL_law_3069 dL_law_3070 dL_law_3073 dL_law_3075 dL_law_3080 (o2 := 15) dL_law_3082 dL_law_3097 (by decide) (by omega) (by decide) (by decide) (th_0 _ _) (by omega) (by omega) (hQ _ _ _ _ _ _ _ _ _ (by omega) (by omega) (by omega) (by omega) ((hI.thI 1).mono (by omega) (Nat.le_refl _) hcb))
theorem lc_errorCode {L : Nat} {xs : Nat → Int32} {Q : ab_Q} {k z n i c : Nat} {a b c1 d : Option Value} {S : SS} {T : Int} (hi : i + 6 ≤ L) (hL : L ≤ 3072) (hI : INV T n c S) (hT0 : 0 ≤ T) (hT : T ≤ 110000) (hk : k + 80 ≤ 601024) (hz : z + 13300 ≤ 7293034) (hnb : n + 80 ≤ 900000) (hQ : LK L xs Q T n k z i) : LX L xs Q k z 421 (lsL i a b c1 d) [] n (Hp S) := by
  have hn := hI.n
  have hh := hI.hh
  have hg := hI.gg
  have hm := hI.m
  have hcb := hI.1.2.1
  have e9 : ab_CB = 1000000 := rfl
  refine wa_aload_n dL_law_421 rfl ?_
  refine c_VI dL_law_422 (vr_errorCode hn) lk_L_170 rfl (isO_VR _ _ _) rfl (ltS hn) ?_ (hR := (fitL (by decide) (by decide) (by omega) (by omega)))
  refine wa_aload_n dL_law_425 rfl ?_
  refine c_VI dL_law_426 (mm_errorCode hn) lk_L_173 rfl (isO_MO _ _ _) rfl (ltS hn) ?_ (hR := (fitL (by decide) (by decide) (by omega) (by omega)))
  exact wa_icmp_eq 3100 dL_law_429 (by decide) (fun _ => (hQ _ _ _ _ _ _ _ _ _ (by omega) (by omega) (by omega) (by omega) ((hI.thI 0).mono (by omega) (Nat.le_refl _) hcb))) (fun z => absurd hI.er.1 z)
theorem lc_errorPosition {L : Nat} {xs : Nat → Int32} {Q : ab_Q} {k z n i c : Nat} {a b c1 d : Option Value} {S : SS} {T : Int} (hi : i + 6 ≤ L) (hL : L ≤ 3072) (hI : INV T n c S) (hT0 : 0 ≤ T) (hT : T ≤ 110000) (hk : k + 80 ≤ 601024) (hz : z + 13300 ≤ 7293034) (hnb : n + 80 ≤ 900000) (hQ : LK L xs Q T n k z i) : LX L xs Q k z 434 (lsL i a b c1 d) [] n (Hp S) := by
  have hn := hI.n
  have hh := hI.hh
  have hg := hI.gg
  have hm := hI.m
  have hcb := hI.1.2.1
  have e9 : ab_CB = 1000000 := rfl
  refine wa_aload_n dL_law_434 rfl ?_
  refine c_VI dL_law_435 (vr_errorPosition hn) lk_L_174 rfl (isO_VR _ _ _) rfl (ltS hn) ?_ (hR := (fitL (by decide) (by decide) (by omega) (by omega)))
  refine wa_aload_n dL_law_438 rfl ?_
  refine c_VI dL_law_439 (mm_errorPosition hn) lk_L_177 rfl (isO_MO _ _ _) rfl (ltS hn) ?_ (hR := (fitL (by decide) (by decide) (by omega) (by omega)))
  exact wa_icmp_eq 3100 dL_law_442 (by decide) (fun _ => (hQ _ _ _ _ _ _ _ _ _ (by omega) (by omega) (by omega) (by omega) ((hI.thI 0).mono (by omega) (Nat.le_refl _) hcb))) (fun z => absurd hI.er.2 z)
theorem lc_undoCount {L : Nat} {xs : Nat → Int32} {Q : ab_Q} {k z n i c : Nat} {a b c1 d : Option Value} {S : SS} {T : Int} (hi : i + 6 ≤ L) (hL : L ≤ 3072) (hI : INV T n c S) (hT0 : 0 ≤ T) (hT : T ≤ 110000) (hk : k + 80 ≤ 601024) (hz : z + 13300 ≤ 7293034) (hnb : n + 80 ≤ 900000) (hQ : LK L xs Q T n k z i) : LX L xs Q k z 2949 (lsL i a b c1 d) [] n (Hp S) := by
  have hn := hI.n
  have hh := hI.hh
  have hg := hI.gg
  have hm := hI.m
  have hcb := hI.1.2.1
  have e9 : ab_CB = 1000000 := rfl
  refine wa_aload_n dL_law_2949 rfl ?_
  refine c_VI dL_law_2950 (vr_undoCount hn) lk_L_316 rfl (isO_VR _ _ _) rfl (ltS hn) ?_ (hR := (fitL (by decide) (by decide) (by omega) (by omega)))
  refine wa_aload_n dL_law_2953 rfl ?_
  refine c_VI dL_law_2954 (mm_undoCount hn) lk_L_319 rfl (isO_MO _ _ _) rfl (ltS hn) ?_ (hR := (fitL (by decide) (by decide) (by omega) (by omega)))
  exact wa_icmp_eq 3100 dL_law_2957 (by decide) (fun _ => (hQ _ _ _ _ _ _ _ _ _ (by omega) (by omega) (by omega) (by omega) ((hI.thI 0).mono (by omega) (Nat.le_refl _) hcb))) (fun z => absurd (hI.h7.trans hI.h18.symm) z)
theorem lc_coldest {L : Nat} {xs : Nat → Int32} {Q : ab_Q} {k z n i c : Nat} {a b c1 d : Option Value} {S : SS} {T : Int} (hi : i + 6 ≤ L) (hL : L ≤ 3072) (hI : INV T n c S) (hT0 : 0 ≤ T) (hT : T ≤ 110000) (hk : k + 80 ≤ 601024) (hz : z + 13300 ≤ 7293034) (hnb : n + 80 ≤ 900000) (hQ : LK L xs Q T n k z i) : LX L xs Q k z 1656 (lsL i a b c1 d) [] n (Hp S) := by
  have hn := hI.n
  have hh := hI.hh
  have hg := hI.gg
  have hm := hI.m
  have hcb := hI.1.2.1
  have e9 : ab_CB = 1000000 := rfl
  refine wa_aload_n dL_law_1656 rfl ?_
  refine c_VI dL_law_1657 (vr_coldest hn hh hg (by omega)) lk_L_242 rfl (isO_VR _ _ _) rfl (ltS hn) ?_ (hR := (fitL (by decide) (by decide) (by omega) (by omega)))
  refine wa_aload_n dL_law_1660 rfl ?_
  refine c_VI dL_law_1661 (mm_coldest hn hm hg.1) lk_L_245 rfl (isO_MO _ _ _) rfl (ltS hn) ?_ (hR := (fitL (by decide) (by decide) (by omega) (by omega)))
  exact wa_icmp_eq 3100 dL_law_1664 (by decide) (fun _ => (hQ _ _ _ _ _ _ _ _ _ (by omega) (by omega) (by omega) (by omega) ((hI.thI 0).mono (by omega) (Nat.le_refl _) hcb))) (fun z => absurd rfl z)
theorem lc_farthest {L : Nat} {xs : Nat → Int32} {Q : ab_Q} {k z n i c : Nat} {a b c1 d : Option Value} {S : SS} {T : Int} (hi : i + 6 ≤ L) (hL : L ≤ 3072) (hI : INV T n c S) (hT0 : 0 ≤ T) (hT : T ≤ 110000) (hk : k + 80 ≤ 601024) (hz : z + 13300 ≤ 7293034) (hnb : n + 80 ≤ 900000) (hQ : LK L xs Q T n k z i) : LX L xs Q k z 1669 (lsL i a b c1 d) [] n (Hp S) := by
  have hn := hI.n
  have hh := hI.hh
  have hg := hI.gg
  have hm := hI.m
  have hcb := hI.1.2.1
  have e9 : ab_CB = 1000000 := rfl
  refine wa_aload_n dL_law_1669 rfl ?_
  refine c_VI dL_law_1670 (vr_farthest hn hh hg (by omega)) lk_L_246 rfl (isO_VR _ _ _) rfl (ltS hn) ?_ (hR := (fitL (by decide) (by decide) (by omega) (by omega)))
  refine wa_aload_n dL_law_1673 rfl ?_
  refine c_VI dL_law_1674 (mm_farthest hn hm hg.1) lk_L_249 rfl (isO_MO _ _ _) rfl (ltS hn) ?_ (hR := (fitL (by decide) (by decide) (by omega) (by omega)))
  exact wa_icmp_eq 3100 dL_law_1677 (by decide) (fun _ => (hQ _ _ _ _ _ _ _ _ _ (by omega) (by omega) (by omega) (by omega) ((hI.thI 0).mono (by omega) (Nat.le_refl _) hcb))) (fun z => absurd rfl z)
theorem lc_weakest {L : Nat} {xs : Nat → Int32} {Q : ab_Q} {k z n i c : Nat} {a b c1 d : Option Value} {S : SS} {T : Int} (hi : i + 6 ≤ L) (hL : L ≤ 3072) (hI : INV T n c S) (hT0 : 0 ≤ T) (hT : T ≤ 110000) (hk : k + 80 ≤ 601024) (hz : z + 13300 ≤ 7293034) (hnb : n + 80 ≤ 900000) (hQ : LK L xs Q T n k z i) : LX L xs Q k z 1682 (lsL i a b c1 d) [] n (Hp S) := by
  have hn := hI.n
  have hh := hI.hh
  have hg := hI.gg
  have hm := hI.m
  have hcb := hI.1.2.1
  have e9 : ab_CB = 1000000 := rfl
  refine wa_aload_n dL_law_1682 rfl ?_
  refine c_VI dL_law_1683 (vr_weakest hn hh hg (by omega)) lk_L_250 rfl (isO_VR _ _ _) rfl (ltS hn) ?_ (hR := (fitL (by decide) (by decide) (by omega) (by omega)))
  refine wa_aload_n dL_law_1686 rfl ?_
  refine c_VI dL_law_1687 (mm_weakest hn hm hg.1) lk_L_253 rfl (isO_MO _ _ _) rfl (ltS hn) ?_ (hR := (fitL (by decide) (by decide) (by omega) (by omega)))
  exact wa_icmp_eq 3100 dL_law_1690 (by decide) (fun _ => (hQ _ _ _ _ _ _ _ _ _ (by omega) (by omega) (by omega) (by omega) ((hI.thI 0).mono (by omega) (Nat.le_refl _) hcb))) (fun z => absurd rfl z)
theorem lc_find {L : Nat} {xs : Nat → Int32} {Q : ab_Q} {k z n i c : Nat} {a b c1 d : Option Value} {S : SS} {T : Int} (hi : i + 6 ≤ L) (hL : L ≤ 3072) (hI : INV T n c S) (hT0 : 0 ≤ T) (hT : T ≤ 110000) (hk : k + 80 ≤ 601024) (hz : z + 13300 ≤ 7293034) (hnb : n + 80 ≤ 900000) (hQ : LK L xs Q T n k z i) : LX L xs Q k z 447 (lsL i a b c1 d) [] n (Hp S) := by
  have hn := hI.n
  have hh := hI.hh
  have hg := hI.gg
  have hm := hI.m
  have hcb := hI.1.2.1
  have e9 : ab_CB = 1000000 := rfl
  obtain ⟨m, hm5, hm1, hm6, hmq, -⟩ := hI.inp
  obtain ⟨nf, nl, hnr, hnx⟩ := hI.2.1.2.2
  have hN := hI.len hm1 hm5 (Nat.zero_le m)
  refine wa_aload_n dL_law_447 rfl ?_
  refine c_VI dL_law_448 (vr_find hn hh hg hm1 hm5 hnx.nms) lk_L_178 rfl (isO_VR _ _ _) rfl (ltS hn) ?_ (hR := (fitL (by decide) (by decide) (by omega) (by omega)))
  refine wa_aload_n dL_law_451 rfl ?_
  refine c_VI dL_law_452 (mm_find (S := ss S 1 1 0) (T := T) hn hm hg.1 hm6 hm5) lk_L_181 rfl (isO_MO _ _ _) rfl (ltS hn) ?_ (hR := (fitL (by decide) (by decide) (by omega) (by omega)))
  exact wa_icmp_eq 3100 dL_law_455 (by decide) (fun _ => (hQ _ _ _ _ _ _ _ _ _ (by omega) (by omega) (by omega) (by omega) (hN.mono (by omega) (Nat.le_refl _) hcb))) (fun z => absurd ((find_eq hnr hm5).trans (by rw [hmq]; rfl)) z)
