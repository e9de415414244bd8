/-! ValveRoom$House: live. Written by program (wip/whole/gen/m715.py) but for the heads. -/
theorem RG.of {g g' : Nat → Int32} {i : Nat} (h : RG g i) (h1 : of g' i 1 = of g i 1) (h2 : of g' i 2 = of g i 2) (h5 : of g' i 5 = of g i 5) (h6 : of g' i 6 = of g i 6) : RG g' i := by
  unfold RG
  rw [h1, h2, h5, h6]
  exact h
theorem RG_pt {g : Nat → Int32} {i w : Nat} (h : RG g i) (x : Int32) (hw : w < 66) (h1 : ¬ w = 1) (h2 : ¬ w = 2) (h5 : ¬ w = 5) (h6 : ¬ w = 6) : RG (pt g i w x) i :=
  h.of (by rw [of_pt _ _ hw (by decide), if_neg (by omega)]) (by rw [of_pt _ _ hw (by decide), if_neg (by omega)]) (by rw [of_pt _ _ hw (by decide), if_neg (by omega)]) (by rw [of_pt _ _ hw (by decide), if_neg (by omega)])
theorem RG_ad {g : Nat → Int32} {i w : Nat} (h : RG g i) (x : Int32) (hw : w < 66) (h1 : ¬ w = 1) (h2 : ¬ w = 2) (h5 : ¬ w = 5) (h6 : ¬ w = 6) : RG (ad g i w x) i := RG_pt h _ hw h1 h2 h5 h6
theorem RG_warm {g : Nat → Int32} {i : Nat} (h : RG g i) : RG (f_warm i g) i := by
  have h1 : RG (f_warm1 i g) i := RG_pt h _ (by decide) (by decide) (by decide) (by decide) (by decide)
  unfold f_warm f_warm2
  split
  · exact RG_ad (RG_pt h1 _ (by decide) (by decide) (by decide) (by decide) (by decide)) _ (by decide) (by decide) (by decide) (by decide) (by decide)
  · split
    · exact RG_ad h1 _ (by decide) (by decide) (by decide) (by decide) (by decide)
    · exact h1
theorem RG_over {g : Nat → Int32} {i : Nat} (h : RG g i) : RG (f_over i g) i := by
  unfold f_over
  split
  · exact RG_ad h _ (by decide) (by decide) (by decide) (by decide) (by decide)
  · exact h
theorem l100 : (100 : Int32).toInt = 100 := by decide
theorem RG_ex1 {g : Nat → Int32} {i : Nat} (h : RG g i) : RG (f_drive i 100 100 g) i := RG_drive h (by rw [l100]; omega) (by rw [l100]; omega)
theorem RG_ex2 {g : Nat → Int32} {i : Nat} (h : RG g i) : RG (f_drive i 0 100 (f_drive i 100 100 g)) i := RG_drive (RG_ex1 h) (by rw [Int32.toInt_zero]; omega) (by rw [l100]; omega)
theorem RG_ex3 {g : Nat → Int32} {i : Nat} (h : RG g i) : RG (f_drive i (of g i 1) 100 (f_drive i 0 100 (f_drive i 100 100 g))) i := RG_drive (RG_ex2 h) h.1 (by rw [l100]; omega)
theorem RG_exif {g : Nat → Int32} {i : Nat} (h : RG g i) : RG (f_exif i g) i := by
  unfold f_exif
  split
  · exact RG_ad (RG_ex3 h) _ (by decide) (by decide) (by decide) (by decide) (by decide)
  · exact h
theorem LV.ex {S0 S : SS} {a r i : Nat} {g : Nat → Int32} (h : LV S0 S a r g i) (hg : RG g i) : drXN S r = drs g i 100 100 + drs (f_drive i 100 100 g) i 0 100 + drs (f_drive i 0 100 (f_drive i 100 100 g)) i (of g i 1) 100 ∧ LV S0 (drX S r) a r (f_ex i g) i := by
  obtain ⟨a1, b1⟩ := h.drive (to := 100) (most := 100) hg (by rw [l100]; omega) (by rw [l100]; omega)
  obtain ⟨a2, b2⟩ := b1.drive (to := 0) (most := 100) (RG_ex1 hg) (by rw [Int32.toInt_zero]; omega) (by rw [l100]; omega)
  obtain ⟨a3, b3⟩ := b2.drive (to := of g i 1) (most := 100) (RG_ex2 hg) hg.1 (by rw [l100]; omega)
  have ev : S.1 r 2 = of g i 1 := h.n (w := 1) (by decide)
  refine ⟨?_, ?_⟩
  · unfold drXN drX2 drX1
    rw [a1, a2, ev, a3]
  · have b4 := b3.cnt (c := 2) (by decide) (of (f_drive i (of g i 1) 100 (f_drive i 0 100 (f_drive i 100 100 g))) i 14 + 1)
    have e : (drX3 S r).1 (r + 1) 2 = of (f_drive i (of g i 1) 100 (f_drive i 0 100 (f_drive i 100 100 g))) i 14 := by
      unfold drX3 drX2 drX1
      rw [ev]
      exact b3.c (c := 2) (by decide)
    unfold drX
    rw [e]
    unfold drX3 drX2 drX1
    rw [ev]
    exact b4
theorem ad0 (g : Nat → Int32) (i w : Nat) : ad g i w 0 = g := by
  unfold ad of
  funext j
  unfold upd
  by_cases h : j = 71 + 66 * i + w
  · rw [if_pos h, h, Int32.add_zero]
  · rw [if_neg h]
theorem o12_drive (g : Nat → Int32) (i : Nat) (to most : Int32) : of (f_drive i to most g) i 12 = of g i 12 + drs g i to most := by
  unfold f_drive
  rw [of_ad _ _ (by decide) (by decide), if_pos ⟨rfl, rfl⟩, of_ad _ _ (by decide) (by decide), if_neg (by omega), of_ad _ _ (by decide) (by decide), if_neg (by omega)]
theorem o12_ad (g : Nat → Int32) (i : Nat) {w : Nat} (x : Int32) (hw : w < 66) (h : ¬ w = 12) : of (ad g i w x) i 12 = of g i 12 := by
  rw [of_ad _ _ hw (by decide), if_neg (by omega)]
theorem o12_pt (g : Nat → Int32) (i : Nat) {w : Nat} (x : Int32) (hw : w < 66) (h : ¬ w = 12) : of (pt g i w x) i 12 = of g i 12 := by
  rw [of_pt _ _ hw (by decide), if_neg (by omega)]
theorem o12_warm (g : Nat → Int32) (i : Nat) : of (f_warm i g) i 12 = of g i 12 := by
  have h1 : of (f_warm1 i g) i 12 = of g i 12 := o12_pt _ _ _ (by decide) (by decide)
  unfold f_warm f_warm2
  split
  · rw [o12_ad _ _ _ (by decide) (by decide), o12_pt _ _ _ (by decide) (by decide), h1]
  · split
    · rw [o12_ad _ _ _ (by decide) (by decide), h1]
    · exact h1
theorem o12_over (g : Nat → Int32) (i : Nat) : of (f_over i g) i 12 = of g i 12 := by
  unfold f_over
  split
  · rw [o12_ad _ _ _ (by decide) (by decide)]
  · rfl
theorem o12_fin (g : Nat → Int32) (i : Nat) : of (f_fin i g) i 12 = of g i 12 + drs g i (wnt g i) (g 9) := by
  unfold f_fin f_heat f_empty f_away
  rw [o12_ad _ _ _ (by decide) (by decide), o12_ad _ _ _ (by decide) (by decide), o12_ad _ _ _ (by decide) (by decide), o12_drive]
theorem add_sub_l (x y : Int32) : x + y - x = y := by rw [Int32.add_comm, Int32.add_sub_cancel]
theorem st_sum (c a b d e : Int32) : 0 + (a + b + d) + e = c + a + b + d + e - c := by
  rw [show c + a + b + d + e = c + (a + b + d + e) by simp only [Int32.add_assoc], add_sub_l, Int32.zero_add]
theorem live_c {Q : ab_Q} {n : Nat} {S0 S : SS} {a r i : Nat} {g : Nat → Int32} {x4 x : Int32} (hn : 269 ≤ n) (h : LV S0 S a r g i) (hQ : ∀ S', LV S0 S' a r (f_heat i g) i → Q (.inl (some (.int x))) 0 0 n (Hp S')) : WA RX1 cX1_live 5 [] (ab_rm 5 0 0) Q 0 0 106 [some (.ref a), some (.ref r), some (.int (nI i)), some (.int (x)), some (.int x4)] [] n (Hp S) := by
  refine wa_aload_n dX1_live_106 rfl ?_
  refine wa_dup dX1_live_107 rfl ?_
  refine L_n h hn 10 dX1_live_108 fl_X1_126 (by decide) (fun _ _ _ => rfl) ?_
  refine wa_aload_n dX1_live_111 rfl ?_
  refine L_n h hn 1 dX1_live_112 fl_X1_116 (by decide) (fun _ _ _ => rfl) ?_
  refine wa_iadd dX1_live_115 ?_
  refine L_put h hn 10 dX1_live_116 fl_X1_126 (by decide) rfl rfl rfl rfl (fun _ _ _ => rfl) (fun S9 h9 => ?_)
  refine wa_iload_n dX1_live_119 rfl ?_
  exact wa_ireturn dX1_live_120 (hQ _ h9)
theorem live_b {Q : ab_Q} {n : Nat} {S0 S : SS} {a r i : Nat} {g : Nat → Int32} {x4 x : Int32} (hn : 269 ≤ n) (h : LV S0 S a r g i) (hQ : ∀ S', LV S0 S' a r (f_heat i (f_empty i g)) i → Q (.inl (some (.int x))) 0 0 n (Hp S')) : WA RX1 cX1_live 5 [] (ab_rm 5 0 0) Q 0 0 89 [some (.ref a), some (.ref r), some (.int (nI i)), some (.int (x)), some (.int x4)] [] n (Hp S) := by
  refine wa_aload_n dX1_live_89 rfl ?_
  refine L_n h hn 2 dX1_live_90 fl_X1_168 (by decide) (fun _ _ _ => rfl) ?_
  refine wa_if_ne 106 dX1_live_93 rfl (fun c93 => ?_) (fun c93 => ?_)
  · first
    | exact live_c hn h8 (fun S' h' => hQ S' (by unfold f_empty; rw [if_pos c93]; exact h'))
    | exact live_c hn h (fun S' h' => hQ S' (by unfold f_empty; rw [if_neg c93, ad0]; exact h'))
  · refine wa_aload_n dX1_live_96 rfl ?_
    refine g_RO h.R hn 12 dX1_live_97 fl_X1_150 (by decide) rfl ?_
    refine wa_iconst (x := 5) dX1_live_100 (by decide) ?_
    refine wa_dup2 dX1_live_101 rfl rfl ?_
    refine L_cld h hn 5 rfl (by decide) dX1_live_102 ?_
    refine wa_iconst (x := 1) dX1_live_103 (by decide) ?_
    refine wa_iadd dX1_live_104 ?_
    refine L_cst h hn 5 rfl (by decide) dX1_live_105 (fun S8 h8 => ?_)
    first
    | exact live_c hn h8 (fun S' h' => hQ S' (by unfold f_empty; rw [if_pos c93]; exact h'))
    | exact live_c hn h (fun S' h' => hQ S' (by unfold f_empty; rw [if_neg c93, ad0]; exact h'))
theorem live_a {Q : ab_Q} {n : Nat} {S0 S : SS} {a r i : Nat} {g : Nat → Int32} {w x : Int32} (hn : 269 ≤ n) (h : LV S0 S a r g i) (hQ : ∀ S', LV S0 S' a r (f_heat i (f_empty i (f_away i w g))) i → Q (.inl (some (.int x))) 0 0 n (Hp S')) : WA RX1 cX1_live 5 [] (ab_rm 5 0 0) Q 0 0 70 [some (.ref a), some (.ref r), some (.int (nI i)), some (.int (x)), some (.int w)] [] n (Hp S) := by
  refine wa_aload_n dX1_live_70 rfl ?_
  refine L_n h hn 1 dX1_live_71 fl_X1_116 (by decide) (fun _ _ _ => rfl) ?_
  refine wa_iload dX1_live_74 rfl ?_
  refine wa_icmp_eq 89 dX1_live_76 rfl (fun c76 => ?_) (fun c76 => ?_)
  · first
    | exact live_b hn h8 (fun S' h' => hQ S' (by unfold f_away; rw [if_neg c76]; exact h'))
    | exact live_b hn h (fun S' h' => hQ S' (by unfold f_away; rw [if_pos c76, ad0]; exact h'))
  · refine wa_aload_n dX1_live_79 rfl ?_
    refine g_RO h.R hn 12 dX1_live_80 fl_X1_150 (by decide) rfl ?_
    refine wa_iconst (x := 4) dX1_live_83 (by decide) ?_
    refine wa_dup2 dX1_live_84 rfl rfl ?_
    refine L_cld h hn 4 rfl (by decide) dX1_live_85 ?_
    refine wa_iconst (x := 1) dX1_live_86 (by decide) ?_
    refine wa_iadd dX1_live_87 ?_
    refine L_cst h hn 4 rfl (by decide) dX1_live_88 (fun S8 h8 => ?_)
    first
    | exact live_b hn h8 (fun S' h' => hQ S' (by unfold f_away; rw [if_neg c76]; exact h'))
    | exact live_b hn h (fun S' h' => hQ S' (by unfold f_away; rw [if_pos c76, ad0]; exact h'))
theorem live_3 {Q : ab_Q} {n : Nat} {S0 S : SS} {a r i : Nat} {g : Nat → Int32} {x : Int32} {l4 : Option Value} (hn : 269 ≤ n) (h : LV S0 S a r g i) (h1 : 0 ≤ (g 1).toInt) (hg : RG g i) (ho : OV g i) (hs : 0 ≤ (g 9).toInt) (hQ : ∀ S', LV S0 S' a r (f_fin i g) i → Q (.inl (some (.int (x + drs g i (wnt g i) (g 9))))) 0 0 n (Hp S')) : WA RX1 cX1_live 5 [] (ab_rm 5 0 0) Q 0 0 50 [some (.ref a), some (.ref r), some (.int (nI i)), some (.int (x)), l4] [] n (Hp S) := by
  refine wa_aload_n dX1_live_50 rfl ?_
  refine wa_aload_n dX1_live_51 rfl ?_
  refine c_VI dX1_live_52 (hh_positionWanted hn h h1 hg ho) lk_X1_162 rfl (isH.HO h.H _ _ _) rfl (lt_HO h.H hn) ?_
  refine wa_istore dX1_live_55 rfl ?_
  refine wa_iload_n dX1_live_57 rfl ?_
  refine wa_aload_n dX1_live_58 rfl ?_
  refine wa_iload dX1_live_59 rfl ?_
  refine wa_aload_n dX1_live_61 rfl ?_
  refine L_hd h hn 7 dX1_live_62 fl_X1_53 (by decide) (by decide) (fun _ _ _ => rfl) ?_
  refine c_VI dX1_live_65 (am_drive h.R hn (wnt g i) (g 9)) lk_X1_165 rfl (isR.RO h.R _ _ _) rfl (lt_RO h.R hn) ?_
  obtain ⟨eN, hd⟩ := h.drive hg (wnt_i hg ho) hs
  rw [eN]
  generalize drS S r (wnt g i) (g 9) = S1 at hd
  replace h := hd
  refine wa_iadd dX1_live_68 ?_
  refine wa_istore_n dX1_live_69 rfl ?_
  exact live_a hn h (fun S' h' => hQ S' h')
theorem live_2 {Q : ab_Q} {n : Nat} {S0 S : SS} {a r i : Nat} {g : Nat → Int32} {l3 l4 : Option Value} (hn : 269 ≤ n) (h : LV S0 S a r g i) (h1 : 0 ≤ (g 1).toInt) (hg : RG g i) (ho : OV (f_exif i g) i) (hs : 0 ≤ (g 9).toInt) (hQ : ∀ v S', LV S0 S' a r (f_fin i (f_exif i g)) i → v = of (f_fin i (f_exif i g)) i 12 - of g i 12 → Q (.inl (some (.int v))) 0 0 n (Hp S')) : WA RX1 cX1_live 5 [] (ab_rm 5 0 0) Q 0 0 22 [some (.ref a), some (.ref r), some (.int (nI i)), l3, l4] [] n (Hp S) := by
  refine wa_iconst (x := 0) dX1_live_22 (by decide) ?_
  refine wa_istore_n dX1_live_23 rfl ?_
  refine wa_aload_n dX1_live_24 rfl ?_
  refine L_hd h hn 0 dX1_live_25 fl_X1_31 (by decide) (by decide) (fun _ _ _ => rfl) ?_
  refine wa_iload_n dX1_live_28 rfl ?_
  refine wa_isub dX1_live_29 ?_
  refine wa_sipush (x := 336) dX1_live_30 (by decide) ?_
  refine c_SI dX1_live_33 (am_fmod2 _ 336 (by decide)) lk_X1_156 rfl ?_
  refine wa_aload_n dX1_live_36 rfl ?_
  refine L_hd h hn 8 dX1_live_37 fl_X1_56 (by decide) (by decide) (fun _ _ _ => rfl) ?_
  refine wa_icmp_ne 50 dX1_live_40 rfl (fun c40 => ?_) (fun c40 => ?_)
  · first
    | (have ei : f_exif i g = f_ex i g := if_pos c40
       have k9 : f_ex i g 9 = g 9 := (kp_ex g i).2 9 (by decide)
       have k1 : f_ex i g 1 = g 1 := (kp_ex g i).2 1 (by decide)
       refine live_3 hn hd (by rw [k1]; exact h1) (by rw [← ei]; exact RG_exif hg) (by rw [← ei]; exact ho) (by rw [k9]; exact hs) (fun S' h' => hQ _ S' (by rw [ei]; exact h') ?_)
       rw [ei]
       show _ = of (f_fin i (f_ex i g)) i 12 - of g i 12
       have e12 : of (f_ex i g) i 12 = of g i 12 + drs g i 100 100 + drs (f_drive i 100 100 g) i 0 100 + drs (f_drive i 0 100 (f_drive i 100 100 g)) i (of g i 1) 100 := by
         unfold f_ex
         rw [o12_ad _ _ _ (by decide) (by decide), o12_drive, o12_drive, o12_drive]
       rw [o12_fin, e12]
       exact st_sum _ _ _ _ _)
    | (have ei : f_exif i g = g := if_neg c40
       rw [ei] at ho
       refine live_3 hn h h1 hg ho hs (fun S' h' => hQ _ S' (by rw [ei]; exact h') ?_)
       rw [ei, o12_fin, Int32.zero_add, add_sub_l])
  · refine wa_iload_n dX1_live_43 rfl ?_
    refine wa_aload_n dX1_live_44 rfl ?_
    refine c_VI dX1_live_45 (am_driveX h.R hn) lk_X1_159 rfl (isR.RO h.R _ _ _) rfl (lt_RO h.R hn) ?_
    obtain ⟨eN, hd⟩ := h.ex hg
    rw [eN]
    generalize drX S r = S1 at hd
    refine wa_iadd dX1_live_48 ?_
    refine wa_istore_n dX1_live_49 rfl ?_
    first
    | (have ei : f_exif i g = f_ex i g := if_pos c40
       have k9 : f_ex i g 9 = g 9 := (kp_ex g i).2 9 (by decide)
       have k1 : f_ex i g 1 = g 1 := (kp_ex g i).2 1 (by decide)
       refine live_3 hn hd (by rw [k1]; exact h1) (by rw [← ei]; exact RG_exif hg) (by rw [← ei]; exact ho) (by rw [k9]; exact hs) (fun S' h' => hQ _ S' (by rw [ei]; exact h') ?_)
       rw [ei]
       show _ = of (f_fin i (f_ex i g)) i 12 - of g i 12
       have e12 : of (f_ex i g) i 12 = of g i 12 + drs g i 100 100 + drs (f_drive i 100 100 g) i 0 100 + drs (f_drive i 0 100 (f_drive i 100 100 g)) i (of g i 1) 100 := by
         unfold f_ex
         rw [o12_ad _ _ _ (by decide) (by decide), o12_drive, o12_drive, o12_drive]
       rw [o12_fin, e12]
       exact st_sum _ _ _ _ _)
    | (have ei : f_exif i g = g := if_neg c40
       rw [ei] at ho
       refine live_3 hn h h1 hg ho hs (fun S' h' => hQ _ S' (by rw [ei]; exact h') ?_)
       rw [ei, o12_fin, Int32.zero_add, add_sub_l])
theorem hh_live {n : Nat} {S0 S : SS} {a r i : Nat} {g : Nat → Int32} (hn : 269 ≤ n) (h : LV S0 S a r g i) (h1 : 0 ≤ (g 1).toInt) (hg : RG g i) (ho : OV (f_exif i (f_over i (f_warm i g))) i) (hs : 0 ≤ (g 9).toInt) : AM yX1_live cX1_live 5 (some .int) [] 5 0 0 [.ref a, .ref r, .int (nI i)] n (Hp S) (PIe n (fun v S' => LV S0 S' a r (f_goOn i g) i ∧ v = of (f_goOn i g) i 12 - of g i 12)) := by
  intro has
  change WA RX1 cX1_live 5 [] _ _ 0 0 0 [some (.ref a), some (.ref r), some (.int (nI i)), none, none] [] n _
  have w1 : f_warm i g 1 = g 1 := (kp_warm g i).2 1 (by decide)
  have w9 : f_warm i g 9 = g 9 := (kp_warm g i).2 9 (by decide)
  have o1 : f_over i (f_warm i g) 1 = f_warm i g 1 := (kp_over _ i).2 1 (by decide)
  have o9 : f_over i (f_warm i g) 9 = f_warm i g 9 := (kp_over _ i).2 9 (by decide)
  refine wa_aload_n dX1_live_0 rfl ?_
  refine wa_aload_n dX1_live_1 rfl ?_
  refine c_VQV dX1_live_2 (hh_changeTemperature hn h hg.2.2.1) lk_X1_153 rfl (isH.HO h.H _ _ _) rfl (lt_HO h.H hn) (fun S1 h2 => ?_)
  refine wa_aload_n dX1_live_5 rfl ?_
  refine L_n h2 hn 9 dX1_live_6 fl_X1_83 (by decide) (fun _ _ _ => rfl) ?_
  refine wa_if_le 22 dX1_live_9 rfl (fun c9 => ?_) (fun c9 => ?_)
  · first
    | (have eo : f_over i (f_warm i g) = ad (f_warm i g) i 9 (-1) := if_pos (Int32.not_le.mp c9)
       have h4 : LV S0 S2 a r (f_over i (f_warm i g)) i := by rw [eo]; exact h3
       exact live_2 hn h4 (by rw [o1, w1]; exact h1) (RG_over (RG_warm hg)) ho (by rw [o9, w9]; exact hs) (fun v S' h' hv => ⟨Nat.le_refl _, Nat.le_refl _, ⟨_, rfl, rfl⟩, rfl, v, S', rfl, rfl, h', by rw [hv, o12_over, o12_warm]; rfl⟩))
    | (have eo : f_over i (f_warm i g) = f_warm i g := if_neg (Int32.not_lt.mpr c9)
       have h4 : LV S0 S1 a r (f_over i (f_warm i g)) i := by rw [eo]; exact h2
       exact live_2 hn h4 (by rw [o1, w1]; exact h1) (RG_over (RG_warm hg)) ho (by rw [o9, w9]; exact hs) (fun v S' h' hv => ⟨Nat.le_refl _, Nat.le_refl _, ⟨_, rfl, rfl⟩, rfl, v, S', rfl, rfl, h', by rw [hv, o12_over, o12_warm]; rfl⟩))
  · refine wa_aload_n dX1_live_12 rfl ?_
    refine wa_dup dX1_live_13 rfl ?_
    refine L_n h2 hn 9 dX1_live_14 fl_X1_83 (by decide) (fun _ _ _ => rfl) ?_
    refine wa_iconst (x := 1) dX1_live_17 (by decide) ?_
    refine wa_isub dX1_live_18 ?_
    rw [sub1]
    refine L_put h2 hn 9 dX1_live_19 fl_X1_83 (by decide) rfl rfl rfl rfl (fun _ _ _ => rfl) (fun S2 h3 => ?_)
    first
    | (have eo : f_over i (f_warm i g) = ad (f_warm i g) i 9 (-1) := if_pos (Int32.not_le.mp c9)
       have h4 : LV S0 S2 a r (f_over i (f_warm i g)) i := by rw [eo]; exact h3
       exact live_2 hn h4 (by rw [o1, w1]; exact h1) (RG_over (RG_warm hg)) ho (by rw [o9, w9]; exact hs) (fun v S' h' hv => ⟨Nat.le_refl _, Nat.le_refl _, ⟨_, rfl, rfl⟩, rfl, v, S', rfl, rfl, h', by rw [hv, o12_over, o12_warm]; rfl⟩))
    | (have eo : f_over i (f_warm i g) = f_warm i g := if_neg (Int32.not_lt.mpr c9)
       have h4 : LV S0 S1 a r (f_over i (f_warm i g)) i := by rw [eo]; exact h2
       exact live_2 hn h4 (by rw [o1, w1]; exact h1) (RG_over (RG_warm hg)) ho (by rw [o9, w9]; exact hs) (fun v S' h' hv => ⟨Nat.le_refl _, Nat.le_refl _, ⟨_, rfl, rfl⟩, rfl, v, S', rfl, rfl, h', by rw [hv, o12_over, o12_warm]; rfl⟩))

