/-! ValveRoom$House: ticks. Written by program (wip/whole/gen/m735.py) but for the heads. -/
/-- what the warming makes of a room, the exercise behind it -/
def FXw (i : Nat) (g : Nat → Int32) : Nat → Int32 := f_exif i (f_over i (f_warm i g))
theorem FXw_rst (i : Nat) (g : Nat → Int32) : FXw i (rst i g) = rst i (FXw i g) := by
  unfold FXw
  rw [warm_rst, over_rst, exif_rst]
def LVok (g : Nat → Int32) (i : Nat) : Prop := RG g i ∧ OV (FXw i g) i ∧ 0 ≤ (g 1).toInt ∧ 0 ≤ (g 9).toInt
theorem LVok_rst {i : Nat} {g g' : Nat → Int32} (h : rst i g = rst i g') (hg : LVok g' i) : LVok g i := by
  have e : rst i (FXw i g) = rst i (FXw i g') := by rw [← FXw_rst, h, FXw_rst]
  have em : mis (FXw i g) i = mis (FXw i g') i := by rw [← mis_rst, e, mis_rst]
  have e8 : FXw i g 8 = FXw i g' 8 := by rw [← lo_rst i (FXw i g) (show 8 < 71 by decide), e, lo_rst i (FXw i g') (show 8 < 71 by decide)]
  have e1 : g 1 = g' 1 := by rw [← lo_rst i g (by decide), h, lo_rst i g' (by decide)]
  have e9 : g 9 = g' 9 := by rw [← lo_rst i g (by decide), h, lo_rst i g' (by decide)]
  obtain ⟨h1, h2, h3, h4⟩ := hg
  refine ⟨h1.of (rst_of h (by decide)) (rst_of h (by decide)) (rst_of h (by decide)) (rst_of h (by decide)), ?_, by rw [e1]; exact h3, by rw [e9]; exact h4⟩
  unfold OV
  rw [em, e8]
  exact h2
theorem goOn_cg {i : Nat} {g g' : Nat → Int32} (h : rst i g = rst i g') : rst i (f_goOn i g) = rst i (f_goOn i g') := by rw [← goOn_rst, h, goOn_rst]
def stp (g : Nat → Int32) : Nat → Int32
  | 0 => 0
  | k + 1 => stp g k + (of (goOns g (k + 1)) k 12 - of (goOns g k) k 12)
theorem goOns_rn (g : Nat → Int32) (c : Nat) : rn (goOns g c) = rn g := rn_cg ((kp_goOns g c).2 0 (by decide))
theorem due_rn {g : Nat → Int32} (h20 : pn g ≤ 20) : rn (f_due (f_time g)) = rn g := by
  have ek : ∀ k, ¬ k = 1 → f_time g k = g k := fun k hk => if_neg hk
  unfold f_due
  rw [rn_cg (drop_lo (by decide) (by decide)), rn_cg ((kp_cars _ _).2 0 (by decide)), rn_cg (ek 0 (by decide))]
theorem lp_pass {Q : ab_Q} {n a : Nat} {S0 : SS} {G : Nat → Int32} (hn : 269 ≤ n) (e0 : G 0 = nI (rn G)) (ok : ∀ i, i < rn G → LVok G i) : ∀ (r k : Nat) (S1 : SS), k + r = rn G → HH S1 a (goOns G k) (fun _ => True) → FRh a S0 S1 → (∀ S', HH S' a (goOns G (rn G)) (fun _ => True) → FRh a S0 S' → Q (.inl (some (.int (stp G (rn G))))) 0 0 n (Hp S')) → WA RX1 cX1_passTick 3 [] (ab_rm 6 0 0) Q 0 0 8 [some (.ref a), some (.int (stp G k)), some (.int (nI (k)))] [] n (Hp S1) := by
  intro r
  induction r with
  | zero =>
    intro k S1 hk' h hfr hQ
    refine wa_iload_n dX1_passTick_8 rfl ?_
    refine wa_aload_n dX1_passTick_9 rfl ?_
    refine H_hd h hn 9 dX1_passTick_10 fl_X1_59 (by decide) (by decide) (fun _ _ _ => rfl) ?_
    rw [show goOns G k (hm 9) = nI (rn G) from ((kp_goOns G k).2 0 (by decide)).trans e0]
    refine wa_icmp_ge 36 dX1_passTick_13 rfl (fun c13 => ?_) (fun c13 => absurd (by rw [show k = rn G by omega]; exact Int32.le_refl _) c13)
    refine wa_iload_n dX1_passTick_36 rfl ?_
    have e9 : k = rn G := by omega
    rw [e9] at h ⊢
    exact wa_ireturn dX1_passTick_37 (hQ S1 h hfr)
  | succ r ih =>
    intro k S1 hk' h hfr hQ
    have h6 := h.1.2.1
    rw [goOns_rn] at h6
    obtain ⟨γ, g1, g2, hl⟩ := h.lv (i := k) (by rw [goOns_rn]; omega)
    have ok1 : LVok (goOns G k) k := LVok_rst (by rw [goOns_rst, if_neg (Nat.lt_irrefl _)]) (ok k (by omega))
    have ok2 := LVok_rst (g2 trivial) ok1
    refine wa_iload_n dX1_passTick_8 rfl ?_
    refine wa_aload_n dX1_passTick_9 rfl ?_
    refine H_hd h hn 9 dX1_passTick_10 fl_X1_59 (by decide) (by decide) (fun _ _ _ => rfl) ?_
    rw [show goOns G k (hm 9) = nI (rn G) from ((kp_goOns G k).2 0 (by decide)).trans e0]
    refine wa_icmp_ge 36 dX1_passTick_13 rfl (fun c13 => absurd c13 (Int32.not_le.mpr (nI_lt (by omega) (by omega)))) (fun c13 => ?_)
    refine wa_iload_n dX1_passTick_16 rfl ?_
    refine wa_aload_n dX1_passTick_17 rfl ?_
    refine wa_aload_n dX1_passTick_18 rfl ?_
    refine g_HO h.H hn 10 dX1_passTick_19 fl_X1_11 (by decide) rfl ?_
    refine wa_iload_n dX1_passTick_22 rfl ?_
    refine L_room h.H hn (ix_nI (by omega)) (by omega) dX1_passTick_23 ?_
    refine wa_iload_n dX1_passTick_24 rfl ?_
    refine c_VQI dX1_passTick_25 (hh_live hn hl ok2.2.2.1 ok2.1 ok2.2.1 ok2.2.2.2) lk_X1_136 rfl (isH.HO h.H _ _ _) rfl (lt_HO h.H hn) (fun v S2 h2 => ?_)
    obtain ⟨h3, hv⟩ := h2
    have e12 : v = of (goOns G (k + 1)) k 12 - of (goOns G k) k 12 := by
      rw [hv]
      show of (f_goOn k γ) k 12 - of γ k 12 = of (f_goOn k (goOns G k)) k 12 - of (goOns G k) k 12
      rw [rst_of (goOn_cg (g2 trivial)) (by decide), rst_of (g2 trivial) (by decide)]
    refine wa_iadd dX1_passTick_28 ?_
    rw [e12, show stp G k + (of (goOns G (k + 1)) k 12 - of (goOns G k) k 12) = stp G (k + 1) from rfl]
    refine wa_istore_n dX1_passTick_29 rfl ?_
    refine wa_iinc (y := 1) dX1_passTick_30 rfl (by decide) rfl ?_
    refine wa_goto 8 dX1_passTick_33 rfl ?_
    rw [nI_1 k]
    refine ih (k + 1) S2 (by omega) (h.step (fun k' q => (kp_goOn _ _).2 k' q) (fun k' q => ((kp_goOn γ k).2 k' q).trans ((g1 k' q).trans ((kp_goOn _ _).2 k' q).symm)) (fun _ => goOn_cg (g2 trivial)) (fun i hi q => ⟨trivial, goOn_oth hi _⟩) h3) (hfr.tr (h3.2.2.2.1.h ⟨by omega, by omega⟩)) hQ
theorem hh_passTick {n a : Nat} {S : SS} {g : Nat → Int32} (hn : 269 ≤ n) (h : HH S a g (fun _ => True)) (e0 : g 0 = nI (rn g)) (e3 : g 3 = nI (pn g)) (hPL : PLN g) (ok : ∀ i, i < rn g → LVok (f_due (f_time g)) i) : AM yX1_passTick cX1_passTick 3 (some .int) [] 6 0 0 [.ref a] n (Hp S) (PIe n (fun v S' => (HH S' a (f_tick g) (fun _ => True) ∧ FRh a S S') ∧ v = stp (f_due (f_time g)) (rn g))) := by
  intro has
  change WA RX1 cX1_passTick 3 [] _ _ 0 0 0 [some (.ref a), none, none] [] n _
  refine wa_aload_n dX1_passTick_0 rfl ?_
  refine c_VQV dX1_passTick_1 (hh_startTick hn h e3 hPL) lk_X1_133 rfl (isH.HO h.H _ _ _) rfl (lt_HO h.H hn) (fun S1 h12 => ?_)
  refine wa_iconst (x := 0) dX1_passTick_4 (by decide) ?_
  refine wa_istore_n dX1_passTick_5 rfl ?_
  refine wa_iconst (x := 0) dX1_passTick_6 (by decide) ?_
  refine wa_istore_n dX1_passTick_7 rfl ?_
  obtain ⟨h1, f1⟩ := h12
  have er := due_rn (g := g) h.1.2.2
  have ek : ∀ k, ¬ k = 1 → f_time g k = g k := fun k hk => if_neg hk
  have e0' : f_due (f_time g) 0 = nI (rn (f_due (f_time g))) := by
    rw [er]
    exact (drop_lo (by decide) (by decide)).trans (((kp_cars _ _).2 0 (by decide)).trans ((ek 0 (by decide)).trans e0))
  refine lp_pass hn e0' (fun i hi => ok i (by rw [← er]; exact hi)) (rn (f_due (f_time g))) 0 S1 (Nat.zero_add _) h1 f1 (fun S' h' hf' => ⟨Nat.le_refl _, Nat.le_refl _, ⟨_, rfl, rfl⟩, rfl, _, S', rfl, rfl, ⟨?_, hf'⟩, by rw [er]⟩)
  rw [er] at h'
  exact h'
