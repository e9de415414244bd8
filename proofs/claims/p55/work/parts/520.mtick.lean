/-! ValveRoomModel: a room's tick. Written by program (wip/whole/gen/m520.py) but for the heads. -/
def l_min (x y : Int64) : Int64 := if y < x then y else x
def l_max (x y : Int64) : Int64 := if x < y then y else x
def i_fdiv (x y : Int32) : Int32 := if (x ^^^ y) < 0 ∧ ¬ x / y * y = x then x / y - 1 else x / y
def i_fmod (x y : Int32) : Int32 := if (x ^^^ y) < 0 ∧ ¬ x - x / y * y = 0 then x - x / y * y + y else x - x / y * y
/-- what is wanted of room i's valve -/
def wnt (g : Nat → Int32) (i : Nat) : Int32 := if 0 < of g i 7 then 0 else if i_abs (mis g i) ≤ g 7 then of g i 1 else (l_max 0 (l_min 100 ((g 8).toInt64 * (mis g i).toInt64))).toInt32
theorem am_fdiv2 {n : Nat} {h : ab_H} (x y : Int32) (hy : ¬ y = 0) : AM yJ9_floorDiv_7cf53 cJ9_floorDiv_7cf53 3 (some .int) [] 0 0 0 [.int x, .int y] n h (PIh (i_fdiv x y) n h) := am_fdiv x y hy
theorem am_fmod2 {n : Nat} {h : ab_H} (x y : Int32) (hy : ¬ y = 0) : AM yJ9_floorMod_7cf53 cJ9_floorMod_7cf53 3 (some .int) [] 0 0 0 [.int x, .int y] n h (PIh (i_fmod x y) n h) := am_fmod x y hy
def f_warm1 (i : Nat) (g : Nat → Int32) : Nat → Int32 := pt g i 0 (of g i 0 + i_fdiv (of g i 1 * of g i 3) 100 - i_fdiv ((of g i 4 + if of g i 5 = 1 then 10 else 0) * (of g i 0 - g 2)) 100)
def f_warm2 (i : Nat) (b : Int32) (g : Nat → Int32) : Nat → Int32 := if g 4 ≤ b - of g i 0 then ad (pt g i 7 (g 5)) i 13 1 else if 0 < of g i 7 then ad g i 7 (-1) else g
def f_warm (i : Nat) (g : Nat → Int32) : Nat → Int32 := f_warm2 i (of g i 0) (f_warm1 i g)
def f_ex (i : Nat) (g : Nat → Int32) : Nat → Int32 := ad (f_drive i (of g i 1) 100 (f_drive i 0 100 (f_drive i 100 100 g))) i 14 1
def f_over (i : Nat) (g : Nat → Int32) : Nat → Int32 := if 0 < of g i 9 then ad g i 9 (-1) else g
def f_exif (i : Nat) (g : Nat → Int32) : Nat → Int32 := if i_fmod (g 1 - nI i) 336 = g 10 then f_ex i g else g
def f_away (i : Nat) (w : Int32) (g : Nat → Int32) : Nat → Int32 := ad g i 16 (if of g i 1 = w then 0 else 1)
def f_empty (i : Nat) (g : Nat → Int32) : Nat → Int32 := ad g i 17 (if of g i 2 = 0 then 1 else 0)
def f_heat (i : Nat) (g : Nat → Int32) : Nat → Int32 := ad g i 10 (of g i 1)
def f_fin (i : Nat) (g : Nat → Int32) : Nat → Int32 := f_heat i (f_empty i (f_away i (wnt g i) (f_drive i (wnt g i) (g 9) g)))
def f_goOn (i : Nat) (g : Nat → Int32) : Nat → Int32 := f_fin i (f_exif i (f_over i (f_warm i g)))
/-- g' tells the same programs and the same numbers of the house -/
def kp (g g' : Nat → Int32) : Prop := (∀ i, pg g' i = pg g i) ∧ ∀ k, k < 71 → g' k = g k
theorem kp.rf {g : Nat → Int32} : kp g g := ⟨fun _ => rfl, fun _ _ => rfl⟩
theorem kp.tr {a b c : Nat → Int32} (h1 : kp a b) (h2 : kp b c) : kp a c := ⟨fun i => (h2.1 i).trans (h1.1 i), fun k hk => (h2.2 k hk).trans (h1.2 k hk)⟩
theorem kp_pt (g : Nat → Int32) (i : Nat) {w : Nat} (x : Int32) (hw : w < 18) : kp g (pt g i w x) := by
  refine ⟨fun i' => ?_, fun k hk => pt_lo g x hk⟩
  funext t
  unfold pg
  split
  · exact (of_pt g x (by omega) (by omega)).trans (if_neg (by omega))
  · rfl
theorem kp_ad (g : Nat → Int32) (i : Nat) {w : Nat} (x : Int32) (hw : w < 18) : kp g (ad g i w x) := kp_pt g i _ hw
theorem kp_drive (g : Nat → Int32) (i : Nat) (to most : Int32) : kp g (f_drive i to most g) := ((kp_ad _ i _ (by decide)).tr (kp_ad _ i _ (by decide))).tr (kp_ad _ i _ (by decide))
theorem kp_warm (g : Nat → Int32) (i : Nat) : kp g (f_warm i g) := by
  refine kp.tr (b := f_warm1 i g) (kp_pt g i _ (by decide : (0 : Nat) < 18)) ?_
  show kp (f_warm1 i g) (f_warm2 i (of g i 0) (f_warm1 i g))
  unfold f_warm2
  split
  · exact (kp_pt _ i _ (by decide)).tr (kp_ad _ i _ (by decide))
  · split
    · exact kp_ad _ i _ (by decide)
    · exact kp.rf
theorem kp_over (g : Nat → Int32) (i : Nat) : kp g (f_over i g) := by
  unfold f_over
  split
  · exact kp_ad _ i _ (by decide)
  · exact kp.rf
theorem kp_ex (g : Nat → Int32) (i : Nat) : kp g (f_ex i g) := (((kp_drive _ i _ _).tr (kp_drive _ i _ _)).tr (kp_drive _ i _ _)).tr (kp_ad _ i _ (by decide))
theorem kp_exif (g : Nat → Int32) (i : Nat) : kp g (f_exif i g) := by
  unfold f_exif
  split
  · exact kp_ex g i
  · exact kp.rf
theorem kp_fin (g : Nat → Int32) (i : Nat) : kp g (f_fin i g) := (((kp_drive _ i _ _).tr (kp_ad _ i _ (by decide))).tr (kp_ad _ i _ (by decide))).tr (kp_ad _ i _ (by decide))
theorem kp_goOn (g : Nat → Int32) (i : Nat) : kp g (f_goOn i g) := (((kp_warm g i).tr (kp_over _ i)).tr (kp_exif _ i)).tr (kp_fin _ i)
