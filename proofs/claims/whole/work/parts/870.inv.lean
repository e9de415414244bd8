/-! THE LAW'S INVARIANT, and what keeps it. -/
def r467 (f : Nat → Int32) (o : Nat) : Nat → Int32 := fun j => if j < 467 then f (o + j) else 0
/-- rows that say the same of a house -/
def rEq (g g' : Nat → Int32) : Prop := ∀ j, j < 467 → g' j = g j
section RE
variable {g g' : Nat → Int32}
theorem rEq.rnE (h : rEq g g') : rn g' = rn g := by unfold rn; rw [h 0 (by decide)]
theorem rEq.pnE (h : rEq g g') : pn g' = pn g := by unfold pn; rw [h 3 (by decide)]
theorem rEq.ofE (h : rEq g g') {i w : Nat} (hi : i < 6) (hw : w < 66) : of g' i w = of g i w := h _ (by omega)
theorem rEq.pgE (h : rEq g g') {i : Nat} (hi : i < 6) : pg g' i = pg g i := by
  funext t
  unfold pg
  by_cases ht : t < 48
  · rw [if_pos ht, if_pos ht, h.ofE hi (by omega)]
  · rw [if_neg ht, if_neg ht]
theorem rEq.rstE (h : rEq g g') {i : Nat} (hi : i < 6) : rst i g' = rst i g := by
  funext j
  unfold rst
  by_cases hj : j < 71 ∨ (71 + 66 * i ≤ j ∧ j < 71 + 66 * i + 66)
  · rw [if_pos hj, if_pos hj, h j (by omega)]
  · rw [if_neg hj, if_neg hj]
theorem rEq.sm (h : rEq g g') : rEq g' g := fun j hj => (h j hj).symm
end RE
theorem hm_467 : ∀ j, j < 12 → hm j < 467 := by decide
theorem HH.eq {S : SS} {a : Nat} {g g' : Nat → Int32} (h : HH S a g (fun _ => True)) (e : rEq g g') : HH S a g' (fun _ => True) := by
  obtain ⟨⟨h1, h2, h3⟩, h4, h5, h6⟩ := h
  refine ⟨⟨h1, by rw [e.rnE]; exact h2, by rw [e.pnE]; exact h3⟩, fun j hj hj2 => ?_, fun k hk => ?_, fun i hi => ?_⟩
  · rw [e _ (hm_467 j hj)]
    exact h4 j hj hj2
  · rw [e.pnE] at hk
    rw [e _ (by omega), e _ (by omega), e _ (by omega)]
    exact h5 k hk
  · rw [e.rnE] at hi
    obtain ⟨γ, q1, q2, q3⟩ := h6 i hi
    exact ⟨γ, fun k hk => (q1 k hk).trans (e k (by omega)).symm, q2, fun z => (q3 z).trans (e.rstE (by omega)).symm⟩
theorem GGeq {T : Int} {g g' : Nat → Int32} (h : GG T g) (e : rEq g g') (hp : ∀ i, 6 ≤ i → PT (pg g' i)) : GG T g' := by
  have hrn := h.rn6
  have hpn := h.pn20
  obtain ⟨⟨v1, v2, v3, v4, v5⟩, gh, pl, pt0, gr⟩ := h
  refine ⟨⟨by rw [e 1 (by decide)]; exact v1, by rw [e 0 (by decide)]; exact v2, by rw [e 3 (by decide)]; exact v3, fun k hk => ?_, fun i => ?_⟩, ?_, fun k hk => ?_, fun k hk => ?_, fun i hi => ?_⟩
  · rw [e.pnE] at hk
    rw [e _ (by omega)]
    exact v4 k hk
  · by_cases hi : i < 6
    · rw [e.pgE hi]
      exact v5 i
    · exact hp i (by omega)
  · unfold GH
    rw [e 2 (by decide), e 4 (by decide), e 5 (by decide), e 6 (by decide), e 7 (by decide), e 8 (by decide), e 9 (by decide), e 10 (by decide)]
    exact gh
  · rw [e.pnE] at hk
    rw [e.rnE, e _ (by omega), e _ (by omega)]
    exact pl k hk
  · rw [e.pnE] at hk
    rw [e _ (by omega)]
    exact pt0 k hk
  · rw [e.rnE] at hi
    exact (gr i hi).cg (fun w hw => e.ofE (by omega) (by omega))
theorem PT_r467 {f : Nat → Int32} {o i : Nat} (hi : 6 ≤ i) : PT (pg (r467 f o) i) := by
  have e : ∀ t, pg (r467 f o) i t = 0 := fun t => by
    unfold pg
    split
    · unfold of r467
      exact if_neg (by omega)
    · rfl
  exact ⟨fun t _ => e t, fun t => Or.inl (e t)⟩
/-- a house's cells, its ranges, its names -/
def HGN (T : Int) (n : Nat) (S : SS) (a : Nat) (g : Nat → Int32) : Prop := HH S a g (fun _ => True) ∧ GG T g ∧ ∃ nf nl, NMR g nf nl ∧ NMX n S a (rn g) nf nl
/-- what may change of the cells made later: the builder's bytes alone -/
def FRI (n n' : Nat) (S S' : SS) : Prop := (n ≤ n' ∧ n' ≤ ab_CB) ∧ (sbr S' = sbr S ∨ n ≤ sbr S') ∧ (∃ x, ltc S (sbr S) = .inl x) ∧ ∀ k, k < n → ¬ k = sbr S → ltc S' k = ltc S k
theorem NMX.mv {n n' a a' c : Nat} {S S' : SS} {nf : Nat → Nat → Int32} {nl : Nat → Nat} (h : NMX n S a c nf nl) (f : FRI n n' S S') (h1 : ∀ i, i < c → S'.2.1 (a' + 5 + 3 * i) = S.2.1 (a + 5 + 3 * i)) : NMX n' S' a' c nf nl := by
  obtain ⟨⟨f1, f2⟩, f3, ⟨x, f4⟩, f5⟩ := f
  refine ⟨f2, fun i hi => ?_⟩
  obtain ⟨q1, v, tl, q2, q3, q4, q5⟩ := h.2 i hi
  have hw : ¬ S.2.1 (a + 5 + 3 * i) = sbr S := fun z => by
    rw [z, f4] at q4
    cases q4
  rw [h1 i hi]
  exact ⟨q1, v, tl, ⟨q2.1, by omega⟩, ⟨q3.1, by omega, by omega⟩, (f5 _ q2.2 hw).trans q4, (f5 _ q3.2.1 q3.2.2).trans q5⟩
theorem HGN.mv {T T' : Int} {n n' a a' : Nat} {S S' : SS} {g g' : Nat → Int32} (h : HGN T n S a g) (f : FRI n n' S S') (hh : HH S' a' g' (fun _ => True)) (hg : GG T' g') (er : rn g' = rn g) (e11 : ∀ i, i < rn g → of g' i 11 = of g i 11) (h1 : ∀ i, i < rn g → S'.2.1 (a' + 5 + 3 * i) = S.2.1 (a + 5 + 3 * i)) : HGN T' n' S' a' g' := by
  obtain ⟨_, _, nf, nl, q1, q2⟩ := h
  refine ⟨hh, hg, nf, nl, fun i hi => ?_, ?_⟩
  · rw [er] at hi
    rw [e11 i hi]
    exact q1 i hi
  · rw [er]
    exact q2.mv f h1
theorem HGN.fr {T T' : Int} {n n' a : Nat} {S S' : SS} {g : Nat → Int32} (h : HGN T n S a g) (f : FRI n n' S S') (hT : T ≤ T') (hc : ∀ k, a ≤ k → k < a + 23 → S'.1 k = S.1 k ∧ S'.2.1 k = S.2.1 k) : HGN T' n' S' a g := by
  have hrn := h.2.1.rn6
  exact h.mv f (h.1.of (fun k h1 h2 => (hc k h1 h2).1)) (h.2.1.mono hT) rfl (fun _ _ => rfl) (fun i hi => (hc _ (by omega) (by omega)).2)
theorem HGN.eq {T : Int} {n a : Nat} {S : SS} {g g' : Nat → Int32} (h : HGN T n S a g) (e : rEq g g') (hp : ∀ i, 6 ≤ i → PT (pg g' i)) : HGN T n S a g' := by
  have hrn := h.2.1.rn6
  obtain ⟨h1, h2, nf, nl, q1, q2⟩ := h
  refine ⟨h1.eq e, GGeq h2 e hp, nf, nl, fun i hi => ?_, by rw [e.rnE]; exact q2⟩
  rw [e.rnE] at hi
  rw [e.ofE (by omega) (by decide)]
  exact q1 i hi
def INP (S : SS) : Prop := ∃ m, m ≤ 500 ∧ S.1 1 1 = nI m ∧ S.1 267 6 = nI m ∧ S.1 2 = S.1 271 ∧ BY (S.1 271) m
def ERQ (S : SS) : Prop := S.1 0 1 = S.1 267 12 ∧ S.1 0 2 = S.1 267 13
def OUQ (n : Nat) (S : SS) : Prop := ∃ m j f, SBI n S m j f ∧ j ≤ 5 ∧ m ≤ 500 ∧ S.1 267 20 = nI m ∧ ∀ i, i < m → f i = S.1 276 i
def PAQ (T : Int) (n c : Nat) (S : SS) : Prop := PPf S.2.2.1 ∧ c ≤ 6 ∧ S.1 0 7 = nI c ∧ S.1 267 18 = nI c ∧ ∀ i, i < c → HGN T n S (S.2.2.1 i) (r467 (S.1 275) (467 * i))
def KEQ (T : Int) (n : Nat) (S : SS) : Prop := ∀ s, s < 2 → S.1 82 s = S.1 274 s ∧ (¬ S.1 82 s = 0 → HGN T n S (221 + 23 * s) (r467 (S.1 273) (467 * s)))
def INV (T : Int) (n c : Nat) (S : SS) : Prop := (279 ≤ n ∧ n ≤ ab_CB ∧ mr S = 268) ∧ HGN T n S 34 (S.1 268) ∧ PAQ T n c S ∧ KEQ T n S ∧ INP S ∧ ERQ S ∧ OUQ n S
theorem OUQ.fr {n n' : Nat} {S S' : SS} (h : OUQ n S) (hn : n ≤ n') (hn2 : n' ≤ ab_CB) (hb : sbr S' = sbr S) (hl : ltc S' (sbr S) = ltc S (sbr S)) (h32 : S'.1 32 3 = S.1 32 3) (h20 : S'.1 267 20 = S.1 267 20) (h276 : S'.1 276 = S.1 276) : OUQ n' S' := by
  obtain ⟨m, j, f, ⟨⟨a1, a2, a3⟩, a4, a5, a6, a7⟩, hj, hm, e20, e⟩ := h
  exact ⟨m, j, f, ⟨⟨by rw [hb]; exact a1, by omega, hn2⟩, by rw [hb, hl]; exact a4, h32.trans a5, a6, a7⟩, hj, hm, h20.trans e20, fun i hi => by rw [h276]; exact e i hi⟩
theorem INP.fr {S S' : SS} (h : INP S) (h1 : S'.1 1 1 = S.1 1 1) (h6 : S'.1 267 6 = S.1 267 6) (h2 : S'.1 2 = S.1 2) (h3 : S'.1 271 = S.1 271) : INP S' := by
  obtain ⟨m, a1, a2, a3, a4, a5⟩ := h
  exact ⟨m, a1, h1.trans a2, h6.trans a3, by rw [h2, h3]; exact a4, by rw [h3]; exact a5⟩
theorem ERQ.fr {S S' : SS} (h : ERQ S) (h1 : S'.1 0 1 = S.1 0 1) (h2 : S'.1 0 2 = S.1 0 2) (h3 : S'.1 267 12 = S.1 267 12) (h4 : S'.1 267 13 = S.1 267 13) : ERQ S' := ⟨by rw [h1, h3]; exact h.1, by rw [h2, h4]; exact h.2⟩
theorem OUQ.ex {n : Nat} {S : SS} (h : OUQ n S) : ∃ x, ltc S (sbr S) = .inl x := by
  obtain ⟨m, j, f, a, -⟩ := h
  exact ⟨_, a.2.1⟩
theorem INV.fr {T T' : Int} {n n' c : Nat} {S S' : SS} (h : INV T n c S) (f : FRI n n' S S') (hT : T ≤ T') (h22 : S'.2.2.1 = S.2.2.1 ∧ S'.2.2.2.1 = S.2.2.2.1) (hc : ∀ a, (34 ≤ a ∧ a < 57) ∨ (83 ≤ a ∧ a < 267) → S'.1 a = S.1 a ∧ S'.2.1 a = S.2.1 a) (h82 : S'.1 82 = S.1 82)
    (h3 : S'.1 268 = S.1 268 ∧ S'.1 275 = S.1 275 ∧ S'.1 273 = S.1 273 ∧ S'.1 274 = S.1 274) (h7 : S'.1 0 7 = S.1 0 7 ∧ S'.1 267 18 = S.1 267 18) (hI : INP S') (hE : ERQ S') (hO : OUQ n' S') : INV T' n' c S' := by
  obtain ⟨⟨a1, a2, a3⟩, b, ⟨p1, p2, p3, p4, p5⟩, k, -, -, -⟩ := h
  refine ⟨⟨Nat.le_trans a1 f.1.1, f.1.2, (by unfold mr; rw [h22.2]; exact a3)⟩, ?_, ⟨by rw [h22.1]; exact p1, p2, h7.1.trans p3, h7.2.trans p4, fun i hi => ?_⟩, fun s hs => ⟨?_, fun z => ?_⟩, hI, hE, hO⟩
  · rw [h3.1]
    exact b.fr f hT (fun k h1 h2 => hc k (by omega))
  · have hl := p1.lo (i := i) (by omega)
    rw [h22.1, h3.2.1]
    exact (p5 i hi).fr f hT (fun k h1 h2 => hc k (by omega))
  · rw [h82, h3.2.2.2]
    exact (k s hs).1
  · rw [h82] at z
    rw [h3.2.2.1]
    exact ((k s hs).2 z).fr f hT (fun k h1 h2 => hc k (by omega))
theorem INV.n {T : Int} {n c : Nat} {S : SS} (h : INV T n c S) : 279 ≤ n := h.1.1
theorem INV.m {T : Int} {n c : Nat} {S : SS} (h : INV T n c S) : mr S = 268 := h.1.2.2
theorem INV.hh {T : Int} {n c : Nat} {S : SS} (h : INV T n c S) : HH S 34 (S.1 268) (fun _ => True) := h.2.1.1
theorem INV.gg {T : Int} {n c : Nat} {S : SS} (h : INV T n c S) : GG T (S.1 268) := h.2.1.2.1
theorem INV.pp {T : Int} {n c : Nat} {S : SS} (h : INV T n c S) : PPf S.2.2.1 := h.2.2.1.1
theorem INV.c6 {T : Int} {n c : Nat} {S : SS} (h : INV T n c S) : c ≤ 6 := h.2.2.1.2.1
theorem INV.h7 {T : Int} {n c : Nat} {S : SS} (h : INV T n c S) : S.1 0 7 = nI c := h.2.2.1.2.2.1
theorem INV.h18 {T : Int} {n c : Nat} {S : SS} (h : INV T n c S) : S.1 267 18 = nI c := h.2.2.1.2.2.2.1
theorem INV.inp {T : Int} {n c : Nat} {S : SS} (h : INV T n c S) : INP S := h.2.2.2.2.1
theorem INV.er {T : Int} {n c : Nat} {S : SS} (h : INV T n c S) : ERQ S := h.2.2.2.2.2.1
theorem INV.ou {T : Int} {n c : Nat} {S : SS} (h : INV T n c S) : OUQ n S := h.2.2.2.2.2.2
theorem INV.rf {T : Int} {n c : Nat} {S : SS} (h : INV T n c S) : FRI n n S S := ⟨⟨Nat.le_refl _, h.1.2.1⟩, Or.inl rfl, h.ou.ex, fun _ _ _ => rfl⟩
/-- out[0], outD[0] set -/
def so (S : SS) (v : Int64) : SS := (S.1, S.2.1, (S.2.2.1, S.2.2.2.1, S.2.2.2.2.1, S.2.2.2.2.2.1, S.2.2.2.2.2.2.1, v, S.2.2.2.2.2.2.2.2))
def sd (S : SS) (v : UInt64) : SS := (S.1, S.2.1, (S.2.2.1, S.2.2.2.1, S.2.2.2.2.1, S.2.2.2.2.2.1, S.2.2.2.2.2.2.1, S.2.2.2.2.2.2.2.1, v))
theorem INV.soI {T : Int} {n c : Nat} {S : SS} (h : INV T n c S) (v : Int64) : INV T n c (so S v) :=
  h.fr h.rf (Int.le_refl _) ⟨rfl, rfl⟩ (fun _ _ => ⟨rfl, rfl⟩) rfl ⟨rfl, rfl, rfl, rfl⟩ ⟨rfl, rfl⟩ (h.inp.fr rfl rfl rfl rfl) (h.er.fr rfl rfl rfl rfl) (h.ou.fr (Nat.le_refl _) h.1.2.1 rfl rfl rfl rfl rfl)
theorem INV.sdI {T : Int} {n c : Nat} {S : SS} (h : INV T n c S) (v : UInt64) : INV T n c (sd S v) :=
  h.fr h.rf (Int.le_refl _) ⟨rfl, rfl⟩ (fun _ _ => ⟨rfl, rfl⟩) rfl ⟨rfl, rfl, rfl, rfl⟩ ⟨rfl, rfl⟩ (h.inp.fr rfl rfl rfl rfl) (h.er.fr rfl rfl rfl rfl) (h.ou.fr (Nat.le_refl _) h.1.2.1 rfl rfl rfl rfl rfl)
theorem INV.thI {T : Int} {n c : Nat} {S : SS} (h : INV T n c S) (x : Int32) : INV T n c (th S x) :=
  h.fr h.rf (Int.le_refl _) ⟨rfl, rfl⟩ (fun a ha => ⟨th_n S x (by omega), rfl⟩) (th_n S x (by decide)) ⟨th_n S x (by decide), th_n S x (by decide), th_n S x (by decide), th_n S x (by decide)⟩ ⟨congrFun (th_n S x (by decide)) 7, th_k S x (by decide)⟩
    (h.inp.fr (congrFun (th_n S x (by decide)) 1) (th_k S x (by decide)) (th_n S x (by decide)) (th_n S x (by decide))) (h.er.fr (congrFun (th_n S x (by decide)) 1) (congrFun (th_n S x (by decide)) 2) (th_k S x (by decide)) (th_k S x (by decide)))
    (h.ou.fr (Nat.le_refl _) h.1.2.1 rfl rfl (congrFun (th_n S x (by decide)) 3) (th_k S x (by decide)) (th_n S x (by decide)))
theorem INV.mono {T T' : Int} {n n' c : Nat} {S : SS} (h : INV T n c S) (hT : T ≤ T') (hn : n ≤ n') (hn2 : n' ≤ ab_CB) : INV T' n' c S :=
  h.fr ⟨⟨hn, hn2⟩, Or.inl rfl, h.ou.ex, fun _ _ _ => rfl⟩ hT ⟨rfl, rfl⟩ (fun _ _ => ⟨rfl, rfl⟩) rfl ⟨rfl, rfl, rfl, rfl⟩ ⟨rfl, rfl⟩ (h.inp.fr rfl rfl rfl rfl) (h.er.fr rfl rfl rfl rfl) (h.ou.fr hn hn2 rfl rfl rfl rfl rfl)
/-- what a question of what will be leaves: the trial, the reference's row aside -/
theorem INV.trial {T : Int} {n c : Nat} {S S1 : SS} (h : INV T n c S) (q : FRc 57 S S1) : INV T n c S1 := by
  have e : ∀ a, (a < 57 ∨ 57 + 23 ≤ a) → S1.1 a = S.1 a := fun a ha => (q.2 a ha).1
  have f : FRI n n S S1 := ⟨⟨Nat.le_refl _, h.1.2.1⟩, Or.inl (by unfold sbr; rw [q.1]), h.ou.ex, fun k _ _ => by unfold ltc; rw [q.1]⟩
  exact h.fr f (Int.le_refl _) ⟨by rw [q.1], by rw [q.1]⟩ (fun a ha => q.2 a (by omega)) (e 82 (by decide)) ⟨e _ (by decide), e _ (by decide), e _ (by decide), e _ (by decide)⟩ ⟨congrFun (e 0 (by decide)) 7, congrFun (e 267 (by decide)) 18⟩
    (h.inp.fr (congrFun (e 1 (by decide)) 1) (congrFun (e 267 (by decide)) 6) (e 2 (by decide)) (e 271 (by decide))) (h.er.fr (congrFun (e 0 (by decide)) 1) (congrFun (e 0 (by decide)) 2) (congrFun (e 267 (by decide)) 12) (congrFun (e 267 (by decide)) 13))
    (h.ou.fr (Nat.le_refl _) h.1.2.1 (by unfold sbr; rw [q.1]) (by unfold ltc; rw [q.1]) (congrFun (e 32 (by decide)) 3) (congrFun (e 267 (by decide)) 20) (e 276 (by decide)))
theorem INV.aside {T : Int} {n c : Nat} {S : SS} (h : INV T n c S) : INV T n c (f_aside S) := by
  have e : ∀ a, ¬ a = 270 → (f_aside S).1 a = S.1 a := fun a ha => su_n S _ ha
  exact h.fr h.rf (Int.le_refl _) ⟨rfl, rfl⟩ (fun a ha => ⟨e a (by omega), rfl⟩) (e _ (by decide)) ⟨e _ (by decide), e _ (by decide), e _ (by decide), e _ (by decide)⟩ ⟨congrFun (e 0 (by decide)) 7, congrFun (e 267 (by decide)) 18⟩
    (h.inp.fr (congrFun (e 1 (by decide)) 1) (congrFun (e 267 (by decide)) 6) (e 2 (by decide)) (e 271 (by decide))) (h.er.fr (congrFun (e 0 (by decide)) 1) (congrFun (e 0 (by decide)) 2) (congrFun (e 267 (by decide)) 12) (congrFun (e 267 (by decide)) 13))
    (h.ou.fr (Nat.le_refl _) h.1.2.1 rfl rfl (congrFun (e 32 (by decide)) 3) (congrFun (e 267 (by decide)) 20) (e 276 (by decide)))
