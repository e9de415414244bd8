/-! The text's tokens and its statements, as pure functions of the bytes. -/
def kd (x : Int32) : Nat := if x = 32 ∨ x = 10 then 0 else if inr x 97 122 then 1 else if inr x 48 57 then 2 else 3
/-- the end of the run of bytes of kind k from p on -/
def runf (b : Nat → Int32) (N k : Nat) : Nat → Nat → Nat
  | 0, p => p
  | f + 1, p => if p < N ∧ kd (b p) = k then runf b N k f (p + 1) else p
def run (b : Nat → Int32) (N k p : Nat) : Nat := runf b N k (N - p) p
theorem run_s {b : Nat → Int32} {N k p : Nat} (h : p < N) (hk : kd (b p) = k) : run b N k p = run b N k (p + 1) := by
  unfold run
  rw [show N - p = (N - (p + 1)) + 1 by omega]
  exact if_pos ⟨h, hk⟩
theorem run_e {b : Nat → Int32} {N k p : Nat} (h : ¬ (p < N ∧ kd (b p) = k)) : run b N k p = p := by
  unfold run
  cases hf : N - p with
  | zero => rfl
  | succ f => exact if_neg h
theorem run_ind {b : Nat → Int32} {N k : Nat} : ∀ f p, N - p = f → p ≤ run b N k p ∧ (p ≤ N → run b N k p ≤ N) ∧ (∀ q, p ≤ q → q < run b N k p → q < N ∧ kd (b q) = k) ∧ ¬ (run b N k p < N ∧ kd (b (run b N k p)) = k) := by
  intro f
  induction f with
  | zero =>
    intro p hp
    have e : run b N k p = p := run_e (fun z => by omega)
    rw [e]
    exact ⟨Nat.le_refl _, fun h => h, fun q h1 h2 => by omega, fun z => by omega⟩
  | succ f ih =>
    intro p hp
    by_cases h : p < N ∧ kd (b p) = k
    · rw [run_s h.1 h.2]
      obtain ⟨h1, h2, h3, h4⟩ := ih (p + 1) (by omega)
      refine ⟨by omega, fun _ => h2 (by omega), fun q q1 q2 => ?_, h4⟩
      by_cases hq : q = p
      · subst hq; exact h
      · exact h3 q (by omega) q2
    · rw [run_e h]
      exact ⟨Nat.le_refl _, fun h => h, fun q h1 h2 => by omega, h⟩
theorem run_ge (b : Nat → Int32) (N k p : Nat) : p ≤ run b N k p := (run_ind _ p rfl).1
theorem run_le {b : Nat → Int32} {N k p : Nat} (h : p ≤ N) : run b N k p ≤ N := (run_ind _ p rfl).2.1 h
theorem run_at {b : Nat → Int32} {N k p q : Nat} (h1 : p ≤ q) (h2 : q < run b N k p) : q < N ∧ kd (b q) = k := (run_ind _ p rfl).2.2.1 q h1 h2
theorem run_end (b : Nat → Int32) (N k p : Nat) : ¬ (run b N k p < N ∧ kd (b (run b N k p)) = k) := (run_ind _ p rfl).2.2.2
/-- the token that begins at p: its kind (0: the end), its end; where the next begins -/
def tk (b : Nat → Int32) (N p : Nat) : Nat := if p < N then kd (b p) else 0
def te (b : Nat → Int32) (N p : Nat) : Nat := if p < N then (if kd (b p) = 3 then p + 1 else run b N (kd (b p)) p) else p
def nx (b : Nat → Int32) (N p : Nat) : Nat := run b N 0 (te b N p)
/-- where a token may begin -/
def VP (b : Nat → Int32) (N p : Nat) : Prop := p ≤ N ∧ (p < N → ¬ kd (b p) = 0)
theorem te_le {b : Nat → Int32} {N p : Nat} (h : p ≤ N) : te b N p ≤ N := by
  unfold te
  split
  · split
    · omega
    · exact run_le h
  · exact h
theorem te_ge (b : Nat → Int32) (N p : Nat) : p ≤ te b N p := by
  unfold te
  split
  · split
    · omega
    · exact run_ge _ _ _ _
  · exact Nat.le_refl _
theorem te_gt {b : Nat → Int32} {N p : Nat} (h : p < N) : p < te b N p := by
  unfold te
  rw [if_pos h]
  split
  · omega
  · rw [run_s h rfl]
    exact run_ge _ _ _ _
theorem VP_run {b : Nat → Int32} {N q : Nat} (h : q ≤ N) : VP b N (run b N 0 q) := ⟨run_le h, fun h1 h2 => run_end b N 0 q ⟨h1, h2⟩⟩
theorem VP_nx {b : Nat → Int32} {N p : Nat} (h : VP b N p) : VP b N (nx b N p) := VP_run (te_le h.1)
theorem nx_ge (b : Nat → Int32) (N p : Nat) : p ≤ nx b N p := Nat.le_trans (te_ge b N p) (run_ge _ _ _ _)
theorem nx_gt {b : Nat → Int32} {N p : Nat} (h : p < N) : p < nx b N p := Nat.lt_of_lt_of_le (te_gt h) (run_ge _ _ _ _)
theorem tk_lt {b : Nat → Int32} {N p : Nat} (h : ¬ tk b N p = 0) : p < N := Nat.lt_of_not_le (fun z => h (if_neg (by omega)))
/-- the first k digits' number from p on, at most c -/
def nv (b : Nat → Int32) (c p : Nat) : Nat → Nat
  | 0 => 0
  | k + 1 => min c (10 * nv b c p k + ((b (p + k)).toInt - 48).toNat)
theorem nv_le (b : Nat → Int32) (c p : Nat) : ∀ k, nv b c p k ≤ c
  | 0 => Nat.zero_le _
  | _ + 1 => Nat.min_le_left _ _
theorem nv_two (b : Nat → Int32) (p : Nat) : ∀ k, nv b 99999 p k = nv b 100000 p k ∨ (99999 ≤ nv b 99999 p k ∧ 99999 ≤ nv b 100000 p k)
  | 0 => Or.inl rfl
  | k + 1 => by
    have ih := nv_two b p k
    have e1 : nv b 99999 p (k + 1) = min 99999 (10 * nv b 99999 p k + ((b (p + k)).toInt - 48).toNat) := rfl
    have e2 : nv b 100000 p (k + 1) = min 100000 (10 * nv b 100000 p k + ((b (p + k)).toInt - 48).toNat) := rfl
    have l1 := nv_le b 99999 p k
    have l2 := nv_le b 100000 p k
    rw [e1, e2]
    omega
def vl (b : Nat → Int32) (N p : Nat) : Nat := nv b 99999 p (te b N p - p)
/-- the words -/
def KW : List (List Int32) := [[111, 117, 116, 115, 105, 100, 101], [119, 105, 110, 100, 111, 119], [104, 111, 108, 100], [98, 97, 99, 107], [99, 111, 110, 116, 114, 111, 108], [101, 120, 101, 114, 99, 105, 115, 101], [114, 111, 111, 109], [116, 101, 109, 112], [112, 111, 119, 101, 114], [108, 111, 115, 115], [118, 97, 108, 118, 101], [98, 97, 116, 116, 101, 114, 121], [112, 114, 111, 103, 114, 97, 109], [112, 108, 97, 110], [111, 112, 101, 110], [99, 108, 111, 115, 101], [99, 111, 109, 101], [103, 111]]
def kw (i : Nat) : List Int32 := KW.getD i []
def wd (b : Nat → Int32) (N : Nat) (l : List Int32) (p : Nat) : Bool := decide (tk b N p = 1) && decide (te b N p = p + l.length) && (List.range l.length).all (fun j => decide (b (p + j) = l.getD j 0))
theorem wd_iff {b : Nat → Int32} {N p : Nat} {l : List Int32} : wd b N l p = true ↔ tk b N p = 1 ∧ te b N p = p + l.length ∧ ∀ j, j < l.length → b (p + j) = l.getD j 0 := by
  unfold wd
  rw [Bool.and_eq_true, Bool.and_eq_true, decide_eq_true_iff, decide_eq_true_iff, List.all_eq_true]
  constructor
  · rintro ⟨⟨h1, h2⟩, h3⟩
    exact ⟨h1, h2, fun j hj => of_decide_eq_true (h3 j (List.mem_range.mpr hj))⟩
  · rintro ⟨h1, h2, h3⟩
    exact ⟨⟨h1, h2⟩, fun j hj => decide_eq_true (h3 j (List.mem_range.mp hj))⟩
def kwB (b : Nat → Int32) (N p : Nat) : Bool := (List.range 18).any (fun i => wd b N (kw i) p)
theorem kwB_iff {b : Nat → Int32} {N p : Nat} : kwB b N p = true ↔ ∃ i, i < 18 ∧ wd b N (kw i) p = true := by
  unfold kwB
  rw [List.any_eq_true]
  constructor
  · rintro ⟨i, hi, h⟩; exact ⟨i, List.mem_range.mp hi, h⟩
  · rintro ⟨i, hi, h⟩; exact ⟨i, List.mem_range.mpr hi, h⟩
theorem kw_ne : ∀ i, i < 18 → ∀ j, j < 18 → ¬ i = j → ¬ kw i = kw j := by decide +kernel
theorem wd_inj {b : Nat → Int32} {N p i j : Nat} (hi : i < 18) (hj : j < 18) (h1 : wd b N (kw i) p = true) (h2 : wd b N (kw j) p = true) : i = j := by
  obtain ⟨-, l1, e1⟩ := wd_iff.mp h1
  obtain ⟨-, l2, e2⟩ := wd_iff.mp h2
  apply Classical.byContradiction
  intro hij
  refine kw_ne i hi j hj hij ?_
  have hl : (kw i).length = (kw j).length := by omega
  apply List.ext_getElem hl
  intro k k1 k2
  have a1 := e1 k k1
  have a2 := e2 k k2
  rw [List.getD_eq_getElem?_getD, List.getElem?_eq_getElem k1] at a1
  rw [List.getD_eq_getElem?_getD, List.getElem?_eq_getElem k2] at a2
  exact a1.symm.trans a2
/-- an error and its place, or what was taken -/
abbrev PR (α : Type) : Type := (Nat × Nat) ⊕ α
def pb {α β : Type} (x : PR α) (f : α → PR β) : PR β := match x with
  | .inl e => .inl e
  | .inr a => f a
section PP
variable (b : Nat → Int32) (N : Nat)
def isS (c : Int32) (p : Nat) : Bool := decide (tk b N p = 3) && decide (b p = c)
def pNumH (lo hi p : Nat) : PR Nat := if tk b N p = 2 then (if lo ≤ vl b N p ∧ vl b N p ≤ hi then .inr (vl b N p) else .inl (2, p)) else .inl (1, p)
def pNum (lo hi p : Nat) : PR (Nat × Nat) := pb (pNumH b N lo hi p) (fun v => .inr (v, nx b N p))
def pWord (i p : Nat) : PR Nat := if wd b N (kw i) p then .inr (nx b N p) else .inl (1, p)
def pSym (c : Int32) (p : Nat) : PR Nat := if isS b N c p then .inr (nx b N p) else .inl (1, p)
def pNumA (i lo hi p : Nat) : PR (Nat × Nat) := pb (pWord b N i p) (pNum b N lo hi)
def pNumIf (i pl lo hi p : Nat) : PR (Nat × Nat) := if wd b N (kw i) p then pNumA b N i lo hi p else .inr (pl, p)
def isNm (p : Nat) : Bool := decide (tk b N p = 1) && decide (te b N p - p ≤ 6) && !kwB b N p
def pName (p : Nat) : PR Int32 := if isNm b N p then .inr (nmo b p (te b N p - p)) else .inl (1, p)
def pRoom (g : Nat → Int32) (p : Nat) : PR Nat := pb (pName b N p) (fun x => if rnm g x = -1 then .inl (4, p) else .inr (rnm g x).toInt.toNat)
/-- place, draft, what was told that comes at most once -/
abbrev PST : Type := Nat × (Nat → Int32) × Nat
def pOnce (k : Nat) (s : PST) : PR PST := if s.2.2.testBit k then .inl (3, s.1) else .inr (nx b N s.1, s.2.1, s.2.2 ||| 2 ^ k)
/-- a number to the draft -/
def pHdr (j lo hi : Nat) (s : PST) : PR PST := pb (pNum b N lo hi s.1) (fun q => .inr (q.2, upd s.2.1 j (nI q.1), s.2.2))
def pEnd (s : PST) : PR PST := pb (pSym b N 59 s.1) (fun p => .inr (p, s.2))
def pOut1 (s : PST) : PR PST := if isS b N 45 s.1 then pb (pNum b N 0 300 (nx b N s.1)) (fun q => .inr (q.2, upd s.2.1 2 (-nI q.1), s.2.2)) else pHdr b N 2 0 400 s
def pOutside (s : PST) : PR PST := pb (pb (pOnce b N 0 s) (pOut1 b N)) (pEnd b N)
def pHold (s : PST) : PR PST := pb (pNumA b N 2 1 48 s.1) (fun q => .inr (q.2, upd s.2.1 5 (nI q.1), s.2.2))
def pWindow (s : PST) : PR PST := pb (pb (pb (pOnce b N 1 s) (pHdr b N 4 1 99)) (pHold b N)) (pEnd b N)
def pBack (s : PST) : PR PST := pb (pb (pOnce b N 2 s) (pHdr b N 6 0 150)) (pEnd b N)
def pControl (s : PST) : PR PST := pb (pb (pb (pb (pOnce b N 3 s) (pHdr b N 7 0 50)) (pHdr b N 8 1 50)) (pHdr b N 9 1 100)) (pEnd b N)
def pExercise (s : PST) : PR PST := pb (pb (pOnce b N 4 s) (pHdr b N 10 0 335)) (pEnd b N)
def addR (g : Nat → Int32) (x t pw ls v bt : Int32) : Nat → Int32 := pt (pt (pt (pt (pt (pt (pt (upd g 0 (g 0 + 1)) (rn g) 11 x) (rn g) 0 t) (rn g) 3 pw) (rn g) 4 ls) (rn g) 1 v) (rn g) 2 bt) (rn g) 6 1
/-- the name of a new room, and behind it -/
def pRoom1 (s : PST) : PR (Int32 × Nat) := if rn s.2.1 = 6 then .inl (5, s.1) else pb (pName b N (nx b N s.1)) (fun x => if rnm s.2.1 x = -1 then .inr (x, nx b N (nx b N s.1)) else .inl (3, nx b N s.1))
def pFit (p : Nat) : PR ((Nat × Nat × Nat × Nat × Nat) × Nat) := pb (pNumA b N 7 0 400 p) (fun q1 => pb (pNumIf b N 8 10 1 50 q1.2) (fun q2 => pb (pNumIf b N 9 4 0 50 q2.2) (fun q3 => pb (pNumIf b N 10 0 0 100 q3.2) (fun q4 => pb (pNumIf b N 11 1000 0 9999 q4.2) (fun q5 => .inr ((q1.1, q2.1, q3.1, q4.1, q5.1), q5.2))))))
def pNewRoom (s : PST) : PR PST := pb (pRoom1 b N s) (fun x => pb (pFit b N x.2) (fun f => pb (pSym b N 59 f.2) (fun p => .inr (p, addR s.2.1 x.1 (nI f.1.1) (nI f.1.2.1) (nI f.1.2.2.1) (nI f.1.2.2.2.1) (nI f.1.2.2.2.2), s.2.2))))
/-- an entry, behind the token at s's place -/
def pEntry (r : Nat) (s : PST) : PR PST := pb (pNumH b N 0 47 (nx b N s.1)) (fun t => if pg s.2.1 r t = 0 then pb (pSym b N 58 (nx b N (nx b N s.1))) (fun p => pb (pNum b N 50 300 p) (fun q => .inr (q.2, pt s.2.1 r (18 + t) (nI q.1), s.2.2))) else .inl (3, nx b N s.1))
def pEntries (r : Nat) : Nat → PST → PR PST
  | 0, s => .inr s
  | f + 1, s => pb (pEntry b N r s) (fun s' => if isS b N 44 s'.1 then pEntries r f s' else .inr s')
def pProgram (s : PST) : PR PST := pb (pRoom b N s.2.1 (nx b N s.1)) (fun r => if cnt (pg s.2.1 r) 48 = 0 then pb (pEntries b N r (N + 1) (nx b N s.1, s.2)) (pEnd b N) else .inl (3, nx b N s.1))
def pKind (p : Nat) : PR Nat := if wd b N (kw 14) p then .inr 0 else if wd b N (kw 15) p then .inr 1 else if wd b N (kw 16) p then .inr 2 else if wd b N (kw 17) p then .inr 3 else .inl (1, p)
def pPlan1 (s : PST) : PR (Nat × Nat × Nat × Nat) := if pn s.2.1 = 20 then .inl (5, s.1) else pb (pNum b N 1 9999 (nx b N s.1)) (fun q => pb (pRoom b N s.2.1 q.2) (fun r => pb (pKind b N (nx b N q.2)) (fun k => .inr (q.1, r, k, nx b N (nx b N q.2)))))
def pPlan (s : PST) : PR PST := pb (pPlan1 b N s) (fun q => pb (pSym b N 59 q.2.2.2) (fun p => .inr (p, f_plan (nI q.1) (nI q.2.1) (nI q.2.2.1) s.2.1, s.2.2)))
def pStmt (s : PST) : PR PST :=
  if wd b N (kw 0) s.1 then pOutside b N s else if wd b N (kw 1) s.1 then pWindow b N s else if wd b N (kw 3) s.1 then pBack b N s else if wd b N (kw 4) s.1 then pControl b N s else if wd b N (kw 5) s.1 then pExercise b N s
  else if wd b N (kw 6) s.1 then pNewRoom b N s else if wd b N (kw 12) s.1 then pProgram b N s else if wd b N (kw 13) s.1 then pPlan b N s else .inl (1, s.1)
def pAll : Nat → PST → PR PST
  | 0, s => .inr s
  | f + 1, s => if tk b N s.1 = 0 then .inr s else pb (pStmt b N s) (pAll f)
def plain : Nat → Int32 := fun j => if j = 2 then 50 else if j = 4 then 8 else if j = 5 then 3 else if j = 6 then 30 else if j = 7 then 3 else if j = 8 then 5 else if j = 9 then 20 else if j = 10 then 100 else 0
def pLoad : PR PST := if tk b N (run b N 0 0) = 0 then .inl (1, run b N 0 0) else pAll b N (N + 1) (run b N 0 0, plain, 0)
end PP
