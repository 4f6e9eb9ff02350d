/-! PURE WORDS: booleans, the fixed topology, the abstract court -/
def bI (p : Prop) [Decidable p] : Int32 := if p then 1 else 0
theorem bI_t {p : Prop} [Decidable p] (h : p) : bI p = 1 := if_pos h
theorem bI_f {p : Prop} [Decidable p] (h : ¬ p) : bI p = 0 := if_neg h
theorem bI_nar (p : Prop) [Decidable p] : narrow .boolean (.int (bI p)) = .int (bI p) := by unfold bI; split <;> rfl
theorem bI_fit (p : Prop) [Decidable p] : fits .boolean (.int (bI p)) = true := by unfold bI; split <;> rfl
theorem bI_congr {p q : Prop} [Decidable p] [Decidable q] (h : p ↔ q) : bI p = bI q := by unfold bI; simp only [h]
theorem bI_1 {p : Prop} [Decidable p] : bI p = 1 ↔ p := by unfold bI; split <;> simp_all
theorem bI_0 {p : Prop} [Decidable p] : bI p = 0 ↔ ¬ p := by unfold bI; split <;> simp_all
section BI
variable {d nF : Nat} {mr : xMR} {pc : Nat} {ls : List (Option xV)} {st : List xV} {M : xM} {Q : Option xV → xM → Prop}
theorem w_ifeq_b {p : Prop} [Decidable p] {off : Int} {tgt : Nat} (hdg : decode mr.2.2.1 pc = .ok (.ifCond .eq off, 3)) (ht : (pc : Int) + off = (tgt : Int)) (kt : ¬ p → Wp d nF mr tgt ls st M Q) (kf : p → Wp d nF mr (pc + 3) ls st M Q) : Wp d nF mr pc ls (vI (bI p) :: st) M Q :=
  w_if_eq hdg ht (fun h => kt (bI_0.mp h)) (fun h => kf (Classical.byContradiction fun z => h (bI_f z)))
theorem w_ifne_b {p : Prop} [Decidable p] {off : Int} {tgt : Nat} (hdg : decode mr.2.2.1 pc = .ok (.ifCond .ne off, 3)) (ht : (pc : Int) + off = (tgt : Int)) (kt : p → Wp d nF mr tgt ls st M Q) (kf : ¬ p → Wp d nF mr (pc + 3) ls st M Q) : Wp d nF mr pc ls (vI (bI p) :: st) M Q :=
  w_if_ne hdg ht (fun h => kt (Classical.byContradiction fun z => h (bI_f z))) (fun h => kf (bI_0.mp h))
end BI
/-- what refers to what, once all is made -/
def xR0 : Nat → Nat → Nat → Nat → Option xId
  | 0, _, _, 0 => some (1, 0, 0)
  | 0, _, _, 1 => some (1, 1, 0)
  | 0, _, _, 2 => some (8, 0, 0)
  | 0, _, _, 3 => some (10, 0, 0)
  | 0, _, _, 4 => some (12, 0, 0)
  | 0, _, _, 5 => some (14, 0, 0)
  | 0, _, _, 6 => some (17, 0, 0)
  | 0, _, _, 7 => some (19, 0, 0)
  | 1, k, _, 0 => some (2, k, 0)
  | 1, k, _, 1 => some (4, k, 0)
  | 1, k, _, 2 => some (6, k, 0)
  | 2, k, _, j => if j < 4 then some (3, k, j) else none
  | 4, k, _, j => if j < 5 then some (5, k, j) else none
  | 6, k, _, j => if j < 6 then some (7, k, j) else none
  | 8, _, _, i => if i < 2 then some (9, i, 0) else none
  | 9, i, _, 0 => some (1, 2 + i, 0)
  | 10, _, _, 0 => some (11, 0, 0)
  | 12, _, _, 0 => some (13, 0, 0)
  | 14, _, _, 0 => some (15, 0, 0)
  | 14, _, _, 1 => some (16, 0, 0)
  | 17, _, _, 0 => some (18, 0, 0)
  | 19, _, _, i => if i < 4 then some (20, i, 0) else none
  | 20, i, _, 0 => some (21, i, 0)
  | 30, _, _, 0 => some (31, 0, 0)
  | 30, _, _, 1 => some (32, 0, 0)
  | 30, _, _, 2 => some (33, 0, 0)
  | 30, _, _, 5 => some (34, 0, 0)
  | 30, _, _, 9 => some (35, 0, 0)
  | 30, _, _, 17 => some (36, 0, 0)
  | 30, _, _, 23 => some (37, 0, 0)
  | 30, _, _, 24 => some (38, 0, 0)
  | 30, _, _, 25 => some (39, 0, 0)
  | 30, _, _, 27 => some (40, 0, 0)
  | _, _, _, _ => none
abbrev rM (I : xF4 Int32) (L : xF4 Int64) : xM := (109, (xR0, (I, L)))
/-- an int answer, the memory as it was -/
abbrev pI (x : Int32) (I : xF4 Int32) (L : xF4 Int64) : Option xV → xM → Prop := fun v M => v = some (vI x) ∧ M = rM I L
abbrev pO (x : Option xId) (I : xF4 Int32) (L : xF4 Int64) : Option xV → xM → Prop := fun v M => v = some (vO x) ∧ M = rM I L
abbrev pV (I : xF4 Int32) (L : xF4 Int64) : Option xV → xM → Prop := fun v M => v = none ∧ M = rM I L
theorem nI_m1 {n : Nat} (h : n < 2 ^ 31) : ¬ nI n < 0 := nI_pos h
theorem i32_le {x y : Int32} : x ≤ y ↔ x.toInt ≤ y.toInt := Int32.le_iff_toInt_le
theorem i32_lt {x y : Int32} : x < y ↔ x.toInt < y.toInt := Int32.lt_iff_toInt_lt
theorem i32_nlt {x y : Int32} : ¬ x < y ↔ y ≤ x := Int32.not_lt
theorem i32_nle {x y : Int32} : ¬ x ≤ y ↔ y < x := Int32.not_le
/-- an int that lies from 0 on below a number, or doesn't -/
theorem xcase (x : Int32) {n : Nat} (hn : n < 2 ^ 31) : (∃ j : Nat, j < n ∧ x = nI j) ∨ x < 0 ∨ nI n ≤ x := by
  rcases pk_ix x hn with h | h | h
  · exact Or.inr (Or.inl h)
  · exact Or.inr (Or.inr h)
  · exact Or.inl h
theorem i32_out {x : Int32} {lo hi : Int} (h : ∀ k : Int, lo ≤ k → k ≤ hi → ¬ x.toInt = k) : x.toInt < lo ∨ hi < x.toInt := by
  by_cases h1 : x.toInt < lo
  · exact Or.inl h1
  · by_cases h2 : hi < x.toInt
    · exact Or.inr h2
    · exact absurd rfl (h x.toInt (by omega) (by omega))
theorem i32_ofT {x y : Int32} {k : Int} (h : x.toInt = k) (hy : y.toInt = k) : x = y := Int32.toInt_inj.mp (h.trans hy.symm)
