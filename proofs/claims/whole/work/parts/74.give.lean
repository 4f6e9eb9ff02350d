/-! give, appeal, days, see, both ways (by wip/whole/gen/g75.py) -/
/-- what is given, of any three ints: nothing (BAD), none (STATE), or a court -/
def giveA (a : aA) (x y z : Int32) : Option (Option aA) :=
  if 0 ≤ x.toInt ∧ x.toInt < (nC a : Int) ∧ 0 ≤ y.toInt ∧ y.toInt < (nJ a : Int) ∧ (sF a x.toInt.toNat 1 : Int) ≤ z.toInt ∧ z.toInt ≤ (sF a x.toInt.toNat 2 : Int) then
    some (if canN a x.toInt.toNat y.toInt.toNat z.toInt.toNat then some (sentN a x.toInt.toNat y.toInt.toNat z.toInt.toNat) else none) else none
def giI : Option (Option aA) → Int32
  | none => -1
  | some none => -2
  | some (some a') => nI (cR a')
def giN (a : aA) : Option (Option aA) → aA
  | some (some a') => a'
  | _ => a
theorem giveA_in {a : aA} (hw : WF a) {c j n : Nat} (hc : c < nC a) (hj : j < nJ a) (h1 : sF a c 1 ≤ n) (h2 : n ≤ sF a c 2) : giveA a (nI c) (nI j) (nI n) = some (if canN a c j n then some (sentN a c j n) else none) := by
  obtain ⟨b1, b2, b3, b4, b5, b6, b7, b8, b9⟩ := hw.2.2.2.2.2.2.1 c hc
  have w1 := hw.1
  have w2 := hw.2.1
  unfold giveA
  rw [z_nI (n := c) (by omega), z_nI (n := j) (by omega), z_nI (n := n) (by omega), Int.toNat_natCast, Int.toNat_natCast, Int.toNat_natCast]
  exact if_pos ⟨by omega, by omega, by omega, by omega, by omega, by omega⟩
theorem giveA_c {a : aA} {x y z : Int32} (h : x.toInt < 0 ∨ (nC a : Int) ≤ x.toInt) : giveA a x y z = none := if_neg (by omega)
theorem giveA_j {a : aA} {x y z : Int32} (h : y.toInt < 0 ∨ (nJ a : Int) ≤ y.toInt) : giveA a x y z = none := if_neg (by omega)
theorem giveA_n {a : aA} (hw : WF a) {c : Nat} (hc : c < nC a) {y z : Int32} (h : z.toInt < (sF a c 1 : Int) ∨ (sF a c 2 : Int) < z.toInt) : giveA a (nI c) y z = none := by
  have w2 := hw.2.1
  unfold giveA
  rw [z_nI (n := c) (by omega), Int.toNat_natCast]
  exact if_neg (by omega)
theorem giN_k {a : aA} (hw : WF a) (x y z : Int32) : WF (giN a (giveA a x y z)) ∧ nJ (giN a (giveA a x y z)) = nJ a ∧ nC (giN a (giveA a x y z)) = nC a ∧ dY (giN a (giveA a x y z)) = dY a := by
  unfold giveA
  split
  next h =>
    split
    · have e : (x.toInt.toNat : Int) = x.toInt := Int.toNat_of_nonneg h.1
      have e2 : (y.toInt.toNat : Int) = y.toInt := Int.toNat_of_nonneg h.2.2.1
      obtain ⟨b1, b2, b3, b4, b5, b6, b7, b8, b9⟩ := hw.2.2.2.2.2.2.1 x.toInt.toNat (by omega)
      obtain ⟨k1, k2, k3, k4, k5, k6⟩ := sentN_k a x.toInt.toNat y.toInt.toNat z.toInt.toNat
      exact ⟨hw.sent (by omega) (by omega) (by omega) (by omega), k1, k2, k4⟩
    · exact ⟨hw, rfl, rfl, rfl⟩
  · exact ⟨hw, rfl, rfl, rfl⟩
abbrev pGi (k : Nat) (a : aA) (x y z : Int32) (I : xF4 Int32) (L : xF4 Int64) : Option xV → xM → Prop := fun v M => v = some (vI (giI (giveA a x y z))) ∧ ∃ I', M = rM I' L ∧ CourtIs I' k (giN a (giveA a x y z)) ∧ FrC k I I'
abbrev pGm (a : aA) (x y z : Int32) (I : xF4 Int32) (L : xF4 Int64) : Option xV → xM → Prop := fun v M => v = some (vI (giI (giveA a x y z))) ∧ ∃ I', M = rM I' L ∧ SI I' (giN a (giveA a x y z)) ∧ FrW I I'

theorem c_saa_in {I : xF4 Int32} {L : xF4 Int64} {k : Nat} {a : aA} (hc : CourtIs I k a) (hw : WF a) {c j n : Nat} (hcc : c < nC a) (hj : j < nJ a) (h1n : sF a c 1 ≤ n) (hn2 : n ≤ sF a c 2) : Tri 5 109 m_X10_sentenceAsAsked [vR 1 k 0, vI (nI c), vI (nI j), vI (nI n)] (rM I L) (pGi k a (nI c) (nI j) (nI n) I L) := by
  refine ⟨k_X10_sentenceAsAsked, Nat.le_of_ble_eq_true rfl, ?_⟩
  show Wp _ _ _ 0 [some (vR 1 k 0), some (vI (nI c)), some (vI (nI j)), some (vI (nI n)), none] [] (rM I L) _
  obtain ⟨hJ, hC, hG, hD, hR, -⟩ := id hw
  obtain ⟨fc0, fc1, fc2, fc3, fc4, fc5, fc6, fc7, fc8⟩ := hw.2.2.2.2.2.2.1 c hcc
  unfold pGi
  rw [giveA_in hw hcc hj h1n hn2]
  refine w_aload_n dX10_sentenceAsAsked_0 rfl ?_
  refine w_iload_n dX10_sentenceAsAsked_1 rfl ?_
  refine w_callV (as := [vI (nI c)]) (st := []) (Tri.mono (c_sAt hc hw hcc) (Nat.le_of_ble_eq_true rfl)) rfl rfl tg_X1_suitAt lk_X10_136 in_X1_suitAt se_X1_suitAt rfl dX10_sentenceAsAsked_2 rfl (Nat.le_of_ble_eq_true rfl) (Nat.le_refl _) (Nat.le_refl _) ?_
  rintro _ _ ⟨rfl, rfl⟩ -
  refine w_astore (ls' := [some (vR 1 k 0), some (vI (nI c)), some (vI (nI j)), some (vI (nI n)), some (vR 5 k c)]) dX10_sentenceAsAsked_5 rfl ?_
  refine w_aload dX10_sentenceAsAsked_7 rfl ?_
  refine w_ifnull (tgt := 37) dX10_sentenceAsAsked_9 (by decide) (fun h => by cases h) (fun _ _ => ?_)
  refine w_aload_n dX10_sentenceAsAsked_12 rfl ?_
  refine w_iload_n dX10_sentenceAsAsked_13 rfl ?_
  refine w_callV (as := [vI (nI j)]) (st := []) (Tri.mono (c_jAt hc hw hj) (Nat.le_of_ble_eq_true rfl)) rfl rfl tg_X1_judgeAt lk_X10_111 in_X1_judgeAt se_X1_judgeAt rfl dX10_sentenceAsAsked_14 rfl (Nat.le_of_ble_eq_true rfl) (Nat.le_refl _) (Nat.le_refl _) ?_
  rintro _ _ ⟨rfl, rfl⟩ -
  refine w_ifnull (tgt := 37) dX10_sentenceAsAsked_17 (by decide) (fun h => by cases h) (fun _ _ => ?_)
  refine w_iload_n dX10_sentenceAsAsked_20 rfl ?_
  refine w_aload dX10_sentenceAsAsked_21 rfl ?_
  refine w_getI ff_X10_145 rfl rfl dX10_sentenceAsAsked_23 ?_
  rw [show (I 5 k c 1 : Int32) = nI (sF a c 1) from hc.s hcc (by decide) (by decide)]
  refine w_aload dX10_sentenceAsAsked_26 rfl ?_
  refine w_getI ff_X10_148 rfl rfl dX10_sentenceAsAsked_28 ?_
  rw [show (I 5 k c 2 : Int32) = nI (sF a c 2) from hc.s hcc (by decide) (by decide)]
  refine w_callS (as := [vI (nI n), vI (nI (sF a c 1)), vI (nI (sF a c 2))]) (st := []) (Tri.mono (c_X10_within (nI n) (nI (sF a c 1)) (nI (sF a c 2))) (Nat.le_of_ble_eq_true rfl)) tg_X10_within lk_X10_158 sa_X10_within rfl dX10_sentenceAsAsked_31 rfl (Nat.le_of_ble_eq_true rfl) (Nat.le_refl _) (Nat.le_refl _) ?_
  rintro _ _ ⟨rfl, rfl⟩ -
  refine w_top (y := bI (((sF a c 1 : Nat) : Int) ≤ ((n : Nat) : Int) ∧ ((n : Nat) : Int) ≤ ((sF a c 2 : Nat) : Int))) (show (bI ((nI (sF a c 1)) ≤ (nI n) ∧ (nI n) ≤ (nI (sF a c 2))) : Int32) = bI (((sF a c 1 : Nat) : Int) ≤ ((n : Nat) : Int) ∧ ((n : Nat) : Int) ≤ ((sF a c 2 : Nat) : Int)) from wiZ (X := ((n : Nat) : Int)) (A := ((sF a c 1 : Nat) : Int)) (B := ((sF a c 2 : Nat) : Int)) (z_nI (by omega)) (z_nI (by omega)) (z_nI (by omega))) ?_
  refine w_ifne_b (tgt := 39) dX10_sentenceAsAsked_34 (by decide) (fun h1 => ?_) (fun h1 => ?_)
  · skip
    first
    | (exfalso; omega)
    | skip
      refine w_aload_n dX10_sentenceAsAsked_39 rfl ?_
      refine w_iload_n dX10_sentenceAsAsked_40 rfl ?_
      refine w_iload_n dX10_sentenceAsAsked_41 rfl ?_
      refine w_iload_n dX10_sentenceAsAsked_42 rfl ?_
      refine w_callV (as := [vI (nI c), vI (nI j), vI (nI n)]) (st := []) (Tri.mono (c_sentence hc hw hcc hj (n := n) (by omega)) (Nat.le_of_ble_eq_true rfl)) rfl rfl tg_X1_sentence lk_X10_343 in_X1_sentence se_X1_sentence rfl dX10_sentenceAsAsked_43 rfl (Nat.le_of_ble_eq_true rfl) (Nat.le_refl _) (Nat.le_refl _) ?_
      rintro v M9 (⟨hp, rfl, I1, rfl, g1, g2⟩ | ⟨hp, rfl, rfl⟩) -
      · skip
        refine w_if_eq (tgt := 56) dX10_sentenceAsAsked_46 (by decide) (fun h => absurd h (by decide)) (fun _ => ?_)
        refine w_aload_n dX10_sentenceAsAsked_49 rfl ?_
        refine w_getI ff_X10_98 rfl rfl dX10_sentenceAsAsked_50 ?_
        rw [show (I1 1 k 0 7 : Int32) = nI (cR (sentN a c j n)) from g1.2.2.2.2.1]
        refine w_goto (tgt := 58) dX10_sentenceAsAsked_53 (by decide) ?_
        rw [if_pos hp]
        exact w_ireturn dX10_sentenceAsAsked_58 rfl (rfl) rfl (⟨rfl, I1, rfl, g1, g2⟩)
      · skip
        refine w_if_eq (tgt := 56) dX10_sentenceAsAsked_46 (by decide) (fun _ => ?_) (fun h => absurd (by decide) h)
        refine w_bipush (v := (-2)) dX10_sentenceAsAsked_56 (by decide) ?_
        rw [if_neg hp]
        exact w_ireturn dX10_sentenceAsAsked_58 rfl (rfl) rfl (⟨rfl, I, rfl, hc, FrC.rf⟩)
  · skip
    first
    | (exfalso; omega)
    | skip
      refine w_iconst (v := (-1)) dX10_sentenceAsAsked_37 (by decide) ?_
      exfalso
      omega

theorem c_saa_c {I : xF4 Int32} {L : xF4 Int64} {k : Nat} {a : aA} (hc : CourtIs I k a) (hw : WF a) {x y z : Int32} (hx : x.toInt < 0 ∨ ((nC a : Nat) : Int) ≤ x.toInt) : Tri 5 109 m_X10_sentenceAsAsked [vR 1 k 0, vI (x), vI (y), vI (z)] (rM I L) (pGi k a (x) (y) (z) I L) := by
  refine ⟨k_X10_sentenceAsAsked, Nat.le_of_ble_eq_true rfl, ?_⟩
  show Wp _ _ _ 0 [some (vR 1 k 0), some (vI (x)), some (vI (y)), some (vI (z)), none] [] (rM I L) _
  obtain ⟨hJ, hC, hG, hD, hR, -⟩ := id hw
  unfold pGi
  rw [giveA_c hx]
  refine w_aload_n dX10_sentenceAsAsked_0 rfl ?_
  refine w_iload_n dX10_sentenceAsAsked_1 rfl ?_
  refine w_callV (as := [vI (x)]) (st := []) (Tri.mono (c_sAtO hc hw (z_out (by omega) hx)) (Nat.le_of_ble_eq_true rfl)) rfl rfl tg_X1_suitAt lk_X10_136 in_X1_suitAt se_X1_suitAt rfl dX10_sentenceAsAsked_2 rfl (Nat.le_of_ble_eq_true rfl) (Nat.le_refl _) (Nat.le_refl _) ?_
  rintro _ _ ⟨rfl, rfl⟩ -
  refine w_astore (ls' := [some (vR 1 k 0), some (vI (x)), some (vI (y)), some (vI (z)), some (vN)]) dX10_sentenceAsAsked_5 rfl ?_
  refine w_aload dX10_sentenceAsAsked_7 rfl ?_
  refine w_ifnull (tgt := 37) dX10_sentenceAsAsked_9 (by decide) (fun _ => ?_) (fun _ h => by cases h)
  refine w_iconst (v := (-1)) dX10_sentenceAsAsked_37 (by decide) ?_
  exact w_ireturn dX10_sentenceAsAsked_38 rfl (rfl) rfl (⟨rfl, I, rfl, hc, FrC.rf⟩)

theorem c_saa_j {I : xF4 Int32} {L : xF4 Int64} {k : Nat} {a : aA} (hc : CourtIs I k a) (hw : WF a) {c : Nat} (hcc : c < nC a) {y z : Int32} (hx : y.toInt < 0 ∨ ((nJ a : Nat) : Int) ≤ y.toInt) : Tri 5 109 m_X10_sentenceAsAsked [vR 1 k 0, vI (nI c), vI (y), vI (z)] (rM I L) (pGi k a (nI c) (y) (z) I L) := by
  refine ⟨k_X10_sentenceAsAsked, Nat.le_of_ble_eq_true rfl, ?_⟩
  show Wp _ _ _ 0 [some (vR 1 k 0), some (vI (nI c)), some (vI (y)), some (vI (z)), none] [] (rM I L) _
  obtain ⟨hJ, hC, hG, hD, hR, -⟩ := id hw
  obtain ⟨fc0, fc1, fc2, fc3, fc4, fc5, fc6, fc7, fc8⟩ := hw.2.2.2.2.2.2.1 c hcc
  unfold pGi
  rw [giveA_j hx]
  refine w_aload_n dX10_sentenceAsAsked_0 rfl ?_
  refine w_iload_n dX10_sentenceAsAsked_1 rfl ?_
  refine w_callV (as := [vI (nI c)]) (st := []) (Tri.mono (c_sAt hc hw hcc) (Nat.le_of_ble_eq_true rfl)) rfl rfl tg_X1_suitAt lk_X10_136 in_X1_suitAt se_X1_suitAt rfl dX10_sentenceAsAsked_2 rfl (Nat.le_of_ble_eq_true rfl) (Nat.le_refl _) (Nat.le_refl _) ?_
  rintro _ _ ⟨rfl, rfl⟩ -
  refine w_astore (ls' := [some (vR 1 k 0), some (vI (nI c)), some (vI (y)), some (vI (z)), some (vR 5 k c)]) dX10_sentenceAsAsked_5 rfl ?_
  refine w_aload dX10_sentenceAsAsked_7 rfl ?_
  refine w_ifnull (tgt := 37) dX10_sentenceAsAsked_9 (by decide) (fun h => by cases h) (fun _ _ => ?_)
  refine w_aload_n dX10_sentenceAsAsked_12 rfl ?_
  refine w_iload_n dX10_sentenceAsAsked_13 rfl ?_
  refine w_callV (as := [vI (y)]) (st := []) (Tri.mono (c_jAtO hc hw (z_out (by omega) hx)) (Nat.le_of_ble_eq_true rfl)) rfl rfl tg_X1_judgeAt lk_X10_111 in_X1_judgeAt se_X1_judgeAt rfl dX10_sentenceAsAsked_14 rfl (Nat.le_of_ble_eq_true rfl) (Nat.le_refl _) (Nat.le_refl _) ?_
  rintro _ _ ⟨rfl, rfl⟩ -
  refine w_ifnull (tgt := 37) dX10_sentenceAsAsked_17 (by decide) (fun _ => ?_) (fun _ h => by cases h)
  refine w_iconst (v := (-1)) dX10_sentenceAsAsked_37 (by decide) ?_
  exact w_ireturn dX10_sentenceAsAsked_38 rfl (rfl) rfl (⟨rfl, I, rfl, hc, FrC.rf⟩)

theorem c_saa_n {I : xF4 Int32} {L : xF4 Int64} {k : Nat} {a : aA} (hc : CourtIs I k a) (hw : WF a) {c j : Nat} (hcc : c < nC a) (hj : j < nJ a) {z : Int32} (hx : z.toInt < ((sF a c 1 : Nat) : Int) ∨ ((sF a c 2 : Nat) : Int) < z.toInt) : Tri 5 109 m_X10_sentenceAsAsked [vR 1 k 0, vI (nI c), vI (nI j), vI (z)] (rM I L) (pGi k a (nI c) (nI j) (z) I L) := by
  refine ⟨k_X10_sentenceAsAsked, Nat.le_of_ble_eq_true rfl, ?_⟩
  show Wp _ _ _ 0 [some (vR 1 k 0), some (vI (nI c)), some (vI (nI j)), some (vI (z)), none] [] (rM I L) _
  obtain ⟨hJ, hC, hG, hD, hR, -⟩ := id hw
  obtain ⟨fc0, fc1, fc2, fc3, fc4, fc5, fc6, fc7, fc8⟩ := hw.2.2.2.2.2.2.1 c hcc
  unfold pGi
  rw [giveA_n hw hcc hx]
  refine w_aload_n dX10_sentenceAsAsked_0 rfl ?_
  refine w_iload_n dX10_sentenceAsAsked_1 rfl ?_
  refine w_callV (as := [vI (nI c)]) (st := []) (Tri.mono (c_sAt hc hw hcc) (Nat.le_of_ble_eq_true rfl)) rfl rfl tg_X1_suitAt lk_X10_136 in_X1_suitAt se_X1_suitAt rfl dX10_sentenceAsAsked_2 rfl (Nat.le_of_ble_eq_true rfl) (Nat.le_refl _) (Nat.le_refl _) ?_
  rintro _ _ ⟨rfl, rfl⟩ -
  refine w_astore (ls' := [some (vR 1 k 0), some (vI (nI c)), some (vI (nI j)), some (vI (z)), some (vR 5 k c)]) dX10_sentenceAsAsked_5 rfl ?_
  refine w_aload dX10_sentenceAsAsked_7 rfl ?_
  refine w_ifnull (tgt := 37) dX10_sentenceAsAsked_9 (by decide) (fun h => by cases h) (fun _ _ => ?_)
  refine w_aload_n dX10_sentenceAsAsked_12 rfl ?_
  refine w_iload_n dX10_sentenceAsAsked_13 rfl ?_
  refine w_callV (as := [vI (nI j)]) (st := []) (Tri.mono (c_jAt hc hw hj) (Nat.le_of_ble_eq_true rfl)) rfl rfl tg_X1_judgeAt lk_X10_111 in_X1_judgeAt se_X1_judgeAt rfl dX10_sentenceAsAsked_14 rfl (Nat.le_of_ble_eq_true rfl) (Nat.le_refl _) (Nat.le_refl _) ?_
  rintro _ _ ⟨rfl, rfl⟩ -
  refine w_ifnull (tgt := 37) dX10_sentenceAsAsked_17 (by decide) (fun h => by cases h) (fun _ _ => ?_)
  refine w_iload_n dX10_sentenceAsAsked_20 rfl ?_
  refine w_aload dX10_sentenceAsAsked_21 rfl ?_
  refine w_getI ff_X10_145 rfl rfl dX10_sentenceAsAsked_23 ?_
  rw [show (I 5 k c 1 : Int32) = nI (sF a c 1) from hc.s hcc (by decide) (by decide)]
  refine w_aload dX10_sentenceAsAsked_26 rfl ?_
  refine w_getI ff_X10_148 rfl rfl dX10_sentenceAsAsked_28 ?_
  rw [show (I 5 k c 2 : Int32) = nI (sF a c 2) from hc.s hcc (by decide) (by decide)]
  refine w_callS (as := [vI (z), vI (nI (sF a c 1)), vI (nI (sF a c 2))]) (st := []) (Tri.mono (c_X10_within (z) (nI (sF a c 1)) (nI (sF a c 2))) (Nat.le_of_ble_eq_true rfl)) tg_X10_within lk_X10_158 sa_X10_within rfl dX10_sentenceAsAsked_31 rfl (Nat.le_of_ble_eq_true rfl) (Nat.le_refl _) (Nat.le_refl _) ?_
  rintro _ _ ⟨rfl, rfl⟩ -
  refine w_top (y := bI (((sF a c 1 : Nat) : Int) ≤ z.toInt ∧ z.toInt ≤ ((sF a c 2 : Nat) : Int))) (show (bI ((nI (sF a c 1)) ≤ (z) ∧ (z) ≤ (nI (sF a c 2))) : Int32) = bI (((sF a c 1 : Nat) : Int) ≤ z.toInt ∧ z.toInt ≤ ((sF a c 2 : Nat) : Int)) from wiZ (X := z.toInt) (A := ((sF a c 1 : Nat) : Int)) (B := ((sF a c 2 : Nat) : Int)) rfl (z_nI (by omega)) (z_nI (by omega))) ?_
  refine w_ifne_b (tgt := 39) dX10_sentenceAsAsked_34 (by decide) (fun h1 => ?_) (fun h1 => ?_)
  · skip
    first
    | (exfalso; omega)
    | skip
      exfalso
      omega
  · skip
    first
    | (exfalso; omega)
    | skip
      refine w_iconst (v := (-1)) dX10_sentenceAsAsked_37 (by decide) ?_
      exact w_ireturn dX10_sentenceAsAsked_38 rfl (rfl) rfl (⟨rfl, I, rfl, hc, FrC.rf⟩)

theorem c_saa {I : xF4 Int32} {L : xF4 Int64} {k : Nat} {a : aA} (hc : CourtIs I k a) (hw : WF a) (x y z : Int32) : Tri 5 109 m_X10_sentenceAsAsked [vR 1 k 0, vI x, vI y, vI z] (rM I L) (pGi k a x y z I L) := by
  have w1 := hw.1
  have w2 := hw.2.1
  rcases zcase x (n := nC a) (by omega) with ⟨c, hcc, rfl⟩ | hx
  · rcases zcase y (n := nJ a) (by omega) with ⟨j, hj, rfl⟩ | hx
    · obtain ⟨b1, b2, b3, b4, b5, b6, b7, b8, b9⟩ := hw.2.2.2.2.2.2.1 c hcc
      rcases zin z (sF a c 1) (sF a c 2) (by omega) with ⟨n, h1, h2, rfl⟩ | hx
      · exact c_saa_in hc hw hcc hj h1 h2
      · exact c_saa_n hc hw hcc hj hx
    · exact c_saa_j hc hw hcc hx
  · exact c_saa_c hc hw hx

theorem d_give_in {I : xF4 Int32} {L : xF4 Int64} {a : aA} (hs : SI I a) (hw : WF a) {c j n : Nat} (hcc : c < nC a) (hj : j < nJ a) (h1n : sF a c 1 ≤ n) (hn2 : n ≤ sF a c 2) : Tri 5 109 m_X11_give [vR 30 0 0, vI (nI c), vI (nI j), vI (nI n)] (rM I L) (pGm a (nI c) (nI j) (nI n) I L) := by
  refine ⟨k_X11_give, Nat.le_of_ble_eq_true rfl, ?_⟩
  show Wp _ _ _ 0 [some (vR 30 0 0), some (vI (nI c)), some (vI (nI j)), some (vI (nI n))] [] (rM I L) _
  obtain ⟨hJ, hC, hG, hD, hR, -⟩ := id hw
  obtain ⟨fc0, fc1, fc2, fc3, fc4, fc5, fc6, fc7, fc8⟩ := hw.2.2.2.2.2.2.1 c hcc
  unfold pGm
  rw [giveA_in hw hcc hj h1n hn2]
  refine w_aload_n dX11_give_0 rfl ?_
  refine w_iload_n dX11_give_1 rfl ?_
  refine w_iload_n dX11_give_2 rfl ?_
  refine w_callV (as := [vI (nI c), vI (nI n)]) (st := []) (Tri.mono (d_isTerm hs hw hcc (n := nI n) (X := ((n : Nat) : Int)) (z_nI (by omega))) (Nat.le_of_ble_eq_true rfl)) rfl rfl tg_X11_isTerm lk_X11_221 in_X11_isTerm se_X11_isTerm rfl dX11_give_3 rfl (Nat.le_of_ble_eq_true rfl) (Nat.le_refl _) (Nat.le_refl _) ?_
  rintro _ _ ⟨rfl, rfl⟩ -
  refine w_ifeq_b (tgt := 17) dX11_give_6 (by decide) (fun h1 => ?_) (fun h1 => ?_)
  · skip
    first
    | (exfalso; omega)
    | skip
      refine w_iconst (v := (-1)) dX11_give_17 (by decide) ?_
      exfalso
      omega
  · skip
    first
    | (exfalso; omega)
    | skip
      refine w_aload_n dX11_give_9 rfl ?_
      refine w_iload_n dX11_give_10 rfl ?_
      refine w_callV (as := [vI (nI j)]) (st := []) (Tri.mono (d_isJudge (hs.1) (by omega) (x := nI j) (X := ((j : Nat) : Int)) (z_nI (by omega))) (Nat.le_of_ble_eq_true rfl)) rfl rfl tg_X11_isJudge lk_X11_198 in_X11_isJudge se_X11_isJudge rfl dX11_give_11 rfl (Nat.le_of_ble_eq_true rfl) (Nat.le_refl _) (Nat.le_refl _) ?_
      rintro _ _ ⟨rfl, rfl⟩ -
      refine w_ifne_b (tgt := 19) dX11_give_14 (by decide) (fun h2 => ?_) (fun h2 => ?_)
      · skip
        first
        | (exfalso; omega)
        | skip
          refine w_aload_n dX11_give_19 rfl ?_
          refine w_callV (as := []) (st := []) (Tri.mono (d_starts hs hw) (Nat.le_of_ble_eq_true rfl)) rfl rfl tg_X11_starts lk_X11_192 in_X11_starts se_X11_starts rfl dX11_give_20 rfl (Nat.le_of_ble_eq_true rfl) (Nat.le_refl _) (Nat.le_refl _) ?_
          rintro v M9 ⟨rfl, I1, rfl, hm1, hi1, hf1⟩ -
          have hs1 := hf1.r.si hs
          refine w_aload_n dX11_give_23 rfl ?_
          refine w_iload_n dX11_give_24 rfl ?_
          refine w_iload_n dX11_give_25 rfl ?_
          refine w_iload_n dX11_give_26 rfl ?_
          refine w_callV (as := [vI (nI j), vI (nI c), vI (nI n)]) (st := []) (Tri.mono (d_canHear hm1 hw (c := c) (j := j) (n := n) hcc hj (by omega)) (Nat.le_of_ble_eq_true rfl)) rfl rfl tg_X11_canHear lk_X11_165 in_X11_canHear se_X11_canHear rfl dX11_give_27 rfl (Nat.le_of_ble_eq_true rfl) (Nat.le_refl _) (Nat.le_refl _) ?_
          rintro _ _ ⟨rfl, rfl⟩ -
          refine w_ifne_b (tgt := 36) dX11_give_30 (by decide) (fun h9 => ?_) (fun h9 => ?_)
          · skip
            rw [if_pos h9]
            refine w_aload_n dX11_give_36 rfl ?_
            refine w_iload_n dX11_give_37 rfl ?_
            refine w_iload_n dX11_give_38 rfl ?_
            refine w_iload_n dX11_give_39 rfl ?_
            refine w_callV (as := [vI (nI j), vI (nI c), vI (nI n)]) (st := []) (Tri.mono (d_sentences hm1 hw (c := c) (j := j) (n := n) hcc hj (by omega) h9) (Nat.le_of_ble_eq_true rfl)) rfl rfl tg_X11_sentences lk_X11_174 in_X11_sentences se_X11_sentences rfl dX11_give_40 rfl (Nat.le_of_ble_eq_true rfl) (Nat.le_refl _) (Nat.le_refl _) ?_
            rintro v M9 ⟨rfl, I2, rfl, hm2, hf2⟩ -
            have hws : WF (sentN a c j n) := hw.sent hcc hj (by omega) (by omega)
            have hs2 := hf2.r.si hs1
            refine w_aload_n dX11_give_43 rfl ?_
            refine w_callV (as := []) (st := []) (Tri.mono (d_settles hm2 hws) (Nat.le_of_ble_eq_true rfl)) rfl rfl tg_X11_settles lk_X11_225 in_X11_settles se_X11_settles rfl dX11_give_44 rfl (Nat.le_of_ble_eq_true rfl) (Nat.le_refl _) (Nat.le_refl _) ?_
            rintro v M9 ⟨rfl, I3, rfl, hz3, hf3⟩ -
            refine w_aload_n dX11_give_47 rfl ?_
            refine w_getR (w := some (31, 0, 0)) ff_X11_7 rfl rfl dX11_give_48 rfl ?_
            refine w_bipush (v := 56) dX11_give_51 (by decide) ?_
            refine w_iaload (a := 56) rfl (vp_in_nI (n := 56) (by omega) (by omega)) (nI_clamp (n := 56) (by omega)) dX11_give_53 ?_
            rw [show (I3 31 0 0 (56) : Int32) = nI (cR (sentN a c j n)) from hz3.2.2.cr rfl]
            exact w_ireturn dX11_give_54 rfl (rfl) rfl (⟨rfl, _, rfl, hz3, (FrW.tr (hf1.r.tr hf2.r).w hf3.w)⟩)
          · skip
            rw [if_neg h9]
            refine w_bipush (v := (-2)) dX11_give_33 (by decide) ?_
            exact w_ireturn dX11_give_35 rfl (rfl) rfl (⟨rfl, _, rfl, hs1, hf1.r.w⟩)
      · skip
        first
        | (exfalso; omega)
        | skip
          refine w_iconst (v := (-1)) dX11_give_17 (by decide) ?_
          exfalso
          omega

theorem d_give_c {I : xF4 Int32} {L : xF4 Int64} {a : aA} (hs : SI I a) (hw : WF a) {x y z : Int32} (hx : x.toInt < 0 ∨ ((nC a : Nat) : Int) ≤ x.toInt) : Tri 5 109 m_X11_give [vR 30 0 0, vI (x), vI (y), vI (z)] (rM I L) (pGm a (x) (y) (z) I L) := by
  refine ⟨k_X11_give, Nat.le_of_ble_eq_true rfl, ?_⟩
  show Wp _ _ _ 0 [some (vR 30 0 0), some (vI (x)), some (vI (y)), some (vI (z))] [] (rM I L) _
  obtain ⟨hJ, hC, hG, hD, hR, -⟩ := id hw
  unfold pGm
  rw [giveA_c hx]
  refine w_aload_n dX11_give_0 rfl ?_
  refine w_iload_n dX11_give_1 rfl ?_
  refine w_iload_n dX11_give_2 rfl ?_
  refine w_callV (as := [vI (x), vI (z)]) (st := []) (Tri.mono (d_isTermO hs hw (c := x) (n := z) (by omega)) (Nat.le_of_ble_eq_true rfl)) rfl rfl tg_X11_isTerm lk_X11_221 in_X11_isTerm se_X11_isTerm rfl dX11_give_3 rfl (Nat.le_of_ble_eq_true rfl) (Nat.le_refl _) (Nat.le_refl _) ?_
  rintro _ _ ⟨rfl, rfl⟩ -
  refine w_if_eq (tgt := 17) dX11_give_6 (by decide) (fun _ => ?_) (fun h => absurd (by decide) h)
  refine w_iconst (v := (-1)) dX11_give_17 (by decide) ?_
  exact w_ireturn dX11_give_18 rfl (rfl) rfl (⟨rfl, I, rfl, hs, FrW.rf⟩)

theorem d_give_j {I : xF4 Int32} {L : xF4 Int64} {a : aA} (hs : SI I a) (hw : WF a) {c : Nat} (hcc : c < nC a) {y z : Int32} (hx : y.toInt < 0 ∨ ((nJ a : Nat) : Int) ≤ y.toInt) : Tri 5 109 m_X11_give [vR 30 0 0, vI (nI c), vI (y), vI (z)] (rM I L) (pGm a (nI c) (y) (z) I L) := by
  refine ⟨k_X11_give, Nat.le_of_ble_eq_true rfl, ?_⟩
  show Wp _ _ _ 0 [some (vR 30 0 0), some (vI (nI c)), some (vI (y)), some (vI (z))] [] (rM I L) _
  obtain ⟨hJ, hC, hG, hD, hR, -⟩ := id hw
  obtain ⟨fc0, fc1, fc2, fc3, fc4, fc5, fc6, fc7, fc8⟩ := hw.2.2.2.2.2.2.1 c hcc
  unfold pGm
  rw [giveA_j hx]
  refine w_aload_n dX11_give_0 rfl ?_
  refine w_iload_n dX11_give_1 rfl ?_
  refine w_iload_n dX11_give_2 rfl ?_
  refine w_callV (as := [vI (nI c), vI (z)]) (st := []) (Tri.mono (d_isTerm hs hw hcc (n := z) (X := z.toInt) rfl) (Nat.le_of_ble_eq_true rfl)) rfl rfl tg_X11_isTerm lk_X11_221 in_X11_isTerm se_X11_isTerm rfl dX11_give_3 rfl (Nat.le_of_ble_eq_true rfl) (Nat.le_refl _) (Nat.le_refl _) ?_
  rintro _ _ ⟨rfl, rfl⟩ -
  refine w_ifeq_b (tgt := 17) dX11_give_6 (by decide) (fun h1 => ?_) (fun h1 => ?_)
  · skip
    first
    | (exfalso; omega)
    | skip
      refine w_iconst (v := (-1)) dX11_give_17 (by decide) ?_
      exact w_ireturn dX11_give_18 rfl (rfl) rfl (⟨rfl, I, rfl, hs, FrW.rf⟩)
  · skip
    first
    | (exfalso; omega)
    | skip
      refine w_aload_n dX11_give_9 rfl ?_
      refine w_iload_n dX11_give_10 rfl ?_
      refine w_callV (as := [vI (y)]) (st := []) (Tri.mono (d_isJudge (hs.1) (by omega) (x := y) (X := y.toInt) rfl) (Nat.le_of_ble_eq_true rfl)) rfl rfl tg_X11_isJudge lk_X11_198 in_X11_isJudge se_X11_isJudge rfl dX11_give_11 rfl (Nat.le_of_ble_eq_true rfl) (Nat.le_refl _) (Nat.le_refl _) ?_
      rintro _ _ ⟨rfl, rfl⟩ -
      refine w_ifne_b (tgt := 19) dX11_give_14 (by decide) (fun h2 => ?_) (fun h2 => ?_)
      · skip
        first
        | (exfalso; omega)
        | skip
          exfalso
          omega
      · skip
        first
        | (exfalso; omega)
        | skip
          refine w_iconst (v := (-1)) dX11_give_17 (by decide) ?_
          exact w_ireturn dX11_give_18 rfl (rfl) rfl (⟨rfl, I, rfl, hs, FrW.rf⟩)

theorem d_give_n {I : xF4 Int32} {L : xF4 Int64} {a : aA} (hs : SI I a) (hw : WF a) {c j : Nat} (hcc : c < nC a) (hj : j < nJ a) {z : Int32} (hx : z.toInt < ((sF a c 1 : Nat) : Int) ∨ ((sF a c 2 : Nat) : Int) < z.toInt) : Tri 5 109 m_X11_give [vR 30 0 0, vI (nI c), vI (nI j), vI (z)] (rM I L) (pGm a (nI c) (nI j) (z) I L) := by
  refine ⟨k_X11_give, Nat.le_of_ble_eq_true rfl, ?_⟩
  show Wp _ _ _ 0 [some (vR 30 0 0), some (vI (nI c)), some (vI (nI j)), some (vI (z))] [] (rM I L) _
  obtain ⟨hJ, hC, hG, hD, hR, -⟩ := id hw
  obtain ⟨fc0, fc1, fc2, fc3, fc4, fc5, fc6, fc7, fc8⟩ := hw.2.2.2.2.2.2.1 c hcc
  unfold pGm
  rw [giveA_n hw hcc hx]
  refine w_aload_n dX11_give_0 rfl ?_
  refine w_iload_n dX11_give_1 rfl ?_
  refine w_iload_n dX11_give_2 rfl ?_
  refine w_callV (as := [vI (nI c), vI (z)]) (st := []) (Tri.mono (d_isTerm hs hw hcc (n := z) (X := z.toInt) rfl) (Nat.le_of_ble_eq_true rfl)) rfl rfl tg_X11_isTerm lk_X11_221 in_X11_isTerm se_X11_isTerm rfl dX11_give_3 rfl (Nat.le_of_ble_eq_true rfl) (Nat.le_refl _) (Nat.le_refl _) ?_
  rintro _ _ ⟨rfl, rfl⟩ -
  refine w_ifeq_b (tgt := 17) dX11_give_6 (by decide) (fun h1 => ?_) (fun h1 => ?_)
  · skip
    first
    | (exfalso; omega)
    | skip
      refine w_iconst (v := (-1)) dX11_give_17 (by decide) ?_
      exact w_ireturn dX11_give_18 rfl (rfl) rfl (⟨rfl, I, rfl, hs, FrW.rf⟩)
  · skip
    first
    | (exfalso; omega)
    | skip
      refine w_aload_n dX11_give_9 rfl ?_
      refine w_iload_n dX11_give_10 rfl ?_
      refine w_callV (as := [vI (nI j)]) (st := []) (Tri.mono (d_isJudge (hs.1) (by omega) (x := nI j) (X := ((j : Nat) : Int)) (z_nI (by omega))) (Nat.le_of_ble_eq_true rfl)) rfl rfl tg_X11_isJudge lk_X11_198 in_X11_isJudge se_X11_isJudge rfl dX11_give_11 rfl (Nat.le_of_ble_eq_true rfl) (Nat.le_refl _) (Nat.le_refl _) ?_
      rintro _ _ ⟨rfl, rfl⟩ -
      refine w_ifne_b (tgt := 19) dX11_give_14 (by decide) (fun h2 => ?_) (fun h2 => ?_)
      · skip
        first
        | (exfalso; omega)
        | skip
          exfalso
          omega
      · skip
        first
        | (exfalso; omega)
        | skip
          refine w_iconst (v := (-1)) dX11_give_17 (by decide) ?_
          exact w_ireturn dX11_give_18 rfl (rfl) rfl (⟨rfl, I, rfl, hs, FrW.rf⟩)

theorem d_give {I : xF4 Int32} {L : xF4 Int64} {a : aA} (hs : SI I a) (hw : WF a) (x y z : Int32) : Tri 5 109 m_X11_give [vR 30 0 0, vI x, vI y, vI z] (rM I L) (pGm a x y z I L) := by
  have w1 := hw.1
  have w2 := hw.2.1
  rcases zcase x (n := nC a) (by omega) with ⟨c, hcc, rfl⟩ | hx
  · rcases zcase y (n := nJ a) (by omega) with ⟨j, hj, rfl⟩ | hx
    · obtain ⟨b1, b2, b3, b4, b5, b6, b7, b8, b9⟩ := hw.2.2.2.2.2.2.1 c hcc
      rcases zin z (sF a c 1) (sF a c 2) (by omega) with ⟨n, h1, h2, rfl⟩ | hx
      · exact d_give_in hs hw hcc hj h1 h2
      · exact d_give_n hs hw hcc hj hx
    · exact d_give_j hs hw hcc hx
  · exact d_give_c hs hw hx

theorem p_give {I : xF4 Int32} {L : xF4 Int64} {a : aA} (hc : CourtIs I 0 a) (hw : WF a) (x y z : Int32) : Tri 19 109 m_X10_give [vR 0 0 0, vI (x), vI (y), vI (z)] (rM I L) (pCc (giI (giveA a x y z)) (giN a (giveA a x y z)) I) := by
  refine ⟨k_X10_give, Nat.le_of_ble_eq_true rfl, ?_⟩
  show Wp _ _ _ 0 [some (vR 0 0 0), some (vI (x)), some (vI (y)), some (vI (z))] [] (rM I L) _
  refine w_aload_n dX10_give_0 rfl ?_
  refine w_getR (w := some (1, 0, 0)) ff_X10_10 rfl rfl dX10_give_1 rfl ?_
  refine w_iload_n dX10_give_4 rfl ?_
  refine w_iload_n dX10_give_5 rfl ?_
  refine w_iload_n dX10_give_6 rfl ?_
  refine w_callS (as := [vR 1 0 0, vI (x), vI (y), vI (z)]) (st := []) (Tri.mono (c_saa hc hw x y z) (Nat.le_of_ble_eq_true rfl)) tg_X10_sentenceAsAsked lk_X10_181 sa_X10_sentenceAsAsked rfl dX10_give_7 rfl (Nat.le_of_ble_eq_true rfl) (Nat.le_refl _) (Nat.le_refl _) ?_
  rintro v M9 ⟨rfl, I1, rfl, g1, g2⟩ -
  exact w_ireturn dX10_give_10 rfl (rfl) rfl (⟨rfl, I1, L, rfl, g1, g2⟩)

theorem q_give {I : xF4 Int32} {L : xF4 Int64} {a : aA} (hs : SI I a) (hw : WF a) (x y z : Int32) : Tri 19 109 m_X11_give [vR 30 0 0, vI x, vI y, vI z] (rM I L) (pMc (giI (giveA a x y z)) (giN a (giveA a x y z)) I) :=
  ((d_give hs hw x y z).mono (by decide)).imp (fun v M h => ⟨h.1, by obtain ⟨I1, e, h1, h2⟩ := h.2; exact ⟨I1, L, e, h1, h2⟩⟩)

theorem p_appeal {I : xF4 Int32} {L : xF4 Int64} {a : aA} (hc : CourtIs I 0 a) (hw : WF a) {c : Nat} (hcc : c < nC a) {b : Nat} (hb : bY a c = some b) (h4 : 0 < sF a c 4) : Tri 19 109 m_X10_appeal [vR 0 0 0, vI (nI c)] (rM I L) (pCc (nI (cR (undoN a c))) (undoN a c) I) := by
  refine ⟨k_X10_appeal, Nat.le_of_ble_eq_true rfl, ?_⟩
  show Wp _ _ _ 0 [some (vR 0 0 0), some (vI (nI c)), none] [] (rM I L) _
  obtain ⟨hJ, hC, hG, hD, hR, -⟩ := id hw
  obtain ⟨fc0, fc1, fc2, fc3, fc4, fc5, fc6, fc7, fc8⟩ := hw.2.2.2.2.2.2.1 c hcc
  refine w_aload_n dX10_appeal_0 rfl ?_
  refine w_getR (w := some (1, 0, 0)) ff_X10_10 rfl rfl dX10_appeal_1 rfl ?_
  refine w_iload_n dX10_appeal_4 rfl ?_
  refine w_callV (as := [vI (nI c)]) (st := []) (Tri.mono (c_sAt hc hw hcc) (Nat.le_of_ble_eq_true rfl)) rfl rfl tg_X1_suitAt lk_X10_136 in_X1_suitAt se_X1_suitAt rfl dX10_appeal_5 rfl (Nat.le_of_ble_eq_true rfl) (Nat.le_refl _) (Nat.le_refl _) ?_
  rintro _ _ ⟨rfl, rfl⟩ -
  refine w_astore_n (ls' := [some (vR 0 0 0), some (vI (nI c)), some (vR 5 0 c)]) dX10_appeal_8 rfl ?_
  refine w_aload_n dX10_appeal_9 rfl ?_
  refine w_ifnonnull (tgt := 15) dX10_appeal_10 (by decide) (fun _ _ => ?_) (fun h => by cases h)
  refine w_aload_n dX10_appeal_15 rfl ?_
  refine w_callV (as := []) (st := []) (Tri.mono (c_X8_isHeard 0 c) (Nat.le_of_ble_eq_true rfl)) rfl rfl tg_X8_isHeard lk_X10_170 in_X8_isHeard se_X8_isHeard rfl dX10_appeal_16 rfl (Nat.le_of_ble_eq_true rfl) (Nat.le_refl _) (Nat.le_refl _) ?_
  rintro _ _ ⟨rfl, rfl⟩ -
  rw [show (bI (0 < I 5 0 c 4) : Int32) = bI (0 < sF a c 4) from isH hc hw hcc]
  refine w_ifne_b (tgt := 25) dX10_appeal_19 (by decide) (fun h1 => ?_) (fun h1 => ?_)
  · skip
    first
    | (exfalso; omega)
    | skip
      refine w_aload_n dX10_appeal_25 rfl ?_
      refine w_getR (w := some (1, 0, 0)) ff_X10_10 rfl rfl dX10_appeal_26 rfl ?_
      refine w_aload_n dX10_appeal_29 rfl ?_
      refine w_callV (as := [vR 5 0 c]) (st := []) (Tri.mono (c_undo hc hw hcc hb) (Nat.le_of_ble_eq_true rfl)) rfl rfl tg_X1_undo lk_X10_185 in_X1_undo se_X1_undo rfl dX10_appeal_30 rfl (Nat.le_of_ble_eq_true rfl) (Nat.le_refl _) (Nat.le_refl _) ?_
      rintro v M9 ⟨rfl, I1, rfl, g1, g2⟩ -
      refine w_aload_n dX10_appeal_33 rfl ?_
      refine w_getR (w := some (1, 0, 0)) ff_X10_10 rfl rfl dX10_appeal_34 rfl ?_
      refine w_getI ff_X10_98 rfl rfl dX10_appeal_37 ?_
      rw [show (I1 1 0 0 7 : Int32) = nI (cR (undoN a c)) from g1.2.2.2.2.1]
      exact w_ireturn dX10_appeal_40 rfl (rfl) rfl (⟨rfl, _, _, rfl, g1, g2⟩)
  · skip
    first
    | (exfalso; omega)
    | skip
      refine w_bipush (v := (-2)) dX10_appeal_22 (by decide) ?_
      exact w_ireturn dX10_appeal_24 rfl (rfl) rfl (⟨rfl, _, _, rfl, g1, g2⟩)

theorem q_appeal {I : xF4 Int32} {L : xF4 Int64} {a : aA} (hs : SI I a) (hw : WF a) {c : Nat} (hcc : c < nC a) {b : Nat} (hb : bY a c = some b) (h4 : 0 < sF a c 4) : Tri 19 109 m_X11_appeal [vR 30 0 0, vI (nI c)] (rM I L) (pMc (nI (cR (undoN a c))) (undoN a c) I) := by
  refine ⟨k_X11_appeal, Nat.le_of_ble_eq_true rfl, ?_⟩
  show Wp _ _ _ 0 [some (vR 30 0 0), some (vI (nI c))] [] (rM I L) _
  obtain ⟨hJ, hC, hG, hD, hR, -⟩ := id hw
  obtain ⟨fc0, fc1, fc2, fc3, fc4, fc5, fc6, fc7, fc8⟩ := hw.2.2.2.2.2.2.1 c hcc
  refine w_aload_n dX11_appeal_0 rfl ?_
  refine w_iload_n dX11_appeal_1 rfl ?_
  refine w_callV (as := [vI (nI c)]) (st := []) (Tri.mono (d_isCase (hs.2.1) (by omega) (x := nI c) (X := ((c : Nat) : Int)) (z_nI (by omega))) (Nat.le_of_ble_eq_true rfl)) rfl rfl tg_X11_isCase lk_X11_204 in_X11_isCase se_X11_isCase rfl dX11_appeal_2 rfl (Nat.le_of_ble_eq_true rfl) (Nat.le_refl _) (Nat.le_refl _) ?_
  rintro _ _ ⟨rfl, rfl⟩ -
  refine w_ifne_b (tgt := 10) dX11_appeal_5 (by decide) (fun h1 => ?_) (fun h1 => ?_)
  · skip
    first
    | (exfalso; omega)
    | skip
      refine w_aload_n dX11_appeal_10 rfl ?_
      refine w_iload_n dX11_appeal_11 rfl ?_
      refine w_callV (as := [vI (nI c)]) (st := []) (Tri.mono (d_isHeard hs hw hcc) (Nat.le_of_ble_eq_true rfl)) rfl rfl tg_X11_isHeard lk_X11_218 in_X11_isHeard se_X11_isHeard rfl dX11_appeal_12 rfl (Nat.le_of_ble_eq_true rfl) (Nat.le_refl _) (Nat.le_refl _) ?_
      rintro _ _ ⟨rfl, rfl⟩ -
      refine w_ifne_b (tgt := 21) dX11_appeal_15 (by decide) (fun h2 => ?_) (fun h2 => ?_)
      · skip
        first
        | (exfalso; omega)
        | skip
          refine w_aload_n dX11_appeal_21 rfl ?_
          refine w_callV (as := []) (st := []) (Tri.mono (d_starts hs hw) (Nat.le_of_ble_eq_true rfl)) rfl rfl tg_X11_starts lk_X11_192 in_X11_starts se_X11_starts rfl dX11_appeal_22 rfl (Nat.le_of_ble_eq_true rfl) (Nat.le_refl _) (Nat.le_refl _) ?_
          rintro v M9 ⟨rfl, I1, rfl, hm1, hi1, hf1⟩ -
          have hs1 := hf1.r.si hs
          refine w_aload_n dX11_appeal_25 rfl ?_
          refine w_iload_n dX11_appeal_26 rfl ?_
          refine w_callV (as := [vI (nI c)]) (st := []) (Tri.mono (d_appeals hm1 hw (c := c) (b := b) hcc hb) (Nat.le_of_ble_eq_true rfl)) rfl rfl tg_X11_appeals lk_X11_228 in_X11_appeals se_X11_appeals rfl dX11_appeal_27 rfl (Nat.le_of_ble_eq_true rfl) (Nat.le_refl _) (Nat.le_refl _) ?_
          rintro v M9 ⟨rfl, I2, rfl, hm2, hf2⟩ -
          have hs2 := hf2.r.si hs1
          refine w_aload_n dX11_appeal_30 rfl ?_
          refine w_callV (as := []) (st := []) (Tri.mono (d_settles hm2 (hw.undo (c := c))) (Nat.le_of_ble_eq_true rfl)) rfl rfl tg_X11_settles lk_X11_225 in_X11_settles se_X11_settles rfl dX11_appeal_31 rfl (Nat.le_of_ble_eq_true rfl) (Nat.le_refl _) (Nat.le_refl _) ?_
          rintro v M9 ⟨rfl, I3, rfl, hz3, hf3⟩ -
          refine w_aload_n dX11_appeal_34 rfl ?_
          refine w_getR (w := some (31, 0, 0)) ff_X11_7 rfl rfl dX11_appeal_35 rfl ?_
          refine w_bipush (v := 56) dX11_appeal_38 (by decide) ?_
          refine w_iaload (a := 56) rfl (vp_in_nI (n := 56) (by omega) (by omega)) (nI_clamp (n := 56) (by omega)) dX11_appeal_40 ?_
          rw [show (I3 31 0 0 (56) : Int32) = nI (cR (undoN a c)) from hz3.2.2.cr rfl]
          exact w_ireturn dX11_appeal_41 rfl (rfl) rfl (⟨rfl, _, _, rfl, hz3, (FrW.tr (hf1.r.tr hf2.r).w hf3.w)⟩)
      · skip
        first
        | (exfalso; omega)
        | skip
          refine w_bipush (v := (-2)) dX11_appeal_18 (by decide) ?_
          exact w_ireturn dX11_appeal_20 rfl (rfl) rfl (⟨rfl, _, _, rfl, hs, FrW.rf⟩)
  · skip
    first
    | (exfalso; omega)
    | skip
      refine w_iconst (v := (-1)) dX11_appeal_8 (by decide) ?_
      exact w_ireturn dX11_appeal_9 rfl (rfl) rfl (⟨rfl, _, _, rfl, hs, FrW.rf⟩)

theorem p_appeal_h {I : xF4 Int32} {L : xF4 Int64} {a : aA} (hc : CourtIs I 0 a) (hw : WF a) {c : Nat} (hcc : c < nC a) (h4 : ¬ 0 < sF a c 4) : Tri 19 109 m_X10_appeal [vR 0 0 0, vI (nI c)] (rM I L) (pCq (vI (-2)) I) := by
  refine ⟨k_X10_appeal, Nat.le_of_ble_eq_true rfl, ?_⟩
  show Wp _ _ _ 0 [some (vR 0 0 0), some (vI (nI c)), none] [] (rM I L) _
  obtain ⟨hJ, hC, hG, hD, hR, -⟩ := id hw
  obtain ⟨fc0, fc1, fc2, fc3, fc4, fc5, fc6, fc7, fc8⟩ := hw.2.2.2.2.2.2.1 c hcc
  refine w_aload_n dX10_appeal_0 rfl ?_
  refine w_getR (w := some (1, 0, 0)) ff_X10_10 rfl rfl dX10_appeal_1 rfl ?_
  refine w_iload_n dX10_appeal_4 rfl ?_
  refine w_callV (as := [vI (nI c)]) (st := []) (Tri.mono (c_sAt hc hw hcc) (Nat.le_of_ble_eq_true rfl)) rfl rfl tg_X1_suitAt lk_X10_136 in_X1_suitAt se_X1_suitAt rfl dX10_appeal_5 rfl (Nat.le_of_ble_eq_true rfl) (Nat.le_refl _) (Nat.le_refl _) ?_
  rintro _ _ ⟨rfl, rfl⟩ -
  refine w_astore_n (ls' := [some (vR 0 0 0), some (vI (nI c)), some (vR 5 0 c)]) dX10_appeal_8 rfl ?_
  refine w_aload_n dX10_appeal_9 rfl ?_
  refine w_ifnonnull (tgt := 15) dX10_appeal_10 (by decide) (fun _ _ => ?_) (fun h => by cases h)
  refine w_aload_n dX10_appeal_15 rfl ?_
  refine w_callV (as := []) (st := []) (Tri.mono (c_X8_isHeard 0 c) (Nat.le_of_ble_eq_true rfl)) rfl rfl tg_X8_isHeard lk_X10_170 in_X8_isHeard se_X8_isHeard rfl dX10_appeal_16 rfl (Nat.le_of_ble_eq_true rfl) (Nat.le_refl _) (Nat.le_refl _) ?_
  rintro _ _ ⟨rfl, rfl⟩ -
  rw [show (bI (0 < I 5 0 c 4) : Int32) = bI (0 < sF a c 4) from isH hc hw hcc]
  refine w_ifne_b (tgt := 25) dX10_appeal_19 (by decide) (fun h1 => ?_) (fun h1 => ?_)
  · skip
    first
    | (exfalso; omega)
    | skip
      exfalso
      omega
  · skip
    first
    | (exfalso; omega)
    | skip
      refine w_bipush (v := (-2)) dX10_appeal_22 (by decide) ?_
      exact w_ireturn dX10_appeal_24 rfl (rfl) rfl (⟨rfl, _, _, rfl, FrQ.rf⟩)

theorem q_appeal_h {I : xF4 Int32} {L : xF4 Int64} {a : aA} (hs : SI I a) (hw : WF a) {c : Nat} (hcc : c < nC a) (h4 : ¬ 0 < sF a c 4) : Tri 19 109 m_X11_appeal [vR 30 0 0, vI (nI c)] (rM I L) (pMq (vI (-2)) I) := by
  refine ⟨k_X11_appeal, Nat.le_of_ble_eq_true rfl, ?_⟩
  show Wp _ _ _ 0 [some (vR 30 0 0), some (vI (nI c))] [] (rM I L) _
  obtain ⟨hJ, hC, hG, hD, hR, -⟩ := id hw
  obtain ⟨fc0, fc1, fc2, fc3, fc4, fc5, fc6, fc7, fc8⟩ := hw.2.2.2.2.2.2.1 c hcc
  refine w_aload_n dX11_appeal_0 rfl ?_
  refine w_iload_n dX11_appeal_1 rfl ?_
  refine w_callV (as := [vI (nI c)]) (st := []) (Tri.mono (d_isCase (hs.2.1) (by omega) (x := nI c) (X := ((c : Nat) : Int)) (z_nI (by omega))) (Nat.le_of_ble_eq_true rfl)) rfl rfl tg_X11_isCase lk_X11_204 in_X11_isCase se_X11_isCase rfl dX11_appeal_2 rfl (Nat.le_of_ble_eq_true rfl) (Nat.le_refl _) (Nat.le_refl _) ?_
  rintro _ _ ⟨rfl, rfl⟩ -
  refine w_ifne_b (tgt := 10) dX11_appeal_5 (by decide) (fun h1 => ?_) (fun h1 => ?_)
  · skip
    first
    | (exfalso; omega)
    | skip
      refine w_aload_n dX11_appeal_10 rfl ?_
      refine w_iload_n dX11_appeal_11 rfl ?_
      refine w_callV (as := [vI (nI c)]) (st := []) (Tri.mono (d_isHeard hs hw hcc) (Nat.le_of_ble_eq_true rfl)) rfl rfl tg_X11_isHeard lk_X11_218 in_X11_isHeard se_X11_isHeard rfl dX11_appeal_12 rfl (Nat.le_of_ble_eq_true rfl) (Nat.le_refl _) (Nat.le_refl _) ?_
      rintro _ _ ⟨rfl, rfl⟩ -
      refine w_ifne_b (tgt := 21) dX11_appeal_15 (by decide) (fun h2 => ?_) (fun h2 => ?_)
      · skip
        first
        | (exfalso; omega)
        | skip
          exfalso
          omega
      · skip
        first
        | (exfalso; omega)
        | skip
          refine w_bipush (v := (-2)) dX11_appeal_18 (by decide) ?_
          exact w_ireturn dX11_appeal_20 rfl (rfl) rfl (⟨rfl, _, _, rfl, FrR.rf⟩)
  · skip
    first
    | (exfalso; omega)
    | skip
      refine w_iconst (v := (-1)) dX11_appeal_8 (by decide) ?_
      exact w_ireturn dX11_appeal_9 rfl (rfl) rfl (⟨rfl, _, _, rfl, FrR.rf⟩)

theorem p_appeal_o {I : xF4 Int32} {L : xF4 Int64} {a : aA} (hc : CourtIs I 0 a) (hw : WF a) {c : Int32} (hx : c.toInt < 0 ∨ ((nC a : Nat) : Int) ≤ c.toInt) : Tri 19 109 m_X10_appeal [vR 0 0 0, vI (c)] (rM I L) (pCq (vI (-1)) I) := by
  refine ⟨k_X10_appeal, Nat.le_of_ble_eq_true rfl, ?_⟩
  show Wp _ _ _ 0 [some (vR 0 0 0), some (vI (c)), none] [] (rM I L) _
  obtain ⟨hJ, hC, hG, hD, hR, -⟩ := id hw
  refine w_aload_n dX10_appeal_0 rfl ?_
  refine w_getR (w := some (1, 0, 0)) ff_X10_10 rfl rfl dX10_appeal_1 rfl ?_
  refine w_iload_n dX10_appeal_4 rfl ?_
  refine w_callV (as := [vI (c)]) (st := []) (Tri.mono (c_sAtO hc hw (z_out (by omega) hx)) (Nat.le_of_ble_eq_true rfl)) rfl rfl tg_X1_suitAt lk_X10_136 in_X1_suitAt se_X1_suitAt rfl dX10_appeal_5 rfl (Nat.le_of_ble_eq_true rfl) (Nat.le_refl _) (Nat.le_refl _) ?_
  rintro _ _ ⟨rfl, rfl⟩ -
  refine w_astore_n (ls' := [some (vR 0 0 0), some (vI (c)), some (vN)]) dX10_appeal_8 rfl ?_
  refine w_aload_n dX10_appeal_9 rfl ?_
  refine w_ifnonnull (tgt := 15) dX10_appeal_10 (by decide) (fun _ h => by cases h) (fun _ => ?_)
  refine w_iconst (v := (-1)) dX10_appeal_13 (by decide) ?_
  exact w_ireturn dX10_appeal_14 rfl (rfl) rfl (⟨rfl, _, _, rfl, FrQ.rf⟩)

theorem q_appeal_o {I : xF4 Int32} {L : xF4 Int64} {a : aA} (hs : SI I a) (hw : WF a) {c : Int32} (hx : c.toInt < 0 ∨ ((nC a : Nat) : Int) ≤ c.toInt) : Tri 19 109 m_X11_appeal [vR 30 0 0, vI (c)] (rM I L) (pMq (vI (-1)) I) := by
  refine ⟨k_X11_appeal, Nat.le_of_ble_eq_true rfl, ?_⟩
  show Wp _ _ _ 0 [some (vR 30 0 0), some (vI (c))] [] (rM I L) _
  obtain ⟨hJ, hC, hG, hD, hR, -⟩ := id hw
  refine w_aload_n dX11_appeal_0 rfl ?_
  refine w_iload_n dX11_appeal_1 rfl ?_
  refine w_callV (as := [vI (c)]) (st := []) (Tri.mono (d_isCase (hs.2.1) (by omega) (x := c) (X := c.toInt) rfl) (Nat.le_of_ble_eq_true rfl)) rfl rfl tg_X11_isCase lk_X11_204 in_X11_isCase se_X11_isCase rfl dX11_appeal_2 rfl (Nat.le_of_ble_eq_true rfl) (Nat.le_refl _) (Nat.le_refl _) ?_
  rintro _ _ ⟨rfl, rfl⟩ -
  refine w_ifne_b (tgt := 10) dX11_appeal_5 (by decide) (fun h1 => ?_) (fun h1 => ?_)
  · skip
    first
    | (exfalso; omega)
    | skip
      exfalso
      omega
  · skip
    first
    | (exfalso; omega)
    | skip
      refine w_iconst (v := (-1)) dX11_appeal_8 (by decide) ?_
      exact w_ireturn dX11_appeal_9 rfl (rfl) rfl (⟨rfl, _, _, rfl, FrR.rf⟩)

theorem itN_0 (a : aA) (d : Nat) : dayN (itN [] a d) = itN [] a (d + 1) := rfl
theorem WF.it0 {a : aA} (hw : WF a) {d : Nat} (h : dY a + d ≤ 2000) : WF (itN [] a d) := hw.it (fun j hj => by cases hj) d h

theorem l_daysC {L : xF4 Int64} {a : aA} (hw : WF a) {n : Nat} (hn : n ≤ 30) (hd : dY a + n ≤ 999) {I0 : xF4 Int32} : ∀ (m d : Nat) (I : xF4 Int32), d + m = n → CourtIs I 0 (itN [] a d) → FrC 0 I0 I → Wp 19 109 m_X10_days 32 [some (vR 0 0 0), some (vI (nI n)), some (vI (nI d))] [] (rM I L) (pCc (nI (cR (itN [] a n))) (itN [] a n) I0) := by
  intro m
  induction m with
  | zero =>
    intro d I hdn hc hf
    have e : d = n := by omega
    subst e
    refine w_iload_n dX10_days_32 rfl ?_
    refine w_iload_n dX10_days_33 rfl ?_
    refine w_icmp_ge (tgt := 50) dX10_days_34 (by decide) (fun _ => ?_) (fun h => absurd (nI_le (Nat.le_refl _) (by omega)) h)
    refine w_aload_n dX10_days_50 rfl ?_
    refine w_getR (w := some (1, 0, 0)) ff_X10_10 rfl rfl dX10_days_51 rfl ?_
    refine w_getI ff_X10_98 rfl rfl dX10_days_54 ?_
    rw [show (I 1 0 0 7 : Int32) = nI (cR (itN [] a d)) from hc.2.2.2.2.1]
    exact w_ireturn dX10_days_57 rfl (rfl) rfl (⟨rfl, _, _, rfl, hc, hf⟩)
  | succ m ih =>
    intro d I hdn hc hf
    have hlt : d < n := by omega
    have hwd := hw.it0 (d := d) (by omega)
    have hk4 := (itN_k [] a d).2.2.2
    refine w_iload_n dX10_days_32 rfl ?_
    refine w_iload_n dX10_days_33 rfl ?_
    refine w_icmp_ge (tgt := 50) dX10_days_34 (by decide) (fun h => absurd h (nI_ge hlt (by omega))) (fun _ => ?_)
    refine w_aload_n dX10_days_37 rfl ?_
    refine w_getR (w := some (1, 0, 0)) ff_X10_10 rfl rfl dX10_days_38 rfl ?_
    refine w_callV (as := []) (st := []) (Tri.mono (c_nextDay hc hwd (by omega)) (Nat.le_of_ble_eq_true rfl)) rfl rfl tg_X1_nextDay lk_X10_189 in_X1_nextDay se_X1_nextDay rfl dX10_days_41 rfl (Nat.le_of_ble_eq_true rfl) (Nat.le_refl _) (Nat.le_refl _) ?_
    rintro v M9 ⟨rfl, I1, rfl, g1, g2⟩ -
    refine w_iinc (v := nI (d + 1)) (ls' := [some (vR 0 0 0), some (vI (nI n)), some (vI (nI (d + 1)))]) dX10_days_44 rfl (nI_1 _) rfl ?_
    refine w_goto (tgt := 32) dX10_days_47 (by decide) ?_
    rw [itN_0] at g1
    exact ih (d + 1) I1 (by omega) g1 (hf.tr g2)

theorem l_daysM {L : xF4 Int64} {a : aA} (hw : WF a) {n : Nat} (hn : n ≤ 30) (hd : dY a + n ≤ 999) {I0 : xF4 Int32} : ∀ (m d : Nat) (I : xF4 Int32), d + m = n → MI I (itN [] a d) → FrR I0 I → Wp 19 109 m_X11_days 38 [some (vR 30 0 0), some (vI (nI n)), some (vI (nI d))] [] (rM I L) (pMc (nI (cR (itN [] a n))) (itN [] a n) I0) := by
  intro m
  induction m with
  | zero =>
    intro d I hdn hm hf
    have e : d = n := by omega
    subst e
    refine w_iload_n dX11_days_38 rfl ?_
    refine w_iload_n dX11_days_39 rfl ?_
    refine w_icmp_ge (tgt := 53) dX11_days_40 (by decide) (fun _ => ?_) (fun h => absurd (nI_le (Nat.le_refl _) (by omega)) h)
    refine w_aload_n dX11_days_53 rfl ?_
    refine w_callV (as := []) (st := []) (Tri.mono (d_settles hm (hw.it0 (d := d) (by omega))) (Nat.le_of_ble_eq_true rfl)) rfl rfl tg_X11_settles lk_X11_225 in_X11_settles se_X11_settles rfl dX11_days_54 rfl (Nat.le_of_ble_eq_true rfl) (Nat.le_refl _) (Nat.le_refl _) ?_
    rintro v M9 ⟨rfl, I1, rfl, g1, g2⟩ -
    refine w_aload_n dX11_days_57 rfl ?_
    refine w_getR (w := some (31, 0, 0)) ff_X11_7 rfl rfl dX11_days_58 rfl ?_
    refine w_bipush (v := 56) dX11_days_61 (by decide) ?_
    refine w_iaload (a := 56) rfl (vp_in_nI (n := 56) (by omega) (by omega)) (nI_clamp (n := 56) (by omega)) dX11_days_63 ?_
    rw [show (I1 31 0 0 (56) : Int32) = nI (cR (itN [] a d)) from g1.2.2.cr rfl]
    exact w_ireturn dX11_days_64 rfl (rfl) rfl (⟨rfl, _, _, rfl, g1, hf.w.tr g2.w⟩)
  | succ m ih =>
    intro d I hdn hm hf
    have hlt : d < n := by omega
    have hwd := hw.it0 (d := d) (by omega)
    refine w_iload_n dX11_days_38 rfl ?_
    refine w_iload_n dX11_days_39 rfl ?_
    refine w_icmp_ge (tgt := 53) dX11_days_40 (by decide) (fun h => absurd h (nI_ge hlt (by omega))) (fun _ => ?_)
    refine w_aload_n dX11_days_43 rfl ?_
    refine w_callV (as := []) (st := []) (Tri.mono (d_dayGoes hm hwd) (Nat.le_of_ble_eq_true rfl)) rfl rfl tg_X11_dayGoes lk_X11_180 in_X11_dayGoes se_X11_dayGoes rfl dX11_days_44 rfl (Nat.le_of_ble_eq_true rfl) (Nat.le_refl _) (Nat.le_refl _) ?_
    rintro v M9 ⟨rfl, I1, rfl, g1, g2⟩ -
    refine w_iinc (v := nI (d + 1)) (ls' := [some (vR 30 0 0), some (vI (nI n)), some (vI (nI (d + 1)))]) dX11_days_47 rfl (nI_1 _) rfl ?_
    refine w_goto (tgt := 38) dX11_days_50 (by decide) ?_
    rw [itN_0] at g1
    exact ih (d + 1) I1 (by omega) g1 (hf.tr g2.r)

theorem p_days {I : xF4 Int32} {L : xF4 Int64} {a : aA} (hc : CourtIs I 0 a) (hw : WF a) {n : Nat} (hn : n ≤ 30) (hd : dY a + n ≤ 999) : Tri 19 109 m_X10_days [vR 0 0 0, vI (nI n)] (rM I L) (pCc (nI (cR (itN [] a n))) ((itN [] a n)) I) := by
  refine ⟨k_X10_days, Nat.le_of_ble_eq_true rfl, ?_⟩
  show Wp _ _ _ 0 [some (vR 0 0 0), some (vI (nI n)), none] [] (rM I L) _
  obtain ⟨hJ, hC, hG, hD, hR, -⟩ := id hw
  refine w_iload_n dX10_days_0 rfl ?_
  refine w_iconst (v := 0) dX10_days_1 (by decide) ?_
  refine w_bipush (v := 30) dX10_days_2 (by decide) ?_
  refine w_callS (as := [vI (nI n), vI (0), vI (30)]) (st := []) (Tri.mono (c_X10_within (nI n) (0) (30)) (Nat.le_of_ble_eq_true rfl)) tg_X10_within lk_X10_158 sa_X10_within rfl dX10_days_4 rfl (Nat.le_of_ble_eq_true rfl) (Nat.le_refl _) (Nat.le_refl _) ?_
  rintro _ _ ⟨rfl, rfl⟩ -
  refine w_top (y := bI (0 ≤ ((n : Nat) : Int) ∧ ((n : Nat) : Int) ≤ 30)) (show (bI ((0 : Int32) ≤ (nI n) ∧ (nI n) ≤ (30 : Int32)) : Int32) = bI (0 ≤ ((n : Nat) : Int) ∧ ((n : Nat) : Int) ≤ 30) from wiZ (X := ((n : Nat) : Int)) (A := 0) (B := 30) (z_nI (by omega)) (by decide) (by decide)) ?_
  refine w_ifne_b (tgt := 12) dX10_days_7 (by decide) (fun h1 => ?_) (fun h1 => ?_)
  · skip
    first
    | (exfalso; omega)
    | skip
      refine w_aload_n dX10_days_12 rfl ?_
      refine w_getR (w := some (1, 0, 0)) ff_X10_10 rfl rfl dX10_days_13 rfl ?_
      refine w_getI ff_X10_95 rfl rfl dX10_days_16 ?_
      rw [show (I 1 0 0 6 : Int32) = nI (dY a) from hc.2.2.2.1]
      refine w_iload_n dX10_days_19 rfl ?_
      refine w_iadd dX10_days_20 ?_
      rw [show ((nI (dY a)) + (nI n) : Int32) = nI ((dY a) + n) from ar_add (p := dY a) (q := n) rfl rfl (by omega)]
      refine w_sipush (v := 1000) dX10_days_21 (by decide) ?_
      refine w_icmp_lt (tgt := 30) dX10_days_24 (by decide) (fun h2 => ?_) (fun h2 => ?_)
      · skip
        replace h2 : (((dY a) + n : Nat) : Int) < 1000 := (zlt (z_nI (by omega)) (by decide)).mp h2
        first
        | (exfalso; omega)
        | skip
          refine w_iconst (v := 0) dX10_days_30 (by decide) ?_
          refine w_istore_n (ls' := [some (vR 0 0 0), some (vI (nI n)), some (vI (0))]) dX10_days_31 rfl ?_
          exact l_daysC hw hn hd n 0 I (Nat.zero_add _) hc FrC.rf
      · skip
        replace h2 : ¬ ((((dY a) + n : Nat) : Int) < 1000) := fun q => h2 ((zlt (z_nI (by omega)) (by decide)).mpr q)
        first
        | (exfalso; omega)
        | skip
          refine w_bipush (v := (-3)) dX10_days_27 (by decide) ?_
          exact w_ireturn dX10_days_29 rfl (rfl) rfl (⟨rfl, _, _, rfl, hc, FrC.rf⟩)
  · skip
    first
    | (exfalso; omega)
    | skip
      refine w_iconst (v := (-1)) dX10_days_10 (by decide) ?_
      exact w_ireturn dX10_days_11 rfl (rfl) rfl (⟨rfl, _, _, rfl, hc, FrC.rf⟩)

theorem q_days {I : xF4 Int32} {L : xF4 Int64} {a : aA} (hs : SI I a) (hw : WF a) {n : Nat} (hn : n ≤ 30) (hd : dY a + n ≤ 999) : Tri 19 109 m_X11_days [vR 30 0 0, vI (nI n)] (rM I L) (pMc (nI (cR (itN [] a n))) ((itN [] a n)) I) := by
  refine ⟨k_X11_days, Nat.le_of_ble_eq_true rfl, ?_⟩
  show Wp _ _ _ 0 [some (vR 30 0 0), some (vI (nI n)), none] [] (rM I L) _
  obtain ⟨hJ, hC, hG, hD, hR, -⟩ := id hw
  refine w_iload_n dX11_days_0 rfl ?_
  refine w_i2l dX11_days_1 ?_
  refine w_lconst (v := 0) dX11_days_2 (by decide) ?_
  refine w_ldc2 dX11_days_3 cq_X11_231 ?_
  refine w_callS (as := [vL ((nI n : Int32).toInt64), vL (0), vL (30)]) (st := []) (Tri.mono (d_in ((nI n : Int32).toInt64) (0) (30)) (Nat.le_of_ble_eq_true rfl)) tg_X11_in lk_X11_66 sa_X11_in rfl dX11_days_6 rfl (Nat.le_of_ble_eq_true rfl) (Nat.le_refl _) (Nat.le_refl _) ?_
  rintro _ _ ⟨rfl, rfl⟩ -
  refine w_top (y := bI (0 ≤ ((n : Nat) : Int) ∧ ((n : Nat) : Int) ≤ 30)) (show (bI ((0 : Int64) ≤ ((nI n : Int32).toInt64) ∧ ((nI n : Int32).toInt64) ≤ (30 : Int64)) : Int32) = bI (0 ≤ ((n : Nat) : Int) ∧ ((n : Nat) : Int) ≤ 30) from inZ (x := nI n) (l := 0) (h := 30) (X := ((n : Nat) : Int)) (A := 0) (B := 30) rfl (by decide) (by decide) (z_nI (by omega)) (by decide) (by decide)) ?_
  refine w_ifne_b (tgt := 14) dX11_days_9 (by decide) (fun h1 => ?_) (fun h1 => ?_)
  · skip
    first
    | (exfalso; omega)
    | skip
      refine w_aload_n dX11_days_14 rfl ?_
      refine w_getR (w := some (31, 0, 0)) ff_X11_7 rfl rfl dX11_days_15 rfl ?_
      refine w_bipush (v := 55) dX11_days_18 (by decide) ?_
      refine w_iaload (a := 55) rfl (vp_in_nI (n := 55) (by omega) (by omega)) (nI_clamp (n := 55) (by omega)) dX11_days_20 ?_
      rw [show (I 31 0 0 (55) : Int32) = nI (dY a) from hs.2.2.dy rfl]
      refine w_iload_n dX11_days_21 rfl ?_
      refine w_iadd dX11_days_22 ?_
      rw [show ((nI (dY a)) + (nI n) : Int32) = nI ((dY a) + n) from ar_add (p := dY a) (q := n) rfl rfl (by omega)]
      refine w_sipush (v := 999) dX11_days_23 (by decide) ?_
      refine w_icmp_le (tgt := 32) dX11_days_26 (by decide) (fun h2 => ?_) (fun h2 => ?_)
      · skip
        replace h2 : (((dY a) + n : Nat) : Int) ≤ 999 := (zle (z_nI (by omega)) (by decide)).mp h2
        first
        | (exfalso; omega)
        | skip
          refine w_aload_n dX11_days_32 rfl ?_
          refine w_callV (as := []) (st := []) (Tri.mono (d_starts hs hw) (Nat.le_of_ble_eq_true rfl)) rfl rfl tg_X11_starts lk_X11_192 in_X11_starts se_X11_starts rfl dX11_days_33 rfl (Nat.le_of_ble_eq_true rfl) (Nat.le_refl _) (Nat.le_refl _) ?_
          rintro v M9 ⟨rfl, I1, rfl, hm1, hi1, hf1⟩ -
          have hs1 := hf1.r.si hs
          refine w_iconst (v := 0) dX11_days_36 (by decide) ?_
          refine w_istore_n (ls' := [some (vR 30 0 0), some (vI (nI n)), some (vI (0))]) dX11_days_37 rfl ?_
          exact l_daysM hw hn hd n 0 I1 (Nat.zero_add _) hm1 hf1.r
      · skip
        replace h2 : ¬ ((((dY a) + n : Nat) : Int) ≤ 999) := fun q => h2 ((zle (z_nI (by omega)) (by decide)).mpr q)
        first
        | (exfalso; omega)
        | skip
          refine w_bipush (v := (-3)) dX11_days_29 (by decide) ?_
          exact w_ireturn dX11_days_31 rfl (rfl) rfl (⟨rfl, _, _, rfl, hs, FrW.rf⟩)
  · skip
    first
    | (exfalso; omega)
    | skip
      refine w_iconst (v := (-1)) dX11_days_12 (by decide) ?_
      exact w_ireturn dX11_days_13 rfl (rfl) rfl (⟨rfl, _, _, rfl, hs, FrW.rf⟩)

theorem p_days_f {I : xF4 Int32} {L : xF4 Int64} {a : aA} (hc : CourtIs I 0 a) (hw : WF a) {n : Nat} (hn : n ≤ 30) (hd : ¬ dY a + n ≤ 999) : Tri 19 109 m_X10_days [vR 0 0 0, vI (nI n)] (rM I L) (pCq (vI (-3)) I) := by
  refine ⟨k_X10_days, Nat.le_of_ble_eq_true rfl, ?_⟩
  show Wp _ _ _ 0 [some (vR 0 0 0), some (vI (nI n)), none] [] (rM I L) _
  obtain ⟨hJ, hC, hG, hD, hR, -⟩ := id hw
  refine w_iload_n dX10_days_0 rfl ?_
  refine w_iconst (v := 0) dX10_days_1 (by decide) ?_
  refine w_bipush (v := 30) dX10_days_2 (by decide) ?_
  refine w_callS (as := [vI (nI n), vI (0), vI (30)]) (st := []) (Tri.mono (c_X10_within (nI n) (0) (30)) (Nat.le_of_ble_eq_true rfl)) tg_X10_within lk_X10_158 sa_X10_within rfl dX10_days_4 rfl (Nat.le_of_ble_eq_true rfl) (Nat.le_refl _) (Nat.le_refl _) ?_
  rintro _ _ ⟨rfl, rfl⟩ -
  refine w_top (y := bI (0 ≤ ((n : Nat) : Int) ∧ ((n : Nat) : Int) ≤ 30)) (show (bI ((0 : Int32) ≤ (nI n) ∧ (nI n) ≤ (30 : Int32)) : Int32) = bI (0 ≤ ((n : Nat) : Int) ∧ ((n : Nat) : Int) ≤ 30) from wiZ (X := ((n : Nat) : Int)) (A := 0) (B := 30) (z_nI (by omega)) (by decide) (by decide)) ?_
  refine w_ifne_b (tgt := 12) dX10_days_7 (by decide) (fun h1 => ?_) (fun h1 => ?_)
  · skip
    first
    | (exfalso; omega)
    | skip
      refine w_aload_n dX10_days_12 rfl ?_
      refine w_getR (w := some (1, 0, 0)) ff_X10_10 rfl rfl dX10_days_13 rfl ?_
      refine w_getI ff_X10_95 rfl rfl dX10_days_16 ?_
      rw [show (I 1 0 0 6 : Int32) = nI (dY a) from hc.2.2.2.1]
      refine w_iload_n dX10_days_19 rfl ?_
      refine w_iadd dX10_days_20 ?_
      rw [show ((nI (dY a)) + (nI n) : Int32) = nI ((dY a) + n) from ar_add (p := dY a) (q := n) rfl rfl (by omega)]
      refine w_sipush (v := 1000) dX10_days_21 (by decide) ?_
      refine w_icmp_lt (tgt := 30) dX10_days_24 (by decide) (fun h2 => ?_) (fun h2 => ?_)
      · skip
        replace h2 : (((dY a) + n : Nat) : Int) < 1000 := (zlt (z_nI (by omega)) (by decide)).mp h2
        first
        | (exfalso; omega)
        | skip
          exfalso
          omega
      · skip
        replace h2 : ¬ ((((dY a) + n : Nat) : Int) < 1000) := fun q => h2 ((zlt (z_nI (by omega)) (by decide)).mpr q)
        first
        | (exfalso; omega)
        | skip
          refine w_bipush (v := (-3)) dX10_days_27 (by decide) ?_
          exact w_ireturn dX10_days_29 rfl (rfl) rfl (⟨rfl, _, _, rfl, FrQ.rf⟩)
  · skip
    first
    | (exfalso; omega)
    | skip
      refine w_iconst (v := (-1)) dX10_days_10 (by decide) ?_
      exact w_ireturn dX10_days_11 rfl (rfl) rfl (⟨rfl, _, _, rfl, FrQ.rf⟩)

theorem q_days_f {I : xF4 Int32} {L : xF4 Int64} {a : aA} (hs : SI I a) (hw : WF a) {n : Nat} (hn : n ≤ 30) (hd : ¬ dY a + n ≤ 999) : Tri 19 109 m_X11_days [vR 30 0 0, vI (nI n)] (rM I L) (pMq (vI (-3)) I) := by
  refine ⟨k_X11_days, Nat.le_of_ble_eq_true rfl, ?_⟩
  show Wp _ _ _ 0 [some (vR 30 0 0), some (vI (nI n)), none] [] (rM I L) _
  obtain ⟨hJ, hC, hG, hD, hR, -⟩ := id hw
  refine w_iload_n dX11_days_0 rfl ?_
  refine w_i2l dX11_days_1 ?_
  refine w_lconst (v := 0) dX11_days_2 (by decide) ?_
  refine w_ldc2 dX11_days_3 cq_X11_231 ?_
  refine w_callS (as := [vL ((nI n : Int32).toInt64), vL (0), vL (30)]) (st := []) (Tri.mono (d_in ((nI n : Int32).toInt64) (0) (30)) (Nat.le_of_ble_eq_true rfl)) tg_X11_in lk_X11_66 sa_X11_in rfl dX11_days_6 rfl (Nat.le_of_ble_eq_true rfl) (Nat.le_refl _) (Nat.le_refl _) ?_
  rintro _ _ ⟨rfl, rfl⟩ -
  refine w_top (y := bI (0 ≤ ((n : Nat) : Int) ∧ ((n : Nat) : Int) ≤ 30)) (show (bI ((0 : Int64) ≤ ((nI n : Int32).toInt64) ∧ ((nI n : Int32).toInt64) ≤ (30 : Int64)) : Int32) = bI (0 ≤ ((n : Nat) : Int) ∧ ((n : Nat) : Int) ≤ 30) from inZ (x := nI n) (l := 0) (h := 30) (X := ((n : Nat) : Int)) (A := 0) (B := 30) rfl (by decide) (by decide) (z_nI (by omega)) (by decide) (by decide)) ?_
  refine w_ifne_b (tgt := 14) dX11_days_9 (by decide) (fun h1 => ?_) (fun h1 => ?_)
  · skip
    first
    | (exfalso; omega)
    | skip
      refine w_aload_n dX11_days_14 rfl ?_
      refine w_getR (w := some (31, 0, 0)) ff_X11_7 rfl rfl dX11_days_15 rfl ?_
      refine w_bipush (v := 55) dX11_days_18 (by decide) ?_
      refine w_iaload (a := 55) rfl (vp_in_nI (n := 55) (by omega) (by omega)) (nI_clamp (n := 55) (by omega)) dX11_days_20 ?_
      rw [show (I 31 0 0 (55) : Int32) = nI (dY a) from hs.2.2.dy rfl]
      refine w_iload_n dX11_days_21 rfl ?_
      refine w_iadd dX11_days_22 ?_
      rw [show ((nI (dY a)) + (nI n) : Int32) = nI ((dY a) + n) from ar_add (p := dY a) (q := n) rfl rfl (by omega)]
      refine w_sipush (v := 999) dX11_days_23 (by decide) ?_
      refine w_icmp_le (tgt := 32) dX11_days_26 (by decide) (fun h2 => ?_) (fun h2 => ?_)
      · skip
        replace h2 : (((dY a) + n : Nat) : Int) ≤ 999 := (zle (z_nI (by omega)) (by decide)).mp h2
        first
        | (exfalso; omega)
        | skip
          exfalso
          omega
      · skip
        replace h2 : ¬ ((((dY a) + n : Nat) : Int) ≤ 999) := fun q => h2 ((zle (z_nI (by omega)) (by decide)).mpr q)
        first
        | (exfalso; omega)
        | skip
          refine w_bipush (v := (-3)) dX11_days_29 (by decide) ?_
          exact w_ireturn dX11_days_31 rfl (rfl) rfl (⟨rfl, _, _, rfl, FrR.rf⟩)
  · skip
    first
    | (exfalso; omega)
    | skip
      refine w_iconst (v := (-1)) dX11_days_12 (by decide) ?_
      exact w_ireturn dX11_days_13 rfl (rfl) rfl (⟨rfl, _, _, rfl, FrR.rf⟩)

theorem p_days_n {I : xF4 Int32} {L : xF4 Int64} {a : aA} (hc : CourtIs I 0 a) (hw : WF a) {n : Int32} (hx : n.toInt < 0 ∨ 30 < n.toInt) : Tri 19 109 m_X10_days [vR 0 0 0, vI (n)] (rM I L) (pCq (vI (-1)) I) := by
  refine ⟨k_X10_days, Nat.le_of_ble_eq_true rfl, ?_⟩
  show Wp _ _ _ 0 [some (vR 0 0 0), some (vI (n)), none] [] (rM I L) _
  obtain ⟨hJ, hC, hG, hD, hR, -⟩ := id hw
  refine w_iload_n dX10_days_0 rfl ?_
  refine w_iconst (v := 0) dX10_days_1 (by decide) ?_
  refine w_bipush (v := 30) dX10_days_2 (by decide) ?_
  refine w_callS (as := [vI (n), vI (0), vI (30)]) (st := []) (Tri.mono (c_X10_within (n) (0) (30)) (Nat.le_of_ble_eq_true rfl)) tg_X10_within lk_X10_158 sa_X10_within rfl dX10_days_4 rfl (Nat.le_of_ble_eq_true rfl) (Nat.le_refl _) (Nat.le_refl _) ?_
  rintro _ _ ⟨rfl, rfl⟩ -
  refine w_top (y := bI (0 ≤ n.toInt ∧ n.toInt ≤ 30)) (show (bI ((0 : Int32) ≤ (n) ∧ (n) ≤ (30 : Int32)) : Int32) = bI (0 ≤ n.toInt ∧ n.toInt ≤ 30) from wiZ (X := n.toInt) (A := 0) (B := 30) rfl (by decide) (by decide)) ?_
  refine w_ifne_b (tgt := 12) dX10_days_7 (by decide) (fun h1 => ?_) (fun h1 => ?_)
  · skip
    first
    | (exfalso; omega)
    | skip
      exfalso
      omega
  · skip
    first
    | (exfalso; omega)
    | skip
      refine w_iconst (v := (-1)) dX10_days_10 (by decide) ?_
      exact w_ireturn dX10_days_11 rfl (rfl) rfl (⟨rfl, _, _, rfl, FrQ.rf⟩)

theorem q_days_n {I : xF4 Int32} {L : xF4 Int64} {a : aA} (hs : SI I a) (hw : WF a) {n : Int32} (hx : n.toInt < 0 ∨ 30 < n.toInt) : Tri 19 109 m_X11_days [vR 30 0 0, vI (n)] (rM I L) (pMq (vI (-1)) I) := by
  refine ⟨k_X11_days, Nat.le_of_ble_eq_true rfl, ?_⟩
  show Wp _ _ _ 0 [some (vR 30 0 0), some (vI (n)), none] [] (rM I L) _
  obtain ⟨hJ, hC, hG, hD, hR, -⟩ := id hw
  refine w_iload_n dX11_days_0 rfl ?_
  refine w_i2l dX11_days_1 ?_
  refine w_lconst (v := 0) dX11_days_2 (by decide) ?_
  refine w_ldc2 dX11_days_3 cq_X11_231 ?_
  refine w_callS (as := [vL ((n : Int32).toInt64), vL (0), vL (30)]) (st := []) (Tri.mono (d_in ((n : Int32).toInt64) (0) (30)) (Nat.le_of_ble_eq_true rfl)) tg_X11_in lk_X11_66 sa_X11_in rfl dX11_days_6 rfl (Nat.le_of_ble_eq_true rfl) (Nat.le_refl _) (Nat.le_refl _) ?_
  rintro _ _ ⟨rfl, rfl⟩ -
  refine w_top (y := bI (0 ≤ n.toInt ∧ n.toInt ≤ 30)) (show (bI ((0 : Int64) ≤ ((n : Int32).toInt64) ∧ ((n : Int32).toInt64) ≤ (30 : Int64)) : Int32) = bI (0 ≤ n.toInt ∧ n.toInt ≤ 30) from inZ (x := n) (l := 0) (h := 30) (X := n.toInt) (A := 0) (B := 30) rfl (by decide) (by decide) rfl (by decide) (by decide)) ?_
  refine w_ifne_b (tgt := 14) dX11_days_9 (by decide) (fun h1 => ?_) (fun h1 => ?_)
  · skip
    first
    | (exfalso; omega)
    | skip
      exfalso
      omega
  · skip
    first
    | (exfalso; omega)
    | skip
      refine w_iconst (v := (-1)) dX11_days_12 (by decide) ?_
      exact w_ireturn dX11_days_13 rfl (rfl) rfl (⟨rfl, _, _, rfl, FrR.rf⟩)

theorem CourtIs.see {I : xF4 Int32} {k : Nat} {a : aA} (h : CourtIs I k a) {j c t : Nat} : CourtIs (xup (xup (xup (xup I 1 k 0 5 (nI (nG a + 1))) 7 k (nG a) 0 (nI j)) 7 k (nG a) 1 (nI c)) 7 k (nG a) 2 (nI t)) k (seeN a j c t) := by
  obtain ⟨h1, h2, h3, h4, h5, h6, h7, h8⟩ := h
  have e7 : ∀ t' s j', t' ≠ 7 → t' ≠ 1 → (xup (xup (xup (xup I 1 k 0 5 (nI (nG a + 1))) 7 k (nG a) 0 (nI j)) 7 k (nG a) 1 (nI c)) 7 k (nG a) 2 (nI t)) t' k j' s = I t' k j' s := fun t' s j' q1 q2 => by rw [xup_tag q1, xup_tag q1, xup_tag q1, xup_tag q2]
  have e1 : ∀ s, s ≠ 5 → (xup (xup (xup (xup I 1 k 0 5 (nI (nG a + 1))) 7 k (nG a) 0 (nI j)) 7 k (nG a) 1 (nI c)) 7 k (nG a) 2 (nI t)) 1 k 0 s = I 1 k 0 s := fun s q => by rw [xup_tag (by decide), xup_tag (by decide), xup_tag (by decide), xup_slot q]
  refine ⟨(e1 3 (by decide)).trans h1, (e1 4 (by decide)).trans h2, by rw [xup_tag (by decide), xup_tag (by decide), xup_tag (by decide), xup_self]; rfl, (e1 6 (by decide)).trans h4, (e1 7 (by decide)).trans h5, fun j' hj' => ⟨fun f' hf' => (e7 3 f' j' (by decide) (by decide)).trans ((h6 j' hj').1 f' hf'), (e7 3 4 j' (by decide) (by decide)).trans ((h6 j' hj').2)⟩, fun c' hc' => ⟨fun f' hf' h5' => (e7 5 f' c' (by decide) (by decide)).trans ((h7 c' hc').1 f' hf' h5'), (e7 5 5 c' (by decide) (by decide)).trans ((h7 c' hc').2)⟩, fun i hi f' hf' => ?_⟩
  have hi' : i < nG a + 1 := hi
  rw [seeN_g hi' hf']
  by_cases e : i = nG a
  · subst e
    rw [if_pos rfl]
    rcases (show f' = 0 ∨ f' = 1 ∨ f' = 2 by omega) with rfl | rfl | rfl <;> simp [xup]
  · rw [if_neg e]
    have : (xup (xup (xup (xup I 1 k 0 5 (nI (nG a + 1))) 7 k (nG a) 0 (nI j)) 7 k (nG a) 1 (nI c)) 7 k (nG a) 2 (nI t)) 7 k i f' = I 7 k i f' := by simp [xup, e]
    rw [this]
    exact h8 i (by omega) f' hf'
theorem NowIs.see {I : xF4 Int32} {a : aA} {T : Nat} (h : NowIs I T 0 a) (hw : WF a) {j c t : Nat} (hg : nG a < 6) : NowIs (xup (xup (xup (xup I T 0 0 (58 + 3 * nG a) (nI j)) T 0 0 (58 + 3 * nG a + 1) (nI c)) T 0 0 (58 + 3 * nG a + 2) (nI t)) T 0 0 57 (nI (nG a + 1))) T 0 (seeN a j c t) := by
  obtain ⟨h1, h2, h3, h4, h5', h6⟩ := h
  obtain ⟨w1, w2, w3, -⟩ := hw
  have e : ∀ x, x ≠ 57 → x ≠ 58 + 3 * nG a → x ≠ 58 + 3 * nG a + 1 → x ≠ 58 + 3 * nG a + 2 → (xup (xup (xup (xup I T 0 0 (58 + 3 * nG a) (nI j)) T 0 0 (58 + 3 * nG a + 1) (nI c)) T 0 0 (58 + 3 * nG a + 2) (nI t)) T 0 0 57 (nI (nG a + 1))) T 0 0 x = I T 0 0 x := fun x q1 q2 q3 q4 => by rw [xup_slot q1, xup_slot q4, xup_slot q3, xup_slot q2]
  have q1 : ∀ j', j' < nJ (seeN a j c t) → j' < 4 := fun j' hj' => Nat.lt_of_lt_of_le hj' w1
  have q2 : ∀ j', j' < nC (seeN a j c t) → j' < 5 := fun j' hj' => Nat.lt_of_lt_of_le hj' w2
  refine ⟨fun j' hj' => ⟨fun f' hf' => (e _ (by have := q1 j' hj'; omega) (by have := q1 j' hj'; omega) (by have := q1 j' hj'; omega) (by have := q1 j' hj'; omega)).trans ((h1 j' hj').1 f' hf'), (e _ (by have := q1 j' hj'; omega) (by have := q1 j' hj'; omega) (by have := q1 j' hj'; omega) (by have := q1 j' hj'; omega)).trans (h1 j' hj').2⟩, fun c' hc' => ⟨fun f' hf' g5 => (e _ (by have := q2 c' hc'; omega) (by have := q2 c' hc'; omega) (by have := q2 c' hc'; omega) (by have := q2 c' hc'; omega)).trans ((h2 c' hc').1 f' hf' g5), (e _ (by have := q2 c' hc'; omega) (by have := q2 c' hc'; omega) (by have := q2 c' hc'; omega) (by have := q2 c' hc'; omega)).trans (h2 c' hc').2⟩, (e _ (by omega) (by omega) (by omega) (by omega)).trans h3, (e _ (by omega) (by omega) (by omega) (by omega)).trans h4, xup_self, fun i hi f' hf' => ?_⟩
  have hi' : i < nG a + 1 := hi
  rw [seeN_g hi' hf', Nat.zero_add]
  by_cases ei : i = nG a
  · subst ei
    rw [if_pos rfl]
    rcases (show f' = 0 ∨ f' = 1 ∨ f' = 2 by omega) with rfl | rfl | rfl
    · rw [xup_slot (by omega), xup_slot (by omega), xup_slot (by omega), Nat.add_zero, xup_self, if_pos rfl]
    · rw [xup_slot (by omega), xup_slot (by omega), xup_self]; rfl
    · rw [xup_slot (by omega), xup_self]; rfl
  · rw [if_neg ei, e _ (by omega) (by omega) (by omega) (by omega), ← Nat.zero_add (58 + 3 * i + f')]
    exact h6 i (by omega) f' hf'

theorem c_addSight {I : xF4 Int32} {L : xF4 Int64} {k : Nat} {a : aA} (hc : CourtIs I k a) (hw : WF a) {j c t : Nat} (hg : nG a < 6) : Tri 1 109 m_X1_addSight [vR 1 k 0, vI (nI j), vI (nI c), vI (nI t)] (rM I L) (pI 1 (xup (xup (xup (xup I 1 k 0 5 (nI (nG a + 1))) 7 k (nG a) 0 (nI j)) 7 k (nG a) 1 (nI c)) 7 k (nG a) 2 (nI t)) L) := by
  refine ⟨k_X1_addSight, Nat.le_of_ble_eq_true rfl, ?_⟩
  show Wp _ _ _ 0 [some (vR 1 k 0), some (vI (nI j)), some (vI (nI c)), some (vI (nI t)), none] [] (rM I L) _
  obtain ⟨hJ, hC, hG, hD, hR, -⟩ := id hw
  refine w_aload_n dX1_addSight_0 rfl ?_
  refine w_getI ff_X1_42 rfl rfl dX1_addSight_1 ?_
  rw [show (I 1 k 0 5 : Int32) = nI (nG a) from hc.2.2.1]
  refine w_aload_n dX1_addSight_4 rfl ?_
  refine w_getR (w := some (6, k, 0)) ff_X1_27 rfl rfl dX1_addSight_5 rfl ?_
  refine w_alen (v := 6) rfl rfl dX1_addSight_8 ?_
  refine w_icmp_lt (tgt := 14) dX1_addSight_9 (by decide) (fun _ => ?_) (fun h => absurd (nI_lt (b := 6) hg (by omega)) h)
  refine w_aload_n dX1_addSight_14 rfl ?_
  refine w_dup dX1_addSight_15 rfl ?_
  refine w_getI ff_X1_42 rfl rfl dX1_addSight_16 ?_
  rw [show (I 1 k 0 5 : Int32) = nI (nG a) from hc.2.2.1]
  refine w_iconst (v := 1) dX1_addSight_19 (by decide) ?_
  refine w_iadd dX1_addSight_20 ?_
  rw [show ((nI (nG a)) + (1) : Int32) = nI ((nG a) + 1) from ar_add (p := nG a) (q := 1) rfl rfl (by omega)]
  refine w_putI ff_X1_42 rfl rfl rfl rfl dX1_addSight_21 ?_
  obtain ⟨I1, hI1⟩ : ∃ z, z = xup I 1 k 0 5 (nI ((nG a) + 1)) := ⟨_, rfl⟩
  have hc5 : I1 1 k 0 5 = nI (nG a + 1) := by rw [hI1]; exact xup_self
  rw [← hI1]
  refine w_aload_n dX1_addSight_24 rfl ?_
  refine w_aload_n dX1_addSight_25 rfl ?_
  refine w_getI ff_X1_42 rfl rfl dX1_addSight_26 ?_
  rw [show (I1 1 k 0 5 : Int32) = nI (nG a + 1) from hc5]
  refine w_iconst (v := 1) dX1_addSight_29 (by decide) ?_
  refine w_isub dX1_addSight_30 ?_
  rw [show ((nI (nG a + 1)) - (1) : Int32) = nI (nG a) from nI_p1 _]
  refine w_callV (as := [vI (nI (nG a))]) (st := []) (Tri.mono (c_gAtR hc5 (by omega) (i := nG a) (by omega)) (Nat.le_of_ble_eq_true rfl)) rfl rfl tg_X1_sightAt lk_X1_67 in_X1_sightAt se_X1_sightAt rfl dX1_addSight_31 rfl (Nat.le_of_ble_eq_true rfl) (Nat.le_refl _) (Nat.le_refl _) ?_
  rintro _ _ ⟨rfl, rfl⟩ -
  refine w_astore (ls' := [some (vR 1 k 0), some (vI (nI j)), some (vI (nI c)), some (vI (nI t)), some (vR 7 k (nG a))]) dX1_addSight_34 rfl ?_
  refine w_aload dX1_addSight_36 rfl ?_
  refine w_ifnull (tgt := 49) dX1_addSight_38 (by decide) (fun h => by cases h) (fun _ _ => ?_)
  refine w_aload dX1_addSight_41 rfl ?_
  refine w_iload_n dX1_addSight_43 rfl ?_
  refine w_iload_n dX1_addSight_44 rfl ?_
  refine w_iload_n dX1_addSight_45 rfl ?_
  refine w_callV (as := [vI (nI j), vI (nI c), vI (nI t)]) (st := []) (Tri.mono (c_X7_begin k (nG a) (nI j) (nI c) (nI t)) (Nat.le_of_ble_eq_true rfl)) rfl rfl tg_X7_begin lk_X1_91 in_X7_begin se_X7_begin rfl dX1_addSight_46 rfl (Nat.le_of_ble_eq_true rfl) (Nat.le_refl _) (Nat.le_refl _) ?_
  rintro _ _ ⟨rfl, rfl⟩ -
  refine w_iconst (v := 1) dX1_addSight_49 (by decide) ?_
  exact w_ireturn dX1_addSight_50 rfl (rfl) rfl (⟨rfl, by rw [hI1]⟩)

theorem c_addSightF {I : xF4 Int32} {L : xF4 Int64} {k : Nat} {a : aA} (hc : CourtIs I k a) (hw : WF a) {j c t : Nat} (hg : nG a = 6) : Tri 1 109 m_X1_addSight [vR 1 k 0, vI (nI j), vI (nI c), vI (nI t)] (rM I L) (pI 0 I L) := by
  refine ⟨k_X1_addSight, Nat.le_of_ble_eq_true rfl, ?_⟩
  show Wp _ _ _ 0 [some (vR 1 k 0), some (vI (nI j)), some (vI (nI c)), some (vI (nI t)), none] [] (rM I L) _
  obtain ⟨hJ, hC, hG, hD, hR, -⟩ := id hw
  refine w_aload_n dX1_addSight_0 rfl ?_
  refine w_getI ff_X1_42 rfl rfl dX1_addSight_1 ?_
  rw [show (I 1 k 0 5 : Int32) = nI (nG a) from hc.2.2.1]
  refine w_aload_n dX1_addSight_4 rfl ?_
  refine w_getR (w := some (6, k, 0)) ff_X1_27 rfl rfl dX1_addSight_5 rfl ?_
  refine w_alen (v := 6) rfl rfl dX1_addSight_8 ?_
  refine w_icmp_lt (tgt := 14) dX1_addSight_9 (by decide) (fun h => absurd h ((fun q => absurd ((nI_ltI (b := 6) (by omega) (by omega)).mp q) (by omega)))) (fun _ => ?_)
  refine w_iconst (v := 0) dX1_addSight_12 (by decide) ?_
  exact w_ireturn dX1_addSight_13 rfl (rfl) rfl (⟨rfl, rfl⟩)

theorem p_see {I : xF4 Int32} {L : xF4 Int64} {a : aA} (hc : CourtIs I 0 a) (hw : WF a) {j c t : Nat} (hj : j < nJ a) (hcc : c < nC a) (ht : t ≤ 60) (hg : nG a < 6) : Tri 19 109 m_X10_see [vR 0 0 0, vI (nI j), vI (nI c), vI (nI t)] (rM I L) (pCc (nI (nG a + 1)) (seeN a j c t) I) := by
  refine ⟨k_X10_see, Nat.le_of_ble_eq_true rfl, ?_⟩
  show Wp _ _ _ 0 [some (vR 0 0 0), some (vI (nI j)), some (vI (nI c)), some (vI (nI t))] [] (rM I L) _
  obtain ⟨hJ, hC, hG, hD, hR, -⟩ := id hw
  refine w_aload_n dX10_see_0 rfl ?_
  refine w_getR (w := some (1, 0, 0)) ff_X10_10 rfl rfl dX10_see_1 rfl ?_
  refine w_iload_n dX10_see_4 rfl ?_
  refine w_callV (as := [vI (nI j)]) (st := []) (Tri.mono (c_jAt hc hw hj) (Nat.le_of_ble_eq_true rfl)) rfl rfl tg_X1_judgeAt lk_X10_111 in_X1_judgeAt se_X1_judgeAt rfl dX10_see_5 rfl (Nat.le_of_ble_eq_true rfl) (Nat.le_refl _) (Nat.le_refl _) ?_
  rintro _ _ ⟨rfl, rfl⟩ -
  refine w_ifnull (tgt := 32) dX10_see_8 (by decide) (fun h => by cases h) (fun _ _ => ?_)
  refine w_aload_n dX10_see_11 rfl ?_
  refine w_getR (w := some (1, 0, 0)) ff_X10_10 rfl rfl dX10_see_12 rfl ?_
  refine w_iload_n dX10_see_15 rfl ?_
  refine w_callV (as := [vI (nI c)]) (st := []) (Tri.mono (c_sAt hc hw hcc) (Nat.le_of_ble_eq_true rfl)) rfl rfl tg_X1_suitAt lk_X10_136 in_X1_suitAt se_X1_suitAt rfl dX10_see_16 rfl (Nat.le_of_ble_eq_true rfl) (Nat.le_refl _) (Nat.le_refl _) ?_
  rintro _ _ ⟨rfl, rfl⟩ -
  refine w_ifnull (tgt := 32) dX10_see_19 (by decide) (fun h => by cases h) (fun _ _ => ?_)
  refine w_iload_n dX10_see_22 rfl ?_
  refine w_iconst (v := 0) dX10_see_23 (by decide) ?_
  refine w_bipush (v := 60) dX10_see_24 (by decide) ?_
  refine w_callS (as := [vI (nI t), vI (0), vI (60)]) (st := []) (Tri.mono (c_X10_within (nI t) (0) (60)) (Nat.le_of_ble_eq_true rfl)) tg_X10_within lk_X10_158 sa_X10_within rfl dX10_see_26 rfl (Nat.le_of_ble_eq_true rfl) (Nat.le_refl _) (Nat.le_refl _) ?_
  rintro _ _ ⟨rfl, rfl⟩ -
  refine w_top (y := bI (0 ≤ ((t : Nat) : Int) ∧ ((t : Nat) : Int) ≤ 60)) (show (bI ((0 : Int32) ≤ (nI t) ∧ (nI t) ≤ (60 : Int32)) : Int32) = bI (0 ≤ ((t : Nat) : Int) ∧ ((t : Nat) : Int) ≤ 60) from wiZ (X := ((t : Nat) : Int)) (A := 0) (B := 60) (z_nI (by omega)) (by decide) (by decide)) ?_
  refine w_ifne_b (tgt := 34) dX10_see_29 (by decide) (fun h1 => ?_) (fun h1 => ?_)
  · skip
    first
    | (exfalso; omega)
    | skip
      refine w_aload_n dX10_see_34 rfl ?_
      refine w_getR (w := some (1, 0, 0)) ff_X10_10 rfl rfl dX10_see_35 rfl ?_
      refine w_iload_n dX10_see_38 rfl ?_
      refine w_iload_n dX10_see_39 rfl ?_
      refine w_iload_n dX10_see_40 rfl ?_
      refine w_callV (as := [vI (nI j), vI (nI c), vI (nI t)]) (st := []) (Tri.mono (c_addSight hc hw (j := j) (c := c) (t := t) hg) (Nat.le_of_ble_eq_true rfl)) rfl rfl tg_X1_addSight lk_X10_267 in_X1_addSight se_X1_addSight rfl dX10_see_41 rfl (Nat.le_of_ble_eq_true rfl) (Nat.le_refl _) (Nat.le_refl _) ?_
      rintro v M9 ⟨rfl, rfl⟩ -
      have hc1 := hc.see (j := j) (c := c) (t := t)
      obtain ⟨I1, hI1⟩ : ∃ z, z = (xup (xup (xup (xup I 1 0 0 5 (nI (nG a + 1))) 7 0 (nG a) 0 (nI j)) 7 0 (nG a) 1 (nI c)) 7 0 (nG a) 2 (nI t)) := ⟨_, rfl⟩
      have hf1 : FrC 0 I I1 := by rw [hI1]; exact (((FrC.up (by decide)).tr (FrC.up (by decide))).tr (FrC.up (by decide))).tr (FrC.up (by decide))
      rw [← hI1] at hc1 ⊢
      refine w_if_eq (tgt := 57) dX10_see_44 (by decide) (fun h => absurd h (by decide)) (fun _ => ?_)
      refine w_aload_n dX10_see_47 rfl ?_
      refine w_getR (w := some (1, 0, 0)) ff_X10_10 rfl rfl dX10_see_48 rfl ?_
      refine w_getI ff_X10_270 rfl rfl dX10_see_51 ?_
      rw [show (I1 1 0 0 5 : Int32) = nI (nG a + 1) from hc1.2.2.1]
      refine w_goto (tgt := 59) dX10_see_54 (by decide) ?_
      exact w_ireturn dX10_see_59 rfl (rfl) rfl (⟨rfl, _, _, rfl, hc1, hf1⟩)
  · skip
    first
    | (exfalso; omega)
    | skip
      refine w_iconst (v := (-1)) dX10_see_32 (by decide) ?_
      exact w_ireturn dX10_see_33 rfl (rfl) rfl (⟨rfl, _, _, rfl, hc1, hf1⟩)

theorem q_see {I : xF4 Int32} {L : xF4 Int64} {a : aA} (hs : SI I a) (hw : WF a) {j c t : Nat} (hj : j < nJ a) (hcc : c < nC a) (ht : t ≤ 60) (hg : nG a < 6) : Tri 19 109 m_X11_see [vR 30 0 0, vI (nI j), vI (nI c), vI (nI t)] (rM I L) (pMc (nI (nG a + 1)) (seeN a j c t) I) := by
  refine ⟨k_X11_see, Nat.le_of_ble_eq_true rfl, ?_⟩
  show Wp _ _ _ 0 [some (vR 30 0 0), some (vI (nI j)), some (vI (nI c)), some (vI (nI t)), none] [] (rM I L) _
  obtain ⟨hJ, hC, hG, hD, hR, -⟩ := id hw
  refine w_aload_n dX11_see_0 rfl ?_
  refine w_iload_n dX11_see_1 rfl ?_
  refine w_callV (as := [vI (nI j)]) (st := []) (Tri.mono (d_isJudge (hs.1) (by omega) (x := nI j) (X := ((j : Nat) : Int)) (z_nI (by omega))) (Nat.le_of_ble_eq_true rfl)) rfl rfl tg_X11_isJudge lk_X11_198 in_X11_isJudge se_X11_isJudge rfl dX11_see_2 rfl (Nat.le_of_ble_eq_true rfl) (Nat.le_refl _) (Nat.le_refl _) ?_
  rintro _ _ ⟨rfl, rfl⟩ -
  refine w_ifeq_b (tgt := 28) dX11_see_5 (by decide) (fun h1 => ?_) (fun h1 => ?_)
  · skip
    first
    | (exfalso; omega)
    | skip
      refine w_iconst (v := (-1)) dX11_see_28 (by decide) ?_
      exact w_ireturn dX11_see_29 rfl (rfl) rfl (⟨rfl, _, _, rfl, hs, FrW.rf⟩)
  · skip
    first
    | (exfalso; omega)
    | skip
      refine w_aload_n dX11_see_8 rfl ?_
      refine w_iload_n dX11_see_9 rfl ?_
      refine w_callV (as := [vI (nI c)]) (st := []) (Tri.mono (d_isCase (hs.2.1) (by omega) (x := nI c) (X := ((c : Nat) : Int)) (z_nI (by omega))) (Nat.le_of_ble_eq_true rfl)) rfl rfl tg_X11_isCase lk_X11_204 in_X11_isCase se_X11_isCase rfl dX11_see_10 rfl (Nat.le_of_ble_eq_true rfl) (Nat.le_refl _) (Nat.le_refl _) ?_
      rintro _ _ ⟨rfl, rfl⟩ -
      refine w_ifeq_b (tgt := 28) dX11_see_13 (by decide) (fun h2 => ?_) (fun h2 => ?_)
      · skip
        first
        | (exfalso; omega)
        | skip
          refine w_iconst (v := (-1)) dX11_see_28 (by decide) ?_
          exact w_ireturn dX11_see_29 rfl (rfl) rfl (⟨rfl, _, _, rfl, hs, FrW.rf⟩)
      · skip
        first
        | (exfalso; omega)
        | skip
          refine w_iload_n dX11_see_16 rfl ?_
          refine w_i2l dX11_see_17 ?_
          refine w_lconst (v := 0) dX11_see_18 (by decide) ?_
          refine w_ldc2 dX11_see_19 cq_X11_207 ?_
          refine w_callS (as := [vL ((nI t : Int32).toInt64), vL (0), vL (60)]) (st := []) (Tri.mono (d_in ((nI t : Int32).toInt64) (0) (60)) (Nat.le_of_ble_eq_true rfl)) tg_X11_in lk_X11_66 sa_X11_in rfl dX11_see_22 rfl (Nat.le_of_ble_eq_true rfl) (Nat.le_refl _) (Nat.le_refl _) ?_
          rintro _ _ ⟨rfl, rfl⟩ -
          refine w_top (y := bI (0 ≤ ((t : Nat) : Int) ∧ ((t : Nat) : Int) ≤ 60)) (show (bI ((0 : Int64) ≤ ((nI t : Int32).toInt64) ∧ ((nI t : Int32).toInt64) ≤ (60 : Int64)) : Int32) = bI (0 ≤ ((t : Nat) : Int) ∧ ((t : Nat) : Int) ≤ 60) from inZ (x := nI t) (l := 0) (h := 60) (X := ((t : Nat) : Int)) (A := 0) (B := 60) rfl (by decide) (by decide) (z_nI (by omega)) (by decide) (by decide)) ?_
          refine w_ifne_b (tgt := 30) dX11_see_25 (by decide) (fun h3 => ?_) (fun h3 => ?_)
          · skip
            first
            | (exfalso; omega)
            | skip
              refine w_aload_n dX11_see_30 rfl ?_
              refine w_getR (w := some (31, 0, 0)) ff_X11_7 rfl rfl dX11_see_31 rfl ?_
              refine w_bipush (v := 57) dX11_see_34 (by decide) ?_
              refine w_iaload (a := 57) rfl (vp_in_nI (n := 57) (by omega) (by omega)) (nI_clamp (n := 57) (by omega)) dX11_see_36 ?_
              rw [show (I 31 0 0 (57) : Int32) = nI (nG a) from hs.2.2.ng rfl]
              refine w_bipush (v := 6) dX11_see_37 (by decide) ?_
              refine w_icmp_ne (tgt := 45) dX11_see_39 (by decide) (fun h4 => ?_) (fun h4 => ?_)
              · skip
                replace h4 : ¬ (((nG a : Nat) : Int) = 6) := fun q => h4 ((zeq (z_nI (by omega)) (by decide)).mpr q)
                first
                | (exfalso; omega)
                | skip
                  refine w_bipush (v := 58) dX11_see_45 (by decide) ?_
                  refine w_iconst (v := 3) dX11_see_47 (by decide) ?_
                  refine w_aload_n dX11_see_48 rfl ?_
                  refine w_getR (w := some (31, 0, 0)) ff_X11_7 rfl rfl dX11_see_49 rfl ?_
                  refine w_bipush (v := 57) dX11_see_52 (by decide) ?_
                  refine w_iaload (a := 57) rfl (vp_in_nI (n := 57) (by omega) (by omega)) (nI_clamp (n := 57) (by omega)) dX11_see_54 ?_
                  rw [show (I 31 0 0 (57) : Int32) = nI (nG a) from hs.2.2.ng rfl]
                  refine w_imul dX11_see_55 ?_
                  rw [show ((3) * (nI (nG a)) : Int32) = nI (3 * (nG a)) from ar_mul (p := 3) (q := nG a) rfl rfl (by first | rfl | omega)]
                  refine w_iadd dX11_see_56 ?_
                  rw [show ((58) + (nI (3 * (nG a))) : Int32) = nI (58 + (3 * (nG a))) from ar_add (p := 58) (q := 3 * (nG a)) rfl rfl (by omega)]
                  refine w_istore (ls' := [some (vR 30 0 0), some (vI (nI j)), some (vI (nI c)), some (vI (nI t)), some (vI (nI (58 + (3 * (nG a)))))]) dX11_see_57 rfl ?_
                  refine w_aload_n dX11_see_59 rfl ?_
                  refine w_getR (w := some (31, 0, 0)) ff_X11_7 rfl rfl dX11_see_60 rfl ?_
                  refine w_iload dX11_see_63 rfl ?_
                  refine w_iload_n dX11_see_65 rfl ?_
                  refine w_iastore (a := 58 + (3 * (nG a))) rfl (vp_in_nI (n := 58 + (3 * (nG a))) (by omega) (by omega)) (nI_clamp (n := 58 + (3 * (nG a))) (by omega)) dX11_see_66 ?_
                  refine w_aload_n dX11_see_67 rfl ?_
                  refine w_getR (w := some (31, 0, 0)) ff_X11_7 rfl rfl dX11_see_68 rfl ?_
                  refine w_iload dX11_see_71 rfl ?_
                  refine w_iconst (v := 1) dX11_see_73 (by decide) ?_
                  refine w_iadd dX11_see_74 ?_
                  rw [show ((nI (58 + (3 * (nG a)))) + (1) : Int32) = nI ((58 + (3 * (nG a))) + 1) from ar_add (p := 58 + (3 * (nG a))) (q := 1) rfl rfl (by omega)]
                  refine w_iload_n dX11_see_75 rfl ?_
                  refine w_iastore (a := (58 + (3 * (nG a))) + 1) rfl (vp_in_nI (n := (58 + (3 * (nG a))) + 1) (by omega) (by omega)) (nI_clamp (n := (58 + (3 * (nG a))) + 1) (by omega)) dX11_see_76 ?_
                  refine w_aload_n dX11_see_77 rfl ?_
                  refine w_getR (w := some (31, 0, 0)) ff_X11_7 rfl rfl dX11_see_78 rfl ?_
                  refine w_iload dX11_see_81 rfl ?_
                  refine w_iconst (v := 2) dX11_see_83 (by decide) ?_
                  refine w_iadd dX11_see_84 ?_
                  rw [show ((nI (58 + (3 * (nG a)))) + (2) : Int32) = nI ((58 + (3 * (nG a))) + 2) from ar_add (p := 58 + (3 * (nG a))) (q := 2) rfl rfl (by omega)]
                  refine w_iload_n dX11_see_85 rfl ?_
                  refine w_iastore (a := (58 + (3 * (nG a))) + 2) rfl (vp_in_nI (n := (58 + (3 * (nG a))) + 2) (by omega) (by omega)) (nI_clamp (n := (58 + (3 * (nG a))) + 2) (by omega)) dX11_see_86 ?_
                  refine w_aload_n dX11_see_87 rfl ?_
                  refine w_getR (w := some (31, 0, 0)) ff_X11_7 rfl rfl dX11_see_88 rfl ?_
                  refine w_bipush (v := 57) dX11_see_91 (by decide) ?_
                  refine w_dup2 dX11_see_93 rfl rfl ?_
                  refine w_iaload (a := 57) rfl (vp_in_nI (n := 57) (by omega) (by omega)) (nI_clamp (n := 57) (by omega)) dX11_see_94 ?_
                  rw [show ((xup (xup (xup I 31 0 0 (58 + (3 * (nG a))) (nI j)) 31 0 0 ((58 + (3 * (nG a))) + 1) (nI c)) 31 0 0 ((58 + (3 * (nG a))) + 2) (nI t)) 31 0 0 (57) : Int32) = nI (nG a) from (xup_slot (by omega)).trans ((xup_slot (by omega)).trans ((xup_slot (by omega)).trans (hs.2.2.ng rfl)))]
                  refine w_iconst (v := 1) dX11_see_95 (by decide) ?_
                  refine w_iadd dX11_see_96 ?_
                  rw [show ((nI (nG a)) + (1) : Int32) = nI ((nG a) + 1) from ar_add (p := nG a) (q := 1) rfl rfl (by omega)]
                  refine w_top (y := nI (nG a + 1)) (show (nI ((nG a) + 1) : Int32) = nI (nG a + 1) from by first | rfl | exact nI_1 _) ?_
                  refine w_iastore (a := 57) rfl (vp_in_nI (n := 57) (by omega) (by omega)) (nI_clamp (n := 57) (by omega)) dX11_see_97 ?_
                  refine w_aload_n dX11_see_98 rfl ?_
                  refine w_getR (w := some (31, 0, 0)) ff_X11_7 rfl rfl dX11_see_99 rfl ?_
                  refine w_bipush (v := 57) dX11_see_102 (by decide) ?_
                  refine w_iaload (a := 57) rfl (vp_in_nI (n := 57) (by omega) (by omega)) (nI_clamp (n := 57) (by omega)) dX11_see_104 ?_
                  rw [show ((xup (xup (xup (xup I 31 0 0 (58 + (3 * (nG a))) (nI j)) 31 0 0 ((58 + (3 * (nG a))) + 1) (nI c)) 31 0 0 ((58 + (3 * (nG a))) + 2) (nI t)) 31 0 0 (57) (nI (nG a + 1))) 31 0 0 (57) : Int32) = nI (nG a + 1) from xup_self]
                  have hnn := hs.2.2.see hw (j := j) (c := c) (t := t) hg
                  exact w_ireturn dX11_see_105 rfl (rfl) rfl (⟨rfl, _, _, rfl, ⟨(xup_tag (by decide)).trans ((xup_tag (by decide)).trans ((xup_tag (by decide)).trans ((xup_tag (by decide)).trans hs.1))), (xup_tag (by decide)).trans ((xup_tag (by decide)).trans ((xup_tag (by decide)).trans ((xup_tag (by decide)).trans hs.2.1))), hnn⟩, (((FrW.up (by omega)).tr (FrW.up (by omega))).tr (FrW.up (by omega))).tr (FrW.up (by omega))⟩)
              · skip
                replace h4 : ((nG a : Nat) : Int) = 6 := (zeq (z_nI (by omega)) (by decide)).mp h4
                first
                | (exfalso; omega)
                | skip
                  refine w_bipush (v := (-3)) dX11_see_42 (by decide) ?_
                  exact w_ireturn dX11_see_44 rfl (rfl) rfl (⟨rfl, _, _, rfl, hs, FrW.rf⟩)
          · skip
            first
            | (exfalso; omega)
            | skip
              refine w_iconst (v := (-1)) dX11_see_28 (by decide) ?_
              exact w_ireturn dX11_see_29 rfl (rfl) rfl (⟨rfl, _, _, rfl, hs, FrW.rf⟩)

theorem p_see_f {I : xF4 Int32} {L : xF4 Int64} {a : aA} (hc : CourtIs I 0 a) (hw : WF a) {j c t : Nat} (hj : j < nJ a) (hcc : c < nC a) (ht : t ≤ 60) (hg : nG a = 6) : Tri 19 109 m_X10_see [vR 0 0 0, vI (nI j), vI (nI c), vI (nI t)] (rM I L) (pCq (vI (-3)) I) := by
  refine ⟨k_X10_see, Nat.le_of_ble_eq_true rfl, ?_⟩
  show Wp _ _ _ 0 [some (vR 0 0 0), some (vI (nI j)), some (vI (nI c)), some (vI (nI t))] [] (rM I L) _
  obtain ⟨hJ, hC, hG, hD, hR, -⟩ := id hw
  refine w_aload_n dX10_see_0 rfl ?_
  refine w_getR (w := some (1, 0, 0)) ff_X10_10 rfl rfl dX10_see_1 rfl ?_
  refine w_iload_n dX10_see_4 rfl ?_
  refine w_callV (as := [vI (nI j)]) (st := []) (Tri.mono (c_jAt hc hw hj) (Nat.le_of_ble_eq_true rfl)) rfl rfl tg_X1_judgeAt lk_X10_111 in_X1_judgeAt se_X1_judgeAt rfl dX10_see_5 rfl (Nat.le_of_ble_eq_true rfl) (Nat.le_refl _) (Nat.le_refl _) ?_
  rintro _ _ ⟨rfl, rfl⟩ -
  refine w_ifnull (tgt := 32) dX10_see_8 (by decide) (fun h => by cases h) (fun _ _ => ?_)
  refine w_aload_n dX10_see_11 rfl ?_
  refine w_getR (w := some (1, 0, 0)) ff_X10_10 rfl rfl dX10_see_12 rfl ?_
  refine w_iload_n dX10_see_15 rfl ?_
  refine w_callV (as := [vI (nI c)]) (st := []) (Tri.mono (c_sAt hc hw hcc) (Nat.le_of_ble_eq_true rfl)) rfl rfl tg_X1_suitAt lk_X10_136 in_X1_suitAt se_X1_suitAt rfl dX10_see_16 rfl (Nat.le_of_ble_eq_true rfl) (Nat.le_refl _) (Nat.le_refl _) ?_
  rintro _ _ ⟨rfl, rfl⟩ -
  refine w_ifnull (tgt := 32) dX10_see_19 (by decide) (fun h => by cases h) (fun _ _ => ?_)
  refine w_iload_n dX10_see_22 rfl ?_
  refine w_iconst (v := 0) dX10_see_23 (by decide) ?_
  refine w_bipush (v := 60) dX10_see_24 (by decide) ?_
  refine w_callS (as := [vI (nI t), vI (0), vI (60)]) (st := []) (Tri.mono (c_X10_within (nI t) (0) (60)) (Nat.le_of_ble_eq_true rfl)) tg_X10_within lk_X10_158 sa_X10_within rfl dX10_see_26 rfl (Nat.le_of_ble_eq_true rfl) (Nat.le_refl _) (Nat.le_refl _) ?_
  rintro _ _ ⟨rfl, rfl⟩ -
  refine w_top (y := bI (0 ≤ ((t : Nat) : Int) ∧ ((t : Nat) : Int) ≤ 60)) (show (bI ((0 : Int32) ≤ (nI t) ∧ (nI t) ≤ (60 : Int32)) : Int32) = bI (0 ≤ ((t : Nat) : Int) ∧ ((t : Nat) : Int) ≤ 60) from wiZ (X := ((t : Nat) : Int)) (A := 0) (B := 60) (z_nI (by omega)) (by decide) (by decide)) ?_
  refine w_ifne_b (tgt := 34) dX10_see_29 (by decide) (fun h1 => ?_) (fun h1 => ?_)
  · skip
    first
    | (exfalso; omega)
    | skip
      refine w_aload_n dX10_see_34 rfl ?_
      refine w_getR (w := some (1, 0, 0)) ff_X10_10 rfl rfl dX10_see_35 rfl ?_
      refine w_iload_n dX10_see_38 rfl ?_
      refine w_iload_n dX10_see_39 rfl ?_
      refine w_iload_n dX10_see_40 rfl ?_
      refine w_callV (as := [vI (nI j), vI (nI c), vI (nI t)]) (st := []) (Tri.mono (c_addSightF hc hw (j := j) (c := c) (t := t) hg) (Nat.le_of_ble_eq_true rfl)) rfl rfl tg_X1_addSight lk_X10_267 in_X1_addSight se_X1_addSight rfl dX10_see_41 rfl (Nat.le_of_ble_eq_true rfl) (Nat.le_refl _) (Nat.le_refl _) ?_
      rintro _ _ ⟨rfl, rfl⟩ -
      refine w_if_eq (tgt := 57) dX10_see_44 (by decide) (fun _ => ?_) (fun h => absurd (by decide) h)
      refine w_bipush (v := (-3)) dX10_see_57 (by decide) ?_
      exact w_ireturn dX10_see_59 rfl (rfl) rfl (⟨rfl, _, _, rfl, FrQ.rf⟩)
  · skip
    first
    | (exfalso; omega)
    | skip
      refine w_iconst (v := (-1)) dX10_see_32 (by decide) ?_
      exact w_ireturn dX10_see_33 rfl (rfl) rfl (⟨rfl, _, _, rfl, FrQ.rf⟩)

theorem q_see_f {I : xF4 Int32} {L : xF4 Int64} {a : aA} (hs : SI I a) (hw : WF a) {j c t : Nat} (hj : j < nJ a) (hcc : c < nC a) (ht : t ≤ 60) (hg : nG a = 6) : Tri 19 109 m_X11_see [vR 30 0 0, vI (nI j), vI (nI c), vI (nI t)] (rM I L) (pMq (vI (-3)) I) := by
  refine ⟨k_X11_see, Nat.le_of_ble_eq_true rfl, ?_⟩
  show Wp _ _ _ 0 [some (vR 30 0 0), some (vI (nI j)), some (vI (nI c)), some (vI (nI t)), none] [] (rM I L) _
  obtain ⟨hJ, hC, hG, hD, hR, -⟩ := id hw
  refine w_aload_n dX11_see_0 rfl ?_
  refine w_iload_n dX11_see_1 rfl ?_
  refine w_callV (as := [vI (nI j)]) (st := []) (Tri.mono (d_isJudge (hs.1) (by omega) (x := nI j) (X := ((j : Nat) : Int)) (z_nI (by omega))) (Nat.le_of_ble_eq_true rfl)) rfl rfl tg_X11_isJudge lk_X11_198 in_X11_isJudge se_X11_isJudge rfl dX11_see_2 rfl (Nat.le_of_ble_eq_true rfl) (Nat.le_refl _) (Nat.le_refl _) ?_
  rintro _ _ ⟨rfl, rfl⟩ -
  refine w_ifeq_b (tgt := 28) dX11_see_5 (by decide) (fun h1 => ?_) (fun h1 => ?_)
  · skip
    first
    | (exfalso; omega)
    | skip
      refine w_iconst (v := (-1)) dX11_see_28 (by decide) ?_
      exact w_ireturn dX11_see_29 rfl (rfl) rfl (⟨rfl, _, _, rfl, FrR.rf⟩)
  · skip
    first
    | (exfalso; omega)
    | skip
      refine w_aload_n dX11_see_8 rfl ?_
      refine w_iload_n dX11_see_9 rfl ?_
      refine w_callV (as := [vI (nI c)]) (st := []) (Tri.mono (d_isCase (hs.2.1) (by omega) (x := nI c) (X := ((c : Nat) : Int)) (z_nI (by omega))) (Nat.le_of_ble_eq_true rfl)) rfl rfl tg_X11_isCase lk_X11_204 in_X11_isCase se_X11_isCase rfl dX11_see_10 rfl (Nat.le_of_ble_eq_true rfl) (Nat.le_refl _) (Nat.le_refl _) ?_
      rintro _ _ ⟨rfl, rfl⟩ -
      refine w_ifeq_b (tgt := 28) dX11_see_13 (by decide) (fun h2 => ?_) (fun h2 => ?_)
      · skip
        first
        | (exfalso; omega)
        | skip
          refine w_iconst (v := (-1)) dX11_see_28 (by decide) ?_
          exact w_ireturn dX11_see_29 rfl (rfl) rfl (⟨rfl, _, _, rfl, FrR.rf⟩)
      · skip
        first
        | (exfalso; omega)
        | skip
          refine w_iload_n dX11_see_16 rfl ?_
          refine w_i2l dX11_see_17 ?_
          refine w_lconst (v := 0) dX11_see_18 (by decide) ?_
          refine w_ldc2 dX11_see_19 cq_X11_207 ?_
          refine w_callS (as := [vL ((nI t : Int32).toInt64), vL (0), vL (60)]) (st := []) (Tri.mono (d_in ((nI t : Int32).toInt64) (0) (60)) (Nat.le_of_ble_eq_true rfl)) tg_X11_in lk_X11_66 sa_X11_in rfl dX11_see_22 rfl (Nat.le_of_ble_eq_true rfl) (Nat.le_refl _) (Nat.le_refl _) ?_
          rintro _ _ ⟨rfl, rfl⟩ -
          refine w_top (y := bI (0 ≤ ((t : Nat) : Int) ∧ ((t : Nat) : Int) ≤ 60)) (show (bI ((0 : Int64) ≤ ((nI t : Int32).toInt64) ∧ ((nI t : Int32).toInt64) ≤ (60 : Int64)) : Int32) = bI (0 ≤ ((t : Nat) : Int) ∧ ((t : Nat) : Int) ≤ 60) from inZ (x := nI t) (l := 0) (h := 60) (X := ((t : Nat) : Int)) (A := 0) (B := 60) rfl (by decide) (by decide) (z_nI (by omega)) (by decide) (by decide)) ?_
          refine w_ifne_b (tgt := 30) dX11_see_25 (by decide) (fun h3 => ?_) (fun h3 => ?_)
          · skip
            first
            | (exfalso; omega)
            | skip
              refine w_aload_n dX11_see_30 rfl ?_
              refine w_getR (w := some (31, 0, 0)) ff_X11_7 rfl rfl dX11_see_31 rfl ?_
              refine w_bipush (v := 57) dX11_see_34 (by decide) ?_
              refine w_iaload (a := 57) rfl (vp_in_nI (n := 57) (by omega) (by omega)) (nI_clamp (n := 57) (by omega)) dX11_see_36 ?_
              rw [show (I 31 0 0 (57) : Int32) = nI (nG a) from hs.2.2.ng rfl]
              refine w_bipush (v := 6) dX11_see_37 (by decide) ?_
              refine w_icmp_ne (tgt := 45) dX11_see_39 (by decide) (fun h4 => ?_) (fun h4 => ?_)
              · skip
                replace h4 : ¬ (((nG a : Nat) : Int) = 6) := fun q => h4 ((zeq (z_nI (by omega)) (by decide)).mpr q)
                first
                | (exfalso; omega)
                | skip
                  exfalso
                  omega
              · skip
                replace h4 : ((nG a : Nat) : Int) = 6 := (zeq (z_nI (by omega)) (by decide)).mp h4
                first
                | (exfalso; omega)
                | skip
                  refine w_bipush (v := (-3)) dX11_see_42 (by decide) ?_
                  exact w_ireturn dX11_see_44 rfl (rfl) rfl (⟨rfl, _, _, rfl, FrR.rf⟩)
          · skip
            first
            | (exfalso; omega)
            | skip
              refine w_iconst (v := (-1)) dX11_see_28 (by decide) ?_
              exact w_ireturn dX11_see_29 rfl (rfl) rfl (⟨rfl, _, _, rfl, FrR.rf⟩)

theorem p_see_t {I : xF4 Int32} {L : xF4 Int64} {a : aA} (hc : CourtIs I 0 a) (hw : WF a) {j c : Nat} (hj : j < nJ a) (hcc : c < nC a) {t : Int32} (hx : t.toInt < 0 ∨ 60 < t.toInt) : Tri 19 109 m_X10_see [vR 0 0 0, vI (nI j), vI (nI c), vI (t)] (rM I L) (pCq (vI (-1)) I) := by
  refine ⟨k_X10_see, Nat.le_of_ble_eq_true rfl, ?_⟩
  show Wp _ _ _ 0 [some (vR 0 0 0), some (vI (nI j)), some (vI (nI c)), some (vI (t))] [] (rM I L) _
  obtain ⟨hJ, hC, hG, hD, hR, -⟩ := id hw
  refine w_aload_n dX10_see_0 rfl ?_
  refine w_getR (w := some (1, 0, 0)) ff_X10_10 rfl rfl dX10_see_1 rfl ?_
  refine w_iload_n dX10_see_4 rfl ?_
  refine w_callV (as := [vI (nI j)]) (st := []) (Tri.mono (c_jAt hc hw hj) (Nat.le_of_ble_eq_true rfl)) rfl rfl tg_X1_judgeAt lk_X10_111 in_X1_judgeAt se_X1_judgeAt rfl dX10_see_5 rfl (Nat.le_of_ble_eq_true rfl) (Nat.le_refl _) (Nat.le_refl _) ?_
  rintro _ _ ⟨rfl, rfl⟩ -
  refine w_ifnull (tgt := 32) dX10_see_8 (by decide) (fun h => by cases h) (fun _ _ => ?_)
  refine w_aload_n dX10_see_11 rfl ?_
  refine w_getR (w := some (1, 0, 0)) ff_X10_10 rfl rfl dX10_see_12 rfl ?_
  refine w_iload_n dX10_see_15 rfl ?_
  refine w_callV (as := [vI (nI c)]) (st := []) (Tri.mono (c_sAt hc hw hcc) (Nat.le_of_ble_eq_true rfl)) rfl rfl tg_X1_suitAt lk_X10_136 in_X1_suitAt se_X1_suitAt rfl dX10_see_16 rfl (Nat.le_of_ble_eq_true rfl) (Nat.le_refl _) (Nat.le_refl _) ?_
  rintro _ _ ⟨rfl, rfl⟩ -
  refine w_ifnull (tgt := 32) dX10_see_19 (by decide) (fun h => by cases h) (fun _ _ => ?_)
  refine w_iload_n dX10_see_22 rfl ?_
  refine w_iconst (v := 0) dX10_see_23 (by decide) ?_
  refine w_bipush (v := 60) dX10_see_24 (by decide) ?_
  refine w_callS (as := [vI (t), vI (0), vI (60)]) (st := []) (Tri.mono (c_X10_within (t) (0) (60)) (Nat.le_of_ble_eq_true rfl)) tg_X10_within lk_X10_158 sa_X10_within rfl dX10_see_26 rfl (Nat.le_of_ble_eq_true rfl) (Nat.le_refl _) (Nat.le_refl _) ?_
  rintro _ _ ⟨rfl, rfl⟩ -
  refine w_top (y := bI (0 ≤ t.toInt ∧ t.toInt ≤ 60)) (show (bI ((0 : Int32) ≤ (t) ∧ (t) ≤ (60 : Int32)) : Int32) = bI (0 ≤ t.toInt ∧ t.toInt ≤ 60) from wiZ (X := t.toInt) (A := 0) (B := 60) rfl (by decide) (by decide)) ?_
  refine w_ifne_b (tgt := 34) dX10_see_29 (by decide) (fun h1 => ?_) (fun h1 => ?_)
  · skip
    first
    | (exfalso; omega)
    | skip
      exfalso
      omega
  · skip
    first
    | (exfalso; omega)
    | skip
      refine w_iconst (v := (-1)) dX10_see_32 (by decide) ?_
      exact w_ireturn dX10_see_33 rfl (rfl) rfl (⟨rfl, _, _, rfl, FrQ.rf⟩)

theorem q_see_t {I : xF4 Int32} {L : xF4 Int64} {a : aA} (hs : SI I a) (hw : WF a) {j c : Nat} (hj : j < nJ a) (hcc : c < nC a) {t : Int32} (hx : t.toInt < 0 ∨ 60 < t.toInt) : Tri 19 109 m_X11_see [vR 30 0 0, vI (nI j), vI (nI c), vI (t)] (rM I L) (pMq (vI (-1)) I) := by
  refine ⟨k_X11_see, Nat.le_of_ble_eq_true rfl, ?_⟩
  show Wp _ _ _ 0 [some (vR 30 0 0), some (vI (nI j)), some (vI (nI c)), some (vI (t)), none] [] (rM I L) _
  obtain ⟨hJ, hC, hG, hD, hR, -⟩ := id hw
  refine w_aload_n dX11_see_0 rfl ?_
  refine w_iload_n dX11_see_1 rfl ?_
  refine w_callV (as := [vI (nI j)]) (st := []) (Tri.mono (d_isJudge (hs.1) (by omega) (x := nI j) (X := ((j : Nat) : Int)) (z_nI (by omega))) (Nat.le_of_ble_eq_true rfl)) rfl rfl tg_X11_isJudge lk_X11_198 in_X11_isJudge se_X11_isJudge rfl dX11_see_2 rfl (Nat.le_of_ble_eq_true rfl) (Nat.le_refl _) (Nat.le_refl _) ?_
  rintro _ _ ⟨rfl, rfl⟩ -
  refine w_ifeq_b (tgt := 28) dX11_see_5 (by decide) (fun h1 => ?_) (fun h1 => ?_)
  · skip
    first
    | (exfalso; omega)
    | skip
      refine w_iconst (v := (-1)) dX11_see_28 (by decide) ?_
      exact w_ireturn dX11_see_29 rfl (rfl) rfl (⟨rfl, _, _, rfl, FrR.rf⟩)
  · skip
    first
    | (exfalso; omega)
    | skip
      refine w_aload_n dX11_see_8 rfl ?_
      refine w_iload_n dX11_see_9 rfl ?_
      refine w_callV (as := [vI (nI c)]) (st := []) (Tri.mono (d_isCase (hs.2.1) (by omega) (x := nI c) (X := ((c : Nat) : Int)) (z_nI (by omega))) (Nat.le_of_ble_eq_true rfl)) rfl rfl tg_X11_isCase lk_X11_204 in_X11_isCase se_X11_isCase rfl dX11_see_10 rfl (Nat.le_of_ble_eq_true rfl) (Nat.le_refl _) (Nat.le_refl _) ?_
      rintro _ _ ⟨rfl, rfl⟩ -
      refine w_ifeq_b (tgt := 28) dX11_see_13 (by decide) (fun h2 => ?_) (fun h2 => ?_)
      · skip
        first
        | (exfalso; omega)
        | skip
          refine w_iconst (v := (-1)) dX11_see_28 (by decide) ?_
          exact w_ireturn dX11_see_29 rfl (rfl) rfl (⟨rfl, _, _, rfl, FrR.rf⟩)
      · skip
        first
        | (exfalso; omega)
        | skip
          refine w_iload_n dX11_see_16 rfl ?_
          refine w_i2l dX11_see_17 ?_
          refine w_lconst (v := 0) dX11_see_18 (by decide) ?_
          refine w_ldc2 dX11_see_19 cq_X11_207 ?_
          refine w_callS (as := [vL ((t : Int32).toInt64), vL (0), vL (60)]) (st := []) (Tri.mono (d_in ((t : Int32).toInt64) (0) (60)) (Nat.le_of_ble_eq_true rfl)) tg_X11_in lk_X11_66 sa_X11_in rfl dX11_see_22 rfl (Nat.le_of_ble_eq_true rfl) (Nat.le_refl _) (Nat.le_refl _) ?_
          rintro _ _ ⟨rfl, rfl⟩ -
          refine w_top (y := bI (0 ≤ t.toInt ∧ t.toInt ≤ 60)) (show (bI ((0 : Int64) ≤ ((t : Int32).toInt64) ∧ ((t : Int32).toInt64) ≤ (60 : Int64)) : Int32) = bI (0 ≤ t.toInt ∧ t.toInt ≤ 60) from inZ (x := t) (l := 0) (h := 60) (X := t.toInt) (A := 0) (B := 60) rfl (by decide) (by decide) rfl (by decide) (by decide)) ?_
          refine w_ifne_b (tgt := 30) dX11_see_25 (by decide) (fun h3 => ?_) (fun h3 => ?_)
          · skip
            first
            | (exfalso; omega)
            | skip
              exfalso
              omega
          · skip
            first
            | (exfalso; omega)
            | skip
              refine w_iconst (v := (-1)) dX11_see_28 (by decide) ?_
              exact w_ireturn dX11_see_29 rfl (rfl) rfl (⟨rfl, _, _, rfl, FrR.rf⟩)

theorem p_see_c {I : xF4 Int32} {L : xF4 Int64} {a : aA} (hc : CourtIs I 0 a) (hw : WF a) {j : Nat} (hj : j < nJ a) {c t : Int32} (hx : c.toInt < 0 ∨ ((nC a : Nat) : Int) ≤ c.toInt) : Tri 19 109 m_X10_see [vR 0 0 0, vI (nI j), vI (c), vI (t)] (rM I L) (pCq (vI (-1)) I) := by
  refine ⟨k_X10_see, Nat.le_of_ble_eq_true rfl, ?_⟩
  show Wp _ _ _ 0 [some (vR 0 0 0), some (vI (nI j)), some (vI (c)), some (vI (t))] [] (rM I L) _
  obtain ⟨hJ, hC, hG, hD, hR, -⟩ := id hw
  refine w_aload_n dX10_see_0 rfl ?_
  refine w_getR (w := some (1, 0, 0)) ff_X10_10 rfl rfl dX10_see_1 rfl ?_
  refine w_iload_n dX10_see_4 rfl ?_
  refine w_callV (as := [vI (nI j)]) (st := []) (Tri.mono (c_jAt hc hw hj) (Nat.le_of_ble_eq_true rfl)) rfl rfl tg_X1_judgeAt lk_X10_111 in_X1_judgeAt se_X1_judgeAt rfl dX10_see_5 rfl (Nat.le_of_ble_eq_true rfl) (Nat.le_refl _) (Nat.le_refl _) ?_
  rintro _ _ ⟨rfl, rfl⟩ -
  refine w_ifnull (tgt := 32) dX10_see_8 (by decide) (fun h => by cases h) (fun _ _ => ?_)
  refine w_aload_n dX10_see_11 rfl ?_
  refine w_getR (w := some (1, 0, 0)) ff_X10_10 rfl rfl dX10_see_12 rfl ?_
  refine w_iload_n dX10_see_15 rfl ?_
  refine w_callV (as := [vI (c)]) (st := []) (Tri.mono (c_sAtO hc hw (z_out (by omega) hx)) (Nat.le_of_ble_eq_true rfl)) rfl rfl tg_X1_suitAt lk_X10_136 in_X1_suitAt se_X1_suitAt rfl dX10_see_16 rfl (Nat.le_of_ble_eq_true rfl) (Nat.le_refl _) (Nat.le_refl _) ?_
  rintro _ _ ⟨rfl, rfl⟩ -
  refine w_ifnull (tgt := 32) dX10_see_19 (by decide) (fun _ => ?_) (fun _ h => by cases h)
  refine w_iconst (v := (-1)) dX10_see_32 (by decide) ?_
  exact w_ireturn dX10_see_33 rfl (rfl) rfl (⟨rfl, _, _, rfl, FrQ.rf⟩)

theorem q_see_c {I : xF4 Int32} {L : xF4 Int64} {a : aA} (hs : SI I a) (hw : WF a) {j : Nat} (hj : j < nJ a) {c t : Int32} (hx : c.toInt < 0 ∨ ((nC a : Nat) : Int) ≤ c.toInt) : Tri 19 109 m_X11_see [vR 30 0 0, vI (nI j), vI (c), vI (t)] (rM I L) (pMq (vI (-1)) I) := by
  refine ⟨k_X11_see, Nat.le_of_ble_eq_true rfl, ?_⟩
  show Wp _ _ _ 0 [some (vR 30 0 0), some (vI (nI j)), some (vI (c)), some (vI (t)), none] [] (rM I L) _
  obtain ⟨hJ, hC, hG, hD, hR, -⟩ := id hw
  refine w_aload_n dX11_see_0 rfl ?_
  refine w_iload_n dX11_see_1 rfl ?_
  refine w_callV (as := [vI (nI j)]) (st := []) (Tri.mono (d_isJudge (hs.1) (by omega) (x := nI j) (X := ((j : Nat) : Int)) (z_nI (by omega))) (Nat.le_of_ble_eq_true rfl)) rfl rfl tg_X11_isJudge lk_X11_198 in_X11_isJudge se_X11_isJudge rfl dX11_see_2 rfl (Nat.le_of_ble_eq_true rfl) (Nat.le_refl _) (Nat.le_refl _) ?_
  rintro _ _ ⟨rfl, rfl⟩ -
  refine w_ifeq_b (tgt := 28) dX11_see_5 (by decide) (fun h1 => ?_) (fun h1 => ?_)
  · skip
    first
    | (exfalso; omega)
    | skip
      refine w_iconst (v := (-1)) dX11_see_28 (by decide) ?_
      exact w_ireturn dX11_see_29 rfl (rfl) rfl (⟨rfl, _, _, rfl, FrR.rf⟩)
  · skip
    first
    | (exfalso; omega)
    | skip
      refine w_aload_n dX11_see_8 rfl ?_
      refine w_iload_n dX11_see_9 rfl ?_
      refine w_callV (as := [vI (c)]) (st := []) (Tri.mono (d_isCase (hs.2.1) (by omega) (x := c) (X := c.toInt) rfl) (Nat.le_of_ble_eq_true rfl)) rfl rfl tg_X11_isCase lk_X11_204 in_X11_isCase se_X11_isCase rfl dX11_see_10 rfl (Nat.le_of_ble_eq_true rfl) (Nat.le_refl _) (Nat.le_refl _) ?_
      rintro _ _ ⟨rfl, rfl⟩ -
      refine w_ifeq_b (tgt := 28) dX11_see_13 (by decide) (fun h2 => ?_) (fun h2 => ?_)
      · skip
        first
        | (exfalso; omega)
        | skip
          refine w_iconst (v := (-1)) dX11_see_28 (by decide) ?_
          exact w_ireturn dX11_see_29 rfl (rfl) rfl (⟨rfl, _, _, rfl, FrR.rf⟩)
      · skip
        first
        | (exfalso; omega)
        | skip
          refine w_iload_n dX11_see_16 rfl ?_
          refine w_i2l dX11_see_17 ?_
          refine w_lconst (v := 0) dX11_see_18 (by decide) ?_
          refine w_ldc2 dX11_see_19 cq_X11_207 ?_
          refine w_callS (as := [vL ((t : Int32).toInt64), vL (0), vL (60)]) (st := []) (Tri.mono (d_in ((t : Int32).toInt64) (0) (60)) (Nat.le_of_ble_eq_true rfl)) tg_X11_in lk_X11_66 sa_X11_in rfl dX11_see_22 rfl (Nat.le_of_ble_eq_true rfl) (Nat.le_refl _) (Nat.le_refl _) ?_
          rintro _ _ ⟨rfl, rfl⟩ -
          refine w_top (y := bI (0 ≤ t.toInt ∧ t.toInt ≤ 60)) (show (bI ((0 : Int64) ≤ ((t : Int32).toInt64) ∧ ((t : Int32).toInt64) ≤ (60 : Int64)) : Int32) = bI (0 ≤ t.toInt ∧ t.toInt ≤ 60) from inZ (x := t) (l := 0) (h := 60) (X := t.toInt) (A := 0) (B := 60) rfl (by decide) (by decide) rfl (by decide) (by decide)) ?_
          refine w_ifne_b (tgt := 30) dX11_see_25 (by decide) (fun h3 => ?_) (fun h3 => ?_)
          · skip
            first
            | (exfalso; omega)
            | skip
              exfalso
              omega
          · skip
            first
            | (exfalso; omega)
            | skip
              refine w_iconst (v := (-1)) dX11_see_28 (by decide) ?_
              exact w_ireturn dX11_see_29 rfl (rfl) rfl (⟨rfl, _, _, rfl, FrR.rf⟩)

theorem p_see_j {I : xF4 Int32} {L : xF4 Int64} {a : aA} (hc : CourtIs I 0 a) (hw : WF a) {j c t : Int32} (hx : j.toInt < 0 ∨ ((nJ a : Nat) : Int) ≤ j.toInt) : Tri 19 109 m_X10_see [vR 0 0 0, vI (j), vI (c), vI (t)] (rM I L) (pCq (vI (-1)) I) := by
  refine ⟨k_X10_see, Nat.le_of_ble_eq_true rfl, ?_⟩
  show Wp _ _ _ 0 [some (vR 0 0 0), some (vI (j)), some (vI (c)), some (vI (t))] [] (rM I L) _
  obtain ⟨hJ, hC, hG, hD, hR, -⟩ := id hw
  refine w_aload_n dX10_see_0 rfl ?_
  refine w_getR (w := some (1, 0, 0)) ff_X10_10 rfl rfl dX10_see_1 rfl ?_
  refine w_iload_n dX10_see_4 rfl ?_
  refine w_callV (as := [vI (j)]) (st := []) (Tri.mono (c_jAtO hc hw (z_out (by omega) hx)) (Nat.le_of_ble_eq_true rfl)) rfl rfl tg_X1_judgeAt lk_X10_111 in_X1_judgeAt se_X1_judgeAt rfl dX10_see_5 rfl (Nat.le_of_ble_eq_true rfl) (Nat.le_refl _) (Nat.le_refl _) ?_
  rintro _ _ ⟨rfl, rfl⟩ -
  refine w_ifnull (tgt := 32) dX10_see_8 (by decide) (fun _ => ?_) (fun _ h => by cases h)
  refine w_iconst (v := (-1)) dX10_see_32 (by decide) ?_
  exact w_ireturn dX10_see_33 rfl (rfl) rfl (⟨rfl, _, _, rfl, FrQ.rf⟩)

theorem q_see_j {I : xF4 Int32} {L : xF4 Int64} {a : aA} (hs : SI I a) (hw : WF a) {j c t : Int32} (hx : j.toInt < 0 ∨ ((nJ a : Nat) : Int) ≤ j.toInt) : Tri 19 109 m_X11_see [vR 30 0 0, vI (j), vI (c), vI (t)] (rM I L) (pMq (vI (-1)) I) := by
  refine ⟨k_X11_see, Nat.le_of_ble_eq_true rfl, ?_⟩
  show Wp _ _ _ 0 [some (vR 30 0 0), some (vI (j)), some (vI (c)), some (vI (t)), none] [] (rM I L) _
  obtain ⟨hJ, hC, hG, hD, hR, -⟩ := id hw
  refine w_aload_n dX11_see_0 rfl ?_
  refine w_iload_n dX11_see_1 rfl ?_
  refine w_callV (as := [vI (j)]) (st := []) (Tri.mono (d_isJudge (hs.1) (by omega) (x := j) (X := j.toInt) rfl) (Nat.le_of_ble_eq_true rfl)) rfl rfl tg_X11_isJudge lk_X11_198 in_X11_isJudge se_X11_isJudge rfl dX11_see_2 rfl (Nat.le_of_ble_eq_true rfl) (Nat.le_refl _) (Nat.le_refl _) ?_
  rintro _ _ ⟨rfl, rfl⟩ -
  refine w_ifeq_b (tgt := 28) dX11_see_5 (by decide) (fun h1 => ?_) (fun h1 => ?_)
  · skip
    first
    | (exfalso; omega)
    | skip
      refine w_iconst (v := (-1)) dX11_see_28 (by decide) ?_
      exact w_ireturn dX11_see_29 rfl (rfl) rfl (⟨rfl, _, _, rfl, FrR.rf⟩)
  · skip
    first
    | (exfalso; omega)
    | skip
      refine w_aload_n dX11_see_8 rfl ?_
      refine w_iload_n dX11_see_9 rfl ?_
      refine w_callV (as := [vI (c)]) (st := []) (Tri.mono (d_isCase (hs.2.1) (by omega) (x := c) (X := c.toInt) rfl) (Nat.le_of_ble_eq_true rfl)) rfl rfl tg_X11_isCase lk_X11_204 in_X11_isCase se_X11_isCase rfl dX11_see_10 rfl (Nat.le_of_ble_eq_true rfl) (Nat.le_refl _) (Nat.le_refl _) ?_
      rintro _ _ ⟨rfl, rfl⟩ -
      refine w_ifeq_b (tgt := 28) dX11_see_13 (by decide) (fun h2 => ?_) (fun h2 => ?_)
      · skip
        first
        | (exfalso; omega)
        | skip
          refine w_iconst (v := (-1)) dX11_see_28 (by decide) ?_
          exact w_ireturn dX11_see_29 rfl (rfl) rfl (⟨rfl, _, _, rfl, FrR.rf⟩)
      · skip
        first
        | (exfalso; omega)
        | skip
          refine w_iload_n dX11_see_16 rfl ?_
          refine w_i2l dX11_see_17 ?_
          refine w_lconst (v := 0) dX11_see_18 (by decide) ?_
          refine w_ldc2 dX11_see_19 cq_X11_207 ?_
          refine w_callS (as := [vL ((t : Int32).toInt64), vL (0), vL (60)]) (st := []) (Tri.mono (d_in ((t : Int32).toInt64) (0) (60)) (Nat.le_of_ble_eq_true rfl)) tg_X11_in lk_X11_66 sa_X11_in rfl dX11_see_22 rfl (Nat.le_of_ble_eq_true rfl) (Nat.le_refl _) (Nat.le_refl _) ?_
          rintro _ _ ⟨rfl, rfl⟩ -
          refine w_top (y := bI (0 ≤ t.toInt ∧ t.toInt ≤ 60)) (show (bI ((0 : Int64) ≤ ((t : Int32).toInt64) ∧ ((t : Int32).toInt64) ≤ (60 : Int64)) : Int32) = bI (0 ≤ t.toInt ∧ t.toInt ≤ 60) from inZ (x := t) (l := 0) (h := 60) (X := t.toInt) (A := 0) (B := 60) rfl (by decide) (by decide) rfl (by decide) (by decide)) ?_
          refine w_ifne_b (tgt := 30) dX11_see_25 (by decide) (fun h3 => ?_) (fun h3 => ?_)
          · skip
            first
            | (exfalso; omega)
            | skip
              exfalso
              omega
          · skip
            first
            | (exfalso; omega)
            | skip
              refine w_iconst (v := (-1)) dX11_see_28 (by decide) ?_
              exact w_ireturn dX11_see_29 rfl (rfl) rfl (⟨rfl, _, _, rfl, FrR.rf⟩)
