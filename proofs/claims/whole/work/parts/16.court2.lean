theorem c_jAt {I : xF4 Int32} {L : xF4 Int64} {k : Nat} {a : aA} (hc : CourtIs I k a) (hw : WF a) {i : Nat} (hi : i < nJ a) : Tri 0 109 m_X1_judgeAt [vR 1 k 0, vI (nI i)] (rM I L) (pO (some (3, k, i)) I L) := by
  refine ⟨k_X1_judgeAt, Nat.le_of_ble_eq_true rfl, ?_⟩
  show Wp _ _ _ 0 [some (vR 1 k 0), some (vI (nI i))] [] (rM I L) _
  obtain ⟨ft0, ft1, ft2, ft3, ft4, -⟩ := id hw
  refine w_iload_n dX1_judgeAt_0 rfl ?_
  refine w_if_lt (tgt := 30) dX1_judgeAt_1 (by decide) (fun h => absurd h (nI_pos (by omega))) (fun _ => ?_)
  refine w_iload_n dX1_judgeAt_4 rfl ?_
  refine w_aload_n dX1_judgeAt_5 rfl ?_
  refine w_getI ff_X1_35 rfl rfl dX1_judgeAt_6 ?_
  rw [show (I 1 k 0 3 : Int32) = nI (nJ a) from hc.1]
  refine w_icmp_ge (tgt := 30) dX1_judgeAt_9 (by decide) (fun h => absurd h (nI_ge hi (by omega))) (fun _ => ?_)
  refine w_iload_n dX1_judgeAt_12 rfl ?_
  refine w_aload_n dX1_judgeAt_13 rfl ?_
  refine w_getR (w := some (2, k, 0)) ff_X1_11 rfl rfl dX1_judgeAt_14 rfl ?_
  refine w_alen (v := 4) rfl rfl dX1_judgeAt_17 ?_
  refine w_icmp_ge (tgt := 30) dX1_judgeAt_18 (by decide) (fun h => absurd h (nI_ge (b := 4) (by omega) (by omega))) (fun _ => ?_)
  refine w_aload_n dX1_judgeAt_21 rfl ?_
  refine w_getR (w := some (2, k, 0)) ff_X1_11 rfl rfl dX1_judgeAt_22 rfl ?_
  refine w_iload_n dX1_judgeAt_25 rfl ?_
  refine w_aaload (a := i) (w := some (3, k, i)) rfl (by decide) (fun _ => rfl) (vp_in_nI (by omega) (by omega)) (nI_clamp (by omega)) (by show (if i < 4 then _ else _) = _; rw [if_pos (show i < 4 by omega)]) dX1_judgeAt_26 ?_
  refine w_goto (tgt := 31) dX1_judgeAt_27 (by decide) ?_
  exact w_areturn dX1_judgeAt_31 rfl rfl (⟨rfl, rfl⟩)

theorem c_jAtO {I : xF4 Int32} {L : xF4 Int64} {k : Nat} {a : aA} (hc : CourtIs I k a) (hw : WF a) {x : Int32} (hx : x < 0 ∨ nI (nJ a) ≤ x) : Tri 0 109 m_X1_judgeAt [vR 1 k 0, vI (x)] (rM I L) (pO none I L) := by
  refine ⟨k_X1_judgeAt, Nat.le_of_ble_eq_true rfl, ?_⟩
  show Wp _ _ _ 0 [some (vR 1 k 0), some (vI (x))] [] (rM I L) _
  obtain ⟨ft0, ft1, ft2, ft3, ft4, -⟩ := id hw
  refine w_iload_n dX1_judgeAt_0 rfl ?_
  refine w_if_lt (tgt := 30) dX1_judgeAt_1 (by decide) (fun h1 => ?_) (fun h1 => ?_)
  · skip
    refine w_null dX1_judgeAt_30 ?_
    exact w_areturn dX1_judgeAt_31 rfl rfl (⟨rfl, rfl⟩)
  · skip
    refine w_iload_n dX1_judgeAt_4 rfl ?_
    refine w_aload_n dX1_judgeAt_5 rfl ?_
    refine w_getI ff_X1_35 rfl rfl dX1_judgeAt_6 ?_
    rw [show (I 1 k 0 3 : Int32) = nI (nJ a) from hc.1]
    refine w_icmp_ge (tgt := 30) dX1_judgeAt_9 (by decide) (fun _ => ?_) (fun h => absurd (hx.elim (fun q => absurd q h1) id) h)
    refine w_null dX1_judgeAt_30 ?_
    exact w_areturn dX1_judgeAt_31 rfl rfl (⟨rfl, rfl⟩)

theorem c_sAt {I : xF4 Int32} {L : xF4 Int64} {k : Nat} {a : aA} (hc : CourtIs I k a) (hw : WF a) {i : Nat} (hi : i < nC a) : Tri 0 109 m_X1_suitAt [vR 1 k 0, vI (nI i)] (rM I L) (pO (some (5, k, i)) I L) := by
  refine ⟨k_X1_suitAt, Nat.le_of_ble_eq_true rfl, ?_⟩
  show Wp _ _ _ 0 [some (vR 1 k 0), some (vI (nI i))] [] (rM I L) _
  obtain ⟨ft0, ft1, ft2, ft3, ft4, -⟩ := id hw
  refine w_iload_n dX1_suitAt_0 rfl ?_
  refine w_if_lt (tgt := 30) dX1_suitAt_1 (by decide) (fun h => absurd h (nI_pos (by omega))) (fun _ => ?_)
  refine w_iload_n dX1_suitAt_4 rfl ?_
  refine w_aload_n dX1_suitAt_5 rfl ?_
  refine w_getI ff_X1_39 rfl rfl dX1_suitAt_6 ?_
  rw [show (I 1 k 0 4 : Int32) = nI (nC a) from hc.2.1]
  refine w_icmp_ge (tgt := 30) dX1_suitAt_9 (by decide) (fun h => absurd h (nI_ge hi (by omega))) (fun _ => ?_)
  refine w_iload_n dX1_suitAt_12 rfl ?_
  refine w_aload_n dX1_suitAt_13 rfl ?_
  refine w_getR (w := some (4, k, 0)) ff_X1_20 rfl rfl dX1_suitAt_14 rfl ?_
  refine w_alen (v := 5) rfl rfl dX1_suitAt_17 ?_
  refine w_icmp_ge (tgt := 30) dX1_suitAt_18 (by decide) (fun h => absurd h (nI_ge (b := 5) (by omega) (by omega))) (fun _ => ?_)
  refine w_aload_n dX1_suitAt_21 rfl ?_
  refine w_getR (w := some (4, k, 0)) ff_X1_20 rfl rfl dX1_suitAt_22 rfl ?_
  refine w_iload_n dX1_suitAt_25 rfl ?_
  refine w_aaload (a := i) (w := some (5, k, i)) rfl (by decide) (fun _ => rfl) (vp_in_nI (by omega) (by omega)) (nI_clamp (by omega)) (by show (if i < 5 then _ else _) = _; rw [if_pos (show i < 5 by omega)]) dX1_suitAt_26 ?_
  refine w_goto (tgt := 31) dX1_suitAt_27 (by decide) ?_
  exact w_areturn dX1_suitAt_31 rfl rfl (⟨rfl, rfl⟩)

theorem c_sAtO {I : xF4 Int32} {L : xF4 Int64} {k : Nat} {a : aA} (hc : CourtIs I k a) (hw : WF a) {x : Int32} (hx : x < 0 ∨ nI (nC a) ≤ x) : Tri 0 109 m_X1_suitAt [vR 1 k 0, vI (x)] (rM I L) (pO none I L) := by
  refine ⟨k_X1_suitAt, Nat.le_of_ble_eq_true rfl, ?_⟩
  show Wp _ _ _ 0 [some (vR 1 k 0), some (vI (x))] [] (rM I L) _
  obtain ⟨ft0, ft1, ft2, ft3, ft4, -⟩ := id hw
  refine w_iload_n dX1_suitAt_0 rfl ?_
  refine w_if_lt (tgt := 30) dX1_suitAt_1 (by decide) (fun h1 => ?_) (fun h1 => ?_)
  · skip
    refine w_null dX1_suitAt_30 ?_
    exact w_areturn dX1_suitAt_31 rfl rfl (⟨rfl, rfl⟩)
  · skip
    refine w_iload_n dX1_suitAt_4 rfl ?_
    refine w_aload_n dX1_suitAt_5 rfl ?_
    refine w_getI ff_X1_39 rfl rfl dX1_suitAt_6 ?_
    rw [show (I 1 k 0 4 : Int32) = nI (nC a) from hc.2.1]
    refine w_icmp_ge (tgt := 30) dX1_suitAt_9 (by decide) (fun _ => ?_) (fun h => absurd (hx.elim (fun q => absurd q h1) id) h)
    refine w_null dX1_suitAt_30 ?_
    exact w_areturn dX1_suitAt_31 rfl rfl (⟨rfl, rfl⟩)

theorem c_gAt {I : xF4 Int32} {L : xF4 Int64} {k : Nat} {a : aA} (hc : CourtIs I k a) (hw : WF a) {i : Nat} (hi : i < nG a) : Tri 0 109 m_X1_sightAt [vR 1 k 0, vI (nI i)] (rM I L) (pO (some (7, k, i)) I L) := by
  refine ⟨k_X1_sightAt, Nat.le_of_ble_eq_true rfl, ?_⟩
  show Wp _ _ _ 0 [some (vR 1 k 0), some (vI (nI i))] [] (rM I L) _
  obtain ⟨ft0, ft1, ft2, ft3, ft4, -⟩ := id hw
  refine w_iload_n dX1_sightAt_0 rfl ?_
  refine w_if_lt (tgt := 30) dX1_sightAt_1 (by decide) (fun h => absurd h (nI_pos (by omega))) (fun _ => ?_)
  refine w_iload_n dX1_sightAt_4 rfl ?_
  refine w_aload_n dX1_sightAt_5 rfl ?_
  refine w_getI ff_X1_42 rfl rfl dX1_sightAt_6 ?_
  rw [show (I 1 k 0 5 : Int32) = nI (nG a) from hc.2.2.1]
  refine w_icmp_ge (tgt := 30) dX1_sightAt_9 (by decide) (fun h => absurd h (nI_ge hi (by omega))) (fun _ => ?_)
  refine w_iload_n dX1_sightAt_12 rfl ?_
  refine w_aload_n dX1_sightAt_13 rfl ?_
  refine w_getR (w := some (6, k, 0)) ff_X1_27 rfl rfl dX1_sightAt_14 rfl ?_
  refine w_alen (v := 6) rfl rfl dX1_sightAt_17 ?_
  refine w_icmp_ge (tgt := 30) dX1_sightAt_18 (by decide) (fun h => absurd h (nI_ge (b := 6) (by omega) (by omega))) (fun _ => ?_)
  refine w_aload_n dX1_sightAt_21 rfl ?_
  refine w_getR (w := some (6, k, 0)) ff_X1_27 rfl rfl dX1_sightAt_22 rfl ?_
  refine w_iload_n dX1_sightAt_25 rfl ?_
  refine w_aaload (a := i) (w := some (7, k, i)) rfl (by decide) (fun _ => rfl) (vp_in_nI (by omega) (by omega)) (nI_clamp (by omega)) (by show (if i < 6 then _ else _) = _; rw [if_pos (show i < 6 by omega)]) dX1_sightAt_26 ?_
  refine w_goto (tgt := 31) dX1_sightAt_27 (by decide) ?_
  exact w_areturn dX1_sightAt_31 rfl rfl (⟨rfl, rfl⟩)

theorem c_gAtO {I : xF4 Int32} {L : xF4 Int64} {k : Nat} {a : aA} (hc : CourtIs I k a) (hw : WF a) {x : Int32} (hx : x < 0 ∨ nI (nG a) ≤ x) : Tri 0 109 m_X1_sightAt [vR 1 k 0, vI (x)] (rM I L) (pO none I L) := by
  refine ⟨k_X1_sightAt, Nat.le_of_ble_eq_true rfl, ?_⟩
  show Wp _ _ _ 0 [some (vR 1 k 0), some (vI (x))] [] (rM I L) _
  obtain ⟨ft0, ft1, ft2, ft3, ft4, -⟩ := id hw
  refine w_iload_n dX1_sightAt_0 rfl ?_
  refine w_if_lt (tgt := 30) dX1_sightAt_1 (by decide) (fun h1 => ?_) (fun h1 => ?_)
  · skip
    refine w_null dX1_sightAt_30 ?_
    exact w_areturn dX1_sightAt_31 rfl rfl (⟨rfl, rfl⟩)
  · skip
    refine w_iload_n dX1_sightAt_4 rfl ?_
    refine w_aload_n dX1_sightAt_5 rfl ?_
    refine w_getI ff_X1_42 rfl rfl dX1_sightAt_6 ?_
    rw [show (I 1 k 0 5 : Int32) = nI (nG a) from hc.2.2.1]
    refine w_icmp_ge (tgt := 30) dX1_sightAt_9 (by decide) (fun _ => ?_) (fun h => absurd (hx.elim (fun q => absurd q h1) id) h)
    refine w_null dX1_sightAt_30 ?_
    exact w_areturn dX1_sightAt_31 rfl rfl (⟨rfl, rfl⟩)

theorem c_canHear {I : xF4 Int32} {L : xF4 Int64} {k : Nat} {a : aA} (hc : CourtIs I k a) (hw : WF a) {c j n : Nat} (hcc : c < nC a) (hj : j < nJ a) (hn : n ≤ 60) : Tri 2 109 m_X1_canHear [vR 1 k 0, vR 5 k c, vR 3 k j, vI (nI n)] (rM I L) (pI (bI (canN a c j n)) I L) := by
  refine ⟨k_X1_canHear, Nat.le_of_ble_eq_true rfl, ?_⟩
  show Wp _ _ _ 0 [some (vR 1 k 0), some (vR 5 k c), some (vR 3 k j), some (vI (nI n))] [] (rM I L) _
  obtain ⟨ft0, ft1, ft2, ft3, ft4, -⟩ := id hw
  obtain ⟨fc0, fc1, fc2, fc3, fc4, fc5, fc6, fc7, fc8⟩ := hw.2.2.2.2.2.2.1 c hcc
  obtain ⟨fj0, fj1, fj2, fj3⟩ := hw.2.2.2.2.2.1 j hj
  have ft := tenN_le fj0 hn
  refine w_aload_n dX1_canHear_0 rfl ?_
  refine w_ifnull (tgt := 60) dX1_canHear_1 (by decide) (fun h => by cases h) (fun _ _ => ?_)
  refine w_aload_n dX1_canHear_4 rfl ?_
  refine w_ifnull (tgt := 60) dX1_canHear_5 (by decide) (fun h => by cases h) (fun _ _ => ?_)
  refine w_aload_n dX1_canHear_8 rfl ?_
  refine w_callV (as := []) (st := []) (Tri.mono (c_X8_isHeard k c) (Nat.le_of_ble_eq_true rfl)) rfl rfl tg_X8_isHeard lk_X1_94 in_X8_isHeard se_X8_isHeard rfl dX1_canHear_9 rfl (Nat.le_of_ble_eq_true rfl) (Nat.le_refl _) (Nat.le_refl _) ?_
  rintro _ _ ⟨rfl, rfl⟩ -
  rw [show (bI (0 < I 5 k c 4) : Int32) = bI (0 < sF a c 4) from isH hc hw hcc]
  refine w_ifne_b (tgt := 60) dX1_canHear_12 (by decide) (fun h1 => ?_) (fun h1 => ?_)
  · skip
    refine w_iconst (v := 0) dX1_canHear_60 (by decide) ?_
    skip
    exact w_ireturn dX1_canHear_61 rfl (rfl) rfl (⟨by rw [bI_f (show ¬ canN a c j n from fun q => by first | omega | exact h4 q.2.2.2)], rfl⟩)
  · skip
    refine w_aload_n dX1_canHear_15 rfl ?_
    refine w_getI ff_X1_98 rfl rfl dX1_canHear_16 ?_
    rw [show (I 5 k c 3 : Int32) = nI (sF a c 3) from hc.s hcc (by decide) (by decide)]
    refine w_aload_n dX1_canHear_19 rfl ?_
    refine w_getI ff_X1_45 rfl rfl dX1_canHear_20 ?_
    rw [show (I 1 k 0 6 : Int32) = nI (dY a) from hc.2.2.2.1]
    refine w_icmp_gt (tgt := 60) dX1_canHear_23 (by decide) (fun h2 => ?_) (fun h2 => ?_)
    · skip
      replace h2 : (dY a) < (sF a c 3) := (nI_ltI (a := dY a) (b := sF a c 3) (by omega) (by omega)).mp h2
      refine w_iconst (v := 0) dX1_canHear_60 (by decide) ?_
      skip
      exact w_ireturn dX1_canHear_61 rfl (rfl) rfl (⟨by rw [bI_f (show ¬ canN a c j n from fun q => by first | omega | exact h4 q.2.2.2)], rfl⟩)
    · skip
      replace h2 : ¬ ((dY a) < (sF a c 3)) := fun q => h2 ((nI_ltI (a := dY a) (b := sF a c 3) (by omega) (by omega)).mpr q)
      refine w_aload_n dX1_canHear_26 rfl ?_
      refine w_getI ff_X1_99 rfl rfl dX1_canHear_27 ?_
      rw [show (I 3 k j 3 : Int32) = nI (jF a j 3) from hc.j hj (by decide)]
      refine w_aload_n dX1_canHear_30 rfl ?_
      refine w_getI ff_X1_45 rfl rfl dX1_canHear_31 ?_
      rw [show (I 1 k 0 6 : Int32) = nI (dY a) from hc.2.2.2.1]
      refine w_icmp_gt (tgt := 60) dX1_canHear_34 (by decide) (fun h3 => ?_) (fun h3 => ?_)
      · skip
        replace h3 : (dY a) < (jF a j 3) := (nI_ltI (a := dY a) (b := jF a j 3) (by omega) (by omega)).mp h3
        refine w_iconst (v := 0) dX1_canHear_60 (by decide) ?_
        skip
        exact w_ireturn dX1_canHear_61 rfl (rfl) rfl (⟨by rw [bI_f (show ¬ canN a c j n from fun q => by first | omega | exact h4 q.2.2.2)], rfl⟩)
      · skip
        replace h3 : ¬ ((dY a) < (jF a j 3)) := fun q => h3 ((nI_ltI (a := dY a) (b := jF a j 3) (by omega) (by omega)).mpr q)
        refine w_aload_n dX1_canHear_37 rfl ?_
        refine w_aload_n dX1_canHear_38 rfl ?_
        refine w_getI ff_X1_102 rfl rfl dX1_canHear_39 ?_
        rw [show (I 5 k c 0 : Int32) = nI (sF a c 0) from hc.s hcc (by decide) (by decide)]
        refine w_aload_n dX1_canHear_42 rfl ?_
        refine w_getI ff_X1_105 rfl rfl dX1_canHear_43 ?_
        rw [show (I 3 k j 0 : Int32) = nI (jF a j 0) from hc.j hj (by decide)]
        refine w_iload_n dX1_canHear_46 rfl ?_
        refine w_callSN (as := [vI (nI (jF a j 0)), vI (nI n)]) (st := [vI (nI (sF a c 0)), vR 3 k j]) (Tri.mono (c_X10_tenthBy (nI (jF a j 0)) (nI n)) (Nat.le_of_ble_eq_true rfl)) tg_X10_tenthBy ln_X1_108 sa_X10_tenthBy rfl dX1_canHear_47 rfl (Nat.le_of_ble_eq_true rfl) (Nat.le_refl _) (Nat.le_refl _) ?_
        rintro _ _ ⟨rfl, rfl⟩ -
        rw [show (tenI (nI (jF a j 0)) (nI n) : Int32) = nI (tenN (jF a j 0) (n)) from tenI_N (by omega) (by omega)]
        refine w_callV (as := [vI (nI (sF a c 0)), vI (nI (tenN (jF a j 0) (n)))]) (st := []) (Tri.mono (c_X4_bears k j (nI (sF a c 0)) (nI (tenN (jF a j 0) (n)))) (Nat.le_of_ble_eq_true rfl)) rfl rfl tg_X4_bears lk_X1_112 in_X4_bears se_X4_bears rfl dX1_canHear_50 rfl (Nat.le_of_ble_eq_true rfl) (Nat.le_refl _) (Nat.le_refl _) ?_
        rintro _ _ ⟨rfl, rfl⟩ -
        rw [show (bI (bearP (nI (sF a c 0)) (nI (tenN (jF a j 0) (n))) (I 3 k j 2) (I 3 k j 1)) : Int32) = bI (bearN (sF a c 0) (tenN (jF a j 0) (n)) (jF a j 2) (jF a j 1)) from bearI hc hw hj (by omega) (by omega)]
        refine w_ifeq_b (tgt := 60) dX1_canHear_53 (by decide) (fun h4 => ?_) (fun h4 => ?_)
        · skip
          refine w_iconst (v := 0) dX1_canHear_60 (by decide) ?_
          skip
          exact w_ireturn dX1_canHear_61 rfl (rfl) rfl (⟨by rw [bI_f (show ¬ canN a c j n from fun q => by first | omega | exact h4 q.2.2.2)], rfl⟩)
        · skip
          refine w_iconst (v := 1) dX1_canHear_56 (by decide) ?_
          refine w_goto (tgt := 61) dX1_canHear_57 (by decide) ?_
          skip
          exact w_ireturn dX1_canHear_61 rfl (rfl) rfl (⟨by rw [bI_t (show canN a c j n from ⟨by omega, by omega, by omega, h4⟩)], rfl⟩)

theorem l_heardBits {I : xF4 Int32} {L : xF4 Int64} {k : Nat} {a : aA} (hc : CourtIs I k a) (hw : WF a)  : ∀ (m c : Nat) (o3 : Option xV), c + m = nC a → Wp 2 109 m_X1_heardBits 4 [some (vR 1 k 0), some (vI (nI (bitN (fun c => decide (0 < sF a c 4)) c))), some (vI (nI c)), o3] [] (rM I L) (pI (nI (heardN a)) I L) := by
  intro m
  induction m with
  | zero =>
    intro c o3 hq9
    have e : c = nC a := by omega
    subst e
    obtain ⟨ft0, ft1, ft2, ft3, ft4, -⟩ := id hw
    refine w_iload_n dX1_heardBits_4 rfl ?_
    refine w_aload_n dX1_heardBits_5 rfl ?_
    refine w_getI ff_X1_39 rfl rfl dX1_heardBits_6 ?_
    rw [show (I 1 k 0 4 : Int32) = nI (nC a) from hc.2.1]
    refine w_icmp_ge (tgt := 41) dX1_heardBits_9 (by decide) (fun _ => ?_) (fun h => absurd (nI_le (Nat.le_refl _) (by omega)) h)
    refine w_iload_n dX1_heardBits_41 rfl ?_
    exact w_ireturn dX1_heardBits_42 rfl (rfl) rfl (⟨rfl, rfl⟩)
  | succ m ih =>
    intro c o3 hq9
    have hcc : c < nC a := by omega
    obtain ⟨ft0, ft1, ft2, ft3, ft4, -⟩ := id hw
    obtain ⟨fc0, fc1, fc2, fc3, fc4, fc5, fc6, fc7, fc8⟩ := hw.2.2.2.2.2.2.1 c hcc
    refine w_iload_n dX1_heardBits_4 rfl ?_
    refine w_aload_n dX1_heardBits_5 rfl ?_
    refine w_getI ff_X1_39 rfl rfl dX1_heardBits_6 ?_
    rw [show (I 1 k 0 4 : Int32) = nI (nC a) from hc.2.1]
    refine w_icmp_ge (tgt := 41) dX1_heardBits_9 (by decide) (fun h => absurd h (nI_ge hcc (by omega))) (fun _ => ?_)
    refine w_aload_n dX1_heardBits_12 rfl ?_
    refine w_iload_n dX1_heardBits_13 rfl ?_
    refine w_callV (as := [vI (nI c)]) (st := []) (Tri.mono (c_sAt hc hw hcc) (Nat.le_of_ble_eq_true rfl)) rfl rfl tg_X1_suitAt lk_X1_59 in_X1_suitAt se_X1_suitAt rfl dX1_heardBits_14 rfl (Nat.le_of_ble_eq_true rfl) (Nat.le_refl _) (Nat.le_refl _) ?_
    rintro _ _ ⟨rfl, rfl⟩ -
    refine w_astore_n (ls' := [some (vR 1 k 0), some (vI (nI (bitN (fun c => decide (0 < sF a c 4)) c))), some (vI (nI c)), some (vR 5 k c)]) dX1_heardBits_17 rfl ?_
    refine w_aload_n dX1_heardBits_18 rfl ?_
    refine w_ifnull (tgt := 35) dX1_heardBits_19 (by decide) (fun h => by cases h) (fun _ _ => ?_)
    refine w_aload_n dX1_heardBits_22 rfl ?_
    refine w_callV (as := []) (st := []) (Tri.mono (c_X8_isHeard k c) (Nat.le_of_ble_eq_true rfl)) rfl rfl tg_X8_isHeard lk_X1_94 in_X8_isHeard se_X8_isHeard rfl dX1_heardBits_23 rfl (Nat.le_of_ble_eq_true rfl) (Nat.le_refl _) (Nat.le_refl _) ?_
    rintro _ _ ⟨rfl, rfl⟩ -
    rw [show (bI (0 < I 5 k c 4) : Int32) = bI (0 < sF a c 4) from isH hc hw hcc]
    refine w_ifeq_b (tgt := 35) dX1_heardBits_26 (by decide) (fun h1 => ?_) (fun h1 => ?_)
    · skip
      rw [show (nI (bitN (fun c => decide (0 < sF a c 4)) c) : Int32) = nI (bitN (fun c => decide (0 < sF a c 4)) (c + 1)) from bit_no (p := (fun c => decide (0 < sF a c 4))) (fun q => h1 (of_decide_eq_true q))]
      refine w_iinc (v := nI (c + 1)) (ls' := [some (vR 1 k 0), some (vI (nI (bitN (fun c => decide (0 < sF a c 4)) (c + 1)))), some (vI (nI (c + 1))), some (vR 5 k c)]) dX1_heardBits_35 rfl (nI_1 _) rfl ?_
      refine w_goto (tgt := 4) dX1_heardBits_38 (by decide) ?_
      exact ih (c + 1) _ (by omega)
    · skip
      refine w_iload_n dX1_heardBits_29 rfl ?_
      refine w_iconst (v := 1) dX1_heardBits_30 (by decide) ?_
      refine w_iload_n dX1_heardBits_31 rfl ?_
      refine w_ishl dX1_heardBits_32 ?_
      refine w_ior dX1_heardBits_33 ?_
      refine w_istore_n (ls' := [some (vR 1 k 0), some (vI ((nI (bitN (fun c => decide (0 < sF a c 4)) c)) ||| ((1) <<< ((nI c) &&& 31)))), some (vI (nI c)), some (vR 5 k c)]) dX1_heardBits_34 rfl ?_
      rw [show ((nI (bitN (fun c => decide (0 < sF a c 4)) c)) ||| ((1) <<< ((nI c) &&& 31)) : Int32) = nI (bitN (fun c => decide (0 < sF a c 4)) (c + 1)) from bit_or (by omega) (decide_eq_true h1)]
      refine w_iinc (v := nI (c + 1)) (ls' := [some (vR 1 k 0), some (vI (nI (bitN (fun c => decide (0 < sF a c 4)) (c + 1)))), some (vI (nI (c + 1))), some (vR 5 k c)]) dX1_heardBits_35 rfl (nI_1 _) rfl ?_
      refine w_goto (tgt := 4) dX1_heardBits_38 (by decide) ?_
      exact ih (c + 1) _ (by omega)

theorem c_heardBits {I : xF4 Int32} {L : xF4 Int64} {k : Nat} {a : aA} (hc : CourtIs I k a) (hw : WF a)  : Tri 2 109 m_X1_heardBits [vR 1 k 0] (rM I L) (pI (nI (heardN a)) I L) := by
  refine ⟨k_X1_heardBits, Nat.le_of_ble_eq_true rfl, ?_⟩
  show Wp _ _ _ 0 [some (vR 1 k 0), none, none, none] [] (rM I L) _
  refine w_iconst (v := 0) dX1_heardBits_0 (by decide) ?_
  refine w_istore_n (ls' := [some (vR 1 k 0), some (vI (0)), none, none]) dX1_heardBits_1 rfl ?_
  refine w_iconst (v := 0) dX1_heardBits_2 (by decide) ?_
  refine w_istore_n (ls' := [some (vR 1 k 0), some (vI (0)), some (vI (0)), none]) dX1_heardBits_3 rfl ?_
  exact l_heardBits hc hw (nC a) 0 _ (Nat.zero_add _)
