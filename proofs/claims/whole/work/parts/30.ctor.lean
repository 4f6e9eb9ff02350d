/-! the constructors (by wip/whole/gen/g30.py) -/
abbrev pN (n : Nat) (R : xF4 (Option xId)) (I : xF4 Int32) (L : xF4 Int64) : Option xV → xM → Prop := fun v M => v = none ∧ M = (n, (R, (I, L)))
theorem c_X4_init {n : Nat} {R : xF4 (Option xId)} {I : xF4 Int32} {L : xF4 Int64} (k j : Nat) : Tri 1 n m_X4_init [vR 3 k j] (n, (R, (I, L))) (pN n R I L) := by
  refine ⟨k_X4_init, Nat.le_of_ble_eq_true rfl, ?_⟩
  show Wp _ _ _ 0 [some (vR 3 k j)] [] (n, (R, (I, L))) _
  refine w_aload_n dX4_init_0 rfl ?_
  refine w_objInit (o := none) oi_X4_3 oi_ins oi_code (by decide) dX4_init_1 rfl ?_
  exact w_return dX4_init_4 rfl rfl (⟨rfl, rfl⟩)

theorem c_X8_init {n : Nat} {R : xF4 (Option xId)} {I : xF4 Int32} {L : xF4 Int64} (k j : Nat) : Tri 1 n m_X8_init [vR 5 k j] (n, (R, (I, L))) (pN n R I L) := by
  refine ⟨k_X8_init, Nat.le_of_ble_eq_true rfl, ?_⟩
  show Wp _ _ _ 0 [some (vR 5 k j)] [] (n, (R, (I, L))) _
  refine w_aload_n dX8_init_0 rfl ?_
  refine w_objInit (o := none) oi_X8_3 oi_ins oi_code (by decide) dX8_init_1 rfl ?_
  exact w_return dX8_init_4 rfl rfl (⟨rfl, rfl⟩)

theorem c_X7_init {n : Nat} {R : xF4 (Option xId)} {I : xF4 Int32} {L : xF4 Int64} (k j : Nat) : Tri 1 n m_X7_init [vR 7 k j] (n, (R, (I, L))) (pN n R I L) := by
  refine ⟨k_X7_init, Nat.le_of_ble_eq_true rfl, ?_⟩
  show Wp _ _ _ 0 [some (vR 7 k j)] [] (n, (R, (I, L))) _
  refine w_aload_n dX7_init_0 rfl ?_
  refine w_objInit (o := none) oi_X7_1 oi_ins oi_code (by decide) dX7_init_1 rfl ?_
  exact w_return dX7_init_4 rfl rfl (⟨rfl, rfl⟩)

theorem c_beginG {n : Nat} {R : xF4 (Option xId)} {I : xF4 Int32} {L : xF4 Int64} (k : Nat) : Tri 0 n m_X1_begin [vR 1 k 0] (n, (R, (I, L))) (pN n R (begI I k) L) := by
  refine ⟨k_X1_begin, Nat.le_of_ble_eq_true rfl, ?_⟩
  show Wp _ _ _ 0 [some (vR 1 k 0)] [] (n, (R, (I, L))) _
  refine w_aload_n dX1_begin_0 rfl ?_
  refine w_iconst (v := 0) dX1_begin_1 (by decide) ?_
  refine w_putI ff_X1_35 rfl rfl rfl rfl dX1_begin_2 ?_
  refine w_aload_n dX1_begin_5 rfl ?_
  refine w_iconst (v := 0) dX1_begin_6 (by decide) ?_
  refine w_putI ff_X1_39 rfl rfl rfl rfl dX1_begin_7 ?_
  refine w_aload_n dX1_begin_10 rfl ?_
  refine w_iconst (v := 0) dX1_begin_11 (by decide) ?_
  refine w_putI ff_X1_42 rfl rfl rfl rfl dX1_begin_12 ?_
  refine w_aload_n dX1_begin_15 rfl ?_
  refine w_iconst (v := 0) dX1_begin_16 (by decide) ?_
  refine w_putI ff_X1_45 rfl rfl rfl rfl dX1_begin_17 ?_
  refine w_aload_n dX1_begin_20 rfl ?_
  refine w_bipush (v := 20) dX1_begin_21 (by decide) ?_
  refine w_putI ff_X1_48 rfl rfl rfl rfl dX1_begin_23 ?_
  exact w_return dX1_begin_26 rfl rfl (⟨rfl, rfl⟩)

def ctR0 (R : xF4 (Option xId)) : xF4 (Option xId) := xup (xz (xup (xz (xup (xz (xup (xz (xup (xz (xup (xz (xup (xz (xup (xz (xup (xz (xup (xz (xup (xz (xup (xz (xup (xz (xup (xz (xup (xz (xup (xz (xup (xz (xup (xz R 2 0 0 none) 1 0 0 0 (some (2, 0, 0))) 3 0 0 none) 2 0 0 0 (some (3, 0, 0))) 3 0 1 none) 2 0 0 1 (some (3, 0, 1))) 3 0 2 none) 2 0 0 2 (some (3, 0, 2))) 3 0 3 none) 2 0 0 3 (some (3, 0, 3))) 4 0 0 none) 1 0 0 1 (some (4, 0, 0))) 5 0 0 none) 4 0 0 0 (some (5, 0, 0))) 5 0 1 none) 4 0 0 1 (some (5, 0, 1))) 5 0 2 none) 4 0 0 2 (some (5, 0, 2))) 5 0 3 none) 4 0 0 3 (some (5, 0, 3))) 5 0 4 none) 4 0 0 4 (some (5, 0, 4))) 6 0 0 none) 1 0 0 2 (some (6, 0, 0))) 7 0 0 none) 6 0 0 0 (some (7, 0, 0))) 7 0 1 none) 6 0 0 1 (some (7, 0, 1))) 7 0 2 none) 6 0 0 2 (some (7, 0, 2))) 7 0 3 none) 6 0 0 3 (some (7, 0, 3))) 7 0 4 none) 6 0 0 4 (some (7, 0, 4))) 7 0 5 none) 6 0 0 5 (some (7, 0, 5))
def ctI0 (I : xF4 Int32) : xF4 Int32 := begI (xz (xz (xz (xz (xz (xz (xz (xz (xz (xz (xz (xz (xz (xz (xz (xz (xz (xz I 2 0 0 0) 3 0 0 0) 3 0 1 0) 3 0 2 0) 3 0 3 0) 4 0 0 0) 5 0 0 0) 5 0 1 0) 5 0 2 0) 5 0 3 0) 5 0 4 0) 6 0 0 0) 7 0 0 0) 7 0 1 0) 7 0 2 0) 7 0 3 0) 7 0 4 0) 7 0 5 0) 0
def ctL0 (L : xF4 Int64) : xF4 Int64 := xz (xz (xz (xz (xz (xz (xz (xz (xz (xz (xz (xz (xz (xz (xz (xz (xz (xz L 2 0 0 0) 3 0 0 0) 3 0 1 0) 3 0 2 0) 3 0 3 0) 4 0 0 0) 5 0 0 0) 5 0 1 0) 5 0 2 0) 5 0 3 0) 5 0 4 0) 6 0 0 0) 7 0 0 0) 7 0 1 0) 7 0 2 0) 7 0 3 0) 7 0 4 0) 7 0 5 0
theorem c_court_0 {R : xF4 (Option xId)} {I : xF4 Int32} {L : xF4 Int64} : Tri 2 20 m_X1_init [vR 1 0 0] (2, (R, (I, L))) (pN 20 (ctR0 R) (ctI0 I) (ctL0 L)) := by
  refine ⟨k_X1_init, Nat.le_of_ble_eq_true rfl, ?_⟩
  show Wp _ _ _ 0 [some (vR 1 0 0), none] [] (2, (R, (I, L))) _
  refine w_aload_n dX1_init_0 rfl ?_
  refine w_objInit (o := none) oi_X1_3 oi_ins oi_code (by decide) dX1_init_1 rfl ?_
  refine w_aload_n dX1_init_4 rfl ?_
  refine w_iconst (v := 4) dX1_init_5 (by decide) ?_
  refine w_newq (t := 2) (k := 0) (j := 0) (e := 3) rfl (by decide) (fun _ => rfl) (by decide +kernel) cl_X1_9 (by decide) (by decide) (Nat.le_of_ble_eq_true rfl) rfl (by decide) (by decide) dX1_init_6 ?_
  refine w_putR fp_X1_11 rfl rfl rfl (fun _ => rfl) (fun _ => rfl) dX1_init_9 ?_
  refine w_iconst (v := 0) dX1_init_12 (by decide) ?_
  refine w_istore_n (ls' := [some (vR 1 0 0), some (vI (0))]) dX1_init_13 rfl ?_
  refine w_iload_n dX1_init_14 rfl ?_
  refine w_aload_n dX1_init_15 rfl ?_
  refine w_getR (w := some (2, 0, 0)) ff_X1_11 rfl rfl dX1_init_16 (by simp [xup, xz]) ?_
  refine w_alen (v := 4) rfl rfl dX1_init_19 ?_
  refine w_icmp_ge (tgt := 42) dX1_init_20 (by decide) (fun h => absurd h (by decide)) (fun _ => ?_)
  refine w_aload_n dX1_init_23 rfl ?_
  refine w_getR (w := some (2, 0, 0)) ff_X1_11 rfl rfl dX1_init_24 (by simp [xup, xz]) ?_
  refine w_iload_n dX1_init_27 rfl ?_
  refine w_new (t := 3) (k := 0) (j := 0) nw_X1_9 rfl rfl (by decide) (by decide) dX1_init_28 ?_
  refine w_dup dX1_init_31 rfl ?_
  refine w_callIN (n1 := 4) (as := []) (st := [vR 3 0 0, vI (0), vR 2 0 0]) (Tri.mono (c_X4_init 0 0) (Nat.le_of_ble_eq_true rfl)) rfl rfl tg_X4_init ln_X1_17 in_X4_init rfl dX1_init_32 rfl (Nat.le_of_ble_eq_true rfl) (Nat.le_of_ble_eq_true rfl) (Nat.le_of_ble_eq_true rfl) ?_
  rintro _ _ ⟨rfl, rfl⟩ -
  refine w_aastore (e := 3) (a := 0) (cv := 4) (C := (RX4, TX4, xN 4)) rfl (by decide) (fun _ => rfl) rfl rfl (by unfold vp_in; decide) (by decide) dX1_init_35 ?_
  refine w_iinc (v := 1) (ls' := [some (vR 1 0 0), some (vI (1))]) dX1_init_36 rfl (by decide) rfl ?_
  refine w_goto (tgt := 14) dX1_init_39 (by decide) ?_
  refine w_iload_n dX1_init_14 rfl ?_
  refine w_aload_n dX1_init_15 rfl ?_
  refine w_getR (w := some (2, 0, 0)) ff_X1_11 rfl rfl dX1_init_16 (by simp [xup, xz]) ?_
  refine w_alen (v := 4) rfl rfl dX1_init_19 ?_
  refine w_icmp_ge (tgt := 42) dX1_init_20 (by decide) (fun h => absurd h (by decide)) (fun _ => ?_)
  refine w_aload_n dX1_init_23 rfl ?_
  refine w_getR (w := some (2, 0, 0)) ff_X1_11 rfl rfl dX1_init_24 (by simp [xup, xz]) ?_
  refine w_iload_n dX1_init_27 rfl ?_
  refine w_new (t := 3) (k := 0) (j := 1) nw_X1_9 rfl rfl (by decide) (by decide) dX1_init_28 ?_
  refine w_dup dX1_init_31 rfl ?_
  refine w_callIN (n1 := 5) (as := []) (st := [vR 3 0 1, vI (1), vR 2 0 0]) (Tri.mono (c_X4_init 0 1) (Nat.le_of_ble_eq_true rfl)) rfl rfl tg_X4_init ln_X1_17 in_X4_init rfl dX1_init_32 rfl (Nat.le_of_ble_eq_true rfl) (Nat.le_of_ble_eq_true rfl) (Nat.le_of_ble_eq_true rfl) ?_
  rintro _ _ ⟨rfl, rfl⟩ -
  refine w_aastore (e := 3) (a := 1) (cv := 4) (C := (RX4, TX4, xN 4)) rfl (by decide) (fun _ => rfl) rfl rfl (by unfold vp_in; decide) (by decide) dX1_init_35 ?_
  refine w_iinc (v := 2) (ls' := [some (vR 1 0 0), some (vI (2))]) dX1_init_36 rfl (by decide) rfl ?_
  refine w_goto (tgt := 14) dX1_init_39 (by decide) ?_
  refine w_iload_n dX1_init_14 rfl ?_
  refine w_aload_n dX1_init_15 rfl ?_
  refine w_getR (w := some (2, 0, 0)) ff_X1_11 rfl rfl dX1_init_16 (by simp [xup, xz]) ?_
  refine w_alen (v := 4) rfl rfl dX1_init_19 ?_
  refine w_icmp_ge (tgt := 42) dX1_init_20 (by decide) (fun h => absurd h (by decide)) (fun _ => ?_)
  refine w_aload_n dX1_init_23 rfl ?_
  refine w_getR (w := some (2, 0, 0)) ff_X1_11 rfl rfl dX1_init_24 (by simp [xup, xz]) ?_
  refine w_iload_n dX1_init_27 rfl ?_
  refine w_new (t := 3) (k := 0) (j := 2) nw_X1_9 rfl rfl (by decide) (by decide) dX1_init_28 ?_
  refine w_dup dX1_init_31 rfl ?_
  refine w_callIN (n1 := 6) (as := []) (st := [vR 3 0 2, vI (2), vR 2 0 0]) (Tri.mono (c_X4_init 0 2) (Nat.le_of_ble_eq_true rfl)) rfl rfl tg_X4_init ln_X1_17 in_X4_init rfl dX1_init_32 rfl (Nat.le_of_ble_eq_true rfl) (Nat.le_of_ble_eq_true rfl) (Nat.le_of_ble_eq_true rfl) ?_
  rintro _ _ ⟨rfl, rfl⟩ -
  refine w_aastore (e := 3) (a := 2) (cv := 4) (C := (RX4, TX4, xN 4)) rfl (by decide) (fun _ => rfl) rfl rfl (by unfold vp_in; decide) (by decide) dX1_init_35 ?_
  refine w_iinc (v := 3) (ls' := [some (vR 1 0 0), some (vI (3))]) dX1_init_36 rfl (by decide) rfl ?_
  refine w_goto (tgt := 14) dX1_init_39 (by decide) ?_
  refine w_iload_n dX1_init_14 rfl ?_
  refine w_aload_n dX1_init_15 rfl ?_
  refine w_getR (w := some (2, 0, 0)) ff_X1_11 rfl rfl dX1_init_16 (by simp [xup, xz]) ?_
  refine w_alen (v := 4) rfl rfl dX1_init_19 ?_
  refine w_icmp_ge (tgt := 42) dX1_init_20 (by decide) (fun h => absurd h (by decide)) (fun _ => ?_)
  refine w_aload_n dX1_init_23 rfl ?_
  refine w_getR (w := some (2, 0, 0)) ff_X1_11 rfl rfl dX1_init_24 (by simp [xup, xz]) ?_
  refine w_iload_n dX1_init_27 rfl ?_
  refine w_new (t := 3) (k := 0) (j := 3) nw_X1_9 rfl rfl (by decide) (by decide) dX1_init_28 ?_
  refine w_dup dX1_init_31 rfl ?_
  refine w_callIN (n1 := 7) (as := []) (st := [vR 3 0 3, vI (3), vR 2 0 0]) (Tri.mono (c_X4_init 0 3) (Nat.le_of_ble_eq_true rfl)) rfl rfl tg_X4_init ln_X1_17 in_X4_init rfl dX1_init_32 rfl (Nat.le_of_ble_eq_true rfl) (Nat.le_of_ble_eq_true rfl) (Nat.le_of_ble_eq_true rfl) ?_
  rintro _ _ ⟨rfl, rfl⟩ -
  refine w_aastore (e := 3) (a := 3) (cv := 4) (C := (RX4, TX4, xN 4)) rfl (by decide) (fun _ => rfl) rfl rfl (by unfold vp_in; decide) (by decide) dX1_init_35 ?_
  refine w_iinc (v := 4) (ls' := [some (vR 1 0 0), some (vI (4))]) dX1_init_36 rfl (by decide) rfl ?_
  refine w_goto (tgt := 14) dX1_init_39 (by decide) ?_
  refine w_iload_n dX1_init_14 rfl ?_
  refine w_aload_n dX1_init_15 rfl ?_
  refine w_getR (w := some (2, 0, 0)) ff_X1_11 rfl rfl dX1_init_16 (by simp [xup, xz]) ?_
  refine w_alen (v := 4) rfl rfl dX1_init_19 ?_
  refine w_icmp_ge (tgt := 42) dX1_init_20 (by decide) (fun _ => ?_) (fun h => absurd (by decide) h)
  refine w_aload_n dX1_init_42 rfl ?_
  refine w_iconst (v := 5) dX1_init_43 (by decide) ?_
  refine w_newq (t := 4) (k := 0) (j := 0) (e := 4) rfl (by decide) (fun _ => rfl) (by decide +kernel) cl_X1_18 (by decide) (by decide) (Nat.le_of_ble_eq_true rfl) rfl (by decide) (by decide) dX1_init_44 ?_
  refine w_putR fp_X1_20 rfl rfl rfl (fun _ => rfl) (fun _ => rfl) dX1_init_47 ?_
  refine w_iconst (v := 0) dX1_init_50 (by decide) ?_
  refine w_istore_n (ls' := [some (vR 1 0 0), some (vI (0))]) dX1_init_51 rfl ?_
  refine w_iload_n dX1_init_52 rfl ?_
  refine w_aload_n dX1_init_53 rfl ?_
  refine w_getR (w := some (4, 0, 0)) ff_X1_20 rfl rfl dX1_init_54 (by simp [xup, xz]) ?_
  refine w_alen (v := 5) rfl rfl dX1_init_57 ?_
  refine w_icmp_ge (tgt := 80) dX1_init_58 (by decide) (fun h => absurd h (by decide)) (fun _ => ?_)
  refine w_aload_n dX1_init_61 rfl ?_
  refine w_getR (w := some (4, 0, 0)) ff_X1_20 rfl rfl dX1_init_62 (by simp [xup, xz]) ?_
  refine w_iload_n dX1_init_65 rfl ?_
  refine w_new (t := 5) (k := 0) (j := 0) nw_X1_18 rfl rfl (by decide) (by decide) dX1_init_66 ?_
  refine w_dup dX1_init_69 rfl ?_
  refine w_callIN (n1 := 9) (as := []) (st := [vR 5 0 0, vI (0), vR 4 0 0]) (Tri.mono (c_X8_init 0 0) (Nat.le_of_ble_eq_true rfl)) rfl rfl tg_X8_init ln_X1_24 in_X8_init rfl dX1_init_70 rfl (Nat.le_of_ble_eq_true rfl) (Nat.le_of_ble_eq_true rfl) (Nat.le_of_ble_eq_true rfl) ?_
  rintro _ _ ⟨rfl, rfl⟩ -
  refine w_aastore (e := 4) (a := 0) (cv := 8) (C := (RX8, TX8, xN 8)) rfl (by decide) (fun _ => rfl) rfl rfl (by unfold vp_in; decide) (by decide) dX1_init_73 ?_
  refine w_iinc (v := 1) (ls' := [some (vR 1 0 0), some (vI (1))]) dX1_init_74 rfl (by decide) rfl ?_
  refine w_goto (tgt := 52) dX1_init_77 (by decide) ?_
  refine w_iload_n dX1_init_52 rfl ?_
  refine w_aload_n dX1_init_53 rfl ?_
  refine w_getR (w := some (4, 0, 0)) ff_X1_20 rfl rfl dX1_init_54 (by simp [xup, xz]) ?_
  refine w_alen (v := 5) rfl rfl dX1_init_57 ?_
  refine w_icmp_ge (tgt := 80) dX1_init_58 (by decide) (fun h => absurd h (by decide)) (fun _ => ?_)
  refine w_aload_n dX1_init_61 rfl ?_
  refine w_getR (w := some (4, 0, 0)) ff_X1_20 rfl rfl dX1_init_62 (by simp [xup, xz]) ?_
  refine w_iload_n dX1_init_65 rfl ?_
  refine w_new (t := 5) (k := 0) (j := 1) nw_X1_18 rfl rfl (by decide) (by decide) dX1_init_66 ?_
  refine w_dup dX1_init_69 rfl ?_
  refine w_callIN (n1 := 10) (as := []) (st := [vR 5 0 1, vI (1), vR 4 0 0]) (Tri.mono (c_X8_init 0 1) (Nat.le_of_ble_eq_true rfl)) rfl rfl tg_X8_init ln_X1_24 in_X8_init rfl dX1_init_70 rfl (Nat.le_of_ble_eq_true rfl) (Nat.le_of_ble_eq_true rfl) (Nat.le_of_ble_eq_true rfl) ?_
  rintro _ _ ⟨rfl, rfl⟩ -
  refine w_aastore (e := 4) (a := 1) (cv := 8) (C := (RX8, TX8, xN 8)) rfl (by decide) (fun _ => rfl) rfl rfl (by unfold vp_in; decide) (by decide) dX1_init_73 ?_
  refine w_iinc (v := 2) (ls' := [some (vR 1 0 0), some (vI (2))]) dX1_init_74 rfl (by decide) rfl ?_
  refine w_goto (tgt := 52) dX1_init_77 (by decide) ?_
  refine w_iload_n dX1_init_52 rfl ?_
  refine w_aload_n dX1_init_53 rfl ?_
  refine w_getR (w := some (4, 0, 0)) ff_X1_20 rfl rfl dX1_init_54 (by simp [xup, xz]) ?_
  refine w_alen (v := 5) rfl rfl dX1_init_57 ?_
  refine w_icmp_ge (tgt := 80) dX1_init_58 (by decide) (fun h => absurd h (by decide)) (fun _ => ?_)
  refine w_aload_n dX1_init_61 rfl ?_
  refine w_getR (w := some (4, 0, 0)) ff_X1_20 rfl rfl dX1_init_62 (by simp [xup, xz]) ?_
  refine w_iload_n dX1_init_65 rfl ?_
  refine w_new (t := 5) (k := 0) (j := 2) nw_X1_18 rfl rfl (by decide) (by decide) dX1_init_66 ?_
  refine w_dup dX1_init_69 rfl ?_
  refine w_callIN (n1 := 11) (as := []) (st := [vR 5 0 2, vI (2), vR 4 0 0]) (Tri.mono (c_X8_init 0 2) (Nat.le_of_ble_eq_true rfl)) rfl rfl tg_X8_init ln_X1_24 in_X8_init rfl dX1_init_70 rfl (Nat.le_of_ble_eq_true rfl) (Nat.le_of_ble_eq_true rfl) (Nat.le_of_ble_eq_true rfl) ?_
  rintro _ _ ⟨rfl, rfl⟩ -
  refine w_aastore (e := 4) (a := 2) (cv := 8) (C := (RX8, TX8, xN 8)) rfl (by decide) (fun _ => rfl) rfl rfl (by unfold vp_in; decide) (by decide) dX1_init_73 ?_
  refine w_iinc (v := 3) (ls' := [some (vR 1 0 0), some (vI (3))]) dX1_init_74 rfl (by decide) rfl ?_
  refine w_goto (tgt := 52) dX1_init_77 (by decide) ?_
  refine w_iload_n dX1_init_52 rfl ?_
  refine w_aload_n dX1_init_53 rfl ?_
  refine w_getR (w := some (4, 0, 0)) ff_X1_20 rfl rfl dX1_init_54 (by simp [xup, xz]) ?_
  refine w_alen (v := 5) rfl rfl dX1_init_57 ?_
  refine w_icmp_ge (tgt := 80) dX1_init_58 (by decide) (fun h => absurd h (by decide)) (fun _ => ?_)
  refine w_aload_n dX1_init_61 rfl ?_
  refine w_getR (w := some (4, 0, 0)) ff_X1_20 rfl rfl dX1_init_62 (by simp [xup, xz]) ?_
  refine w_iload_n dX1_init_65 rfl ?_
  refine w_new (t := 5) (k := 0) (j := 3) nw_X1_18 rfl rfl (by decide) (by decide) dX1_init_66 ?_
  refine w_dup dX1_init_69 rfl ?_
  refine w_callIN (n1 := 12) (as := []) (st := [vR 5 0 3, vI (3), vR 4 0 0]) (Tri.mono (c_X8_init 0 3) (Nat.le_of_ble_eq_true rfl)) rfl rfl tg_X8_init ln_X1_24 in_X8_init rfl dX1_init_70 rfl (Nat.le_of_ble_eq_true rfl) (Nat.le_of_ble_eq_true rfl) (Nat.le_of_ble_eq_true rfl) ?_
  rintro _ _ ⟨rfl, rfl⟩ -
  refine w_aastore (e := 4) (a := 3) (cv := 8) (C := (RX8, TX8, xN 8)) rfl (by decide) (fun _ => rfl) rfl rfl (by unfold vp_in; decide) (by decide) dX1_init_73 ?_
  refine w_iinc (v := 4) (ls' := [some (vR 1 0 0), some (vI (4))]) dX1_init_74 rfl (by decide) rfl ?_
  refine w_goto (tgt := 52) dX1_init_77 (by decide) ?_
  refine w_iload_n dX1_init_52 rfl ?_
  refine w_aload_n dX1_init_53 rfl ?_
  refine w_getR (w := some (4, 0, 0)) ff_X1_20 rfl rfl dX1_init_54 (by simp [xup, xz]) ?_
  refine w_alen (v := 5) rfl rfl dX1_init_57 ?_
  refine w_icmp_ge (tgt := 80) dX1_init_58 (by decide) (fun h => absurd h (by decide)) (fun _ => ?_)
  refine w_aload_n dX1_init_61 rfl ?_
  refine w_getR (w := some (4, 0, 0)) ff_X1_20 rfl rfl dX1_init_62 (by simp [xup, xz]) ?_
  refine w_iload_n dX1_init_65 rfl ?_
  refine w_new (t := 5) (k := 0) (j := 4) nw_X1_18 rfl rfl (by decide) (by decide) dX1_init_66 ?_
  refine w_dup dX1_init_69 rfl ?_
  refine w_callIN (n1 := 13) (as := []) (st := [vR 5 0 4, vI (4), vR 4 0 0]) (Tri.mono (c_X8_init 0 4) (Nat.le_of_ble_eq_true rfl)) rfl rfl tg_X8_init ln_X1_24 in_X8_init rfl dX1_init_70 rfl (Nat.le_of_ble_eq_true rfl) (Nat.le_of_ble_eq_true rfl) (Nat.le_of_ble_eq_true rfl) ?_
  rintro _ _ ⟨rfl, rfl⟩ -
  refine w_aastore (e := 4) (a := 4) (cv := 8) (C := (RX8, TX8, xN 8)) rfl (by decide) (fun _ => rfl) rfl rfl (by unfold vp_in; decide) (by decide) dX1_init_73 ?_
  refine w_iinc (v := 5) (ls' := [some (vR 1 0 0), some (vI (5))]) dX1_init_74 rfl (by decide) rfl ?_
  refine w_goto (tgt := 52) dX1_init_77 (by decide) ?_
  refine w_iload_n dX1_init_52 rfl ?_
  refine w_aload_n dX1_init_53 rfl ?_
  refine w_getR (w := some (4, 0, 0)) ff_X1_20 rfl rfl dX1_init_54 (by simp [xup, xz]) ?_
  refine w_alen (v := 5) rfl rfl dX1_init_57 ?_
  refine w_icmp_ge (tgt := 80) dX1_init_58 (by decide) (fun _ => ?_) (fun h => absurd (by decide) h)
  refine w_aload_n dX1_init_80 rfl ?_
  refine w_bipush (v := 6) dX1_init_81 (by decide) ?_
  refine w_newq (t := 6) (k := 0) (j := 0) (e := 5) rfl (by decide) (fun _ => rfl) (by decide +kernel) cl_X1_25 (by decide) (by decide) (Nat.le_of_ble_eq_true rfl) rfl (by decide) (by decide) dX1_init_83 ?_
  refine w_putR fp_X1_27 rfl rfl rfl (fun _ => rfl) (fun _ => rfl) dX1_init_86 ?_
  refine w_iconst (v := 0) dX1_init_89 (by decide) ?_
  refine w_istore_n (ls' := [some (vR 1 0 0), some (vI (0))]) dX1_init_90 rfl ?_
  refine w_iload_n dX1_init_91 rfl ?_
  refine w_aload_n dX1_init_92 rfl ?_
  refine w_getR (w := some (6, 0, 0)) ff_X1_27 rfl rfl dX1_init_93 (by simp [xup, xz]) ?_
  refine w_alen (v := 6) rfl rfl dX1_init_96 ?_
  refine w_icmp_ge (tgt := 119) dX1_init_97 (by decide) (fun h => absurd h (by decide)) (fun _ => ?_)
  refine w_aload_n dX1_init_100 rfl ?_
  refine w_getR (w := some (6, 0, 0)) ff_X1_27 rfl rfl dX1_init_101 (by simp [xup, xz]) ?_
  refine w_iload_n dX1_init_104 rfl ?_
  refine w_new (t := 7) (k := 0) (j := 0) nw_X1_25 rfl rfl (by decide) (by decide) dX1_init_105 ?_
  refine w_dup dX1_init_108 rfl ?_
  refine w_callIN (n1 := 15) (as := []) (st := [vR 7 0 0, vI (0), vR 6 0 0]) (Tri.mono (c_X7_init 0 0) (Nat.le_of_ble_eq_true rfl)) rfl rfl tg_X7_init ln_X1_31 in_X7_init rfl dX1_init_109 rfl (Nat.le_of_ble_eq_true rfl) (Nat.le_of_ble_eq_true rfl) (Nat.le_of_ble_eq_true rfl) ?_
  rintro _ _ ⟨rfl, rfl⟩ -
  refine w_aastore (e := 5) (a := 0) (cv := 7) (C := (RX7, TX7, xN 7)) rfl (by decide) (fun _ => rfl) rfl rfl (by unfold vp_in; decide) (by decide) dX1_init_112 ?_
  refine w_iinc (v := 1) (ls' := [some (vR 1 0 0), some (vI (1))]) dX1_init_113 rfl (by decide) rfl ?_
  refine w_goto (tgt := 91) dX1_init_116 (by decide) ?_
  refine w_iload_n dX1_init_91 rfl ?_
  refine w_aload_n dX1_init_92 rfl ?_
  refine w_getR (w := some (6, 0, 0)) ff_X1_27 rfl rfl dX1_init_93 (by simp [xup, xz]) ?_
  refine w_alen (v := 6) rfl rfl dX1_init_96 ?_
  refine w_icmp_ge (tgt := 119) dX1_init_97 (by decide) (fun h => absurd h (by decide)) (fun _ => ?_)
  refine w_aload_n dX1_init_100 rfl ?_
  refine w_getR (w := some (6, 0, 0)) ff_X1_27 rfl rfl dX1_init_101 (by simp [xup, xz]) ?_
  refine w_iload_n dX1_init_104 rfl ?_
  refine w_new (t := 7) (k := 0) (j := 1) nw_X1_25 rfl rfl (by decide) (by decide) dX1_init_105 ?_
  refine w_dup dX1_init_108 rfl ?_
  refine w_callIN (n1 := 16) (as := []) (st := [vR 7 0 1, vI (1), vR 6 0 0]) (Tri.mono (c_X7_init 0 1) (Nat.le_of_ble_eq_true rfl)) rfl rfl tg_X7_init ln_X1_31 in_X7_init rfl dX1_init_109 rfl (Nat.le_of_ble_eq_true rfl) (Nat.le_of_ble_eq_true rfl) (Nat.le_of_ble_eq_true rfl) ?_
  rintro _ _ ⟨rfl, rfl⟩ -
  refine w_aastore (e := 5) (a := 1) (cv := 7) (C := (RX7, TX7, xN 7)) rfl (by decide) (fun _ => rfl) rfl rfl (by unfold vp_in; decide) (by decide) dX1_init_112 ?_
  refine w_iinc (v := 2) (ls' := [some (vR 1 0 0), some (vI (2))]) dX1_init_113 rfl (by decide) rfl ?_
  refine w_goto (tgt := 91) dX1_init_116 (by decide) ?_
  refine w_iload_n dX1_init_91 rfl ?_
  refine w_aload_n dX1_init_92 rfl ?_
  refine w_getR (w := some (6, 0, 0)) ff_X1_27 rfl rfl dX1_init_93 (by simp [xup, xz]) ?_
  refine w_alen (v := 6) rfl rfl dX1_init_96 ?_
  refine w_icmp_ge (tgt := 119) dX1_init_97 (by decide) (fun h => absurd h (by decide)) (fun _ => ?_)
  refine w_aload_n dX1_init_100 rfl ?_
  refine w_getR (w := some (6, 0, 0)) ff_X1_27 rfl rfl dX1_init_101 (by simp [xup, xz]) ?_
  refine w_iload_n dX1_init_104 rfl ?_
  refine w_new (t := 7) (k := 0) (j := 2) nw_X1_25 rfl rfl (by decide) (by decide) dX1_init_105 ?_
  refine w_dup dX1_init_108 rfl ?_
  refine w_callIN (n1 := 17) (as := []) (st := [vR 7 0 2, vI (2), vR 6 0 0]) (Tri.mono (c_X7_init 0 2) (Nat.le_of_ble_eq_true rfl)) rfl rfl tg_X7_init ln_X1_31 in_X7_init rfl dX1_init_109 rfl (Nat.le_of_ble_eq_true rfl) (Nat.le_of_ble_eq_true rfl) (Nat.le_of_ble_eq_true rfl) ?_
  rintro _ _ ⟨rfl, rfl⟩ -
  refine w_aastore (e := 5) (a := 2) (cv := 7) (C := (RX7, TX7, xN 7)) rfl (by decide) (fun _ => rfl) rfl rfl (by unfold vp_in; decide) (by decide) dX1_init_112 ?_
  refine w_iinc (v := 3) (ls' := [some (vR 1 0 0), some (vI (3))]) dX1_init_113 rfl (by decide) rfl ?_
  refine w_goto (tgt := 91) dX1_init_116 (by decide) ?_
  refine w_iload_n dX1_init_91 rfl ?_
  refine w_aload_n dX1_init_92 rfl ?_
  refine w_getR (w := some (6, 0, 0)) ff_X1_27 rfl rfl dX1_init_93 (by simp [xup, xz]) ?_
  refine w_alen (v := 6) rfl rfl dX1_init_96 ?_
  refine w_icmp_ge (tgt := 119) dX1_init_97 (by decide) (fun h => absurd h (by decide)) (fun _ => ?_)
  refine w_aload_n dX1_init_100 rfl ?_
  refine w_getR (w := some (6, 0, 0)) ff_X1_27 rfl rfl dX1_init_101 (by simp [xup, xz]) ?_
  refine w_iload_n dX1_init_104 rfl ?_
  refine w_new (t := 7) (k := 0) (j := 3) nw_X1_25 rfl rfl (by decide) (by decide) dX1_init_105 ?_
  refine w_dup dX1_init_108 rfl ?_
  refine w_callIN (n1 := 18) (as := []) (st := [vR 7 0 3, vI (3), vR 6 0 0]) (Tri.mono (c_X7_init 0 3) (Nat.le_of_ble_eq_true rfl)) rfl rfl tg_X7_init ln_X1_31 in_X7_init rfl dX1_init_109 rfl (Nat.le_of_ble_eq_true rfl) (Nat.le_of_ble_eq_true rfl) (Nat.le_of_ble_eq_true rfl) ?_
  rintro _ _ ⟨rfl, rfl⟩ -
  refine w_aastore (e := 5) (a := 3) (cv := 7) (C := (RX7, TX7, xN 7)) rfl (by decide) (fun _ => rfl) rfl rfl (by unfold vp_in; decide) (by decide) dX1_init_112 ?_
  refine w_iinc (v := 4) (ls' := [some (vR 1 0 0), some (vI (4))]) dX1_init_113 rfl (by decide) rfl ?_
  refine w_goto (tgt := 91) dX1_init_116 (by decide) ?_
  refine w_iload_n dX1_init_91 rfl ?_
  refine w_aload_n dX1_init_92 rfl ?_
  refine w_getR (w := some (6, 0, 0)) ff_X1_27 rfl rfl dX1_init_93 (by simp [xup, xz]) ?_
  refine w_alen (v := 6) rfl rfl dX1_init_96 ?_
  refine w_icmp_ge (tgt := 119) dX1_init_97 (by decide) (fun h => absurd h (by decide)) (fun _ => ?_)
  refine w_aload_n dX1_init_100 rfl ?_
  refine w_getR (w := some (6, 0, 0)) ff_X1_27 rfl rfl dX1_init_101 (by simp [xup, xz]) ?_
  refine w_iload_n dX1_init_104 rfl ?_
  refine w_new (t := 7) (k := 0) (j := 4) nw_X1_25 rfl rfl (by decide) (by decide) dX1_init_105 ?_
  refine w_dup dX1_init_108 rfl ?_
  refine w_callIN (n1 := 19) (as := []) (st := [vR 7 0 4, vI (4), vR 6 0 0]) (Tri.mono (c_X7_init 0 4) (Nat.le_of_ble_eq_true rfl)) rfl rfl tg_X7_init ln_X1_31 in_X7_init rfl dX1_init_109 rfl (Nat.le_of_ble_eq_true rfl) (Nat.le_of_ble_eq_true rfl) (Nat.le_of_ble_eq_true rfl) ?_
  rintro _ _ ⟨rfl, rfl⟩ -
  refine w_aastore (e := 5) (a := 4) (cv := 7) (C := (RX7, TX7, xN 7)) rfl (by decide) (fun _ => rfl) rfl rfl (by unfold vp_in; decide) (by decide) dX1_init_112 ?_
  refine w_iinc (v := 5) (ls' := [some (vR 1 0 0), some (vI (5))]) dX1_init_113 rfl (by decide) rfl ?_
  refine w_goto (tgt := 91) dX1_init_116 (by decide) ?_
  refine w_iload_n dX1_init_91 rfl ?_
  refine w_aload_n dX1_init_92 rfl ?_
  refine w_getR (w := some (6, 0, 0)) ff_X1_27 rfl rfl dX1_init_93 (by simp [xup, xz]) ?_
  refine w_alen (v := 6) rfl rfl dX1_init_96 ?_
  refine w_icmp_ge (tgt := 119) dX1_init_97 (by decide) (fun h => absurd h (by decide)) (fun _ => ?_)
  refine w_aload_n dX1_init_100 rfl ?_
  refine w_getR (w := some (6, 0, 0)) ff_X1_27 rfl rfl dX1_init_101 (by simp [xup, xz]) ?_
  refine w_iload_n dX1_init_104 rfl ?_
  refine w_new (t := 7) (k := 0) (j := 5) nw_X1_25 rfl rfl (by decide) (by decide) dX1_init_105 ?_
  refine w_dup dX1_init_108 rfl ?_
  refine w_callIN (n1 := 20) (as := []) (st := [vR 7 0 5, vI (5), vR 6 0 0]) (Tri.mono (c_X7_init 0 5) (Nat.le_of_ble_eq_true rfl)) rfl rfl tg_X7_init ln_X1_31 in_X7_init rfl dX1_init_109 rfl (Nat.le_of_ble_eq_true rfl) (Nat.le_of_ble_eq_true rfl) (Nat.le_of_ble_eq_true rfl) ?_
  rintro _ _ ⟨rfl, rfl⟩ -
  refine w_aastore (e := 5) (a := 5) (cv := 7) (C := (RX7, TX7, xN 7)) rfl (by decide) (fun _ => rfl) rfl rfl (by unfold vp_in; decide) (by decide) dX1_init_112 ?_
  refine w_iinc (v := 6) (ls' := [some (vR 1 0 0), some (vI (6))]) dX1_init_113 rfl (by decide) rfl ?_
  refine w_goto (tgt := 91) dX1_init_116 (by decide) ?_
  refine w_iload_n dX1_init_91 rfl ?_
  refine w_aload_n dX1_init_92 rfl ?_
  refine w_getR (w := some (6, 0, 0)) ff_X1_27 rfl rfl dX1_init_93 (by simp [xup, xz]) ?_
  refine w_alen (v := 6) rfl rfl dX1_init_96 ?_
  refine w_icmp_ge (tgt := 119) dX1_init_97 (by decide) (fun _ => ?_) (fun h => absurd (by decide) h)
  refine w_aload_n dX1_init_119 rfl ?_
  refine w_callV (as := []) (st := []) (Tri.mono (c_beginG 0) (Nat.le_of_ble_eq_true rfl)) rfl rfl tg_X1_begin lk_X1_32 in_X1_begin se_X1_begin rfl dX1_init_120 rfl (Nat.le_of_ble_eq_true rfl) (Nat.le_refl _) (Nat.le_refl _) ?_
  rintro _ _ ⟨rfl, rfl⟩ -
  exact w_return dX1_init_123 rfl rfl (⟨rfl, rfl⟩)

def ctR1 (R : xF4 (Option xId)) : xF4 (Option xId) := xup (xz (xup (xz (xup (xz (xup (xz (xup (xz (xup (xz (xup (xz (xup (xz (xup (xz (xup (xz (xup (xz (xup (xz (xup (xz (xup (xz (xup (xz (xup (xz (xup (xz (xup (xz R 2 1 0 none) 1 1 0 0 (some (2, 1, 0))) 3 1 0 none) 2 1 0 0 (some (3, 1, 0))) 3 1 1 none) 2 1 0 1 (some (3, 1, 1))) 3 1 2 none) 2 1 0 2 (some (3, 1, 2))) 3 1 3 none) 2 1 0 3 (some (3, 1, 3))) 4 1 0 none) 1 1 0 1 (some (4, 1, 0))) 5 1 0 none) 4 1 0 0 (some (5, 1, 0))) 5 1 1 none) 4 1 0 1 (some (5, 1, 1))) 5 1 2 none) 4 1 0 2 (some (5, 1, 2))) 5 1 3 none) 4 1 0 3 (some (5, 1, 3))) 5 1 4 none) 4 1 0 4 (some (5, 1, 4))) 6 1 0 none) 1 1 0 2 (some (6, 1, 0))) 7 1 0 none) 6 1 0 0 (some (7, 1, 0))) 7 1 1 none) 6 1 0 1 (some (7, 1, 1))) 7 1 2 none) 6 1 0 2 (some (7, 1, 2))) 7 1 3 none) 6 1 0 3 (some (7, 1, 3))) 7 1 4 none) 6 1 0 4 (some (7, 1, 4))) 7 1 5 none) 6 1 0 5 (some (7, 1, 5))
def ctI1 (I : xF4 Int32) : xF4 Int32 := begI (xz (xz (xz (xz (xz (xz (xz (xz (xz (xz (xz (xz (xz (xz (xz (xz (xz (xz I 2 1 0 0) 3 1 0 0) 3 1 1 0) 3 1 2 0) 3 1 3 0) 4 1 0 0) 5 1 0 0) 5 1 1 0) 5 1 2 0) 5 1 3 0) 5 1 4 0) 6 1 0 0) 7 1 0 0) 7 1 1 0) 7 1 2 0) 7 1 3 0) 7 1 4 0) 7 1 5 0) 1
def ctL1 (L : xF4 Int64) : xF4 Int64 := xz (xz (xz (xz (xz (xz (xz (xz (xz (xz (xz (xz (xz (xz (xz (xz (xz (xz L 2 1 0 0) 3 1 0 0) 3 1 1 0) 3 1 2 0) 3 1 3 0) 4 1 0 0) 5 1 0 0) 5 1 1 0) 5 1 2 0) 5 1 3 0) 5 1 4 0) 6 1 0 0) 7 1 0 0) 7 1 1 0) 7 1 2 0) 7 1 3 0) 7 1 4 0) 7 1 5 0
theorem c_court_1 {R : xF4 (Option xId)} {I : xF4 Int32} {L : xF4 Int64} : Tri 2 39 m_X1_init [vR 1 1 0] (21, (R, (I, L))) (pN 39 (ctR1 R) (ctI1 I) (ctL1 L)) := by
  refine ⟨k_X1_init, Nat.le_of_ble_eq_true rfl, ?_⟩
  show Wp _ _ _ 0 [some (vR 1 1 0), none] [] (21, (R, (I, L))) _
  refine w_aload_n dX1_init_0 rfl ?_
  refine w_objInit (o := none) oi_X1_3 oi_ins oi_code (by decide) dX1_init_1 rfl ?_
  refine w_aload_n dX1_init_4 rfl ?_
  refine w_iconst (v := 4) dX1_init_5 (by decide) ?_
  refine w_newq (t := 2) (k := 1) (j := 0) (e := 3) rfl (by decide) (fun _ => rfl) (by decide +kernel) cl_X1_9 (by decide) (by decide) (Nat.le_of_ble_eq_true rfl) rfl (by decide) (by decide) dX1_init_6 ?_
  refine w_putR fp_X1_11 rfl rfl rfl (fun _ => rfl) (fun _ => rfl) dX1_init_9 ?_
  refine w_iconst (v := 0) dX1_init_12 (by decide) ?_
  refine w_istore_n (ls' := [some (vR 1 1 0), some (vI (0))]) dX1_init_13 rfl ?_
  refine w_iload_n dX1_init_14 rfl ?_
  refine w_aload_n dX1_init_15 rfl ?_
  refine w_getR (w := some (2, 1, 0)) ff_X1_11 rfl rfl dX1_init_16 (by simp [xup, xz]) ?_
  refine w_alen (v := 4) rfl rfl dX1_init_19 ?_
  refine w_icmp_ge (tgt := 42) dX1_init_20 (by decide) (fun h => absurd h (by decide)) (fun _ => ?_)
  refine w_aload_n dX1_init_23 rfl ?_
  refine w_getR (w := some (2, 1, 0)) ff_X1_11 rfl rfl dX1_init_24 (by simp [xup, xz]) ?_
  refine w_iload_n dX1_init_27 rfl ?_
  refine w_new (t := 3) (k := 1) (j := 0) nw_X1_9 rfl rfl (by decide) (by decide) dX1_init_28 ?_
  refine w_dup dX1_init_31 rfl ?_
  refine w_callIN (n1 := 23) (as := []) (st := [vR 3 1 0, vI (0), vR 2 1 0]) (Tri.mono (c_X4_init 1 0) (Nat.le_of_ble_eq_true rfl)) rfl rfl tg_X4_init ln_X1_17 in_X4_init rfl dX1_init_32 rfl (Nat.le_of_ble_eq_true rfl) (Nat.le_of_ble_eq_true rfl) (Nat.le_of_ble_eq_true rfl) ?_
  rintro _ _ ⟨rfl, rfl⟩ -
  refine w_aastore (e := 3) (a := 0) (cv := 4) (C := (RX4, TX4, xN 4)) rfl (by decide) (fun _ => rfl) rfl rfl (by unfold vp_in; decide) (by decide) dX1_init_35 ?_
  refine w_iinc (v := 1) (ls' := [some (vR 1 1 0), some (vI (1))]) dX1_init_36 rfl (by decide) rfl ?_
  refine w_goto (tgt := 14) dX1_init_39 (by decide) ?_
  refine w_iload_n dX1_init_14 rfl ?_
  refine w_aload_n dX1_init_15 rfl ?_
  refine w_getR (w := some (2, 1, 0)) ff_X1_11 rfl rfl dX1_init_16 (by simp [xup, xz]) ?_
  refine w_alen (v := 4) rfl rfl dX1_init_19 ?_
  refine w_icmp_ge (tgt := 42) dX1_init_20 (by decide) (fun h => absurd h (by decide)) (fun _ => ?_)
  refine w_aload_n dX1_init_23 rfl ?_
  refine w_getR (w := some (2, 1, 0)) ff_X1_11 rfl rfl dX1_init_24 (by simp [xup, xz]) ?_
  refine w_iload_n dX1_init_27 rfl ?_
  refine w_new (t := 3) (k := 1) (j := 1) nw_X1_9 rfl rfl (by decide) (by decide) dX1_init_28 ?_
  refine w_dup dX1_init_31 rfl ?_
  refine w_callIN (n1 := 24) (as := []) (st := [vR 3 1 1, vI (1), vR 2 1 0]) (Tri.mono (c_X4_init 1 1) (Nat.le_of_ble_eq_true rfl)) rfl rfl tg_X4_init ln_X1_17 in_X4_init rfl dX1_init_32 rfl (Nat.le_of_ble_eq_true rfl) (Nat.le_of_ble_eq_true rfl) (Nat.le_of_ble_eq_true rfl) ?_
  rintro _ _ ⟨rfl, rfl⟩ -
  refine w_aastore (e := 3) (a := 1) (cv := 4) (C := (RX4, TX4, xN 4)) rfl (by decide) (fun _ => rfl) rfl rfl (by unfold vp_in; decide) (by decide) dX1_init_35 ?_
  refine w_iinc (v := 2) (ls' := [some (vR 1 1 0), some (vI (2))]) dX1_init_36 rfl (by decide) rfl ?_
  refine w_goto (tgt := 14) dX1_init_39 (by decide) ?_
  refine w_iload_n dX1_init_14 rfl ?_
  refine w_aload_n dX1_init_15 rfl ?_
  refine w_getR (w := some (2, 1, 0)) ff_X1_11 rfl rfl dX1_init_16 (by simp [xup, xz]) ?_
  refine w_alen (v := 4) rfl rfl dX1_init_19 ?_
  refine w_icmp_ge (tgt := 42) dX1_init_20 (by decide) (fun h => absurd h (by decide)) (fun _ => ?_)
  refine w_aload_n dX1_init_23 rfl ?_
  refine w_getR (w := some (2, 1, 0)) ff_X1_11 rfl rfl dX1_init_24 (by simp [xup, xz]) ?_
  refine w_iload_n dX1_init_27 rfl ?_
  refine w_new (t := 3) (k := 1) (j := 2) nw_X1_9 rfl rfl (by decide) (by decide) dX1_init_28 ?_
  refine w_dup dX1_init_31 rfl ?_
  refine w_callIN (n1 := 25) (as := []) (st := [vR 3 1 2, vI (2), vR 2 1 0]) (Tri.mono (c_X4_init 1 2) (Nat.le_of_ble_eq_true rfl)) rfl rfl tg_X4_init ln_X1_17 in_X4_init rfl dX1_init_32 rfl (Nat.le_of_ble_eq_true rfl) (Nat.le_of_ble_eq_true rfl) (Nat.le_of_ble_eq_true rfl) ?_
  rintro _ _ ⟨rfl, rfl⟩ -
  refine w_aastore (e := 3) (a := 2) (cv := 4) (C := (RX4, TX4, xN 4)) rfl (by decide) (fun _ => rfl) rfl rfl (by unfold vp_in; decide) (by decide) dX1_init_35 ?_
  refine w_iinc (v := 3) (ls' := [some (vR 1 1 0), some (vI (3))]) dX1_init_36 rfl (by decide) rfl ?_
  refine w_goto (tgt := 14) dX1_init_39 (by decide) ?_
  refine w_iload_n dX1_init_14 rfl ?_
  refine w_aload_n dX1_init_15 rfl ?_
  refine w_getR (w := some (2, 1, 0)) ff_X1_11 rfl rfl dX1_init_16 (by simp [xup, xz]) ?_
  refine w_alen (v := 4) rfl rfl dX1_init_19 ?_
  refine w_icmp_ge (tgt := 42) dX1_init_20 (by decide) (fun h => absurd h (by decide)) (fun _ => ?_)
  refine w_aload_n dX1_init_23 rfl ?_
  refine w_getR (w := some (2, 1, 0)) ff_X1_11 rfl rfl dX1_init_24 (by simp [xup, xz]) ?_
  refine w_iload_n dX1_init_27 rfl ?_
  refine w_new (t := 3) (k := 1) (j := 3) nw_X1_9 rfl rfl (by decide) (by decide) dX1_init_28 ?_
  refine w_dup dX1_init_31 rfl ?_
  refine w_callIN (n1 := 26) (as := []) (st := [vR 3 1 3, vI (3), vR 2 1 0]) (Tri.mono (c_X4_init 1 3) (Nat.le_of_ble_eq_true rfl)) rfl rfl tg_X4_init ln_X1_17 in_X4_init rfl dX1_init_32 rfl (Nat.le_of_ble_eq_true rfl) (Nat.le_of_ble_eq_true rfl) (Nat.le_of_ble_eq_true rfl) ?_
  rintro _ _ ⟨rfl, rfl⟩ -
  refine w_aastore (e := 3) (a := 3) (cv := 4) (C := (RX4, TX4, xN 4)) rfl (by decide) (fun _ => rfl) rfl rfl (by unfold vp_in; decide) (by decide) dX1_init_35 ?_
  refine w_iinc (v := 4) (ls' := [some (vR 1 1 0), some (vI (4))]) dX1_init_36 rfl (by decide) rfl ?_
  refine w_goto (tgt := 14) dX1_init_39 (by decide) ?_
  refine w_iload_n dX1_init_14 rfl ?_
  refine w_aload_n dX1_init_15 rfl ?_
  refine w_getR (w := some (2, 1, 0)) ff_X1_11 rfl rfl dX1_init_16 (by simp [xup, xz]) ?_
  refine w_alen (v := 4) rfl rfl dX1_init_19 ?_
  refine w_icmp_ge (tgt := 42) dX1_init_20 (by decide) (fun _ => ?_) (fun h => absurd (by decide) h)
  refine w_aload_n dX1_init_42 rfl ?_
  refine w_iconst (v := 5) dX1_init_43 (by decide) ?_
  refine w_newq (t := 4) (k := 1) (j := 0) (e := 4) rfl (by decide) (fun _ => rfl) (by decide +kernel) cl_X1_18 (by decide) (by decide) (Nat.le_of_ble_eq_true rfl) rfl (by decide) (by decide) dX1_init_44 ?_
  refine w_putR fp_X1_20 rfl rfl rfl (fun _ => rfl) (fun _ => rfl) dX1_init_47 ?_
  refine w_iconst (v := 0) dX1_init_50 (by decide) ?_
  refine w_istore_n (ls' := [some (vR 1 1 0), some (vI (0))]) dX1_init_51 rfl ?_
  refine w_iload_n dX1_init_52 rfl ?_
  refine w_aload_n dX1_init_53 rfl ?_
  refine w_getR (w := some (4, 1, 0)) ff_X1_20 rfl rfl dX1_init_54 (by simp [xup, xz]) ?_
  refine w_alen (v := 5) rfl rfl dX1_init_57 ?_
  refine w_icmp_ge (tgt := 80) dX1_init_58 (by decide) (fun h => absurd h (by decide)) (fun _ => ?_)
  refine w_aload_n dX1_init_61 rfl ?_
  refine w_getR (w := some (4, 1, 0)) ff_X1_20 rfl rfl dX1_init_62 (by simp [xup, xz]) ?_
  refine w_iload_n dX1_init_65 rfl ?_
  refine w_new (t := 5) (k := 1) (j := 0) nw_X1_18 rfl rfl (by decide) (by decide) dX1_init_66 ?_
  refine w_dup dX1_init_69 rfl ?_
  refine w_callIN (n1 := 28) (as := []) (st := [vR 5 1 0, vI (0), vR 4 1 0]) (Tri.mono (c_X8_init 1 0) (Nat.le_of_ble_eq_true rfl)) rfl rfl tg_X8_init ln_X1_24 in_X8_init rfl dX1_init_70 rfl (Nat.le_of_ble_eq_true rfl) (Nat.le_of_ble_eq_true rfl) (Nat.le_of_ble_eq_true rfl) ?_
  rintro _ _ ⟨rfl, rfl⟩ -
  refine w_aastore (e := 4) (a := 0) (cv := 8) (C := (RX8, TX8, xN 8)) rfl (by decide) (fun _ => rfl) rfl rfl (by unfold vp_in; decide) (by decide) dX1_init_73 ?_
  refine w_iinc (v := 1) (ls' := [some (vR 1 1 0), some (vI (1))]) dX1_init_74 rfl (by decide) rfl ?_
  refine w_goto (tgt := 52) dX1_init_77 (by decide) ?_
  refine w_iload_n dX1_init_52 rfl ?_
  refine w_aload_n dX1_init_53 rfl ?_
  refine w_getR (w := some (4, 1, 0)) ff_X1_20 rfl rfl dX1_init_54 (by simp [xup, xz]) ?_
  refine w_alen (v := 5) rfl rfl dX1_init_57 ?_
  refine w_icmp_ge (tgt := 80) dX1_init_58 (by decide) (fun h => absurd h (by decide)) (fun _ => ?_)
  refine w_aload_n dX1_init_61 rfl ?_
  refine w_getR (w := some (4, 1, 0)) ff_X1_20 rfl rfl dX1_init_62 (by simp [xup, xz]) ?_
  refine w_iload_n dX1_init_65 rfl ?_
  refine w_new (t := 5) (k := 1) (j := 1) nw_X1_18 rfl rfl (by decide) (by decide) dX1_init_66 ?_
  refine w_dup dX1_init_69 rfl ?_
  refine w_callIN (n1 := 29) (as := []) (st := [vR 5 1 1, vI (1), vR 4 1 0]) (Tri.mono (c_X8_init 1 1) (Nat.le_of_ble_eq_true rfl)) rfl rfl tg_X8_init ln_X1_24 in_X8_init rfl dX1_init_70 rfl (Nat.le_of_ble_eq_true rfl) (Nat.le_of_ble_eq_true rfl) (Nat.le_of_ble_eq_true rfl) ?_
  rintro _ _ ⟨rfl, rfl⟩ -
  refine w_aastore (e := 4) (a := 1) (cv := 8) (C := (RX8, TX8, xN 8)) rfl (by decide) (fun _ => rfl) rfl rfl (by unfold vp_in; decide) (by decide) dX1_init_73 ?_
  refine w_iinc (v := 2) (ls' := [some (vR 1 1 0), some (vI (2))]) dX1_init_74 rfl (by decide) rfl ?_
  refine w_goto (tgt := 52) dX1_init_77 (by decide) ?_
  refine w_iload_n dX1_init_52 rfl ?_
  refine w_aload_n dX1_init_53 rfl ?_
  refine w_getR (w := some (4, 1, 0)) ff_X1_20 rfl rfl dX1_init_54 (by simp [xup, xz]) ?_
  refine w_alen (v := 5) rfl rfl dX1_init_57 ?_
  refine w_icmp_ge (tgt := 80) dX1_init_58 (by decide) (fun h => absurd h (by decide)) (fun _ => ?_)
  refine w_aload_n dX1_init_61 rfl ?_
  refine w_getR (w := some (4, 1, 0)) ff_X1_20 rfl rfl dX1_init_62 (by simp [xup, xz]) ?_
  refine w_iload_n dX1_init_65 rfl ?_
  refine w_new (t := 5) (k := 1) (j := 2) nw_X1_18 rfl rfl (by decide) (by decide) dX1_init_66 ?_
  refine w_dup dX1_init_69 rfl ?_
  refine w_callIN (n1 := 30) (as := []) (st := [vR 5 1 2, vI (2), vR 4 1 0]) (Tri.mono (c_X8_init 1 2) (Nat.le_of_ble_eq_true rfl)) rfl rfl tg_X8_init ln_X1_24 in_X8_init rfl dX1_init_70 rfl (Nat.le_of_ble_eq_true rfl) (Nat.le_of_ble_eq_true rfl) (Nat.le_of_ble_eq_true rfl) ?_
  rintro _ _ ⟨rfl, rfl⟩ -
  refine w_aastore (e := 4) (a := 2) (cv := 8) (C := (RX8, TX8, xN 8)) rfl (by decide) (fun _ => rfl) rfl rfl (by unfold vp_in; decide) (by decide) dX1_init_73 ?_
  refine w_iinc (v := 3) (ls' := [some (vR 1 1 0), some (vI (3))]) dX1_init_74 rfl (by decide) rfl ?_
  refine w_goto (tgt := 52) dX1_init_77 (by decide) ?_
  refine w_iload_n dX1_init_52 rfl ?_
  refine w_aload_n dX1_init_53 rfl ?_
  refine w_getR (w := some (4, 1, 0)) ff_X1_20 rfl rfl dX1_init_54 (by simp [xup, xz]) ?_
  refine w_alen (v := 5) rfl rfl dX1_init_57 ?_
  refine w_icmp_ge (tgt := 80) dX1_init_58 (by decide) (fun h => absurd h (by decide)) (fun _ => ?_)
  refine w_aload_n dX1_init_61 rfl ?_
  refine w_getR (w := some (4, 1, 0)) ff_X1_20 rfl rfl dX1_init_62 (by simp [xup, xz]) ?_
  refine w_iload_n dX1_init_65 rfl ?_
  refine w_new (t := 5) (k := 1) (j := 3) nw_X1_18 rfl rfl (by decide) (by decide) dX1_init_66 ?_
  refine w_dup dX1_init_69 rfl ?_
  refine w_callIN (n1 := 31) (as := []) (st := [vR 5 1 3, vI (3), vR 4 1 0]) (Tri.mono (c_X8_init 1 3) (Nat.le_of_ble_eq_true rfl)) rfl rfl tg_X8_init ln_X1_24 in_X8_init rfl dX1_init_70 rfl (Nat.le_of_ble_eq_true rfl) (Nat.le_of_ble_eq_true rfl) (Nat.le_of_ble_eq_true rfl) ?_
  rintro _ _ ⟨rfl, rfl⟩ -
  refine w_aastore (e := 4) (a := 3) (cv := 8) (C := (RX8, TX8, xN 8)) rfl (by decide) (fun _ => rfl) rfl rfl (by unfold vp_in; decide) (by decide) dX1_init_73 ?_
  refine w_iinc (v := 4) (ls' := [some (vR 1 1 0), some (vI (4))]) dX1_init_74 rfl (by decide) rfl ?_
  refine w_goto (tgt := 52) dX1_init_77 (by decide) ?_
  refine w_iload_n dX1_init_52 rfl ?_
  refine w_aload_n dX1_init_53 rfl ?_
  refine w_getR (w := some (4, 1, 0)) ff_X1_20 rfl rfl dX1_init_54 (by simp [xup, xz]) ?_
  refine w_alen (v := 5) rfl rfl dX1_init_57 ?_
  refine w_icmp_ge (tgt := 80) dX1_init_58 (by decide) (fun h => absurd h (by decide)) (fun _ => ?_)
  refine w_aload_n dX1_init_61 rfl ?_
  refine w_getR (w := some (4, 1, 0)) ff_X1_20 rfl rfl dX1_init_62 (by simp [xup, xz]) ?_
  refine w_iload_n dX1_init_65 rfl ?_
  refine w_new (t := 5) (k := 1) (j := 4) nw_X1_18 rfl rfl (by decide) (by decide) dX1_init_66 ?_
  refine w_dup dX1_init_69 rfl ?_
  refine w_callIN (n1 := 32) (as := []) (st := [vR 5 1 4, vI (4), vR 4 1 0]) (Tri.mono (c_X8_init 1 4) (Nat.le_of_ble_eq_true rfl)) rfl rfl tg_X8_init ln_X1_24 in_X8_init rfl dX1_init_70 rfl (Nat.le_of_ble_eq_true rfl) (Nat.le_of_ble_eq_true rfl) (Nat.le_of_ble_eq_true rfl) ?_
  rintro _ _ ⟨rfl, rfl⟩ -
  refine w_aastore (e := 4) (a := 4) (cv := 8) (C := (RX8, TX8, xN 8)) rfl (by decide) (fun _ => rfl) rfl rfl (by unfold vp_in; decide) (by decide) dX1_init_73 ?_
  refine w_iinc (v := 5) (ls' := [some (vR 1 1 0), some (vI (5))]) dX1_init_74 rfl (by decide) rfl ?_
  refine w_goto (tgt := 52) dX1_init_77 (by decide) ?_
  refine w_iload_n dX1_init_52 rfl ?_
  refine w_aload_n dX1_init_53 rfl ?_
  refine w_getR (w := some (4, 1, 0)) ff_X1_20 rfl rfl dX1_init_54 (by simp [xup, xz]) ?_
  refine w_alen (v := 5) rfl rfl dX1_init_57 ?_
  refine w_icmp_ge (tgt := 80) dX1_init_58 (by decide) (fun _ => ?_) (fun h => absurd (by decide) h)
  refine w_aload_n dX1_init_80 rfl ?_
  refine w_bipush (v := 6) dX1_init_81 (by decide) ?_
  refine w_newq (t := 6) (k := 1) (j := 0) (e := 5) rfl (by decide) (fun _ => rfl) (by decide +kernel) cl_X1_25 (by decide) (by decide) (Nat.le_of_ble_eq_true rfl) rfl (by decide) (by decide) dX1_init_83 ?_
  refine w_putR fp_X1_27 rfl rfl rfl (fun _ => rfl) (fun _ => rfl) dX1_init_86 ?_
  refine w_iconst (v := 0) dX1_init_89 (by decide) ?_
  refine w_istore_n (ls' := [some (vR 1 1 0), some (vI (0))]) dX1_init_90 rfl ?_
  refine w_iload_n dX1_init_91 rfl ?_
  refine w_aload_n dX1_init_92 rfl ?_
  refine w_getR (w := some (6, 1, 0)) ff_X1_27 rfl rfl dX1_init_93 (by simp [xup, xz]) ?_
  refine w_alen (v := 6) rfl rfl dX1_init_96 ?_
  refine w_icmp_ge (tgt := 119) dX1_init_97 (by decide) (fun h => absurd h (by decide)) (fun _ => ?_)
  refine w_aload_n dX1_init_100 rfl ?_
  refine w_getR (w := some (6, 1, 0)) ff_X1_27 rfl rfl dX1_init_101 (by simp [xup, xz]) ?_
  refine w_iload_n dX1_init_104 rfl ?_
  refine w_new (t := 7) (k := 1) (j := 0) nw_X1_25 rfl rfl (by decide) (by decide) dX1_init_105 ?_
  refine w_dup dX1_init_108 rfl ?_
  refine w_callIN (n1 := 34) (as := []) (st := [vR 7 1 0, vI (0), vR 6 1 0]) (Tri.mono (c_X7_init 1 0) (Nat.le_of_ble_eq_true rfl)) rfl rfl tg_X7_init ln_X1_31 in_X7_init rfl dX1_init_109 rfl (Nat.le_of_ble_eq_true rfl) (Nat.le_of_ble_eq_true rfl) (Nat.le_of_ble_eq_true rfl) ?_
  rintro _ _ ⟨rfl, rfl⟩ -
  refine w_aastore (e := 5) (a := 0) (cv := 7) (C := (RX7, TX7, xN 7)) rfl (by decide) (fun _ => rfl) rfl rfl (by unfold vp_in; decide) (by decide) dX1_init_112 ?_
  refine w_iinc (v := 1) (ls' := [some (vR 1 1 0), some (vI (1))]) dX1_init_113 rfl (by decide) rfl ?_
  refine w_goto (tgt := 91) dX1_init_116 (by decide) ?_
  refine w_iload_n dX1_init_91 rfl ?_
  refine w_aload_n dX1_init_92 rfl ?_
  refine w_getR (w := some (6, 1, 0)) ff_X1_27 rfl rfl dX1_init_93 (by simp [xup, xz]) ?_
  refine w_alen (v := 6) rfl rfl dX1_init_96 ?_
  refine w_icmp_ge (tgt := 119) dX1_init_97 (by decide) (fun h => absurd h (by decide)) (fun _ => ?_)
  refine w_aload_n dX1_init_100 rfl ?_
  refine w_getR (w := some (6, 1, 0)) ff_X1_27 rfl rfl dX1_init_101 (by simp [xup, xz]) ?_
  refine w_iload_n dX1_init_104 rfl ?_
  refine w_new (t := 7) (k := 1) (j := 1) nw_X1_25 rfl rfl (by decide) (by decide) dX1_init_105 ?_
  refine w_dup dX1_init_108 rfl ?_
  refine w_callIN (n1 := 35) (as := []) (st := [vR 7 1 1, vI (1), vR 6 1 0]) (Tri.mono (c_X7_init 1 1) (Nat.le_of_ble_eq_true rfl)) rfl rfl tg_X7_init ln_X1_31 in_X7_init rfl dX1_init_109 rfl (Nat.le_of_ble_eq_true rfl) (Nat.le_of_ble_eq_true rfl) (Nat.le_of_ble_eq_true rfl) ?_
  rintro _ _ ⟨rfl, rfl⟩ -
  refine w_aastore (e := 5) (a := 1) (cv := 7) (C := (RX7, TX7, xN 7)) rfl (by decide) (fun _ => rfl) rfl rfl (by unfold vp_in; decide) (by decide) dX1_init_112 ?_
  refine w_iinc (v := 2) (ls' := [some (vR 1 1 0), some (vI (2))]) dX1_init_113 rfl (by decide) rfl ?_
  refine w_goto (tgt := 91) dX1_init_116 (by decide) ?_
  refine w_iload_n dX1_init_91 rfl ?_
  refine w_aload_n dX1_init_92 rfl ?_
  refine w_getR (w := some (6, 1, 0)) ff_X1_27 rfl rfl dX1_init_93 (by simp [xup, xz]) ?_
  refine w_alen (v := 6) rfl rfl dX1_init_96 ?_
  refine w_icmp_ge (tgt := 119) dX1_init_97 (by decide) (fun h => absurd h (by decide)) (fun _ => ?_)
  refine w_aload_n dX1_init_100 rfl ?_
  refine w_getR (w := some (6, 1, 0)) ff_X1_27 rfl rfl dX1_init_101 (by simp [xup, xz]) ?_
  refine w_iload_n dX1_init_104 rfl ?_
  refine w_new (t := 7) (k := 1) (j := 2) nw_X1_25 rfl rfl (by decide) (by decide) dX1_init_105 ?_
  refine w_dup dX1_init_108 rfl ?_
  refine w_callIN (n1 := 36) (as := []) (st := [vR 7 1 2, vI (2), vR 6 1 0]) (Tri.mono (c_X7_init 1 2) (Nat.le_of_ble_eq_true rfl)) rfl rfl tg_X7_init ln_X1_31 in_X7_init rfl dX1_init_109 rfl (Nat.le_of_ble_eq_true rfl) (Nat.le_of_ble_eq_true rfl) (Nat.le_of_ble_eq_true rfl) ?_
  rintro _ _ ⟨rfl, rfl⟩ -
  refine w_aastore (e := 5) (a := 2) (cv := 7) (C := (RX7, TX7, xN 7)) rfl (by decide) (fun _ => rfl) rfl rfl (by unfold vp_in; decide) (by decide) dX1_init_112 ?_
  refine w_iinc (v := 3) (ls' := [some (vR 1 1 0), some (vI (3))]) dX1_init_113 rfl (by decide) rfl ?_
  refine w_goto (tgt := 91) dX1_init_116 (by decide) ?_
  refine w_iload_n dX1_init_91 rfl ?_
  refine w_aload_n dX1_init_92 rfl ?_
  refine w_getR (w := some (6, 1, 0)) ff_X1_27 rfl rfl dX1_init_93 (by simp [xup, xz]) ?_
  refine w_alen (v := 6) rfl rfl dX1_init_96 ?_
  refine w_icmp_ge (tgt := 119) dX1_init_97 (by decide) (fun h => absurd h (by decide)) (fun _ => ?_)
  refine w_aload_n dX1_init_100 rfl ?_
  refine w_getR (w := some (6, 1, 0)) ff_X1_27 rfl rfl dX1_init_101 (by simp [xup, xz]) ?_
  refine w_iload_n dX1_init_104 rfl ?_
  refine w_new (t := 7) (k := 1) (j := 3) nw_X1_25 rfl rfl (by decide) (by decide) dX1_init_105 ?_
  refine w_dup dX1_init_108 rfl ?_
  refine w_callIN (n1 := 37) (as := []) (st := [vR 7 1 3, vI (3), vR 6 1 0]) (Tri.mono (c_X7_init 1 3) (Nat.le_of_ble_eq_true rfl)) rfl rfl tg_X7_init ln_X1_31 in_X7_init rfl dX1_init_109 rfl (Nat.le_of_ble_eq_true rfl) (Nat.le_of_ble_eq_true rfl) (Nat.le_of_ble_eq_true rfl) ?_
  rintro _ _ ⟨rfl, rfl⟩ -
  refine w_aastore (e := 5) (a := 3) (cv := 7) (C := (RX7, TX7, xN 7)) rfl (by decide) (fun _ => rfl) rfl rfl (by unfold vp_in; decide) (by decide) dX1_init_112 ?_
  refine w_iinc (v := 4) (ls' := [some (vR 1 1 0), some (vI (4))]) dX1_init_113 rfl (by decide) rfl ?_
  refine w_goto (tgt := 91) dX1_init_116 (by decide) ?_
  refine w_iload_n dX1_init_91 rfl ?_
  refine w_aload_n dX1_init_92 rfl ?_
  refine w_getR (w := some (6, 1, 0)) ff_X1_27 rfl rfl dX1_init_93 (by simp [xup, xz]) ?_
  refine w_alen (v := 6) rfl rfl dX1_init_96 ?_
  refine w_icmp_ge (tgt := 119) dX1_init_97 (by decide) (fun h => absurd h (by decide)) (fun _ => ?_)
  refine w_aload_n dX1_init_100 rfl ?_
  refine w_getR (w := some (6, 1, 0)) ff_X1_27 rfl rfl dX1_init_101 (by simp [xup, xz]) ?_
  refine w_iload_n dX1_init_104 rfl ?_
  refine w_new (t := 7) (k := 1) (j := 4) nw_X1_25 rfl rfl (by decide) (by decide) dX1_init_105 ?_
  refine w_dup dX1_init_108 rfl ?_
  refine w_callIN (n1 := 38) (as := []) (st := [vR 7 1 4, vI (4), vR 6 1 0]) (Tri.mono (c_X7_init 1 4) (Nat.le_of_ble_eq_true rfl)) rfl rfl tg_X7_init ln_X1_31 in_X7_init rfl dX1_init_109 rfl (Nat.le_of_ble_eq_true rfl) (Nat.le_of_ble_eq_true rfl) (Nat.le_of_ble_eq_true rfl) ?_
  rintro _ _ ⟨rfl, rfl⟩ -
  refine w_aastore (e := 5) (a := 4) (cv := 7) (C := (RX7, TX7, xN 7)) rfl (by decide) (fun _ => rfl) rfl rfl (by unfold vp_in; decide) (by decide) dX1_init_112 ?_
  refine w_iinc (v := 5) (ls' := [some (vR 1 1 0), some (vI (5))]) dX1_init_113 rfl (by decide) rfl ?_
  refine w_goto (tgt := 91) dX1_init_116 (by decide) ?_
  refine w_iload_n dX1_init_91 rfl ?_
  refine w_aload_n dX1_init_92 rfl ?_
  refine w_getR (w := some (6, 1, 0)) ff_X1_27 rfl rfl dX1_init_93 (by simp [xup, xz]) ?_
  refine w_alen (v := 6) rfl rfl dX1_init_96 ?_
  refine w_icmp_ge (tgt := 119) dX1_init_97 (by decide) (fun h => absurd h (by decide)) (fun _ => ?_)
  refine w_aload_n dX1_init_100 rfl ?_
  refine w_getR (w := some (6, 1, 0)) ff_X1_27 rfl rfl dX1_init_101 (by simp [xup, xz]) ?_
  refine w_iload_n dX1_init_104 rfl ?_
  refine w_new (t := 7) (k := 1) (j := 5) nw_X1_25 rfl rfl (by decide) (by decide) dX1_init_105 ?_
  refine w_dup dX1_init_108 rfl ?_
  refine w_callIN (n1 := 39) (as := []) (st := [vR 7 1 5, vI (5), vR 6 1 0]) (Tri.mono (c_X7_init 1 5) (Nat.le_of_ble_eq_true rfl)) rfl rfl tg_X7_init ln_X1_31 in_X7_init rfl dX1_init_109 rfl (Nat.le_of_ble_eq_true rfl) (Nat.le_of_ble_eq_true rfl) (Nat.le_of_ble_eq_true rfl) ?_
  rintro _ _ ⟨rfl, rfl⟩ -
  refine w_aastore (e := 5) (a := 5) (cv := 7) (C := (RX7, TX7, xN 7)) rfl (by decide) (fun _ => rfl) rfl rfl (by unfold vp_in; decide) (by decide) dX1_init_112 ?_
  refine w_iinc (v := 6) (ls' := [some (vR 1 1 0), some (vI (6))]) dX1_init_113 rfl (by decide) rfl ?_
  refine w_goto (tgt := 91) dX1_init_116 (by decide) ?_
  refine w_iload_n dX1_init_91 rfl ?_
  refine w_aload_n dX1_init_92 rfl ?_
  refine w_getR (w := some (6, 1, 0)) ff_X1_27 rfl rfl dX1_init_93 (by simp [xup, xz]) ?_
  refine w_alen (v := 6) rfl rfl dX1_init_96 ?_
  refine w_icmp_ge (tgt := 119) dX1_init_97 (by decide) (fun _ => ?_) (fun h => absurd (by decide) h)
  refine w_aload_n dX1_init_119 rfl ?_
  refine w_callV (as := []) (st := []) (Tri.mono (c_beginG 1) (Nat.le_of_ble_eq_true rfl)) rfl rfl tg_X1_begin lk_X1_32 in_X1_begin se_X1_begin rfl dX1_init_120 rfl (Nat.le_of_ble_eq_true rfl) (Nat.le_refl _) (Nat.le_refl _) ?_
  rintro _ _ ⟨rfl, rfl⟩ -
  exact w_return dX1_init_123 rfl rfl (⟨rfl, rfl⟩)

def ctR2 (R : xF4 (Option xId)) : xF4 (Option xId) := xup (xz (xup (xz (xup (xz (xup (xz (xup (xz (xup (xz (xup (xz (xup (xz (xup (xz (xup (xz (xup (xz (xup (xz (xup (xz (xup (xz (xup (xz (xup (xz (xup (xz (xup (xz R 2 2 0 none) 1 2 0 0 (some (2, 2, 0))) 3 2 0 none) 2 2 0 0 (some (3, 2, 0))) 3 2 1 none) 2 2 0 1 (some (3, 2, 1))) 3 2 2 none) 2 2 0 2 (some (3, 2, 2))) 3 2 3 none) 2 2 0 3 (some (3, 2, 3))) 4 2 0 none) 1 2 0 1 (some (4, 2, 0))) 5 2 0 none) 4 2 0 0 (some (5, 2, 0))) 5 2 1 none) 4 2 0 1 (some (5, 2, 1))) 5 2 2 none) 4 2 0 2 (some (5, 2, 2))) 5 2 3 none) 4 2 0 3 (some (5, 2, 3))) 5 2 4 none) 4 2 0 4 (some (5, 2, 4))) 6 2 0 none) 1 2 0 2 (some (6, 2, 0))) 7 2 0 none) 6 2 0 0 (some (7, 2, 0))) 7 2 1 none) 6 2 0 1 (some (7, 2, 1))) 7 2 2 none) 6 2 0 2 (some (7, 2, 2))) 7 2 3 none) 6 2 0 3 (some (7, 2, 3))) 7 2 4 none) 6 2 0 4 (some (7, 2, 4))) 7 2 5 none) 6 2 0 5 (some (7, 2, 5))
def ctI2 (I : xF4 Int32) : xF4 Int32 := begI (xz (xz (xz (xz (xz (xz (xz (xz (xz (xz (xz (xz (xz (xz (xz (xz (xz (xz I 2 2 0 0) 3 2 0 0) 3 2 1 0) 3 2 2 0) 3 2 3 0) 4 2 0 0) 5 2 0 0) 5 2 1 0) 5 2 2 0) 5 2 3 0) 5 2 4 0) 6 2 0 0) 7 2 0 0) 7 2 1 0) 7 2 2 0) 7 2 3 0) 7 2 4 0) 7 2 5 0) 2
def ctL2 (L : xF4 Int64) : xF4 Int64 := xz (xz (xz (xz (xz (xz (xz (xz (xz (xz (xz (xz (xz (xz (xz (xz (xz (xz L 2 2 0 0) 3 2 0 0) 3 2 1 0) 3 2 2 0) 3 2 3 0) 4 2 0 0) 5 2 0 0) 5 2 1 0) 5 2 2 0) 5 2 3 0) 5 2 4 0) 6 2 0 0) 7 2 0 0) 7 2 1 0) 7 2 2 0) 7 2 3 0) 7 2 4 0) 7 2 5 0
theorem c_court_2 {R : xF4 (Option xId)} {I : xF4 Int32} {L : xF4 Int64} : Tri 2 60 m_X1_init [vR 1 2 0] (42, (R, (I, L))) (pN 60 (ctR2 R) (ctI2 I) (ctL2 L)) := by
  refine ⟨k_X1_init, Nat.le_of_ble_eq_true rfl, ?_⟩
  show Wp _ _ _ 0 [some (vR 1 2 0), none] [] (42, (R, (I, L))) _
  refine w_aload_n dX1_init_0 rfl ?_
  refine w_objInit (o := none) oi_X1_3 oi_ins oi_code (by decide) dX1_init_1 rfl ?_
  refine w_aload_n dX1_init_4 rfl ?_
  refine w_iconst (v := 4) dX1_init_5 (by decide) ?_
  refine w_newq (t := 2) (k := 2) (j := 0) (e := 3) rfl (by decide) (fun _ => rfl) (by decide +kernel) cl_X1_9 (by decide) (by decide) (Nat.le_of_ble_eq_true rfl) rfl (by decide) (by decide) dX1_init_6 ?_
  refine w_putR fp_X1_11 rfl rfl rfl (fun _ => rfl) (fun _ => rfl) dX1_init_9 ?_
  refine w_iconst (v := 0) dX1_init_12 (by decide) ?_
  refine w_istore_n (ls' := [some (vR 1 2 0), some (vI (0))]) dX1_init_13 rfl ?_
  refine w_iload_n dX1_init_14 rfl ?_
  refine w_aload_n dX1_init_15 rfl ?_
  refine w_getR (w := some (2, 2, 0)) ff_X1_11 rfl rfl dX1_init_16 (by simp [xup, xz]) ?_
  refine w_alen (v := 4) rfl rfl dX1_init_19 ?_
  refine w_icmp_ge (tgt := 42) dX1_init_20 (by decide) (fun h => absurd h (by decide)) (fun _ => ?_)
  refine w_aload_n dX1_init_23 rfl ?_
  refine w_getR (w := some (2, 2, 0)) ff_X1_11 rfl rfl dX1_init_24 (by simp [xup, xz]) ?_
  refine w_iload_n dX1_init_27 rfl ?_
  refine w_new (t := 3) (k := 2) (j := 0) nw_X1_9 rfl rfl (by decide) (by decide) dX1_init_28 ?_
  refine w_dup dX1_init_31 rfl ?_
  refine w_callIN (n1 := 44) (as := []) (st := [vR 3 2 0, vI (0), vR 2 2 0]) (Tri.mono (c_X4_init 2 0) (Nat.le_of_ble_eq_true rfl)) rfl rfl tg_X4_init ln_X1_17 in_X4_init rfl dX1_init_32 rfl (Nat.le_of_ble_eq_true rfl) (Nat.le_of_ble_eq_true rfl) (Nat.le_of_ble_eq_true rfl) ?_
  rintro _ _ ⟨rfl, rfl⟩ -
  refine w_aastore (e := 3) (a := 0) (cv := 4) (C := (RX4, TX4, xN 4)) rfl (by decide) (fun _ => rfl) rfl rfl (by unfold vp_in; decide) (by decide) dX1_init_35 ?_
  refine w_iinc (v := 1) (ls' := [some (vR 1 2 0), some (vI (1))]) dX1_init_36 rfl (by decide) rfl ?_
  refine w_goto (tgt := 14) dX1_init_39 (by decide) ?_
  refine w_iload_n dX1_init_14 rfl ?_
  refine w_aload_n dX1_init_15 rfl ?_
  refine w_getR (w := some (2, 2, 0)) ff_X1_11 rfl rfl dX1_init_16 (by simp [xup, xz]) ?_
  refine w_alen (v := 4) rfl rfl dX1_init_19 ?_
  refine w_icmp_ge (tgt := 42) dX1_init_20 (by decide) (fun h => absurd h (by decide)) (fun _ => ?_)
  refine w_aload_n dX1_init_23 rfl ?_
  refine w_getR (w := some (2, 2, 0)) ff_X1_11 rfl rfl dX1_init_24 (by simp [xup, xz]) ?_
  refine w_iload_n dX1_init_27 rfl ?_
  refine w_new (t := 3) (k := 2) (j := 1) nw_X1_9 rfl rfl (by decide) (by decide) dX1_init_28 ?_
  refine w_dup dX1_init_31 rfl ?_
  refine w_callIN (n1 := 45) (as := []) (st := [vR 3 2 1, vI (1), vR 2 2 0]) (Tri.mono (c_X4_init 2 1) (Nat.le_of_ble_eq_true rfl)) rfl rfl tg_X4_init ln_X1_17 in_X4_init rfl dX1_init_32 rfl (Nat.le_of_ble_eq_true rfl) (Nat.le_of_ble_eq_true rfl) (Nat.le_of_ble_eq_true rfl) ?_
  rintro _ _ ⟨rfl, rfl⟩ -
  refine w_aastore (e := 3) (a := 1) (cv := 4) (C := (RX4, TX4, xN 4)) rfl (by decide) (fun _ => rfl) rfl rfl (by unfold vp_in; decide) (by decide) dX1_init_35 ?_
  refine w_iinc (v := 2) (ls' := [some (vR 1 2 0), some (vI (2))]) dX1_init_36 rfl (by decide) rfl ?_
  refine w_goto (tgt := 14) dX1_init_39 (by decide) ?_
  refine w_iload_n dX1_init_14 rfl ?_
  refine w_aload_n dX1_init_15 rfl ?_
  refine w_getR (w := some (2, 2, 0)) ff_X1_11 rfl rfl dX1_init_16 (by simp [xup, xz]) ?_
  refine w_alen (v := 4) rfl rfl dX1_init_19 ?_
  refine w_icmp_ge (tgt := 42) dX1_init_20 (by decide) (fun h => absurd h (by decide)) (fun _ => ?_)
  refine w_aload_n dX1_init_23 rfl ?_
  refine w_getR (w := some (2, 2, 0)) ff_X1_11 rfl rfl dX1_init_24 (by simp [xup, xz]) ?_
  refine w_iload_n dX1_init_27 rfl ?_
  refine w_new (t := 3) (k := 2) (j := 2) nw_X1_9 rfl rfl (by decide) (by decide) dX1_init_28 ?_
  refine w_dup dX1_init_31 rfl ?_
  refine w_callIN (n1 := 46) (as := []) (st := [vR 3 2 2, vI (2), vR 2 2 0]) (Tri.mono (c_X4_init 2 2) (Nat.le_of_ble_eq_true rfl)) rfl rfl tg_X4_init ln_X1_17 in_X4_init rfl dX1_init_32 rfl (Nat.le_of_ble_eq_true rfl) (Nat.le_of_ble_eq_true rfl) (Nat.le_of_ble_eq_true rfl) ?_
  rintro _ _ ⟨rfl, rfl⟩ -
  refine w_aastore (e := 3) (a := 2) (cv := 4) (C := (RX4, TX4, xN 4)) rfl (by decide) (fun _ => rfl) rfl rfl (by unfold vp_in; decide) (by decide) dX1_init_35 ?_
  refine w_iinc (v := 3) (ls' := [some (vR 1 2 0), some (vI (3))]) dX1_init_36 rfl (by decide) rfl ?_
  refine w_goto (tgt := 14) dX1_init_39 (by decide) ?_
  refine w_iload_n dX1_init_14 rfl ?_
  refine w_aload_n dX1_init_15 rfl ?_
  refine w_getR (w := some (2, 2, 0)) ff_X1_11 rfl rfl dX1_init_16 (by simp [xup, xz]) ?_
  refine w_alen (v := 4) rfl rfl dX1_init_19 ?_
  refine w_icmp_ge (tgt := 42) dX1_init_20 (by decide) (fun h => absurd h (by decide)) (fun _ => ?_)
  refine w_aload_n dX1_init_23 rfl ?_
  refine w_getR (w := some (2, 2, 0)) ff_X1_11 rfl rfl dX1_init_24 (by simp [xup, xz]) ?_
  refine w_iload_n dX1_init_27 rfl ?_
  refine w_new (t := 3) (k := 2) (j := 3) nw_X1_9 rfl rfl (by decide) (by decide) dX1_init_28 ?_
  refine w_dup dX1_init_31 rfl ?_
  refine w_callIN (n1 := 47) (as := []) (st := [vR 3 2 3, vI (3), vR 2 2 0]) (Tri.mono (c_X4_init 2 3) (Nat.le_of_ble_eq_true rfl)) rfl rfl tg_X4_init ln_X1_17 in_X4_init rfl dX1_init_32 rfl (Nat.le_of_ble_eq_true rfl) (Nat.le_of_ble_eq_true rfl) (Nat.le_of_ble_eq_true rfl) ?_
  rintro _ _ ⟨rfl, rfl⟩ -
  refine w_aastore (e := 3) (a := 3) (cv := 4) (C := (RX4, TX4, xN 4)) rfl (by decide) (fun _ => rfl) rfl rfl (by unfold vp_in; decide) (by decide) dX1_init_35 ?_
  refine w_iinc (v := 4) (ls' := [some (vR 1 2 0), some (vI (4))]) dX1_init_36 rfl (by decide) rfl ?_
  refine w_goto (tgt := 14) dX1_init_39 (by decide) ?_
  refine w_iload_n dX1_init_14 rfl ?_
  refine w_aload_n dX1_init_15 rfl ?_
  refine w_getR (w := some (2, 2, 0)) ff_X1_11 rfl rfl dX1_init_16 (by simp [xup, xz]) ?_
  refine w_alen (v := 4) rfl rfl dX1_init_19 ?_
  refine w_icmp_ge (tgt := 42) dX1_init_20 (by decide) (fun _ => ?_) (fun h => absurd (by decide) h)
  refine w_aload_n dX1_init_42 rfl ?_
  refine w_iconst (v := 5) dX1_init_43 (by decide) ?_
  refine w_newq (t := 4) (k := 2) (j := 0) (e := 4) rfl (by decide) (fun _ => rfl) (by decide +kernel) cl_X1_18 (by decide) (by decide) (Nat.le_of_ble_eq_true rfl) rfl (by decide) (by decide) dX1_init_44 ?_
  refine w_putR fp_X1_20 rfl rfl rfl (fun _ => rfl) (fun _ => rfl) dX1_init_47 ?_
  refine w_iconst (v := 0) dX1_init_50 (by decide) ?_
  refine w_istore_n (ls' := [some (vR 1 2 0), some (vI (0))]) dX1_init_51 rfl ?_
  refine w_iload_n dX1_init_52 rfl ?_
  refine w_aload_n dX1_init_53 rfl ?_
  refine w_getR (w := some (4, 2, 0)) ff_X1_20 rfl rfl dX1_init_54 (by simp [xup, xz]) ?_
  refine w_alen (v := 5) rfl rfl dX1_init_57 ?_
  refine w_icmp_ge (tgt := 80) dX1_init_58 (by decide) (fun h => absurd h (by decide)) (fun _ => ?_)
  refine w_aload_n dX1_init_61 rfl ?_
  refine w_getR (w := some (4, 2, 0)) ff_X1_20 rfl rfl dX1_init_62 (by simp [xup, xz]) ?_
  refine w_iload_n dX1_init_65 rfl ?_
  refine w_new (t := 5) (k := 2) (j := 0) nw_X1_18 rfl rfl (by decide) (by decide) dX1_init_66 ?_
  refine w_dup dX1_init_69 rfl ?_
  refine w_callIN (n1 := 49) (as := []) (st := [vR 5 2 0, vI (0), vR 4 2 0]) (Tri.mono (c_X8_init 2 0) (Nat.le_of_ble_eq_true rfl)) rfl rfl tg_X8_init ln_X1_24 in_X8_init rfl dX1_init_70 rfl (Nat.le_of_ble_eq_true rfl) (Nat.le_of_ble_eq_true rfl) (Nat.le_of_ble_eq_true rfl) ?_
  rintro _ _ ⟨rfl, rfl⟩ -
  refine w_aastore (e := 4) (a := 0) (cv := 8) (C := (RX8, TX8, xN 8)) rfl (by decide) (fun _ => rfl) rfl rfl (by unfold vp_in; decide) (by decide) dX1_init_73 ?_
  refine w_iinc (v := 1) (ls' := [some (vR 1 2 0), some (vI (1))]) dX1_init_74 rfl (by decide) rfl ?_
  refine w_goto (tgt := 52) dX1_init_77 (by decide) ?_
  refine w_iload_n dX1_init_52 rfl ?_
  refine w_aload_n dX1_init_53 rfl ?_
  refine w_getR (w := some (4, 2, 0)) ff_X1_20 rfl rfl dX1_init_54 (by simp [xup, xz]) ?_
  refine w_alen (v := 5) rfl rfl dX1_init_57 ?_
  refine w_icmp_ge (tgt := 80) dX1_init_58 (by decide) (fun h => absurd h (by decide)) (fun _ => ?_)
  refine w_aload_n dX1_init_61 rfl ?_
  refine w_getR (w := some (4, 2, 0)) ff_X1_20 rfl rfl dX1_init_62 (by simp [xup, xz]) ?_
  refine w_iload_n dX1_init_65 rfl ?_
  refine w_new (t := 5) (k := 2) (j := 1) nw_X1_18 rfl rfl (by decide) (by decide) dX1_init_66 ?_
  refine w_dup dX1_init_69 rfl ?_
  refine w_callIN (n1 := 50) (as := []) (st := [vR 5 2 1, vI (1), vR 4 2 0]) (Tri.mono (c_X8_init 2 1) (Nat.le_of_ble_eq_true rfl)) rfl rfl tg_X8_init ln_X1_24 in_X8_init rfl dX1_init_70 rfl (Nat.le_of_ble_eq_true rfl) (Nat.le_of_ble_eq_true rfl) (Nat.le_of_ble_eq_true rfl) ?_
  rintro _ _ ⟨rfl, rfl⟩ -
  refine w_aastore (e := 4) (a := 1) (cv := 8) (C := (RX8, TX8, xN 8)) rfl (by decide) (fun _ => rfl) rfl rfl (by unfold vp_in; decide) (by decide) dX1_init_73 ?_
  refine w_iinc (v := 2) (ls' := [some (vR 1 2 0), some (vI (2))]) dX1_init_74 rfl (by decide) rfl ?_
  refine w_goto (tgt := 52) dX1_init_77 (by decide) ?_
  refine w_iload_n dX1_init_52 rfl ?_
  refine w_aload_n dX1_init_53 rfl ?_
  refine w_getR (w := some (4, 2, 0)) ff_X1_20 rfl rfl dX1_init_54 (by simp [xup, xz]) ?_
  refine w_alen (v := 5) rfl rfl dX1_init_57 ?_
  refine w_icmp_ge (tgt := 80) dX1_init_58 (by decide) (fun h => absurd h (by decide)) (fun _ => ?_)
  refine w_aload_n dX1_init_61 rfl ?_
  refine w_getR (w := some (4, 2, 0)) ff_X1_20 rfl rfl dX1_init_62 (by simp [xup, xz]) ?_
  refine w_iload_n dX1_init_65 rfl ?_
  refine w_new (t := 5) (k := 2) (j := 2) nw_X1_18 rfl rfl (by decide) (by decide) dX1_init_66 ?_
  refine w_dup dX1_init_69 rfl ?_
  refine w_callIN (n1 := 51) (as := []) (st := [vR 5 2 2, vI (2), vR 4 2 0]) (Tri.mono (c_X8_init 2 2) (Nat.le_of_ble_eq_true rfl)) rfl rfl tg_X8_init ln_X1_24 in_X8_init rfl dX1_init_70 rfl (Nat.le_of_ble_eq_true rfl) (Nat.le_of_ble_eq_true rfl) (Nat.le_of_ble_eq_true rfl) ?_
  rintro _ _ ⟨rfl, rfl⟩ -
  refine w_aastore (e := 4) (a := 2) (cv := 8) (C := (RX8, TX8, xN 8)) rfl (by decide) (fun _ => rfl) rfl rfl (by unfold vp_in; decide) (by decide) dX1_init_73 ?_
  refine w_iinc (v := 3) (ls' := [some (vR 1 2 0), some (vI (3))]) dX1_init_74 rfl (by decide) rfl ?_
  refine w_goto (tgt := 52) dX1_init_77 (by decide) ?_
  refine w_iload_n dX1_init_52 rfl ?_
  refine w_aload_n dX1_init_53 rfl ?_
  refine w_getR (w := some (4, 2, 0)) ff_X1_20 rfl rfl dX1_init_54 (by simp [xup, xz]) ?_
  refine w_alen (v := 5) rfl rfl dX1_init_57 ?_
  refine w_icmp_ge (tgt := 80) dX1_init_58 (by decide) (fun h => absurd h (by decide)) (fun _ => ?_)
  refine w_aload_n dX1_init_61 rfl ?_
  refine w_getR (w := some (4, 2, 0)) ff_X1_20 rfl rfl dX1_init_62 (by simp [xup, xz]) ?_
  refine w_iload_n dX1_init_65 rfl ?_
  refine w_new (t := 5) (k := 2) (j := 3) nw_X1_18 rfl rfl (by decide) (by decide) dX1_init_66 ?_
  refine w_dup dX1_init_69 rfl ?_
  refine w_callIN (n1 := 52) (as := []) (st := [vR 5 2 3, vI (3), vR 4 2 0]) (Tri.mono (c_X8_init 2 3) (Nat.le_of_ble_eq_true rfl)) rfl rfl tg_X8_init ln_X1_24 in_X8_init rfl dX1_init_70 rfl (Nat.le_of_ble_eq_true rfl) (Nat.le_of_ble_eq_true rfl) (Nat.le_of_ble_eq_true rfl) ?_
  rintro _ _ ⟨rfl, rfl⟩ -
  refine w_aastore (e := 4) (a := 3) (cv := 8) (C := (RX8, TX8, xN 8)) rfl (by decide) (fun _ => rfl) rfl rfl (by unfold vp_in; decide) (by decide) dX1_init_73 ?_
  refine w_iinc (v := 4) (ls' := [some (vR 1 2 0), some (vI (4))]) dX1_init_74 rfl (by decide) rfl ?_
  refine w_goto (tgt := 52) dX1_init_77 (by decide) ?_
  refine w_iload_n dX1_init_52 rfl ?_
  refine w_aload_n dX1_init_53 rfl ?_
  refine w_getR (w := some (4, 2, 0)) ff_X1_20 rfl rfl dX1_init_54 (by simp [xup, xz]) ?_
  refine w_alen (v := 5) rfl rfl dX1_init_57 ?_
  refine w_icmp_ge (tgt := 80) dX1_init_58 (by decide) (fun h => absurd h (by decide)) (fun _ => ?_)
  refine w_aload_n dX1_init_61 rfl ?_
  refine w_getR (w := some (4, 2, 0)) ff_X1_20 rfl rfl dX1_init_62 (by simp [xup, xz]) ?_
  refine w_iload_n dX1_init_65 rfl ?_
  refine w_new (t := 5) (k := 2) (j := 4) nw_X1_18 rfl rfl (by decide) (by decide) dX1_init_66 ?_
  refine w_dup dX1_init_69 rfl ?_
  refine w_callIN (n1 := 53) (as := []) (st := [vR 5 2 4, vI (4), vR 4 2 0]) (Tri.mono (c_X8_init 2 4) (Nat.le_of_ble_eq_true rfl)) rfl rfl tg_X8_init ln_X1_24 in_X8_init rfl dX1_init_70 rfl (Nat.le_of_ble_eq_true rfl) (Nat.le_of_ble_eq_true rfl) (Nat.le_of_ble_eq_true rfl) ?_
  rintro _ _ ⟨rfl, rfl⟩ -
  refine w_aastore (e := 4) (a := 4) (cv := 8) (C := (RX8, TX8, xN 8)) rfl (by decide) (fun _ => rfl) rfl rfl (by unfold vp_in; decide) (by decide) dX1_init_73 ?_
  refine w_iinc (v := 5) (ls' := [some (vR 1 2 0), some (vI (5))]) dX1_init_74 rfl (by decide) rfl ?_
  refine w_goto (tgt := 52) dX1_init_77 (by decide) ?_
  refine w_iload_n dX1_init_52 rfl ?_
  refine w_aload_n dX1_init_53 rfl ?_
  refine w_getR (w := some (4, 2, 0)) ff_X1_20 rfl rfl dX1_init_54 (by simp [xup, xz]) ?_
  refine w_alen (v := 5) rfl rfl dX1_init_57 ?_
  refine w_icmp_ge (tgt := 80) dX1_init_58 (by decide) (fun _ => ?_) (fun h => absurd (by decide) h)
  refine w_aload_n dX1_init_80 rfl ?_
  refine w_bipush (v := 6) dX1_init_81 (by decide) ?_
  refine w_newq (t := 6) (k := 2) (j := 0) (e := 5) rfl (by decide) (fun _ => rfl) (by decide +kernel) cl_X1_25 (by decide) (by decide) (Nat.le_of_ble_eq_true rfl) rfl (by decide) (by decide) dX1_init_83 ?_
  refine w_putR fp_X1_27 rfl rfl rfl (fun _ => rfl) (fun _ => rfl) dX1_init_86 ?_
  refine w_iconst (v := 0) dX1_init_89 (by decide) ?_
  refine w_istore_n (ls' := [some (vR 1 2 0), some (vI (0))]) dX1_init_90 rfl ?_
  refine w_iload_n dX1_init_91 rfl ?_
  refine w_aload_n dX1_init_92 rfl ?_
  refine w_getR (w := some (6, 2, 0)) ff_X1_27 rfl rfl dX1_init_93 (by simp [xup, xz]) ?_
  refine w_alen (v := 6) rfl rfl dX1_init_96 ?_
  refine w_icmp_ge (tgt := 119) dX1_init_97 (by decide) (fun h => absurd h (by decide)) (fun _ => ?_)
  refine w_aload_n dX1_init_100 rfl ?_
  refine w_getR (w := some (6, 2, 0)) ff_X1_27 rfl rfl dX1_init_101 (by simp [xup, xz]) ?_
  refine w_iload_n dX1_init_104 rfl ?_
  refine w_new (t := 7) (k := 2) (j := 0) nw_X1_25 rfl rfl (by decide) (by decide) dX1_init_105 ?_
  refine w_dup dX1_init_108 rfl ?_
  refine w_callIN (n1 := 55) (as := []) (st := [vR 7 2 0, vI (0), vR 6 2 0]) (Tri.mono (c_X7_init 2 0) (Nat.le_of_ble_eq_true rfl)) rfl rfl tg_X7_init ln_X1_31 in_X7_init rfl dX1_init_109 rfl (Nat.le_of_ble_eq_true rfl) (Nat.le_of_ble_eq_true rfl) (Nat.le_of_ble_eq_true rfl) ?_
  rintro _ _ ⟨rfl, rfl⟩ -
  refine w_aastore (e := 5) (a := 0) (cv := 7) (C := (RX7, TX7, xN 7)) rfl (by decide) (fun _ => rfl) rfl rfl (by unfold vp_in; decide) (by decide) dX1_init_112 ?_
  refine w_iinc (v := 1) (ls' := [some (vR 1 2 0), some (vI (1))]) dX1_init_113 rfl (by decide) rfl ?_
  refine w_goto (tgt := 91) dX1_init_116 (by decide) ?_
  refine w_iload_n dX1_init_91 rfl ?_
  refine w_aload_n dX1_init_92 rfl ?_
  refine w_getR (w := some (6, 2, 0)) ff_X1_27 rfl rfl dX1_init_93 (by simp [xup, xz]) ?_
  refine w_alen (v := 6) rfl rfl dX1_init_96 ?_
  refine w_icmp_ge (tgt := 119) dX1_init_97 (by decide) (fun h => absurd h (by decide)) (fun _ => ?_)
  refine w_aload_n dX1_init_100 rfl ?_
  refine w_getR (w := some (6, 2, 0)) ff_X1_27 rfl rfl dX1_init_101 (by simp [xup, xz]) ?_
  refine w_iload_n dX1_init_104 rfl ?_
  refine w_new (t := 7) (k := 2) (j := 1) nw_X1_25 rfl rfl (by decide) (by decide) dX1_init_105 ?_
  refine w_dup dX1_init_108 rfl ?_
  refine w_callIN (n1 := 56) (as := []) (st := [vR 7 2 1, vI (1), vR 6 2 0]) (Tri.mono (c_X7_init 2 1) (Nat.le_of_ble_eq_true rfl)) rfl rfl tg_X7_init ln_X1_31 in_X7_init rfl dX1_init_109 rfl (Nat.le_of_ble_eq_true rfl) (Nat.le_of_ble_eq_true rfl) (Nat.le_of_ble_eq_true rfl) ?_
  rintro _ _ ⟨rfl, rfl⟩ -
  refine w_aastore (e := 5) (a := 1) (cv := 7) (C := (RX7, TX7, xN 7)) rfl (by decide) (fun _ => rfl) rfl rfl (by unfold vp_in; decide) (by decide) dX1_init_112 ?_
  refine w_iinc (v := 2) (ls' := [some (vR 1 2 0), some (vI (2))]) dX1_init_113 rfl (by decide) rfl ?_
  refine w_goto (tgt := 91) dX1_init_116 (by decide) ?_
  refine w_iload_n dX1_init_91 rfl ?_
  refine w_aload_n dX1_init_92 rfl ?_
  refine w_getR (w := some (6, 2, 0)) ff_X1_27 rfl rfl dX1_init_93 (by simp [xup, xz]) ?_
  refine w_alen (v := 6) rfl rfl dX1_init_96 ?_
  refine w_icmp_ge (tgt := 119) dX1_init_97 (by decide) (fun h => absurd h (by decide)) (fun _ => ?_)
  refine w_aload_n dX1_init_100 rfl ?_
  refine w_getR (w := some (6, 2, 0)) ff_X1_27 rfl rfl dX1_init_101 (by simp [xup, xz]) ?_
  refine w_iload_n dX1_init_104 rfl ?_
  refine w_new (t := 7) (k := 2) (j := 2) nw_X1_25 rfl rfl (by decide) (by decide) dX1_init_105 ?_
  refine w_dup dX1_init_108 rfl ?_
  refine w_callIN (n1 := 57) (as := []) (st := [vR 7 2 2, vI (2), vR 6 2 0]) (Tri.mono (c_X7_init 2 2) (Nat.le_of_ble_eq_true rfl)) rfl rfl tg_X7_init ln_X1_31 in_X7_init rfl dX1_init_109 rfl (Nat.le_of_ble_eq_true rfl) (Nat.le_of_ble_eq_true rfl) (Nat.le_of_ble_eq_true rfl) ?_
  rintro _ _ ⟨rfl, rfl⟩ -
  refine w_aastore (e := 5) (a := 2) (cv := 7) (C := (RX7, TX7, xN 7)) rfl (by decide) (fun _ => rfl) rfl rfl (by unfold vp_in; decide) (by decide) dX1_init_112 ?_
  refine w_iinc (v := 3) (ls' := [some (vR 1 2 0), some (vI (3))]) dX1_init_113 rfl (by decide) rfl ?_
  refine w_goto (tgt := 91) dX1_init_116 (by decide) ?_
  refine w_iload_n dX1_init_91 rfl ?_
  refine w_aload_n dX1_init_92 rfl ?_
  refine w_getR (w := some (6, 2, 0)) ff_X1_27 rfl rfl dX1_init_93 (by simp [xup, xz]) ?_
  refine w_alen (v := 6) rfl rfl dX1_init_96 ?_
  refine w_icmp_ge (tgt := 119) dX1_init_97 (by decide) (fun h => absurd h (by decide)) (fun _ => ?_)
  refine w_aload_n dX1_init_100 rfl ?_
  refine w_getR (w := some (6, 2, 0)) ff_X1_27 rfl rfl dX1_init_101 (by simp [xup, xz]) ?_
  refine w_iload_n dX1_init_104 rfl ?_
  refine w_new (t := 7) (k := 2) (j := 3) nw_X1_25 rfl rfl (by decide) (by decide) dX1_init_105 ?_
  refine w_dup dX1_init_108 rfl ?_
  refine w_callIN (n1 := 58) (as := []) (st := [vR 7 2 3, vI (3), vR 6 2 0]) (Tri.mono (c_X7_init 2 3) (Nat.le_of_ble_eq_true rfl)) rfl rfl tg_X7_init ln_X1_31 in_X7_init rfl dX1_init_109 rfl (Nat.le_of_ble_eq_true rfl) (Nat.le_of_ble_eq_true rfl) (Nat.le_of_ble_eq_true rfl) ?_
  rintro _ _ ⟨rfl, rfl⟩ -
  refine w_aastore (e := 5) (a := 3) (cv := 7) (C := (RX7, TX7, xN 7)) rfl (by decide) (fun _ => rfl) rfl rfl (by unfold vp_in; decide) (by decide) dX1_init_112 ?_
  refine w_iinc (v := 4) (ls' := [some (vR 1 2 0), some (vI (4))]) dX1_init_113 rfl (by decide) rfl ?_
  refine w_goto (tgt := 91) dX1_init_116 (by decide) ?_
  refine w_iload_n dX1_init_91 rfl ?_
  refine w_aload_n dX1_init_92 rfl ?_
  refine w_getR (w := some (6, 2, 0)) ff_X1_27 rfl rfl dX1_init_93 (by simp [xup, xz]) ?_
  refine w_alen (v := 6) rfl rfl dX1_init_96 ?_
  refine w_icmp_ge (tgt := 119) dX1_init_97 (by decide) (fun h => absurd h (by decide)) (fun _ => ?_)
  refine w_aload_n dX1_init_100 rfl ?_
  refine w_getR (w := some (6, 2, 0)) ff_X1_27 rfl rfl dX1_init_101 (by simp [xup, xz]) ?_
  refine w_iload_n dX1_init_104 rfl ?_
  refine w_new (t := 7) (k := 2) (j := 4) nw_X1_25 rfl rfl (by decide) (by decide) dX1_init_105 ?_
  refine w_dup dX1_init_108 rfl ?_
  refine w_callIN (n1 := 59) (as := []) (st := [vR 7 2 4, vI (4), vR 6 2 0]) (Tri.mono (c_X7_init 2 4) (Nat.le_of_ble_eq_true rfl)) rfl rfl tg_X7_init ln_X1_31 in_X7_init rfl dX1_init_109 rfl (Nat.le_of_ble_eq_true rfl) (Nat.le_of_ble_eq_true rfl) (Nat.le_of_ble_eq_true rfl) ?_
  rintro _ _ ⟨rfl, rfl⟩ -
  refine w_aastore (e := 5) (a := 4) (cv := 7) (C := (RX7, TX7, xN 7)) rfl (by decide) (fun _ => rfl) rfl rfl (by unfold vp_in; decide) (by decide) dX1_init_112 ?_
  refine w_iinc (v := 5) (ls' := [some (vR 1 2 0), some (vI (5))]) dX1_init_113 rfl (by decide) rfl ?_
  refine w_goto (tgt := 91) dX1_init_116 (by decide) ?_
  refine w_iload_n dX1_init_91 rfl ?_
  refine w_aload_n dX1_init_92 rfl ?_
  refine w_getR (w := some (6, 2, 0)) ff_X1_27 rfl rfl dX1_init_93 (by simp [xup, xz]) ?_
  refine w_alen (v := 6) rfl rfl dX1_init_96 ?_
  refine w_icmp_ge (tgt := 119) dX1_init_97 (by decide) (fun h => absurd h (by decide)) (fun _ => ?_)
  refine w_aload_n dX1_init_100 rfl ?_
  refine w_getR (w := some (6, 2, 0)) ff_X1_27 rfl rfl dX1_init_101 (by simp [xup, xz]) ?_
  refine w_iload_n dX1_init_104 rfl ?_
  refine w_new (t := 7) (k := 2) (j := 5) nw_X1_25 rfl rfl (by decide) (by decide) dX1_init_105 ?_
  refine w_dup dX1_init_108 rfl ?_
  refine w_callIN (n1 := 60) (as := []) (st := [vR 7 2 5, vI (5), vR 6 2 0]) (Tri.mono (c_X7_init 2 5) (Nat.le_of_ble_eq_true rfl)) rfl rfl tg_X7_init ln_X1_31 in_X7_init rfl dX1_init_109 rfl (Nat.le_of_ble_eq_true rfl) (Nat.le_of_ble_eq_true rfl) (Nat.le_of_ble_eq_true rfl) ?_
  rintro _ _ ⟨rfl, rfl⟩ -
  refine w_aastore (e := 5) (a := 5) (cv := 7) (C := (RX7, TX7, xN 7)) rfl (by decide) (fun _ => rfl) rfl rfl (by unfold vp_in; decide) (by decide) dX1_init_112 ?_
  refine w_iinc (v := 6) (ls' := [some (vR 1 2 0), some (vI (6))]) dX1_init_113 rfl (by decide) rfl ?_
  refine w_goto (tgt := 91) dX1_init_116 (by decide) ?_
  refine w_iload_n dX1_init_91 rfl ?_
  refine w_aload_n dX1_init_92 rfl ?_
  refine w_getR (w := some (6, 2, 0)) ff_X1_27 rfl rfl dX1_init_93 (by simp [xup, xz]) ?_
  refine w_alen (v := 6) rfl rfl dX1_init_96 ?_
  refine w_icmp_ge (tgt := 119) dX1_init_97 (by decide) (fun _ => ?_) (fun h => absurd (by decide) h)
  refine w_aload_n dX1_init_119 rfl ?_
  refine w_callV (as := []) (st := []) (Tri.mono (c_beginG 2) (Nat.le_of_ble_eq_true rfl)) rfl rfl tg_X1_begin lk_X1_32 in_X1_begin se_X1_begin rfl dX1_init_120 rfl (Nat.le_of_ble_eq_true rfl) (Nat.le_refl _) (Nat.le_refl _) ?_
  rintro _ _ ⟨rfl, rfl⟩ -
  exact w_return dX1_init_123 rfl rfl (⟨rfl, rfl⟩)

def ctR3 (R : xF4 (Option xId)) : xF4 (Option xId) := xup (xz (xup (xz (xup (xz (xup (xz (xup (xz (xup (xz (xup (xz (xup (xz (xup (xz (xup (xz (xup (xz (xup (xz (xup (xz (xup (xz (xup (xz (xup (xz (xup (xz (xup (xz R 2 3 0 none) 1 3 0 0 (some (2, 3, 0))) 3 3 0 none) 2 3 0 0 (some (3, 3, 0))) 3 3 1 none) 2 3 0 1 (some (3, 3, 1))) 3 3 2 none) 2 3 0 2 (some (3, 3, 2))) 3 3 3 none) 2 3 0 3 (some (3, 3, 3))) 4 3 0 none) 1 3 0 1 (some (4, 3, 0))) 5 3 0 none) 4 3 0 0 (some (5, 3, 0))) 5 3 1 none) 4 3 0 1 (some (5, 3, 1))) 5 3 2 none) 4 3 0 2 (some (5, 3, 2))) 5 3 3 none) 4 3 0 3 (some (5, 3, 3))) 5 3 4 none) 4 3 0 4 (some (5, 3, 4))) 6 3 0 none) 1 3 0 2 (some (6, 3, 0))) 7 3 0 none) 6 3 0 0 (some (7, 3, 0))) 7 3 1 none) 6 3 0 1 (some (7, 3, 1))) 7 3 2 none) 6 3 0 2 (some (7, 3, 2))) 7 3 3 none) 6 3 0 3 (some (7, 3, 3))) 7 3 4 none) 6 3 0 4 (some (7, 3, 4))) 7 3 5 none) 6 3 0 5 (some (7, 3, 5))
def ctI3 (I : xF4 Int32) : xF4 Int32 := begI (xz (xz (xz (xz (xz (xz (xz (xz (xz (xz (xz (xz (xz (xz (xz (xz (xz (xz I 2 3 0 0) 3 3 0 0) 3 3 1 0) 3 3 2 0) 3 3 3 0) 4 3 0 0) 5 3 0 0) 5 3 1 0) 5 3 2 0) 5 3 3 0) 5 3 4 0) 6 3 0 0) 7 3 0 0) 7 3 1 0) 7 3 2 0) 7 3 3 0) 7 3 4 0) 7 3 5 0) 3
def ctL3 (L : xF4 Int64) : xF4 Int64 := xz (xz (xz (xz (xz (xz (xz (xz (xz (xz (xz (xz (xz (xz (xz (xz (xz (xz L 2 3 0 0) 3 3 0 0) 3 3 1 0) 3 3 2 0) 3 3 3 0) 4 3 0 0) 5 3 0 0) 5 3 1 0) 5 3 2 0) 5 3 3 0) 5 3 4 0) 6 3 0 0) 7 3 0 0) 7 3 1 0) 7 3 2 0) 7 3 3 0) 7 3 4 0) 7 3 5 0
theorem c_court_3 {R : xF4 (Option xId)} {I : xF4 Int32} {L : xF4 Int64} : Tri 2 80 m_X1_init [vR 1 3 0] (62, (R, (I, L))) (pN 80 (ctR3 R) (ctI3 I) (ctL3 L)) := by
  refine ⟨k_X1_init, Nat.le_of_ble_eq_true rfl, ?_⟩
  show Wp _ _ _ 0 [some (vR 1 3 0), none] [] (62, (R, (I, L))) _
  refine w_aload_n dX1_init_0 rfl ?_
  refine w_objInit (o := none) oi_X1_3 oi_ins oi_code (by decide) dX1_init_1 rfl ?_
  refine w_aload_n dX1_init_4 rfl ?_
  refine w_iconst (v := 4) dX1_init_5 (by decide) ?_
  refine w_newq (t := 2) (k := 3) (j := 0) (e := 3) rfl (by decide) (fun _ => rfl) (by decide +kernel) cl_X1_9 (by decide) (by decide) (Nat.le_of_ble_eq_true rfl) rfl (by decide) (by decide) dX1_init_6 ?_
  refine w_putR fp_X1_11 rfl rfl rfl (fun _ => rfl) (fun _ => rfl) dX1_init_9 ?_
  refine w_iconst (v := 0) dX1_init_12 (by decide) ?_
  refine w_istore_n (ls' := [some (vR 1 3 0), some (vI (0))]) dX1_init_13 rfl ?_
  refine w_iload_n dX1_init_14 rfl ?_
  refine w_aload_n dX1_init_15 rfl ?_
  refine w_getR (w := some (2, 3, 0)) ff_X1_11 rfl rfl dX1_init_16 (by simp [xup, xz]) ?_
  refine w_alen (v := 4) rfl rfl dX1_init_19 ?_
  refine w_icmp_ge (tgt := 42) dX1_init_20 (by decide) (fun h => absurd h (by decide)) (fun _ => ?_)
  refine w_aload_n dX1_init_23 rfl ?_
  refine w_getR (w := some (2, 3, 0)) ff_X1_11 rfl rfl dX1_init_24 (by simp [xup, xz]) ?_
  refine w_iload_n dX1_init_27 rfl ?_
  refine w_new (t := 3) (k := 3) (j := 0) nw_X1_9 rfl rfl (by decide) (by decide) dX1_init_28 ?_
  refine w_dup dX1_init_31 rfl ?_
  refine w_callIN (n1 := 64) (as := []) (st := [vR 3 3 0, vI (0), vR 2 3 0]) (Tri.mono (c_X4_init 3 0) (Nat.le_of_ble_eq_true rfl)) rfl rfl tg_X4_init ln_X1_17 in_X4_init rfl dX1_init_32 rfl (Nat.le_of_ble_eq_true rfl) (Nat.le_of_ble_eq_true rfl) (Nat.le_of_ble_eq_true rfl) ?_
  rintro _ _ ⟨rfl, rfl⟩ -
  refine w_aastore (e := 3) (a := 0) (cv := 4) (C := (RX4, TX4, xN 4)) rfl (by decide) (fun _ => rfl) rfl rfl (by unfold vp_in; decide) (by decide) dX1_init_35 ?_
  refine w_iinc (v := 1) (ls' := [some (vR 1 3 0), some (vI (1))]) dX1_init_36 rfl (by decide) rfl ?_
  refine w_goto (tgt := 14) dX1_init_39 (by decide) ?_
  refine w_iload_n dX1_init_14 rfl ?_
  refine w_aload_n dX1_init_15 rfl ?_
  refine w_getR (w := some (2, 3, 0)) ff_X1_11 rfl rfl dX1_init_16 (by simp [xup, xz]) ?_
  refine w_alen (v := 4) rfl rfl dX1_init_19 ?_
  refine w_icmp_ge (tgt := 42) dX1_init_20 (by decide) (fun h => absurd h (by decide)) (fun _ => ?_)
  refine w_aload_n dX1_init_23 rfl ?_
  refine w_getR (w := some (2, 3, 0)) ff_X1_11 rfl rfl dX1_init_24 (by simp [xup, xz]) ?_
  refine w_iload_n dX1_init_27 rfl ?_
  refine w_new (t := 3) (k := 3) (j := 1) nw_X1_9 rfl rfl (by decide) (by decide) dX1_init_28 ?_
  refine w_dup dX1_init_31 rfl ?_
  refine w_callIN (n1 := 65) (as := []) (st := [vR 3 3 1, vI (1), vR 2 3 0]) (Tri.mono (c_X4_init 3 1) (Nat.le_of_ble_eq_true rfl)) rfl rfl tg_X4_init ln_X1_17 in_X4_init rfl dX1_init_32 rfl (Nat.le_of_ble_eq_true rfl) (Nat.le_of_ble_eq_true rfl) (Nat.le_of_ble_eq_true rfl) ?_
  rintro _ _ ⟨rfl, rfl⟩ -
  refine w_aastore (e := 3) (a := 1) (cv := 4) (C := (RX4, TX4, xN 4)) rfl (by decide) (fun _ => rfl) rfl rfl (by unfold vp_in; decide) (by decide) dX1_init_35 ?_
  refine w_iinc (v := 2) (ls' := [some (vR 1 3 0), some (vI (2))]) dX1_init_36 rfl (by decide) rfl ?_
  refine w_goto (tgt := 14) dX1_init_39 (by decide) ?_
  refine w_iload_n dX1_init_14 rfl ?_
  refine w_aload_n dX1_init_15 rfl ?_
  refine w_getR (w := some (2, 3, 0)) ff_X1_11 rfl rfl dX1_init_16 (by simp [xup, xz]) ?_
  refine w_alen (v := 4) rfl rfl dX1_init_19 ?_
  refine w_icmp_ge (tgt := 42) dX1_init_20 (by decide) (fun h => absurd h (by decide)) (fun _ => ?_)
  refine w_aload_n dX1_init_23 rfl ?_
  refine w_getR (w := some (2, 3, 0)) ff_X1_11 rfl rfl dX1_init_24 (by simp [xup, xz]) ?_
  refine w_iload_n dX1_init_27 rfl ?_
  refine w_new (t := 3) (k := 3) (j := 2) nw_X1_9 rfl rfl (by decide) (by decide) dX1_init_28 ?_
  refine w_dup dX1_init_31 rfl ?_
  refine w_callIN (n1 := 66) (as := []) (st := [vR 3 3 2, vI (2), vR 2 3 0]) (Tri.mono (c_X4_init 3 2) (Nat.le_of_ble_eq_true rfl)) rfl rfl tg_X4_init ln_X1_17 in_X4_init rfl dX1_init_32 rfl (Nat.le_of_ble_eq_true rfl) (Nat.le_of_ble_eq_true rfl) (Nat.le_of_ble_eq_true rfl) ?_
  rintro _ _ ⟨rfl, rfl⟩ -
  refine w_aastore (e := 3) (a := 2) (cv := 4) (C := (RX4, TX4, xN 4)) rfl (by decide) (fun _ => rfl) rfl rfl (by unfold vp_in; decide) (by decide) dX1_init_35 ?_
  refine w_iinc (v := 3) (ls' := [some (vR 1 3 0), some (vI (3))]) dX1_init_36 rfl (by decide) rfl ?_
  refine w_goto (tgt := 14) dX1_init_39 (by decide) ?_
  refine w_iload_n dX1_init_14 rfl ?_
  refine w_aload_n dX1_init_15 rfl ?_
  refine w_getR (w := some (2, 3, 0)) ff_X1_11 rfl rfl dX1_init_16 (by simp [xup, xz]) ?_
  refine w_alen (v := 4) rfl rfl dX1_init_19 ?_
  refine w_icmp_ge (tgt := 42) dX1_init_20 (by decide) (fun h => absurd h (by decide)) (fun _ => ?_)
  refine w_aload_n dX1_init_23 rfl ?_
  refine w_getR (w := some (2, 3, 0)) ff_X1_11 rfl rfl dX1_init_24 (by simp [xup, xz]) ?_
  refine w_iload_n dX1_init_27 rfl ?_
  refine w_new (t := 3) (k := 3) (j := 3) nw_X1_9 rfl rfl (by decide) (by decide) dX1_init_28 ?_
  refine w_dup dX1_init_31 rfl ?_
  refine w_callIN (n1 := 67) (as := []) (st := [vR 3 3 3, vI (3), vR 2 3 0]) (Tri.mono (c_X4_init 3 3) (Nat.le_of_ble_eq_true rfl)) rfl rfl tg_X4_init ln_X1_17 in_X4_init rfl dX1_init_32 rfl (Nat.le_of_ble_eq_true rfl) (Nat.le_of_ble_eq_true rfl) (Nat.le_of_ble_eq_true rfl) ?_
  rintro _ _ ⟨rfl, rfl⟩ -
  refine w_aastore (e := 3) (a := 3) (cv := 4) (C := (RX4, TX4, xN 4)) rfl (by decide) (fun _ => rfl) rfl rfl (by unfold vp_in; decide) (by decide) dX1_init_35 ?_
  refine w_iinc (v := 4) (ls' := [some (vR 1 3 0), some (vI (4))]) dX1_init_36 rfl (by decide) rfl ?_
  refine w_goto (tgt := 14) dX1_init_39 (by decide) ?_
  refine w_iload_n dX1_init_14 rfl ?_
  refine w_aload_n dX1_init_15 rfl ?_
  refine w_getR (w := some (2, 3, 0)) ff_X1_11 rfl rfl dX1_init_16 (by simp [xup, xz]) ?_
  refine w_alen (v := 4) rfl rfl dX1_init_19 ?_
  refine w_icmp_ge (tgt := 42) dX1_init_20 (by decide) (fun _ => ?_) (fun h => absurd (by decide) h)
  refine w_aload_n dX1_init_42 rfl ?_
  refine w_iconst (v := 5) dX1_init_43 (by decide) ?_
  refine w_newq (t := 4) (k := 3) (j := 0) (e := 4) rfl (by decide) (fun _ => rfl) (by decide +kernel) cl_X1_18 (by decide) (by decide) (Nat.le_of_ble_eq_true rfl) rfl (by decide) (by decide) dX1_init_44 ?_
  refine w_putR fp_X1_20 rfl rfl rfl (fun _ => rfl) (fun _ => rfl) dX1_init_47 ?_
  refine w_iconst (v := 0) dX1_init_50 (by decide) ?_
  refine w_istore_n (ls' := [some (vR 1 3 0), some (vI (0))]) dX1_init_51 rfl ?_
  refine w_iload_n dX1_init_52 rfl ?_
  refine w_aload_n dX1_init_53 rfl ?_
  refine w_getR (w := some (4, 3, 0)) ff_X1_20 rfl rfl dX1_init_54 (by simp [xup, xz]) ?_
  refine w_alen (v := 5) rfl rfl dX1_init_57 ?_
  refine w_icmp_ge (tgt := 80) dX1_init_58 (by decide) (fun h => absurd h (by decide)) (fun _ => ?_)
  refine w_aload_n dX1_init_61 rfl ?_
  refine w_getR (w := some (4, 3, 0)) ff_X1_20 rfl rfl dX1_init_62 (by simp [xup, xz]) ?_
  refine w_iload_n dX1_init_65 rfl ?_
  refine w_new (t := 5) (k := 3) (j := 0) nw_X1_18 rfl rfl (by decide) (by decide) dX1_init_66 ?_
  refine w_dup dX1_init_69 rfl ?_
  refine w_callIN (n1 := 69) (as := []) (st := [vR 5 3 0, vI (0), vR 4 3 0]) (Tri.mono (c_X8_init 3 0) (Nat.le_of_ble_eq_true rfl)) rfl rfl tg_X8_init ln_X1_24 in_X8_init rfl dX1_init_70 rfl (Nat.le_of_ble_eq_true rfl) (Nat.le_of_ble_eq_true rfl) (Nat.le_of_ble_eq_true rfl) ?_
  rintro _ _ ⟨rfl, rfl⟩ -
  refine w_aastore (e := 4) (a := 0) (cv := 8) (C := (RX8, TX8, xN 8)) rfl (by decide) (fun _ => rfl) rfl rfl (by unfold vp_in; decide) (by decide) dX1_init_73 ?_
  refine w_iinc (v := 1) (ls' := [some (vR 1 3 0), some (vI (1))]) dX1_init_74 rfl (by decide) rfl ?_
  refine w_goto (tgt := 52) dX1_init_77 (by decide) ?_
  refine w_iload_n dX1_init_52 rfl ?_
  refine w_aload_n dX1_init_53 rfl ?_
  refine w_getR (w := some (4, 3, 0)) ff_X1_20 rfl rfl dX1_init_54 (by simp [xup, xz]) ?_
  refine w_alen (v := 5) rfl rfl dX1_init_57 ?_
  refine w_icmp_ge (tgt := 80) dX1_init_58 (by decide) (fun h => absurd h (by decide)) (fun _ => ?_)
  refine w_aload_n dX1_init_61 rfl ?_
  refine w_getR (w := some (4, 3, 0)) ff_X1_20 rfl rfl dX1_init_62 (by simp [xup, xz]) ?_
  refine w_iload_n dX1_init_65 rfl ?_
  refine w_new (t := 5) (k := 3) (j := 1) nw_X1_18 rfl rfl (by decide) (by decide) dX1_init_66 ?_
  refine w_dup dX1_init_69 rfl ?_
  refine w_callIN (n1 := 70) (as := []) (st := [vR 5 3 1, vI (1), vR 4 3 0]) (Tri.mono (c_X8_init 3 1) (Nat.le_of_ble_eq_true rfl)) rfl rfl tg_X8_init ln_X1_24 in_X8_init rfl dX1_init_70 rfl (Nat.le_of_ble_eq_true rfl) (Nat.le_of_ble_eq_true rfl) (Nat.le_of_ble_eq_true rfl) ?_
  rintro _ _ ⟨rfl, rfl⟩ -
  refine w_aastore (e := 4) (a := 1) (cv := 8) (C := (RX8, TX8, xN 8)) rfl (by decide) (fun _ => rfl) rfl rfl (by unfold vp_in; decide) (by decide) dX1_init_73 ?_
  refine w_iinc (v := 2) (ls' := [some (vR 1 3 0), some (vI (2))]) dX1_init_74 rfl (by decide) rfl ?_
  refine w_goto (tgt := 52) dX1_init_77 (by decide) ?_
  refine w_iload_n dX1_init_52 rfl ?_
  refine w_aload_n dX1_init_53 rfl ?_
  refine w_getR (w := some (4, 3, 0)) ff_X1_20 rfl rfl dX1_init_54 (by simp [xup, xz]) ?_
  refine w_alen (v := 5) rfl rfl dX1_init_57 ?_
  refine w_icmp_ge (tgt := 80) dX1_init_58 (by decide) (fun h => absurd h (by decide)) (fun _ => ?_)
  refine w_aload_n dX1_init_61 rfl ?_
  refine w_getR (w := some (4, 3, 0)) ff_X1_20 rfl rfl dX1_init_62 (by simp [xup, xz]) ?_
  refine w_iload_n dX1_init_65 rfl ?_
  refine w_new (t := 5) (k := 3) (j := 2) nw_X1_18 rfl rfl (by decide) (by decide) dX1_init_66 ?_
  refine w_dup dX1_init_69 rfl ?_
  refine w_callIN (n1 := 71) (as := []) (st := [vR 5 3 2, vI (2), vR 4 3 0]) (Tri.mono (c_X8_init 3 2) (Nat.le_of_ble_eq_true rfl)) rfl rfl tg_X8_init ln_X1_24 in_X8_init rfl dX1_init_70 rfl (Nat.le_of_ble_eq_true rfl) (Nat.le_of_ble_eq_true rfl) (Nat.le_of_ble_eq_true rfl) ?_
  rintro _ _ ⟨rfl, rfl⟩ -
  refine w_aastore (e := 4) (a := 2) (cv := 8) (C := (RX8, TX8, xN 8)) rfl (by decide) (fun _ => rfl) rfl rfl (by unfold vp_in; decide) (by decide) dX1_init_73 ?_
  refine w_iinc (v := 3) (ls' := [some (vR 1 3 0), some (vI (3))]) dX1_init_74 rfl (by decide) rfl ?_
  refine w_goto (tgt := 52) dX1_init_77 (by decide) ?_
  refine w_iload_n dX1_init_52 rfl ?_
  refine w_aload_n dX1_init_53 rfl ?_
  refine w_getR (w := some (4, 3, 0)) ff_X1_20 rfl rfl dX1_init_54 (by simp [xup, xz]) ?_
  refine w_alen (v := 5) rfl rfl dX1_init_57 ?_
  refine w_icmp_ge (tgt := 80) dX1_init_58 (by decide) (fun h => absurd h (by decide)) (fun _ => ?_)
  refine w_aload_n dX1_init_61 rfl ?_
  refine w_getR (w := some (4, 3, 0)) ff_X1_20 rfl rfl dX1_init_62 (by simp [xup, xz]) ?_
  refine w_iload_n dX1_init_65 rfl ?_
  refine w_new (t := 5) (k := 3) (j := 3) nw_X1_18 rfl rfl (by decide) (by decide) dX1_init_66 ?_
  refine w_dup dX1_init_69 rfl ?_
  refine w_callIN (n1 := 72) (as := []) (st := [vR 5 3 3, vI (3), vR 4 3 0]) (Tri.mono (c_X8_init 3 3) (Nat.le_of_ble_eq_true rfl)) rfl rfl tg_X8_init ln_X1_24 in_X8_init rfl dX1_init_70 rfl (Nat.le_of_ble_eq_true rfl) (Nat.le_of_ble_eq_true rfl) (Nat.le_of_ble_eq_true rfl) ?_
  rintro _ _ ⟨rfl, rfl⟩ -
  refine w_aastore (e := 4) (a := 3) (cv := 8) (C := (RX8, TX8, xN 8)) rfl (by decide) (fun _ => rfl) rfl rfl (by unfold vp_in; decide) (by decide) dX1_init_73 ?_
  refine w_iinc (v := 4) (ls' := [some (vR 1 3 0), some (vI (4))]) dX1_init_74 rfl (by decide) rfl ?_
  refine w_goto (tgt := 52) dX1_init_77 (by decide) ?_
  refine w_iload_n dX1_init_52 rfl ?_
  refine w_aload_n dX1_init_53 rfl ?_
  refine w_getR (w := some (4, 3, 0)) ff_X1_20 rfl rfl dX1_init_54 (by simp [xup, xz]) ?_
  refine w_alen (v := 5) rfl rfl dX1_init_57 ?_
  refine w_icmp_ge (tgt := 80) dX1_init_58 (by decide) (fun h => absurd h (by decide)) (fun _ => ?_)
  refine w_aload_n dX1_init_61 rfl ?_
  refine w_getR (w := some (4, 3, 0)) ff_X1_20 rfl rfl dX1_init_62 (by simp [xup, xz]) ?_
  refine w_iload_n dX1_init_65 rfl ?_
  refine w_new (t := 5) (k := 3) (j := 4) nw_X1_18 rfl rfl (by decide) (by decide) dX1_init_66 ?_
  refine w_dup dX1_init_69 rfl ?_
  refine w_callIN (n1 := 73) (as := []) (st := [vR 5 3 4, vI (4), vR 4 3 0]) (Tri.mono (c_X8_init 3 4) (Nat.le_of_ble_eq_true rfl)) rfl rfl tg_X8_init ln_X1_24 in_X8_init rfl dX1_init_70 rfl (Nat.le_of_ble_eq_true rfl) (Nat.le_of_ble_eq_true rfl) (Nat.le_of_ble_eq_true rfl) ?_
  rintro _ _ ⟨rfl, rfl⟩ -
  refine w_aastore (e := 4) (a := 4) (cv := 8) (C := (RX8, TX8, xN 8)) rfl (by decide) (fun _ => rfl) rfl rfl (by unfold vp_in; decide) (by decide) dX1_init_73 ?_
  refine w_iinc (v := 5) (ls' := [some (vR 1 3 0), some (vI (5))]) dX1_init_74 rfl (by decide) rfl ?_
  refine w_goto (tgt := 52) dX1_init_77 (by decide) ?_
  refine w_iload_n dX1_init_52 rfl ?_
  refine w_aload_n dX1_init_53 rfl ?_
  refine w_getR (w := some (4, 3, 0)) ff_X1_20 rfl rfl dX1_init_54 (by simp [xup, xz]) ?_
  refine w_alen (v := 5) rfl rfl dX1_init_57 ?_
  refine w_icmp_ge (tgt := 80) dX1_init_58 (by decide) (fun _ => ?_) (fun h => absurd (by decide) h)
  refine w_aload_n dX1_init_80 rfl ?_
  refine w_bipush (v := 6) dX1_init_81 (by decide) ?_
  refine w_newq (t := 6) (k := 3) (j := 0) (e := 5) rfl (by decide) (fun _ => rfl) (by decide +kernel) cl_X1_25 (by decide) (by decide) (Nat.le_of_ble_eq_true rfl) rfl (by decide) (by decide) dX1_init_83 ?_
  refine w_putR fp_X1_27 rfl rfl rfl (fun _ => rfl) (fun _ => rfl) dX1_init_86 ?_
  refine w_iconst (v := 0) dX1_init_89 (by decide) ?_
  refine w_istore_n (ls' := [some (vR 1 3 0), some (vI (0))]) dX1_init_90 rfl ?_
  refine w_iload_n dX1_init_91 rfl ?_
  refine w_aload_n dX1_init_92 rfl ?_
  refine w_getR (w := some (6, 3, 0)) ff_X1_27 rfl rfl dX1_init_93 (by simp [xup, xz]) ?_
  refine w_alen (v := 6) rfl rfl dX1_init_96 ?_
  refine w_icmp_ge (tgt := 119) dX1_init_97 (by decide) (fun h => absurd h (by decide)) (fun _ => ?_)
  refine w_aload_n dX1_init_100 rfl ?_
  refine w_getR (w := some (6, 3, 0)) ff_X1_27 rfl rfl dX1_init_101 (by simp [xup, xz]) ?_
  refine w_iload_n dX1_init_104 rfl ?_
  refine w_new (t := 7) (k := 3) (j := 0) nw_X1_25 rfl rfl (by decide) (by decide) dX1_init_105 ?_
  refine w_dup dX1_init_108 rfl ?_
  refine w_callIN (n1 := 75) (as := []) (st := [vR 7 3 0, vI (0), vR 6 3 0]) (Tri.mono (c_X7_init 3 0) (Nat.le_of_ble_eq_true rfl)) rfl rfl tg_X7_init ln_X1_31 in_X7_init rfl dX1_init_109 rfl (Nat.le_of_ble_eq_true rfl) (Nat.le_of_ble_eq_true rfl) (Nat.le_of_ble_eq_true rfl) ?_
  rintro _ _ ⟨rfl, rfl⟩ -
  refine w_aastore (e := 5) (a := 0) (cv := 7) (C := (RX7, TX7, xN 7)) rfl (by decide) (fun _ => rfl) rfl rfl (by unfold vp_in; decide) (by decide) dX1_init_112 ?_
  refine w_iinc (v := 1) (ls' := [some (vR 1 3 0), some (vI (1))]) dX1_init_113 rfl (by decide) rfl ?_
  refine w_goto (tgt := 91) dX1_init_116 (by decide) ?_
  refine w_iload_n dX1_init_91 rfl ?_
  refine w_aload_n dX1_init_92 rfl ?_
  refine w_getR (w := some (6, 3, 0)) ff_X1_27 rfl rfl dX1_init_93 (by simp [xup, xz]) ?_
  refine w_alen (v := 6) rfl rfl dX1_init_96 ?_
  refine w_icmp_ge (tgt := 119) dX1_init_97 (by decide) (fun h => absurd h (by decide)) (fun _ => ?_)
  refine w_aload_n dX1_init_100 rfl ?_
  refine w_getR (w := some (6, 3, 0)) ff_X1_27 rfl rfl dX1_init_101 (by simp [xup, xz]) ?_
  refine w_iload_n dX1_init_104 rfl ?_
  refine w_new (t := 7) (k := 3) (j := 1) nw_X1_25 rfl rfl (by decide) (by decide) dX1_init_105 ?_
  refine w_dup dX1_init_108 rfl ?_
  refine w_callIN (n1 := 76) (as := []) (st := [vR 7 3 1, vI (1), vR 6 3 0]) (Tri.mono (c_X7_init 3 1) (Nat.le_of_ble_eq_true rfl)) rfl rfl tg_X7_init ln_X1_31 in_X7_init rfl dX1_init_109 rfl (Nat.le_of_ble_eq_true rfl) (Nat.le_of_ble_eq_true rfl) (Nat.le_of_ble_eq_true rfl) ?_
  rintro _ _ ⟨rfl, rfl⟩ -
  refine w_aastore (e := 5) (a := 1) (cv := 7) (C := (RX7, TX7, xN 7)) rfl (by decide) (fun _ => rfl) rfl rfl (by unfold vp_in; decide) (by decide) dX1_init_112 ?_
  refine w_iinc (v := 2) (ls' := [some (vR 1 3 0), some (vI (2))]) dX1_init_113 rfl (by decide) rfl ?_
  refine w_goto (tgt := 91) dX1_init_116 (by decide) ?_
  refine w_iload_n dX1_init_91 rfl ?_
  refine w_aload_n dX1_init_92 rfl ?_
  refine w_getR (w := some (6, 3, 0)) ff_X1_27 rfl rfl dX1_init_93 (by simp [xup, xz]) ?_
  refine w_alen (v := 6) rfl rfl dX1_init_96 ?_
  refine w_icmp_ge (tgt := 119) dX1_init_97 (by decide) (fun h => absurd h (by decide)) (fun _ => ?_)
  refine w_aload_n dX1_init_100 rfl ?_
  refine w_getR (w := some (6, 3, 0)) ff_X1_27 rfl rfl dX1_init_101 (by simp [xup, xz]) ?_
  refine w_iload_n dX1_init_104 rfl ?_
  refine w_new (t := 7) (k := 3) (j := 2) nw_X1_25 rfl rfl (by decide) (by decide) dX1_init_105 ?_
  refine w_dup dX1_init_108 rfl ?_
  refine w_callIN (n1 := 77) (as := []) (st := [vR 7 3 2, vI (2), vR 6 3 0]) (Tri.mono (c_X7_init 3 2) (Nat.le_of_ble_eq_true rfl)) rfl rfl tg_X7_init ln_X1_31 in_X7_init rfl dX1_init_109 rfl (Nat.le_of_ble_eq_true rfl) (Nat.le_of_ble_eq_true rfl) (Nat.le_of_ble_eq_true rfl) ?_
  rintro _ _ ⟨rfl, rfl⟩ -
  refine w_aastore (e := 5) (a := 2) (cv := 7) (C := (RX7, TX7, xN 7)) rfl (by decide) (fun _ => rfl) rfl rfl (by unfold vp_in; decide) (by decide) dX1_init_112 ?_
  refine w_iinc (v := 3) (ls' := [some (vR 1 3 0), some (vI (3))]) dX1_init_113 rfl (by decide) rfl ?_
  refine w_goto (tgt := 91) dX1_init_116 (by decide) ?_
  refine w_iload_n dX1_init_91 rfl ?_
  refine w_aload_n dX1_init_92 rfl ?_
  refine w_getR (w := some (6, 3, 0)) ff_X1_27 rfl rfl dX1_init_93 (by simp [xup, xz]) ?_
  refine w_alen (v := 6) rfl rfl dX1_init_96 ?_
  refine w_icmp_ge (tgt := 119) dX1_init_97 (by decide) (fun h => absurd h (by decide)) (fun _ => ?_)
  refine w_aload_n dX1_init_100 rfl ?_
  refine w_getR (w := some (6, 3, 0)) ff_X1_27 rfl rfl dX1_init_101 (by simp [xup, xz]) ?_
  refine w_iload_n dX1_init_104 rfl ?_
  refine w_new (t := 7) (k := 3) (j := 3) nw_X1_25 rfl rfl (by decide) (by decide) dX1_init_105 ?_
  refine w_dup dX1_init_108 rfl ?_
  refine w_callIN (n1 := 78) (as := []) (st := [vR 7 3 3, vI (3), vR 6 3 0]) (Tri.mono (c_X7_init 3 3) (Nat.le_of_ble_eq_true rfl)) rfl rfl tg_X7_init ln_X1_31 in_X7_init rfl dX1_init_109 rfl (Nat.le_of_ble_eq_true rfl) (Nat.le_of_ble_eq_true rfl) (Nat.le_of_ble_eq_true rfl) ?_
  rintro _ _ ⟨rfl, rfl⟩ -
  refine w_aastore (e := 5) (a := 3) (cv := 7) (C := (RX7, TX7, xN 7)) rfl (by decide) (fun _ => rfl) rfl rfl (by unfold vp_in; decide) (by decide) dX1_init_112 ?_
  refine w_iinc (v := 4) (ls' := [some (vR 1 3 0), some (vI (4))]) dX1_init_113 rfl (by decide) rfl ?_
  refine w_goto (tgt := 91) dX1_init_116 (by decide) ?_
  refine w_iload_n dX1_init_91 rfl ?_
  refine w_aload_n dX1_init_92 rfl ?_
  refine w_getR (w := some (6, 3, 0)) ff_X1_27 rfl rfl dX1_init_93 (by simp [xup, xz]) ?_
  refine w_alen (v := 6) rfl rfl dX1_init_96 ?_
  refine w_icmp_ge (tgt := 119) dX1_init_97 (by decide) (fun h => absurd h (by decide)) (fun _ => ?_)
  refine w_aload_n dX1_init_100 rfl ?_
  refine w_getR (w := some (6, 3, 0)) ff_X1_27 rfl rfl dX1_init_101 (by simp [xup, xz]) ?_
  refine w_iload_n dX1_init_104 rfl ?_
  refine w_new (t := 7) (k := 3) (j := 4) nw_X1_25 rfl rfl (by decide) (by decide) dX1_init_105 ?_
  refine w_dup dX1_init_108 rfl ?_
  refine w_callIN (n1 := 79) (as := []) (st := [vR 7 3 4, vI (4), vR 6 3 0]) (Tri.mono (c_X7_init 3 4) (Nat.le_of_ble_eq_true rfl)) rfl rfl tg_X7_init ln_X1_31 in_X7_init rfl dX1_init_109 rfl (Nat.le_of_ble_eq_true rfl) (Nat.le_of_ble_eq_true rfl) (Nat.le_of_ble_eq_true rfl) ?_
  rintro _ _ ⟨rfl, rfl⟩ -
  refine w_aastore (e := 5) (a := 4) (cv := 7) (C := (RX7, TX7, xN 7)) rfl (by decide) (fun _ => rfl) rfl rfl (by unfold vp_in; decide) (by decide) dX1_init_112 ?_
  refine w_iinc (v := 5) (ls' := [some (vR 1 3 0), some (vI (5))]) dX1_init_113 rfl (by decide) rfl ?_
  refine w_goto (tgt := 91) dX1_init_116 (by decide) ?_
  refine w_iload_n dX1_init_91 rfl ?_
  refine w_aload_n dX1_init_92 rfl ?_
  refine w_getR (w := some (6, 3, 0)) ff_X1_27 rfl rfl dX1_init_93 (by simp [xup, xz]) ?_
  refine w_alen (v := 6) rfl rfl dX1_init_96 ?_
  refine w_icmp_ge (tgt := 119) dX1_init_97 (by decide) (fun h => absurd h (by decide)) (fun _ => ?_)
  refine w_aload_n dX1_init_100 rfl ?_
  refine w_getR (w := some (6, 3, 0)) ff_X1_27 rfl rfl dX1_init_101 (by simp [xup, xz]) ?_
  refine w_iload_n dX1_init_104 rfl ?_
  refine w_new (t := 7) (k := 3) (j := 5) nw_X1_25 rfl rfl (by decide) (by decide) dX1_init_105 ?_
  refine w_dup dX1_init_108 rfl ?_
  refine w_callIN (n1 := 80) (as := []) (st := [vR 7 3 5, vI (5), vR 6 3 0]) (Tri.mono (c_X7_init 3 5) (Nat.le_of_ble_eq_true rfl)) rfl rfl tg_X7_init ln_X1_31 in_X7_init rfl dX1_init_109 rfl (Nat.le_of_ble_eq_true rfl) (Nat.le_of_ble_eq_true rfl) (Nat.le_of_ble_eq_true rfl) ?_
  rintro _ _ ⟨rfl, rfl⟩ -
  refine w_aastore (e := 5) (a := 5) (cv := 7) (C := (RX7, TX7, xN 7)) rfl (by decide) (fun _ => rfl) rfl rfl (by unfold vp_in; decide) (by decide) dX1_init_112 ?_
  refine w_iinc (v := 6) (ls' := [some (vR 1 3 0), some (vI (6))]) dX1_init_113 rfl (by decide) rfl ?_
  refine w_goto (tgt := 91) dX1_init_116 (by decide) ?_
  refine w_iload_n dX1_init_91 rfl ?_
  refine w_aload_n dX1_init_92 rfl ?_
  refine w_getR (w := some (6, 3, 0)) ff_X1_27 rfl rfl dX1_init_93 (by simp [xup, xz]) ?_
  refine w_alen (v := 6) rfl rfl dX1_init_96 ?_
  refine w_icmp_ge (tgt := 119) dX1_init_97 (by decide) (fun _ => ?_) (fun h => absurd (by decide) h)
  refine w_aload_n dX1_init_119 rfl ?_
  refine w_callV (as := []) (st := []) (Tri.mono (c_beginG 3) (Nat.le_of_ble_eq_true rfl)) rfl rfl tg_X1_begin lk_X1_32 in_X1_begin se_X1_begin rfl dX1_init_120 rfl (Nat.le_of_ble_eq_true rfl) (Nat.le_refl _) (Nat.le_refl _) ?_
  rintro _ _ ⟨rfl, rfl⟩ -
  exact w_return dX1_init_123 rfl rfl (⟨rfl, rfl⟩)

def c_image_0R (R : xF4 (Option xId)) : xF4 (Option xId) := xup (ctR2 (xz R 1 2 0 none)) 9 0 0 0 (some (1, 2, 0))
def c_image_0I (I : xF4 Int32) : xF4 Int32 := xup (ctI2 (xz I 1 2 0 0)) 9 0 0 1 (0)
def c_image_0L (L : xF4 Int64) : xF4 Int64 := ctL2 (xz L 1 2 0 0)
theorem c_image_0 {R : xF4 (Option xId)} {I : xF4 Int32} {L : xF4 Int64} : Tri 3 60 m_X3_init [vR 9 0 0] (41, (R, (I, L))) (pN 60 (c_image_0R R) (c_image_0I I) (c_image_0L L)) := by
  refine ⟨k_X3_init, Nat.le_of_ble_eq_true rfl, ?_⟩
  show Wp _ _ _ 0 [some (vR 9 0 0)] [] (41, (R, (I, L))) _
  refine w_aload_n dX3_init_0 rfl ?_
  refine w_objInit (o := none) oi_X3_1 oi_ins oi_code (by decide) dX3_init_1 rfl ?_
  refine w_aload_n dX3_init_4 rfl ?_
  refine w_new (t := 1) (k := 2) (j := 0) nw_X3_7 rfl rfl (by decide) (by decide) dX3_init_5 ?_
  refine w_dup dX3_init_8 rfl ?_
  refine w_callI (n1 := 60) (as := []) (st := [vR 1 2 0, vR 9 0 0]) (Tri.mono (c_court_2) (Nat.le_of_ble_eq_true rfl)) rfl rfl tg_X1_init lk_X3_9 in_X1_init rfl dX3_init_9 rfl (Nat.le_of_ble_eq_true rfl) (Nat.le_of_ble_eq_true rfl) (Nat.le_of_ble_eq_true rfl) ?_
  rintro _ _ ⟨rfl, rfl⟩ -
  refine w_putR fp_X3_10 rfl rfl rfl (fun _ => rfl) (fun _ => rfl) dX3_init_12 ?_
  refine w_aload_n dX3_init_15 rfl ?_
  refine w_iconst (v := 0) dX3_init_16 (by decide) ?_
  refine w_putI ff_X3_16 rfl rfl rfl rfl dX3_init_17 ?_
  exact w_return dX3_init_20 rfl rfl (⟨rfl, rfl⟩)

def c_image_1R (R : xF4 (Option xId)) : xF4 (Option xId) := xup (ctR3 (xz R 1 3 0 none)) 9 1 0 0 (some (1, 3, 0))
def c_image_1I (I : xF4 Int32) : xF4 Int32 := xup (ctI3 (xz I 1 3 0 0)) 9 1 0 1 (0)
def c_image_1L (L : xF4 Int64) : xF4 Int64 := ctL3 (xz L 1 3 0 0)
theorem c_image_1 {R : xF4 (Option xId)} {I : xF4 Int32} {L : xF4 Int64} : Tri 3 80 m_X3_init [vR 9 1 0] (61, (R, (I, L))) (pN 80 (c_image_1R R) (c_image_1I I) (c_image_1L L)) := by
  refine ⟨k_X3_init, Nat.le_of_ble_eq_true rfl, ?_⟩
  show Wp _ _ _ 0 [some (vR 9 1 0)] [] (61, (R, (I, L))) _
  refine w_aload_n dX3_init_0 rfl ?_
  refine w_objInit (o := none) oi_X3_1 oi_ins oi_code (by decide) dX3_init_1 rfl ?_
  refine w_aload_n dX3_init_4 rfl ?_
  refine w_new (t := 1) (k := 3) (j := 0) nw_X3_7 rfl rfl (by decide) (by decide) dX3_init_5 ?_
  refine w_dup dX3_init_8 rfl ?_
  refine w_callI (n1 := 80) (as := []) (st := [vR 1 3 0, vR 9 1 0]) (Tri.mono (c_court_3) (Nat.le_of_ble_eq_true rfl)) rfl rfl tg_X1_init lk_X3_9 in_X1_init rfl dX3_init_9 rfl (Nat.le_of_ble_eq_true rfl) (Nat.le_of_ble_eq_true rfl) (Nat.le_of_ble_eq_true rfl) ?_
  rintro _ _ ⟨rfl, rfl⟩ -
  refine w_putR fp_X3_10 rfl rfl rfl (fun _ => rfl) (fun _ => rfl) dX3_init_12 ?_
  refine w_aload_n dX3_init_15 rfl ?_
  refine w_iconst (v := 0) dX3_init_16 (by decide) ?_
  refine w_putI ff_X3_16 rfl rfl rfl rfl dX3_init_17 ?_
  exact w_return dX3_init_20 rfl rfl (⟨rfl, rfl⟩)

def c_tapeR (R : xF4 (Option xId)) : xF4 (Option xId) := xup (xz R 11 0 0 none) 10 0 0 0 (some (11, 0, 0))
def c_tapeI (I : xF4 Int32) : xF4 Int32 := xup (xup (xup (xz I 11 0 0 0) 10 0 0 1 (0)) 10 0 0 2 (0)) 10 0 0 3 (0)
def c_tapeL (L : xF4 Int64) : xF4 Int64 := xz L 11 0 0 0
theorem c_tape {R : xF4 (Option xId)} {I : xF4 Int32} {L : xF4 Int64} : Tri 1 82 m_X9_init [vR 10 0 0] (81, (R, (I, L))) (pN 82 (c_tapeR R) (c_tapeI I) (c_tapeL L)) := by
  refine ⟨k_X9_init, Nat.le_of_ble_eq_true rfl, ?_⟩
  show Wp _ _ _ 0 [some (vR 10 0 0)] [] (81, (R, (I, L))) _
  refine w_aload_n dX9_init_0 rfl ?_
  refine w_objInit (o := none) oi_X9_3 oi_ins oi_code (by decide) dX9_init_1 rfl ?_
  refine w_aload_n dX9_init_4 rfl ?_
  refine w_sipush (v := 160) dX9_init_5 (by decide) ?_
  refine w_newa (t := 11) (k := 0) (j := 0) (ty := .byte) (e := 1) rfl (by decide) rfl (fun _ => rfl) rfl ac_byte (by decide) (by decide) (Nat.le_of_ble_eq_true rfl) rfl (by decide) (by decide) dX9_init_8 ?_
  refine w_putR fp_X9_9 rfl rfl rfl (fun _ => rfl) (fun _ => rfl) dX9_init_10 ?_
  refine w_aload_n dX9_init_13 rfl ?_
  refine w_iconst (v := 0) dX9_init_14 (by decide) ?_
  refine w_putI ff_X9_15 rfl rfl rfl rfl dX9_init_15 ?_
  refine w_aload_n dX9_init_18 rfl ?_
  refine w_iconst (v := 0) dX9_init_19 (by decide) ?_
  refine w_putI ff_X9_19 rfl rfl rfl rfl dX9_init_20 ?_
  refine w_aload_n dX9_init_23 rfl ?_
  refine w_iconst (v := 0) dX9_init_24 (by decide) ?_
  refine w_putI ff_X9_22 rfl rfl rfl rfl dX9_init_25 ?_
  exact w_return dX9_init_28 rfl rfl (⟨rfl, rfl⟩)

def c_docketIR (R : xF4 (Option xId)) : xF4 (Option xId) := xup (xz R 13 0 0 none) 12 0 0 0 (some (13, 0, 0))
def c_docketII (I : xF4 Int32) : xF4 Int32 := xup (xz I 13 0 0 0) 12 0 0 1 (0)
def c_docketIL (L : xF4 Int64) : xF4 Int64 := xz L 13 0 0 0
theorem c_docketI {R : xF4 (Option xId)} {I : xF4 Int32} {L : xF4 Int64} : Tri 1 84 m_X2_init [vR 12 0 0] (83, (R, (I, L))) (pN 84 (c_docketIR R) (c_docketII I) (c_docketIL L)) := by
  refine ⟨k_X2_init, Nat.le_of_ble_eq_true rfl, ?_⟩
  show Wp _ _ _ 0 [some (vR 12 0 0)] [] (83, (R, (I, L))) _
  refine w_aload_n dX2_init_0 rfl ?_
  refine w_objInit (o := none) oi_X2_3 oi_ins oi_code (by decide) dX2_init_1 rfl ?_
  refine w_aload_n dX2_init_4 rfl ?_
  refine w_iconst (v := 4) dX2_init_5 (by decide) ?_
  refine w_newa (t := 13) (k := 0) (j := 0) (ty := .int) (e := 0) rfl (by decide) rfl (fun _ => rfl) rfl ac_int (by decide) (by decide) (Nat.le_of_ble_eq_true rfl) rfl (by decide) (by decide) dX2_init_6 ?_
  refine w_putR fp_X2_9 rfl rfl rfl (fun _ => rfl) (fun _ => rfl) dX2_init_8 ?_
  refine w_aload_n dX2_init_11 rfl ?_
  refine w_iconst (v := 0) dX2_init_12 (by decide) ?_
  refine w_putI ff_X2_15 rfl rfl rfl rfl dX2_init_13 ?_
  exact w_return dX2_init_16 rfl rfl (⟨rfl, rfl⟩)

def c_rosterR (R : xF4 (Option xId)) : xF4 (Option xId) := xup (xz (xup (xz R 15 0 0 none) 14 0 0 0 (some (15, 0, 0))) 16 0 0 none) 14 0 0 1 (some (16, 0, 0))
def c_rosterI (I : xF4 Int32) : xF4 Int32 := xz (xz I 15 0 0 0) 16 0 0 0
def c_rosterL (L : xF4 Int64) : xF4 Int64 := xz (xz L 15 0 0 0) 16 0 0 0
theorem c_roster {R : xF4 (Option xId)} {I : xF4 Int32} {L : xF4 Int64} : Tri 1 87 m_X5_init [vR 14 0 0] (85, (R, (I, L))) (pN 87 (c_rosterR R) (c_rosterI I) (c_rosterL L)) := by
  refine ⟨k_X5_init, Nat.le_of_ble_eq_true rfl, ?_⟩
  show Wp _ _ _ 0 [some (vR 14 0 0)] [] (85, (R, (I, L))) _
  refine w_aload_n dX5_init_0 rfl ?_
  refine w_objInit (o := none) oi_X5_3 oi_ins oi_code (by decide) dX5_init_1 rfl ?_
  refine w_aload_n dX5_init_4 rfl ?_
  refine w_iconst (v := 4) dX5_init_5 (by decide) ?_
  refine w_newa (t := 15) (k := 0) (j := 0) (ty := .int) (e := 0) rfl (by decide) rfl (fun _ => rfl) rfl ac_int (by decide) (by decide) (Nat.le_of_ble_eq_true rfl) rfl (by decide) (by decide) dX5_init_6 ?_
  refine w_putR fp_X5_9 rfl rfl rfl (fun _ => rfl) (fun _ => rfl) dX5_init_8 ?_
  refine w_aload_n dX5_init_11 rfl ?_
  refine w_iconst (v := 4) dX5_init_12 (by decide) ?_
  refine w_newa (t := 16) (k := 0) (j := 0) (ty := .int) (e := 0) rfl (by decide) rfl (fun _ => rfl) rfl ac_int (by decide) (by decide) (Nat.le_of_ble_eq_true rfl) rfl (by decide) (by decide) dX5_init_13 ?_
  refine w_putR fp_X5_15 rfl rfl rfl (fun _ => rfl) (fun _ => rfl) dX5_init_15 ?_
  exact w_return dX5_init_18 rfl rfl (⟨rfl, rfl⟩)

def c_cluesR (R : xF4 (Option xId)) : xF4 (Option xId) := xup (xz R 18 0 0 none) 17 0 0 0 (some (18, 0, 0))
def c_cluesI (I : xF4 Int32) : xF4 Int32 := xz I 18 0 0 0
def c_cluesL (L : xF4 Int64) : xF4 Int64 := xz L 18 0 0 0
theorem c_clues {R : xF4 (Option xId)} {I : xF4 Int32} {L : xF4 Int64} : Tri 1 89 m_X0_init [vR 17 0 0] (88, (R, (I, L))) (pN 89 (c_cluesR R) (c_cluesI I) (c_cluesL L)) := by
  refine ⟨k_X0_init, Nat.le_of_ble_eq_true rfl, ?_⟩
  show Wp _ _ _ 0 [some (vR 17 0 0)] [] (88, (R, (I, L))) _
  refine w_aload_n dX0_init_0 rfl ?_
  refine w_objInit (o := none) oi_X0_3 oi_ins oi_code (by decide) dX0_init_1 rfl ?_
  refine w_aload_n dX0_init_4 rfl ?_
  refine w_iconst (v := 4) dX0_init_5 (by decide) ?_
  refine w_newa (t := 18) (k := 0) (j := 0) (ty := .int) (e := 0) rfl (by decide) rfl (fun _ => rfl) rfl ac_int (by decide) (by decide) (Nat.le_of_ble_eq_true rfl) rfl (by decide) (by decide) dX0_init_6 ?_
  refine w_putR fp_X0_9 rfl rfl rfl (fun _ => rfl) (fun _ => rfl) dX0_init_8 ?_
  exact w_return dX0_init_11 rfl rfl (⟨rfl, rfl⟩)

def c_sheet_0R (R : xF4 (Option xId)) : xF4 (Option xId) := xup (xz R 21 0 0 none) 20 0 0 0 (some (21, 0, 0))
def c_sheet_0I (I : xF4 Int32) : xF4 Int32 := xup (xz I 21 0 0 0) 20 0 0 1 (0)
def c_sheet_0L (L : xF4 Int64) : xF4 Int64 := xz L 21 0 0 0
theorem c_sheet_0 {R : xF4 (Option xId)} {I : xF4 Int32} {L : xF4 Int64} : Tri 1 92 m_X6_init [vR 20 0 0] (91, (R, (I, L))) (pN 92 (c_sheet_0R R) (c_sheet_0I I) (c_sheet_0L L)) := by
  refine ⟨k_X6_init, Nat.le_of_ble_eq_true rfl, ?_⟩
  show Wp _ _ _ 0 [some (vR 20 0 0)] [] (91, (R, (I, L))) _
  refine w_aload_n dX6_init_0 rfl ?_
  refine w_objInit (o := none) oi_X6_3 oi_ins oi_code (by decide) dX6_init_1 rfl ?_
  refine w_aload_n dX6_init_4 rfl ?_
  refine w_bipush (v := 40) dX6_init_5 (by decide) ?_
  refine w_newa (t := 21) (k := 0) (j := 0) (ty := .int) (e := 0) rfl (by decide) rfl (fun _ => rfl) rfl ac_int (by decide) (by decide) (Nat.le_of_ble_eq_true rfl) rfl (by decide) (by decide) dX6_init_7 ?_
  refine w_putR fp_X6_9 rfl rfl rfl (fun _ => rfl) (fun _ => rfl) dX6_init_9 ?_
  refine w_aload_n dX6_init_12 rfl ?_
  refine w_iconst (v := 0) dX6_init_13 (by decide) ?_
  refine w_putI ff_X6_15 rfl rfl rfl rfl dX6_init_14 ?_
  exact w_return dX6_init_17 rfl rfl (⟨rfl, rfl⟩)

def c_sheet_1R (R : xF4 (Option xId)) : xF4 (Option xId) := xup (xz R 21 1 0 none) 20 1 0 0 (some (21, 1, 0))
def c_sheet_1I (I : xF4 Int32) : xF4 Int32 := xup (xz I 21 1 0 0) 20 1 0 1 (0)
def c_sheet_1L (L : xF4 Int64) : xF4 Int64 := xz L 21 1 0 0
theorem c_sheet_1 {R : xF4 (Option xId)} {I : xF4 Int32} {L : xF4 Int64} : Tri 1 94 m_X6_init [vR 20 1 0] (93, (R, (I, L))) (pN 94 (c_sheet_1R R) (c_sheet_1I I) (c_sheet_1L L)) := by
  refine ⟨k_X6_init, Nat.le_of_ble_eq_true rfl, ?_⟩
  show Wp _ _ _ 0 [some (vR 20 1 0)] [] (93, (R, (I, L))) _
  refine w_aload_n dX6_init_0 rfl ?_
  refine w_objInit (o := none) oi_X6_3 oi_ins oi_code (by decide) dX6_init_1 rfl ?_
  refine w_aload_n dX6_init_4 rfl ?_
  refine w_bipush (v := 40) dX6_init_5 (by decide) ?_
  refine w_newa (t := 21) (k := 1) (j := 0) (ty := .int) (e := 0) rfl (by decide) rfl (fun _ => rfl) rfl ac_int (by decide) (by decide) (Nat.le_of_ble_eq_true rfl) rfl (by decide) (by decide) dX6_init_7 ?_
  refine w_putR fp_X6_9 rfl rfl rfl (fun _ => rfl) (fun _ => rfl) dX6_init_9 ?_
  refine w_aload_n dX6_init_12 rfl ?_
  refine w_iconst (v := 0) dX6_init_13 (by decide) ?_
  refine w_putI ff_X6_15 rfl rfl rfl rfl dX6_init_14 ?_
  exact w_return dX6_init_17 rfl rfl (⟨rfl, rfl⟩)

def c_sheet_2R (R : xF4 (Option xId)) : xF4 (Option xId) := xup (xz R 21 2 0 none) 20 2 0 0 (some (21, 2, 0))
def c_sheet_2I (I : xF4 Int32) : xF4 Int32 := xup (xz I 21 2 0 0) 20 2 0 1 (0)
def c_sheet_2L (L : xF4 Int64) : xF4 Int64 := xz L 21 2 0 0
theorem c_sheet_2 {R : xF4 (Option xId)} {I : xF4 Int32} {L : xF4 Int64} : Tri 1 96 m_X6_init [vR 20 2 0] (95, (R, (I, L))) (pN 96 (c_sheet_2R R) (c_sheet_2I I) (c_sheet_2L L)) := by
  refine ⟨k_X6_init, Nat.le_of_ble_eq_true rfl, ?_⟩
  show Wp _ _ _ 0 [some (vR 20 2 0)] [] (95, (R, (I, L))) _
  refine w_aload_n dX6_init_0 rfl ?_
  refine w_objInit (o := none) oi_X6_3 oi_ins oi_code (by decide) dX6_init_1 rfl ?_
  refine w_aload_n dX6_init_4 rfl ?_
  refine w_bipush (v := 40) dX6_init_5 (by decide) ?_
  refine w_newa (t := 21) (k := 2) (j := 0) (ty := .int) (e := 0) rfl (by decide) rfl (fun _ => rfl) rfl ac_int (by decide) (by decide) (Nat.le_of_ble_eq_true rfl) rfl (by decide) (by decide) dX6_init_7 ?_
  refine w_putR fp_X6_9 rfl rfl rfl (fun _ => rfl) (fun _ => rfl) dX6_init_9 ?_
  refine w_aload_n dX6_init_12 rfl ?_
  refine w_iconst (v := 0) dX6_init_13 (by decide) ?_
  refine w_putI ff_X6_15 rfl rfl rfl rfl dX6_init_14 ?_
  exact w_return dX6_init_17 rfl rfl (⟨rfl, rfl⟩)

def c_sheet_3R (R : xF4 (Option xId)) : xF4 (Option xId) := xup (xz R 21 3 0 none) 20 3 0 0 (some (21, 3, 0))
def c_sheet_3I (I : xF4 Int32) : xF4 Int32 := xup (xz I 21 3 0 0) 20 3 0 1 (0)
def c_sheet_3L (L : xF4 Int64) : xF4 Int64 := xz L 21 3 0 0
theorem c_sheet_3 {R : xF4 (Option xId)} {I : xF4 Int32} {L : xF4 Int64} : Tri 1 98 m_X6_init [vR 20 3 0] (97, (R, (I, L))) (pN 98 (c_sheet_3R R) (c_sheet_3I I) (c_sheet_3L L)) := by
  refine ⟨k_X6_init, Nat.le_of_ble_eq_true rfl, ?_⟩
  show Wp _ _ _ 0 [some (vR 20 3 0)] [] (97, (R, (I, L))) _
  refine w_aload_n dX6_init_0 rfl ?_
  refine w_objInit (o := none) oi_X6_3 oi_ins oi_code (by decide) dX6_init_1 rfl ?_
  refine w_aload_n dX6_init_4 rfl ?_
  refine w_bipush (v := 40) dX6_init_5 (by decide) ?_
  refine w_newa (t := 21) (k := 3) (j := 0) (ty := .int) (e := 0) rfl (by decide) rfl (fun _ => rfl) rfl ac_int (by decide) (by decide) (Nat.le_of_ble_eq_true rfl) rfl (by decide) (by decide) dX6_init_7 ?_
  refine w_putR fp_X6_9 rfl rfl rfl (fun _ => rfl) (fun _ => rfl) dX6_init_9 ?_
  refine w_aload_n dX6_init_12 rfl ?_
  refine w_iconst (v := 0) dX6_init_13 (by decide) ?_
  refine w_putI ff_X6_15 rfl rfl rfl rfl dX6_init_14 ?_
  exact w_return dX6_init_17 rfl rfl (⟨rfl, rfl⟩)
