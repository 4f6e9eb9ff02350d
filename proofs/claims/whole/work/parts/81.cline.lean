/-! the class's lines (by wip/whole/gen/g82.py) -/
abbrev pLn (r : tS × (aA × Bool)) (I : xF4 Int32) (L : xF4 Int64) : Option xV → xM → Prop := fun v M => v = none ∧ ∃ I', M = rM I' L ∧ TC I' r.1 ∧ FrZ I I' ∧ ∀ q, r.1 = .inr q → CourtIs I' 1 r.2.1 ∧ I' 10 0 0 8 = tI r.2.2
theorem TC.z {I I' : xF4 Int32} {s : tS} (h : TC I s) (e : FrC 1 I I') : TC I' s := h.eqv (fun x => e 10 0 0 x (by omega))

theorem c_addJ {I : xF4 Int32} {L : xF4 Int64} {k x : Nat} (h3 : I 1 k 0 3 = nI x) (hx : x < 4) : Tri 0 109 m_X1_addJudge [vR 1 k 0] (rM I L) (pI 1 (xup I 1 k 0 3 (nI (x + 1))) L) := by
  refine ⟨k_X1_addJudge, Nat.le_of_ble_eq_true rfl, ?_⟩
  show Wp _ _ _ 0 [some (vR 1 k 0)] [] (rM I L) _
  refine w_aload_n dX1_addJudge_0 rfl ?_
  refine w_getI ff_X1_35 rfl rfl dX1_addJudge_1 ?_
  rw [show (I 1 k 0 3 : Int32) = nI x from h3]
  refine w_aload_n dX1_addJudge_4 rfl ?_
  refine w_getR (w := some (2, k, 0)) ff_X1_11 rfl rfl dX1_addJudge_5 rfl ?_
  refine w_alen (v := 4) rfl rfl dX1_addJudge_8 ?_
  refine w_icmp_lt (tgt := 14) dX1_addJudge_9 (by decide) (fun h1 => ?_) (fun h1 => ?_)
  · skip
    replace h1 : ((x : Nat) : Int) < 4 := (zlt (z_nI (by omega)) (by decide)).mp h1
    first
    | (exfalso; omega)
    | skip
      refine w_aload_n dX1_addJudge_14 rfl ?_
      refine w_dup dX1_addJudge_15 rfl ?_
      refine w_getI ff_X1_35 rfl rfl dX1_addJudge_16 ?_
      rw [show (I 1 k 0 3 : Int32) = nI x from h3]
      refine w_iconst (v := 1) dX1_addJudge_19 (by decide) ?_
      refine w_iadd dX1_addJudge_20 ?_
      rw [show ((nI x) + (1) : Int32) = nI (x + 1) from ar_add (p := x) (q := 1) rfl rfl (by omega)]
      refine w_putI ff_X1_35 rfl rfl rfl rfl dX1_addJudge_21 ?_
      refine w_iconst (v := 1) dX1_addJudge_24 (by decide) ?_
      exact w_ireturn dX1_addJudge_25 rfl (rfl) rfl (⟨rfl, rfl⟩)
  · skip
    replace h1 : ¬ (((x : Nat) : Int) < 4) := fun q => h1 ((zlt (z_nI (by omega)) (by decide)).mpr q)
    first
    | (exfalso; omega)
    | skip
      exfalso
      omega

theorem c_addJo {I : xF4 Int32} {L : xF4 Int64} {k x : Nat} (h3 : I 1 k 0 3 = nI x) (hx : x = 4) : Tri 0 109 m_X1_addJudge [vR 1 k 0] (rM I L) (pI 0 I L) := by
  refine ⟨k_X1_addJudge, Nat.le_of_ble_eq_true rfl, ?_⟩
  show Wp _ _ _ 0 [some (vR 1 k 0)] [] (rM I L) _
  refine w_aload_n dX1_addJudge_0 rfl ?_
  refine w_getI ff_X1_35 rfl rfl dX1_addJudge_1 ?_
  rw [show (I 1 k 0 3 : Int32) = nI x from h3]
  refine w_aload_n dX1_addJudge_4 rfl ?_
  refine w_getR (w := some (2, k, 0)) ff_X1_11 rfl rfl dX1_addJudge_5 rfl ?_
  refine w_alen (v := 4) rfl rfl dX1_addJudge_8 ?_
  refine w_icmp_lt (tgt := 14) dX1_addJudge_9 (by decide) (fun h1 => ?_) (fun h1 => ?_)
  · skip
    replace h1 : ((x : Nat) : Int) < 4 := (zlt (z_nI (by omega)) (by decide)).mp h1
    first
    | (exfalso; omega)
    | skip
      exfalso
      omega
  · skip
    replace h1 : ¬ (((x : Nat) : Int) < 4) := fun q => h1 ((zlt (z_nI (by omega)) (by decide)).mpr q)
    first
    | (exfalso; omega)
    | skip
      refine w_iconst (v := 0) dX1_addJudge_12 (by decide) ?_
      exact w_ireturn dX1_addJudge_13 rfl (rfl) rfl (⟨rfl, rfl⟩)

theorem c_addS {I : xF4 Int32} {L : xF4 Int64} {k x : Nat} (h3 : I 1 k 0 4 = nI x) (hx : x < 5) : Tri 0 109 m_X1_addSuit [vR 1 k 0] (rM I L) (pI 1 (xup I 1 k 0 4 (nI (x + 1))) L) := by
  refine ⟨k_X1_addSuit, Nat.le_of_ble_eq_true rfl, ?_⟩
  show Wp _ _ _ 0 [some (vR 1 k 0)] [] (rM I L) _
  refine w_aload_n dX1_addSuit_0 rfl ?_
  refine w_getI ff_X1_39 rfl rfl dX1_addSuit_1 ?_
  rw [show (I 1 k 0 4 : Int32) = nI x from h3]
  refine w_aload_n dX1_addSuit_4 rfl ?_
  refine w_getR (w := some (4, k, 0)) ff_X1_20 rfl rfl dX1_addSuit_5 rfl ?_
  refine w_alen (v := 5) rfl rfl dX1_addSuit_8 ?_
  refine w_icmp_lt (tgt := 14) dX1_addSuit_9 (by decide) (fun h1 => ?_) (fun h1 => ?_)
  · skip
    replace h1 : ((x : Nat) : Int) < 5 := (zlt (z_nI (by omega)) (by decide)).mp h1
    first
    | (exfalso; omega)
    | skip
      refine w_aload_n dX1_addSuit_14 rfl ?_
      refine w_dup dX1_addSuit_15 rfl ?_
      refine w_getI ff_X1_39 rfl rfl dX1_addSuit_16 ?_
      rw [show (I 1 k 0 4 : Int32) = nI x from h3]
      refine w_iconst (v := 1) dX1_addSuit_19 (by decide) ?_
      refine w_iadd dX1_addSuit_20 ?_
      rw [show ((nI x) + (1) : Int32) = nI (x + 1) from ar_add (p := x) (q := 1) rfl rfl (by omega)]
      refine w_putI ff_X1_39 rfl rfl rfl rfl dX1_addSuit_21 ?_
      refine w_iconst (v := 1) dX1_addSuit_24 (by decide) ?_
      exact w_ireturn dX1_addSuit_25 rfl (rfl) rfl (⟨rfl, rfl⟩)
  · skip
    replace h1 : ¬ (((x : Nat) : Int) < 5) := fun q => h1 ((zlt (z_nI (by omega)) (by decide)).mpr q)
    first
    | (exfalso; omega)
    | skip
      exfalso
      omega

theorem c_addSo {I : xF4 Int32} {L : xF4 Int64} {k x : Nat} (h3 : I 1 k 0 4 = nI x) (hx : x = 5) : Tri 0 109 m_X1_addSuit [vR 1 k 0] (rM I L) (pI 0 I L) := by
  refine ⟨k_X1_addSuit, Nat.le_of_ble_eq_true rfl, ?_⟩
  show Wp _ _ _ 0 [some (vR 1 k 0)] [] (rM I L) _
  refine w_aload_n dX1_addSuit_0 rfl ?_
  refine w_getI ff_X1_39 rfl rfl dX1_addSuit_1 ?_
  rw [show (I 1 k 0 4 : Int32) = nI x from h3]
  refine w_aload_n dX1_addSuit_4 rfl ?_
  refine w_getR (w := some (4, k, 0)) ff_X1_20 rfl rfl dX1_addSuit_5 rfl ?_
  refine w_alen (v := 5) rfl rfl dX1_addSuit_8 ?_
  refine w_icmp_lt (tgt := 14) dX1_addSuit_9 (by decide) (fun h1 => ?_) (fun h1 => ?_)
  · skip
    replace h1 : ((x : Nat) : Int) < 5 := (zlt (z_nI (by omega)) (by decide)).mp h1
    first
    | (exfalso; omega)
    | skip
      exfalso
      omega
  · skip
    replace h1 : ¬ (((x : Nat) : Int) < 5) := fun q => h1 ((zlt (z_nI (by omega)) (by decide)).mpr q)
    first
    | (exfalso; omega)
    | skip
      refine w_iconst (v := 0) dX1_addSuit_12 (by decide) ?_
      exact w_ireturn dX1_addSuit_13 rfl (rfl) rfl (⟨rfl, rfl⟩)

theorem c_jAtN {I : xF4 Int32} {L : xF4 Int64} {k x i : Nat} (h3 : I 1 k 0 3 = nI x) (hx : x ≤ 4) (hi : i < x) : Tri 0 109 m_X1_judgeAt [vR 1 k 0, vI (nI i)] (rM I L) (pO (some (3, k, i)) I L) := by
  refine ⟨k_X1_judgeAt, Nat.le_of_ble_eq_true rfl, ?_⟩
  show Wp _ _ _ 0 [some (vR 1 k 0), some (vI (nI i))] [] (rM I L) _
  refine w_iload_n dX1_judgeAt_0 rfl ?_
  refine w_if_lt (tgt := 30) dX1_judgeAt_1 (by decide) (fun h1 => ?_) (fun h1 => ?_)
  · skip
    replace h1 : ((i : Nat) : Int) < 0 := (zlt (z_nI (by omega)) (by decide)).mp h1
    first
    | (exfalso; omega)
    | skip
      exfalso
      omega
  · skip
    replace h1 : ¬ (((i : Nat) : Int) < 0) := fun q => h1 ((zlt (z_nI (by omega)) (by decide)).mpr q)
    first
    | (exfalso; omega)
    | skip
      refine w_iload_n dX1_judgeAt_4 rfl ?_
      refine w_aload_n dX1_judgeAt_5 rfl ?_
      refine w_getI ff_X1_35 rfl rfl dX1_judgeAt_6 ?_
      rw [show (I 1 k 0 3 : Int32) = nI x from h3]
      refine w_icmp_ge (tgt := 30) dX1_judgeAt_9 (by decide) (fun h2 => ?_) (fun h2 => ?_)
      · skip
        replace h2 : ((x : Nat) : Int) ≤ ((i : Nat) : Int) := (zle (z_nI (by omega)) (z_nI (by omega))).mp h2
        first
        | (exfalso; omega)
        | skip
          exfalso
          omega
      · skip
        replace h2 : ¬ (((x : Nat) : Int) ≤ ((i : Nat) : Int)) := fun q => h2 ((zle (z_nI (by omega)) (z_nI (by omega))).mpr q)
        first
        | (exfalso; omega)
        | skip
          refine w_iload_n dX1_judgeAt_12 rfl ?_
          refine w_aload_n dX1_judgeAt_13 rfl ?_
          refine w_getR (w := some (2, k, 0)) ff_X1_11 rfl rfl dX1_judgeAt_14 rfl ?_
          refine w_alen (v := 4) rfl rfl dX1_judgeAt_17 ?_
          refine w_icmp_ge (tgt := 30) dX1_judgeAt_18 (by decide) (fun h3 => ?_) (fun h3 => ?_)
          · skip
            replace h3 : 4 ≤ ((i : Nat) : Int) := (zle (by decide) (z_nI (by omega))).mp h3
            first
            | (exfalso; omega)
            | skip
              exfalso
              omega
          · skip
            replace h3 : ¬ (4 ≤ ((i : Nat) : Int)) := fun q => h3 ((zle (by decide) (z_nI (by omega))).mpr q)
            first
            | (exfalso; omega)
            | skip
              refine w_aload_n dX1_judgeAt_21 rfl ?_
              refine w_getR (w := some (2, k, 0)) ff_X1_11 rfl rfl dX1_judgeAt_22 rfl ?_
              refine w_iload_n dX1_judgeAt_25 rfl ?_
              refine w_aaload (a := i) (w := some (3, k, i)) rfl (by decide) (fun _ => rfl) (vp_in_nI (n := i) (by omega) (by omega)) (nI_clamp (n := i) (by omega)) (if_pos (by omega)) dX1_judgeAt_26 ?_
              refine w_goto (tgt := 31) dX1_judgeAt_27 (by decide) ?_
              exact w_areturn dX1_judgeAt_31 rfl rfl (⟨rfl, rfl⟩)

theorem c_sAtN {I : xF4 Int32} {L : xF4 Int64} {k x i : Nat} (h3 : I 1 k 0 4 = nI x) (hx : x ≤ 5) (hi : i < x) : Tri 0 109 m_X1_suitAt [vR 1 k 0, vI (nI i)] (rM I L) (pO (some (5, k, i)) I L) := by
  refine ⟨k_X1_suitAt, Nat.le_of_ble_eq_true rfl, ?_⟩
  show Wp _ _ _ 0 [some (vR 1 k 0), some (vI (nI i))] [] (rM I L) _
  refine w_iload_n dX1_suitAt_0 rfl ?_
  refine w_if_lt (tgt := 30) dX1_suitAt_1 (by decide) (fun h1 => ?_) (fun h1 => ?_)
  · skip
    replace h1 : ((i : Nat) : Int) < 0 := (zlt (z_nI (by omega)) (by decide)).mp h1
    first
    | (exfalso; omega)
    | skip
      exfalso
      omega
  · skip
    replace h1 : ¬ (((i : Nat) : Int) < 0) := fun q => h1 ((zlt (z_nI (by omega)) (by decide)).mpr q)
    first
    | (exfalso; omega)
    | skip
      refine w_iload_n dX1_suitAt_4 rfl ?_
      refine w_aload_n dX1_suitAt_5 rfl ?_
      refine w_getI ff_X1_39 rfl rfl dX1_suitAt_6 ?_
      rw [show (I 1 k 0 4 : Int32) = nI x from h3]
      refine w_icmp_ge (tgt := 30) dX1_suitAt_9 (by decide) (fun h2 => ?_) (fun h2 => ?_)
      · skip
        replace h2 : ((x : Nat) : Int) ≤ ((i : Nat) : Int) := (zle (z_nI (by omega)) (z_nI (by omega))).mp h2
        first
        | (exfalso; omega)
        | skip
          exfalso
          omega
      · skip
        replace h2 : ¬ (((x : Nat) : Int) ≤ ((i : Nat) : Int)) := fun q => h2 ((zle (z_nI (by omega)) (z_nI (by omega))).mpr q)
        first
        | (exfalso; omega)
        | skip
          refine w_iload_n dX1_suitAt_12 rfl ?_
          refine w_aload_n dX1_suitAt_13 rfl ?_
          refine w_getR (w := some (4, k, 0)) ff_X1_20 rfl rfl dX1_suitAt_14 rfl ?_
          refine w_alen (v := 5) rfl rfl dX1_suitAt_17 ?_
          refine w_icmp_ge (tgt := 30) dX1_suitAt_18 (by decide) (fun h3 => ?_) (fun h3 => ?_)
          · skip
            replace h3 : 5 ≤ ((i : Nat) : Int) := (zle (by decide) (z_nI (by omega))).mp h3
            first
            | (exfalso; omega)
            | skip
              exfalso
              omega
          · skip
            replace h3 : ¬ (5 ≤ ((i : Nat) : Int)) := fun q => h3 ((zle (by decide) (z_nI (by omega))).mpr q)
            first
            | (exfalso; omega)
            | skip
              refine w_aload_n dX1_suitAt_21 rfl ?_
              refine w_getR (w := some (4, k, 0)) ff_X1_20 rfl rfl dX1_suitAt_22 rfl ?_
              refine w_iload_n dX1_suitAt_25 rfl ?_
              refine w_aaload (a := i) (w := some (5, k, i)) rfl (by decide) (fun _ => rfl) (vp_in_nI (n := i) (by omega) (by omega)) (nI_clamp (n := i) (by omega)) (if_pos (by omega)) dX1_suitAt_26 ?_
              refine w_goto (tgt := 31) dX1_suitAt_27 (by decide) ?_
              exact w_areturn dX1_suitAt_31 rfl rfl (⟨rfl, rfl⟩)

theorem c_lineJ1 {I : xF4 Int32} {L : xF4 Int64} {n : Nat} {b : Nat → Nat} (hk : BK n b) (ht : TB I n b) {s : tS} (hok : OKT n s) (h : TC I s) {a : aA} {t : Bool} (hc : CourtIs I 1 a) (h8 : I 10 0 0 8 = tI t) (hj : nJ a < 4) (w : Nat) : Tri 4 109 m_X9_lineOfJudge [vR 10 0 0, vR 1 1 0, vI (nI w)] (rM I L) (pLn (uJ2 n b a s, (adJ a w (vlS (uJ1 n b a s)) (vlS (uJ2 n b a s)), t)) I L) := by
  refine ⟨k_X9_lineOfJudge, Nat.le_of_ble_eq_true rfl, ?_⟩
  show Wp _ _ _ 0 [some (vR 10 0 0), some (vR 1 1 0), some (vI (nI w)), none, none, none] [] (rM I L) _
  obtain ⟨x, hx⟩ : ∃ x, x = nJ a := ⟨_, rfl⟩
  have c3 := hc.1
  rw [← hx] at c3 hj
  unfold uJ2 uJ1
  rw [if_pos (show nJ a < 4 from by omega)]
  refine w_aload_n dX9_lineOfJudge_0 rfl ?_
  refine w_callV (as := []) (st := []) (Tri.mono (c_addJ c3 hj) (Nat.le_of_ble_eq_true rfl)) rfl rfl tg_X1_addJudge lk_X9_65 in_X1_addJudge se_X1_addJudge rfl dX9_lineOfJudge_1 rfl (Nat.le_of_ble_eq_true rfl) (Nat.le_refl _) (Nat.le_refl _) ?_
  rintro _ _ ⟨rfl, rfl⟩ -
  refine w_if_ne (tgt := 12) dX9_lineOfJudge_4 (by decide) (fun _ => ?_) (fun h => absurd h ((by decide : ¬ (1 : Int32) = 0)))
  refine w_aload_n dX9_lineOfJudge_12 rfl ?_
  refine w_iconst (v := 1) dX9_lineOfJudge_13 (by decide) ?_
  refine w_bipush (v := 20) dX9_lineOfJudge_14 (by decide) ?_
  refine w_callV (as := [vI (1), vI (20)]) (st := []) (Tri.mono (c_number (I := xup I 1 1 0 3 (nI (x + 1))) hk (ht.eqv (I' := xup I 1 1 0 3 (nI (x + 1))) (fun t y z => xup_tag (by omega))) hok (h.eqv (fun y => xup_tag (by decide))) (lo := 1) (hi := 20) (fun _ _ => by decide) (by decide)) (Nat.le_of_ble_eq_true rfl)) rfl rfl tg_X9_number lk_X9_69 in_X9_number se_X9_number rfl dX9_lineOfJudge_16 rfl (Nat.le_of_ble_eq_true rfl) (Nat.le_refl _) (Nat.le_refl _) ?_
  rintro v M9 ⟨x1, rfl, I1, rfl, t1, f1, v1⟩ -
  refine w_istore_n (ls' := [some (vR 10 0 0), some (vR 1 1 0), some (vI (nI w)), some (vI (x1)), none, none]) dX9_lineOfJudge_19 rfl ?_
  refine w_aload_n dX9_lineOfJudge_20 rfl ?_
  refine w_iconst (v := 0) dX9_lineOfJudge_21 (by decide) ?_
  refine w_bipush (v := 99) dX9_lineOfJudge_22 (by decide) ?_
  refine w_callV (as := [vI (0), vI (99)]) (st := []) (Tri.mono (c_number (I := I1) hk ((ht.eqv (I' := xup I 1 1 0 3 (nI (x + 1))) (fun t y z => xup_tag (by omega))).fr f1) (ch_ok (tk_ok hok)) t1 (lo := 0) (hi := 99) (fun _ _ => by decide) (by decide)) (Nat.le_of_ble_eq_true rfl)) rfl rfl tg_X9_number lk_X9_69 in_X9_number se_X9_number rfl dX9_lineOfJudge_24 rfl (Nat.le_of_ble_eq_true rfl) (Nat.le_refl _) (Nat.le_refl _) ?_
  rintro v M9 ⟨x2, rfl, I2, rfl, t2, f2, v2⟩ -
  refine w_istore (ls' := [some (vR 10 0 0), some (vR 1 1 0), some (vI (nI w)), some (vI (x1)), some (vI (x2)), none]) dX9_lineOfJudge_27 rfl ?_
  refine w_aload_n dX9_lineOfJudge_29 rfl ?_
  refine w_aload_n dX9_lineOfJudge_30 rfl ?_
  refine w_getI ff_X9_73 rfl rfl dX9_lineOfJudge_31 ?_
  rw [show (I2 1 1 0 3 : Int32) = nI (x + 1) from ((f2 1 1 0 3 (by omega)).trans ((f1 1 1 0 3 (by omega)).trans xup_self))]
  refine w_iconst (v := 1) dX9_lineOfJudge_34 (by decide) ?_
  refine w_isub dX9_lineOfJudge_35 ?_
  refine w_top (y := nI x) (show ((nI (x + 1)) - (1) : Int32) = nI x from ar_sub (p := x + 1) (q := 1) rfl rfl (by omega) (by omega)) ?_
  refine w_callV (as := [vI (nI x)]) (st := []) (Tri.mono (c_jAtN (x := x + 1) ((f2 1 1 0 3 (by omega)).trans ((f1 1 1 0 3 (by omega)).trans xup_self)) (by omega) (by omega)) (Nat.le_of_ble_eq_true rfl)) rfl rfl tg_X1_judgeAt lk_X9_76 in_X1_judgeAt se_X1_judgeAt rfl dX9_lineOfJudge_36 rfl (Nat.le_of_ble_eq_true rfl) (Nat.le_refl _) (Nat.le_refl _) ?_
  rintro _ _ ⟨rfl, rfl⟩ -
  refine w_astore (ls' := [some (vR 10 0 0), some (vR 1 1 0), some (vI (nI w)), some (vI (x1)), some (vI (x2)), some (vR 3 1 x)]) dX9_lineOfJudge_39 rfl ?_
  refine w_aload dX9_lineOfJudge_41 rfl ?_
  refine w_ifnull (tgt := 55) dX9_lineOfJudge_43 (by decide) (fun h => by cases h) (fun _ _ => ?_)
  refine w_aload dX9_lineOfJudge_46 rfl ?_
  refine w_iload_n dX9_lineOfJudge_48 rfl ?_
  refine w_iload_n dX9_lineOfJudge_49 rfl ?_
  refine w_iload dX9_lineOfJudge_50 rfl ?_
  refine w_callV (as := [vI (nI w), vI (x1), vI (x2)]) (st := []) (Tri.mono (c_X4_begin 1 x (nI w) x1 x2) (Nat.le_of_ble_eq_true rfl)) rfl rfl tg_X4_begin lk_X9_80 in_X4_begin se_X4_begin rfl dX9_lineOfJudge_52 rfl (Nat.le_of_ble_eq_true rfl) (Nat.le_refl _) (Nat.le_refl _) ?_
  rintro _ _ ⟨rfl, rfl⟩ -
  have e1 : ∀ t j s, t < 10 → ¬ (t = 1 ∧ j = 0 ∧ s = 3) → I2 t 1 j s = I t 1 j s := fun t j s h9 hn => (f2 t 1 j s (by omega)).trans ((f1 t 1 j s (by omega)).trans (by unfold xup; rw [if_neg (fun z => hn ⟨z.1, z.2.2.1, z.2.2.2⟩)]))
  subst hx
  refine w_return dX9_lineOfJudge_55 rfl rfl (⟨rfl, _, rfl, t2.z FrC.jbeg, (FrC.up (k := 1) (Or.inl rfl)).u.tr (f1.u.tr (f2.u.tr (FrC.jbeg (k := 1)).u)), fun q z => ⟨hc.addJ ((jbeg_ne (by omega)).trans ((f2 1 1 0 3 (by omega)).trans ((f1 1 1 0 3 (by omega)).trans xup_self))) (by simp [jbegI, xup]) ?_ ?_ (by simp [jbegI, xup]) (by simp [jbegI, xup]) (fun t j s p1 p2 p3 => (jbeg_ne (fun z => p2 ⟨z.1, z.2.2⟩)).trans (e1 t j s p3 p1)), (jbeg_ne (by omega)).trans ((f2 10 0 0 8 (by omega)).trans ((f1 10 0 0 8 (by omega)).trans ((xup_tag (by decide)).trans h8)))⟩⟩)
  · have z1 := (ch_live z).1
    obtain ⟨p, hp⟩ := tk_live z1
    rw [← v1 p hp]
    simp [jbegI, xup]
  · rw [← v2 q z]
    simp [jbegI, xup]

theorem c_lineJ2 {I : xF4 Int32} {L : xF4 Int64} {n : Nat} {b : Nat → Nat} (hk : BK n b) (ht : TB I n b) {s : tS} (hok : OKT n s) (h : TC I s) {a : aA} {t : Bool} (hc : CourtIs I 1 a) (h8 : I 10 0 0 8 = tI t) (hj : nJ a = 4) (w : Nat) : Tri 4 109 m_X9_lineOfJudge [vR 10 0 0, vR 1 1 0, vI (nI w)] (rM I L) (pLn (uJ2 n b a s, (adJ a w (vlS (uJ1 n b a s)) (vlS (uJ2 n b a s)), t)) I L) := by
  refine ⟨k_X9_lineOfJudge, Nat.le_of_ble_eq_true rfl, ?_⟩
  show Wp _ _ _ 0 [some (vR 10 0 0), some (vR 1 1 0), some (vI (nI w)), none, none, none] [] (rM I L) _
  obtain ⟨x, hx⟩ : ∃ x, x = nJ a := ⟨_, rfl⟩
  have c3 := hc.1
  rw [← hx] at c3 hj
  unfold uJ2 uJ1
  rw [if_neg (show ¬ nJ a < 4 from by omega)]
  refine w_aload_n dX9_lineOfJudge_0 rfl ?_
  refine w_callV (as := []) (st := []) (Tri.mono (c_addJo c3 hj) (Nat.le_of_ble_eq_true rfl)) rfl rfl tg_X1_addJudge lk_X9_65 in_X1_addJudge se_X1_addJudge rfl dX9_lineOfJudge_1 rfl (Nat.le_of_ble_eq_true rfl) (Nat.le_refl _) (Nat.le_refl _) ?_
  rintro _ _ ⟨rfl, rfl⟩ -
  refine w_if_ne (tgt := 12) dX9_lineOfJudge_4 (by decide) (fun h => absurd (rfl) h) (fun _ => ?_)
  refine w_aload_n dX9_lineOfJudge_7 rfl ?_
  refine w_iconst (v := 5) dX9_lineOfJudge_8 (by decide) ?_
  refine w_callV (as := [vI (5)]) (st := []) (Tri.mono (c_fail hok h (c := 5) rfl) (Nat.le_of_ble_eq_true rfl)) rfl rfl tg_X9_fail lk_X9_61 in_X9_fail se_X9_fail rfl dX9_lineOfJudge_9 rfl (Nat.le_of_ble_eq_true rfl) (Nat.le_refl _) (Nat.le_refl _) ?_
  rintro v M9 ⟨rfl, I0, rfl, t0, f0⟩ -
  refine w_aload_n dX9_lineOfJudge_12 rfl ?_
  refine w_iconst (v := 1) dX9_lineOfJudge_13 (by decide) ?_
  refine w_bipush (v := 20) dX9_lineOfJudge_14 (by decide) ?_
  refine w_callV (as := [vI (1), vI (20)]) (st := []) (Tri.mono (c_number (I := I0) hk (ht.fr f0) (fl_ok (c := 5) (by decide) (by decide) hok) t0 (lo := 1) (hi := 20) (fun _ _ => by decide) (by decide)) (Nat.le_of_ble_eq_true rfl)) rfl rfl tg_X9_number lk_X9_69 in_X9_number se_X9_number rfl dX9_lineOfJudge_16 rfl (Nat.le_of_ble_eq_true rfl) (Nat.le_refl _) (Nat.le_refl _) ?_
  rintro v M9 ⟨x1, rfl, I1, rfl, t1, f1, v1⟩ -
  refine w_istore_n (ls' := [some (vR 10 0 0), some (vR 1 1 0), some (vI (nI w)), some (vI (x1)), none, none]) dX9_lineOfJudge_19 rfl ?_
  refine w_aload_n dX9_lineOfJudge_20 rfl ?_
  refine w_iconst (v := 0) dX9_lineOfJudge_21 (by decide) ?_
  refine w_bipush (v := 99) dX9_lineOfJudge_22 (by decide) ?_
  refine w_callV (as := [vI (0), vI (99)]) (st := []) (Tri.mono (c_number (I := I1) hk ((ht.fr f0).fr f1) (ch_ok (tk_ok (fl_ok (c := 5) (by decide) (by decide) hok))) t1 (lo := 0) (hi := 99) (fun _ _ => by decide) (by decide)) (Nat.le_of_ble_eq_true rfl)) rfl rfl tg_X9_number lk_X9_69 in_X9_number se_X9_number rfl dX9_lineOfJudge_24 rfl (Nat.le_of_ble_eq_true rfl) (Nat.le_refl _) (Nat.le_refl _) ?_
  rintro v M9 ⟨x2, rfl, I2, rfl, t2, f2, v2⟩ -
  refine w_istore (ls' := [some (vR 10 0 0), some (vR 1 1 0), some (vI (nI w)), some (vI (x1)), some (vI (x2)), none]) dX9_lineOfJudge_27 rfl ?_
  refine w_aload_n dX9_lineOfJudge_29 rfl ?_
  refine w_aload_n dX9_lineOfJudge_30 rfl ?_
  refine w_getI ff_X9_73 rfl rfl dX9_lineOfJudge_31 ?_
  rw [show (I2 1 1 0 3 : Int32) = nI x from ((f2 1 1 0 3 (by omega)).trans ((f1 1 1 0 3 (by omega)).trans ((f0 1 1 0 3 (by omega)).trans c3)))]
  refine w_iconst (v := 1) dX9_lineOfJudge_34 (by decide) ?_
  refine w_isub dX9_lineOfJudge_35 ?_
  refine w_top (y := nI 3) (show ((nI x) - (1) : Int32) = nI 3 from (by rw [hj]; decide)) ?_
  refine w_callV (as := [vI (nI 3)]) (st := []) (Tri.mono (c_jAtN (x := x) ((f2 1 1 0 3 (by omega)).trans ((f1 1 1 0 3 (by omega)).trans ((f0 1 1 0 3 (by omega)).trans c3))) (by omega) (by omega)) (Nat.le_of_ble_eq_true rfl)) rfl rfl tg_X1_judgeAt lk_X9_76 in_X1_judgeAt se_X1_judgeAt rfl dX9_lineOfJudge_36 rfl (Nat.le_of_ble_eq_true rfl) (Nat.le_refl _) (Nat.le_refl _) ?_
  rintro _ _ ⟨rfl, rfl⟩ -
  refine w_astore (ls' := [some (vR 10 0 0), some (vR 1 1 0), some (vI (nI w)), some (vI (x1)), some (vI (x2)), some (vR 3 1 3)]) dX9_lineOfJudge_39 rfl ?_
  refine w_aload dX9_lineOfJudge_41 rfl ?_
  refine w_ifnull (tgt := 55) dX9_lineOfJudge_43 (by decide) (fun h => by cases h) (fun _ _ => ?_)
  refine w_aload dX9_lineOfJudge_46 rfl ?_
  refine w_iload_n dX9_lineOfJudge_48 rfl ?_
  refine w_iload_n dX9_lineOfJudge_49 rfl ?_
  refine w_iload dX9_lineOfJudge_50 rfl ?_
  refine w_callV (as := [vI (nI w), vI (x1), vI (x2)]) (st := []) (Tri.mono (c_X4_begin 1 3 (nI w) x1 x2) (Nat.le_of_ble_eq_true rfl)) rfl rfl tg_X4_begin lk_X9_80 in_X4_begin se_X4_begin rfl dX9_lineOfJudge_52 rfl (Nat.le_of_ble_eq_true rfl) (Nat.le_refl _) (Nat.le_refl _) ?_
  rintro _ _ ⟨rfl, rfl⟩ -
  exact w_return dX9_lineOfJudge_55 rfl rfl (⟨rfl, _, rfl, t2.z FrC.jbeg, f0.u.tr (f1.u.tr (f2.u.tr (FrC.jbeg (k := 1)).u)), fun q z => by
      obtain ⟨p, hp⟩ := tk_live (ch_live z).1
      exact (fl_dead hp).elim⟩)

theorem c_lineJ {I : xF4 Int32} {L : xF4 Int64} {n : Nat} {b : Nat → Nat} (hk : BK n b) (ht : TB I n b) {s : tS} (hok : OKT n s) (h : TC I s) {a : aA} {t : Bool} (hc : CourtIs I 1 a) (h8 : I 10 0 0 8 = tI t) (hj : nJ a ≤ 4) (w : Nat) : Tri 4 109 m_X9_lineOfJudge [vR 10 0 0, vR 1 1 0, vI (nI w)] (rM I L) (pLn (uJ2 n b a s, (adJ a w (vlS (uJ1 n b a s)) (vlS (uJ2 n b a s)), t)) I L) := by
  by_cases e : nJ a < 4
  · exact c_lineJ1 hk ht hok h hc h8 e w
  · exact c_lineJ2 hk ht hok h hc h8 (by omega) w

theorem c_lineS1 {I : xF4 Int32} {L : xF4 Int64} {n : Nat} {b : Nat → Nat} (hk : BK n b) (ht : TB I n b) {s : tS} (hok : OKT n s) (h : TC I s) {a : aA} {t : Bool} (hc : CourtIs I 1 a) (h8 : I 10 0 0 8 = tI t) (hj : nC a < 5) (w : Nat) : Tri 4 109 m_X9_lineOfSuit [vR 10 0 0, vR 1 1 0, vI (nI w)] (rM I L) (pLn (uS3 n b a s, (adS a w (vlS (uS1 n b a s)) (vlS (uS2 n b a s)) (vlS (uS3 n b a s)), t)) I L) := by
  refine ⟨k_X9_lineOfSuit, Nat.le_of_ble_eq_true rfl, ?_⟩
  show Wp _ _ _ 0 [some (vR 10 0 0), some (vR 1 1 0), some (vI (nI w)), none, none, none, none] [] (rM I L) _
  obtain ⟨x, hx⟩ : ∃ x, x = nC a := ⟨_, rfl⟩
  have c3 := hc.2.1
  rw [← hx] at c3 hj
  unfold uS3 uS2 uS1
  rw [if_pos (show nC a < 5 from by omega)]
  refine w_aload_n dX9_lineOfSuit_0 rfl ?_
  refine w_callV (as := []) (st := []) (Tri.mono (c_addS c3 hj) (Nat.le_of_ble_eq_true rfl)) rfl rfl tg_X1_addSuit lk_X9_85 in_X1_addSuit se_X1_addSuit rfl dX9_lineOfSuit_1 rfl (Nat.le_of_ble_eq_true rfl) (Nat.le_refl _) (Nat.le_refl _) ?_
  rintro _ _ ⟨rfl, rfl⟩ -
  refine w_if_ne (tgt := 12) dX9_lineOfSuit_4 (by decide) (fun _ => ?_) (fun h => absurd h ((by decide : ¬ (1 : Int32) = 0)))
  refine w_aload_n dX9_lineOfSuit_12 rfl ?_
  refine w_iconst (v := 1) dX9_lineOfSuit_13 (by decide) ?_
  refine w_bipush (v := 60) dX9_lineOfSuit_14 (by decide) ?_
  refine w_callV (as := [vI (1), vI (60)]) (st := []) (Tri.mono (c_number (I := xup I 1 1 0 4 (nI (x + 1))) hk (ht.eqv (I' := xup I 1 1 0 4 (nI (x + 1))) (fun t y z => xup_tag (by omega))) hok (h.eqv (fun y => xup_tag (by decide))) (lo := 1) (hi := 60) (fun _ _ => by decide) (by decide)) (Nat.le_of_ble_eq_true rfl)) rfl rfl tg_X9_number lk_X9_69 in_X9_number se_X9_number rfl dX9_lineOfSuit_16 rfl (Nat.le_of_ble_eq_true rfl) (Nat.le_refl _) (Nat.le_refl _) ?_
  rintro v M9 ⟨x1, rfl, I1, rfl, t1, f1, v1⟩ -
  refine w_istore_n (ls' := [some (vR 10 0 0), some (vR 1 1 0), some (vI (nI w)), some (vI (x1)), none, none, none]) dX9_lineOfSuit_19 rfl ?_
  refine w_aload_n dX9_lineOfSuit_20 rfl ?_
  refine w_iload_n dX9_lineOfSuit_21 rfl ?_
  refine w_bipush (v := 60) dX9_lineOfSuit_22 (by decide) ?_
  refine w_callV (as := [vI (x1), vI (60)]) (st := []) (Tri.mono (c_number (I := I1) hk ((ht.eqv (I' := xup I 1 1 0 4 (nI (x + 1))) (fun t y z => xup_tag (by omega))).fr f1) (ch_ok (tk_ok hok)) t1 (lo := (vlS (chT 1 60 (tkT n b s)))) (hi := 60) (fun q z => by
      obtain ⟨p, hp⟩ := tk_live z
      rw [v1 p hp]
      exact z_nI (Nat.lt_of_le_of_lt (ch_live hp).2.2 (by decide))) (by decide)) (Nat.le_of_ble_eq_true rfl)) rfl rfl tg_X9_number lk_X9_69 in_X9_number se_X9_number rfl dX9_lineOfSuit_24 rfl (Nat.le_of_ble_eq_true rfl) (Nat.le_refl _) (Nat.le_refl _) ?_
  rintro v M9 ⟨x2, rfl, I2, rfl, t2, f2, v2⟩ -
  refine w_istore (ls' := [some (vR 10 0 0), some (vR 1 1 0), some (vI (nI w)), some (vI (x1)), some (vI (x2)), none, none]) dX9_lineOfSuit_27 rfl ?_
  refine w_aload_n dX9_lineOfSuit_29 rfl ?_
  refine w_iconst (v := 0) dX9_lineOfSuit_30 (by decide) ?_
  refine w_bipush (v := 20) dX9_lineOfSuit_31 (by decide) ?_
  refine w_callV (as := [vI (0), vI (20)]) (st := []) (Tri.mono (c_number (I := I2) hk (((ht.eqv (I' := xup I 1 1 0 4 (nI (x + 1))) (fun t y z => xup_tag (by omega))).fr f1).fr f2) (ch_ok (tk_ok (ch_ok (tk_ok hok)))) t2 (lo := 0) (hi := 20) (fun _ _ => by decide) (by decide)) (Nat.le_of_ble_eq_true rfl)) rfl rfl tg_X9_number lk_X9_69 in_X9_number se_X9_number rfl dX9_lineOfSuit_33 rfl (Nat.le_of_ble_eq_true rfl) (Nat.le_refl _) (Nat.le_refl _) ?_
  rintro v M9 ⟨x3, rfl, I3, rfl, t3, f3, v3⟩ -
  refine w_istore (ls' := [some (vR 10 0 0), some (vR 1 1 0), some (vI (nI w)), some (vI (x1)), some (vI (x2)), some (vI (x3)), none]) dX9_lineOfSuit_36 rfl ?_
  refine w_aload_n dX9_lineOfSuit_38 rfl ?_
  refine w_aload_n dX9_lineOfSuit_39 rfl ?_
  refine w_getI ff_X9_88 rfl rfl dX9_lineOfSuit_40 ?_
  rw [show (I3 1 1 0 4 : Int32) = nI (x + 1) from ((f3 1 1 0 4 (by omega)).trans ((f2 1 1 0 4 (by omega)).trans ((f1 1 1 0 4 (by omega)).trans xup_self)))]
  refine w_iconst (v := 1) dX9_lineOfSuit_43 (by decide) ?_
  refine w_isub dX9_lineOfSuit_44 ?_
  refine w_top (y := nI x) (show ((nI (x + 1)) - (1) : Int32) = nI x from ar_sub (p := x + 1) (q := 1) rfl rfl (by omega) (by omega)) ?_
  refine w_callV (as := [vI (nI x)]) (st := []) (Tri.mono (c_sAtN (x := x + 1) ((f3 1 1 0 4 (by omega)).trans ((f2 1 1 0 4 (by omega)).trans ((f1 1 1 0 4 (by omega)).trans xup_self))) (by omega) (by omega)) (Nat.le_of_ble_eq_true rfl)) rfl rfl tg_X1_suitAt lk_X9_91 in_X1_suitAt se_X1_suitAt rfl dX9_lineOfSuit_45 rfl (Nat.le_of_ble_eq_true rfl) (Nat.le_refl _) (Nat.le_refl _) ?_
  rintro _ _ ⟨rfl, rfl⟩ -
  refine w_astore (ls' := [some (vR 10 0 0), some (vR 1 1 0), some (vI (nI w)), some (vI (x1)), some (vI (x2)), some (vI (x3)), some (vR 5 1 x)]) dX9_lineOfSuit_48 rfl ?_
  refine w_aload dX9_lineOfSuit_50 rfl ?_
  refine w_ifnull (tgt := 66) dX9_lineOfSuit_52 (by decide) (fun h => by cases h) (fun _ _ => ?_)
  refine w_aload dX9_lineOfSuit_55 rfl ?_
  refine w_iload_n dX9_lineOfSuit_57 rfl ?_
  refine w_iload_n dX9_lineOfSuit_58 rfl ?_
  refine w_iload dX9_lineOfSuit_59 rfl ?_
  refine w_iload dX9_lineOfSuit_61 rfl ?_
  refine w_callV (as := [vI (nI w), vI (x1), vI (x2), vI (x3)]) (st := []) (Tri.mono (c_X8_begin 1 x (nI w) x1 x2 x3) (Nat.le_of_ble_eq_true rfl)) rfl rfl tg_X8_begin lk_X9_95 in_X8_begin se_X8_begin rfl dX9_lineOfSuit_63 rfl (Nat.le_of_ble_eq_true rfl) (Nat.le_refl _) (Nat.le_refl _) ?_
  rintro _ _ ⟨rfl, rfl⟩ -
  have e1 : ∀ t j s, t < 10 → ¬ (t = 1 ∧ j = 0 ∧ s = 4) → I3 t 1 j s = I t 1 j s := fun t j s h9 hn => (f3 t 1 j s (by omega)).trans ((f2 t 1 j s (by omega)).trans ((f1 t 1 j s (by omega)).trans (by unfold xup; rw [if_neg (fun z => hn ⟨z.1, z.2.2.1, z.2.2.2⟩)])))
  subst hx
  refine w_return dX9_lineOfSuit_66 rfl rfl (⟨rfl, _, rfl, t3.z FrC.sbeg, (FrC.up (k := 1) (Or.inl rfl)).u.tr (f1.u.tr (f2.u.tr (f3.u.tr (FrC.sbeg (k := 1)).u))), fun q z => ⟨hc.addS ((sbeg_ne (by omega)).trans ((f3 1 1 0 4 (by omega)).trans ((f2 1 1 0 4 (by omega)).trans ((f1 1 1 0 4 (by omega)).trans xup_self)))) (by simp [sbegI, scloI, xup]) ?_ ?_ ?_ (by simp [sbegI, scloI, xup]) (by simp [sbegI, scloI, xup]) (by simp [sbegI, scloI, xup]) (fun t j s p1 p2 p3 => (sbeg_ne (fun z => p2 ⟨z.1, z.2.2⟩)).trans (e1 t j s p3 p1)), (sbeg_ne (by omega)).trans ((f3 10 0 0 8 (by omega)).trans ((f2 10 0 0 8 (by omega)).trans ((f1 10 0 0 8 (by omega)).trans ((xup_tag (by decide)).trans h8))))⟩⟩)
  · obtain ⟨p, hp⟩ := tk_live (ch_live z).1
    obtain ⟨p1, hp1⟩ := tk_live (ch_live hp).1
    rw [← v1 p1 hp1]
    simp [sbegI, scloI, xup]
  · obtain ⟨p, hp⟩ := tk_live (ch_live z).1
    rw [← v2 p hp]
    simp [sbegI, scloI, xup]
  · rw [← v3 q z]
    simp [sbegI, scloI, xup]

theorem c_lineS2 {I : xF4 Int32} {L : xF4 Int64} {n : Nat} {b : Nat → Nat} (hk : BK n b) (ht : TB I n b) {s : tS} (hok : OKT n s) (h : TC I s) {a : aA} {t : Bool} (hc : CourtIs I 1 a) (h8 : I 10 0 0 8 = tI t) (hj : nC a = 5) (w : Nat) : Tri 4 109 m_X9_lineOfSuit [vR 10 0 0, vR 1 1 0, vI (nI w)] (rM I L) (pLn (uS3 n b a s, (adS a w (vlS (uS1 n b a s)) (vlS (uS2 n b a s)) (vlS (uS3 n b a s)), t)) I L) := by
  refine ⟨k_X9_lineOfSuit, Nat.le_of_ble_eq_true rfl, ?_⟩
  show Wp _ _ _ 0 [some (vR 10 0 0), some (vR 1 1 0), some (vI (nI w)), none, none, none, none] [] (rM I L) _
  obtain ⟨x, hx⟩ : ∃ x, x = nC a := ⟨_, rfl⟩
  have c3 := hc.2.1
  rw [← hx] at c3 hj
  unfold uS3 uS2 uS1
  rw [if_neg (show ¬ nC a < 5 from by omega)]
  refine w_aload_n dX9_lineOfSuit_0 rfl ?_
  refine w_callV (as := []) (st := []) (Tri.mono (c_addSo c3 hj) (Nat.le_of_ble_eq_true rfl)) rfl rfl tg_X1_addSuit lk_X9_85 in_X1_addSuit se_X1_addSuit rfl dX9_lineOfSuit_1 rfl (Nat.le_of_ble_eq_true rfl) (Nat.le_refl _) (Nat.le_refl _) ?_
  rintro _ _ ⟨rfl, rfl⟩ -
  refine w_if_ne (tgt := 12) dX9_lineOfSuit_4 (by decide) (fun h => absurd (rfl) h) (fun _ => ?_)
  refine w_aload_n dX9_lineOfSuit_7 rfl ?_
  refine w_iconst (v := 5) dX9_lineOfSuit_8 (by decide) ?_
  refine w_callV (as := [vI (5)]) (st := []) (Tri.mono (c_fail hok h (c := 5) rfl) (Nat.le_of_ble_eq_true rfl)) rfl rfl tg_X9_fail lk_X9_61 in_X9_fail se_X9_fail rfl dX9_lineOfSuit_9 rfl (Nat.le_of_ble_eq_true rfl) (Nat.le_refl _) (Nat.le_refl _) ?_
  rintro v M9 ⟨rfl, I0, rfl, t0, f0⟩ -
  refine w_aload_n dX9_lineOfSuit_12 rfl ?_
  refine w_iconst (v := 1) dX9_lineOfSuit_13 (by decide) ?_
  refine w_bipush (v := 60) dX9_lineOfSuit_14 (by decide) ?_
  refine w_callV (as := [vI (1), vI (60)]) (st := []) (Tri.mono (c_number (I := I0) hk (ht.fr f0) (fl_ok (c := 5) (by decide) (by decide) hok) t0 (lo := 1) (hi := 60) (fun _ _ => by decide) (by decide)) (Nat.le_of_ble_eq_true rfl)) rfl rfl tg_X9_number lk_X9_69 in_X9_number se_X9_number rfl dX9_lineOfSuit_16 rfl (Nat.le_of_ble_eq_true rfl) (Nat.le_refl _) (Nat.le_refl _) ?_
  rintro v M9 ⟨x1, rfl, I1, rfl, t1, f1, v1⟩ -
  refine w_istore_n (ls' := [some (vR 10 0 0), some (vR 1 1 0), some (vI (nI w)), some (vI (x1)), none, none, none]) dX9_lineOfSuit_19 rfl ?_
  refine w_aload_n dX9_lineOfSuit_20 rfl ?_
  refine w_iload_n dX9_lineOfSuit_21 rfl ?_
  refine w_bipush (v := 60) dX9_lineOfSuit_22 (by decide) ?_
  refine w_callV (as := [vI (x1), vI (60)]) (st := []) (Tri.mono (c_number (I := I1) hk ((ht.fr f0).fr f1) (ch_ok (tk_ok (fl_ok (c := 5) (by decide) (by decide) hok))) t1 (lo := (vlS (chT 1 60 (tkT n b (flT 5 s))))) (hi := 60) (fun q z => by
      obtain ⟨p, hp⟩ := tk_live z
      rw [v1 p hp]
      exact z_nI (Nat.lt_of_le_of_lt (ch_live hp).2.2 (by decide))) (by decide)) (Nat.le_of_ble_eq_true rfl)) rfl rfl tg_X9_number lk_X9_69 in_X9_number se_X9_number rfl dX9_lineOfSuit_24 rfl (Nat.le_of_ble_eq_true rfl) (Nat.le_refl _) (Nat.le_refl _) ?_
  rintro v M9 ⟨x2, rfl, I2, rfl, t2, f2, v2⟩ -
  refine w_istore (ls' := [some (vR 10 0 0), some (vR 1 1 0), some (vI (nI w)), some (vI (x1)), some (vI (x2)), none, none]) dX9_lineOfSuit_27 rfl ?_
  refine w_aload_n dX9_lineOfSuit_29 rfl ?_
  refine w_iconst (v := 0) dX9_lineOfSuit_30 (by decide) ?_
  refine w_bipush (v := 20) dX9_lineOfSuit_31 (by decide) ?_
  refine w_callV (as := [vI (0), vI (20)]) (st := []) (Tri.mono (c_number (I := I2) hk (((ht.fr f0).fr f1).fr f2) (ch_ok (tk_ok (ch_ok (tk_ok (fl_ok (c := 5) (by decide) (by decide) hok))))) t2 (lo := 0) (hi := 20) (fun _ _ => by decide) (by decide)) (Nat.le_of_ble_eq_true rfl)) rfl rfl tg_X9_number lk_X9_69 in_X9_number se_X9_number rfl dX9_lineOfSuit_33 rfl (Nat.le_of_ble_eq_true rfl) (Nat.le_refl _) (Nat.le_refl _) ?_
  rintro v M9 ⟨x3, rfl, I3, rfl, t3, f3, v3⟩ -
  refine w_istore (ls' := [some (vR 10 0 0), some (vR 1 1 0), some (vI (nI w)), some (vI (x1)), some (vI (x2)), some (vI (x3)), none]) dX9_lineOfSuit_36 rfl ?_
  refine w_aload_n dX9_lineOfSuit_38 rfl ?_
  refine w_aload_n dX9_lineOfSuit_39 rfl ?_
  refine w_getI ff_X9_88 rfl rfl dX9_lineOfSuit_40 ?_
  rw [show (I3 1 1 0 4 : Int32) = nI x from ((f3 1 1 0 4 (by omega)).trans ((f2 1 1 0 4 (by omega)).trans ((f1 1 1 0 4 (by omega)).trans ((f0 1 1 0 4 (by omega)).trans c3))))]
  refine w_iconst (v := 1) dX9_lineOfSuit_43 (by decide) ?_
  refine w_isub dX9_lineOfSuit_44 ?_
  refine w_top (y := nI 4) (show ((nI x) - (1) : Int32) = nI 4 from (by rw [hj]; decide)) ?_
  refine w_callV (as := [vI (nI 4)]) (st := []) (Tri.mono (c_sAtN (x := x) ((f3 1 1 0 4 (by omega)).trans ((f2 1 1 0 4 (by omega)).trans ((f1 1 1 0 4 (by omega)).trans ((f0 1 1 0 4 (by omega)).trans c3)))) (by omega) (by omega)) (Nat.le_of_ble_eq_true rfl)) rfl rfl tg_X1_suitAt lk_X9_91 in_X1_suitAt se_X1_suitAt rfl dX9_lineOfSuit_45 rfl (Nat.le_of_ble_eq_true rfl) (Nat.le_refl _) (Nat.le_refl _) ?_
  rintro _ _ ⟨rfl, rfl⟩ -
  refine w_astore (ls' := [some (vR 10 0 0), some (vR 1 1 0), some (vI (nI w)), some (vI (x1)), some (vI (x2)), some (vI (x3)), some (vR 5 1 4)]) dX9_lineOfSuit_48 rfl ?_
  refine w_aload dX9_lineOfSuit_50 rfl ?_
  refine w_ifnull (tgt := 66) dX9_lineOfSuit_52 (by decide) (fun h => by cases h) (fun _ _ => ?_)
  refine w_aload dX9_lineOfSuit_55 rfl ?_
  refine w_iload_n dX9_lineOfSuit_57 rfl ?_
  refine w_iload_n dX9_lineOfSuit_58 rfl ?_
  refine w_iload dX9_lineOfSuit_59 rfl ?_
  refine w_iload dX9_lineOfSuit_61 rfl ?_
  refine w_callV (as := [vI (nI w), vI (x1), vI (x2), vI (x3)]) (st := []) (Tri.mono (c_X8_begin 1 4 (nI w) x1 x2 x3) (Nat.le_of_ble_eq_true rfl)) rfl rfl tg_X8_begin lk_X9_95 in_X8_begin se_X8_begin rfl dX9_lineOfSuit_63 rfl (Nat.le_of_ble_eq_true rfl) (Nat.le_refl _) (Nat.le_refl _) ?_
  rintro _ _ ⟨rfl, rfl⟩ -
  exact w_return dX9_lineOfSuit_66 rfl rfl (⟨rfl, _, rfl, t3.z FrC.sbeg, f0.u.tr (f1.u.tr (f2.u.tr (f3.u.tr (FrC.sbeg (k := 1)).u))), fun q z => by
      obtain ⟨p, hp⟩ := tk_live (ch_live z).1
      obtain ⟨p1, hp1⟩ := tk_live (ch_live hp).1
      exact (fl_dead hp1).elim⟩)

theorem c_lineS {I : xF4 Int32} {L : xF4 Int64} {n : Nat} {b : Nat → Nat} (hk : BK n b) (ht : TB I n b) {s : tS} (hok : OKT n s) (h : TC I s) {a : aA} {t : Bool} (hc : CourtIs I 1 a) (h8 : I 10 0 0 8 = tI t) (hj : nC a ≤ 5) (w : Nat) : Tri 4 109 m_X9_lineOfSuit [vR 10 0 0, vR 1 1 0, vI (nI w)] (rM I L) (pLn (uS3 n b a s, (adS a w (vlS (uS1 n b a s)) (vlS (uS2 n b a s)) (vlS (uS3 n b a s)), t)) I L) := by
  by_cases e : nC a < 5
  · exact c_lineS1 hk ht hok h hc h8 e w
  · exact c_lineS2 hk ht hok h hc h8 (by omega) w

theorem TB.fr8 {I : xF4 Int32} {n : Nat} {b : Nat → Nat} {v : Int32} (h : TB I n b) : TB (xup I 10 0 0 8 v) n b := ⟨(xup_slot (by decide)).trans h.1, fun i hi => (xup_tag (by decide)).trans (h.2 i hi)⟩
theorem TC.fr8 {I : xF4 Int32} {v : Int32} : ∀ {s : tS}, TC I s → TC (xup I 10 0 0 8 v) s
  | .inl _, h => ⟨(xup_slot (by decide)).trans h.1, (xup_slot (by decide)).trans h.2⟩
  | .inr _, h => ⟨(xup_slot (by decide)).trans h.1, (xup_slot (by decide)).trans h.2.1, (xup_slot (by decide)).trans h.2.2.1, (xup_slot (by decide)).trans h.2.2.2.1, fun z => (xup_slot (by decide)).trans (h.2.2.2.2 z)⟩
theorem FrZ.up8 {I I1 : xF4 Int32} {v : Int32} (h : FrZ I I1) : FrZ I (xup I1 10 0 0 8 v) := fun t b j s p q => by
  unfold xup
  rw [if_neg (by rintro ⟨rfl, rfl, rfl, rfl⟩; exact q ⟨rfl, by decide⟩)]
  exact h t b j s p q
theorem CourtIs.crim9 {I : xF4 Int32} {k : Nat} {a : aA} {c : Nat} {x : Int32} (h : CourtIs I k a) (e : x = nI c) : CourtIs (xup I 1 k 0 7 x) k (crimN a c) := by
  subst e
  obtain ⟨h1, h2, h3, h4, h5, h6, h7, h8⟩ := h
  exact ⟨(xup_slot (by decide)).trans h1, (xup_slot (by decide)).trans h2, (xup_slot (by decide)).trans h3, (xup_slot (by decide)).trans h4, xup_self, fun j hj => ⟨fun f hf => (xup_tag (by decide)).trans ((h6 j hj).1 f hf), (xup_tag (by decide)).trans (h6 j hj).2⟩, fun c hc => ⟨fun f hf h9 => (xup_tag (by decide)).trans ((h7 c hc).1 f hf h9), (xup_tag (by decide)).trans (h7 c hc).2⟩, fun i hi f hf => (xup_tag (by decide)).trans (h8 i hi f hf)⟩

theorem c_lineC {I : xF4 Int32} {L : xF4 Int64} {n : Nat} {b : Nat → Nat} (hk : BK n b) (ht : TB I n b) {s : tS} (hok : OKT n s) (h : TC I s) {a : aA} {t : Bool} (hc : CourtIs I 1 a) (h8 : I 10 0 0 8 = tI t)  : Tri 4 109 m_X9_lineOfCrime [vR 10 0 0, vR 1 1 0] (rM I L) (pLn (uC1 n b t s, (crimN a (vlS (uC1 n b t s)), true)) I L) := by
  refine ⟨k_X9_lineOfCrime, Nat.le_of_ble_eq_true rfl, ?_⟩
  show Wp _ _ _ 0 [some (vR 10 0 0), some (vR 1 1 0)] [] (rM I L) _
  unfold uC1
  refine w_aload_n dX9_lineOfCrime_0 rfl ?_
  refine w_getI ff_X9_33 rfl rfl dX9_lineOfCrime_1 ?_
  rcases t with _ | _
  · skip
    rw [show (I 10 0 0 8 : Int32) = 0 from h8]
    refine w_if_eq (tgt := 12) dX9_lineOfCrime_4 (by decide) (fun _ => ?_) (fun h => absurd (rfl) h)
    refine w_aload_n dX9_lineOfCrime_12 rfl ?_
    refine w_iconst (v := 1) dX9_lineOfCrime_13 (by decide) ?_
    refine w_putI ff_X9_33 rfl rfl rfl rfl dX9_lineOfCrime_14 ?_
    refine w_aload_n dX9_lineOfCrime_17 rfl ?_
    refine w_aload_n dX9_lineOfCrime_18 rfl ?_
    refine w_iconst (v := 0) dX9_lineOfCrime_19 (by decide) ?_
    refine w_bipush (v := 99) dX9_lineOfCrime_20 (by decide) ?_
    refine w_callV (as := [vI (0), vI (99)]) (st := [vR 1 1 0]) (Tri.mono (c_number (I := xup I 10 0 0 8 (1)) hk (TB.fr8 ht) hok (TC.fr8 h) (lo := 0) (hi := 99) (fun _ _ => by decide) (by decide)) (Nat.le_of_ble_eq_true rfl)) rfl rfl tg_X9_number lk_X9_69 in_X9_number se_X9_number rfl dX9_lineOfCrime_22 rfl (Nat.le_of_ble_eq_true rfl) (Nat.le_refl _) (Nat.le_refl _) ?_
    rintro v M9 ⟨x1, rfl, I1, rfl, t1, f1, v1⟩ -
    refine w_putI ff_X9_100 rfl rfl rfl rfl dX9_lineOfCrime_25 ?_
    refine w_return dX9_lineOfCrime_28 rfl rfl (⟨rfl, _, rfl, t1.z (FrC.up (Or.inl rfl)), (FrZ.up8 FrZ.rf).tr (f1.u.tr (FrC.up (Or.inl rfl)).u), fun q z => ⟨?_, (xup_tag (by decide)).trans ((f1 10 0 0 8 (by omega)).trans xup_self)⟩⟩)
    exact CourtIs.crim9 (hc.eqv (fun t j s h9 => (f1 t 1 j s (by omega)).trans (xup_tag (by omega)))) (v1 q z)
  · skip
    rw [show (I 10 0 0 8 : Int32) = 1 from h8]
    refine w_if_eq (tgt := 12) dX9_lineOfCrime_4 (by decide) (fun h => absurd h ((by decide : ¬ (1 : Int32) = 0))) (fun _ => ?_)
    refine w_aload_n dX9_lineOfCrime_7 rfl ?_
    refine w_iconst (v := 4) dX9_lineOfCrime_8 (by decide) ?_
    refine w_callV (as := [vI (4)]) (st := []) (Tri.mono (c_fail hok h (c := 4) rfl) (Nat.le_of_ble_eq_true rfl)) rfl rfl tg_X9_fail lk_X9_61 in_X9_fail se_X9_fail rfl dX9_lineOfCrime_9 rfl (Nat.le_of_ble_eq_true rfl) (Nat.le_refl _) (Nat.le_refl _) ?_
    rintro v M9 ⟨rfl, I0, rfl, t0, f0⟩ -
    refine w_aload_n dX9_lineOfCrime_12 rfl ?_
    refine w_iconst (v := 1) dX9_lineOfCrime_13 (by decide) ?_
    refine w_putI ff_X9_33 rfl rfl rfl rfl dX9_lineOfCrime_14 ?_
    refine w_aload_n dX9_lineOfCrime_17 rfl ?_
    refine w_aload_n dX9_lineOfCrime_18 rfl ?_
    refine w_iconst (v := 0) dX9_lineOfCrime_19 (by decide) ?_
    refine w_bipush (v := 99) dX9_lineOfCrime_20 (by decide) ?_
    refine w_callV (as := [vI (0), vI (99)]) (st := [vR 1 1 0]) (Tri.mono (c_number (I := xup I0 10 0 0 8 (1)) hk (TB.fr8 (ht.fr f0)) (fl_ok (c := 4) (by decide) (by decide) hok) (TC.fr8 t0) (lo := 0) (hi := 99) (fun _ _ => by decide) (by decide)) (Nat.le_of_ble_eq_true rfl)) rfl rfl tg_X9_number lk_X9_69 in_X9_number se_X9_number rfl dX9_lineOfCrime_22 rfl (Nat.le_of_ble_eq_true rfl) (Nat.le_refl _) (Nat.le_refl _) ?_
    rintro v M9 ⟨x1, rfl, I1, rfl, t1, f1, v1⟩ -
    refine w_putI ff_X9_100 rfl rfl rfl rfl dX9_lineOfCrime_25 ?_
    exact w_return dX9_lineOfCrime_28 rfl rfl (⟨rfl, _, rfl, t1.z (FrC.up (Or.inl rfl)), (f0.u.tr (FrZ.up8 FrZ.rf)).tr (f1.u.tr (FrC.up (Or.inl rfl)).u), fun q z => (fl_dead z).elim⟩)
