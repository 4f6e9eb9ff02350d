/-! mean, luck (by wip/whole/gen/g72.py) -/
theorem l_mean {I : xF4 Int32} {L : xF4 Int64} {a : aA} (hc : CourtIs I 0 a) (hw : WF a) {v : Nat} (hv : v ≤ 10) {what : Int32} {Q : Option xV → xM → Prop} (hk : Wp 19 109 m_X10_mean 82 [some (vR 0 0 0), some (vI (nI v)), some (vI (what)), some (vI (nI (heardN a))), some (vL (lN (sumN (fA a v) 32))), none, some (vI (nI 32))] [] (rM I L) Q) : ∀ (m u : Nat), u + m = 32 → Wp 19 109 m_X10_mean 37 [some (vR 0 0 0), some (vI (nI v)), some (vI (what)), some (vI (nI (heardN a))), some (vL (lN (sumN (fA a v) u))), none, some (vI (nI u))] [] (rM I L) Q := by
  intro m
  induction m with
  | zero =>
    intro u hu
    have e : u = 32 := by omega
    subst e
    refine w_iload dX10_mean_37 rfl ?_
    refine w_bipush (v := 32) dX10_mean_39 (by decide) ?_
    refine w_icmp_ge (tgt := 82) dX10_mean_41 (by decide) (fun _ => ?_) (fun h => absurd (by decide) h)
    exact hk
  | succ m ih =>
    intro u hu
    have hlt : u < 32 := by omega
    have hh := heardN_lt hw
    have hnn := newN_lt u (heardN a)
    obtain ⟨hJ, hC, hG, hD, hR, -⟩ := id hw
    have hcw := cwN_le (a := a) hR u (nC a)
    refine w_iload dX10_mean_37 rfl ?_
    refine w_bipush (v := 32) dX10_mean_39 (by decide) ?_
    refine w_icmp_ge (tgt := 82) dX10_mean_41 (by decide) (fun h => absurd h (nI_ge (b := 32) hlt (by omega))) (fun _ => ?_)
    refine w_iload dX10_mean_44 rfl ?_
    refine w_iload_n dX10_mean_46 rfl ?_
    refine w_iconst (v := (-1)) dX10_mean_47 (by decide) ?_
    refine w_ixor dX10_mean_48 ?_
    refine w_iand dX10_mean_49 ?_
    rw [show ((nI u) &&& ((nI (heardN a)) ^^^ ((-1))) : Int32) = nI (newN u (heardN a)) from newI hlt hh]
    refine w_if_ne (tgt := 76) dX10_mean_50 (by decide) (fun h1 => ?_) (fun h1 => ?_)
    · skip
      replace h1 : ¬ (((newN u (heardN a) : Nat) : Int) = 0) := fun q => h1 ((zeq (z_nI (by omega)) (by decide)).mpr q)
      have e9 : sumN (fA a v) u = sumN (fA a v) (u + 1) := by rw [sumN]; unfold fA; rw [if_neg (by omega), Nat.add_zero]
      rw [e9]
      refine w_iinc (v := nI (u + 1)) (ls' := [some (vR 0 0 0), some (vI (nI v)), some (vI (what)), some (vI (nI (heardN a))), some (vL (lN (sumN (fA a v) (u + 1)))), none, some (vI (nI (u + 1)))]) dX10_mean_76 rfl (nI_1 _) rfl ?_
      refine w_goto (tgt := 37) dX10_mean_79 (by decide) ?_
      exact ih (u + 1) (by omega)
    · skip
      replace h1 : ((newN u (heardN a) : Nat) : Int) = 0 := (zeq (z_nI (by omega)) (by decide)).mp h1
      refine w_lload dX10_mean_53 rfl ?_
      refine w_iload dX10_mean_55 rfl ?_
      refine w_iload_n dX10_mean_57 rfl ?_
      refine w_iload_n dX10_mean_58 rfl ?_
      refine w_callS (as := [vI (nI u), vI (nI (heardN a)), vI (nI v)]) (st := [vL (lN (sumN (fA a v) u))]) (Tri.mono (c_oddsOf (u := u) (h := heardN a) (v := v) hlt hh hv) (Nat.le_of_ble_eq_true rfl)) tg_X10_oddsOf lk_X10_252 sa_X10_oddsOf rfl dX10_mean_59 rfl (Nat.le_of_ble_eq_true rfl) (Nat.le_refl _) (Nat.le_refl _) ?_
      rintro _ _ ⟨rfl, rfl⟩ -
      refine w_aload_n dX10_mean_62 rfl ?_
      refine w_getR (w := some (1, 0, 0)) ff_X10_10 rfl rfl dX10_mean_63 rfl ?_
      refine w_iload dX10_mean_66 rfl ?_
      refine w_callV (as := [vI (nI u)]) (st := [vL (lN (oddN (heardN a) v u 5)), vL (lN (sumN (fA a v) u))]) (Tri.mono (c_crimeWithout hc hw hlt) (Nat.le_of_ble_eq_true rfl)) rfl rfl tg_X1_crimeWithout lk_X10_256 in_X1_crimeWithout se_X1_crimeWithout rfl dX10_mean_68 rfl (Nat.le_of_ble_eq_true rfl) (Nat.le_refl _) (Nat.le_refl _) ?_
      rintro _ _ ⟨rfl, rfl⟩ -
      refine w_i2l dX10_mean_71 ?_
      refine w_topL (y := lN (cwN a u (nC a))) (show ((nI (cwN a u (nC a)) : Int32).toInt64 : Int64) = lN (cwN a u (nC a)) from nI_l (by omega)) ?_
      refine w_lmul dX10_mean_72 ?_
      refine w_topL (y := lN (fA a v u)) (show ((lN (oddN (heardN a) v u 5)) * (lN (cwN a u (nC a))) : Int64) = lN (fA a v u) from by rw [lN_mul]; unfold fA; rw [if_pos (by omega)]) ?_
      refine w_ladd dX10_mean_73 ?_
      refine w_topL (y := lN (sumN (fA a v) (u + 1))) (show ((lN (sumN (fA a v) u)) + (lN (fA a v u)) : Int64) = lN (sumN (fA a v) (u + 1)) from lN_add _ _) ?_
      refine w_lstore (ls' := [some (vR 0 0 0), some (vI (nI v)), some (vI (what)), some (vI (nI (heardN a))), some (vL (lN (sumN (fA a v) (u + 1)))), none, some (vI (nI u))]) dX10_mean_74 rfl ?_
      refine w_iinc (v := nI (u + 1)) (ls' := [some (vR 0 0 0), some (vI (nI v)), some (vI (what)), some (vI (nI (heardN a))), some (vL (lN (sumN (fA a v) (u + 1)))), none, some (vI (nI (u + 1)))]) dX10_mean_76 rfl (nI_1 _) rfl ?_
      refine w_goto (tgt := 37) dX10_mean_79 (by decide) ?_
      exact ih (u + 1) (by omega)

theorem l_luck {I : xF4 Int32} {L : xF4 Int64} {a : aA} (hc : CourtIs I 0 a) (hw : WF a) {v : Nat} (hv : v ≤ 10) {w : Nat} (hw99 : w ≤ 99) {what : Int32} {Q : Option xV → xM → Prop} (hk : Wp 19 109 m_X10_luck 97 [some (vR 0 0 0), some (vI (nI v)), some (vI (nI w)), some (vI (what)), some (vI (nI (heardN a))), some (vL (lN (sumN (fB a v w) 32))), none, some (vI (nI 32))] [] (rM I L) Q) : ∀ (m u : Nat), u + m = 32 → Wp 19 109 m_X10_luck 48 [some (vR 0 0 0), some (vI (nI v)), some (vI (nI w)), some (vI (what)), some (vI (nI (heardN a))), some (vL (lN (sumN (fB a v w) u))), none, some (vI (nI u))] [] (rM I L) Q := by
  intro m
  induction m with
  | zero =>
    intro u hu
    have e : u = 32 := by omega
    subst e
    refine w_iload dX10_luck_48 rfl ?_
    refine w_bipush (v := 32) dX10_luck_50 (by decide) ?_
    refine w_icmp_ge (tgt := 97) dX10_luck_52 (by decide) (fun _ => ?_) (fun h => absurd (by decide) h)
    exact hk
  | succ m ih =>
    intro u hu
    have hlt : u < 32 := by omega
    have hh := heardN_lt hw
    have hnn := newN_lt u (heardN a)
    obtain ⟨hJ, hC, hG, hD, hR, -⟩ := id hw
    have hcw := cwN_le (a := a) hR u (nC a)
    refine w_iload dX10_luck_48 rfl ?_
    refine w_bipush (v := 32) dX10_luck_50 (by decide) ?_
    refine w_icmp_ge (tgt := 97) dX10_luck_52 (by decide) (fun h => absurd h (nI_ge (b := 32) hlt (by omega))) (fun _ => ?_)
    refine w_iload dX10_luck_55 rfl ?_
    refine w_iload dX10_luck_57 rfl ?_
    refine w_iconst (v := (-1)) dX10_luck_59 (by decide) ?_
    refine w_ixor dX10_luck_60 ?_
    refine w_iand dX10_luck_61 ?_
    rw [show ((nI u) &&& ((nI (heardN a)) ^^^ ((-1))) : Int32) = nI (newN u (heardN a)) from newI hlt hh]
    refine w_if_ne (tgt := 91) dX10_luck_62 (by decide) (fun h1 => ?_) (fun h1 => ?_)
    · skip
      replace h1 : ¬ (((newN u (heardN a) : Nat) : Int) = 0) := fun q => h1 ((zeq (z_nI (by omega)) (by decide)).mpr q)
      have e9 : sumN (fB a v w) u = sumN (fB a v w) (u + 1) := by rw [sumN]; unfold fB; rw [if_neg (show ¬ (newN u (heardN a) = 0 ∧ cwN a u (nC a) ≤ w) by omega), Nat.add_zero]
      rw [e9]
      refine w_iinc (v := nI (u + 1)) (ls' := [some (vR 0 0 0), some (vI (nI v)), some (vI (nI w)), some (vI (what)), some (vI (nI (heardN a))), some (vL (lN (sumN (fB a v w) (u + 1)))), none, some (vI (nI (u + 1)))]) dX10_luck_91 rfl (nI_1 _) rfl ?_
      refine w_goto (tgt := 48) dX10_luck_94 (by decide) ?_
      exact ih (u + 1) (by omega)
    · skip
      replace h1 : ((newN u (heardN a) : Nat) : Int) = 0 := (zeq (z_nI (by omega)) (by decide)).mp h1
      refine w_aload_n dX10_luck_65 rfl ?_
      refine w_getR (w := some (1, 0, 0)) ff_X10_10 rfl rfl dX10_luck_66 rfl ?_
      refine w_iload dX10_luck_69 rfl ?_
      refine w_callV (as := [vI (nI u)]) (st := []) (Tri.mono (c_crimeWithout hc hw hlt) (Nat.le_of_ble_eq_true rfl)) rfl rfl tg_X1_crimeWithout lk_X10_256 in_X1_crimeWithout se_X1_crimeWithout rfl dX10_luck_71 rfl (Nat.le_of_ble_eq_true rfl) (Nat.le_refl _) (Nat.le_refl _) ?_
      rintro _ _ ⟨rfl, rfl⟩ -
      refine w_iload_n dX10_luck_74 rfl ?_
      refine w_icmp_gt (tgt := 91) dX10_luck_75 (by decide) (fun h2 => ?_) (fun h2 => ?_)
      · skip
        replace h2 : ((w : Nat) : Int) < ((cwN a u (nC a) : Nat) : Int) := (zlt (z_nI (by omega)) (z_nI (by omega))).mp h2
        have e9 : sumN (fB a v w) u = sumN (fB a v w) (u + 1) := by rw [sumN]; unfold fB; rw [if_neg (show ¬ (newN u (heardN a) = 0 ∧ cwN a u (nC a) ≤ w) by omega), Nat.add_zero]
        rw [e9]
        refine w_iinc (v := nI (u + 1)) (ls' := [some (vR 0 0 0), some (vI (nI v)), some (vI (nI w)), some (vI (what)), some (vI (nI (heardN a))), some (vL (lN (sumN (fB a v w) (u + 1)))), none, some (vI (nI (u + 1)))]) dX10_luck_91 rfl (nI_1 _) rfl ?_
        refine w_goto (tgt := 48) dX10_luck_94 (by decide) ?_
        exact ih (u + 1) (by omega)
      · skip
        replace h2 : ¬ (((w : Nat) : Int) < ((cwN a u (nC a) : Nat) : Int)) := fun q => h2 ((zlt (z_nI (by omega)) (z_nI (by omega))).mpr q)
        refine w_lload dX10_luck_78 rfl ?_
        refine w_iload dX10_luck_80 rfl ?_
        refine w_iload dX10_luck_82 rfl ?_
        refine w_iload_n dX10_luck_84 rfl ?_
        refine w_callS (as := [vI (nI u), vI (nI (heardN a)), vI (nI v)]) (st := [vL (lN (sumN (fB a v w) u))]) (Tri.mono (c_oddsOf (u := u) (h := heardN a) (v := v) hlt hh hv) (Nat.le_of_ble_eq_true rfl)) tg_X10_oddsOf lk_X10_252 sa_X10_oddsOf rfl dX10_luck_85 rfl (Nat.le_of_ble_eq_true rfl) (Nat.le_refl _) (Nat.le_refl _) ?_
        rintro _ _ ⟨rfl, rfl⟩ -
        refine w_ladd dX10_luck_88 ?_
        refine w_topL (y := lN (sumN (fB a v w) (u + 1))) (show ((lN (sumN (fB a v w) u)) + (lN (oddN (heardN a) v u 5)) : Int64) = lN (sumN (fB a v w) (u + 1)) from by rw [lN_add, sumN]; unfold fB; rw [if_pos (show newN u (heardN a) = 0 ∧ cwN a u (nC a) ≤ w by omega)]) ?_
        refine w_lstore (ls' := [some (vR 0 0 0), some (vI (nI v)), some (vI (nI w)), some (vI (what)), some (vI (nI (heardN a))), some (vL (lN (sumN (fB a v w) (u + 1)))), none, some (vI (nI u))]) dX10_luck_89 rfl ?_
        refine w_iinc (v := nI (u + 1)) (ls' := [some (vR 0 0 0), some (vI (nI v)), some (vI (nI w)), some (vI (what)), some (vI (nI (heardN a))), some (vL (lN (sumN (fB a v w) (u + 1)))), none, some (vI (nI (u + 1)))]) dX10_luck_91 rfl (nI_1 _) rfl ?_
        refine w_goto (tgt := 48) dX10_luck_94 (by decide) ?_
        exact ih (u + 1) (by omega)

theorem heard_pop {a : aA} (hw : WF a) : popN (heardN a) ≤ 5 := popN_lt _ (heardN_lt hw)
theorem alw_eq {a : aA} (hw : WF a) : alwN (heardN a) (nC a) = 10 ^ popN (heardN a) := alwN_pow (nC a) (by have := hw.2.1; omega) (heardN a) (bitN_lt _ _)

theorem p_mean_0 {I : xF4 Int32} {L : xF4 Int64} {a : aA} (hc : CourtIs I 0 a) (hw : WF a) {v : Nat} (hv : v ≤ 10) : Tri 19 109 m_X10_mean [vR 0 0 0, vI (nI v), vI (0)] (rM I L) (pCq (vL (lN (lowN (sumN (fA a v) 32) (10 ^ popN (heardN a)) 0))) I) := by
  refine ⟨k_X10_mean, Nat.le_of_ble_eq_true rfl, ?_⟩
  show Wp _ _ _ 0 [some (vR 0 0 0), some (vI (nI v)), some (vI (0)), none, none, none, none] [] (rM I L) _
  obtain ⟨hJ, hC, hG, hD, hR, -⟩ := id hw
  refine w_iload_n dX10_mean_0 rfl ?_
  refine w_iconst (v := 0) dX10_mean_1 (by decide) ?_
  refine w_bipush (v := 10) dX10_mean_2 (by decide) ?_
  refine w_callS (as := [vI (nI v), vI (0), vI (10)]) (st := []) (Tri.mono (c_X10_within (nI v) (0) (10)) (Nat.le_of_ble_eq_true rfl)) tg_X10_within lk_X10_158 sa_X10_within rfl dX10_mean_4 rfl (Nat.le_of_ble_eq_true rfl) (Nat.le_refl _) (Nat.le_refl _) ?_
  rintro _ _ ⟨rfl, rfl⟩ -
  refine w_top (y := bI (0 ≤ ((v : Nat) : Int) ∧ ((v : Nat) : Int) ≤ 10)) (show (bI ((0 : Int32) ≤ (nI v) ∧ (nI v) ≤ (10 : Int32)) : Int32) = bI (0 ≤ ((v : Nat) : Int) ∧ ((v : Nat) : Int) ≤ 10) from wiZ (X := ((v : Nat) : Int)) (A := 0) (B := 10) (z_nI (by omega)) (by decide) (by decide)) ?_
  refine w_ifeq_b (tgt := 19) dX10_mean_7 (by decide) (fun h1 => ?_) (fun h1 => ?_)
  · skip
    first
    | (exfalso; omega)
    | skip
      refine w_ldc2 dX10_mean_19 cq_X10_250 ?_
      exact w_lreturn dX10_mean_22 rfl rfl (⟨rfl, _, _, rfl, FrQ.rf⟩)
  · skip
    first
    | (exfalso; omega)
    | skip
      refine w_iload_n dX10_mean_10 rfl ?_
      refine w_iconst (v := 0) dX10_mean_11 (by decide) ?_
      refine w_iconst (v := 1) dX10_mean_12 (by decide) ?_
      refine w_callS (as := [vI (0), vI (0), vI (1)]) (st := []) (Tri.mono (c_X10_within (0) (0) (1)) (Nat.le_of_ble_eq_true rfl)) tg_X10_within lk_X10_158 sa_X10_within rfl dX10_mean_13 rfl (Nat.le_of_ble_eq_true rfl) (Nat.le_refl _) (Nat.le_refl _) ?_
      rintro _ _ ⟨rfl, rfl⟩ -
      refine w_top (y := 1) (show (bI ((0 : Int32) ≤ ((0 : Int32)) ∧ ((0 : Int32)) ≤ (1 : Int32)) : Int32) = 1 from bI_t (by decide)) ?_
      refine w_if_ne (tgt := 23) dX10_mean_16 (by decide) (fun _ => ?_) (fun h => absurd h (by decide))
      refine w_aload_n dX10_mean_23 rfl ?_
      refine w_getR (w := some (1, 0, 0)) ff_X10_10 rfl rfl dX10_mean_24 rfl ?_
      refine w_callV (as := []) (st := []) (Tri.mono (c_heardBits hc hw) (Nat.le_of_ble_eq_true rfl)) rfl rfl tg_X1_heardBits lk_X10_101 in_X1_heardBits se_X1_heardBits rfl dX10_mean_27 rfl (Nat.le_of_ble_eq_true rfl) (Nat.le_refl _) (Nat.le_refl _) ?_
      rintro _ _ ⟨rfl, rfl⟩ -
      refine w_istore_n (ls' := [some (vR 0 0 0), some (vI (nI v)), some (vI (0)), some (vI (nI (heardN a))), none, none, none]) dX10_mean_30 rfl ?_
      refine w_lconst (v := 0) dX10_mean_31 (by decide) ?_
      refine w_lstore (ls' := [some (vR 0 0 0), some (vI (nI v)), some (vI (0)), some (vI (nI (heardN a))), some (vL (0)), none, none]) dX10_mean_32 rfl ?_
      refine w_iconst (v := 0) dX10_mean_34 (by decide) ?_
      refine w_istore (ls' := [some (vR 0 0 0), some (vI (nI v)), some (vI (0)), some (vI (nI (heardN a))), some (vL (0)), none, some (vI (0))]) dX10_mean_35 rfl ?_
      refine l_mean hc hw hv ?_ 32 0 rfl
      have hh := heardN_lt hw
      obtain ⟨p1, p2⟩ := pow5 (popN (heardN a)) (by have := heard_pop hw; omega)
      have hS := sumN_b (f := (fA a v)) (b := 9900000) (fun i => fA_le hw hv i) 32
      refine w_lload dX10_mean_82 rfl ?_
      refine w_iload_n dX10_mean_84 rfl ?_
      refine w_callS (as := [vI (nI (heardN a))]) (st := [vL (lN (sumN (fA a v) 32))]) (Tri.mono (c_oddsInAll (h := heardN a) hh) (Nat.le_of_ble_eq_true rfl)) tg_X10_oddsInAll lk_X10_259 sa_X10_oddsInAll rfl dX10_mean_85 rfl (Nat.le_of_ble_eq_true rfl) (Nat.le_refl _) (Nat.le_refl _) ?_
      rintro _ _ ⟨rfl, rfl⟩ -
      refine w_iload_n dX10_mean_88 rfl ?_
      refine w_callS (as := [vL (lN (sumN (fA a v) 32)), vL (lN (10 ^ popN (heardN a))), vI (0)]) (st := []) (Tri.mono (c_lowest (s := sumN (fA a v) 32) (t := 10 ^ popN (heardN a)) (what := 0) (by omega) (by omega) (by decide) (gcd_nz p2)) (Nat.le_of_ble_eq_true rfl)) tg_X10_lowest lk_X10_263 sa_X10_lowest rfl dX10_mean_89 rfl (Nat.le_of_ble_eq_true rfl) (Nat.le_refl _) (Nat.le_refl _) ?_
      rintro _ _ ⟨rfl, rfl⟩ -
      exact w_lreturn dX10_mean_92 rfl rfl (⟨rfl, _, _, rfl, FrQ.rf⟩)

theorem q_mean_0 {I : xF4 Int32} {L : xF4 Int64} {a : aA} (hs : SI I a) (hw : WF a) {v : Nat} (hv : v ≤ 10) : Tri 19 109 m_X11_mean [vR 30 0 0, vI (nI v), vI (0)] (rM I L) (pMq (vL (lN (lowN (sumN (fA a v) 32) (10 ^ popN (heardN a)) 0))) I) := by
  refine ⟨k_X11_mean, Nat.le_of_ble_eq_true rfl, ?_⟩
  show Wp _ _ _ 0 [some (vR 30 0 0), some (vI (nI v)), some (vI (0))] [] (rM I L) _
  obtain ⟨hJ, hC, hG, hD, hR, -⟩ := id hw
  refine w_iload_n dX11_mean_0 rfl ?_
  refine w_i2l dX11_mean_1 ?_
  refine w_lconst (v := 0) dX11_mean_2 (by decide) ?_
  refine w_ldc2 dX11_mean_3 cq_X11_269 ?_
  refine w_callS (as := [vL ((nI v : Int32).toInt64), vL (0), vL (10)]) (st := []) (Tri.mono (d_in ((nI v : Int32).toInt64) (0) (10)) (Nat.le_of_ble_eq_true rfl)) tg_X11_in lk_X11_66 sa_X11_in rfl dX11_mean_6 rfl (Nat.le_of_ble_eq_true rfl) (Nat.le_refl _) (Nat.le_refl _) ?_
  rintro _ _ ⟨rfl, rfl⟩ -
  refine w_top (y := bI (0 ≤ ((v : Nat) : Int) ∧ ((v : Nat) : Int) ≤ 10)) (show (bI ((0 : Int64) ≤ ((nI v : Int32).toInt64) ∧ ((nI v : Int32).toInt64) ≤ (10 : Int64)) : Int32) = bI (0 ≤ ((v : Nat) : Int) ∧ ((v : Nat) : Int) ≤ 10) from inZ (x := nI v) (l := 0) (h := 10) (X := ((v : Nat) : Int)) (A := 0) (B := 10) rfl (by decide) (by decide) (z_nI (by omega)) (by decide) (by decide)) ?_
  refine w_ifeq_b (tgt := 19) dX11_mean_9 (by decide) (fun h1 => ?_) (fun h1 => ?_)
  · skip
    first
    | (exfalso; omega)
    | skip
      refine w_ldc2 dX11_mean_19 cq_X11_271 ?_
      exact w_lreturn dX11_mean_22 rfl rfl (⟨rfl, _, _, rfl, FrR.rf⟩)
  · skip
    first
    | (exfalso; omega)
    | skip
      refine w_iload_n dX11_mean_12 rfl ?_
      refine w_callS (as := [vI (0)]) (st := []) (Tri.mono (d_isPart (x := 0) (X := (0 : Int)) (by decide)) (Nat.le_of_ble_eq_true rfl)) tg_X11_isPart lk_X11_245 sa_X11_isPart rfl dX11_mean_13 rfl (Nat.le_of_ble_eq_true rfl) (Nat.le_refl _) (Nat.le_refl _) ?_
      rintro _ _ ⟨rfl, rfl⟩ -
      refine w_top (y := 1) (show (bI ((0 : Int) ≤ 0 ∧ (0 : Int) ≤ 1) : Int32) = 1 from bI_t (by decide)) ?_
      refine w_if_ne (tgt := 23) dX11_mean_16 (by decide) (fun _ => ?_) (fun h => absurd h (by decide))
      refine w_aload_n dX11_mean_23 rfl ?_
      refine w_iload_n dX11_mean_24 rfl ?_
      refine w_iconst (v := 0) dX11_mean_25 (by decide) ?_
      refine w_callV (as := [vI (nI v), vI (0)]) (st := []) (Tri.mono (d_findOdds hs hw (v := v) (w := 0) hv (by decide)) (Nat.le_of_ble_eq_true rfl)) rfl rfl tg_X11_findOdds lk_X11_273 in_X11_findOdds se_X11_findOdds rfl dX11_mean_26 rfl (Nat.le_of_ble_eq_true rfl) (Nat.le_refl _) (Nat.le_refl _) ?_
      rintro x9 M9 ⟨rfl, I1, L1, rfl, l0, l1, l2, hf1⟩ -
      have hh := heardN_lt hw
      obtain ⟨p1, p2⟩ := pow5 (popN (heardN a)) (by have := heard_pop hw; omega)
      have hS := sumN_b (f := (fA a v)) (b := 9900000) (fun i => fA_le hw hv i) 32
      have hgl := Nat.le_of_dvd (Nat.pos_of_ne_zero p2) (Nat.gcd_dvd_right (sumN (fA a v) 32) (10 ^ popN (heardN a)))
      refine w_aload_n dX11_mean_29 rfl ?_
      refine w_getL ff_X11_259 rfl rfl dX11_mean_30 ?_
      refine w_topL (y := lN (sumN (fA a v) 32)) (show (L1 30 0 0 20 : Int64) = lN (sumN (fA a v) 32) from l0.trans (congrArg lN (fA_hi hw v).symm)) ?_
      refine w_aload_n dX11_mean_33 rfl ?_
      refine w_getL ff_X11_266 rfl rfl dX11_mean_34 ?_
      refine w_topL (y := lN (10 ^ popN (heardN a))) (show (L1 30 0 0 22 : Int64) = lN (10 ^ popN (heardN a)) from l2.trans (congrArg lN (alw_eq hw))) ?_
      refine w_iload_n dX11_mean_37 rfl ?_
      refine w_callS (as := [vL (lN (sumN (fA a v) 32)), vL (lN (10 ^ popN (heardN a))), vI (0)]) (st := []) (Tri.mono (d_told (s := sumN (fA a v) 32) (t := 10 ^ popN (heardN a)) (what := 0) (by omega) (by omega) (by decide) (gcd_nz p2) (by omega)) (Nat.le_of_ble_eq_true rfl)) tg_X11_told lk_X11_277 sa_X11_told rfl dX11_mean_38 rfl (Nat.le_of_ble_eq_true rfl) (Nat.le_refl _) (Nat.le_refl _) ?_
      rintro _ _ ⟨rfl, rfl⟩ -
      exact w_lreturn dX11_mean_41 rfl rfl (⟨rfl, _, _, rfl, hf1⟩)

theorem p_luck_0 {I : xF4 Int32} {L : xF4 Int64} {a : aA} (hc : CourtIs I 0 a) (hw : WF a) {v w : Nat} (hv : v ≤ 10) (hw99 : w ≤ 99) : Tri 19 109 m_X10_luck [vR 0 0 0, vI (nI v), vI (nI w), vI (0)] (rM I L) (pCq (vL (lN (lowN (sumN (fB a v w) 32) (10 ^ popN (heardN a)) 0))) I) := by
  refine ⟨k_X10_luck, Nat.le_of_ble_eq_true rfl, ?_⟩
  show Wp _ _ _ 0 [some (vR 0 0 0), some (vI (nI v)), some (vI (nI w)), some (vI (0)), none, none, none, none] [] (rM I L) _
  obtain ⟨hJ, hC, hG, hD, hR, -⟩ := id hw
  refine w_iload_n dX10_luck_0 rfl ?_
  refine w_iconst (v := 0) dX10_luck_1 (by decide) ?_
  refine w_bipush (v := 10) dX10_luck_2 (by decide) ?_
  refine w_callS (as := [vI (nI v), vI (0), vI (10)]) (st := []) (Tri.mono (c_X10_within (nI v) (0) (10)) (Nat.le_of_ble_eq_true rfl)) tg_X10_within lk_X10_158 sa_X10_within rfl dX10_luck_4 rfl (Nat.le_of_ble_eq_true rfl) (Nat.le_refl _) (Nat.le_refl _) ?_
  rintro _ _ ⟨rfl, rfl⟩ -
  refine w_top (y := bI (0 ≤ ((v : Nat) : Int) ∧ ((v : Nat) : Int) ≤ 10)) (show (bI ((0 : Int32) ≤ (nI v) ∧ (nI v) ≤ (10 : Int32)) : Int32) = bI (0 ≤ ((v : Nat) : Int) ∧ ((v : Nat) : Int) ≤ 10) from wiZ (X := ((v : Nat) : Int)) (A := 0) (B := 10) (z_nI (by omega)) (by decide) (by decide)) ?_
  refine w_ifeq_b (tgt := 29) dX10_luck_7 (by decide) (fun h1 => ?_) (fun h1 => ?_)
  · skip
    first
    | (exfalso; omega)
    | skip
      refine w_ldc2 dX10_luck_29 cq_X10_250 ?_
      exact w_lreturn dX10_luck_32 rfl rfl (⟨rfl, _, _, rfl, FrQ.rf⟩)
  · skip
    first
    | (exfalso; omega)
    | skip
      refine w_iload_n dX10_luck_10 rfl ?_
      refine w_iconst (v := 0) dX10_luck_11 (by decide) ?_
      refine w_bipush (v := 99) dX10_luck_12 (by decide) ?_
      refine w_callS (as := [vI (nI w), vI (0), vI (99)]) (st := []) (Tri.mono (c_X10_within (nI w) (0) (99)) (Nat.le_of_ble_eq_true rfl)) tg_X10_within lk_X10_158 sa_X10_within rfl dX10_luck_14 rfl (Nat.le_of_ble_eq_true rfl) (Nat.le_refl _) (Nat.le_refl _) ?_
      rintro _ _ ⟨rfl, rfl⟩ -
      refine w_top (y := bI (0 ≤ ((w : Nat) : Int) ∧ ((w : Nat) : Int) ≤ 99)) (show (bI ((0 : Int32) ≤ (nI w) ∧ (nI w) ≤ (99 : Int32)) : Int32) = bI (0 ≤ ((w : Nat) : Int) ∧ ((w : Nat) : Int) ≤ 99) from wiZ (X := ((w : Nat) : Int)) (A := 0) (B := 99) (z_nI (by omega)) (by decide) (by decide)) ?_
      refine w_ifeq_b (tgt := 29) dX10_luck_17 (by decide) (fun h2 => ?_) (fun h2 => ?_)
      · skip
        first
        | (exfalso; omega)
        | skip
          refine w_ldc2 dX10_luck_29 cq_X10_250 ?_
          exact w_lreturn dX10_luck_32 rfl rfl (⟨rfl, _, _, rfl, FrQ.rf⟩)
      · skip
        first
        | (exfalso; omega)
        | skip
          refine w_iload_n dX10_luck_20 rfl ?_
          refine w_iconst (v := 0) dX10_luck_21 (by decide) ?_
          refine w_iconst (v := 1) dX10_luck_22 (by decide) ?_
          refine w_callS (as := [vI (0), vI (0), vI (1)]) (st := []) (Tri.mono (c_X10_within (0) (0) (1)) (Nat.le_of_ble_eq_true rfl)) tg_X10_within lk_X10_158 sa_X10_within rfl dX10_luck_23 rfl (Nat.le_of_ble_eq_true rfl) (Nat.le_refl _) (Nat.le_refl _) ?_
          rintro _ _ ⟨rfl, rfl⟩ -
          refine w_top (y := 1) (show (bI ((0 : Int32) ≤ ((0 : Int32)) ∧ ((0 : Int32)) ≤ (1 : Int32)) : Int32) = 1 from bI_t (by decide)) ?_
          refine w_if_ne (tgt := 33) dX10_luck_26 (by decide) (fun _ => ?_) (fun h => absurd h (by decide))
          refine w_aload_n dX10_luck_33 rfl ?_
          refine w_getR (w := some (1, 0, 0)) ff_X10_10 rfl rfl dX10_luck_34 rfl ?_
          refine w_callV (as := []) (st := []) (Tri.mono (c_heardBits hc hw) (Nat.le_of_ble_eq_true rfl)) rfl rfl tg_X1_heardBits lk_X10_101 in_X1_heardBits se_X1_heardBits rfl dX10_luck_37 rfl (Nat.le_of_ble_eq_true rfl) (Nat.le_refl _) (Nat.le_refl _) ?_
          rintro _ _ ⟨rfl, rfl⟩ -
          refine w_istore (ls' := [some (vR 0 0 0), some (vI (nI v)), some (vI (nI w)), some (vI (0)), some (vI (nI (heardN a))), none, none, none]) dX10_luck_40 rfl ?_
          refine w_lconst (v := 0) dX10_luck_42 (by decide) ?_
          refine w_lstore (ls' := [some (vR 0 0 0), some (vI (nI v)), some (vI (nI w)), some (vI (0)), some (vI (nI (heardN a))), some (vL (0)), none, none]) dX10_luck_43 rfl ?_
          refine w_iconst (v := 0) dX10_luck_45 (by decide) ?_
          refine w_istore (ls' := [some (vR 0 0 0), some (vI (nI v)), some (vI (nI w)), some (vI (0)), some (vI (nI (heardN a))), some (vL (0)), none, some (vI (0))]) dX10_luck_46 rfl ?_
          refine l_luck hc hw hv hw99 ?_ 32 0 rfl
          have hh := heardN_lt hw
          obtain ⟨p1, p2⟩ := pow5 (popN (heardN a)) (by have := heard_pop hw; omega)
          have hS := sumN_b (f := (fB a v w)) (b := 100000) (fun i => fB_le hv i) 32
          refine w_lload dX10_luck_97 rfl ?_
          refine w_iload dX10_luck_99 rfl ?_
          refine w_callS (as := [vI (nI (heardN a))]) (st := [vL (lN (sumN (fB a v w) 32))]) (Tri.mono (c_oddsInAll (h := heardN a) hh) (Nat.le_of_ble_eq_true rfl)) tg_X10_oddsInAll lk_X10_259 sa_X10_oddsInAll rfl dX10_luck_101 rfl (Nat.le_of_ble_eq_true rfl) (Nat.le_refl _) (Nat.le_refl _) ?_
          rintro _ _ ⟨rfl, rfl⟩ -
          refine w_iload_n dX10_luck_104 rfl ?_
          refine w_callS (as := [vL (lN (sumN (fB a v w) 32)), vL (lN (10 ^ popN (heardN a))), vI (0)]) (st := []) (Tri.mono (c_lowest (s := sumN (fB a v w) 32) (t := 10 ^ popN (heardN a)) (what := 0) (by omega) (by omega) (by decide) (gcd_nz p2)) (Nat.le_of_ble_eq_true rfl)) tg_X10_lowest lk_X10_263 sa_X10_lowest rfl dX10_luck_105 rfl (Nat.le_of_ble_eq_true rfl) (Nat.le_refl _) (Nat.le_refl _) ?_
          rintro _ _ ⟨rfl, rfl⟩ -
          exact w_lreturn dX10_luck_108 rfl rfl (⟨rfl, _, _, rfl, FrQ.rf⟩)

theorem q_luck_0 {I : xF4 Int32} {L : xF4 Int64} {a : aA} (hs : SI I a) (hw : WF a) {v w : Nat} (hv : v ≤ 10) (hw99 : w ≤ 99) : Tri 19 109 m_X11_luck [vR 30 0 0, vI (nI v), vI (nI w), vI (0)] (rM I L) (pMq (vL (lN (lowN (sumN (fB a v w) 32) (10 ^ popN (heardN a)) 0))) I) := by
  refine ⟨k_X11_luck, Nat.le_of_ble_eq_true rfl, ?_⟩
  show Wp _ _ _ 0 [some (vR 30 0 0), some (vI (nI v)), some (vI (nI w)), some (vI (0))] [] (rM I L) _
  obtain ⟨hJ, hC, hG, hD, hR, -⟩ := id hw
  refine w_iload_n dX11_luck_0 rfl ?_
  refine w_i2l dX11_luck_1 ?_
  refine w_lconst (v := 0) dX11_luck_2 (by decide) ?_
  refine w_ldc2 dX11_luck_3 cq_X11_269 ?_
  refine w_callS (as := [vL ((nI v : Int32).toInt64), vL (0), vL (10)]) (st := []) (Tri.mono (d_in ((nI v : Int32).toInt64) (0) (10)) (Nat.le_of_ble_eq_true rfl)) tg_X11_in lk_X11_66 sa_X11_in rfl dX11_luck_6 rfl (Nat.le_of_ble_eq_true rfl) (Nat.le_refl _) (Nat.le_refl _) ?_
  rintro _ _ ⟨rfl, rfl⟩ -
  refine w_top (y := bI (0 ≤ ((v : Nat) : Int) ∧ ((v : Nat) : Int) ≤ 10)) (show (bI ((0 : Int64) ≤ ((nI v : Int32).toInt64) ∧ ((nI v : Int32).toInt64) ≤ (10 : Int64)) : Int32) = bI (0 ≤ ((v : Nat) : Int) ∧ ((v : Nat) : Int) ≤ 10) from inZ (x := nI v) (l := 0) (h := 10) (X := ((v : Nat) : Int)) (A := 0) (B := 10) rfl (by decide) (by decide) (z_nI (by omega)) (by decide) (by decide)) ?_
  refine w_ifeq_b (tgt := 31) dX11_luck_9 (by decide) (fun h1 => ?_) (fun h1 => ?_)
  · skip
    first
    | (exfalso; omega)
    | skip
      refine w_ldc2 dX11_luck_31 cq_X11_271 ?_
      exact w_lreturn dX11_luck_34 rfl rfl (⟨rfl, _, _, rfl, FrR.rf⟩)
  · skip
    first
    | (exfalso; omega)
    | skip
      refine w_iload_n dX11_luck_12 rfl ?_
      refine w_i2l dX11_luck_13 ?_
      refine w_lconst (v := 0) dX11_luck_14 (by decide) ?_
      refine w_ldc2 dX11_luck_15 cq_X11_213 ?_
      refine w_callS (as := [vL ((nI w : Int32).toInt64), vL (0), vL (99)]) (st := []) (Tri.mono (d_in ((nI w : Int32).toInt64) (0) (99)) (Nat.le_of_ble_eq_true rfl)) tg_X11_in lk_X11_66 sa_X11_in rfl dX11_luck_18 rfl (Nat.le_of_ble_eq_true rfl) (Nat.le_refl _) (Nat.le_refl _) ?_
      rintro _ _ ⟨rfl, rfl⟩ -
      refine w_top (y := bI (0 ≤ ((w : Nat) : Int) ∧ ((w : Nat) : Int) ≤ 99)) (show (bI ((0 : Int64) ≤ ((nI w : Int32).toInt64) ∧ ((nI w : Int32).toInt64) ≤ (99 : Int64)) : Int32) = bI (0 ≤ ((w : Nat) : Int) ∧ ((w : Nat) : Int) ≤ 99) from inZ (x := nI w) (l := 0) (h := 99) (X := ((w : Nat) : Int)) (A := 0) (B := 99) rfl (by decide) (by decide) (z_nI (by omega)) (by decide) (by decide)) ?_
      refine w_ifeq_b (tgt := 31) dX11_luck_21 (by decide) (fun h2 => ?_) (fun h2 => ?_)
      · skip
        first
        | (exfalso; omega)
        | skip
          refine w_ldc2 dX11_luck_31 cq_X11_271 ?_
          exact w_lreturn dX11_luck_34 rfl rfl (⟨rfl, _, _, rfl, FrR.rf⟩)
      · skip
        first
        | (exfalso; omega)
        | skip
          refine w_iload_n dX11_luck_24 rfl ?_
          refine w_callS (as := [vI (0)]) (st := []) (Tri.mono (d_isPart (x := 0) (X := (0 : Int)) (by decide)) (Nat.le_of_ble_eq_true rfl)) tg_X11_isPart lk_X11_245 sa_X11_isPart rfl dX11_luck_25 rfl (Nat.le_of_ble_eq_true rfl) (Nat.le_refl _) (Nat.le_refl _) ?_
          rintro _ _ ⟨rfl, rfl⟩ -
          refine w_top (y := 1) (show (bI ((0 : Int) ≤ 0 ∧ (0 : Int) ≤ 1) : Int32) = 1 from bI_t (by decide)) ?_
          refine w_if_ne (tgt := 35) dX11_luck_28 (by decide) (fun _ => ?_) (fun h => absurd h (by decide))
          refine w_aload_n dX11_luck_35 rfl ?_
          refine w_iload_n dX11_luck_36 rfl ?_
          refine w_iload_n dX11_luck_37 rfl ?_
          refine w_callV (as := [vI (nI v), vI (nI w)]) (st := []) (Tri.mono (d_findOdds hs hw (v := v) (w := w) hv hw99) (Nat.le_of_ble_eq_true rfl)) rfl rfl tg_X11_findOdds lk_X11_273 in_X11_findOdds se_X11_findOdds rfl dX11_luck_38 rfl (Nat.le_of_ble_eq_true rfl) (Nat.le_refl _) (Nat.le_refl _) ?_
          rintro x9 M9 ⟨rfl, I1, L1, rfl, l0, l1, l2, hf1⟩ -
          have hh := heardN_lt hw
          obtain ⟨p1, p2⟩ := pow5 (popN (heardN a)) (by have := heard_pop hw; omega)
          have hS := sumN_b (f := (fB a v w)) (b := 100000) (fun i => fB_le hv i) 32
          have hgl := Nat.le_of_dvd (Nat.pos_of_ne_zero p2) (Nat.gcd_dvd_right (sumN (fB a v w) 32) (10 ^ popN (heardN a)))
          refine w_aload_n dX11_luck_41 rfl ?_
          refine w_getL ff_X11_263 rfl rfl dX11_luck_42 ?_
          refine w_topL (y := lN (sumN (fB a v w) 32)) (show (L1 30 0 0 21 : Int64) = lN (sumN (fB a v w) 32) from l1.trans (congrArg lN (fB_hi hw v w).symm)) ?_
          refine w_aload_n dX11_luck_45 rfl ?_
          refine w_getL ff_X11_266 rfl rfl dX11_luck_46 ?_
          refine w_topL (y := lN (10 ^ popN (heardN a))) (show (L1 30 0 0 22 : Int64) = lN (10 ^ popN (heardN a)) from l2.trans (congrArg lN (alw_eq hw))) ?_
          refine w_iload_n dX11_luck_49 rfl ?_
          refine w_callS (as := [vL (lN (sumN (fB a v w) 32)), vL (lN (10 ^ popN (heardN a))), vI (0)]) (st := []) (Tri.mono (d_told (s := sumN (fB a v w) 32) (t := 10 ^ popN (heardN a)) (what := 0) (by omega) (by omega) (by decide) (gcd_nz p2) (by omega)) (Nat.le_of_ble_eq_true rfl)) tg_X11_told lk_X11_277 sa_X11_told rfl dX11_luck_50 rfl (Nat.le_of_ble_eq_true rfl) (Nat.le_refl _) (Nat.le_refl _) ?_
          rintro _ _ ⟨rfl, rfl⟩ -
          exact w_lreturn dX11_luck_53 rfl rfl (⟨rfl, _, _, rfl, hf1⟩)

theorem p_mean_1 {I : xF4 Int32} {L : xF4 Int64} {a : aA} (hc : CourtIs I 0 a) (hw : WF a) {v : Nat} (hv : v ≤ 10) : Tri 19 109 m_X10_mean [vR 0 0 0, vI (nI v), vI (1)] (rM I L) (pCq (vL (lN (lowN (sumN (fA a v) 32) (10 ^ popN (heardN a)) 1))) I) := by
  refine ⟨k_X10_mean, Nat.le_of_ble_eq_true rfl, ?_⟩
  show Wp _ _ _ 0 [some (vR 0 0 0), some (vI (nI v)), some (vI (1)), none, none, none, none] [] (rM I L) _
  obtain ⟨hJ, hC, hG, hD, hR, -⟩ := id hw
  refine w_iload_n dX10_mean_0 rfl ?_
  refine w_iconst (v := 0) dX10_mean_1 (by decide) ?_
  refine w_bipush (v := 10) dX10_mean_2 (by decide) ?_
  refine w_callS (as := [vI (nI v), vI (0), vI (10)]) (st := []) (Tri.mono (c_X10_within (nI v) (0) (10)) (Nat.le_of_ble_eq_true rfl)) tg_X10_within lk_X10_158 sa_X10_within rfl dX10_mean_4 rfl (Nat.le_of_ble_eq_true rfl) (Nat.le_refl _) (Nat.le_refl _) ?_
  rintro _ _ ⟨rfl, rfl⟩ -
  refine w_top (y := bI (0 ≤ ((v : Nat) : Int) ∧ ((v : Nat) : Int) ≤ 10)) (show (bI ((0 : Int32) ≤ (nI v) ∧ (nI v) ≤ (10 : Int32)) : Int32) = bI (0 ≤ ((v : Nat) : Int) ∧ ((v : Nat) : Int) ≤ 10) from wiZ (X := ((v : Nat) : Int)) (A := 0) (B := 10) (z_nI (by omega)) (by decide) (by decide)) ?_
  refine w_ifeq_b (tgt := 19) dX10_mean_7 (by decide) (fun h1 => ?_) (fun h1 => ?_)
  · skip
    first
    | (exfalso; omega)
    | skip
      refine w_ldc2 dX10_mean_19 cq_X10_250 ?_
      exact w_lreturn dX10_mean_22 rfl rfl (⟨rfl, _, _, rfl, FrQ.rf⟩)
  · skip
    first
    | (exfalso; omega)
    | skip
      refine w_iload_n dX10_mean_10 rfl ?_
      refine w_iconst (v := 0) dX10_mean_11 (by decide) ?_
      refine w_iconst (v := 1) dX10_mean_12 (by decide) ?_
      refine w_callS (as := [vI (1), vI (0), vI (1)]) (st := []) (Tri.mono (c_X10_within (1) (0) (1)) (Nat.le_of_ble_eq_true rfl)) tg_X10_within lk_X10_158 sa_X10_within rfl dX10_mean_13 rfl (Nat.le_of_ble_eq_true rfl) (Nat.le_refl _) (Nat.le_refl _) ?_
      rintro _ _ ⟨rfl, rfl⟩ -
      refine w_top (y := 1) (show (bI ((0 : Int32) ≤ ((1 : Int32)) ∧ ((1 : Int32)) ≤ (1 : Int32)) : Int32) = 1 from bI_t (by decide)) ?_
      refine w_if_ne (tgt := 23) dX10_mean_16 (by decide) (fun _ => ?_) (fun h => absurd h (by decide))
      refine w_aload_n dX10_mean_23 rfl ?_
      refine w_getR (w := some (1, 0, 0)) ff_X10_10 rfl rfl dX10_mean_24 rfl ?_
      refine w_callV (as := []) (st := []) (Tri.mono (c_heardBits hc hw) (Nat.le_of_ble_eq_true rfl)) rfl rfl tg_X1_heardBits lk_X10_101 in_X1_heardBits se_X1_heardBits rfl dX10_mean_27 rfl (Nat.le_of_ble_eq_true rfl) (Nat.le_refl _) (Nat.le_refl _) ?_
      rintro _ _ ⟨rfl, rfl⟩ -
      refine w_istore_n (ls' := [some (vR 0 0 0), some (vI (nI v)), some (vI (1)), some (vI (nI (heardN a))), none, none, none]) dX10_mean_30 rfl ?_
      refine w_lconst (v := 0) dX10_mean_31 (by decide) ?_
      refine w_lstore (ls' := [some (vR 0 0 0), some (vI (nI v)), some (vI (1)), some (vI (nI (heardN a))), some (vL (0)), none, none]) dX10_mean_32 rfl ?_
      refine w_iconst (v := 0) dX10_mean_34 (by decide) ?_
      refine w_istore (ls' := [some (vR 0 0 0), some (vI (nI v)), some (vI (1)), some (vI (nI (heardN a))), some (vL (0)), none, some (vI (0))]) dX10_mean_35 rfl ?_
      refine l_mean hc hw hv ?_ 32 0 rfl
      have hh := heardN_lt hw
      obtain ⟨p1, p2⟩ := pow5 (popN (heardN a)) (by have := heard_pop hw; omega)
      have hS := sumN_b (f := (fA a v)) (b := 9900000) (fun i => fA_le hw hv i) 32
      refine w_lload dX10_mean_82 rfl ?_
      refine w_iload_n dX10_mean_84 rfl ?_
      refine w_callS (as := [vI (nI (heardN a))]) (st := [vL (lN (sumN (fA a v) 32))]) (Tri.mono (c_oddsInAll (h := heardN a) hh) (Nat.le_of_ble_eq_true rfl)) tg_X10_oddsInAll lk_X10_259 sa_X10_oddsInAll rfl dX10_mean_85 rfl (Nat.le_of_ble_eq_true rfl) (Nat.le_refl _) (Nat.le_refl _) ?_
      rintro _ _ ⟨rfl, rfl⟩ -
      refine w_iload_n dX10_mean_88 rfl ?_
      refine w_callS (as := [vL (lN (sumN (fA a v) 32)), vL (lN (10 ^ popN (heardN a))), vI (1)]) (st := []) (Tri.mono (c_lowest (s := sumN (fA a v) 32) (t := 10 ^ popN (heardN a)) (what := 1) (by omega) (by omega) (by decide) (gcd_nz p2)) (Nat.le_of_ble_eq_true rfl)) tg_X10_lowest lk_X10_263 sa_X10_lowest rfl dX10_mean_89 rfl (Nat.le_of_ble_eq_true rfl) (Nat.le_refl _) (Nat.le_refl _) ?_
      rintro _ _ ⟨rfl, rfl⟩ -
      exact w_lreturn dX10_mean_92 rfl rfl (⟨rfl, _, _, rfl, FrQ.rf⟩)

theorem q_mean_1 {I : xF4 Int32} {L : xF4 Int64} {a : aA} (hs : SI I a) (hw : WF a) {v : Nat} (hv : v ≤ 10) : Tri 19 109 m_X11_mean [vR 30 0 0, vI (nI v), vI (1)] (rM I L) (pMq (vL (lN (lowN (sumN (fA a v) 32) (10 ^ popN (heardN a)) 1))) I) := by
  refine ⟨k_X11_mean, Nat.le_of_ble_eq_true rfl, ?_⟩
  show Wp _ _ _ 0 [some (vR 30 0 0), some (vI (nI v)), some (vI (1))] [] (rM I L) _
  obtain ⟨hJ, hC, hG, hD, hR, -⟩ := id hw
  refine w_iload_n dX11_mean_0 rfl ?_
  refine w_i2l dX11_mean_1 ?_
  refine w_lconst (v := 0) dX11_mean_2 (by decide) ?_
  refine w_ldc2 dX11_mean_3 cq_X11_269 ?_
  refine w_callS (as := [vL ((nI v : Int32).toInt64), vL (0), vL (10)]) (st := []) (Tri.mono (d_in ((nI v : Int32).toInt64) (0) (10)) (Nat.le_of_ble_eq_true rfl)) tg_X11_in lk_X11_66 sa_X11_in rfl dX11_mean_6 rfl (Nat.le_of_ble_eq_true rfl) (Nat.le_refl _) (Nat.le_refl _) ?_
  rintro _ _ ⟨rfl, rfl⟩ -
  refine w_top (y := bI (0 ≤ ((v : Nat) : Int) ∧ ((v : Nat) : Int) ≤ 10)) (show (bI ((0 : Int64) ≤ ((nI v : Int32).toInt64) ∧ ((nI v : Int32).toInt64) ≤ (10 : Int64)) : Int32) = bI (0 ≤ ((v : Nat) : Int) ∧ ((v : Nat) : Int) ≤ 10) from inZ (x := nI v) (l := 0) (h := 10) (X := ((v : Nat) : Int)) (A := 0) (B := 10) rfl (by decide) (by decide) (z_nI (by omega)) (by decide) (by decide)) ?_
  refine w_ifeq_b (tgt := 19) dX11_mean_9 (by decide) (fun h1 => ?_) (fun h1 => ?_)
  · skip
    first
    | (exfalso; omega)
    | skip
      refine w_ldc2 dX11_mean_19 cq_X11_271 ?_
      exact w_lreturn dX11_mean_22 rfl rfl (⟨rfl, _, _, rfl, FrR.rf⟩)
  · skip
    first
    | (exfalso; omega)
    | skip
      refine w_iload_n dX11_mean_12 rfl ?_
      refine w_callS (as := [vI (1)]) (st := []) (Tri.mono (d_isPart (x := 1) (X := (1 : Int)) (by decide)) (Nat.le_of_ble_eq_true rfl)) tg_X11_isPart lk_X11_245 sa_X11_isPart rfl dX11_mean_13 rfl (Nat.le_of_ble_eq_true rfl) (Nat.le_refl _) (Nat.le_refl _) ?_
      rintro _ _ ⟨rfl, rfl⟩ -
      refine w_top (y := 1) (show (bI ((0 : Int) ≤ 1 ∧ (1 : Int) ≤ 1) : Int32) = 1 from bI_t (by decide)) ?_
      refine w_if_ne (tgt := 23) dX11_mean_16 (by decide) (fun _ => ?_) (fun h => absurd h (by decide))
      refine w_aload_n dX11_mean_23 rfl ?_
      refine w_iload_n dX11_mean_24 rfl ?_
      refine w_iconst (v := 0) dX11_mean_25 (by decide) ?_
      refine w_callV (as := [vI (nI v), vI (0)]) (st := []) (Tri.mono (d_findOdds hs hw (v := v) (w := 0) hv (by decide)) (Nat.le_of_ble_eq_true rfl)) rfl rfl tg_X11_findOdds lk_X11_273 in_X11_findOdds se_X11_findOdds rfl dX11_mean_26 rfl (Nat.le_of_ble_eq_true rfl) (Nat.le_refl _) (Nat.le_refl _) ?_
      rintro x9 M9 ⟨rfl, I1, L1, rfl, l0, l1, l2, hf1⟩ -
      have hh := heardN_lt hw
      obtain ⟨p1, p2⟩ := pow5 (popN (heardN a)) (by have := heard_pop hw; omega)
      have hS := sumN_b (f := (fA a v)) (b := 9900000) (fun i => fA_le hw hv i) 32
      have hgl := Nat.le_of_dvd (Nat.pos_of_ne_zero p2) (Nat.gcd_dvd_right (sumN (fA a v) 32) (10 ^ popN (heardN a)))
      refine w_aload_n dX11_mean_29 rfl ?_
      refine w_getL ff_X11_259 rfl rfl dX11_mean_30 ?_
      refine w_topL (y := lN (sumN (fA a v) 32)) (show (L1 30 0 0 20 : Int64) = lN (sumN (fA a v) 32) from l0.trans (congrArg lN (fA_hi hw v).symm)) ?_
      refine w_aload_n dX11_mean_33 rfl ?_
      refine w_getL ff_X11_266 rfl rfl dX11_mean_34 ?_
      refine w_topL (y := lN (10 ^ popN (heardN a))) (show (L1 30 0 0 22 : Int64) = lN (10 ^ popN (heardN a)) from l2.trans (congrArg lN (alw_eq hw))) ?_
      refine w_iload_n dX11_mean_37 rfl ?_
      refine w_callS (as := [vL (lN (sumN (fA a v) 32)), vL (lN (10 ^ popN (heardN a))), vI (1)]) (st := []) (Tri.mono (d_told (s := sumN (fA a v) 32) (t := 10 ^ popN (heardN a)) (what := 1) (by omega) (by omega) (by decide) (gcd_nz p2) (by omega)) (Nat.le_of_ble_eq_true rfl)) tg_X11_told lk_X11_277 sa_X11_told rfl dX11_mean_38 rfl (Nat.le_of_ble_eq_true rfl) (Nat.le_refl _) (Nat.le_refl _) ?_
      rintro _ _ ⟨rfl, rfl⟩ -
      exact w_lreturn dX11_mean_41 rfl rfl (⟨rfl, _, _, rfl, hf1⟩)

theorem p_luck_1 {I : xF4 Int32} {L : xF4 Int64} {a : aA} (hc : CourtIs I 0 a) (hw : WF a) {v w : Nat} (hv : v ≤ 10) (hw99 : w ≤ 99) : Tri 19 109 m_X10_luck [vR 0 0 0, vI (nI v), vI (nI w), vI (1)] (rM I L) (pCq (vL (lN (lowN (sumN (fB a v w) 32) (10 ^ popN (heardN a)) 1))) I) := by
  refine ⟨k_X10_luck, Nat.le_of_ble_eq_true rfl, ?_⟩
  show Wp _ _ _ 0 [some (vR 0 0 0), some (vI (nI v)), some (vI (nI w)), some (vI (1)), none, none, none, none] [] (rM I L) _
  obtain ⟨hJ, hC, hG, hD, hR, -⟩ := id hw
  refine w_iload_n dX10_luck_0 rfl ?_
  refine w_iconst (v := 0) dX10_luck_1 (by decide) ?_
  refine w_bipush (v := 10) dX10_luck_2 (by decide) ?_
  refine w_callS (as := [vI (nI v), vI (0), vI (10)]) (st := []) (Tri.mono (c_X10_within (nI v) (0) (10)) (Nat.le_of_ble_eq_true rfl)) tg_X10_within lk_X10_158 sa_X10_within rfl dX10_luck_4 rfl (Nat.le_of_ble_eq_true rfl) (Nat.le_refl _) (Nat.le_refl _) ?_
  rintro _ _ ⟨rfl, rfl⟩ -
  refine w_top (y := bI (0 ≤ ((v : Nat) : Int) ∧ ((v : Nat) : Int) ≤ 10)) (show (bI ((0 : Int32) ≤ (nI v) ∧ (nI v) ≤ (10 : Int32)) : Int32) = bI (0 ≤ ((v : Nat) : Int) ∧ ((v : Nat) : Int) ≤ 10) from wiZ (X := ((v : Nat) : Int)) (A := 0) (B := 10) (z_nI (by omega)) (by decide) (by decide)) ?_
  refine w_ifeq_b (tgt := 29) dX10_luck_7 (by decide) (fun h1 => ?_) (fun h1 => ?_)
  · skip
    first
    | (exfalso; omega)
    | skip
      refine w_ldc2 dX10_luck_29 cq_X10_250 ?_
      exact w_lreturn dX10_luck_32 rfl rfl (⟨rfl, _, _, rfl, FrQ.rf⟩)
  · skip
    first
    | (exfalso; omega)
    | skip
      refine w_iload_n dX10_luck_10 rfl ?_
      refine w_iconst (v := 0) dX10_luck_11 (by decide) ?_
      refine w_bipush (v := 99) dX10_luck_12 (by decide) ?_
      refine w_callS (as := [vI (nI w), vI (0), vI (99)]) (st := []) (Tri.mono (c_X10_within (nI w) (0) (99)) (Nat.le_of_ble_eq_true rfl)) tg_X10_within lk_X10_158 sa_X10_within rfl dX10_luck_14 rfl (Nat.le_of_ble_eq_true rfl) (Nat.le_refl _) (Nat.le_refl _) ?_
      rintro _ _ ⟨rfl, rfl⟩ -
      refine w_top (y := bI (0 ≤ ((w : Nat) : Int) ∧ ((w : Nat) : Int) ≤ 99)) (show (bI ((0 : Int32) ≤ (nI w) ∧ (nI w) ≤ (99 : Int32)) : Int32) = bI (0 ≤ ((w : Nat) : Int) ∧ ((w : Nat) : Int) ≤ 99) from wiZ (X := ((w : Nat) : Int)) (A := 0) (B := 99) (z_nI (by omega)) (by decide) (by decide)) ?_
      refine w_ifeq_b (tgt := 29) dX10_luck_17 (by decide) (fun h2 => ?_) (fun h2 => ?_)
      · skip
        first
        | (exfalso; omega)
        | skip
          refine w_ldc2 dX10_luck_29 cq_X10_250 ?_
          exact w_lreturn dX10_luck_32 rfl rfl (⟨rfl, _, _, rfl, FrQ.rf⟩)
      · skip
        first
        | (exfalso; omega)
        | skip
          refine w_iload_n dX10_luck_20 rfl ?_
          refine w_iconst (v := 0) dX10_luck_21 (by decide) ?_
          refine w_iconst (v := 1) dX10_luck_22 (by decide) ?_
          refine w_callS (as := [vI (1), vI (0), vI (1)]) (st := []) (Tri.mono (c_X10_within (1) (0) (1)) (Nat.le_of_ble_eq_true rfl)) tg_X10_within lk_X10_158 sa_X10_within rfl dX10_luck_23 rfl (Nat.le_of_ble_eq_true rfl) (Nat.le_refl _) (Nat.le_refl _) ?_
          rintro _ _ ⟨rfl, rfl⟩ -
          refine w_top (y := 1) (show (bI ((0 : Int32) ≤ ((1 : Int32)) ∧ ((1 : Int32)) ≤ (1 : Int32)) : Int32) = 1 from bI_t (by decide)) ?_
          refine w_if_ne (tgt := 33) dX10_luck_26 (by decide) (fun _ => ?_) (fun h => absurd h (by decide))
          refine w_aload_n dX10_luck_33 rfl ?_
          refine w_getR (w := some (1, 0, 0)) ff_X10_10 rfl rfl dX10_luck_34 rfl ?_
          refine w_callV (as := []) (st := []) (Tri.mono (c_heardBits hc hw) (Nat.le_of_ble_eq_true rfl)) rfl rfl tg_X1_heardBits lk_X10_101 in_X1_heardBits se_X1_heardBits rfl dX10_luck_37 rfl (Nat.le_of_ble_eq_true rfl) (Nat.le_refl _) (Nat.le_refl _) ?_
          rintro _ _ ⟨rfl, rfl⟩ -
          refine w_istore (ls' := [some (vR 0 0 0), some (vI (nI v)), some (vI (nI w)), some (vI (1)), some (vI (nI (heardN a))), none, none, none]) dX10_luck_40 rfl ?_
          refine w_lconst (v := 0) dX10_luck_42 (by decide) ?_
          refine w_lstore (ls' := [some (vR 0 0 0), some (vI (nI v)), some (vI (nI w)), some (vI (1)), some (vI (nI (heardN a))), some (vL (0)), none, none]) dX10_luck_43 rfl ?_
          refine w_iconst (v := 0) dX10_luck_45 (by decide) ?_
          refine w_istore (ls' := [some (vR 0 0 0), some (vI (nI v)), some (vI (nI w)), some (vI (1)), some (vI (nI (heardN a))), some (vL (0)), none, some (vI (0))]) dX10_luck_46 rfl ?_
          refine l_luck hc hw hv hw99 ?_ 32 0 rfl
          have hh := heardN_lt hw
          obtain ⟨p1, p2⟩ := pow5 (popN (heardN a)) (by have := heard_pop hw; omega)
          have hS := sumN_b (f := (fB a v w)) (b := 100000) (fun i => fB_le hv i) 32
          refine w_lload dX10_luck_97 rfl ?_
          refine w_iload dX10_luck_99 rfl ?_
          refine w_callS (as := [vI (nI (heardN a))]) (st := [vL (lN (sumN (fB a v w) 32))]) (Tri.mono (c_oddsInAll (h := heardN a) hh) (Nat.le_of_ble_eq_true rfl)) tg_X10_oddsInAll lk_X10_259 sa_X10_oddsInAll rfl dX10_luck_101 rfl (Nat.le_of_ble_eq_true rfl) (Nat.le_refl _) (Nat.le_refl _) ?_
          rintro _ _ ⟨rfl, rfl⟩ -
          refine w_iload_n dX10_luck_104 rfl ?_
          refine w_callS (as := [vL (lN (sumN (fB a v w) 32)), vL (lN (10 ^ popN (heardN a))), vI (1)]) (st := []) (Tri.mono (c_lowest (s := sumN (fB a v w) 32) (t := 10 ^ popN (heardN a)) (what := 1) (by omega) (by omega) (by decide) (gcd_nz p2)) (Nat.le_of_ble_eq_true rfl)) tg_X10_lowest lk_X10_263 sa_X10_lowest rfl dX10_luck_105 rfl (Nat.le_of_ble_eq_true rfl) (Nat.le_refl _) (Nat.le_refl _) ?_
          rintro _ _ ⟨rfl, rfl⟩ -
          exact w_lreturn dX10_luck_108 rfl rfl (⟨rfl, _, _, rfl, FrQ.rf⟩)

theorem q_luck_1 {I : xF4 Int32} {L : xF4 Int64} {a : aA} (hs : SI I a) (hw : WF a) {v w : Nat} (hv : v ≤ 10) (hw99 : w ≤ 99) : Tri 19 109 m_X11_luck [vR 30 0 0, vI (nI v), vI (nI w), vI (1)] (rM I L) (pMq (vL (lN (lowN (sumN (fB a v w) 32) (10 ^ popN (heardN a)) 1))) I) := by
  refine ⟨k_X11_luck, Nat.le_of_ble_eq_true rfl, ?_⟩
  show Wp _ _ _ 0 [some (vR 30 0 0), some (vI (nI v)), some (vI (nI w)), some (vI (1))] [] (rM I L) _
  obtain ⟨hJ, hC, hG, hD, hR, -⟩ := id hw
  refine w_iload_n dX11_luck_0 rfl ?_
  refine w_i2l dX11_luck_1 ?_
  refine w_lconst (v := 0) dX11_luck_2 (by decide) ?_
  refine w_ldc2 dX11_luck_3 cq_X11_269 ?_
  refine w_callS (as := [vL ((nI v : Int32).toInt64), vL (0), vL (10)]) (st := []) (Tri.mono (d_in ((nI v : Int32).toInt64) (0) (10)) (Nat.le_of_ble_eq_true rfl)) tg_X11_in lk_X11_66 sa_X11_in rfl dX11_luck_6 rfl (Nat.le_of_ble_eq_true rfl) (Nat.le_refl _) (Nat.le_refl _) ?_
  rintro _ _ ⟨rfl, rfl⟩ -
  refine w_top (y := bI (0 ≤ ((v : Nat) : Int) ∧ ((v : Nat) : Int) ≤ 10)) (show (bI ((0 : Int64) ≤ ((nI v : Int32).toInt64) ∧ ((nI v : Int32).toInt64) ≤ (10 : Int64)) : Int32) = bI (0 ≤ ((v : Nat) : Int) ∧ ((v : Nat) : Int) ≤ 10) from inZ (x := nI v) (l := 0) (h := 10) (X := ((v : Nat) : Int)) (A := 0) (B := 10) rfl (by decide) (by decide) (z_nI (by omega)) (by decide) (by decide)) ?_
  refine w_ifeq_b (tgt := 31) dX11_luck_9 (by decide) (fun h1 => ?_) (fun h1 => ?_)
  · skip
    first
    | (exfalso; omega)
    | skip
      refine w_ldc2 dX11_luck_31 cq_X11_271 ?_
      exact w_lreturn dX11_luck_34 rfl rfl (⟨rfl, _, _, rfl, FrR.rf⟩)
  · skip
    first
    | (exfalso; omega)
    | skip
      refine w_iload_n dX11_luck_12 rfl ?_
      refine w_i2l dX11_luck_13 ?_
      refine w_lconst (v := 0) dX11_luck_14 (by decide) ?_
      refine w_ldc2 dX11_luck_15 cq_X11_213 ?_
      refine w_callS (as := [vL ((nI w : Int32).toInt64), vL (0), vL (99)]) (st := []) (Tri.mono (d_in ((nI w : Int32).toInt64) (0) (99)) (Nat.le_of_ble_eq_true rfl)) tg_X11_in lk_X11_66 sa_X11_in rfl dX11_luck_18 rfl (Nat.le_of_ble_eq_true rfl) (Nat.le_refl _) (Nat.le_refl _) ?_
      rintro _ _ ⟨rfl, rfl⟩ -
      refine w_top (y := bI (0 ≤ ((w : Nat) : Int) ∧ ((w : Nat) : Int) ≤ 99)) (show (bI ((0 : Int64) ≤ ((nI w : Int32).toInt64) ∧ ((nI w : Int32).toInt64) ≤ (99 : Int64)) : Int32) = bI (0 ≤ ((w : Nat) : Int) ∧ ((w : Nat) : Int) ≤ 99) from inZ (x := nI w) (l := 0) (h := 99) (X := ((w : Nat) : Int)) (A := 0) (B := 99) rfl (by decide) (by decide) (z_nI (by omega)) (by decide) (by decide)) ?_
      refine w_ifeq_b (tgt := 31) dX11_luck_21 (by decide) (fun h2 => ?_) (fun h2 => ?_)
      · skip
        first
        | (exfalso; omega)
        | skip
          refine w_ldc2 dX11_luck_31 cq_X11_271 ?_
          exact w_lreturn dX11_luck_34 rfl rfl (⟨rfl, _, _, rfl, FrR.rf⟩)
      · skip
        first
        | (exfalso; omega)
        | skip
          refine w_iload_n dX11_luck_24 rfl ?_
          refine w_callS (as := [vI (1)]) (st := []) (Tri.mono (d_isPart (x := 1) (X := (1 : Int)) (by decide)) (Nat.le_of_ble_eq_true rfl)) tg_X11_isPart lk_X11_245 sa_X11_isPart rfl dX11_luck_25 rfl (Nat.le_of_ble_eq_true rfl) (Nat.le_refl _) (Nat.le_refl _) ?_
          rintro _ _ ⟨rfl, rfl⟩ -
          refine w_top (y := 1) (show (bI ((0 : Int) ≤ 1 ∧ (1 : Int) ≤ 1) : Int32) = 1 from bI_t (by decide)) ?_
          refine w_if_ne (tgt := 35) dX11_luck_28 (by decide) (fun _ => ?_) (fun h => absurd h (by decide))
          refine w_aload_n dX11_luck_35 rfl ?_
          refine w_iload_n dX11_luck_36 rfl ?_
          refine w_iload_n dX11_luck_37 rfl ?_
          refine w_callV (as := [vI (nI v), vI (nI w)]) (st := []) (Tri.mono (d_findOdds hs hw (v := v) (w := w) hv hw99) (Nat.le_of_ble_eq_true rfl)) rfl rfl tg_X11_findOdds lk_X11_273 in_X11_findOdds se_X11_findOdds rfl dX11_luck_38 rfl (Nat.le_of_ble_eq_true rfl) (Nat.le_refl _) (Nat.le_refl _) ?_
          rintro x9 M9 ⟨rfl, I1, L1, rfl, l0, l1, l2, hf1⟩ -
          have hh := heardN_lt hw
          obtain ⟨p1, p2⟩ := pow5 (popN (heardN a)) (by have := heard_pop hw; omega)
          have hS := sumN_b (f := (fB a v w)) (b := 100000) (fun i => fB_le hv i) 32
          have hgl := Nat.le_of_dvd (Nat.pos_of_ne_zero p2) (Nat.gcd_dvd_right (sumN (fB a v w) 32) (10 ^ popN (heardN a)))
          refine w_aload_n dX11_luck_41 rfl ?_
          refine w_getL ff_X11_263 rfl rfl dX11_luck_42 ?_
          refine w_topL (y := lN (sumN (fB a v w) 32)) (show (L1 30 0 0 21 : Int64) = lN (sumN (fB a v w) 32) from l1.trans (congrArg lN (fB_hi hw v w).symm)) ?_
          refine w_aload_n dX11_luck_45 rfl ?_
          refine w_getL ff_X11_266 rfl rfl dX11_luck_46 ?_
          refine w_topL (y := lN (10 ^ popN (heardN a))) (show (L1 30 0 0 22 : Int64) = lN (10 ^ popN (heardN a)) from l2.trans (congrArg lN (alw_eq hw))) ?_
          refine w_iload_n dX11_luck_49 rfl ?_
          refine w_callS (as := [vL (lN (sumN (fB a v w) 32)), vL (lN (10 ^ popN (heardN a))), vI (1)]) (st := []) (Tri.mono (d_told (s := sumN (fB a v w) 32) (t := 10 ^ popN (heardN a)) (what := 1) (by omega) (by omega) (by decide) (gcd_nz p2) (by omega)) (Nat.le_of_ble_eq_true rfl)) tg_X11_told lk_X11_277 sa_X11_told rfl dX11_luck_50 rfl (Nat.le_of_ble_eq_true rfl) (Nat.le_refl _) (Nat.le_refl _) ?_
          rintro _ _ ⟨rfl, rfl⟩ -
          exact w_lreturn dX11_luck_53 rfl rfl (⟨rfl, _, _, rfl, hf1⟩)

theorem p_mean_v {I : xF4 Int32} {L : xF4 Int64} {a : aA} (hc : CourtIs I 0 a) (hw : WF a) {v what : Int32} (hx : v.toInt < ((0 : Nat) : Int) ∨ ((10 : Nat) : Int) < v.toInt) : Tri 19 109 m_X10_mean [vR 0 0 0, vI (v), vI (what)] (rM I L) (pCq (vL (-1)) I) := by
  refine ⟨k_X10_mean, Nat.le_of_ble_eq_true rfl, ?_⟩
  show Wp _ _ _ 0 [some (vR 0 0 0), some (vI (v)), some (vI (what)), none, none, none, none] [] (rM I L) _
  obtain ⟨hJ, hC, hG, hD, hR, -⟩ := id hw
  refine w_iload_n dX10_mean_0 rfl ?_
  refine w_iconst (v := 0) dX10_mean_1 (by decide) ?_
  refine w_bipush (v := 10) dX10_mean_2 (by decide) ?_
  refine w_callS (as := [vI (v), vI (0), vI (10)]) (st := []) (Tri.mono (c_X10_within (v) (0) (10)) (Nat.le_of_ble_eq_true rfl)) tg_X10_within lk_X10_158 sa_X10_within rfl dX10_mean_4 rfl (Nat.le_of_ble_eq_true rfl) (Nat.le_refl _) (Nat.le_refl _) ?_
  rintro _ _ ⟨rfl, rfl⟩ -
  refine w_top (y := bI (0 ≤ v.toInt ∧ v.toInt ≤ 10)) (show (bI ((0 : Int32) ≤ (v) ∧ (v) ≤ (10 : Int32)) : Int32) = bI (0 ≤ v.toInt ∧ v.toInt ≤ 10) from wiZ (X := v.toInt) (A := 0) (B := 10) rfl (by decide) (by decide)) ?_
  refine w_ifeq_b (tgt := 19) dX10_mean_7 (by decide) (fun h1 => ?_) (fun h1 => ?_)
  · skip
    first
    | (exfalso; omega)
    | skip
      refine w_ldc2 dX10_mean_19 cq_X10_250 ?_
      exact w_lreturn dX10_mean_22 rfl rfl (⟨rfl, _, _, rfl, FrQ.rf⟩)
  · skip
    first
    | (exfalso; omega)
    | skip
      refine w_iload_n dX10_mean_10 rfl ?_
      refine w_iconst (v := 0) dX10_mean_11 (by decide) ?_
      refine w_iconst (v := 1) dX10_mean_12 (by decide) ?_
      refine w_callS (as := [vI (what), vI (0), vI (1)]) (st := []) (Tri.mono (c_X10_within (what) (0) (1)) (Nat.le_of_ble_eq_true rfl)) tg_X10_within lk_X10_158 sa_X10_within rfl dX10_mean_13 rfl (Nat.le_of_ble_eq_true rfl) (Nat.le_refl _) (Nat.le_refl _) ?_
      rintro _ _ ⟨rfl, rfl⟩ -
      refine w_top (y := bI (0 ≤ what.toInt ∧ what.toInt ≤ 1)) (show (bI ((0 : Int32) ≤ (what) ∧ (what) ≤ (1 : Int32)) : Int32) = bI (0 ≤ what.toInt ∧ what.toInt ≤ 1) from wiZ (X := what.toInt) (A := 0) (B := 1) rfl (by decide) (by decide)) ?_
      refine w_ifne_b (tgt := 23) dX10_mean_16 (by decide) (fun h2 => ?_) (fun h2 => ?_)
      · skip
        first
        | (exfalso; omega)
        | skip
          exfalso
          omega
      · skip
        first
        | (exfalso; omega)
        | skip
          refine w_ldc2 dX10_mean_19 cq_X10_250 ?_
          exact w_lreturn dX10_mean_22 rfl rfl (⟨rfl, _, _, rfl, FrQ.rf⟩)

theorem q_mean_v {I : xF4 Int32} {L : xF4 Int64} {a : aA} (hs : SI I a) (hw : WF a) {v what : Int32} (hx : v.toInt < ((0 : Nat) : Int) ∨ ((10 : Nat) : Int) < v.toInt) : Tri 19 109 m_X11_mean [vR 30 0 0, vI (v), vI (what)] (rM I L) (pMq (vL (-1)) I) := by
  refine ⟨k_X11_mean, Nat.le_of_ble_eq_true rfl, ?_⟩
  show Wp _ _ _ 0 [some (vR 30 0 0), some (vI (v)), some (vI (what))] [] (rM I L) _
  obtain ⟨hJ, hC, hG, hD, hR, -⟩ := id hw
  refine w_iload_n dX11_mean_0 rfl ?_
  refine w_i2l dX11_mean_1 ?_
  refine w_lconst (v := 0) dX11_mean_2 (by decide) ?_
  refine w_ldc2 dX11_mean_3 cq_X11_269 ?_
  refine w_callS (as := [vL ((v : Int32).toInt64), vL (0), vL (10)]) (st := []) (Tri.mono (d_in ((v : Int32).toInt64) (0) (10)) (Nat.le_of_ble_eq_true rfl)) tg_X11_in lk_X11_66 sa_X11_in rfl dX11_mean_6 rfl (Nat.le_of_ble_eq_true rfl) (Nat.le_refl _) (Nat.le_refl _) ?_
  rintro _ _ ⟨rfl, rfl⟩ -
  refine w_top (y := bI (0 ≤ v.toInt ∧ v.toInt ≤ 10)) (show (bI ((0 : Int64) ≤ ((v : Int32).toInt64) ∧ ((v : Int32).toInt64) ≤ (10 : Int64)) : Int32) = bI (0 ≤ v.toInt ∧ v.toInt ≤ 10) from inZ (x := v) (l := 0) (h := 10) (X := v.toInt) (A := 0) (B := 10) rfl (by decide) (by decide) rfl (by decide) (by decide)) ?_
  refine w_ifeq_b (tgt := 19) dX11_mean_9 (by decide) (fun h1 => ?_) (fun h1 => ?_)
  · skip
    first
    | (exfalso; omega)
    | skip
      refine w_ldc2 dX11_mean_19 cq_X11_271 ?_
      exact w_lreturn dX11_mean_22 rfl rfl (⟨rfl, _, _, rfl, FrR.rf⟩)
  · skip
    first
    | (exfalso; omega)
    | skip
      refine w_iload_n dX11_mean_12 rfl ?_
      refine w_callS (as := [vI (what)]) (st := []) (Tri.mono (d_isPart (x := what) (X := what.toInt) rfl) (Nat.le_of_ble_eq_true rfl)) tg_X11_isPart lk_X11_245 sa_X11_isPart rfl dX11_mean_13 rfl (Nat.le_of_ble_eq_true rfl) (Nat.le_refl _) (Nat.le_refl _) ?_
      rintro _ _ ⟨rfl, rfl⟩ -
      refine w_ifne_b (tgt := 23) dX11_mean_16 (by decide) (fun h2 => ?_) (fun h2 => ?_)
      · skip
        first
        | (exfalso; omega)
        | skip
          exfalso
          omega
      · skip
        first
        | (exfalso; omega)
        | skip
          refine w_ldc2 dX11_mean_19 cq_X11_271 ?_
          exact w_lreturn dX11_mean_22 rfl rfl (⟨rfl, _, _, rfl, FrR.rf⟩)

theorem p_mean_w {I : xF4 Int32} {L : xF4 Int64} {a : aA} (hc : CourtIs I 0 a) (hw : WF a) {v : Nat} (hv : v ≤ 10) {what : Int32} (hx : what.toInt < 0 ∨ ((2 : Nat) : Int) ≤ what.toInt) : Tri 19 109 m_X10_mean [vR 0 0 0, vI (nI v), vI (what)] (rM I L) (pCq (vL (-1)) I) := by
  refine ⟨k_X10_mean, Nat.le_of_ble_eq_true rfl, ?_⟩
  show Wp _ _ _ 0 [some (vR 0 0 0), some (vI (nI v)), some (vI (what)), none, none, none, none] [] (rM I L) _
  obtain ⟨hJ, hC, hG, hD, hR, -⟩ := id hw
  refine w_iload_n dX10_mean_0 rfl ?_
  refine w_iconst (v := 0) dX10_mean_1 (by decide) ?_
  refine w_bipush (v := 10) dX10_mean_2 (by decide) ?_
  refine w_callS (as := [vI (nI v), vI (0), vI (10)]) (st := []) (Tri.mono (c_X10_within (nI v) (0) (10)) (Nat.le_of_ble_eq_true rfl)) tg_X10_within lk_X10_158 sa_X10_within rfl dX10_mean_4 rfl (Nat.le_of_ble_eq_true rfl) (Nat.le_refl _) (Nat.le_refl _) ?_
  rintro _ _ ⟨rfl, rfl⟩ -
  refine w_top (y := bI (0 ≤ ((v : Nat) : Int) ∧ ((v : Nat) : Int) ≤ 10)) (show (bI ((0 : Int32) ≤ (nI v) ∧ (nI v) ≤ (10 : Int32)) : Int32) = bI (0 ≤ ((v : Nat) : Int) ∧ ((v : Nat) : Int) ≤ 10) from wiZ (X := ((v : Nat) : Int)) (A := 0) (B := 10) (z_nI (by omega)) (by decide) (by decide)) ?_
  refine w_ifeq_b (tgt := 19) dX10_mean_7 (by decide) (fun h1 => ?_) (fun h1 => ?_)
  · skip
    first
    | (exfalso; omega)
    | skip
      refine w_ldc2 dX10_mean_19 cq_X10_250 ?_
      exact w_lreturn dX10_mean_22 rfl rfl (⟨rfl, _, _, rfl, FrQ.rf⟩)
  · skip
    first
    | (exfalso; omega)
    | skip
      refine w_iload_n dX10_mean_10 rfl ?_
      refine w_iconst (v := 0) dX10_mean_11 (by decide) ?_
      refine w_iconst (v := 1) dX10_mean_12 (by decide) ?_
      refine w_callS (as := [vI (what), vI (0), vI (1)]) (st := []) (Tri.mono (c_X10_within (what) (0) (1)) (Nat.le_of_ble_eq_true rfl)) tg_X10_within lk_X10_158 sa_X10_within rfl dX10_mean_13 rfl (Nat.le_of_ble_eq_true rfl) (Nat.le_refl _) (Nat.le_refl _) ?_
      rintro _ _ ⟨rfl, rfl⟩ -
      refine w_top (y := bI (0 ≤ what.toInt ∧ what.toInt ≤ 1)) (show (bI ((0 : Int32) ≤ (what) ∧ (what) ≤ (1 : Int32)) : Int32) = bI (0 ≤ what.toInt ∧ what.toInt ≤ 1) from wiZ (X := what.toInt) (A := 0) (B := 1) rfl (by decide) (by decide)) ?_
      refine w_ifne_b (tgt := 23) dX10_mean_16 (by decide) (fun h2 => ?_) (fun h2 => ?_)
      · skip
        first
        | (exfalso; omega)
        | skip
          exfalso
          omega
      · skip
        first
        | (exfalso; omega)
        | skip
          refine w_ldc2 dX10_mean_19 cq_X10_250 ?_
          exact w_lreturn dX10_mean_22 rfl rfl (⟨rfl, _, _, rfl, FrQ.rf⟩)

theorem q_mean_w {I : xF4 Int32} {L : xF4 Int64} {a : aA} (hs : SI I a) (hw : WF a) {v : Nat} (hv : v ≤ 10) {what : Int32} (hx : what.toInt < 0 ∨ ((2 : Nat) : Int) ≤ what.toInt) : Tri 19 109 m_X11_mean [vR 30 0 0, vI (nI v), vI (what)] (rM I L) (pMq (vL (-1)) I) := by
  refine ⟨k_X11_mean, Nat.le_of_ble_eq_true rfl, ?_⟩
  show Wp _ _ _ 0 [some (vR 30 0 0), some (vI (nI v)), some (vI (what))] [] (rM I L) _
  obtain ⟨hJ, hC, hG, hD, hR, -⟩ := id hw
  refine w_iload_n dX11_mean_0 rfl ?_
  refine w_i2l dX11_mean_1 ?_
  refine w_lconst (v := 0) dX11_mean_2 (by decide) ?_
  refine w_ldc2 dX11_mean_3 cq_X11_269 ?_
  refine w_callS (as := [vL ((nI v : Int32).toInt64), vL (0), vL (10)]) (st := []) (Tri.mono (d_in ((nI v : Int32).toInt64) (0) (10)) (Nat.le_of_ble_eq_true rfl)) tg_X11_in lk_X11_66 sa_X11_in rfl dX11_mean_6 rfl (Nat.le_of_ble_eq_true rfl) (Nat.le_refl _) (Nat.le_refl _) ?_
  rintro _ _ ⟨rfl, rfl⟩ -
  refine w_top (y := bI (0 ≤ ((v : Nat) : Int) ∧ ((v : Nat) : Int) ≤ 10)) (show (bI ((0 : Int64) ≤ ((nI v : Int32).toInt64) ∧ ((nI v : Int32).toInt64) ≤ (10 : Int64)) : Int32) = bI (0 ≤ ((v : Nat) : Int) ∧ ((v : Nat) : Int) ≤ 10) from inZ (x := nI v) (l := 0) (h := 10) (X := ((v : Nat) : Int)) (A := 0) (B := 10) rfl (by decide) (by decide) (z_nI (by omega)) (by decide) (by decide)) ?_
  refine w_ifeq_b (tgt := 19) dX11_mean_9 (by decide) (fun h1 => ?_) (fun h1 => ?_)
  · skip
    first
    | (exfalso; omega)
    | skip
      refine w_ldc2 dX11_mean_19 cq_X11_271 ?_
      exact w_lreturn dX11_mean_22 rfl rfl (⟨rfl, _, _, rfl, FrR.rf⟩)
  · skip
    first
    | (exfalso; omega)
    | skip
      refine w_iload_n dX11_mean_12 rfl ?_
      refine w_callS (as := [vI (what)]) (st := []) (Tri.mono (d_isPart (x := what) (X := what.toInt) rfl) (Nat.le_of_ble_eq_true rfl)) tg_X11_isPart lk_X11_245 sa_X11_isPart rfl dX11_mean_13 rfl (Nat.le_of_ble_eq_true rfl) (Nat.le_refl _) (Nat.le_refl _) ?_
      rintro _ _ ⟨rfl, rfl⟩ -
      refine w_ifne_b (tgt := 23) dX11_mean_16 (by decide) (fun h2 => ?_) (fun h2 => ?_)
      · skip
        first
        | (exfalso; omega)
        | skip
          exfalso
          omega
      · skip
        first
        | (exfalso; omega)
        | skip
          refine w_ldc2 dX11_mean_19 cq_X11_271 ?_
          exact w_lreturn dX11_mean_22 rfl rfl (⟨rfl, _, _, rfl, FrR.rf⟩)

theorem p_luck_v {I : xF4 Int32} {L : xF4 Int64} {a : aA} (hc : CourtIs I 0 a) (hw : WF a) {v w what : Int32} (hx : v.toInt < ((0 : Nat) : Int) ∨ ((10 : Nat) : Int) < v.toInt) : Tri 19 109 m_X10_luck [vR 0 0 0, vI (v), vI (w), vI (what)] (rM I L) (pCq (vL (-1)) I) := by
  refine ⟨k_X10_luck, Nat.le_of_ble_eq_true rfl, ?_⟩
  show Wp _ _ _ 0 [some (vR 0 0 0), some (vI (v)), some (vI (w)), some (vI (what)), none, none, none, none] [] (rM I L) _
  obtain ⟨hJ, hC, hG, hD, hR, -⟩ := id hw
  refine w_iload_n dX10_luck_0 rfl ?_
  refine w_iconst (v := 0) dX10_luck_1 (by decide) ?_
  refine w_bipush (v := 10) dX10_luck_2 (by decide) ?_
  refine w_callS (as := [vI (v), vI (0), vI (10)]) (st := []) (Tri.mono (c_X10_within (v) (0) (10)) (Nat.le_of_ble_eq_true rfl)) tg_X10_within lk_X10_158 sa_X10_within rfl dX10_luck_4 rfl (Nat.le_of_ble_eq_true rfl) (Nat.le_refl _) (Nat.le_refl _) ?_
  rintro _ _ ⟨rfl, rfl⟩ -
  refine w_top (y := bI (0 ≤ v.toInt ∧ v.toInt ≤ 10)) (show (bI ((0 : Int32) ≤ (v) ∧ (v) ≤ (10 : Int32)) : Int32) = bI (0 ≤ v.toInt ∧ v.toInt ≤ 10) from wiZ (X := v.toInt) (A := 0) (B := 10) rfl (by decide) (by decide)) ?_
  refine w_ifeq_b (tgt := 29) dX10_luck_7 (by decide) (fun h1 => ?_) (fun h1 => ?_)
  · skip
    first
    | (exfalso; omega)
    | skip
      refine w_ldc2 dX10_luck_29 cq_X10_250 ?_
      exact w_lreturn dX10_luck_32 rfl rfl (⟨rfl, _, _, rfl, FrQ.rf⟩)
  · skip
    first
    | (exfalso; omega)
    | skip
      refine w_iload_n dX10_luck_10 rfl ?_
      refine w_iconst (v := 0) dX10_luck_11 (by decide) ?_
      refine w_bipush (v := 99) dX10_luck_12 (by decide) ?_
      refine w_callS (as := [vI (w), vI (0), vI (99)]) (st := []) (Tri.mono (c_X10_within (w) (0) (99)) (Nat.le_of_ble_eq_true rfl)) tg_X10_within lk_X10_158 sa_X10_within rfl dX10_luck_14 rfl (Nat.le_of_ble_eq_true rfl) (Nat.le_refl _) (Nat.le_refl _) ?_
      rintro _ _ ⟨rfl, rfl⟩ -
      refine w_top (y := bI (0 ≤ w.toInt ∧ w.toInt ≤ 99)) (show (bI ((0 : Int32) ≤ (w) ∧ (w) ≤ (99 : Int32)) : Int32) = bI (0 ≤ w.toInt ∧ w.toInt ≤ 99) from wiZ (X := w.toInt) (A := 0) (B := 99) rfl (by decide) (by decide)) ?_
      refine w_ifeq_b (tgt := 29) dX10_luck_17 (by decide) (fun h2 => ?_) (fun h2 => ?_)
      · skip
        first
        | (exfalso; omega)
        | skip
          refine w_ldc2 dX10_luck_29 cq_X10_250 ?_
          exact w_lreturn dX10_luck_32 rfl rfl (⟨rfl, _, _, rfl, FrQ.rf⟩)
      · skip
        first
        | (exfalso; omega)
        | skip
          refine w_iload_n dX10_luck_20 rfl ?_
          refine w_iconst (v := 0) dX10_luck_21 (by decide) ?_
          refine w_iconst (v := 1) dX10_luck_22 (by decide) ?_
          refine w_callS (as := [vI (what), vI (0), vI (1)]) (st := []) (Tri.mono (c_X10_within (what) (0) (1)) (Nat.le_of_ble_eq_true rfl)) tg_X10_within lk_X10_158 sa_X10_within rfl dX10_luck_23 rfl (Nat.le_of_ble_eq_true rfl) (Nat.le_refl _) (Nat.le_refl _) ?_
          rintro _ _ ⟨rfl, rfl⟩ -
          refine w_top (y := bI (0 ≤ what.toInt ∧ what.toInt ≤ 1)) (show (bI ((0 : Int32) ≤ (what) ∧ (what) ≤ (1 : Int32)) : Int32) = bI (0 ≤ what.toInt ∧ what.toInt ≤ 1) from wiZ (X := what.toInt) (A := 0) (B := 1) rfl (by decide) (by decide)) ?_
          refine w_ifne_b (tgt := 33) dX10_luck_26 (by decide) (fun h3 => ?_) (fun h3 => ?_)
          · skip
            first
            | (exfalso; omega)
            | skip
              exfalso
              omega
          · skip
            first
            | (exfalso; omega)
            | skip
              refine w_ldc2 dX10_luck_29 cq_X10_250 ?_
              exact w_lreturn dX10_luck_32 rfl rfl (⟨rfl, _, _, rfl, FrQ.rf⟩)

theorem q_luck_v {I : xF4 Int32} {L : xF4 Int64} {a : aA} (hs : SI I a) (hw : WF a) {v w what : Int32} (hx : v.toInt < ((0 : Nat) : Int) ∨ ((10 : Nat) : Int) < v.toInt) : Tri 19 109 m_X11_luck [vR 30 0 0, vI (v), vI (w), vI (what)] (rM I L) (pMq (vL (-1)) I) := by
  refine ⟨k_X11_luck, Nat.le_of_ble_eq_true rfl, ?_⟩
  show Wp _ _ _ 0 [some (vR 30 0 0), some (vI (v)), some (vI (w)), some (vI (what))] [] (rM I L) _
  obtain ⟨hJ, hC, hG, hD, hR, -⟩ := id hw
  refine w_iload_n dX11_luck_0 rfl ?_
  refine w_i2l dX11_luck_1 ?_
  refine w_lconst (v := 0) dX11_luck_2 (by decide) ?_
  refine w_ldc2 dX11_luck_3 cq_X11_269 ?_
  refine w_callS (as := [vL ((v : Int32).toInt64), vL (0), vL (10)]) (st := []) (Tri.mono (d_in ((v : Int32).toInt64) (0) (10)) (Nat.le_of_ble_eq_true rfl)) tg_X11_in lk_X11_66 sa_X11_in rfl dX11_luck_6 rfl (Nat.le_of_ble_eq_true rfl) (Nat.le_refl _) (Nat.le_refl _) ?_
  rintro _ _ ⟨rfl, rfl⟩ -
  refine w_top (y := bI (0 ≤ v.toInt ∧ v.toInt ≤ 10)) (show (bI ((0 : Int64) ≤ ((v : Int32).toInt64) ∧ ((v : Int32).toInt64) ≤ (10 : Int64)) : Int32) = bI (0 ≤ v.toInt ∧ v.toInt ≤ 10) from inZ (x := v) (l := 0) (h := 10) (X := v.toInt) (A := 0) (B := 10) rfl (by decide) (by decide) rfl (by decide) (by decide)) ?_
  refine w_ifeq_b (tgt := 31) dX11_luck_9 (by decide) (fun h1 => ?_) (fun h1 => ?_)
  · skip
    first
    | (exfalso; omega)
    | skip
      refine w_ldc2 dX11_luck_31 cq_X11_271 ?_
      exact w_lreturn dX11_luck_34 rfl rfl (⟨rfl, _, _, rfl, FrR.rf⟩)
  · skip
    first
    | (exfalso; omega)
    | skip
      refine w_iload_n dX11_luck_12 rfl ?_
      refine w_i2l dX11_luck_13 ?_
      refine w_lconst (v := 0) dX11_luck_14 (by decide) ?_
      refine w_ldc2 dX11_luck_15 cq_X11_213 ?_
      refine w_callS (as := [vL ((w : Int32).toInt64), vL (0), vL (99)]) (st := []) (Tri.mono (d_in ((w : Int32).toInt64) (0) (99)) (Nat.le_of_ble_eq_true rfl)) tg_X11_in lk_X11_66 sa_X11_in rfl dX11_luck_18 rfl (Nat.le_of_ble_eq_true rfl) (Nat.le_refl _) (Nat.le_refl _) ?_
      rintro _ _ ⟨rfl, rfl⟩ -
      refine w_top (y := bI (0 ≤ w.toInt ∧ w.toInt ≤ 99)) (show (bI ((0 : Int64) ≤ ((w : Int32).toInt64) ∧ ((w : Int32).toInt64) ≤ (99 : Int64)) : Int32) = bI (0 ≤ w.toInt ∧ w.toInt ≤ 99) from inZ (x := w) (l := 0) (h := 99) (X := w.toInt) (A := 0) (B := 99) rfl (by decide) (by decide) rfl (by decide) (by decide)) ?_
      refine w_ifeq_b (tgt := 31) dX11_luck_21 (by decide) (fun h2 => ?_) (fun h2 => ?_)
      · skip
        first
        | (exfalso; omega)
        | skip
          refine w_ldc2 dX11_luck_31 cq_X11_271 ?_
          exact w_lreturn dX11_luck_34 rfl rfl (⟨rfl, _, _, rfl, FrR.rf⟩)
      · skip
        first
        | (exfalso; omega)
        | skip
          refine w_iload_n dX11_luck_24 rfl ?_
          refine w_callS (as := [vI (what)]) (st := []) (Tri.mono (d_isPart (x := what) (X := what.toInt) rfl) (Nat.le_of_ble_eq_true rfl)) tg_X11_isPart lk_X11_245 sa_X11_isPart rfl dX11_luck_25 rfl (Nat.le_of_ble_eq_true rfl) (Nat.le_refl _) (Nat.le_refl _) ?_
          rintro _ _ ⟨rfl, rfl⟩ -
          refine w_ifne_b (tgt := 35) dX11_luck_28 (by decide) (fun h3 => ?_) (fun h3 => ?_)
          · skip
            first
            | (exfalso; omega)
            | skip
              exfalso
              omega
          · skip
            first
            | (exfalso; omega)
            | skip
              refine w_ldc2 dX11_luck_31 cq_X11_271 ?_
              exact w_lreturn dX11_luck_34 rfl rfl (⟨rfl, _, _, rfl, FrR.rf⟩)

theorem p_luck_c {I : xF4 Int32} {L : xF4 Int64} {a : aA} (hc : CourtIs I 0 a) (hw : WF a) {v : Nat} (hv : v ≤ 10) {w what : Int32} (hx : w.toInt < ((0 : Nat) : Int) ∨ ((99 : Nat) : Int) < w.toInt) : Tri 19 109 m_X10_luck [vR 0 0 0, vI (nI v), vI (w), vI (what)] (rM I L) (pCq (vL (-1)) I) := by
  refine ⟨k_X10_luck, Nat.le_of_ble_eq_true rfl, ?_⟩
  show Wp _ _ _ 0 [some (vR 0 0 0), some (vI (nI v)), some (vI (w)), some (vI (what)), none, none, none, none] [] (rM I L) _
  obtain ⟨hJ, hC, hG, hD, hR, -⟩ := id hw
  refine w_iload_n dX10_luck_0 rfl ?_
  refine w_iconst (v := 0) dX10_luck_1 (by decide) ?_
  refine w_bipush (v := 10) dX10_luck_2 (by decide) ?_
  refine w_callS (as := [vI (nI v), vI (0), vI (10)]) (st := []) (Tri.mono (c_X10_within (nI v) (0) (10)) (Nat.le_of_ble_eq_true rfl)) tg_X10_within lk_X10_158 sa_X10_within rfl dX10_luck_4 rfl (Nat.le_of_ble_eq_true rfl) (Nat.le_refl _) (Nat.le_refl _) ?_
  rintro _ _ ⟨rfl, rfl⟩ -
  refine w_top (y := bI (0 ≤ ((v : Nat) : Int) ∧ ((v : Nat) : Int) ≤ 10)) (show (bI ((0 : Int32) ≤ (nI v) ∧ (nI v) ≤ (10 : Int32)) : Int32) = bI (0 ≤ ((v : Nat) : Int) ∧ ((v : Nat) : Int) ≤ 10) from wiZ (X := ((v : Nat) : Int)) (A := 0) (B := 10) (z_nI (by omega)) (by decide) (by decide)) ?_
  refine w_ifeq_b (tgt := 29) dX10_luck_7 (by decide) (fun h1 => ?_) (fun h1 => ?_)
  · skip
    first
    | (exfalso; omega)
    | skip
      refine w_ldc2 dX10_luck_29 cq_X10_250 ?_
      exact w_lreturn dX10_luck_32 rfl rfl (⟨rfl, _, _, rfl, FrQ.rf⟩)
  · skip
    first
    | (exfalso; omega)
    | skip
      refine w_iload_n dX10_luck_10 rfl ?_
      refine w_iconst (v := 0) dX10_luck_11 (by decide) ?_
      refine w_bipush (v := 99) dX10_luck_12 (by decide) ?_
      refine w_callS (as := [vI (w), vI (0), vI (99)]) (st := []) (Tri.mono (c_X10_within (w) (0) (99)) (Nat.le_of_ble_eq_true rfl)) tg_X10_within lk_X10_158 sa_X10_within rfl dX10_luck_14 rfl (Nat.le_of_ble_eq_true rfl) (Nat.le_refl _) (Nat.le_refl _) ?_
      rintro _ _ ⟨rfl, rfl⟩ -
      refine w_top (y := bI (0 ≤ w.toInt ∧ w.toInt ≤ 99)) (show (bI ((0 : Int32) ≤ (w) ∧ (w) ≤ (99 : Int32)) : Int32) = bI (0 ≤ w.toInt ∧ w.toInt ≤ 99) from wiZ (X := w.toInt) (A := 0) (B := 99) rfl (by decide) (by decide)) ?_
      refine w_ifeq_b (tgt := 29) dX10_luck_17 (by decide) (fun h2 => ?_) (fun h2 => ?_)
      · skip
        first
        | (exfalso; omega)
        | skip
          refine w_ldc2 dX10_luck_29 cq_X10_250 ?_
          exact w_lreturn dX10_luck_32 rfl rfl (⟨rfl, _, _, rfl, FrQ.rf⟩)
      · skip
        first
        | (exfalso; omega)
        | skip
          refine w_iload_n dX10_luck_20 rfl ?_
          refine w_iconst (v := 0) dX10_luck_21 (by decide) ?_
          refine w_iconst (v := 1) dX10_luck_22 (by decide) ?_
          refine w_callS (as := [vI (what), vI (0), vI (1)]) (st := []) (Tri.mono (c_X10_within (what) (0) (1)) (Nat.le_of_ble_eq_true rfl)) tg_X10_within lk_X10_158 sa_X10_within rfl dX10_luck_23 rfl (Nat.le_of_ble_eq_true rfl) (Nat.le_refl _) (Nat.le_refl _) ?_
          rintro _ _ ⟨rfl, rfl⟩ -
          refine w_top (y := bI (0 ≤ what.toInt ∧ what.toInt ≤ 1)) (show (bI ((0 : Int32) ≤ (what) ∧ (what) ≤ (1 : Int32)) : Int32) = bI (0 ≤ what.toInt ∧ what.toInt ≤ 1) from wiZ (X := what.toInt) (A := 0) (B := 1) rfl (by decide) (by decide)) ?_
          refine w_ifne_b (tgt := 33) dX10_luck_26 (by decide) (fun h3 => ?_) (fun h3 => ?_)
          · skip
            first
            | (exfalso; omega)
            | skip
              exfalso
              omega
          · skip
            first
            | (exfalso; omega)
            | skip
              refine w_ldc2 dX10_luck_29 cq_X10_250 ?_
              exact w_lreturn dX10_luck_32 rfl rfl (⟨rfl, _, _, rfl, FrQ.rf⟩)

theorem q_luck_c {I : xF4 Int32} {L : xF4 Int64} {a : aA} (hs : SI I a) (hw : WF a) {v : Nat} (hv : v ≤ 10) {w what : Int32} (hx : w.toInt < ((0 : Nat) : Int) ∨ ((99 : Nat) : Int) < w.toInt) : Tri 19 109 m_X11_luck [vR 30 0 0, vI (nI v), vI (w), vI (what)] (rM I L) (pMq (vL (-1)) I) := by
  refine ⟨k_X11_luck, Nat.le_of_ble_eq_true rfl, ?_⟩
  show Wp _ _ _ 0 [some (vR 30 0 0), some (vI (nI v)), some (vI (w)), some (vI (what))] [] (rM I L) _
  obtain ⟨hJ, hC, hG, hD, hR, -⟩ := id hw
  refine w_iload_n dX11_luck_0 rfl ?_
  refine w_i2l dX11_luck_1 ?_
  refine w_lconst (v := 0) dX11_luck_2 (by decide) ?_
  refine w_ldc2 dX11_luck_3 cq_X11_269 ?_
  refine w_callS (as := [vL ((nI v : Int32).toInt64), vL (0), vL (10)]) (st := []) (Tri.mono (d_in ((nI v : Int32).toInt64) (0) (10)) (Nat.le_of_ble_eq_true rfl)) tg_X11_in lk_X11_66 sa_X11_in rfl dX11_luck_6 rfl (Nat.le_of_ble_eq_true rfl) (Nat.le_refl _) (Nat.le_refl _) ?_
  rintro _ _ ⟨rfl, rfl⟩ -
  refine w_top (y := bI (0 ≤ ((v : Nat) : Int) ∧ ((v : Nat) : Int) ≤ 10)) (show (bI ((0 : Int64) ≤ ((nI v : Int32).toInt64) ∧ ((nI v : Int32).toInt64) ≤ (10 : Int64)) : Int32) = bI (0 ≤ ((v : Nat) : Int) ∧ ((v : Nat) : Int) ≤ 10) from inZ (x := nI v) (l := 0) (h := 10) (X := ((v : Nat) : Int)) (A := 0) (B := 10) rfl (by decide) (by decide) (z_nI (by omega)) (by decide) (by decide)) ?_
  refine w_ifeq_b (tgt := 31) dX11_luck_9 (by decide) (fun h1 => ?_) (fun h1 => ?_)
  · skip
    first
    | (exfalso; omega)
    | skip
      refine w_ldc2 dX11_luck_31 cq_X11_271 ?_
      exact w_lreturn dX11_luck_34 rfl rfl (⟨rfl, _, _, rfl, FrR.rf⟩)
  · skip
    first
    | (exfalso; omega)
    | skip
      refine w_iload_n dX11_luck_12 rfl ?_
      refine w_i2l dX11_luck_13 ?_
      refine w_lconst (v := 0) dX11_luck_14 (by decide) ?_
      refine w_ldc2 dX11_luck_15 cq_X11_213 ?_
      refine w_callS (as := [vL ((w : Int32).toInt64), vL (0), vL (99)]) (st := []) (Tri.mono (d_in ((w : Int32).toInt64) (0) (99)) (Nat.le_of_ble_eq_true rfl)) tg_X11_in lk_X11_66 sa_X11_in rfl dX11_luck_18 rfl (Nat.le_of_ble_eq_true rfl) (Nat.le_refl _) (Nat.le_refl _) ?_
      rintro _ _ ⟨rfl, rfl⟩ -
      refine w_top (y := bI (0 ≤ w.toInt ∧ w.toInt ≤ 99)) (show (bI ((0 : Int64) ≤ ((w : Int32).toInt64) ∧ ((w : Int32).toInt64) ≤ (99 : Int64)) : Int32) = bI (0 ≤ w.toInt ∧ w.toInt ≤ 99) from inZ (x := w) (l := 0) (h := 99) (X := w.toInt) (A := 0) (B := 99) rfl (by decide) (by decide) rfl (by decide) (by decide)) ?_
      refine w_ifeq_b (tgt := 31) dX11_luck_21 (by decide) (fun h2 => ?_) (fun h2 => ?_)
      · skip
        first
        | (exfalso; omega)
        | skip
          refine w_ldc2 dX11_luck_31 cq_X11_271 ?_
          exact w_lreturn dX11_luck_34 rfl rfl (⟨rfl, _, _, rfl, FrR.rf⟩)
      · skip
        first
        | (exfalso; omega)
        | skip
          refine w_iload_n dX11_luck_24 rfl ?_
          refine w_callS (as := [vI (what)]) (st := []) (Tri.mono (d_isPart (x := what) (X := what.toInt) rfl) (Nat.le_of_ble_eq_true rfl)) tg_X11_isPart lk_X11_245 sa_X11_isPart rfl dX11_luck_25 rfl (Nat.le_of_ble_eq_true rfl) (Nat.le_refl _) (Nat.le_refl _) ?_
          rintro _ _ ⟨rfl, rfl⟩ -
          refine w_ifne_b (tgt := 35) dX11_luck_28 (by decide) (fun h3 => ?_) (fun h3 => ?_)
          · skip
            first
            | (exfalso; omega)
            | skip
              exfalso
              omega
          · skip
            first
            | (exfalso; omega)
            | skip
              refine w_ldc2 dX11_luck_31 cq_X11_271 ?_
              exact w_lreturn dX11_luck_34 rfl rfl (⟨rfl, _, _, rfl, FrR.rf⟩)

theorem p_luck_w {I : xF4 Int32} {L : xF4 Int64} {a : aA} (hc : CourtIs I 0 a) (hw : WF a) {v w : Nat} (hv : v ≤ 10) (hw99 : w ≤ 99) {what : Int32} (hx : what.toInt < 0 ∨ ((2 : Nat) : Int) ≤ what.toInt) : Tri 19 109 m_X10_luck [vR 0 0 0, vI (nI v), vI (nI w), vI (what)] (rM I L) (pCq (vL (-1)) I) := by
  refine ⟨k_X10_luck, Nat.le_of_ble_eq_true rfl, ?_⟩
  show Wp _ _ _ 0 [some (vR 0 0 0), some (vI (nI v)), some (vI (nI w)), some (vI (what)), none, none, none, none] [] (rM I L) _
  obtain ⟨hJ, hC, hG, hD, hR, -⟩ := id hw
  refine w_iload_n dX10_luck_0 rfl ?_
  refine w_iconst (v := 0) dX10_luck_1 (by decide) ?_
  refine w_bipush (v := 10) dX10_luck_2 (by decide) ?_
  refine w_callS (as := [vI (nI v), vI (0), vI (10)]) (st := []) (Tri.mono (c_X10_within (nI v) (0) (10)) (Nat.le_of_ble_eq_true rfl)) tg_X10_within lk_X10_158 sa_X10_within rfl dX10_luck_4 rfl (Nat.le_of_ble_eq_true rfl) (Nat.le_refl _) (Nat.le_refl _) ?_
  rintro _ _ ⟨rfl, rfl⟩ -
  refine w_top (y := bI (0 ≤ ((v : Nat) : Int) ∧ ((v : Nat) : Int) ≤ 10)) (show (bI ((0 : Int32) ≤ (nI v) ∧ (nI v) ≤ (10 : Int32)) : Int32) = bI (0 ≤ ((v : Nat) : Int) ∧ ((v : Nat) : Int) ≤ 10) from wiZ (X := ((v : Nat) : Int)) (A := 0) (B := 10) (z_nI (by omega)) (by decide) (by decide)) ?_
  refine w_ifeq_b (tgt := 29) dX10_luck_7 (by decide) (fun h1 => ?_) (fun h1 => ?_)
  · skip
    first
    | (exfalso; omega)
    | skip
      refine w_ldc2 dX10_luck_29 cq_X10_250 ?_
      exact w_lreturn dX10_luck_32 rfl rfl (⟨rfl, _, _, rfl, FrQ.rf⟩)
  · skip
    first
    | (exfalso; omega)
    | skip
      refine w_iload_n dX10_luck_10 rfl ?_
      refine w_iconst (v := 0) dX10_luck_11 (by decide) ?_
      refine w_bipush (v := 99) dX10_luck_12 (by decide) ?_
      refine w_callS (as := [vI (nI w), vI (0), vI (99)]) (st := []) (Tri.mono (c_X10_within (nI w) (0) (99)) (Nat.le_of_ble_eq_true rfl)) tg_X10_within lk_X10_158 sa_X10_within rfl dX10_luck_14 rfl (Nat.le_of_ble_eq_true rfl) (Nat.le_refl _) (Nat.le_refl _) ?_
      rintro _ _ ⟨rfl, rfl⟩ -
      refine w_top (y := bI (0 ≤ ((w : Nat) : Int) ∧ ((w : Nat) : Int) ≤ 99)) (show (bI ((0 : Int32) ≤ (nI w) ∧ (nI w) ≤ (99 : Int32)) : Int32) = bI (0 ≤ ((w : Nat) : Int) ∧ ((w : Nat) : Int) ≤ 99) from wiZ (X := ((w : Nat) : Int)) (A := 0) (B := 99) (z_nI (by omega)) (by decide) (by decide)) ?_
      refine w_ifeq_b (tgt := 29) dX10_luck_17 (by decide) (fun h2 => ?_) (fun h2 => ?_)
      · skip
        first
        | (exfalso; omega)
        | skip
          refine w_ldc2 dX10_luck_29 cq_X10_250 ?_
          exact w_lreturn dX10_luck_32 rfl rfl (⟨rfl, _, _, rfl, FrQ.rf⟩)
      · skip
        first
        | (exfalso; omega)
        | skip
          refine w_iload_n dX10_luck_20 rfl ?_
          refine w_iconst (v := 0) dX10_luck_21 (by decide) ?_
          refine w_iconst (v := 1) dX10_luck_22 (by decide) ?_
          refine w_callS (as := [vI (what), vI (0), vI (1)]) (st := []) (Tri.mono (c_X10_within (what) (0) (1)) (Nat.le_of_ble_eq_true rfl)) tg_X10_within lk_X10_158 sa_X10_within rfl dX10_luck_23 rfl (Nat.le_of_ble_eq_true rfl) (Nat.le_refl _) (Nat.le_refl _) ?_
          rintro _ _ ⟨rfl, rfl⟩ -
          refine w_top (y := bI (0 ≤ what.toInt ∧ what.toInt ≤ 1)) (show (bI ((0 : Int32) ≤ (what) ∧ (what) ≤ (1 : Int32)) : Int32) = bI (0 ≤ what.toInt ∧ what.toInt ≤ 1) from wiZ (X := what.toInt) (A := 0) (B := 1) rfl (by decide) (by decide)) ?_
          refine w_ifne_b (tgt := 33) dX10_luck_26 (by decide) (fun h3 => ?_) (fun h3 => ?_)
          · skip
            first
            | (exfalso; omega)
            | skip
              exfalso
              omega
          · skip
            first
            | (exfalso; omega)
            | skip
              refine w_ldc2 dX10_luck_29 cq_X10_250 ?_
              exact w_lreturn dX10_luck_32 rfl rfl (⟨rfl, _, _, rfl, FrQ.rf⟩)

theorem q_luck_w {I : xF4 Int32} {L : xF4 Int64} {a : aA} (hs : SI I a) (hw : WF a) {v w : Nat} (hv : v ≤ 10) (hw99 : w ≤ 99) {what : Int32} (hx : what.toInt < 0 ∨ ((2 : Nat) : Int) ≤ what.toInt) : Tri 19 109 m_X11_luck [vR 30 0 0, vI (nI v), vI (nI w), vI (what)] (rM I L) (pMq (vL (-1)) I) := by
  refine ⟨k_X11_luck, Nat.le_of_ble_eq_true rfl, ?_⟩
  show Wp _ _ _ 0 [some (vR 30 0 0), some (vI (nI v)), some (vI (nI w)), some (vI (what))] [] (rM I L) _
  obtain ⟨hJ, hC, hG, hD, hR, -⟩ := id hw
  refine w_iload_n dX11_luck_0 rfl ?_
  refine w_i2l dX11_luck_1 ?_
  refine w_lconst (v := 0) dX11_luck_2 (by decide) ?_
  refine w_ldc2 dX11_luck_3 cq_X11_269 ?_
  refine w_callS (as := [vL ((nI v : Int32).toInt64), vL (0), vL (10)]) (st := []) (Tri.mono (d_in ((nI v : Int32).toInt64) (0) (10)) (Nat.le_of_ble_eq_true rfl)) tg_X11_in lk_X11_66 sa_X11_in rfl dX11_luck_6 rfl (Nat.le_of_ble_eq_true rfl) (Nat.le_refl _) (Nat.le_refl _) ?_
  rintro _ _ ⟨rfl, rfl⟩ -
  refine w_top (y := bI (0 ≤ ((v : Nat) : Int) ∧ ((v : Nat) : Int) ≤ 10)) (show (bI ((0 : Int64) ≤ ((nI v : Int32).toInt64) ∧ ((nI v : Int32).toInt64) ≤ (10 : Int64)) : Int32) = bI (0 ≤ ((v : Nat) : Int) ∧ ((v : Nat) : Int) ≤ 10) from inZ (x := nI v) (l := 0) (h := 10) (X := ((v : Nat) : Int)) (A := 0) (B := 10) rfl (by decide) (by decide) (z_nI (by omega)) (by decide) (by decide)) ?_
  refine w_ifeq_b (tgt := 31) dX11_luck_9 (by decide) (fun h1 => ?_) (fun h1 => ?_)
  · skip
    first
    | (exfalso; omega)
    | skip
      refine w_ldc2 dX11_luck_31 cq_X11_271 ?_
      exact w_lreturn dX11_luck_34 rfl rfl (⟨rfl, _, _, rfl, FrR.rf⟩)
  · skip
    first
    | (exfalso; omega)
    | skip
      refine w_iload_n dX11_luck_12 rfl ?_
      refine w_i2l dX11_luck_13 ?_
      refine w_lconst (v := 0) dX11_luck_14 (by decide) ?_
      refine w_ldc2 dX11_luck_15 cq_X11_213 ?_
      refine w_callS (as := [vL ((nI w : Int32).toInt64), vL (0), vL (99)]) (st := []) (Tri.mono (d_in ((nI w : Int32).toInt64) (0) (99)) (Nat.le_of_ble_eq_true rfl)) tg_X11_in lk_X11_66 sa_X11_in rfl dX11_luck_18 rfl (Nat.le_of_ble_eq_true rfl) (Nat.le_refl _) (Nat.le_refl _) ?_
      rintro _ _ ⟨rfl, rfl⟩ -
      refine w_top (y := bI (0 ≤ ((w : Nat) : Int) ∧ ((w : Nat) : Int) ≤ 99)) (show (bI ((0 : Int64) ≤ ((nI w : Int32).toInt64) ∧ ((nI w : Int32).toInt64) ≤ (99 : Int64)) : Int32) = bI (0 ≤ ((w : Nat) : Int) ∧ ((w : Nat) : Int) ≤ 99) from inZ (x := nI w) (l := 0) (h := 99) (X := ((w : Nat) : Int)) (A := 0) (B := 99) rfl (by decide) (by decide) (z_nI (by omega)) (by decide) (by decide)) ?_
      refine w_ifeq_b (tgt := 31) dX11_luck_21 (by decide) (fun h2 => ?_) (fun h2 => ?_)
      · skip
        first
        | (exfalso; omega)
        | skip
          refine w_ldc2 dX11_luck_31 cq_X11_271 ?_
          exact w_lreturn dX11_luck_34 rfl rfl (⟨rfl, _, _, rfl, FrR.rf⟩)
      · skip
        first
        | (exfalso; omega)
        | skip
          refine w_iload_n dX11_luck_24 rfl ?_
          refine w_callS (as := [vI (what)]) (st := []) (Tri.mono (d_isPart (x := what) (X := what.toInt) rfl) (Nat.le_of_ble_eq_true rfl)) tg_X11_isPart lk_X11_245 sa_X11_isPart rfl dX11_luck_25 rfl (Nat.le_of_ble_eq_true rfl) (Nat.le_refl _) (Nat.le_refl _) ?_
          rintro _ _ ⟨rfl, rfl⟩ -
          refine w_ifne_b (tgt := 35) dX11_luck_28 (by decide) (fun h3 => ?_) (fun h3 => ?_)
          · skip
            first
            | (exfalso; omega)
            | skip
              exfalso
              omega
          · skip
            first
            | (exfalso; omega)
            | skip
              refine w_ldc2 dX11_luck_31 cq_X11_271 ?_
              exact w_lreturn dX11_luck_34 rfl rfl (⟨rfl, _, _, rfl, FrR.rf⟩)
