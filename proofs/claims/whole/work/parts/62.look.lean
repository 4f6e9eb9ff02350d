/-! calls that only look: the numbers of judges, cases, the whole; dockets (by wip/whole/gen/g62.py) -/
/-- a number from lo to hi, or not -/
theorem zin (x : Int32) (lo hi : Nat) (hh : hi < 2 ^ 30) : (∃ m : Nat, lo ≤ m ∧ m ≤ hi ∧ x = nI m) ∨ (x.toInt < (lo : Int) ∨ (hi : Int) < x.toInt) := by
  rcases zcase x (n := hi + 1) (by omega) with ⟨m, hm, rfl⟩ | h
  · by_cases h2 : lo ≤ m
    · exact Or.inl ⟨m, h2, by omega, rfl⟩
    · exact Or.inr (Or.inl (by rw [z_nI (by omega)]; omega))
  · exact Or.inr (by omega)
theorem bitN_congr {p q : Nat → Bool} : ∀ n, (∀ i, i < n → p i = q i) → bitN p n = bitN q n
  | 0, _ => rfl
  | n + 1, h => by rw [bitN, bitN, bitN_congr n (fun i hi => h i (by omega)), h n (by omega)]

theorem p_fault {I : xF4 Int32} {L : xF4 Int64} {g : gG} (hc : CH I g) : Tri 19 109 m_X10_fault [vR 0 0 0] (rM I L) (pCq (vI (gFa g)) I) := by
  refine ⟨k_X10_fault, Nat.le_of_ble_eq_true rfl, ?_⟩
  show Wp _ _ _ 0 [some (vR 0 0 0)] [] (rM I L) _
  refine w_aload_n dX10_fault_0 rfl ?_
  refine w_getR (w := some (10, 0, 0)) ff_X10_29 rfl rfl dX10_fault_1 rfl ?_
  refine w_getI ff_X10_76 rfl rfl dX10_fault_4 ?_
  rw [show (I 10 0 0 2 : Int32) = gFa g from hc.2.2.2.2.1]
  exact w_ireturn dX10_fault_7 rfl (rfl) rfl (⟨rfl, _, _, rfl, FrQ.rf⟩)

theorem q_fault {I : xF4 Int32} {L : xF4 Int64} {g : gG} (hm : MH I g) : Tri 19 109 m_X11_fault [vR 30 0 0] (rM I L) (pMq (vI (gFa g)) I) := by
  refine ⟨k_X11_fault, Nat.le_of_ble_eq_true rfl, ?_⟩
  show Wp _ _ _ 0 [some (vR 30 0 0)] [] (rM I L) _
  refine w_aload_n dX11_fault_0 rfl ?_
  refine w_getI ff_X11_73 rfl rfl dX11_fault_1 ?_
  rw [show (I 30 0 0 15 : Int32) = gFa g from hm.2.2.2.2.1]
  exact w_ireturn dX11_fault_4 rfl (rfl) rfl (⟨rfl, _, _, rfl, FrR.rf⟩)

theorem p_torn {I : xF4 Int32} {L : xF4 Int64} {g : gG} (hc : CH I g) : Tri 19 109 m_X10_torn [vR 0 0 0] (rM I L) (pCq (vI (gTo g)) I) := by
  refine ⟨k_X10_torn, Nat.le_of_ble_eq_true rfl, ?_⟩
  show Wp _ _ _ 0 [some (vR 0 0 0)] [] (rM I L) _
  refine w_aload_n dX10_torn_0 rfl ?_
  refine w_getI ff_X10_61 rfl rfl dX10_torn_1 ?_
  rw [show (I 0 0 0 8 : Int32) = gTo g from hc.2.2.2.2.2.2]
  exact w_ireturn dX10_torn_4 rfl (rfl) rfl (⟨rfl, _, _, rfl, FrQ.rf⟩)

theorem q_torn {I : xF4 Int32} {L : xF4 Int64} {g : gG} (hm : MH I g) : Tri 19 109 m_X11_torn [vR 30 0 0] (rM I L) (pMq (vI (gTo g)) I) := by
  refine ⟨k_X11_torn, Nat.le_of_ble_eq_true rfl, ?_⟩
  show Wp _ _ _ 0 [some (vR 30 0 0)] [] (rM I L) _
  refine w_aload_n dX11_torn_0 rfl ?_
  refine w_getI ff_X11_311 rfl rfl dX11_torn_1 ?_
  rw [show (I 30 0 0 26 : Int32) = gTo g from hm.2.2.2.2.2.2]
  exact w_ireturn dX11_torn_4 rfl (rfl) rfl (⟨rfl, _, _, rfl, FrR.rf⟩)

theorem l_ruleM {I : xF4 Int32} {L : xF4 Int64} {a : aA} (hm : MI I a) (hw : WF a) {what : Int32} {Q : Option xV → xM → Prop} (hk : Wp 19 109 m_X11_rule 31 [some (vR 30 0 0), some (vI (what)), some (vI (nI (sumN (fun c => sF a c 4) (nC a)))), some (vI (nI (nC a)))] [] (rM I L) Q) : ∀ (m c : Nat) , c + m = nC a → Wp 19 109 m_X11_rule 8 [some (vR 30 0 0), some (vI (what)), some (vI (nI (sumN (fun c => sF a c 4) c))), some (vI (nI c))] [] (rM I L) Q := by
  intro m
  induction m with
  | zero =>
    intro c  hq9
    have e : c = nC a := by omega
    subst e
    obtain ⟨hJ, hC, hG, hD, hR, -⟩ := id hw
    refine w_iload_n dX11_rule_8 rfl ?_
    refine w_aload_n dX11_rule_9 rfl ?_
    refine w_getI ff_X11_61 rfl rfl dX11_rule_10 ?_
    rw [show (I 30 0 0 4 : Int32) = nI (nC a) from hm.2.1]
    refine w_icmp_ge (tgt := 31) dX11_rule_13 (by decide) (fun _ => ?_) (fun h => absurd (nI_le (Nat.le_refl _) (by omega)) h)
    exact hk 
  | succ m ih =>
    intro c  hq9
    have hcc : c < nC a := by omega
    obtain ⟨hJ, hC, hG, hD, hR, -⟩ := id hw
    refine w_iload_n dX11_rule_8 rfl ?_
    refine w_aload_n dX11_rule_9 rfl ?_
    refine w_getI ff_X11_61 rfl rfl dX11_rule_10 ?_
    rw [show (I 30 0 0 4 : Int32) = nI (nC a) from hm.2.1]
    refine w_icmp_ge (tgt := 31) dX11_rule_13 (by decide) (fun h => absurd h (nI_ge hcc (by omega))) (fun _ => ?_)
    have fc := (hw.2.2.2.2.2.2.1 c hcc).1
    refine w_iload_n dX11_rule_16 rfl ?_
    refine w_aload_n dX11_rule_17 rfl ?_
    refine w_iload_n dX11_rule_18 rfl ?_
    refine w_iconst (v := 4) dX11_rule_19 (by decide) ?_
    refine w_callV (as := [vI (nI c), vI (4)]) (st := [vI (nI (sumN (fun c => sF a c 4) c))]) (Tri.mono (d_ofCase hm hC hcc (f := 4) (by decide) (by decide)) (Nat.le_of_ble_eq_true rfl)) rfl rfl tg_X11_ofCase lk_X11_145 in_X11_ofCase se_X11_ofCase rfl dX11_rule_20 rfl (Nat.le_of_ble_eq_true rfl) (Nat.le_refl _) (Nat.le_refl _) ?_
    rintro _ _ ⟨rfl, rfl⟩ -
    refine w_iadd dX11_rule_23 ?_
    rw [show ((nI (sumN (fun c => sF a c 4) c)) + (nI (sF a c 4)) : Int32) = nI (sumN (fun c => sF a c 4) (c + 1)) from nI_add _ _]
    refine w_istore_n (ls' := [some (vR 30 0 0), some (vI (what)), some (vI (nI (sumN (fun c => sF a c 4) (c + 1)))), some (vI (nI c))]) dX11_rule_24 rfl ?_
    refine w_iinc (v := nI (c + 1)) (ls' := [some (vR 30 0 0), some (vI (what)), some (vI (nI (sumN (fun c => sF a c 4) (c + 1)))), some (vI (nI (c + 1)))]) dX11_rule_25 rfl (nI_1 _) rfl ?_
    refine w_goto (tgt := 8) dX11_rule_28 (by decide) ?_
    exact ih (c + 1)  (by omega)

theorem p_rule_0 {I : xF4 Int32} {L : xF4 Int64} {a : aA} (hc : CourtIs I 0 a) (hw : WF a)  : Tri 19 109 m_X10_rule [vR 0 0 0, vI (0)] (rM I L) (pCq (vI (nI (nJ a))) I) := by
  refine ⟨k_X10_rule, Nat.le_of_ble_eq_true rfl, ?_⟩
  show Wp _ _ _ 0 [some (vR 0 0 0), some (vI (0))] [] (rM I L) _
  obtain ⟨hJ, hC, hG, hD, hR, -⟩ := id hw
  refine w_iload_n dX10_rule_0 rfl ?_
  refine w_tabIn (off := 43) (tgt := 44) dX10_rule_1 (by decide) (by decide) rfl (by decide) ?_
  refine w_aload_n dX10_rule_44 rfl ?_
  refine w_getR (w := some (1, 0, 0)) ff_X10_10 rfl rfl dX10_rule_45 rfl ?_
  refine w_getI ff_X10_89 rfl rfl dX10_rule_48 ?_
  rw [show (I 1 0 0 3 : Int32) = nI (nJ a) from hc.1]
  exact w_ireturn dX10_rule_51 rfl (rfl) rfl (⟨rfl, _, _, rfl, FrQ.rf⟩)

theorem q_rule_0 {I : xF4 Int32} {L : xF4 Int64} {a : aA} (hs : SI I a) (hw : WF a)  : Tri 19 109 m_X11_rule [vR 30 0 0, vI (0)] (rM I L) (pMq (vI (nI (nJ a))) I) := by
  refine ⟨k_X11_rule, Nat.le_of_ble_eq_true rfl, ?_⟩
  show Wp _ _ _ 0 [some (vR 30 0 0), some (vI (0)), none, none] [] (rM I L) _
  obtain ⟨hJ, hC, hG, hD, hR, -⟩ := id hw
  refine w_aload_n dX11_rule_0 rfl ?_
  refine w_callV (as := []) (st := []) (Tri.mono (d_starts hs hw) (Nat.le_of_ble_eq_true rfl)) rfl rfl tg_X11_starts lk_X11_192 in_X11_starts se_X11_starts rfl dX11_rule_1 rfl (Nat.le_of_ble_eq_true rfl) (Nat.le_refl _) (Nat.le_refl _) ?_
  rintro v M9 ⟨rfl, I1, rfl, hm1, hi1, hf1⟩ -
  have hs1 := hf1.r.si hs
  refine w_iconst (v := 0) dX11_rule_4 (by decide) ?_
  refine w_istore_n (ls' := [some (vR 30 0 0), some (vI (0)), some (vI (0)), none]) dX11_rule_5 rfl ?_
  refine w_iconst (v := 0) dX11_rule_6 (by decide) ?_
  refine w_istore_n (ls' := [some (vR 30 0 0), some (vI (0)), some (vI (0)), some (vI (0))]) dX11_rule_7 rfl ?_
  refine l_ruleM hm1 hw ?_ (nC a) 0 (Nat.zero_add _)
  refine w_iload_n dX11_rule_31 rfl ?_
  refine w_tabIn (off := 44) (tgt := 76) dX11_rule_32 (by decide) (by decide) rfl (by decide) ?_
  refine w_aload_n dX11_rule_76 rfl ?_
  refine w_getI ff_X11_58 rfl rfl dX11_rule_77 ?_
  rw [show (I1 30 0 0 3 : Int32) = nI (nJ a) from hs1.1]
  exact w_ireturn dX11_rule_80 rfl (rfl) rfl (⟨rfl, _, _, rfl, hf1.r⟩)

theorem p_rule_1 {I : xF4 Int32} {L : xF4 Int64} {a : aA} (hc : CourtIs I 0 a) (hw : WF a)  : Tri 19 109 m_X10_rule [vR 0 0 0, vI (1)] (rM I L) (pCq (vI (nI (nC a))) I) := by
  refine ⟨k_X10_rule, Nat.le_of_ble_eq_true rfl, ?_⟩
  show Wp _ _ _ 0 [some (vR 0 0 0), some (vI (1))] [] (rM I L) _
  obtain ⟨hJ, hC, hG, hD, hR, -⟩ := id hw
  refine w_iload_n dX10_rule_0 rfl ?_
  refine w_tabIn (off := 51) (tgt := 52) dX10_rule_1 (by decide) (by decide) rfl (by decide) ?_
  refine w_aload_n dX10_rule_52 rfl ?_
  refine w_getR (w := some (1, 0, 0)) ff_X10_10 rfl rfl dX10_rule_53 rfl ?_
  refine w_getI ff_X10_92 rfl rfl dX10_rule_56 ?_
  rw [show (I 1 0 0 4 : Int32) = nI (nC a) from hc.2.1]
  exact w_ireturn dX10_rule_59 rfl (rfl) rfl (⟨rfl, _, _, rfl, FrQ.rf⟩)

theorem q_rule_1 {I : xF4 Int32} {L : xF4 Int64} {a : aA} (hs : SI I a) (hw : WF a)  : Tri 19 109 m_X11_rule [vR 30 0 0, vI (1)] (rM I L) (pMq (vI (nI (nC a))) I) := by
  refine ⟨k_X11_rule, Nat.le_of_ble_eq_true rfl, ?_⟩
  show Wp _ _ _ 0 [some (vR 30 0 0), some (vI (1)), none, none] [] (rM I L) _
  obtain ⟨hJ, hC, hG, hD, hR, -⟩ := id hw
  refine w_aload_n dX11_rule_0 rfl ?_
  refine w_callV (as := []) (st := []) (Tri.mono (d_starts hs hw) (Nat.le_of_ble_eq_true rfl)) rfl rfl tg_X11_starts lk_X11_192 in_X11_starts se_X11_starts rfl dX11_rule_1 rfl (Nat.le_of_ble_eq_true rfl) (Nat.le_refl _) (Nat.le_refl _) ?_
  rintro v M9 ⟨rfl, I1, rfl, hm1, hi1, hf1⟩ -
  have hs1 := hf1.r.si hs
  refine w_iconst (v := 0) dX11_rule_4 (by decide) ?_
  refine w_istore_n (ls' := [some (vR 30 0 0), some (vI (1)), some (vI (0)), none]) dX11_rule_5 rfl ?_
  refine w_iconst (v := 0) dX11_rule_6 (by decide) ?_
  refine w_istore_n (ls' := [some (vR 30 0 0), some (vI (1)), some (vI (0)), some (vI (0))]) dX11_rule_7 rfl ?_
  refine l_ruleM hm1 hw ?_ (nC a) 0 (Nat.zero_add _)
  refine w_iload_n dX11_rule_31 rfl ?_
  refine w_tabIn (off := 49) (tgt := 81) dX11_rule_32 (by decide) (by decide) rfl (by decide) ?_
  refine w_aload_n dX11_rule_81 rfl ?_
  refine w_getI ff_X11_61 rfl rfl dX11_rule_82 ?_
  rw [show (I1 30 0 0 4 : Int32) = nI (nC a) from hs1.2.1]
  exact w_ireturn dX11_rule_85 rfl (rfl) rfl (⟨rfl, _, _, rfl, hf1.r⟩)

theorem p_rule_2 {I : xF4 Int32} {L : xF4 Int64} {a : aA} (hc : CourtIs I 0 a) (hw : WF a)  : Tri 19 109 m_X10_rule [vR 0 0 0, vI (2)] (rM I L) (pCq (vI (nI (dY a))) I) := by
  refine ⟨k_X10_rule, Nat.le_of_ble_eq_true rfl, ?_⟩
  show Wp _ _ _ 0 [some (vR 0 0 0), some (vI (2))] [] (rM I L) _
  obtain ⟨hJ, hC, hG, hD, hR, -⟩ := id hw
  refine w_iload_n dX10_rule_0 rfl ?_
  refine w_tabIn (off := 59) (tgt := 60) dX10_rule_1 (by decide) (by decide) rfl (by decide) ?_
  refine w_aload_n dX10_rule_60 rfl ?_
  refine w_getR (w := some (1, 0, 0)) ff_X10_10 rfl rfl dX10_rule_61 rfl ?_
  refine w_getI ff_X10_95 rfl rfl dX10_rule_64 ?_
  rw [show (I 1 0 0 6 : Int32) = nI (dY a) from hc.2.2.2.1]
  exact w_ireturn dX10_rule_67 rfl (rfl) rfl (⟨rfl, _, _, rfl, FrQ.rf⟩)

theorem q_rule_2 {I : xF4 Int32} {L : xF4 Int64} {a : aA} (hs : SI I a) (hw : WF a)  : Tri 19 109 m_X11_rule [vR 30 0 0, vI (2)] (rM I L) (pMq (vI (nI (dY a))) I) := by
  refine ⟨k_X11_rule, Nat.le_of_ble_eq_true rfl, ?_⟩
  show Wp _ _ _ 0 [some (vR 30 0 0), some (vI (2)), none, none] [] (rM I L) _
  obtain ⟨hJ, hC, hG, hD, hR, -⟩ := id hw
  refine w_aload_n dX11_rule_0 rfl ?_
  refine w_callV (as := []) (st := []) (Tri.mono (d_starts hs hw) (Nat.le_of_ble_eq_true rfl)) rfl rfl tg_X11_starts lk_X11_192 in_X11_starts se_X11_starts rfl dX11_rule_1 rfl (Nat.le_of_ble_eq_true rfl) (Nat.le_refl _) (Nat.le_refl _) ?_
  rintro v M9 ⟨rfl, I1, rfl, hm1, hi1, hf1⟩ -
  have hs1 := hf1.r.si hs
  refine w_iconst (v := 0) dX11_rule_4 (by decide) ?_
  refine w_istore_n (ls' := [some (vR 30 0 0), some (vI (2)), some (vI (0)), none]) dX11_rule_5 rfl ?_
  refine w_iconst (v := 0) dX11_rule_6 (by decide) ?_
  refine w_istore_n (ls' := [some (vR 30 0 0), some (vI (2)), some (vI (0)), some (vI (0))]) dX11_rule_7 rfl ?_
  refine l_ruleM hm1 hw ?_ (nC a) 0 (Nat.zero_add _)
  refine w_iload_n dX11_rule_31 rfl ?_
  refine w_tabIn (off := 54) (tgt := 86) dX11_rule_32 (by decide) (by decide) rfl (by decide) ?_
  refine w_aload_n dX11_rule_86 rfl ?_
  refine w_getR (w := some (31, 0, 0)) ff_X11_7 rfl rfl dX11_rule_87 rfl ?_
  refine w_bipush (v := 55) dX11_rule_90 (by decide) ?_
  refine w_iload_n dX11_rule_92 rfl ?_
  refine w_iadd dX11_rule_93 ?_
  rw [show ((55) + (2) : Int32) = 57 from by decide]
  refine w_iconst (v := 2) dX11_rule_94 (by decide) ?_
  refine w_isub dX11_rule_95 ?_
  rw [show ((57) - (2) : Int32) = 55 from by decide]
  refine w_iaload (a := 55) rfl (vp_in_nI (n := 55) (by omega) (by omega)) (nI_clamp (n := 55) (by omega)) dX11_rule_96 ?_
  rw [show (I1 31 0 0 (55) : Int32) = nI (dY a) from hs1.2.2.dy rfl]
  exact w_ireturn dX11_rule_97 rfl (rfl) rfl (⟨rfl, _, _, rfl, hf1.r⟩)

theorem p_rule_3 {I : xF4 Int32} {L : xF4 Int64} {a : aA} (hc : CourtIs I 0 a) (hw : WF a)  : Tri 19 109 m_X10_rule [vR 0 0 0, vI (3)] (rM I L) (pCq (vI (nI (cR a))) I) := by
  refine ⟨k_X10_rule, Nat.le_of_ble_eq_true rfl, ?_⟩
  show Wp _ _ _ 0 [some (vR 0 0 0), some (vI (3))] [] (rM I L) _
  obtain ⟨hJ, hC, hG, hD, hR, -⟩ := id hw
  refine w_iload_n dX10_rule_0 rfl ?_
  refine w_tabIn (off := 67) (tgt := 68) dX10_rule_1 (by decide) (by decide) rfl (by decide) ?_
  refine w_aload_n dX10_rule_68 rfl ?_
  refine w_getR (w := some (1, 0, 0)) ff_X10_10 rfl rfl dX10_rule_69 rfl ?_
  refine w_getI ff_X10_98 rfl rfl dX10_rule_72 ?_
  rw [show (I 1 0 0 7 : Int32) = nI (cR a) from hc.2.2.2.2.1]
  exact w_ireturn dX10_rule_75 rfl (rfl) rfl (⟨rfl, _, _, rfl, FrQ.rf⟩)

theorem q_rule_3 {I : xF4 Int32} {L : xF4 Int64} {a : aA} (hs : SI I a) (hw : WF a)  : Tri 19 109 m_X11_rule [vR 30 0 0, vI (3)] (rM I L) (pMq (vI (nI (cR a))) I) := by
  refine ⟨k_X11_rule, Nat.le_of_ble_eq_true rfl, ?_⟩
  show Wp _ _ _ 0 [some (vR 30 0 0), some (vI (3)), none, none] [] (rM I L) _
  obtain ⟨hJ, hC, hG, hD, hR, -⟩ := id hw
  refine w_aload_n dX11_rule_0 rfl ?_
  refine w_callV (as := []) (st := []) (Tri.mono (d_starts hs hw) (Nat.le_of_ble_eq_true rfl)) rfl rfl tg_X11_starts lk_X11_192 in_X11_starts se_X11_starts rfl dX11_rule_1 rfl (Nat.le_of_ble_eq_true rfl) (Nat.le_refl _) (Nat.le_refl _) ?_
  rintro v M9 ⟨rfl, I1, rfl, hm1, hi1, hf1⟩ -
  have hs1 := hf1.r.si hs
  refine w_iconst (v := 0) dX11_rule_4 (by decide) ?_
  refine w_istore_n (ls' := [some (vR 30 0 0), some (vI (3)), some (vI (0)), none]) dX11_rule_5 rfl ?_
  refine w_iconst (v := 0) dX11_rule_6 (by decide) ?_
  refine w_istore_n (ls' := [some (vR 30 0 0), some (vI (3)), some (vI (0)), some (vI (0))]) dX11_rule_7 rfl ?_
  refine l_ruleM hm1 hw ?_ (nC a) 0 (Nat.zero_add _)
  refine w_iload_n dX11_rule_31 rfl ?_
  refine w_tabIn (off := 54) (tgt := 86) dX11_rule_32 (by decide) (by decide) rfl (by decide) ?_
  refine w_aload_n dX11_rule_86 rfl ?_
  refine w_getR (w := some (31, 0, 0)) ff_X11_7 rfl rfl dX11_rule_87 rfl ?_
  refine w_bipush (v := 55) dX11_rule_90 (by decide) ?_
  refine w_iload_n dX11_rule_92 rfl ?_
  refine w_iadd dX11_rule_93 ?_
  rw [show ((55) + (3) : Int32) = 58 from by decide]
  refine w_iconst (v := 2) dX11_rule_94 (by decide) ?_
  refine w_isub dX11_rule_95 ?_
  rw [show ((58) - (2) : Int32) = 56 from by decide]
  refine w_iaload (a := 56) rfl (vp_in_nI (n := 56) (by omega) (by omega)) (nI_clamp (n := 56) (by omega)) dX11_rule_96 ?_
  rw [show (I1 31 0 0 (56) : Int32) = nI (cR a) from hs1.2.2.cr rfl]
  exact w_ireturn dX11_rule_97 rfl (rfl) rfl (⟨rfl, _, _, rfl, hf1.r⟩)

theorem p_rule_4 {I : xF4 Int32} {L : xF4 Int64} {a : aA} (hc : CourtIs I 0 a) (hw : WF a)  : Tri 19 109 m_X10_rule [vR 0 0 0, vI (4)] (rM I L) (pCq (vI (nI (heardN a))) I) := by
  refine ⟨k_X10_rule, Nat.le_of_ble_eq_true rfl, ?_⟩
  show Wp _ _ _ 0 [some (vR 0 0 0), some (vI (4))] [] (rM I L) _
  obtain ⟨hJ, hC, hG, hD, hR, -⟩ := id hw
  refine w_iload_n dX10_rule_0 rfl ?_
  refine w_tabIn (off := 75) (tgt := 76) dX10_rule_1 (by decide) (by decide) rfl (by decide) ?_
  refine w_aload_n dX10_rule_76 rfl ?_
  refine w_getR (w := some (1, 0, 0)) ff_X10_10 rfl rfl dX10_rule_77 rfl ?_
  refine w_callV (as := []) (st := []) (Tri.mono (c_heardBits hc hw) (Nat.le_of_ble_eq_true rfl)) rfl rfl tg_X1_heardBits lk_X10_101 in_X1_heardBits se_X1_heardBits rfl dX10_rule_80 rfl (Nat.le_of_ble_eq_true rfl) (Nat.le_refl _) (Nat.le_refl _) ?_
  rintro _ _ ⟨rfl, rfl⟩ -
  exact w_ireturn dX10_rule_83 rfl (rfl) rfl (⟨rfl, _, _, rfl, FrQ.rf⟩)

theorem q_rule_4 {I : xF4 Int32} {L : xF4 Int64} {a : aA} (hs : SI I a) (hw : WF a)  : Tri 19 109 m_X11_rule [vR 30 0 0, vI (4)] (rM I L) (pMq (vI (nI (heardN a))) I) := by
  refine ⟨k_X11_rule, Nat.le_of_ble_eq_true rfl, ?_⟩
  show Wp _ _ _ 0 [some (vR 30 0 0), some (vI (4)), none, none] [] (rM I L) _
  obtain ⟨hJ, hC, hG, hD, hR, -⟩ := id hw
  refine w_aload_n dX11_rule_0 rfl ?_
  refine w_callV (as := []) (st := []) (Tri.mono (d_starts hs hw) (Nat.le_of_ble_eq_true rfl)) rfl rfl tg_X11_starts lk_X11_192 in_X11_starts se_X11_starts rfl dX11_rule_1 rfl (Nat.le_of_ble_eq_true rfl) (Nat.le_refl _) (Nat.le_refl _) ?_
  rintro v M9 ⟨rfl, I1, rfl, hm1, hi1, hf1⟩ -
  have hs1 := hf1.r.si hs
  refine w_iconst (v := 0) dX11_rule_4 (by decide) ?_
  refine w_istore_n (ls' := [some (vR 30 0 0), some (vI (4)), some (vI (0)), none]) dX11_rule_5 rfl ?_
  refine w_iconst (v := 0) dX11_rule_6 (by decide) ?_
  refine w_istore_n (ls' := [some (vR 30 0 0), some (vI (4)), some (vI (0)), some (vI (0))]) dX11_rule_7 rfl ?_
  refine l_ruleM hm1 hw ?_ (nC a) 0 (Nat.zero_add _)
  refine w_iload_n dX11_rule_31 rfl ?_
  refine w_tabIn (off := 66) (tgt := 98) dX11_rule_32 (by decide) (by decide) rfl (by decide) ?_
  refine w_aload_n dX11_rule_98 rfl ?_
  refine w_callV (as := []) (st := []) (Tri.mono (d_heard hm1 hw) (Nat.le_of_ble_eq_true rfl)) rfl rfl tg_X11_heard lk_X11_183 in_X11_heard se_X11_heard rfl dX11_rule_99 rfl (Nat.le_of_ble_eq_true rfl) (Nat.le_refl _) (Nat.le_refl _) ?_
  rintro _ _ ⟨rfl, rfl⟩ -
  exact w_ireturn dX11_rule_102 rfl (rfl) rfl (⟨rfl, _, _, rfl, hf1.r⟩)

theorem p_rule_5 {I : xF4 Int32} {L : xF4 Int64} {a : aA} (hc : CourtIs I 0 a) (hw : WF a)  : Tri 19 109 m_X10_rule [vR 0 0 0, vI (5)] (rM I L) (pCq (vI (nI (awayN a))) I) := by
  refine ⟨k_X10_rule, Nat.le_of_ble_eq_true rfl, ?_⟩
  show Wp _ _ _ 0 [some (vR 0 0 0), some (vI (5))] [] (rM I L) _
  obtain ⟨hJ, hC, hG, hD, hR, -⟩ := id hw
  refine w_iload_n dX10_rule_0 rfl ?_
  refine w_tabIn (off := 83) (tgt := 84) dX10_rule_1 (by decide) (by decide) rfl (by decide) ?_
  refine w_aload_n dX10_rule_84 rfl ?_
  refine w_getR (w := some (1, 0, 0)) ff_X10_10 rfl rfl dX10_rule_85 rfl ?_
  refine w_callV (as := []) (st := []) (Tri.mono (c_awayBits hc hw) (Nat.le_of_ble_eq_true rfl)) rfl rfl tg_X1_awayBits lk_X10_105 in_X1_awayBits se_X1_awayBits rfl dX10_rule_88 rfl (Nat.le_of_ble_eq_true rfl) (Nat.le_refl _) (Nat.le_refl _) ?_
  rintro _ _ ⟨rfl, rfl⟩ -
  exact w_ireturn dX10_rule_91 rfl (rfl) rfl (⟨rfl, _, _, rfl, FrQ.rf⟩)

theorem q_rule_5 {I : xF4 Int32} {L : xF4 Int64} {a : aA} (hs : SI I a) (hw : WF a)  : Tri 19 109 m_X11_rule [vR 30 0 0, vI (5)] (rM I L) (pMq (vI (nI (awayN a))) I) := by
  refine ⟨k_X11_rule, Nat.le_of_ble_eq_true rfl, ?_⟩
  show Wp _ _ _ 0 [some (vR 30 0 0), some (vI (5)), none, none] [] (rM I L) _
  obtain ⟨hJ, hC, hG, hD, hR, -⟩ := id hw
  refine w_aload_n dX11_rule_0 rfl ?_
  refine w_callV (as := []) (st := []) (Tri.mono (d_starts hs hw) (Nat.le_of_ble_eq_true rfl)) rfl rfl tg_X11_starts lk_X11_192 in_X11_starts se_X11_starts rfl dX11_rule_1 rfl (Nat.le_of_ble_eq_true rfl) (Nat.le_refl _) (Nat.le_refl _) ?_
  rintro v M9 ⟨rfl, I1, rfl, hm1, hi1, hf1⟩ -
  have hs1 := hf1.r.si hs
  refine w_iconst (v := 0) dX11_rule_4 (by decide) ?_
  refine w_istore_n (ls' := [some (vR 30 0 0), some (vI (5)), some (vI (0)), none]) dX11_rule_5 rfl ?_
  refine w_iconst (v := 0) dX11_rule_6 (by decide) ?_
  refine w_istore_n (ls' := [some (vR 30 0 0), some (vI (5)), some (vI (0)), some (vI (0))]) dX11_rule_7 rfl ?_
  refine l_ruleM hm1 hw ?_ (nC a) 0 (Nat.zero_add _)
  refine w_iload_n dX11_rule_31 rfl ?_
  refine w_tabIn (off := 71) (tgt := 103) dX11_rule_32 (by decide) (by decide) rfl (by decide) ?_
  refine w_aload_n dX11_rule_103 rfl ?_
  refine w_callV (as := []) (st := []) (Tri.mono (d_away hm1 hw) (Nat.le_of_ble_eq_true rfl)) rfl rfl tg_X11_away lk_X11_195 in_X11_away se_X11_away rfl dX11_rule_104 rfl (Nat.le_of_ble_eq_true rfl) (Nat.le_refl _) (Nat.le_refl _) ?_
  rintro _ _ ⟨rfl, rfl⟩ -
  exact w_ireturn dX11_rule_107 rfl (rfl) rfl (⟨rfl, _, _, rfl, hf1.r⟩)

theorem p_rule_6 {I : xF4 Int32} {L : xF4 Int64} {a : aA} (hc : CourtIs I 0 a) (hw : WF a)  : Tri 19 109 m_X10_rule [vR 0 0 0, vI (6)] (rM I L) (pCq (vI (nI (sumN (fun c => sF a c 4) (nC a)))) I) := by
  refine ⟨k_X10_rule, Nat.le_of_ble_eq_true rfl, ?_⟩
  show Wp _ _ _ 0 [some (vR 0 0 0), some (vI (6))] [] (rM I L) _
  obtain ⟨hJ, hC, hG, hD, hR, -⟩ := id hw
  refine w_iload_n dX10_rule_0 rfl ?_
  refine w_tabIn (off := 91) (tgt := 92) dX10_rule_1 (by decide) (by decide) rfl (by decide) ?_
  refine w_aload_n dX10_rule_92 rfl ?_
  refine w_getR (w := some (1, 0, 0)) ff_X10_10 rfl rfl dX10_rule_93 rfl ?_
  refine w_callV (as := []) (st := []) (Tri.mono (c_allSentences hc hw) (Nat.le_of_ble_eq_true rfl)) rfl rfl tg_X1_allSentences lk_X10_108 in_X1_allSentences se_X1_allSentences rfl dX10_rule_96 rfl (Nat.le_of_ble_eq_true rfl) (Nat.le_refl _) (Nat.le_refl _) ?_
  rintro _ _ ⟨rfl, rfl⟩ -
  exact w_ireturn dX10_rule_99 rfl (rfl) rfl (⟨rfl, _, _, rfl, FrQ.rf⟩)

theorem q_rule_6 {I : xF4 Int32} {L : xF4 Int64} {a : aA} (hs : SI I a) (hw : WF a)  : Tri 19 109 m_X11_rule [vR 30 0 0, vI (6)] (rM I L) (pMq (vI (nI (sumN (fun c => sF a c 4) (nC a)))) I) := by
  refine ⟨k_X11_rule, Nat.le_of_ble_eq_true rfl, ?_⟩
  show Wp _ _ _ 0 [some (vR 30 0 0), some (vI (6)), none, none] [] (rM I L) _
  obtain ⟨hJ, hC, hG, hD, hR, -⟩ := id hw
  refine w_aload_n dX11_rule_0 rfl ?_
  refine w_callV (as := []) (st := []) (Tri.mono (d_starts hs hw) (Nat.le_of_ble_eq_true rfl)) rfl rfl tg_X11_starts lk_X11_192 in_X11_starts se_X11_starts rfl dX11_rule_1 rfl (Nat.le_of_ble_eq_true rfl) (Nat.le_refl _) (Nat.le_refl _) ?_
  rintro v M9 ⟨rfl, I1, rfl, hm1, hi1, hf1⟩ -
  have hs1 := hf1.r.si hs
  refine w_iconst (v := 0) dX11_rule_4 (by decide) ?_
  refine w_istore_n (ls' := [some (vR 30 0 0), some (vI (6)), some (vI (0)), none]) dX11_rule_5 rfl ?_
  refine w_iconst (v := 0) dX11_rule_6 (by decide) ?_
  refine w_istore_n (ls' := [some (vR 30 0 0), some (vI (6)), some (vI (0)), some (vI (0))]) dX11_rule_7 rfl ?_
  refine l_ruleM hm1 hw ?_ (nC a) 0 (Nat.zero_add _)
  refine w_iload_n dX11_rule_31 rfl ?_
  refine w_tabIn (off := 76) (tgt := 108) dX11_rule_32 (by decide) (by decide) rfl (by decide) ?_
  refine w_iload_n dX11_rule_108 rfl ?_
  exact w_ireturn dX11_rule_109 rfl (rfl) rfl (⟨rfl, _, _, rfl, hf1.r⟩)

theorem p_rule_o {I : xF4 Int32} {L : xF4 Int64} {a : aA} (hc : CourtIs I 0 a) (hw : WF a) {what : Int32} (hx : what.toInt < 0 ∨ ((7 : Nat) : Int) ≤ what.toInt) : Tri 19 109 m_X10_rule [vR 0 0 0, vI (what)] (rM I L) (pCq (vI (-1)) I) := by
  refine ⟨k_X10_rule, Nat.le_of_ble_eq_true rfl, ?_⟩
  show Wp _ _ _ 0 [some (vR 0 0 0), some (vI (what))] [] (rM I L) _
  obtain ⟨hJ, hC, hG, hD, hR, -⟩ := id hw
  refine w_iload_n dX10_rule_0 rfl ?_
  refine w_tabOut (tgt := 100) dX10_rule_1 (by rw [show (what : Int32).toInt = what.toInt from rfl]; omega) (by decide) ?_
  refine w_iconst (v := (-1)) dX10_rule_100 (by decide) ?_
  exact w_ireturn dX10_rule_101 rfl (rfl) rfl (⟨rfl, _, _, rfl, FrQ.rf⟩)

theorem q_rule_o {I : xF4 Int32} {L : xF4 Int64} {a : aA} (hs : SI I a) (hw : WF a) {what : Int32} (hx : what.toInt < 0 ∨ ((7 : Nat) : Int) ≤ what.toInt) : Tri 19 109 m_X11_rule [vR 30 0 0, vI (what)] (rM I L) (pMq (vI (-1)) I) := by
  refine ⟨k_X11_rule, Nat.le_of_ble_eq_true rfl, ?_⟩
  show Wp _ _ _ 0 [some (vR 30 0 0), some (vI (what)), none, none] [] (rM I L) _
  obtain ⟨hJ, hC, hG, hD, hR, -⟩ := id hw
  refine w_aload_n dX11_rule_0 rfl ?_
  refine w_callV (as := []) (st := []) (Tri.mono (d_starts hs hw) (Nat.le_of_ble_eq_true rfl)) rfl rfl tg_X11_starts lk_X11_192 in_X11_starts se_X11_starts rfl dX11_rule_1 rfl (Nat.le_of_ble_eq_true rfl) (Nat.le_refl _) (Nat.le_refl _) ?_
  rintro v M9 ⟨rfl, I1, rfl, hm1, hi1, hf1⟩ -
  have hs1 := hf1.r.si hs
  refine w_iconst (v := 0) dX11_rule_4 (by decide) ?_
  refine w_istore_n (ls' := [some (vR 30 0 0), some (vI (what)), some (vI (0)), none]) dX11_rule_5 rfl ?_
  refine w_iconst (v := 0) dX11_rule_6 (by decide) ?_
  refine w_istore_n (ls' := [some (vR 30 0 0), some (vI (what)), some (vI (0)), some (vI (0))]) dX11_rule_7 rfl ?_
  refine l_ruleM hm1 hw ?_ (nC a) 0 (Nat.zero_add _)
  refine w_iload_n dX11_rule_31 rfl ?_
  refine w_tabOut (tgt := 110) dX11_rule_32 (by rw [show (what : Int32).toInt = what.toInt from rfl]; omega) (by decide) ?_
  refine w_iconst (v := (-1)) dX11_rule_110 (by decide) ?_
  exact w_ireturn dX11_rule_111 rfl (rfl) rfl (⟨rfl, _, _, rfl, hf1.r⟩)

theorem l_judgeM {I : xF4 Int32} {L : xF4 Int64} {a : aA} (hm : MI I a) (hw : WF a) {what : Int32} {j : Nat} (hj : j < nJ a) {Q : Option xV → xM → Prop} (hk : Wp 19 109 m_X11_judge 71 [some (vR 30 0 0), some (vI (nI j)), some (vI (what)), some (vI (nI (bitN (fun c => decide (bY a c = some j)) (nC a)))), some (vI (nI (nC a)))] [] (rM I L) Q) : ∀ (m c : Nat) , c + m = nC a → Wp 19 109 m_X11_judge 31 [some (vR 30 0 0), some (vI (nI j)), some (vI (what)), some (vI (nI (bitN (fun c => decide (bY a c = some j)) c))), some (vI (nI c))] [] (rM I L) Q := by
  intro m
  induction m with
  | zero =>
    intro c  hq9
    have e : c = nC a := by omega
    subst e
    obtain ⟨hJ, hC, hG, hD, hR, -⟩ := id hw
    refine w_iload dX11_judge_31 rfl ?_
    refine w_aload_n dX11_judge_33 rfl ?_
    refine w_getI ff_X11_61 rfl rfl dX11_judge_34 ?_
    rw [show (I 30 0 0 4 : Int32) = nI (nC a) from hm.2.1]
    refine w_icmp_ge (tgt := 71) dX11_judge_37 (by decide) (fun _ => ?_) (fun h => absurd (nI_le (Nat.le_refl _) (by omega)) h)
    exact hk 
  | succ m ih =>
    intro c  hq9
    have hcc : c < nC a := by omega
    obtain ⟨hJ, hC, hG, hD, hR, -⟩ := id hw
    refine w_iload dX11_judge_31 rfl ?_
    refine w_aload_n dX11_judge_33 rfl ?_
    refine w_getI ff_X11_61 rfl rfl dX11_judge_34 ?_
    rw [show (I 30 0 0 4 : Int32) = nI (nC a) from hm.2.1]
    refine w_icmp_ge (tgt := 71) dX11_judge_37 (by decide) (fun h => absurd h (nI_ge hcc (by omega))) (fun _ => ?_)
    obtain ⟨fc0, fc1, fc2, fc3, fc4, fc5, fc6, fc7, fc8⟩ := hw.2.2.2.2.2.2.1 c hcc
    have hbj := byI_eq (o := bY a c) (j := j) (by omega) (fun b hb => Nat.lt_of_lt_of_le (fc8 b hb) hJ)
    refine w_iload_n dX11_judge_40 rfl ?_
    refine w_aload_n dX11_judge_41 rfl ?_
    refine w_iload dX11_judge_42 rfl ?_
    refine w_iconst (v := 5) dX11_judge_44 (by decide) ?_
    refine w_callV (as := [vI (nI c), vI (5)]) (st := [vI (nI (bitN (fun c => decide (bY a c = some j)) c))]) (Tri.mono (d_ofBy hm hC hcc) (Nat.le_of_ble_eq_true rfl)) rfl rfl tg_X11_ofCase lk_X11_145 in_X11_ofCase se_X11_ofCase rfl dX11_judge_45 rfl (Nat.le_of_ble_eq_true rfl) (Nat.le_refl _) (Nat.le_refl _) ?_
    rintro _ _ ⟨rfl, rfl⟩ -
    refine w_iload_n dX11_judge_48 rfl ?_
    refine w_icmp_ne (tgt := 56) dX11_judge_49 (by decide) (fun h1 => ?_) (fun h1 => ?_)
    · skip
      refine w_iconst (v := 0) dX11_judge_56 (by decide) ?_
      refine w_callS (as := [vI (0)]) (st := [vI (nI (bitN (fun c => decide (bY a c = some j)) c))]) (Tri.mono (d_flag0) (Nat.le_of_ble_eq_true rfl)) tg_X11_flag lk_X11_161 sa_X11_flag rfl dX11_judge_57 rfl (Nat.le_of_ble_eq_true rfl) (Nat.le_refl _) (Nat.le_refl _) ?_
      rintro _ _ ⟨rfl, rfl⟩ -
      refine w_iload dX11_judge_60 rfl ?_
      refine w_ishl dX11_judge_62 ?_
      refine w_ior dX11_judge_63 ?_
      refine w_istore_n (ls' := [some (vR 30 0 0), some (vI (nI j)), some (vI (what)), some (vI ((nI (bitN (fun c => decide (bY a c = some j)) c)) ||| ((0) <<< ((nI c) &&& 31)))), some (vI (nI c))]) dX11_judge_64 rfl ?_
      refine w_ls (congrArg (fun z9 : Int32 => [some (vR 30 0 0), some (vI (nI j)), some (vI (what)), some (vI z9), some (vI (nI c))]) (show ((nI (bitN (fun c => decide (bY a c = some j)) c)) ||| ((0) <<< ((nI c) &&& 31)) : Int32) = nI (bitN (fun c => decide (bY a c = some j)) (c + 1)) from bit_nz (p := (fun c => decide (bY a c = some j))) (by omega) (fun q => h1 (hbj.mpr (of_decide_eq_true q))))) ?_
      refine w_iinc (v := nI (c + 1)) (ls' := [some (vR 30 0 0), some (vI (nI j)), some (vI (what)), some (vI (nI (bitN (fun c => decide (bY a c = some j)) (c + 1)))), some (vI (nI (c + 1)))]) dX11_judge_65 rfl (nI_1 _) rfl ?_
      refine w_goto (tgt := 31) dX11_judge_68 (by decide) ?_
      exact ih (c + 1)  (by omega)
    · skip
      refine w_iconst (v := 1) dX11_judge_52 (by decide) ?_
      refine w_goto (tgt := 57) dX11_judge_53 (by decide) ?_
      refine w_callS (as := [vI (1)]) (st := [vI (nI (bitN (fun c => decide (bY a c = some j)) c))]) (Tri.mono (d_flag1) (Nat.le_of_ble_eq_true rfl)) tg_X11_flag lk_X11_161 sa_X11_flag rfl dX11_judge_57 rfl (Nat.le_of_ble_eq_true rfl) (Nat.le_refl _) (Nat.le_refl _) ?_
      rintro _ _ ⟨rfl, rfl⟩ -
      refine w_iload dX11_judge_60 rfl ?_
      refine w_ishl dX11_judge_62 ?_
      refine w_ior dX11_judge_63 ?_
      refine w_istore_n (ls' := [some (vR 30 0 0), some (vI (nI j)), some (vI (what)), some (vI ((nI (bitN (fun c => decide (bY a c = some j)) c)) ||| ((1) <<< ((nI c) &&& 31)))), some (vI (nI c))]) dX11_judge_64 rfl ?_
      refine w_ls (congrArg (fun z9 : Int32 => [some (vR 30 0 0), some (vI (nI j)), some (vI (what)), some (vI z9), some (vI (nI c))]) (show ((nI (bitN (fun c => decide (bY a c = some j)) c)) ||| ((1) <<< ((nI c) &&& 31)) : Int32) = nI (bitN (fun c => decide (bY a c = some j)) (c + 1)) from bit_or (by omega) (decide_eq_true (hbj.mp h1)))) ?_
      refine w_iinc (v := nI (c + 1)) (ls' := [some (vR 30 0 0), some (vI (nI j)), some (vI (what)), some (vI (nI (bitN (fun c => decide (bY a c = some j)) (c + 1)))), some (vI (nI (c + 1)))]) dX11_judge_65 rfl (nI_1 _) rfl ?_
      refine w_goto (tgt := 31) dX11_judge_68 (by decide) ?_
      exact ih (c + 1)  (by omega)

theorem p_judge_0 {I : xF4 Int32} {L : xF4 Int64} {a : aA} (hc : CourtIs I 0 a) (hw : WF a) {j : Nat} (hj : j < nJ a)  : Tri 19 109 m_X10_judge [vR 0 0 0, vI (nI j), vI (0)] (rM I L) (pCq (vI (nI (jF a j 0))) I) := by
  refine ⟨k_X10_judge, Nat.le_of_ble_eq_true rfl, ?_⟩
  show Wp _ _ _ 0 [some (vR 0 0 0), some (vI (nI j)), some (vI (0)), none] [] (rM I L) _
  obtain ⟨hJ, hC, hG, hD, hR, -⟩ := id hw
  refine w_aload_n dX10_judge_0 rfl ?_
  refine w_getR (w := some (1, 0, 0)) ff_X10_10 rfl rfl dX10_judge_1 rfl ?_
  refine w_iload_n dX10_judge_4 rfl ?_
  refine w_callV (as := [vI (nI j)]) (st := []) (Tri.mono (c_jAt hc hw hj) (Nat.le_of_ble_eq_true rfl)) rfl rfl tg_X1_judgeAt lk_X10_111 in_X1_judgeAt se_X1_judgeAt rfl dX10_judge_5 rfl (Nat.le_of_ble_eq_true rfl) (Nat.le_refl _) (Nat.le_refl _) ?_
  rintro _ _ ⟨rfl, rfl⟩ -
  refine w_astore_n (ls' := [some (vR 0 0 0), some (vI (nI j)), some (vI (0)), some (vR 3 0 j)]) dX10_judge_8 rfl ?_
  refine w_aload_n dX10_judge_9 rfl ?_
  refine w_ifnonnull (tgt := 15) dX10_judge_10 (by decide) (fun _ _ => ?_) (fun h => by cases h)
  refine w_iload_n dX10_judge_15 rfl ?_
  refine w_tabIn (off := 40) (tgt := 56) dX10_judge_16 (by decide) (by decide) rfl (by decide) ?_
  refine w_aload_n dX10_judge_56 rfl ?_
  refine w_getI ff_X10_115 rfl rfl dX10_judge_57 ?_
  rw [show (I 3 0 j 0 : Int32) = nI (jF a j 0) from hc.j hj (by decide)]
  exact w_ireturn dX10_judge_60 rfl (rfl) rfl (⟨rfl, _, _, rfl, FrQ.rf⟩)

theorem q_judge_0 {I : xF4 Int32} {L : xF4 Int64} {a : aA} (hs : SI I a) (hw : WF a) {j : Nat} (hj : j < nJ a)  : Tri 19 109 m_X11_judge [vR 30 0 0, vI (nI j), vI (0)] (rM I L) (pMq (vI (nI (jF a j 0))) I) := by
  refine ⟨k_X11_judge, Nat.le_of_ble_eq_true rfl, ?_⟩
  show Wp _ _ _ 0 [some (vR 30 0 0), some (vI (nI j)), some (vI (0)), none, none] [] (rM I L) _
  obtain ⟨hJ, hC, hG, hD, hR, -⟩ := id hw
  refine w_aload_n dX11_judge_0 rfl ?_
  refine w_iload_n dX11_judge_1 rfl ?_
  refine w_callV (as := [vI (nI j)]) (st := []) (Tri.mono (d_isJudge (hs.1) (by omega) (x := nI j) (X := ((j : Nat) : Int)) (z_nI (by omega))) (Nat.le_of_ble_eq_true rfl)) rfl rfl tg_X11_isJudge lk_X11_198 in_X11_isJudge se_X11_isJudge rfl dX11_judge_2 rfl (Nat.le_of_ble_eq_true rfl) (Nat.le_refl _) (Nat.le_refl _) ?_
  rintro _ _ ⟨rfl, rfl⟩ -
  refine w_ifeq_b (tgt := 20) dX11_judge_5 (by decide) (fun h1 => ?_) (fun h1 => ?_)
  · skip
    first
    | (exfalso; omega)
    | skip
      refine w_iconst (v := (-1)) dX11_judge_20 (by decide) ?_
      exact w_ireturn dX11_judge_21 rfl (rfl) rfl (⟨rfl, _, _, rfl, FrR.rf⟩)
  · skip
    first
    | (exfalso; omega)
    | skip
      refine w_iload_n dX11_judge_8 rfl ?_
      refine w_i2l dX11_judge_9 ?_
      refine w_lconst (v := 0) dX11_judge_10 (by decide) ?_
      refine w_ldc2 dX11_judge_11 cq_X11_202 ?_
      refine w_callS (as := [vL ((0 : Int32).toInt64), vL (0), vL (5)]) (st := []) (Tri.mono (d_in ((0 : Int32).toInt64) (0) (5)) (Nat.le_of_ble_eq_true rfl)) tg_X11_in lk_X11_66 sa_X11_in rfl dX11_judge_14 rfl (Nat.le_of_ble_eq_true rfl) (Nat.le_refl _) (Nat.le_refl _) ?_
      rintro _ _ ⟨rfl, rfl⟩ -
      refine w_top (y := 1) (show (bI ((0 : Int64) ≤ ((0 : Int32).toInt64) ∧ ((0 : Int32).toInt64) ≤ (5 : Int64)) : Int32) = 1 from bI_t (by decide)) ?_
      refine w_if_ne (tgt := 22) dX11_judge_17 (by decide) (fun _ => ?_) (fun h => absurd h (by decide))
      refine w_aload_n dX11_judge_22 rfl ?_
      refine w_callV (as := []) (st := []) (Tri.mono (d_starts hs hw) (Nat.le_of_ble_eq_true rfl)) rfl rfl tg_X11_starts lk_X11_192 in_X11_starts se_X11_starts rfl dX11_judge_23 rfl (Nat.le_of_ble_eq_true rfl) (Nat.le_refl _) (Nat.le_refl _) ?_
      rintro v M9 ⟨rfl, I1, rfl, hm1, hi1, hf1⟩ -
      have hs1 := hf1.r.si hs
      refine w_iconst (v := 0) dX11_judge_26 (by decide) ?_
      refine w_istore_n (ls' := [some (vR 30 0 0), some (vI (nI j)), some (vI (0)), some (vI (0)), none]) dX11_judge_27 rfl ?_
      refine w_iconst (v := 0) dX11_judge_28 (by decide) ?_
      refine w_istore (ls' := [some (vR 30 0 0), some (vI (nI j)), some (vI (0)), some (vI (0)), some (vI (0))]) dX11_judge_29 rfl ?_
      refine l_judgeM hm1 hw hj ?_ (nC a) 0 (Nat.zero_add _)
      rw [show bitN (fun c => decide (bY a c = some j)) (nC a) = byN a j from rfl]
      refine w_iload_n dX11_judge_71 rfl ?_
      refine w_iconst (v := 5) dX11_judge_72 (by decide) ?_
      refine w_icmp_ge (tgt := 85) dX11_judge_73 (by decide) (fun h => absurd h (by decide)) (fun _ => ?_)
      refine w_aload_n dX11_judge_76 rfl ?_
      refine w_iload_n dX11_judge_77 rfl ?_
      refine w_iload_n dX11_judge_78 rfl ?_
      refine w_callV (as := [vI (nI j), vI (0)]) (st := []) (Tri.mono (d_of hm1 hJ hj (f := 0) (by decide)) (Nat.le_of_ble_eq_true rfl)) rfl rfl tg_X11_of lk_X11_139 in_X11_of se_X11_of rfl dX11_judge_79 rfl (Nat.le_of_ble_eq_true rfl) (Nat.le_refl _) (Nat.le_refl _) ?_
      rintro _ _ ⟨rfl, rfl⟩ -
      refine w_goto (tgt := 86) dX11_judge_82 (by decide) ?_
      exact w_ireturn dX11_judge_86 rfl (rfl) rfl (⟨rfl, _, _, rfl, hf1.r⟩)

theorem p_judge_1 {I : xF4 Int32} {L : xF4 Int64} {a : aA} (hc : CourtIs I 0 a) (hw : WF a) {j : Nat} (hj : j < nJ a)  : Tri 19 109 m_X10_judge [vR 0 0 0, vI (nI j), vI (1)] (rM I L) (pCq (vI (nI (jF a j 1))) I) := by
  refine ⟨k_X10_judge, Nat.le_of_ble_eq_true rfl, ?_⟩
  show Wp _ _ _ 0 [some (vR 0 0 0), some (vI (nI j)), some (vI (1)), none] [] (rM I L) _
  obtain ⟨hJ, hC, hG, hD, hR, -⟩ := id hw
  refine w_aload_n dX10_judge_0 rfl ?_
  refine w_getR (w := some (1, 0, 0)) ff_X10_10 rfl rfl dX10_judge_1 rfl ?_
  refine w_iload_n dX10_judge_4 rfl ?_
  refine w_callV (as := [vI (nI j)]) (st := []) (Tri.mono (c_jAt hc hw hj) (Nat.le_of_ble_eq_true rfl)) rfl rfl tg_X1_judgeAt lk_X10_111 in_X1_judgeAt se_X1_judgeAt rfl dX10_judge_5 rfl (Nat.le_of_ble_eq_true rfl) (Nat.le_refl _) (Nat.le_refl _) ?_
  rintro _ _ ⟨rfl, rfl⟩ -
  refine w_astore_n (ls' := [some (vR 0 0 0), some (vI (nI j)), some (vI (1)), some (vR 3 0 j)]) dX10_judge_8 rfl ?_
  refine w_aload_n dX10_judge_9 rfl ?_
  refine w_ifnonnull (tgt := 15) dX10_judge_10 (by decide) (fun _ _ => ?_) (fun h => by cases h)
  refine w_iload_n dX10_judge_15 rfl ?_
  refine w_tabIn (off := 45) (tgt := 61) dX10_judge_16 (by decide) (by decide) rfl (by decide) ?_
  refine w_aload_n dX10_judge_61 rfl ?_
  refine w_getI ff_X10_120 rfl rfl dX10_judge_62 ?_
  rw [show (I 3 0 j 1 : Int32) = nI (jF a j 1) from hc.j hj (by decide)]
  exact w_ireturn dX10_judge_65 rfl (rfl) rfl (⟨rfl, _, _, rfl, FrQ.rf⟩)

theorem q_judge_1 {I : xF4 Int32} {L : xF4 Int64} {a : aA} (hs : SI I a) (hw : WF a) {j : Nat} (hj : j < nJ a)  : Tri 19 109 m_X11_judge [vR 30 0 0, vI (nI j), vI (1)] (rM I L) (pMq (vI (nI (jF a j 1))) I) := by
  refine ⟨k_X11_judge, Nat.le_of_ble_eq_true rfl, ?_⟩
  show Wp _ _ _ 0 [some (vR 30 0 0), some (vI (nI j)), some (vI (1)), none, none] [] (rM I L) _
  obtain ⟨hJ, hC, hG, hD, hR, -⟩ := id hw
  refine w_aload_n dX11_judge_0 rfl ?_
  refine w_iload_n dX11_judge_1 rfl ?_
  refine w_callV (as := [vI (nI j)]) (st := []) (Tri.mono (d_isJudge (hs.1) (by omega) (x := nI j) (X := ((j : Nat) : Int)) (z_nI (by omega))) (Nat.le_of_ble_eq_true rfl)) rfl rfl tg_X11_isJudge lk_X11_198 in_X11_isJudge se_X11_isJudge rfl dX11_judge_2 rfl (Nat.le_of_ble_eq_true rfl) (Nat.le_refl _) (Nat.le_refl _) ?_
  rintro _ _ ⟨rfl, rfl⟩ -
  refine w_ifeq_b (tgt := 20) dX11_judge_5 (by decide) (fun h1 => ?_) (fun h1 => ?_)
  · skip
    first
    | (exfalso; omega)
    | skip
      refine w_iconst (v := (-1)) dX11_judge_20 (by decide) ?_
      exact w_ireturn dX11_judge_21 rfl (rfl) rfl (⟨rfl, _, _, rfl, FrR.rf⟩)
  · skip
    first
    | (exfalso; omega)
    | skip
      refine w_iload_n dX11_judge_8 rfl ?_
      refine w_i2l dX11_judge_9 ?_
      refine w_lconst (v := 0) dX11_judge_10 (by decide) ?_
      refine w_ldc2 dX11_judge_11 cq_X11_202 ?_
      refine w_callS (as := [vL ((1 : Int32).toInt64), vL (0), vL (5)]) (st := []) (Tri.mono (d_in ((1 : Int32).toInt64) (0) (5)) (Nat.le_of_ble_eq_true rfl)) tg_X11_in lk_X11_66 sa_X11_in rfl dX11_judge_14 rfl (Nat.le_of_ble_eq_true rfl) (Nat.le_refl _) (Nat.le_refl _) ?_
      rintro _ _ ⟨rfl, rfl⟩ -
      refine w_top (y := 1) (show (bI ((0 : Int64) ≤ ((1 : Int32).toInt64) ∧ ((1 : Int32).toInt64) ≤ (5 : Int64)) : Int32) = 1 from bI_t (by decide)) ?_
      refine w_if_ne (tgt := 22) dX11_judge_17 (by decide) (fun _ => ?_) (fun h => absurd h (by decide))
      refine w_aload_n dX11_judge_22 rfl ?_
      refine w_callV (as := []) (st := []) (Tri.mono (d_starts hs hw) (Nat.le_of_ble_eq_true rfl)) rfl rfl tg_X11_starts lk_X11_192 in_X11_starts se_X11_starts rfl dX11_judge_23 rfl (Nat.le_of_ble_eq_true rfl) (Nat.le_refl _) (Nat.le_refl _) ?_
      rintro v M9 ⟨rfl, I1, rfl, hm1, hi1, hf1⟩ -
      have hs1 := hf1.r.si hs
      refine w_iconst (v := 0) dX11_judge_26 (by decide) ?_
      refine w_istore_n (ls' := [some (vR 30 0 0), some (vI (nI j)), some (vI (1)), some (vI (0)), none]) dX11_judge_27 rfl ?_
      refine w_iconst (v := 0) dX11_judge_28 (by decide) ?_
      refine w_istore (ls' := [some (vR 30 0 0), some (vI (nI j)), some (vI (1)), some (vI (0)), some (vI (0))]) dX11_judge_29 rfl ?_
      refine l_judgeM hm1 hw hj ?_ (nC a) 0 (Nat.zero_add _)
      rw [show bitN (fun c => decide (bY a c = some j)) (nC a) = byN a j from rfl]
      refine w_iload_n dX11_judge_71 rfl ?_
      refine w_iconst (v := 5) dX11_judge_72 (by decide) ?_
      refine w_icmp_ge (tgt := 85) dX11_judge_73 (by decide) (fun h => absurd h (by decide)) (fun _ => ?_)
      refine w_aload_n dX11_judge_76 rfl ?_
      refine w_iload_n dX11_judge_77 rfl ?_
      refine w_iload_n dX11_judge_78 rfl ?_
      refine w_callV (as := [vI (nI j), vI (1)]) (st := []) (Tri.mono (d_of hm1 hJ hj (f := 1) (by decide)) (Nat.le_of_ble_eq_true rfl)) rfl rfl tg_X11_of lk_X11_139 in_X11_of se_X11_of rfl dX11_judge_79 rfl (Nat.le_of_ble_eq_true rfl) (Nat.le_refl _) (Nat.le_refl _) ?_
      rintro _ _ ⟨rfl, rfl⟩ -
      refine w_goto (tgt := 86) dX11_judge_82 (by decide) ?_
      exact w_ireturn dX11_judge_86 rfl (rfl) rfl (⟨rfl, _, _, rfl, hf1.r⟩)

theorem p_judge_2 {I : xF4 Int32} {L : xF4 Int64} {a : aA} (hc : CourtIs I 0 a) (hw : WF a) {j : Nat} (hj : j < nJ a)  : Tri 19 109 m_X10_judge [vR 0 0 0, vI (nI j), vI (2)] (rM I L) (pCq (vI (nI (jF a j 2))) I) := by
  refine ⟨k_X10_judge, Nat.le_of_ble_eq_true rfl, ?_⟩
  show Wp _ _ _ 0 [some (vR 0 0 0), some (vI (nI j)), some (vI (2)), none] [] (rM I L) _
  obtain ⟨hJ, hC, hG, hD, hR, -⟩ := id hw
  refine w_aload_n dX10_judge_0 rfl ?_
  refine w_getR (w := some (1, 0, 0)) ff_X10_10 rfl rfl dX10_judge_1 rfl ?_
  refine w_iload_n dX10_judge_4 rfl ?_
  refine w_callV (as := [vI (nI j)]) (st := []) (Tri.mono (c_jAt hc hw hj) (Nat.le_of_ble_eq_true rfl)) rfl rfl tg_X1_judgeAt lk_X10_111 in_X1_judgeAt se_X1_judgeAt rfl dX10_judge_5 rfl (Nat.le_of_ble_eq_true rfl) (Nat.le_refl _) (Nat.le_refl _) ?_
  rintro _ _ ⟨rfl, rfl⟩ -
  refine w_astore_n (ls' := [some (vR 0 0 0), some (vI (nI j)), some (vI (2)), some (vR 3 0 j)]) dX10_judge_8 rfl ?_
  refine w_aload_n dX10_judge_9 rfl ?_
  refine w_ifnonnull (tgt := 15) dX10_judge_10 (by decide) (fun _ _ => ?_) (fun h => by cases h)
  refine w_iload_n dX10_judge_15 rfl ?_
  refine w_tabIn (off := 50) (tgt := 66) dX10_judge_16 (by decide) (by decide) rfl (by decide) ?_
  refine w_aload_n dX10_judge_66 rfl ?_
  refine w_getI ff_X10_123 rfl rfl dX10_judge_67 ?_
  rw [show (I 3 0 j 2 : Int32) = nI (jF a j 2) from hc.j hj (by decide)]
  exact w_ireturn dX10_judge_70 rfl (rfl) rfl (⟨rfl, _, _, rfl, FrQ.rf⟩)

theorem q_judge_2 {I : xF4 Int32} {L : xF4 Int64} {a : aA} (hs : SI I a) (hw : WF a) {j : Nat} (hj : j < nJ a)  : Tri 19 109 m_X11_judge [vR 30 0 0, vI (nI j), vI (2)] (rM I L) (pMq (vI (nI (jF a j 2))) I) := by
  refine ⟨k_X11_judge, Nat.le_of_ble_eq_true rfl, ?_⟩
  show Wp _ _ _ 0 [some (vR 30 0 0), some (vI (nI j)), some (vI (2)), none, none] [] (rM I L) _
  obtain ⟨hJ, hC, hG, hD, hR, -⟩ := id hw
  refine w_aload_n dX11_judge_0 rfl ?_
  refine w_iload_n dX11_judge_1 rfl ?_
  refine w_callV (as := [vI (nI j)]) (st := []) (Tri.mono (d_isJudge (hs.1) (by omega) (x := nI j) (X := ((j : Nat) : Int)) (z_nI (by omega))) (Nat.le_of_ble_eq_true rfl)) rfl rfl tg_X11_isJudge lk_X11_198 in_X11_isJudge se_X11_isJudge rfl dX11_judge_2 rfl (Nat.le_of_ble_eq_true rfl) (Nat.le_refl _) (Nat.le_refl _) ?_
  rintro _ _ ⟨rfl, rfl⟩ -
  refine w_ifeq_b (tgt := 20) dX11_judge_5 (by decide) (fun h1 => ?_) (fun h1 => ?_)
  · skip
    first
    | (exfalso; omega)
    | skip
      refine w_iconst (v := (-1)) dX11_judge_20 (by decide) ?_
      exact w_ireturn dX11_judge_21 rfl (rfl) rfl (⟨rfl, _, _, rfl, FrR.rf⟩)
  · skip
    first
    | (exfalso; omega)
    | skip
      refine w_iload_n dX11_judge_8 rfl ?_
      refine w_i2l dX11_judge_9 ?_
      refine w_lconst (v := 0) dX11_judge_10 (by decide) ?_
      refine w_ldc2 dX11_judge_11 cq_X11_202 ?_
      refine w_callS (as := [vL ((2 : Int32).toInt64), vL (0), vL (5)]) (st := []) (Tri.mono (d_in ((2 : Int32).toInt64) (0) (5)) (Nat.le_of_ble_eq_true rfl)) tg_X11_in lk_X11_66 sa_X11_in rfl dX11_judge_14 rfl (Nat.le_of_ble_eq_true rfl) (Nat.le_refl _) (Nat.le_refl _) ?_
      rintro _ _ ⟨rfl, rfl⟩ -
      refine w_top (y := 1) (show (bI ((0 : Int64) ≤ ((2 : Int32).toInt64) ∧ ((2 : Int32).toInt64) ≤ (5 : Int64)) : Int32) = 1 from bI_t (by decide)) ?_
      refine w_if_ne (tgt := 22) dX11_judge_17 (by decide) (fun _ => ?_) (fun h => absurd h (by decide))
      refine w_aload_n dX11_judge_22 rfl ?_
      refine w_callV (as := []) (st := []) (Tri.mono (d_starts hs hw) (Nat.le_of_ble_eq_true rfl)) rfl rfl tg_X11_starts lk_X11_192 in_X11_starts se_X11_starts rfl dX11_judge_23 rfl (Nat.le_of_ble_eq_true rfl) (Nat.le_refl _) (Nat.le_refl _) ?_
      rintro v M9 ⟨rfl, I1, rfl, hm1, hi1, hf1⟩ -
      have hs1 := hf1.r.si hs
      refine w_iconst (v := 0) dX11_judge_26 (by decide) ?_
      refine w_istore_n (ls' := [some (vR 30 0 0), some (vI (nI j)), some (vI (2)), some (vI (0)), none]) dX11_judge_27 rfl ?_
      refine w_iconst (v := 0) dX11_judge_28 (by decide) ?_
      refine w_istore (ls' := [some (vR 30 0 0), some (vI (nI j)), some (vI (2)), some (vI (0)), some (vI (0))]) dX11_judge_29 rfl ?_
      refine l_judgeM hm1 hw hj ?_ (nC a) 0 (Nat.zero_add _)
      rw [show bitN (fun c => decide (bY a c = some j)) (nC a) = byN a j from rfl]
      refine w_iload_n dX11_judge_71 rfl ?_
      refine w_iconst (v := 5) dX11_judge_72 (by decide) ?_
      refine w_icmp_ge (tgt := 85) dX11_judge_73 (by decide) (fun h => absurd h (by decide)) (fun _ => ?_)
      refine w_aload_n dX11_judge_76 rfl ?_
      refine w_iload_n dX11_judge_77 rfl ?_
      refine w_iload_n dX11_judge_78 rfl ?_
      refine w_callV (as := [vI (nI j), vI (2)]) (st := []) (Tri.mono (d_of hm1 hJ hj (f := 2) (by decide)) (Nat.le_of_ble_eq_true rfl)) rfl rfl tg_X11_of lk_X11_139 in_X11_of se_X11_of rfl dX11_judge_79 rfl (Nat.le_of_ble_eq_true rfl) (Nat.le_refl _) (Nat.le_refl _) ?_
      rintro _ _ ⟨rfl, rfl⟩ -
      refine w_goto (tgt := 86) dX11_judge_82 (by decide) ?_
      exact w_ireturn dX11_judge_86 rfl (rfl) rfl (⟨rfl, _, _, rfl, hf1.r⟩)

theorem p_judge_3 {I : xF4 Int32} {L : xF4 Int64} {a : aA} (hc : CourtIs I 0 a) (hw : WF a) {j : Nat} (hj : j < nJ a)  : Tri 19 109 m_X10_judge [vR 0 0 0, vI (nI j), vI (3)] (rM I L) (pCq (vI (nI (jF a j 3))) I) := by
  refine ⟨k_X10_judge, Nat.le_of_ble_eq_true rfl, ?_⟩
  show Wp _ _ _ 0 [some (vR 0 0 0), some (vI (nI j)), some (vI (3)), none] [] (rM I L) _
  obtain ⟨hJ, hC, hG, hD, hR, -⟩ := id hw
  refine w_aload_n dX10_judge_0 rfl ?_
  refine w_getR (w := some (1, 0, 0)) ff_X10_10 rfl rfl dX10_judge_1 rfl ?_
  refine w_iload_n dX10_judge_4 rfl ?_
  refine w_callV (as := [vI (nI j)]) (st := []) (Tri.mono (c_jAt hc hw hj) (Nat.le_of_ble_eq_true rfl)) rfl rfl tg_X1_judgeAt lk_X10_111 in_X1_judgeAt se_X1_judgeAt rfl dX10_judge_5 rfl (Nat.le_of_ble_eq_true rfl) (Nat.le_refl _) (Nat.le_refl _) ?_
  rintro _ _ ⟨rfl, rfl⟩ -
  refine w_astore_n (ls' := [some (vR 0 0 0), some (vI (nI j)), some (vI (3)), some (vR 3 0 j)]) dX10_judge_8 rfl ?_
  refine w_aload_n dX10_judge_9 rfl ?_
  refine w_ifnonnull (tgt := 15) dX10_judge_10 (by decide) (fun _ _ => ?_) (fun h => by cases h)
  refine w_iload_n dX10_judge_15 rfl ?_
  refine w_tabIn (off := 55) (tgt := 71) dX10_judge_16 (by decide) (by decide) rfl (by decide) ?_
  refine w_aload_n dX10_judge_71 rfl ?_
  refine w_getI ff_X10_126 rfl rfl dX10_judge_72 ?_
  rw [show (I 3 0 j 3 : Int32) = nI (jF a j 3) from hc.j hj (by decide)]
  exact w_ireturn dX10_judge_75 rfl (rfl) rfl (⟨rfl, _, _, rfl, FrQ.rf⟩)

theorem q_judge_3 {I : xF4 Int32} {L : xF4 Int64} {a : aA} (hs : SI I a) (hw : WF a) {j : Nat} (hj : j < nJ a)  : Tri 19 109 m_X11_judge [vR 30 0 0, vI (nI j), vI (3)] (rM I L) (pMq (vI (nI (jF a j 3))) I) := by
  refine ⟨k_X11_judge, Nat.le_of_ble_eq_true rfl, ?_⟩
  show Wp _ _ _ 0 [some (vR 30 0 0), some (vI (nI j)), some (vI (3)), none, none] [] (rM I L) _
  obtain ⟨hJ, hC, hG, hD, hR, -⟩ := id hw
  refine w_aload_n dX11_judge_0 rfl ?_
  refine w_iload_n dX11_judge_1 rfl ?_
  refine w_callV (as := [vI (nI j)]) (st := []) (Tri.mono (d_isJudge (hs.1) (by omega) (x := nI j) (X := ((j : Nat) : Int)) (z_nI (by omega))) (Nat.le_of_ble_eq_true rfl)) rfl rfl tg_X11_isJudge lk_X11_198 in_X11_isJudge se_X11_isJudge rfl dX11_judge_2 rfl (Nat.le_of_ble_eq_true rfl) (Nat.le_refl _) (Nat.le_refl _) ?_
  rintro _ _ ⟨rfl, rfl⟩ -
  refine w_ifeq_b (tgt := 20) dX11_judge_5 (by decide) (fun h1 => ?_) (fun h1 => ?_)
  · skip
    first
    | (exfalso; omega)
    | skip
      refine w_iconst (v := (-1)) dX11_judge_20 (by decide) ?_
      exact w_ireturn dX11_judge_21 rfl (rfl) rfl (⟨rfl, _, _, rfl, FrR.rf⟩)
  · skip
    first
    | (exfalso; omega)
    | skip
      refine w_iload_n dX11_judge_8 rfl ?_
      refine w_i2l dX11_judge_9 ?_
      refine w_lconst (v := 0) dX11_judge_10 (by decide) ?_
      refine w_ldc2 dX11_judge_11 cq_X11_202 ?_
      refine w_callS (as := [vL ((3 : Int32).toInt64), vL (0), vL (5)]) (st := []) (Tri.mono (d_in ((3 : Int32).toInt64) (0) (5)) (Nat.le_of_ble_eq_true rfl)) tg_X11_in lk_X11_66 sa_X11_in rfl dX11_judge_14 rfl (Nat.le_of_ble_eq_true rfl) (Nat.le_refl _) (Nat.le_refl _) ?_
      rintro _ _ ⟨rfl, rfl⟩ -
      refine w_top (y := 1) (show (bI ((0 : Int64) ≤ ((3 : Int32).toInt64) ∧ ((3 : Int32).toInt64) ≤ (5 : Int64)) : Int32) = 1 from bI_t (by decide)) ?_
      refine w_if_ne (tgt := 22) dX11_judge_17 (by decide) (fun _ => ?_) (fun h => absurd h (by decide))
      refine w_aload_n dX11_judge_22 rfl ?_
      refine w_callV (as := []) (st := []) (Tri.mono (d_starts hs hw) (Nat.le_of_ble_eq_true rfl)) rfl rfl tg_X11_starts lk_X11_192 in_X11_starts se_X11_starts rfl dX11_judge_23 rfl (Nat.le_of_ble_eq_true rfl) (Nat.le_refl _) (Nat.le_refl _) ?_
      rintro v M9 ⟨rfl, I1, rfl, hm1, hi1, hf1⟩ -
      have hs1 := hf1.r.si hs
      refine w_iconst (v := 0) dX11_judge_26 (by decide) ?_
      refine w_istore_n (ls' := [some (vR 30 0 0), some (vI (nI j)), some (vI (3)), some (vI (0)), none]) dX11_judge_27 rfl ?_
      refine w_iconst (v := 0) dX11_judge_28 (by decide) ?_
      refine w_istore (ls' := [some (vR 30 0 0), some (vI (nI j)), some (vI (3)), some (vI (0)), some (vI (0))]) dX11_judge_29 rfl ?_
      refine l_judgeM hm1 hw hj ?_ (nC a) 0 (Nat.zero_add _)
      rw [show bitN (fun c => decide (bY a c = some j)) (nC a) = byN a j from rfl]
      refine w_iload_n dX11_judge_71 rfl ?_
      refine w_iconst (v := 5) dX11_judge_72 (by decide) ?_
      refine w_icmp_ge (tgt := 85) dX11_judge_73 (by decide) (fun h => absurd h (by decide)) (fun _ => ?_)
      refine w_aload_n dX11_judge_76 rfl ?_
      refine w_iload_n dX11_judge_77 rfl ?_
      refine w_iload_n dX11_judge_78 rfl ?_
      refine w_callV (as := [vI (nI j), vI (3)]) (st := []) (Tri.mono (d_of hm1 hJ hj (f := 3) (by decide)) (Nat.le_of_ble_eq_true rfl)) rfl rfl tg_X11_of lk_X11_139 in_X11_of se_X11_of rfl dX11_judge_79 rfl (Nat.le_of_ble_eq_true rfl) (Nat.le_refl _) (Nat.le_refl _) ?_
      rintro _ _ ⟨rfl, rfl⟩ -
      refine w_goto (tgt := 86) dX11_judge_82 (by decide) ?_
      exact w_ireturn dX11_judge_86 rfl (rfl) rfl (⟨rfl, _, _, rfl, hf1.r⟩)

theorem p_judge_4 {I : xF4 Int32} {L : xF4 Int64} {a : aA} (hc : CourtIs I 0 a) (hw : WF a) {j : Nat} (hj : j < nJ a)  : Tri 19 109 m_X10_judge [vR 0 0 0, vI (nI j), vI (4)] (rM I L) (pCq (vI (sC a j)) I) := by
  refine ⟨k_X10_judge, Nat.le_of_ble_eq_true rfl, ?_⟩
  show Wp _ _ _ 0 [some (vR 0 0 0), some (vI (nI j)), some (vI (4)), none] [] (rM I L) _
  obtain ⟨hJ, hC, hG, hD, hR, -⟩ := id hw
  refine w_aload_n dX10_judge_0 rfl ?_
  refine w_getR (w := some (1, 0, 0)) ff_X10_10 rfl rfl dX10_judge_1 rfl ?_
  refine w_iload_n dX10_judge_4 rfl ?_
  refine w_callV (as := [vI (nI j)]) (st := []) (Tri.mono (c_jAt hc hw hj) (Nat.le_of_ble_eq_true rfl)) rfl rfl tg_X1_judgeAt lk_X10_111 in_X1_judgeAt se_X1_judgeAt rfl dX10_judge_5 rfl (Nat.le_of_ble_eq_true rfl) (Nat.le_refl _) (Nat.le_refl _) ?_
  rintro _ _ ⟨rfl, rfl⟩ -
  refine w_astore_n (ls' := [some (vR 0 0 0), some (vI (nI j)), some (vI (4)), some (vR 3 0 j)]) dX10_judge_8 rfl ?_
  refine w_aload_n dX10_judge_9 rfl ?_
  refine w_ifnonnull (tgt := 15) dX10_judge_10 (by decide) (fun _ _ => ?_) (fun h => by cases h)
  refine w_iload_n dX10_judge_15 rfl ?_
  refine w_tabIn (off := 60) (tgt := 76) dX10_judge_16 (by decide) (by decide) rfl (by decide) ?_
  refine w_aload_n dX10_judge_76 rfl ?_
  refine w_getI ff_X10_129 rfl rfl dX10_judge_77 ?_
  rw [show (I 3 0 j 4 : Int32) = sC a j from hc.sc hj]
  exact w_ireturn dX10_judge_80 rfl (rfl) rfl (⟨rfl, _, _, rfl, FrQ.rf⟩)

theorem q_judge_4 {I : xF4 Int32} {L : xF4 Int64} {a : aA} (hs : SI I a) (hw : WF a) {j : Nat} (hj : j < nJ a)  : Tri 19 109 m_X11_judge [vR 30 0 0, vI (nI j), vI (4)] (rM I L) (pMq (vI (sC a j)) I) := by
  refine ⟨k_X11_judge, Nat.le_of_ble_eq_true rfl, ?_⟩
  show Wp _ _ _ 0 [some (vR 30 0 0), some (vI (nI j)), some (vI (4)), none, none] [] (rM I L) _
  obtain ⟨hJ, hC, hG, hD, hR, -⟩ := id hw
  refine w_aload_n dX11_judge_0 rfl ?_
  refine w_iload_n dX11_judge_1 rfl ?_
  refine w_callV (as := [vI (nI j)]) (st := []) (Tri.mono (d_isJudge (hs.1) (by omega) (x := nI j) (X := ((j : Nat) : Int)) (z_nI (by omega))) (Nat.le_of_ble_eq_true rfl)) rfl rfl tg_X11_isJudge lk_X11_198 in_X11_isJudge se_X11_isJudge rfl dX11_judge_2 rfl (Nat.le_of_ble_eq_true rfl) (Nat.le_refl _) (Nat.le_refl _) ?_
  rintro _ _ ⟨rfl, rfl⟩ -
  refine w_ifeq_b (tgt := 20) dX11_judge_5 (by decide) (fun h1 => ?_) (fun h1 => ?_)
  · skip
    first
    | (exfalso; omega)
    | skip
      refine w_iconst (v := (-1)) dX11_judge_20 (by decide) ?_
      exact w_ireturn dX11_judge_21 rfl (rfl) rfl (⟨rfl, _, _, rfl, FrR.rf⟩)
  · skip
    first
    | (exfalso; omega)
    | skip
      refine w_iload_n dX11_judge_8 rfl ?_
      refine w_i2l dX11_judge_9 ?_
      refine w_lconst (v := 0) dX11_judge_10 (by decide) ?_
      refine w_ldc2 dX11_judge_11 cq_X11_202 ?_
      refine w_callS (as := [vL ((4 : Int32).toInt64), vL (0), vL (5)]) (st := []) (Tri.mono (d_in ((4 : Int32).toInt64) (0) (5)) (Nat.le_of_ble_eq_true rfl)) tg_X11_in lk_X11_66 sa_X11_in rfl dX11_judge_14 rfl (Nat.le_of_ble_eq_true rfl) (Nat.le_refl _) (Nat.le_refl _) ?_
      rintro _ _ ⟨rfl, rfl⟩ -
      refine w_top (y := 1) (show (bI ((0 : Int64) ≤ ((4 : Int32).toInt64) ∧ ((4 : Int32).toInt64) ≤ (5 : Int64)) : Int32) = 1 from bI_t (by decide)) ?_
      refine w_if_ne (tgt := 22) dX11_judge_17 (by decide) (fun _ => ?_) (fun h => absurd h (by decide))
      refine w_aload_n dX11_judge_22 rfl ?_
      refine w_callV (as := []) (st := []) (Tri.mono (d_starts hs hw) (Nat.le_of_ble_eq_true rfl)) rfl rfl tg_X11_starts lk_X11_192 in_X11_starts se_X11_starts rfl dX11_judge_23 rfl (Nat.le_of_ble_eq_true rfl) (Nat.le_refl _) (Nat.le_refl _) ?_
      rintro v M9 ⟨rfl, I1, rfl, hm1, hi1, hf1⟩ -
      have hs1 := hf1.r.si hs
      refine w_iconst (v := 0) dX11_judge_26 (by decide) ?_
      refine w_istore_n (ls' := [some (vR 30 0 0), some (vI (nI j)), some (vI (4)), some (vI (0)), none]) dX11_judge_27 rfl ?_
      refine w_iconst (v := 0) dX11_judge_28 (by decide) ?_
      refine w_istore (ls' := [some (vR 30 0 0), some (vI (nI j)), some (vI (4)), some (vI (0)), some (vI (0))]) dX11_judge_29 rfl ?_
      refine l_judgeM hm1 hw hj ?_ (nC a) 0 (Nat.zero_add _)
      rw [show bitN (fun c => decide (bY a c = some j)) (nC a) = byN a j from rfl]
      refine w_iload_n dX11_judge_71 rfl ?_
      refine w_iconst (v := 5) dX11_judge_72 (by decide) ?_
      refine w_icmp_ge (tgt := 85) dX11_judge_73 (by decide) (fun h => absurd h (by decide)) (fun _ => ?_)
      refine w_aload_n dX11_judge_76 rfl ?_
      refine w_iload_n dX11_judge_77 rfl ?_
      refine w_iload_n dX11_judge_78 rfl ?_
      refine w_callV (as := [vI (nI j), vI (4)]) (st := []) (Tri.mono (d_ofS hm1 hJ hj) (Nat.le_of_ble_eq_true rfl)) rfl rfl tg_X11_of lk_X11_139 in_X11_of se_X11_of rfl dX11_judge_79 rfl (Nat.le_of_ble_eq_true rfl) (Nat.le_refl _) (Nat.le_refl _) ?_
      rintro _ _ ⟨rfl, rfl⟩ -
      refine w_goto (tgt := 86) dX11_judge_82 (by decide) ?_
      exact w_ireturn dX11_judge_86 rfl (rfl) rfl (⟨rfl, _, _, rfl, hf1.r⟩)

theorem p_judge_5 {I : xF4 Int32} {L : xF4 Int64} {a : aA} (hc : CourtIs I 0 a) (hw : WF a) {j : Nat} (hj : j < nJ a)  : Tri 19 109 m_X10_judge [vR 0 0 0, vI (nI j), vI (5)] (rM I L) (pCq (vI (nI (byN a j))) I) := by
  refine ⟨k_X10_judge, Nat.le_of_ble_eq_true rfl, ?_⟩
  show Wp _ _ _ 0 [some (vR 0 0 0), some (vI (nI j)), some (vI (5)), none] [] (rM I L) _
  obtain ⟨hJ, hC, hG, hD, hR, -⟩ := id hw
  refine w_aload_n dX10_judge_0 rfl ?_
  refine w_getR (w := some (1, 0, 0)) ff_X10_10 rfl rfl dX10_judge_1 rfl ?_
  refine w_iload_n dX10_judge_4 rfl ?_
  refine w_callV (as := [vI (nI j)]) (st := []) (Tri.mono (c_jAt hc hw hj) (Nat.le_of_ble_eq_true rfl)) rfl rfl tg_X1_judgeAt lk_X10_111 in_X1_judgeAt se_X1_judgeAt rfl dX10_judge_5 rfl (Nat.le_of_ble_eq_true rfl) (Nat.le_refl _) (Nat.le_refl _) ?_
  rintro _ _ ⟨rfl, rfl⟩ -
  refine w_astore_n (ls' := [some (vR 0 0 0), some (vI (nI j)), some (vI (5)), some (vR 3 0 j)]) dX10_judge_8 rfl ?_
  refine w_aload_n dX10_judge_9 rfl ?_
  refine w_ifnonnull (tgt := 15) dX10_judge_10 (by decide) (fun _ _ => ?_) (fun h => by cases h)
  refine w_iload_n dX10_judge_15 rfl ?_
  refine w_tabIn (off := 65) (tgt := 81) dX10_judge_16 (by decide) (by decide) rfl (by decide) ?_
  refine w_aload_n dX10_judge_81 rfl ?_
  refine w_getR (w := some (1, 0, 0)) ff_X10_10 rfl rfl dX10_judge_82 rfl ?_
  refine w_iload_n dX10_judge_85 rfl ?_
  refine w_callV (as := [vI (nI j)]) (st := []) (Tri.mono (c_bitsBy hc hw hj) (Nat.le_of_ble_eq_true rfl)) rfl rfl tg_X1_bitsBy lk_X10_132 in_X1_bitsBy se_X1_bitsBy rfl dX10_judge_86 rfl (Nat.le_of_ble_eq_true rfl) (Nat.le_refl _) (Nat.le_refl _) ?_
  rintro _ _ ⟨rfl, rfl⟩ -
  exact w_ireturn dX10_judge_89 rfl (rfl) rfl (⟨rfl, _, _, rfl, FrQ.rf⟩)

theorem q_judge_5 {I : xF4 Int32} {L : xF4 Int64} {a : aA} (hs : SI I a) (hw : WF a) {j : Nat} (hj : j < nJ a)  : Tri 19 109 m_X11_judge [vR 30 0 0, vI (nI j), vI (5)] (rM I L) (pMq (vI (nI (byN a j))) I) := by
  refine ⟨k_X11_judge, Nat.le_of_ble_eq_true rfl, ?_⟩
  show Wp _ _ _ 0 [some (vR 30 0 0), some (vI (nI j)), some (vI (5)), none, none] [] (rM I L) _
  obtain ⟨hJ, hC, hG, hD, hR, -⟩ := id hw
  refine w_aload_n dX11_judge_0 rfl ?_
  refine w_iload_n dX11_judge_1 rfl ?_
  refine w_callV (as := [vI (nI j)]) (st := []) (Tri.mono (d_isJudge (hs.1) (by omega) (x := nI j) (X := ((j : Nat) : Int)) (z_nI (by omega))) (Nat.le_of_ble_eq_true rfl)) rfl rfl tg_X11_isJudge lk_X11_198 in_X11_isJudge se_X11_isJudge rfl dX11_judge_2 rfl (Nat.le_of_ble_eq_true rfl) (Nat.le_refl _) (Nat.le_refl _) ?_
  rintro _ _ ⟨rfl, rfl⟩ -
  refine w_ifeq_b (tgt := 20) dX11_judge_5 (by decide) (fun h1 => ?_) (fun h1 => ?_)
  · skip
    first
    | (exfalso; omega)
    | skip
      refine w_iconst (v := (-1)) dX11_judge_20 (by decide) ?_
      exact w_ireturn dX11_judge_21 rfl (rfl) rfl (⟨rfl, _, _, rfl, FrR.rf⟩)
  · skip
    first
    | (exfalso; omega)
    | skip
      refine w_iload_n dX11_judge_8 rfl ?_
      refine w_i2l dX11_judge_9 ?_
      refine w_lconst (v := 0) dX11_judge_10 (by decide) ?_
      refine w_ldc2 dX11_judge_11 cq_X11_202 ?_
      refine w_callS (as := [vL ((5 : Int32).toInt64), vL (0), vL (5)]) (st := []) (Tri.mono (d_in ((5 : Int32).toInt64) (0) (5)) (Nat.le_of_ble_eq_true rfl)) tg_X11_in lk_X11_66 sa_X11_in rfl dX11_judge_14 rfl (Nat.le_of_ble_eq_true rfl) (Nat.le_refl _) (Nat.le_refl _) ?_
      rintro _ _ ⟨rfl, rfl⟩ -
      refine w_top (y := 1) (show (bI ((0 : Int64) ≤ ((5 : Int32).toInt64) ∧ ((5 : Int32).toInt64) ≤ (5 : Int64)) : Int32) = 1 from bI_t (by decide)) ?_
      refine w_if_ne (tgt := 22) dX11_judge_17 (by decide) (fun _ => ?_) (fun h => absurd h (by decide))
      refine w_aload_n dX11_judge_22 rfl ?_
      refine w_callV (as := []) (st := []) (Tri.mono (d_starts hs hw) (Nat.le_of_ble_eq_true rfl)) rfl rfl tg_X11_starts lk_X11_192 in_X11_starts se_X11_starts rfl dX11_judge_23 rfl (Nat.le_of_ble_eq_true rfl) (Nat.le_refl _) (Nat.le_refl _) ?_
      rintro v M9 ⟨rfl, I1, rfl, hm1, hi1, hf1⟩ -
      have hs1 := hf1.r.si hs
      refine w_iconst (v := 0) dX11_judge_26 (by decide) ?_
      refine w_istore_n (ls' := [some (vR 30 0 0), some (vI (nI j)), some (vI (5)), some (vI (0)), none]) dX11_judge_27 rfl ?_
      refine w_iconst (v := 0) dX11_judge_28 (by decide) ?_
      refine w_istore (ls' := [some (vR 30 0 0), some (vI (nI j)), some (vI (5)), some (vI (0)), some (vI (0))]) dX11_judge_29 rfl ?_
      refine l_judgeM hm1 hw hj ?_ (nC a) 0 (Nat.zero_add _)
      rw [show bitN (fun c => decide (bY a c = some j)) (nC a) = byN a j from rfl]
      refine w_iload_n dX11_judge_71 rfl ?_
      refine w_iconst (v := 5) dX11_judge_72 (by decide) ?_
      refine w_icmp_ge (tgt := 85) dX11_judge_73 (by decide) (fun _ => ?_) (fun h => absurd (by decide) h)
      refine w_iload_n dX11_judge_85 rfl ?_
      exact w_ireturn dX11_judge_86 rfl (rfl) rfl (⟨rfl, _, _, rfl, hf1.r⟩)

theorem p_judge_w {I : xF4 Int32} {L : xF4 Int64} {a : aA} (hc : CourtIs I 0 a) (hw : WF a) {j : Nat} (hj : j < nJ a) {what : Int32} (hx : what.toInt < 0 ∨ ((6 : Nat) : Int) ≤ what.toInt) : Tri 19 109 m_X10_judge [vR 0 0 0, vI (nI j), vI (what)] (rM I L) (pCq (vI (-1)) I) := by
  refine ⟨k_X10_judge, Nat.le_of_ble_eq_true rfl, ?_⟩
  show Wp _ _ _ 0 [some (vR 0 0 0), some (vI (nI j)), some (vI (what)), none] [] (rM I L) _
  obtain ⟨hJ, hC, hG, hD, hR, -⟩ := id hw
  refine w_aload_n dX10_judge_0 rfl ?_
  refine w_getR (w := some (1, 0, 0)) ff_X10_10 rfl rfl dX10_judge_1 rfl ?_
  refine w_iload_n dX10_judge_4 rfl ?_
  refine w_callV (as := [vI (nI j)]) (st := []) (Tri.mono (c_jAt hc hw hj) (Nat.le_of_ble_eq_true rfl)) rfl rfl tg_X1_judgeAt lk_X10_111 in_X1_judgeAt se_X1_judgeAt rfl dX10_judge_5 rfl (Nat.le_of_ble_eq_true rfl) (Nat.le_refl _) (Nat.le_refl _) ?_
  rintro _ _ ⟨rfl, rfl⟩ -
  refine w_astore_n (ls' := [some (vR 0 0 0), some (vI (nI j)), some (vI (what)), some (vR 3 0 j)]) dX10_judge_8 rfl ?_
  refine w_aload_n dX10_judge_9 rfl ?_
  refine w_ifnonnull (tgt := 15) dX10_judge_10 (by decide) (fun _ _ => ?_) (fun h => by cases h)
  refine w_iload_n dX10_judge_15 rfl ?_
  refine w_tabOut (tgt := 90) dX10_judge_16 (by rw [show (what : Int32).toInt = what.toInt from rfl]; omega) (by decide) ?_
  refine w_iconst (v := (-1)) dX10_judge_90 (by decide) ?_
  exact w_ireturn dX10_judge_91 rfl (rfl) rfl (⟨rfl, _, _, rfl, FrQ.rf⟩)

theorem q_judge_w {I : xF4 Int32} {L : xF4 Int64} {a : aA} (hs : SI I a) (hw : WF a) {j : Nat} (hj : j < nJ a) {what : Int32} (hx : what.toInt < 0 ∨ ((6 : Nat) : Int) ≤ what.toInt) : Tri 19 109 m_X11_judge [vR 30 0 0, vI (nI j), vI (what)] (rM I L) (pMq (vI (-1)) I) := by
  refine ⟨k_X11_judge, Nat.le_of_ble_eq_true rfl, ?_⟩
  show Wp _ _ _ 0 [some (vR 30 0 0), some (vI (nI j)), some (vI (what)), none, none] [] (rM I L) _
  obtain ⟨hJ, hC, hG, hD, hR, -⟩ := id hw
  refine w_aload_n dX11_judge_0 rfl ?_
  refine w_iload_n dX11_judge_1 rfl ?_
  refine w_callV (as := [vI (nI j)]) (st := []) (Tri.mono (d_isJudge (hs.1) (by omega) (x := nI j) (X := ((j : Nat) : Int)) (z_nI (by omega))) (Nat.le_of_ble_eq_true rfl)) rfl rfl tg_X11_isJudge lk_X11_198 in_X11_isJudge se_X11_isJudge rfl dX11_judge_2 rfl (Nat.le_of_ble_eq_true rfl) (Nat.le_refl _) (Nat.le_refl _) ?_
  rintro _ _ ⟨rfl, rfl⟩ -
  refine w_ifeq_b (tgt := 20) dX11_judge_5 (by decide) (fun h1 => ?_) (fun h1 => ?_)
  · skip
    first
    | (exfalso; omega)
    | skip
      refine w_iconst (v := (-1)) dX11_judge_20 (by decide) ?_
      exact w_ireturn dX11_judge_21 rfl (rfl) rfl (⟨rfl, _, _, rfl, FrR.rf⟩)
  · skip
    first
    | (exfalso; omega)
    | skip
      refine w_iload_n dX11_judge_8 rfl ?_
      refine w_i2l dX11_judge_9 ?_
      refine w_lconst (v := 0) dX11_judge_10 (by decide) ?_
      refine w_ldc2 dX11_judge_11 cq_X11_202 ?_
      refine w_callS (as := [vL ((what : Int32).toInt64), vL (0), vL (5)]) (st := []) (Tri.mono (d_in ((what : Int32).toInt64) (0) (5)) (Nat.le_of_ble_eq_true rfl)) tg_X11_in lk_X11_66 sa_X11_in rfl dX11_judge_14 rfl (Nat.le_of_ble_eq_true rfl) (Nat.le_refl _) (Nat.le_refl _) ?_
      rintro _ _ ⟨rfl, rfl⟩ -
      refine w_top (y := bI (0 ≤ what.toInt ∧ what.toInt ≤ 5)) (show (bI ((0 : Int64) ≤ ((what : Int32).toInt64) ∧ ((what : Int32).toInt64) ≤ (5 : Int64)) : Int32) = bI (0 ≤ what.toInt ∧ what.toInt ≤ 5) from inZ (x := what) (l := 0) (h := 5) (X := what.toInt) (A := 0) (B := 5) rfl (by decide) (by decide) rfl (by decide) (by decide)) ?_
      refine w_ifne_b (tgt := 22) dX11_judge_17 (by decide) (fun h2 => ?_) (fun h2 => ?_)
      · skip
        first
        | (exfalso; omega)
        | skip
          refine w_aload_n dX11_judge_22 rfl ?_
          refine w_callV (as := []) (st := []) (Tri.mono (d_starts hs hw) (Nat.le_of_ble_eq_true rfl)) rfl rfl tg_X11_starts lk_X11_192 in_X11_starts se_X11_starts rfl dX11_judge_23 rfl (Nat.le_of_ble_eq_true rfl) (Nat.le_refl _) (Nat.le_refl _) ?_
          rintro v M9 ⟨rfl, I1, rfl, hm1, hi1, hf1⟩ -
          have hs1 := hf1.r.si hs
          refine w_iconst (v := 0) dX11_judge_26 (by decide) ?_
          refine w_istore_n (ls' := [some (vR 30 0 0), some (vI (nI j)), some (vI (what)), some (vI (0)), none]) dX11_judge_27 rfl ?_
          refine w_iconst (v := 0) dX11_judge_28 (by decide) ?_
          refine w_istore (ls' := [some (vR 30 0 0), some (vI (nI j)), some (vI (what)), some (vI (0)), some (vI (0))]) dX11_judge_29 rfl ?_
          refine w_iload dX11_judge_31 rfl ?_
          refine w_aload_n dX11_judge_33 rfl ?_
          refine w_getI ff_X11_61 rfl rfl dX11_judge_34 ?_
          rw [show (I1 30 0 0 4 : Int32) = nI (nC a) from hs1.2.1]
          refine w_icmp_ge (tgt := 71) dX11_judge_37 (by decide) (fun h3 => ?_) (fun h3 => ?_)
          · skip
            replace h3 : ((nC a : Nat) : Int) ≤ 0 := (zle (z_nI (by omega)) (by decide)).mp h3
            first
            | (exfalso; omega)
            | skip
              refine w_iload_n dX11_judge_71 rfl ?_
              refine w_iconst (v := 5) dX11_judge_72 (by decide) ?_
              refine w_icmp_ge (tgt := 85) dX11_judge_73 (by decide) (fun h4 => ?_) (fun h4 => ?_)
              · skip
                replace h4 : 5 ≤ what.toInt := (zle (by decide) rfl).mp h4
                first
                | (exfalso; omega)
                | skip
                  refine w_iload_n dX11_judge_85 rfl ?_
                  exact w_ireturn dX11_judge_86 rfl (rfl) rfl (⟨rfl, _, _, rfl, hf1.r⟩)
              · skip
                replace h4 : ¬ (5 ≤ what.toInt) := fun q => h4 ((zle (by decide) rfl).mpr q)
                first
                | (exfalso; omega)
                | skip
                  refine w_aload_n dX11_judge_76 rfl ?_
                  refine w_iload_n dX11_judge_77 rfl ?_
                  refine w_iload_n dX11_judge_78 rfl ?_
                  exfalso
                  omega
          · skip
            replace h3 : ¬ (((nC a : Nat) : Int) ≤ 0) := fun q => h3 ((zle (z_nI (by omega)) (by decide)).mpr q)
            first
            | (exfalso; omega)
            | skip
              refine w_iload_n dX11_judge_40 rfl ?_
              refine w_aload_n dX11_judge_41 rfl ?_
              refine w_iload dX11_judge_42 rfl ?_
              refine w_iconst (v := 5) dX11_judge_44 (by decide) ?_
              exfalso
              omega
      · skip
        first
        | (exfalso; omega)
        | skip
          refine w_iconst (v := (-1)) dX11_judge_20 (by decide) ?_
          exact w_ireturn dX11_judge_21 rfl (rfl) rfl (⟨rfl, _, _, rfl, FrR.rf⟩)

theorem p_judge_o {I : xF4 Int32} {L : xF4 Int64} {a : aA} (hc : CourtIs I 0 a) (hw : WF a) {j what : Int32} (hx : j.toInt < 0 ∨ ((nJ a : Nat) : Int) ≤ j.toInt) : Tri 19 109 m_X10_judge [vR 0 0 0, vI (j), vI (what)] (rM I L) (pCq (vI (-1)) I) := by
  refine ⟨k_X10_judge, Nat.le_of_ble_eq_true rfl, ?_⟩
  show Wp _ _ _ 0 [some (vR 0 0 0), some (vI (j)), some (vI (what)), none] [] (rM I L) _
  obtain ⟨hJ, hC, hG, hD, hR, -⟩ := id hw
  refine w_aload_n dX10_judge_0 rfl ?_
  refine w_getR (w := some (1, 0, 0)) ff_X10_10 rfl rfl dX10_judge_1 rfl ?_
  refine w_iload_n dX10_judge_4 rfl ?_
  refine w_callV (as := [vI (j)]) (st := []) (Tri.mono (c_jAtO hc hw (z_out (by omega) hx)) (Nat.le_of_ble_eq_true rfl)) rfl rfl tg_X1_judgeAt lk_X10_111 in_X1_judgeAt se_X1_judgeAt rfl dX10_judge_5 rfl (Nat.le_of_ble_eq_true rfl) (Nat.le_refl _) (Nat.le_refl _) ?_
  rintro _ _ ⟨rfl, rfl⟩ -
  refine w_astore_n (ls' := [some (vR 0 0 0), some (vI (j)), some (vI (what)), some (vN)]) dX10_judge_8 rfl ?_
  refine w_aload_n dX10_judge_9 rfl ?_
  refine w_ifnonnull (tgt := 15) dX10_judge_10 (by decide) (fun _ h => by cases h) (fun _ => ?_)
  refine w_iconst (v := (-1)) dX10_judge_13 (by decide) ?_
  exact w_ireturn dX10_judge_14 rfl (rfl) rfl (⟨rfl, _, _, rfl, FrQ.rf⟩)

theorem q_judge_o {I : xF4 Int32} {L : xF4 Int64} {a : aA} (hs : SI I a) (hw : WF a) {j what : Int32} (hx : j.toInt < 0 ∨ ((nJ a : Nat) : Int) ≤ j.toInt) : Tri 19 109 m_X11_judge [vR 30 0 0, vI (j), vI (what)] (rM I L) (pMq (vI (-1)) I) := by
  refine ⟨k_X11_judge, Nat.le_of_ble_eq_true rfl, ?_⟩
  show Wp _ _ _ 0 [some (vR 30 0 0), some (vI (j)), some (vI (what)), none, none] [] (rM I L) _
  obtain ⟨hJ, hC, hG, hD, hR, -⟩ := id hw
  refine w_aload_n dX11_judge_0 rfl ?_
  refine w_iload_n dX11_judge_1 rfl ?_
  refine w_callV (as := [vI (j)]) (st := []) (Tri.mono (d_isJudge (hs.1) (by omega) (x := j) (X := j.toInt) rfl) (Nat.le_of_ble_eq_true rfl)) rfl rfl tg_X11_isJudge lk_X11_198 in_X11_isJudge se_X11_isJudge rfl dX11_judge_2 rfl (Nat.le_of_ble_eq_true rfl) (Nat.le_refl _) (Nat.le_refl _) ?_
  rintro _ _ ⟨rfl, rfl⟩ -
  refine w_ifeq_b (tgt := 20) dX11_judge_5 (by decide) (fun h1 => ?_) (fun h1 => ?_)
  · skip
    first
    | (exfalso; omega)
    | skip
      refine w_iconst (v := (-1)) dX11_judge_20 (by decide) ?_
      exact w_ireturn dX11_judge_21 rfl (rfl) rfl (⟨rfl, _, _, rfl, FrR.rf⟩)
  · skip
    first
    | (exfalso; omega)
    | skip
      refine w_iload_n dX11_judge_8 rfl ?_
      refine w_i2l dX11_judge_9 ?_
      refine w_lconst (v := 0) dX11_judge_10 (by decide) ?_
      refine w_ldc2 dX11_judge_11 cq_X11_202 ?_
      refine w_callS (as := [vL ((what : Int32).toInt64), vL (0), vL (5)]) (st := []) (Tri.mono (d_in ((what : Int32).toInt64) (0) (5)) (Nat.le_of_ble_eq_true rfl)) tg_X11_in lk_X11_66 sa_X11_in rfl dX11_judge_14 rfl (Nat.le_of_ble_eq_true rfl) (Nat.le_refl _) (Nat.le_refl _) ?_
      rintro _ _ ⟨rfl, rfl⟩ -
      refine w_top (y := bI (0 ≤ what.toInt ∧ what.toInt ≤ 5)) (show (bI ((0 : Int64) ≤ ((what : Int32).toInt64) ∧ ((what : Int32).toInt64) ≤ (5 : Int64)) : Int32) = bI (0 ≤ what.toInt ∧ what.toInt ≤ 5) from inZ (x := what) (l := 0) (h := 5) (X := what.toInt) (A := 0) (B := 5) rfl (by decide) (by decide) rfl (by decide) (by decide)) ?_
      refine w_ifne_b (tgt := 22) dX11_judge_17 (by decide) (fun h2 => ?_) (fun h2 => ?_)
      · skip
        first
        | (exfalso; omega)
        | skip
          refine w_aload_n dX11_judge_22 rfl ?_
          refine w_callV (as := []) (st := []) (Tri.mono (d_starts hs hw) (Nat.le_of_ble_eq_true rfl)) rfl rfl tg_X11_starts lk_X11_192 in_X11_starts se_X11_starts rfl dX11_judge_23 rfl (Nat.le_of_ble_eq_true rfl) (Nat.le_refl _) (Nat.le_refl _) ?_
          rintro v M9 ⟨rfl, I1, rfl, hm1, hi1, hf1⟩ -
          have hs1 := hf1.r.si hs
          refine w_iconst (v := 0) dX11_judge_26 (by decide) ?_
          refine w_istore_n (ls' := [some (vR 30 0 0), some (vI (j)), some (vI (what)), some (vI (0)), none]) dX11_judge_27 rfl ?_
          refine w_iconst (v := 0) dX11_judge_28 (by decide) ?_
          refine w_istore (ls' := [some (vR 30 0 0), some (vI (j)), some (vI (what)), some (vI (0)), some (vI (0))]) dX11_judge_29 rfl ?_
          refine w_iload dX11_judge_31 rfl ?_
          refine w_aload_n dX11_judge_33 rfl ?_
          refine w_getI ff_X11_61 rfl rfl dX11_judge_34 ?_
          rw [show (I1 30 0 0 4 : Int32) = nI (nC a) from hs1.2.1]
          refine w_icmp_ge (tgt := 71) dX11_judge_37 (by decide) (fun h3 => ?_) (fun h3 => ?_)
          · skip
            replace h3 : ((nC a : Nat) : Int) ≤ 0 := (zle (z_nI (by omega)) (by decide)).mp h3
            first
            | (exfalso; omega)
            | skip
              refine w_iload_n dX11_judge_71 rfl ?_
              refine w_iconst (v := 5) dX11_judge_72 (by decide) ?_
              refine w_icmp_ge (tgt := 85) dX11_judge_73 (by decide) (fun h4 => ?_) (fun h4 => ?_)
              · skip
                replace h4 : 5 ≤ what.toInt := (zle (by decide) rfl).mp h4
                first
                | (exfalso; omega)
                | skip
                  refine w_iload_n dX11_judge_85 rfl ?_
                  exact w_ireturn dX11_judge_86 rfl (rfl) rfl (⟨rfl, _, _, rfl, hf1.r⟩)
              · skip
                replace h4 : ¬ (5 ≤ what.toInt) := fun q => h4 ((zle (by decide) rfl).mpr q)
                first
                | (exfalso; omega)
                | skip
                  refine w_aload_n dX11_judge_76 rfl ?_
                  refine w_iload_n dX11_judge_77 rfl ?_
                  refine w_iload_n dX11_judge_78 rfl ?_
                  exfalso
                  omega
          · skip
            replace h3 : ¬ (((nC a : Nat) : Int) ≤ 0) := fun q => h3 ((zle (z_nI (by omega)) (by decide)).mpr q)
            first
            | (exfalso; omega)
            | skip
              refine w_iload_n dX11_judge_40 rfl ?_
              refine w_aload_n dX11_judge_41 rfl ?_
              refine w_iload dX11_judge_42 rfl ?_
              refine w_iconst (v := 5) dX11_judge_44 (by decide) ?_
              exfalso
              omega
      · skip
        first
        | (exfalso; omega)
        | skip
          refine w_iconst (v := (-1)) dX11_judge_20 (by decide) ?_
          exact w_ireturn dX11_judge_21 rfl (rfl) rfl (⟨rfl, _, _, rfl, FrR.rf⟩)

theorem p_suit_0 {I : xF4 Int32} {L : xF4 Int64} {a : aA} (hc : CourtIs I 0 a) (hw : WF a) {c : Nat} (hcc : c < nC a)  : Tri 19 109 m_X10_suit [vR 0 0 0, vI (nI c), vI (0)] (rM I L) (pCq (vI (nI (sF a c 0))) I) := by
  refine ⟨k_X10_suit, Nat.le_of_ble_eq_true rfl, ?_⟩
  show Wp _ _ _ 0 [some (vR 0 0 0), some (vI (nI c)), some (vI (0)), none] [] (rM I L) _
  obtain ⟨hJ, hC, hG, hD, hR, -⟩ := id hw
  obtain ⟨fc0, fc1, fc2, fc3, fc4, fc5, fc6, fc7, fc8⟩ := hw.2.2.2.2.2.2.1 c hcc
  refine w_aload_n dX10_suit_0 rfl ?_
  refine w_getR (w := some (1, 0, 0)) ff_X10_10 rfl rfl dX10_suit_1 rfl ?_
  refine w_iload_n dX10_suit_4 rfl ?_
  refine w_callV (as := [vI (nI c)]) (st := []) (Tri.mono (c_sAt hc hw hcc) (Nat.le_of_ble_eq_true rfl)) rfl rfl tg_X1_suitAt lk_X10_136 in_X1_suitAt se_X1_suitAt rfl dX10_suit_5 rfl (Nat.le_of_ble_eq_true rfl) (Nat.le_refl _) (Nat.le_refl _) ?_
  rintro _ _ ⟨rfl, rfl⟩ -
  refine w_astore_n (ls' := [some (vR 0 0 0), some (vI (nI c)), some (vI (0)), some (vR 5 0 c)]) dX10_suit_8 rfl ?_
  refine w_aload_n dX10_suit_9 rfl ?_
  refine w_ifnonnull (tgt := 15) dX10_suit_10 (by decide) (fun _ _ => ?_) (fun h => by cases h)
  refine w_iload_n dX10_suit_15 rfl ?_
  refine w_tabIn (off := 40) (tgt := 56) dX10_suit_16 (by decide) (by decide) rfl (by decide) ?_
  refine w_aload_n dX10_suit_56 rfl ?_
  refine w_getI ff_X10_140 rfl rfl dX10_suit_57 ?_
  rw [show (I 5 0 c 0 : Int32) = nI (sF a c 0) from hc.s hcc (by decide) (by decide)]
  exact w_ireturn dX10_suit_60 rfl (rfl) rfl (⟨rfl, _, _, rfl, FrQ.rf⟩)

theorem q_suit_0 {I : xF4 Int32} {L : xF4 Int64} {a : aA} (hs : SI I a) (hw : WF a) {c : Nat} (hcc : c < nC a)  : Tri 19 109 m_X11_suit [vR 30 0 0, vI (nI c), vI (0)] (rM I L) (pMq (vI (nI (sF a c 0))) I) := by
  refine ⟨k_X11_suit, Nat.le_of_ble_eq_true rfl, ?_⟩
  show Wp _ _ _ 0 [some (vR 30 0 0), some (vI (nI c)), some (vI (0))] [] (rM I L) _
  obtain ⟨hJ, hC, hG, hD, hR, -⟩ := id hw
  obtain ⟨fc0, fc1, fc2, fc3, fc4, fc5, fc6, fc7, fc8⟩ := hw.2.2.2.2.2.2.1 c hcc
  refine w_aload_n dX11_suit_0 rfl ?_
  refine w_iload_n dX11_suit_1 rfl ?_
  refine w_callV (as := [vI (nI c)]) (st := []) (Tri.mono (d_isCase (hs.2.1) (by omega) (x := nI c) (X := ((c : Nat) : Int)) (z_nI (by omega))) (Nat.le_of_ble_eq_true rfl)) rfl rfl tg_X11_isCase lk_X11_204 in_X11_isCase se_X11_isCase rfl dX11_suit_2 rfl (Nat.le_of_ble_eq_true rfl) (Nat.le_refl _) (Nat.le_refl _) ?_
  rintro _ _ ⟨rfl, rfl⟩ -
  refine w_ifeq_b (tgt := 37) dX11_suit_5 (by decide) (fun h1 => ?_) (fun h1 => ?_)
  · skip
    first
    | (exfalso; omega)
    | skip
      refine w_iconst (v := (-1)) dX11_suit_37 (by decide) ?_
      exact w_ireturn dX11_suit_38 rfl (rfl) rfl (⟨rfl, _, _, rfl, FrR.rf⟩)
  · skip
    first
    | (exfalso; omega)
    | skip
      refine w_iload_n dX11_suit_8 rfl ?_
      refine w_i2l dX11_suit_9 ?_
      refine w_lconst (v := 0) dX11_suit_10 (by decide) ?_
      refine w_ldc2 dX11_suit_11 cq_X11_202 ?_
      refine w_callS (as := [vL ((0 : Int32).toInt64), vL (0), vL (5)]) (st := []) (Tri.mono (d_in ((0 : Int32).toInt64) (0) (5)) (Nat.le_of_ble_eq_true rfl)) tg_X11_in lk_X11_66 sa_X11_in rfl dX11_suit_14 rfl (Nat.le_of_ble_eq_true rfl) (Nat.le_refl _) (Nat.le_refl _) ?_
      rintro _ _ ⟨rfl, rfl⟩ -
      refine w_top (y := 1) (show (bI ((0 : Int64) ≤ ((0 : Int32).toInt64) ∧ ((0 : Int32).toInt64) ≤ (5 : Int64)) : Int32) = 1 from bI_t (by decide)) ?_
      refine w_if_eq (tgt := 37) dX11_suit_17 (by decide) (fun h => absurd h (by decide)) (fun _ => ?_)
      refine w_aload_n dX11_suit_20 rfl ?_
      refine w_getR (w := some (31, 0, 0)) ff_X11_7 rfl rfl dX11_suit_21 rfl ?_
      refine w_bipush (v := 20) dX11_suit_24 (by decide) ?_
      refine w_bipush (v := 7) dX11_suit_26 (by decide) ?_
      refine w_iload_n dX11_suit_28 rfl ?_
      refine w_imul dX11_suit_29 ?_
      rw [show ((7) * (nI c) : Int32) = nI (7 * c) from ar_mul (p := 7) (q := c) rfl rfl (by first | rfl | omega)]
      refine w_iadd dX11_suit_30 ?_
      rw [show ((20) + (nI (7 * c)) : Int32) = nI (20 + (7 * c)) from ar_add (p := 20) (q := 7 * c) rfl rfl (by omega)]
      refine w_iload_n dX11_suit_31 rfl ?_
      refine w_iadd dX11_suit_32 ?_
      rw [show ((nI (20 + (7 * c))) + (0) : Int32) = nI (20 + (7 * c)) from ar_add (p := 20 + (7 * c)) (q := 0) rfl rfl (by omega)]
      refine w_iaload (a := 20 + (7 * c)) rfl (vp_in_nI (n := 20 + (7 * c)) (by omega) (by omega)) (nI_clamp (n := 20 + (7 * c)) (by omega)) dX11_suit_33 ?_
      rw [show (I 31 0 0 (20 + (7 * c)) : Int32) = nI (sF a c 0) from hs.2.2.s hcc (f := 0) (by decide) (by decide) (by omega)]
      refine w_goto (tgt := 38) dX11_suit_34 (by decide) ?_
      exact w_ireturn dX11_suit_38 rfl (rfl) rfl (⟨rfl, _, _, rfl, FrR.rf⟩)

theorem p_suit_1 {I : xF4 Int32} {L : xF4 Int64} {a : aA} (hc : CourtIs I 0 a) (hw : WF a) {c : Nat} (hcc : c < nC a)  : Tri 19 109 m_X10_suit [vR 0 0 0, vI (nI c), vI (1)] (rM I L) (pCq (vI (nI (sF a c 1))) I) := by
  refine ⟨k_X10_suit, Nat.le_of_ble_eq_true rfl, ?_⟩
  show Wp _ _ _ 0 [some (vR 0 0 0), some (vI (nI c)), some (vI (1)), none] [] (rM I L) _
  obtain ⟨hJ, hC, hG, hD, hR, -⟩ := id hw
  obtain ⟨fc0, fc1, fc2, fc3, fc4, fc5, fc6, fc7, fc8⟩ := hw.2.2.2.2.2.2.1 c hcc
  refine w_aload_n dX10_suit_0 rfl ?_
  refine w_getR (w := some (1, 0, 0)) ff_X10_10 rfl rfl dX10_suit_1 rfl ?_
  refine w_iload_n dX10_suit_4 rfl ?_
  refine w_callV (as := [vI (nI c)]) (st := []) (Tri.mono (c_sAt hc hw hcc) (Nat.le_of_ble_eq_true rfl)) rfl rfl tg_X1_suitAt lk_X10_136 in_X1_suitAt se_X1_suitAt rfl dX10_suit_5 rfl (Nat.le_of_ble_eq_true rfl) (Nat.le_refl _) (Nat.le_refl _) ?_
  rintro _ _ ⟨rfl, rfl⟩ -
  refine w_astore_n (ls' := [some (vR 0 0 0), some (vI (nI c)), some (vI (1)), some (vR 5 0 c)]) dX10_suit_8 rfl ?_
  refine w_aload_n dX10_suit_9 rfl ?_
  refine w_ifnonnull (tgt := 15) dX10_suit_10 (by decide) (fun _ _ => ?_) (fun h => by cases h)
  refine w_iload_n dX10_suit_15 rfl ?_
  refine w_tabIn (off := 45) (tgt := 61) dX10_suit_16 (by decide) (by decide) rfl (by decide) ?_
  refine w_aload_n dX10_suit_61 rfl ?_
  refine w_getI ff_X10_145 rfl rfl dX10_suit_62 ?_
  rw [show (I 5 0 c 1 : Int32) = nI (sF a c 1) from hc.s hcc (by decide) (by decide)]
  exact w_ireturn dX10_suit_65 rfl (rfl) rfl (⟨rfl, _, _, rfl, FrQ.rf⟩)

theorem q_suit_1 {I : xF4 Int32} {L : xF4 Int64} {a : aA} (hs : SI I a) (hw : WF a) {c : Nat} (hcc : c < nC a)  : Tri 19 109 m_X11_suit [vR 30 0 0, vI (nI c), vI (1)] (rM I L) (pMq (vI (nI (sF a c 1))) I) := by
  refine ⟨k_X11_suit, Nat.le_of_ble_eq_true rfl, ?_⟩
  show Wp _ _ _ 0 [some (vR 30 0 0), some (vI (nI c)), some (vI (1))] [] (rM I L) _
  obtain ⟨hJ, hC, hG, hD, hR, -⟩ := id hw
  obtain ⟨fc0, fc1, fc2, fc3, fc4, fc5, fc6, fc7, fc8⟩ := hw.2.2.2.2.2.2.1 c hcc
  refine w_aload_n dX11_suit_0 rfl ?_
  refine w_iload_n dX11_suit_1 rfl ?_
  refine w_callV (as := [vI (nI c)]) (st := []) (Tri.mono (d_isCase (hs.2.1) (by omega) (x := nI c) (X := ((c : Nat) : Int)) (z_nI (by omega))) (Nat.le_of_ble_eq_true rfl)) rfl rfl tg_X11_isCase lk_X11_204 in_X11_isCase se_X11_isCase rfl dX11_suit_2 rfl (Nat.le_of_ble_eq_true rfl) (Nat.le_refl _) (Nat.le_refl _) ?_
  rintro _ _ ⟨rfl, rfl⟩ -
  refine w_ifeq_b (tgt := 37) dX11_suit_5 (by decide) (fun h1 => ?_) (fun h1 => ?_)
  · skip
    first
    | (exfalso; omega)
    | skip
      refine w_iconst (v := (-1)) dX11_suit_37 (by decide) ?_
      exact w_ireturn dX11_suit_38 rfl (rfl) rfl (⟨rfl, _, _, rfl, FrR.rf⟩)
  · skip
    first
    | (exfalso; omega)
    | skip
      refine w_iload_n dX11_suit_8 rfl ?_
      refine w_i2l dX11_suit_9 ?_
      refine w_lconst (v := 0) dX11_suit_10 (by decide) ?_
      refine w_ldc2 dX11_suit_11 cq_X11_202 ?_
      refine w_callS (as := [vL ((1 : Int32).toInt64), vL (0), vL (5)]) (st := []) (Tri.mono (d_in ((1 : Int32).toInt64) (0) (5)) (Nat.le_of_ble_eq_true rfl)) tg_X11_in lk_X11_66 sa_X11_in rfl dX11_suit_14 rfl (Nat.le_of_ble_eq_true rfl) (Nat.le_refl _) (Nat.le_refl _) ?_
      rintro _ _ ⟨rfl, rfl⟩ -
      refine w_top (y := 1) (show (bI ((0 : Int64) ≤ ((1 : Int32).toInt64) ∧ ((1 : Int32).toInt64) ≤ (5 : Int64)) : Int32) = 1 from bI_t (by decide)) ?_
      refine w_if_eq (tgt := 37) dX11_suit_17 (by decide) (fun h => absurd h (by decide)) (fun _ => ?_)
      refine w_aload_n dX11_suit_20 rfl ?_
      refine w_getR (w := some (31, 0, 0)) ff_X11_7 rfl rfl dX11_suit_21 rfl ?_
      refine w_bipush (v := 20) dX11_suit_24 (by decide) ?_
      refine w_bipush (v := 7) dX11_suit_26 (by decide) ?_
      refine w_iload_n dX11_suit_28 rfl ?_
      refine w_imul dX11_suit_29 ?_
      rw [show ((7) * (nI c) : Int32) = nI (7 * c) from ar_mul (p := 7) (q := c) rfl rfl (by first | rfl | omega)]
      refine w_iadd dX11_suit_30 ?_
      rw [show ((20) + (nI (7 * c)) : Int32) = nI (20 + (7 * c)) from ar_add (p := 20) (q := 7 * c) rfl rfl (by omega)]
      refine w_iload_n dX11_suit_31 rfl ?_
      refine w_iadd dX11_suit_32 ?_
      rw [show ((nI (20 + (7 * c))) + (1) : Int32) = nI ((20 + (7 * c)) + 1) from ar_add (p := 20 + (7 * c)) (q := 1) rfl rfl (by omega)]
      refine w_iaload (a := (20 + (7 * c)) + 1) rfl (vp_in_nI (n := (20 + (7 * c)) + 1) (by omega) (by omega)) (nI_clamp (n := (20 + (7 * c)) + 1) (by omega)) dX11_suit_33 ?_
      rw [show (I 31 0 0 ((20 + (7 * c)) + 1) : Int32) = nI (sF a c 1) from hs.2.2.s hcc (f := 1) (by decide) (by decide) (by omega)]
      refine w_goto (tgt := 38) dX11_suit_34 (by decide) ?_
      exact w_ireturn dX11_suit_38 rfl (rfl) rfl (⟨rfl, _, _, rfl, FrR.rf⟩)

theorem p_suit_2 {I : xF4 Int32} {L : xF4 Int64} {a : aA} (hc : CourtIs I 0 a) (hw : WF a) {c : Nat} (hcc : c < nC a)  : Tri 19 109 m_X10_suit [vR 0 0 0, vI (nI c), vI (2)] (rM I L) (pCq (vI (nI (sF a c 2))) I) := by
  refine ⟨k_X10_suit, Nat.le_of_ble_eq_true rfl, ?_⟩
  show Wp _ _ _ 0 [some (vR 0 0 0), some (vI (nI c)), some (vI (2)), none] [] (rM I L) _
  obtain ⟨hJ, hC, hG, hD, hR, -⟩ := id hw
  obtain ⟨fc0, fc1, fc2, fc3, fc4, fc5, fc6, fc7, fc8⟩ := hw.2.2.2.2.2.2.1 c hcc
  refine w_aload_n dX10_suit_0 rfl ?_
  refine w_getR (w := some (1, 0, 0)) ff_X10_10 rfl rfl dX10_suit_1 rfl ?_
  refine w_iload_n dX10_suit_4 rfl ?_
  refine w_callV (as := [vI (nI c)]) (st := []) (Tri.mono (c_sAt hc hw hcc) (Nat.le_of_ble_eq_true rfl)) rfl rfl tg_X1_suitAt lk_X10_136 in_X1_suitAt se_X1_suitAt rfl dX10_suit_5 rfl (Nat.le_of_ble_eq_true rfl) (Nat.le_refl _) (Nat.le_refl _) ?_
  rintro _ _ ⟨rfl, rfl⟩ -
  refine w_astore_n (ls' := [some (vR 0 0 0), some (vI (nI c)), some (vI (2)), some (vR 5 0 c)]) dX10_suit_8 rfl ?_
  refine w_aload_n dX10_suit_9 rfl ?_
  refine w_ifnonnull (tgt := 15) dX10_suit_10 (by decide) (fun _ _ => ?_) (fun h => by cases h)
  refine w_iload_n dX10_suit_15 rfl ?_
  refine w_tabIn (off := 50) (tgt := 66) dX10_suit_16 (by decide) (by decide) rfl (by decide) ?_
  refine w_aload_n dX10_suit_66 rfl ?_
  refine w_getI ff_X10_148 rfl rfl dX10_suit_67 ?_
  rw [show (I 5 0 c 2 : Int32) = nI (sF a c 2) from hc.s hcc (by decide) (by decide)]
  exact w_ireturn dX10_suit_70 rfl (rfl) rfl (⟨rfl, _, _, rfl, FrQ.rf⟩)

theorem q_suit_2 {I : xF4 Int32} {L : xF4 Int64} {a : aA} (hs : SI I a) (hw : WF a) {c : Nat} (hcc : c < nC a)  : Tri 19 109 m_X11_suit [vR 30 0 0, vI (nI c), vI (2)] (rM I L) (pMq (vI (nI (sF a c 2))) I) := by
  refine ⟨k_X11_suit, Nat.le_of_ble_eq_true rfl, ?_⟩
  show Wp _ _ _ 0 [some (vR 30 0 0), some (vI (nI c)), some (vI (2))] [] (rM I L) _
  obtain ⟨hJ, hC, hG, hD, hR, -⟩ := id hw
  obtain ⟨fc0, fc1, fc2, fc3, fc4, fc5, fc6, fc7, fc8⟩ := hw.2.2.2.2.2.2.1 c hcc
  refine w_aload_n dX11_suit_0 rfl ?_
  refine w_iload_n dX11_suit_1 rfl ?_
  refine w_callV (as := [vI (nI c)]) (st := []) (Tri.mono (d_isCase (hs.2.1) (by omega) (x := nI c) (X := ((c : Nat) : Int)) (z_nI (by omega))) (Nat.le_of_ble_eq_true rfl)) rfl rfl tg_X11_isCase lk_X11_204 in_X11_isCase se_X11_isCase rfl dX11_suit_2 rfl (Nat.le_of_ble_eq_true rfl) (Nat.le_refl _) (Nat.le_refl _) ?_
  rintro _ _ ⟨rfl, rfl⟩ -
  refine w_ifeq_b (tgt := 37) dX11_suit_5 (by decide) (fun h1 => ?_) (fun h1 => ?_)
  · skip
    first
    | (exfalso; omega)
    | skip
      refine w_iconst (v := (-1)) dX11_suit_37 (by decide) ?_
      exact w_ireturn dX11_suit_38 rfl (rfl) rfl (⟨rfl, _, _, rfl, FrR.rf⟩)
  · skip
    first
    | (exfalso; omega)
    | skip
      refine w_iload_n dX11_suit_8 rfl ?_
      refine w_i2l dX11_suit_9 ?_
      refine w_lconst (v := 0) dX11_suit_10 (by decide) ?_
      refine w_ldc2 dX11_suit_11 cq_X11_202 ?_
      refine w_callS (as := [vL ((2 : Int32).toInt64), vL (0), vL (5)]) (st := []) (Tri.mono (d_in ((2 : Int32).toInt64) (0) (5)) (Nat.le_of_ble_eq_true rfl)) tg_X11_in lk_X11_66 sa_X11_in rfl dX11_suit_14 rfl (Nat.le_of_ble_eq_true rfl) (Nat.le_refl _) (Nat.le_refl _) ?_
      rintro _ _ ⟨rfl, rfl⟩ -
      refine w_top (y := 1) (show (bI ((0 : Int64) ≤ ((2 : Int32).toInt64) ∧ ((2 : Int32).toInt64) ≤ (5 : Int64)) : Int32) = 1 from bI_t (by decide)) ?_
      refine w_if_eq (tgt := 37) dX11_suit_17 (by decide) (fun h => absurd h (by decide)) (fun _ => ?_)
      refine w_aload_n dX11_suit_20 rfl ?_
      refine w_getR (w := some (31, 0, 0)) ff_X11_7 rfl rfl dX11_suit_21 rfl ?_
      refine w_bipush (v := 20) dX11_suit_24 (by decide) ?_
      refine w_bipush (v := 7) dX11_suit_26 (by decide) ?_
      refine w_iload_n dX11_suit_28 rfl ?_
      refine w_imul dX11_suit_29 ?_
      rw [show ((7) * (nI c) : Int32) = nI (7 * c) from ar_mul (p := 7) (q := c) rfl rfl (by first | rfl | omega)]
      refine w_iadd dX11_suit_30 ?_
      rw [show ((20) + (nI (7 * c)) : Int32) = nI (20 + (7 * c)) from ar_add (p := 20) (q := 7 * c) rfl rfl (by omega)]
      refine w_iload_n dX11_suit_31 rfl ?_
      refine w_iadd dX11_suit_32 ?_
      rw [show ((nI (20 + (7 * c))) + (2) : Int32) = nI ((20 + (7 * c)) + 2) from ar_add (p := 20 + (7 * c)) (q := 2) rfl rfl (by omega)]
      refine w_iaload (a := (20 + (7 * c)) + 2) rfl (vp_in_nI (n := (20 + (7 * c)) + 2) (by omega) (by omega)) (nI_clamp (n := (20 + (7 * c)) + 2) (by omega)) dX11_suit_33 ?_
      rw [show (I 31 0 0 ((20 + (7 * c)) + 2) : Int32) = nI (sF a c 2) from hs.2.2.s hcc (f := 2) (by decide) (by decide) (by omega)]
      refine w_goto (tgt := 38) dX11_suit_34 (by decide) ?_
      exact w_ireturn dX11_suit_38 rfl (rfl) rfl (⟨rfl, _, _, rfl, FrR.rf⟩)

theorem p_suit_3 {I : xF4 Int32} {L : xF4 Int64} {a : aA} (hc : CourtIs I 0 a) (hw : WF a) {c : Nat} (hcc : c < nC a)  : Tri 19 109 m_X10_suit [vR 0 0 0, vI (nI c), vI (3)] (rM I L) (pCq (vI (nI (sF a c 3))) I) := by
  refine ⟨k_X10_suit, Nat.le_of_ble_eq_true rfl, ?_⟩
  show Wp _ _ _ 0 [some (vR 0 0 0), some (vI (nI c)), some (vI (3)), none] [] (rM I L) _
  obtain ⟨hJ, hC, hG, hD, hR, -⟩ := id hw
  obtain ⟨fc0, fc1, fc2, fc3, fc4, fc5, fc6, fc7, fc8⟩ := hw.2.2.2.2.2.2.1 c hcc
  refine w_aload_n dX10_suit_0 rfl ?_
  refine w_getR (w := some (1, 0, 0)) ff_X10_10 rfl rfl dX10_suit_1 rfl ?_
  refine w_iload_n dX10_suit_4 rfl ?_
  refine w_callV (as := [vI (nI c)]) (st := []) (Tri.mono (c_sAt hc hw hcc) (Nat.le_of_ble_eq_true rfl)) rfl rfl tg_X1_suitAt lk_X10_136 in_X1_suitAt se_X1_suitAt rfl dX10_suit_5 rfl (Nat.le_of_ble_eq_true rfl) (Nat.le_refl _) (Nat.le_refl _) ?_
  rintro _ _ ⟨rfl, rfl⟩ -
  refine w_astore_n (ls' := [some (vR 0 0 0), some (vI (nI c)), some (vI (3)), some (vR 5 0 c)]) dX10_suit_8 rfl ?_
  refine w_aload_n dX10_suit_9 rfl ?_
  refine w_ifnonnull (tgt := 15) dX10_suit_10 (by decide) (fun _ _ => ?_) (fun h => by cases h)
  refine w_iload_n dX10_suit_15 rfl ?_
  refine w_tabIn (off := 55) (tgt := 71) dX10_suit_16 (by decide) (by decide) rfl (by decide) ?_
  refine w_aload_n dX10_suit_71 rfl ?_
  refine w_getI ff_X10_151 rfl rfl dX10_suit_72 ?_
  rw [show (I 5 0 c 3 : Int32) = nI (sF a c 3) from hc.s hcc (by decide) (by decide)]
  exact w_ireturn dX10_suit_75 rfl (rfl) rfl (⟨rfl, _, _, rfl, FrQ.rf⟩)

theorem q_suit_3 {I : xF4 Int32} {L : xF4 Int64} {a : aA} (hs : SI I a) (hw : WF a) {c : Nat} (hcc : c < nC a)  : Tri 19 109 m_X11_suit [vR 30 0 0, vI (nI c), vI (3)] (rM I L) (pMq (vI (nI (sF a c 3))) I) := by
  refine ⟨k_X11_suit, Nat.le_of_ble_eq_true rfl, ?_⟩
  show Wp _ _ _ 0 [some (vR 30 0 0), some (vI (nI c)), some (vI (3))] [] (rM I L) _
  obtain ⟨hJ, hC, hG, hD, hR, -⟩ := id hw
  obtain ⟨fc0, fc1, fc2, fc3, fc4, fc5, fc6, fc7, fc8⟩ := hw.2.2.2.2.2.2.1 c hcc
  refine w_aload_n dX11_suit_0 rfl ?_
  refine w_iload_n dX11_suit_1 rfl ?_
  refine w_callV (as := [vI (nI c)]) (st := []) (Tri.mono (d_isCase (hs.2.1) (by omega) (x := nI c) (X := ((c : Nat) : Int)) (z_nI (by omega))) (Nat.le_of_ble_eq_true rfl)) rfl rfl tg_X11_isCase lk_X11_204 in_X11_isCase se_X11_isCase rfl dX11_suit_2 rfl (Nat.le_of_ble_eq_true rfl) (Nat.le_refl _) (Nat.le_refl _) ?_
  rintro _ _ ⟨rfl, rfl⟩ -
  refine w_ifeq_b (tgt := 37) dX11_suit_5 (by decide) (fun h1 => ?_) (fun h1 => ?_)
  · skip
    first
    | (exfalso; omega)
    | skip
      refine w_iconst (v := (-1)) dX11_suit_37 (by decide) ?_
      exact w_ireturn dX11_suit_38 rfl (rfl) rfl (⟨rfl, _, _, rfl, FrR.rf⟩)
  · skip
    first
    | (exfalso; omega)
    | skip
      refine w_iload_n dX11_suit_8 rfl ?_
      refine w_i2l dX11_suit_9 ?_
      refine w_lconst (v := 0) dX11_suit_10 (by decide) ?_
      refine w_ldc2 dX11_suit_11 cq_X11_202 ?_
      refine w_callS (as := [vL ((3 : Int32).toInt64), vL (0), vL (5)]) (st := []) (Tri.mono (d_in ((3 : Int32).toInt64) (0) (5)) (Nat.le_of_ble_eq_true rfl)) tg_X11_in lk_X11_66 sa_X11_in rfl dX11_suit_14 rfl (Nat.le_of_ble_eq_true rfl) (Nat.le_refl _) (Nat.le_refl _) ?_
      rintro _ _ ⟨rfl, rfl⟩ -
      refine w_top (y := 1) (show (bI ((0 : Int64) ≤ ((3 : Int32).toInt64) ∧ ((3 : Int32).toInt64) ≤ (5 : Int64)) : Int32) = 1 from bI_t (by decide)) ?_
      refine w_if_eq (tgt := 37) dX11_suit_17 (by decide) (fun h => absurd h (by decide)) (fun _ => ?_)
      refine w_aload_n dX11_suit_20 rfl ?_
      refine w_getR (w := some (31, 0, 0)) ff_X11_7 rfl rfl dX11_suit_21 rfl ?_
      refine w_bipush (v := 20) dX11_suit_24 (by decide) ?_
      refine w_bipush (v := 7) dX11_suit_26 (by decide) ?_
      refine w_iload_n dX11_suit_28 rfl ?_
      refine w_imul dX11_suit_29 ?_
      rw [show ((7) * (nI c) : Int32) = nI (7 * c) from ar_mul (p := 7) (q := c) rfl rfl (by first | rfl | omega)]
      refine w_iadd dX11_suit_30 ?_
      rw [show ((20) + (nI (7 * c)) : Int32) = nI (20 + (7 * c)) from ar_add (p := 20) (q := 7 * c) rfl rfl (by omega)]
      refine w_iload_n dX11_suit_31 rfl ?_
      refine w_iadd dX11_suit_32 ?_
      rw [show ((nI (20 + (7 * c))) + (3) : Int32) = nI ((20 + (7 * c)) + 3) from ar_add (p := 20 + (7 * c)) (q := 3) rfl rfl (by omega)]
      refine w_iaload (a := (20 + (7 * c)) + 3) rfl (vp_in_nI (n := (20 + (7 * c)) + 3) (by omega) (by omega)) (nI_clamp (n := (20 + (7 * c)) + 3) (by omega)) dX11_suit_33 ?_
      rw [show (I 31 0 0 ((20 + (7 * c)) + 3) : Int32) = nI (sF a c 3) from hs.2.2.s hcc (f := 3) (by decide) (by decide) (by omega)]
      refine w_goto (tgt := 38) dX11_suit_34 (by decide) ?_
      exact w_ireturn dX11_suit_38 rfl (rfl) rfl (⟨rfl, _, _, rfl, FrR.rf⟩)

theorem p_suit_4 {I : xF4 Int32} {L : xF4 Int64} {a : aA} (hc : CourtIs I 0 a) (hw : WF a) {c : Nat} (hcc : c < nC a)  : Tri 19 109 m_X10_suit [vR 0 0 0, vI (nI c), vI (4)] (rM I L) (pCq (vI (nI (sF a c 4))) I) := by
  refine ⟨k_X10_suit, Nat.le_of_ble_eq_true rfl, ?_⟩
  show Wp _ _ _ 0 [some (vR 0 0 0), some (vI (nI c)), some (vI (4)), none] [] (rM I L) _
  obtain ⟨hJ, hC, hG, hD, hR, -⟩ := id hw
  obtain ⟨fc0, fc1, fc2, fc3, fc4, fc5, fc6, fc7, fc8⟩ := hw.2.2.2.2.2.2.1 c hcc
  refine w_aload_n dX10_suit_0 rfl ?_
  refine w_getR (w := some (1, 0, 0)) ff_X10_10 rfl rfl dX10_suit_1 rfl ?_
  refine w_iload_n dX10_suit_4 rfl ?_
  refine w_callV (as := [vI (nI c)]) (st := []) (Tri.mono (c_sAt hc hw hcc) (Nat.le_of_ble_eq_true rfl)) rfl rfl tg_X1_suitAt lk_X10_136 in_X1_suitAt se_X1_suitAt rfl dX10_suit_5 rfl (Nat.le_of_ble_eq_true rfl) (Nat.le_refl _) (Nat.le_refl _) ?_
  rintro _ _ ⟨rfl, rfl⟩ -
  refine w_astore_n (ls' := [some (vR 0 0 0), some (vI (nI c)), some (vI (4)), some (vR 5 0 c)]) dX10_suit_8 rfl ?_
  refine w_aload_n dX10_suit_9 rfl ?_
  refine w_ifnonnull (tgt := 15) dX10_suit_10 (by decide) (fun _ _ => ?_) (fun h => by cases h)
  refine w_iload_n dX10_suit_15 rfl ?_
  refine w_tabIn (off := 60) (tgt := 76) dX10_suit_16 (by decide) (by decide) rfl (by decide) ?_
  refine w_aload_n dX10_suit_76 rfl ?_
  refine w_getI ff_X10_152 rfl rfl dX10_suit_77 ?_
  rw [show (I 5 0 c 4 : Int32) = nI (sF a c 4) from hc.s hcc (by decide) (by decide)]
  exact w_ireturn dX10_suit_80 rfl (rfl) rfl (⟨rfl, _, _, rfl, FrQ.rf⟩)

theorem q_suit_4 {I : xF4 Int32} {L : xF4 Int64} {a : aA} (hs : SI I a) (hw : WF a) {c : Nat} (hcc : c < nC a)  : Tri 19 109 m_X11_suit [vR 30 0 0, vI (nI c), vI (4)] (rM I L) (pMq (vI (nI (sF a c 4))) I) := by
  refine ⟨k_X11_suit, Nat.le_of_ble_eq_true rfl, ?_⟩
  show Wp _ _ _ 0 [some (vR 30 0 0), some (vI (nI c)), some (vI (4))] [] (rM I L) _
  obtain ⟨hJ, hC, hG, hD, hR, -⟩ := id hw
  obtain ⟨fc0, fc1, fc2, fc3, fc4, fc5, fc6, fc7, fc8⟩ := hw.2.2.2.2.2.2.1 c hcc
  refine w_aload_n dX11_suit_0 rfl ?_
  refine w_iload_n dX11_suit_1 rfl ?_
  refine w_callV (as := [vI (nI c)]) (st := []) (Tri.mono (d_isCase (hs.2.1) (by omega) (x := nI c) (X := ((c : Nat) : Int)) (z_nI (by omega))) (Nat.le_of_ble_eq_true rfl)) rfl rfl tg_X11_isCase lk_X11_204 in_X11_isCase se_X11_isCase rfl dX11_suit_2 rfl (Nat.le_of_ble_eq_true rfl) (Nat.le_refl _) (Nat.le_refl _) ?_
  rintro _ _ ⟨rfl, rfl⟩ -
  refine w_ifeq_b (tgt := 37) dX11_suit_5 (by decide) (fun h1 => ?_) (fun h1 => ?_)
  · skip
    first
    | (exfalso; omega)
    | skip
      refine w_iconst (v := (-1)) dX11_suit_37 (by decide) ?_
      exact w_ireturn dX11_suit_38 rfl (rfl) rfl (⟨rfl, _, _, rfl, FrR.rf⟩)
  · skip
    first
    | (exfalso; omega)
    | skip
      refine w_iload_n dX11_suit_8 rfl ?_
      refine w_i2l dX11_suit_9 ?_
      refine w_lconst (v := 0) dX11_suit_10 (by decide) ?_
      refine w_ldc2 dX11_suit_11 cq_X11_202 ?_
      refine w_callS (as := [vL ((4 : Int32).toInt64), vL (0), vL (5)]) (st := []) (Tri.mono (d_in ((4 : Int32).toInt64) (0) (5)) (Nat.le_of_ble_eq_true rfl)) tg_X11_in lk_X11_66 sa_X11_in rfl dX11_suit_14 rfl (Nat.le_of_ble_eq_true rfl) (Nat.le_refl _) (Nat.le_refl _) ?_
      rintro _ _ ⟨rfl, rfl⟩ -
      refine w_top (y := 1) (show (bI ((0 : Int64) ≤ ((4 : Int32).toInt64) ∧ ((4 : Int32).toInt64) ≤ (5 : Int64)) : Int32) = 1 from bI_t (by decide)) ?_
      refine w_if_eq (tgt := 37) dX11_suit_17 (by decide) (fun h => absurd h (by decide)) (fun _ => ?_)
      refine w_aload_n dX11_suit_20 rfl ?_
      refine w_getR (w := some (31, 0, 0)) ff_X11_7 rfl rfl dX11_suit_21 rfl ?_
      refine w_bipush (v := 20) dX11_suit_24 (by decide) ?_
      refine w_bipush (v := 7) dX11_suit_26 (by decide) ?_
      refine w_iload_n dX11_suit_28 rfl ?_
      refine w_imul dX11_suit_29 ?_
      rw [show ((7) * (nI c) : Int32) = nI (7 * c) from ar_mul (p := 7) (q := c) rfl rfl (by first | rfl | omega)]
      refine w_iadd dX11_suit_30 ?_
      rw [show ((20) + (nI (7 * c)) : Int32) = nI (20 + (7 * c)) from ar_add (p := 20) (q := 7 * c) rfl rfl (by omega)]
      refine w_iload_n dX11_suit_31 rfl ?_
      refine w_iadd dX11_suit_32 ?_
      rw [show ((nI (20 + (7 * c))) + (4) : Int32) = nI ((20 + (7 * c)) + 4) from ar_add (p := 20 + (7 * c)) (q := 4) rfl rfl (by omega)]
      refine w_iaload (a := (20 + (7 * c)) + 4) rfl (vp_in_nI (n := (20 + (7 * c)) + 4) (by omega) (by omega)) (nI_clamp (n := (20 + (7 * c)) + 4) (by omega)) dX11_suit_33 ?_
      rw [show (I 31 0 0 ((20 + (7 * c)) + 4) : Int32) = nI (sF a c 4) from hs.2.2.s hcc (f := 4) (by decide) (by decide) (by omega)]
      refine w_goto (tgt := 38) dX11_suit_34 (by decide) ?_
      exact w_ireturn dX11_suit_38 rfl (rfl) rfl (⟨rfl, _, _, rfl, FrR.rf⟩)

theorem p_suit_5 {I : xF4 Int32} {L : xF4 Int64} {a : aA} (hc : CourtIs I 0 a) (hw : WF a) {c : Nat} (hcc : c < nC a)  : Tri 19 109 m_X10_suit [vR 0 0 0, vI (nI c), vI (5)] (rM I L) (pCq (vI (byI (bY a c))) I) := by
  refine ⟨k_X10_suit, Nat.le_of_ble_eq_true rfl, ?_⟩
  show Wp _ _ _ 0 [some (vR 0 0 0), some (vI (nI c)), some (vI (5)), none] [] (rM I L) _
  obtain ⟨hJ, hC, hG, hD, hR, -⟩ := id hw
  obtain ⟨fc0, fc1, fc2, fc3, fc4, fc5, fc6, fc7, fc8⟩ := hw.2.2.2.2.2.2.1 c hcc
  refine w_aload_n dX10_suit_0 rfl ?_
  refine w_getR (w := some (1, 0, 0)) ff_X10_10 rfl rfl dX10_suit_1 rfl ?_
  refine w_iload_n dX10_suit_4 rfl ?_
  refine w_callV (as := [vI (nI c)]) (st := []) (Tri.mono (c_sAt hc hw hcc) (Nat.le_of_ble_eq_true rfl)) rfl rfl tg_X1_suitAt lk_X10_136 in_X1_suitAt se_X1_suitAt rfl dX10_suit_5 rfl (Nat.le_of_ble_eq_true rfl) (Nat.le_refl _) (Nat.le_refl _) ?_
  rintro _ _ ⟨rfl, rfl⟩ -
  refine w_astore_n (ls' := [some (vR 0 0 0), some (vI (nI c)), some (vI (5)), some (vR 5 0 c)]) dX10_suit_8 rfl ?_
  refine w_aload_n dX10_suit_9 rfl ?_
  refine w_ifnonnull (tgt := 15) dX10_suit_10 (by decide) (fun _ _ => ?_) (fun h => by cases h)
  refine w_iload_n dX10_suit_15 rfl ?_
  refine w_tabIn (off := 65) (tgt := 81) dX10_suit_16 (by decide) (by decide) rfl (by decide) ?_
  refine w_aload_n dX10_suit_81 rfl ?_
  refine w_getI ff_X10_155 rfl rfl dX10_suit_82 ?_
  rw [show (I 5 0 c 5 : Int32) = byI (bY a c) from hc.b hcc]
  exact w_ireturn dX10_suit_85 rfl (rfl) rfl (⟨rfl, _, _, rfl, FrQ.rf⟩)

theorem q_suit_5 {I : xF4 Int32} {L : xF4 Int64} {a : aA} (hs : SI I a) (hw : WF a) {c : Nat} (hcc : c < nC a)  : Tri 19 109 m_X11_suit [vR 30 0 0, vI (nI c), vI (5)] (rM I L) (pMq (vI (byI (bY a c))) I) := by
  refine ⟨k_X11_suit, Nat.le_of_ble_eq_true rfl, ?_⟩
  show Wp _ _ _ 0 [some (vR 30 0 0), some (vI (nI c)), some (vI (5))] [] (rM I L) _
  obtain ⟨hJ, hC, hG, hD, hR, -⟩ := id hw
  obtain ⟨fc0, fc1, fc2, fc3, fc4, fc5, fc6, fc7, fc8⟩ := hw.2.2.2.2.2.2.1 c hcc
  refine w_aload_n dX11_suit_0 rfl ?_
  refine w_iload_n dX11_suit_1 rfl ?_
  refine w_callV (as := [vI (nI c)]) (st := []) (Tri.mono (d_isCase (hs.2.1) (by omega) (x := nI c) (X := ((c : Nat) : Int)) (z_nI (by omega))) (Nat.le_of_ble_eq_true rfl)) rfl rfl tg_X11_isCase lk_X11_204 in_X11_isCase se_X11_isCase rfl dX11_suit_2 rfl (Nat.le_of_ble_eq_true rfl) (Nat.le_refl _) (Nat.le_refl _) ?_
  rintro _ _ ⟨rfl, rfl⟩ -
  refine w_ifeq_b (tgt := 37) dX11_suit_5 (by decide) (fun h1 => ?_) (fun h1 => ?_)
  · skip
    first
    | (exfalso; omega)
    | skip
      refine w_iconst (v := (-1)) dX11_suit_37 (by decide) ?_
      exact w_ireturn dX11_suit_38 rfl (rfl) rfl (⟨rfl, _, _, rfl, FrR.rf⟩)
  · skip
    first
    | (exfalso; omega)
    | skip
      refine w_iload_n dX11_suit_8 rfl ?_
      refine w_i2l dX11_suit_9 ?_
      refine w_lconst (v := 0) dX11_suit_10 (by decide) ?_
      refine w_ldc2 dX11_suit_11 cq_X11_202 ?_
      refine w_callS (as := [vL ((5 : Int32).toInt64), vL (0), vL (5)]) (st := []) (Tri.mono (d_in ((5 : Int32).toInt64) (0) (5)) (Nat.le_of_ble_eq_true rfl)) tg_X11_in lk_X11_66 sa_X11_in rfl dX11_suit_14 rfl (Nat.le_of_ble_eq_true rfl) (Nat.le_refl _) (Nat.le_refl _) ?_
      rintro _ _ ⟨rfl, rfl⟩ -
      refine w_top (y := 1) (show (bI ((0 : Int64) ≤ ((5 : Int32).toInt64) ∧ ((5 : Int32).toInt64) ≤ (5 : Int64)) : Int32) = 1 from bI_t (by decide)) ?_
      refine w_if_eq (tgt := 37) dX11_suit_17 (by decide) (fun h => absurd h (by decide)) (fun _ => ?_)
      refine w_aload_n dX11_suit_20 rfl ?_
      refine w_getR (w := some (31, 0, 0)) ff_X11_7 rfl rfl dX11_suit_21 rfl ?_
      refine w_bipush (v := 20) dX11_suit_24 (by decide) ?_
      refine w_bipush (v := 7) dX11_suit_26 (by decide) ?_
      refine w_iload_n dX11_suit_28 rfl ?_
      refine w_imul dX11_suit_29 ?_
      rw [show ((7) * (nI c) : Int32) = nI (7 * c) from ar_mul (p := 7) (q := c) rfl rfl (by first | rfl | omega)]
      refine w_iadd dX11_suit_30 ?_
      rw [show ((20) + (nI (7 * c)) : Int32) = nI (20 + (7 * c)) from ar_add (p := 20) (q := 7 * c) rfl rfl (by omega)]
      refine w_iload_n dX11_suit_31 rfl ?_
      refine w_iadd dX11_suit_32 ?_
      rw [show ((nI (20 + (7 * c))) + (5) : Int32) = nI ((20 + (7 * c)) + 5) from ar_add (p := 20 + (7 * c)) (q := 5) rfl rfl (by omega)]
      refine w_iaload (a := (20 + (7 * c)) + 5) rfl (vp_in_nI (n := (20 + (7 * c)) + 5) (by omega) (by omega)) (nI_clamp (n := (20 + (7 * c)) + 5) (by omega)) dX11_suit_33 ?_
      rw [show (I 31 0 0 ((20 + (7 * c)) + 5) : Int32) = byI (bY a c) from hs.2.2.who hcc (by omega)]
      refine w_goto (tgt := 38) dX11_suit_34 (by decide) ?_
      exact w_ireturn dX11_suit_38 rfl (rfl) rfl (⟨rfl, _, _, rfl, FrR.rf⟩)

theorem p_suit_w {I : xF4 Int32} {L : xF4 Int64} {a : aA} (hc : CourtIs I 0 a) (hw : WF a) {c : Nat} (hcc : c < nC a) {what : Int32} (hx : what.toInt < 0 ∨ ((6 : Nat) : Int) ≤ what.toInt) : Tri 19 109 m_X10_suit [vR 0 0 0, vI (nI c), vI (what)] (rM I L) (pCq (vI (-1)) I) := by
  refine ⟨k_X10_suit, Nat.le_of_ble_eq_true rfl, ?_⟩
  show Wp _ _ _ 0 [some (vR 0 0 0), some (vI (nI c)), some (vI (what)), none] [] (rM I L) _
  obtain ⟨hJ, hC, hG, hD, hR, -⟩ := id hw
  obtain ⟨fc0, fc1, fc2, fc3, fc4, fc5, fc6, fc7, fc8⟩ := hw.2.2.2.2.2.2.1 c hcc
  refine w_aload_n dX10_suit_0 rfl ?_
  refine w_getR (w := some (1, 0, 0)) ff_X10_10 rfl rfl dX10_suit_1 rfl ?_
  refine w_iload_n dX10_suit_4 rfl ?_
  refine w_callV (as := [vI (nI c)]) (st := []) (Tri.mono (c_sAt hc hw hcc) (Nat.le_of_ble_eq_true rfl)) rfl rfl tg_X1_suitAt lk_X10_136 in_X1_suitAt se_X1_suitAt rfl dX10_suit_5 rfl (Nat.le_of_ble_eq_true rfl) (Nat.le_refl _) (Nat.le_refl _) ?_
  rintro _ _ ⟨rfl, rfl⟩ -
  refine w_astore_n (ls' := [some (vR 0 0 0), some (vI (nI c)), some (vI (what)), some (vR 5 0 c)]) dX10_suit_8 rfl ?_
  refine w_aload_n dX10_suit_9 rfl ?_
  refine w_ifnonnull (tgt := 15) dX10_suit_10 (by decide) (fun _ _ => ?_) (fun h => by cases h)
  refine w_iload_n dX10_suit_15 rfl ?_
  refine w_tabOut (tgt := 86) dX10_suit_16 (by rw [show (what : Int32).toInt = what.toInt from rfl]; omega) (by decide) ?_
  refine w_iconst (v := (-1)) dX10_suit_86 (by decide) ?_
  exact w_ireturn dX10_suit_87 rfl (rfl) rfl (⟨rfl, _, _, rfl, FrQ.rf⟩)

theorem q_suit_w {I : xF4 Int32} {L : xF4 Int64} {a : aA} (hs : SI I a) (hw : WF a) {c : Nat} (hcc : c < nC a) {what : Int32} (hx : what.toInt < 0 ∨ ((6 : Nat) : Int) ≤ what.toInt) : Tri 19 109 m_X11_suit [vR 30 0 0, vI (nI c), vI (what)] (rM I L) (pMq (vI (-1)) I) := by
  refine ⟨k_X11_suit, Nat.le_of_ble_eq_true rfl, ?_⟩
  show Wp _ _ _ 0 [some (vR 30 0 0), some (vI (nI c)), some (vI (what))] [] (rM I L) _
  obtain ⟨hJ, hC, hG, hD, hR, -⟩ := id hw
  obtain ⟨fc0, fc1, fc2, fc3, fc4, fc5, fc6, fc7, fc8⟩ := hw.2.2.2.2.2.2.1 c hcc
  refine w_aload_n dX11_suit_0 rfl ?_
  refine w_iload_n dX11_suit_1 rfl ?_
  refine w_callV (as := [vI (nI c)]) (st := []) (Tri.mono (d_isCase (hs.2.1) (by omega) (x := nI c) (X := ((c : Nat) : Int)) (z_nI (by omega))) (Nat.le_of_ble_eq_true rfl)) rfl rfl tg_X11_isCase lk_X11_204 in_X11_isCase se_X11_isCase rfl dX11_suit_2 rfl (Nat.le_of_ble_eq_true rfl) (Nat.le_refl _) (Nat.le_refl _) ?_
  rintro _ _ ⟨rfl, rfl⟩ -
  refine w_ifeq_b (tgt := 37) dX11_suit_5 (by decide) (fun h1 => ?_) (fun h1 => ?_)
  · skip
    first
    | (exfalso; omega)
    | skip
      refine w_iconst (v := (-1)) dX11_suit_37 (by decide) ?_
      exact w_ireturn dX11_suit_38 rfl (rfl) rfl (⟨rfl, _, _, rfl, FrR.rf⟩)
  · skip
    first
    | (exfalso; omega)
    | skip
      refine w_iload_n dX11_suit_8 rfl ?_
      refine w_i2l dX11_suit_9 ?_
      refine w_lconst (v := 0) dX11_suit_10 (by decide) ?_
      refine w_ldc2 dX11_suit_11 cq_X11_202 ?_
      refine w_callS (as := [vL ((what : Int32).toInt64), vL (0), vL (5)]) (st := []) (Tri.mono (d_in ((what : Int32).toInt64) (0) (5)) (Nat.le_of_ble_eq_true rfl)) tg_X11_in lk_X11_66 sa_X11_in rfl dX11_suit_14 rfl (Nat.le_of_ble_eq_true rfl) (Nat.le_refl _) (Nat.le_refl _) ?_
      rintro _ _ ⟨rfl, rfl⟩ -
      refine w_top (y := bI (0 ≤ what.toInt ∧ what.toInt ≤ 5)) (show (bI ((0 : Int64) ≤ ((what : Int32).toInt64) ∧ ((what : Int32).toInt64) ≤ (5 : Int64)) : Int32) = bI (0 ≤ what.toInt ∧ what.toInt ≤ 5) from inZ (x := what) (l := 0) (h := 5) (X := what.toInt) (A := 0) (B := 5) rfl (by decide) (by decide) rfl (by decide) (by decide)) ?_
      refine w_ifeq_b (tgt := 37) dX11_suit_17 (by decide) (fun h2 => ?_) (fun h2 => ?_)
      · skip
        first
        | (exfalso; omega)
        | skip
          refine w_iconst (v := (-1)) dX11_suit_37 (by decide) ?_
          exact w_ireturn dX11_suit_38 rfl (rfl) rfl (⟨rfl, _, _, rfl, FrR.rf⟩)
      · skip
        first
        | (exfalso; omega)
        | skip
          refine w_aload_n dX11_suit_20 rfl ?_
          refine w_getR (w := some (31, 0, 0)) ff_X11_7 rfl rfl dX11_suit_21 rfl ?_
          refine w_bipush (v := 20) dX11_suit_24 (by decide) ?_
          refine w_bipush (v := 7) dX11_suit_26 (by decide) ?_
          refine w_iload_n dX11_suit_28 rfl ?_
          refine w_imul dX11_suit_29 ?_
          rw [show ((7) * (nI c) : Int32) = nI (7 * c) from ar_mul (p := 7) (q := c) rfl rfl (by first | rfl | omega)]
          refine w_iadd dX11_suit_30 ?_
          rw [show ((20) + (nI (7 * c)) : Int32) = nI (20 + (7 * c)) from ar_add (p := 20) (q := 7 * c) rfl rfl (by omega)]
          refine w_iload_n dX11_suit_31 rfl ?_
          refine w_iadd dX11_suit_32 ?_
          exfalso
          omega

theorem p_suit_o {I : xF4 Int32} {L : xF4 Int64} {a : aA} (hc : CourtIs I 0 a) (hw : WF a) {c what : Int32} (hx : c.toInt < 0 ∨ ((nC a : Nat) : Int) ≤ c.toInt) : Tri 19 109 m_X10_suit [vR 0 0 0, vI (c), vI (what)] (rM I L) (pCq (vI (-1)) I) := by
  refine ⟨k_X10_suit, Nat.le_of_ble_eq_true rfl, ?_⟩
  show Wp _ _ _ 0 [some (vR 0 0 0), some (vI (c)), some (vI (what)), none] [] (rM I L) _
  obtain ⟨hJ, hC, hG, hD, hR, -⟩ := id hw
  refine w_aload_n dX10_suit_0 rfl ?_
  refine w_getR (w := some (1, 0, 0)) ff_X10_10 rfl rfl dX10_suit_1 rfl ?_
  refine w_iload_n dX10_suit_4 rfl ?_
  refine w_callV (as := [vI (c)]) (st := []) (Tri.mono (c_sAtO hc hw (z_out (by omega) hx)) (Nat.le_of_ble_eq_true rfl)) rfl rfl tg_X1_suitAt lk_X10_136 in_X1_suitAt se_X1_suitAt rfl dX10_suit_5 rfl (Nat.le_of_ble_eq_true rfl) (Nat.le_refl _) (Nat.le_refl _) ?_
  rintro _ _ ⟨rfl, rfl⟩ -
  refine w_astore_n (ls' := [some (vR 0 0 0), some (vI (c)), some (vI (what)), some (vN)]) dX10_suit_8 rfl ?_
  refine w_aload_n dX10_suit_9 rfl ?_
  refine w_ifnonnull (tgt := 15) dX10_suit_10 (by decide) (fun _ h => by cases h) (fun _ => ?_)
  refine w_iconst (v := (-1)) dX10_suit_13 (by decide) ?_
  exact w_ireturn dX10_suit_14 rfl (rfl) rfl (⟨rfl, _, _, rfl, FrQ.rf⟩)

theorem q_suit_o {I : xF4 Int32} {L : xF4 Int64} {a : aA} (hs : SI I a) (hw : WF a) {c what : Int32} (hx : c.toInt < 0 ∨ ((nC a : Nat) : Int) ≤ c.toInt) : Tri 19 109 m_X11_suit [vR 30 0 0, vI (c), vI (what)] (rM I L) (pMq (vI (-1)) I) := by
  refine ⟨k_X11_suit, Nat.le_of_ble_eq_true rfl, ?_⟩
  show Wp _ _ _ 0 [some (vR 30 0 0), some (vI (c)), some (vI (what))] [] (rM I L) _
  obtain ⟨hJ, hC, hG, hD, hR, -⟩ := id hw
  refine w_aload_n dX11_suit_0 rfl ?_
  refine w_iload_n dX11_suit_1 rfl ?_
  refine w_callV (as := [vI (c)]) (st := []) (Tri.mono (d_isCase (hs.2.1) (by omega) (x := c) (X := c.toInt) rfl) (Nat.le_of_ble_eq_true rfl)) rfl rfl tg_X11_isCase lk_X11_204 in_X11_isCase se_X11_isCase rfl dX11_suit_2 rfl (Nat.le_of_ble_eq_true rfl) (Nat.le_refl _) (Nat.le_refl _) ?_
  rintro _ _ ⟨rfl, rfl⟩ -
  refine w_ifeq_b (tgt := 37) dX11_suit_5 (by decide) (fun h1 => ?_) (fun h1 => ?_)
  · skip
    first
    | (exfalso; omega)
    | skip
      refine w_iconst (v := (-1)) dX11_suit_37 (by decide) ?_
      exact w_ireturn dX11_suit_38 rfl (rfl) rfl (⟨rfl, _, _, rfl, FrR.rf⟩)
  · skip
    first
    | (exfalso; omega)
    | skip
      refine w_iload_n dX11_suit_8 rfl ?_
      refine w_i2l dX11_suit_9 ?_
      refine w_lconst (v := 0) dX11_suit_10 (by decide) ?_
      refine w_ldc2 dX11_suit_11 cq_X11_202 ?_
      refine w_callS (as := [vL ((what : Int32).toInt64), vL (0), vL (5)]) (st := []) (Tri.mono (d_in ((what : Int32).toInt64) (0) (5)) (Nat.le_of_ble_eq_true rfl)) tg_X11_in lk_X11_66 sa_X11_in rfl dX11_suit_14 rfl (Nat.le_of_ble_eq_true rfl) (Nat.le_refl _) (Nat.le_refl _) ?_
      rintro _ _ ⟨rfl, rfl⟩ -
      refine w_top (y := bI (0 ≤ what.toInt ∧ what.toInt ≤ 5)) (show (bI ((0 : Int64) ≤ ((what : Int32).toInt64) ∧ ((what : Int32).toInt64) ≤ (5 : Int64)) : Int32) = bI (0 ≤ what.toInt ∧ what.toInt ≤ 5) from inZ (x := what) (l := 0) (h := 5) (X := what.toInt) (A := 0) (B := 5) rfl (by decide) (by decide) rfl (by decide) (by decide)) ?_
      refine w_ifeq_b (tgt := 37) dX11_suit_17 (by decide) (fun h2 => ?_) (fun h2 => ?_)
      · skip
        first
        | (exfalso; omega)
        | skip
          refine w_iconst (v := (-1)) dX11_suit_37 (by decide) ?_
          exact w_ireturn dX11_suit_38 rfl (rfl) rfl (⟨rfl, _, _, rfl, FrR.rf⟩)
      · skip
        first
        | (exfalso; omega)
        | skip
          refine w_aload_n dX11_suit_20 rfl ?_
          refine w_getR (w := some (31, 0, 0)) ff_X11_7 rfl rfl dX11_suit_21 rfl ?_
          refine w_bipush (v := 20) dX11_suit_24 (by decide) ?_
          refine w_bipush (v := 7) dX11_suit_26 (by decide) ?_
          refine w_iload_n dX11_suit_28 rfl ?_
          refine w_imul dX11_suit_29 ?_
          refine w_iadd dX11_suit_30 ?_
          refine w_iload_n dX11_suit_31 rfl ?_
          refine w_iadd dX11_suit_32 ?_
          exfalso
          omega

theorem p_tenth {I : xF4 Int32} {L : xF4 Int64} {a : aA} (hc : CourtIs I 0 a) (hw : WF a) {j : Nat} (hj : j < nJ a) {n : Nat} (h1n : 1 ≤ n) (hn : n ≤ 60)  : Tri 19 109 m_X10_tenth [vR 0 0 0, vI (nI j), vI (nI n)] (rM I L) (pCq (vI (nI (tenN (jF a j 0) n))) I) := by
  refine ⟨k_X10_tenth, Nat.le_of_ble_eq_true rfl, ?_⟩
  show Wp _ _ _ 0 [some (vR 0 0 0), some (vI (nI j)), some (vI (nI n)), none] [] (rM I L) _
  obtain ⟨hJ, hC, hG, hD, hR, -⟩ := id hw
  obtain ⟨fj0, fj1, fj2, fj3⟩ := hw.2.2.2.2.2.1 j hj
  refine w_aload_n dX10_tenth_0 rfl ?_
  refine w_getR (w := some (1, 0, 0)) ff_X10_10 rfl rfl dX10_tenth_1 rfl ?_
  refine w_iload_n dX10_tenth_4 rfl ?_
  refine w_callV (as := [vI (nI j)]) (st := []) (Tri.mono (c_jAt hc hw hj) (Nat.le_of_ble_eq_true rfl)) rfl rfl tg_X1_judgeAt lk_X10_111 in_X1_judgeAt se_X1_judgeAt rfl dX10_tenth_5 rfl (Nat.le_of_ble_eq_true rfl) (Nat.le_refl _) (Nat.le_refl _) ?_
  rintro _ _ ⟨rfl, rfl⟩ -
  refine w_astore_n (ls' := [some (vR 0 0 0), some (vI (nI j)), some (vI (nI n)), some (vR 3 0 j)]) dX10_tenth_8 rfl ?_
  refine w_aload_n dX10_tenth_9 rfl ?_
  refine w_ifnull (tgt := 23) dX10_tenth_10 (by decide) (fun h => by cases h) (fun _ _ => ?_)
  refine w_iload_n dX10_tenth_13 rfl ?_
  refine w_iconst (v := 1) dX10_tenth_14 (by decide) ?_
  refine w_bipush (v := 60) dX10_tenth_15 (by decide) ?_
  refine w_callS (as := [vI (nI n), vI (1), vI (60)]) (st := []) (Tri.mono (c_X10_within (nI n) (1) (60)) (Nat.le_of_ble_eq_true rfl)) tg_X10_within lk_X10_158 sa_X10_within rfl dX10_tenth_17 rfl (Nat.le_of_ble_eq_true rfl) (Nat.le_refl _) (Nat.le_refl _) ?_
  rintro _ _ ⟨rfl, rfl⟩ -
  refine w_top (y := bI (1 ≤ ((n : Nat) : Int) ∧ ((n : Nat) : Int) ≤ 60)) (show (bI ((1 : Int32) ≤ (nI n) ∧ (nI n) ≤ (60 : Int32)) : Int32) = bI (1 ≤ ((n : Nat) : Int) ∧ ((n : Nat) : Int) ≤ 60) from wiZ (X := ((n : Nat) : Int)) (A := 1) (B := 60) (z_nI (by omega)) (by decide) (by decide)) ?_
  refine w_ifne_b (tgt := 25) dX10_tenth_20 (by decide) (fun h1 => ?_) (fun h1 => ?_)
  · skip
    first
    | (exfalso; omega)
    | skip
      refine w_aload_n dX10_tenth_25 rfl ?_
      refine w_getI ff_X10_115 rfl rfl dX10_tenth_26 ?_
      rw [show (I 3 0 j 0 : Int32) = nI (jF a j 0) from hc.j hj (by decide)]
      refine w_iload_n dX10_tenth_29 rfl ?_
      refine w_callS (as := [vI (nI (jF a j 0)), vI (nI n)]) (st := []) (Tri.mono (c_X10_tenthBy (nI (jF a j 0)) (nI n)) (Nat.le_of_ble_eq_true rfl)) tg_X10_tenthBy lk_X10_162 sa_X10_tenthBy rfl dX10_tenth_30 rfl (Nat.le_of_ble_eq_true rfl) (Nat.le_refl _) (Nat.le_refl _) ?_
      rintro _ _ ⟨rfl, rfl⟩ -
      rw [show (tenI (nI (jF a j 0)) (nI n) : Int32) = nI (tenN (jF a j 0) (n)) from tenI_N (by omega) (by omega)]
      exact w_ireturn dX10_tenth_33 rfl (rfl) rfl (⟨rfl, _, _, rfl, FrQ.rf⟩)
  · skip
    first
    | (exfalso; omega)
    | skip
      refine w_iconst (v := (-1)) dX10_tenth_23 (by decide) ?_
      exact w_ireturn dX10_tenth_24 rfl (rfl) rfl (⟨rfl, _, _, rfl, FrQ.rf⟩)

theorem q_tenth {I : xF4 Int32} {L : xF4 Int64} {a : aA} (hs : SI I a) (hw : WF a) {j : Nat} (hj : j < nJ a) {n : Nat} (h1n : 1 ≤ n) (hn : n ≤ 60)  : Tri 19 109 m_X11_tenth [vR 30 0 0, vI (nI j), vI (nI n)] (rM I L) (pMq (vI (nI (tenN (jF a j 0) n))) I) := by
  refine ⟨k_X11_tenth, Nat.le_of_ble_eq_true rfl, ?_⟩
  show Wp _ _ _ 0 [some (vR 30 0 0), some (vI (nI j)), some (vI (nI n))] [] (rM I L) _
  obtain ⟨hJ, hC, hG, hD, hR, -⟩ := id hw
  obtain ⟨fj0, fj1, fj2, fj3⟩ := hw.2.2.2.2.2.1 j hj
  refine w_aload_n dX11_tenth_0 rfl ?_
  refine w_iload_n dX11_tenth_1 rfl ?_
  refine w_callV (as := [vI (nI j)]) (st := []) (Tri.mono (d_isJudge (hs.1) (by omega) (x := nI j) (X := ((j : Nat) : Int)) (z_nI (by omega))) (Nat.le_of_ble_eq_true rfl)) rfl rfl tg_X11_isJudge lk_X11_198 in_X11_isJudge se_X11_isJudge rfl dX11_tenth_2 rfl (Nat.le_of_ble_eq_true rfl) (Nat.le_refl _) (Nat.le_refl _) ?_
  rintro _ _ ⟨rfl, rfl⟩ -
  refine w_ifeq_b (tgt := 37) dX11_tenth_5 (by decide) (fun h1 => ?_) (fun h1 => ?_)
  · skip
    first
    | (exfalso; omega)
    | skip
      refine w_iconst (v := (-1)) dX11_tenth_37 (by decide) ?_
      exact w_ireturn dX11_tenth_38 rfl (rfl) rfl (⟨rfl, _, _, rfl, FrR.rf⟩)
  · skip
    first
    | (exfalso; omega)
    | skip
      refine w_iload_n dX11_tenth_8 rfl ?_
      refine w_i2l dX11_tenth_9 ?_
      refine w_lconst (v := 1) dX11_tenth_10 (by decide) ?_
      refine w_ldc2 dX11_tenth_11 cq_X11_207 ?_
      refine w_callS (as := [vL ((nI n : Int32).toInt64), vL (1), vL (60)]) (st := []) (Tri.mono (d_in ((nI n : Int32).toInt64) (1) (60)) (Nat.le_of_ble_eq_true rfl)) tg_X11_in lk_X11_66 sa_X11_in rfl dX11_tenth_14 rfl (Nat.le_of_ble_eq_true rfl) (Nat.le_refl _) (Nat.le_refl _) ?_
      rintro _ _ ⟨rfl, rfl⟩ -
      refine w_top (y := bI (1 ≤ ((n : Nat) : Int) ∧ ((n : Nat) : Int) ≤ 60)) (show (bI ((1 : Int64) ≤ ((nI n : Int32).toInt64) ∧ ((nI n : Int32).toInt64) ≤ (60 : Int64)) : Int32) = bI (1 ≤ ((n : Nat) : Int) ∧ ((n : Nat) : Int) ≤ 60) from inZ (x := nI n) (l := 1) (h := 60) (X := ((n : Nat) : Int)) (A := 1) (B := 60) rfl (by decide) (by decide) (z_nI (by omega)) (by decide) (by decide)) ?_
      refine w_ifeq_b (tgt := 37) dX11_tenth_17 (by decide) (fun h2 => ?_) (fun h2 => ?_)
      · skip
        first
        | (exfalso; omega)
        | skip
          refine w_iconst (v := (-1)) dX11_tenth_37 (by decide) ?_
          exact w_ireturn dX11_tenth_38 rfl (rfl) rfl (⟨rfl, _, _, rfl, FrR.rf⟩)
      · skip
        first
        | (exfalso; omega)
        | skip
          refine w_aload_n dX11_tenth_20 rfl ?_
          refine w_getR (w := some (31, 0, 0)) ff_X11_7 rfl rfl dX11_tenth_21 rfl ?_
          refine w_iconst (v := 5) dX11_tenth_24 (by decide) ?_
          refine w_iload_n dX11_tenth_25 rfl ?_
          refine w_imul dX11_tenth_26 ?_
          rw [show ((5) * (nI j) : Int32) = nI (5 * j) from ar_mul (p := 5) (q := j) rfl rfl (by first | rfl | omega)]
          refine w_iconst (v := 0) dX11_tenth_27 (by decide) ?_
          refine w_iadd dX11_tenth_28 ?_
          rw [show ((nI (5 * j)) + (0) : Int32) = nI (5 * j) from ar_add (p := 5 * j) (q := 0) rfl rfl (by omega)]
          refine w_iaload (a := 5 * j) rfl (vp_in_nI (n := 5 * j) (by omega) (by omega)) (nI_clamp (n := 5 * j) (by omega)) dX11_tenth_29 ?_
          rw [show (I 31 0 0 (5 * j) : Int32) = nI (jF a j 0) from hs.2.2.j hj (f := 0) (by decide) (by omega)]
          refine w_iload_n dX11_tenth_30 rfl ?_
          refine w_callS (as := [vI (nI (jF a j 0)), vI (nI n)]) (st := []) (Tri.mono (d_tenthBy (kind := jF a j 0) (n := n) (by omega) (by omega)) (Nat.le_of_ble_eq_true rfl)) tg_X11_tenthBy lk_X11_142 sa_X11_tenthBy rfl dX11_tenth_31 rfl (Nat.le_of_ble_eq_true rfl) (Nat.le_refl _) (Nat.le_refl _) ?_
          rintro _ _ ⟨rfl, rfl⟩ -
          refine w_goto (tgt := 38) dX11_tenth_34 (by decide) ?_
          exact w_ireturn dX11_tenth_38 rfl (rfl) rfl (⟨rfl, _, _, rfl, FrR.rf⟩)

theorem p_tenth_n {I : xF4 Int32} {L : xF4 Int64} {a : aA} (hc : CourtIs I 0 a) (hw : WF a) {j : Nat} (hj : j < nJ a) {n : Int32} (hx : n.toInt < ((1 : Nat) : Int) ∨ ((60 : Nat) : Int) < n.toInt) : Tri 19 109 m_X10_tenth [vR 0 0 0, vI (nI j), vI (n)] (rM I L) (pCq (vI (-1)) I) := by
  refine ⟨k_X10_tenth, Nat.le_of_ble_eq_true rfl, ?_⟩
  show Wp _ _ _ 0 [some (vR 0 0 0), some (vI (nI j)), some (vI (n)), none] [] (rM I L) _
  obtain ⟨hJ, hC, hG, hD, hR, -⟩ := id hw
  obtain ⟨fj0, fj1, fj2, fj3⟩ := hw.2.2.2.2.2.1 j hj
  refine w_aload_n dX10_tenth_0 rfl ?_
  refine w_getR (w := some (1, 0, 0)) ff_X10_10 rfl rfl dX10_tenth_1 rfl ?_
  refine w_iload_n dX10_tenth_4 rfl ?_
  refine w_callV (as := [vI (nI j)]) (st := []) (Tri.mono (c_jAt hc hw hj) (Nat.le_of_ble_eq_true rfl)) rfl rfl tg_X1_judgeAt lk_X10_111 in_X1_judgeAt se_X1_judgeAt rfl dX10_tenth_5 rfl (Nat.le_of_ble_eq_true rfl) (Nat.le_refl _) (Nat.le_refl _) ?_
  rintro _ _ ⟨rfl, rfl⟩ -
  refine w_astore_n (ls' := [some (vR 0 0 0), some (vI (nI j)), some (vI (n)), some (vR 3 0 j)]) dX10_tenth_8 rfl ?_
  refine w_aload_n dX10_tenth_9 rfl ?_
  refine w_ifnull (tgt := 23) dX10_tenth_10 (by decide) (fun h => by cases h) (fun _ _ => ?_)
  refine w_iload_n dX10_tenth_13 rfl ?_
  refine w_iconst (v := 1) dX10_tenth_14 (by decide) ?_
  refine w_bipush (v := 60) dX10_tenth_15 (by decide) ?_
  refine w_callS (as := [vI (n), vI (1), vI (60)]) (st := []) (Tri.mono (c_X10_within (n) (1) (60)) (Nat.le_of_ble_eq_true rfl)) tg_X10_within lk_X10_158 sa_X10_within rfl dX10_tenth_17 rfl (Nat.le_of_ble_eq_true rfl) (Nat.le_refl _) (Nat.le_refl _) ?_
  rintro _ _ ⟨rfl, rfl⟩ -
  refine w_top (y := bI (1 ≤ n.toInt ∧ n.toInt ≤ 60)) (show (bI ((1 : Int32) ≤ (n) ∧ (n) ≤ (60 : Int32)) : Int32) = bI (1 ≤ n.toInt ∧ n.toInt ≤ 60) from wiZ (X := n.toInt) (A := 1) (B := 60) rfl (by decide) (by decide)) ?_
  refine w_ifne_b (tgt := 25) dX10_tenth_20 (by decide) (fun h1 => ?_) (fun h1 => ?_)
  · skip
    first
    | (exfalso; omega)
    | skip
      refine w_aload_n dX10_tenth_25 rfl ?_
      refine w_getI ff_X10_115 rfl rfl dX10_tenth_26 ?_
      rw [show (I 3 0 j 0 : Int32) = nI (jF a j 0) from hc.j hj (by decide)]
      refine w_iload_n dX10_tenth_29 rfl ?_
      refine w_callS (as := [vI (nI (jF a j 0)), vI (n)]) (st := []) (Tri.mono (c_X10_tenthBy (nI (jF a j 0)) (n)) (Nat.le_of_ble_eq_true rfl)) tg_X10_tenthBy lk_X10_162 sa_X10_tenthBy rfl dX10_tenth_30 rfl (Nat.le_of_ble_eq_true rfl) (Nat.le_refl _) (Nat.le_refl _) ?_
      rintro _ _ ⟨rfl, rfl⟩ -
      exact w_ireturn dX10_tenth_33 rfl (rfl) rfl (⟨rfl, _, _, rfl, FrQ.rf⟩)
  · skip
    first
    | (exfalso; omega)
    | skip
      refine w_iconst (v := (-1)) dX10_tenth_23 (by decide) ?_
      exact w_ireturn dX10_tenth_24 rfl (rfl) rfl (⟨rfl, _, _, rfl, FrQ.rf⟩)

theorem q_tenth_n {I : xF4 Int32} {L : xF4 Int64} {a : aA} (hs : SI I a) (hw : WF a) {j : Nat} (hj : j < nJ a) {n : Int32} (hx : n.toInt < ((1 : Nat) : Int) ∨ ((60 : Nat) : Int) < n.toInt) : Tri 19 109 m_X11_tenth [vR 30 0 0, vI (nI j), vI (n)] (rM I L) (pMq (vI (-1)) I) := by
  refine ⟨k_X11_tenth, Nat.le_of_ble_eq_true rfl, ?_⟩
  show Wp _ _ _ 0 [some (vR 30 0 0), some (vI (nI j)), some (vI (n))] [] (rM I L) _
  obtain ⟨hJ, hC, hG, hD, hR, -⟩ := id hw
  obtain ⟨fj0, fj1, fj2, fj3⟩ := hw.2.2.2.2.2.1 j hj
  refine w_aload_n dX11_tenth_0 rfl ?_
  refine w_iload_n dX11_tenth_1 rfl ?_
  refine w_callV (as := [vI (nI j)]) (st := []) (Tri.mono (d_isJudge (hs.1) (by omega) (x := nI j) (X := ((j : Nat) : Int)) (z_nI (by omega))) (Nat.le_of_ble_eq_true rfl)) rfl rfl tg_X11_isJudge lk_X11_198 in_X11_isJudge se_X11_isJudge rfl dX11_tenth_2 rfl (Nat.le_of_ble_eq_true rfl) (Nat.le_refl _) (Nat.le_refl _) ?_
  rintro _ _ ⟨rfl, rfl⟩ -
  refine w_ifeq_b (tgt := 37) dX11_tenth_5 (by decide) (fun h1 => ?_) (fun h1 => ?_)
  · skip
    first
    | (exfalso; omega)
    | skip
      refine w_iconst (v := (-1)) dX11_tenth_37 (by decide) ?_
      exact w_ireturn dX11_tenth_38 rfl (rfl) rfl (⟨rfl, _, _, rfl, FrR.rf⟩)
  · skip
    first
    | (exfalso; omega)
    | skip
      refine w_iload_n dX11_tenth_8 rfl ?_
      refine w_i2l dX11_tenth_9 ?_
      refine w_lconst (v := 1) dX11_tenth_10 (by decide) ?_
      refine w_ldc2 dX11_tenth_11 cq_X11_207 ?_
      refine w_callS (as := [vL ((n : Int32).toInt64), vL (1), vL (60)]) (st := []) (Tri.mono (d_in ((n : Int32).toInt64) (1) (60)) (Nat.le_of_ble_eq_true rfl)) tg_X11_in lk_X11_66 sa_X11_in rfl dX11_tenth_14 rfl (Nat.le_of_ble_eq_true rfl) (Nat.le_refl _) (Nat.le_refl _) ?_
      rintro _ _ ⟨rfl, rfl⟩ -
      refine w_top (y := bI (1 ≤ n.toInt ∧ n.toInt ≤ 60)) (show (bI ((1 : Int64) ≤ ((n : Int32).toInt64) ∧ ((n : Int32).toInt64) ≤ (60 : Int64)) : Int32) = bI (1 ≤ n.toInt ∧ n.toInt ≤ 60) from inZ (x := n) (l := 1) (h := 60) (X := n.toInt) (A := 1) (B := 60) rfl (by decide) (by decide) rfl (by decide) (by decide)) ?_
      refine w_ifeq_b (tgt := 37) dX11_tenth_17 (by decide) (fun h2 => ?_) (fun h2 => ?_)
      · skip
        first
        | (exfalso; omega)
        | skip
          refine w_iconst (v := (-1)) dX11_tenth_37 (by decide) ?_
          exact w_ireturn dX11_tenth_38 rfl (rfl) rfl (⟨rfl, _, _, rfl, FrR.rf⟩)
      · skip
        first
        | (exfalso; omega)
        | skip
          refine w_aload_n dX11_tenth_20 rfl ?_
          refine w_getR (w := some (31, 0, 0)) ff_X11_7 rfl rfl dX11_tenth_21 rfl ?_
          refine w_iconst (v := 5) dX11_tenth_24 (by decide) ?_
          refine w_iload_n dX11_tenth_25 rfl ?_
          refine w_imul dX11_tenth_26 ?_
          rw [show ((5) * (nI j) : Int32) = nI (5 * j) from ar_mul (p := 5) (q := j) rfl rfl (by first | rfl | omega)]
          refine w_iconst (v := 0) dX11_tenth_27 (by decide) ?_
          refine w_iadd dX11_tenth_28 ?_
          rw [show ((nI (5 * j)) + (0) : Int32) = nI (5 * j) from ar_add (p := 5 * j) (q := 0) rfl rfl (by omega)]
          refine w_iaload (a := 5 * j) rfl (vp_in_nI (n := 5 * j) (by omega) (by omega)) (nI_clamp (n := 5 * j) (by omega)) dX11_tenth_29 ?_
          rw [show (I 31 0 0 (5 * j) : Int32) = nI (jF a j 0) from hs.2.2.j hj (f := 0) (by decide) (by omega)]
          refine w_iload_n dX11_tenth_30 rfl ?_
          exfalso
          omega

theorem p_tenth_o {I : xF4 Int32} {L : xF4 Int64} {a : aA} (hc : CourtIs I 0 a) (hw : WF a) {j n : Int32} (hx : j.toInt < 0 ∨ ((nJ a : Nat) : Int) ≤ j.toInt) : Tri 19 109 m_X10_tenth [vR 0 0 0, vI (j), vI (n)] (rM I L) (pCq (vI (-1)) I) := by
  refine ⟨k_X10_tenth, Nat.le_of_ble_eq_true rfl, ?_⟩
  show Wp _ _ _ 0 [some (vR 0 0 0), some (vI (j)), some (vI (n)), none] [] (rM I L) _
  obtain ⟨hJ, hC, hG, hD, hR, -⟩ := id hw
  refine w_aload_n dX10_tenth_0 rfl ?_
  refine w_getR (w := some (1, 0, 0)) ff_X10_10 rfl rfl dX10_tenth_1 rfl ?_
  refine w_iload_n dX10_tenth_4 rfl ?_
  refine w_callV (as := [vI (j)]) (st := []) (Tri.mono (c_jAtO hc hw (z_out (by omega) hx)) (Nat.le_of_ble_eq_true rfl)) rfl rfl tg_X1_judgeAt lk_X10_111 in_X1_judgeAt se_X1_judgeAt rfl dX10_tenth_5 rfl (Nat.le_of_ble_eq_true rfl) (Nat.le_refl _) (Nat.le_refl _) ?_
  rintro _ _ ⟨rfl, rfl⟩ -
  refine w_astore_n (ls' := [some (vR 0 0 0), some (vI (j)), some (vI (n)), some (vN)]) dX10_tenth_8 rfl ?_
  refine w_aload_n dX10_tenth_9 rfl ?_
  refine w_ifnull (tgt := 23) dX10_tenth_10 (by decide) (fun _ => ?_) (fun _ h => by cases h)
  refine w_iconst (v := (-1)) dX10_tenth_23 (by decide) ?_
  exact w_ireturn dX10_tenth_24 rfl (rfl) rfl (⟨rfl, _, _, rfl, FrQ.rf⟩)

theorem q_tenth_o {I : xF4 Int32} {L : xF4 Int64} {a : aA} (hs : SI I a) (hw : WF a) {j n : Int32} (hx : j.toInt < 0 ∨ ((nJ a : Nat) : Int) ≤ j.toInt) : Tri 19 109 m_X11_tenth [vR 30 0 0, vI (j), vI (n)] (rM I L) (pMq (vI (-1)) I) := by
  refine ⟨k_X11_tenth, Nat.le_of_ble_eq_true rfl, ?_⟩
  show Wp _ _ _ 0 [some (vR 30 0 0), some (vI (j)), some (vI (n))] [] (rM I L) _
  obtain ⟨hJ, hC, hG, hD, hR, -⟩ := id hw
  refine w_aload_n dX11_tenth_0 rfl ?_
  refine w_iload_n dX11_tenth_1 rfl ?_
  refine w_callV (as := [vI (j)]) (st := []) (Tri.mono (d_isJudge (hs.1) (by omega) (x := j) (X := j.toInt) rfl) (Nat.le_of_ble_eq_true rfl)) rfl rfl tg_X11_isJudge lk_X11_198 in_X11_isJudge se_X11_isJudge rfl dX11_tenth_2 rfl (Nat.le_of_ble_eq_true rfl) (Nat.le_refl _) (Nat.le_refl _) ?_
  rintro _ _ ⟨rfl, rfl⟩ -
  refine w_ifeq_b (tgt := 37) dX11_tenth_5 (by decide) (fun h1 => ?_) (fun h1 => ?_)
  · skip
    first
    | (exfalso; omega)
    | skip
      refine w_iconst (v := (-1)) dX11_tenth_37 (by decide) ?_
      exact w_ireturn dX11_tenth_38 rfl (rfl) rfl (⟨rfl, _, _, rfl, FrR.rf⟩)
  · skip
    first
    | (exfalso; omega)
    | skip
      refine w_iload_n dX11_tenth_8 rfl ?_
      refine w_i2l dX11_tenth_9 ?_
      refine w_lconst (v := 1) dX11_tenth_10 (by decide) ?_
      refine w_ldc2 dX11_tenth_11 cq_X11_207 ?_
      refine w_callS (as := [vL ((n : Int32).toInt64), vL (1), vL (60)]) (st := []) (Tri.mono (d_in ((n : Int32).toInt64) (1) (60)) (Nat.le_of_ble_eq_true rfl)) tg_X11_in lk_X11_66 sa_X11_in rfl dX11_tenth_14 rfl (Nat.le_of_ble_eq_true rfl) (Nat.le_refl _) (Nat.le_refl _) ?_
      rintro _ _ ⟨rfl, rfl⟩ -
      refine w_top (y := bI (1 ≤ n.toInt ∧ n.toInt ≤ 60)) (show (bI ((1 : Int64) ≤ ((n : Int32).toInt64) ∧ ((n : Int32).toInt64) ≤ (60 : Int64)) : Int32) = bI (1 ≤ n.toInt ∧ n.toInt ≤ 60) from inZ (x := n) (l := 1) (h := 60) (X := n.toInt) (A := 1) (B := 60) rfl (by decide) (by decide) rfl (by decide) (by decide)) ?_
      refine w_ifeq_b (tgt := 37) dX11_tenth_17 (by decide) (fun h2 => ?_) (fun h2 => ?_)
      · skip
        first
        | (exfalso; omega)
        | skip
          refine w_iconst (v := (-1)) dX11_tenth_37 (by decide) ?_
          exact w_ireturn dX11_tenth_38 rfl (rfl) rfl (⟨rfl, _, _, rfl, FrR.rf⟩)
      · skip
        first
        | (exfalso; omega)
        | skip
          refine w_aload_n dX11_tenth_20 rfl ?_
          refine w_getR (w := some (31, 0, 0)) ff_X11_7 rfl rfl dX11_tenth_21 rfl ?_
          refine w_iconst (v := 5) dX11_tenth_24 (by decide) ?_
          refine w_iload_n dX11_tenth_25 rfl ?_
          refine w_imul dX11_tenth_26 ?_
          refine w_iconst (v := 0) dX11_tenth_27 (by decide) ?_
          refine w_iadd dX11_tenth_28 ?_
          exfalso
          omega
