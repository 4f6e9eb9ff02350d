/-! all is made (by wip/whole/gen/g90.py) -/

theorem l_mdRows {R : xF4 (Option xId)} {I : xF4 Int32} {L : xF4 Int64} {Q : Option xV → xM → Prop} (kk : Wp 20 109 m_X11_init 83 [some (vR 30 0 0), none] [] (109, (mdR R, (mdI I, mdL L))) Q) : Wp 20 109 m_X11_init 0 [some (vR 30 0 0), none] [] (99, (R, (I, L))) Q := by
  refine w_aload_n dX11_init_0 rfl ?_
  refine w_objInit (o := none) oi_X11_1 oi_ins oi_code (by decide) dX11_init_1 rfl ?_
  refine w_aload_n dX11_init_4 rfl ?_
  refine w_sipush (v := 228) dX11_init_5 (by decide) ?_
  refine w_newa (t := 31) (k := 0) (j := 0) (ty := .int) (e := 0) rfl (by decide) rfl (fun _ => rfl) rfl ac_int (by decide) (by decide) (Nat.le_of_ble_eq_true rfl) rfl (by decide) (by decide) dX11_init_8 ?_
  refine w_putR fp_X11_7 rfl rfl rfl (fun _ => rfl) (fun _ => rfl) dX11_init_10 ?_
  refine w_aload_n dX11_init_13 rfl ?_
  refine w_bipush (v := 76) dX11_init_14 (by decide) ?_
  refine w_newa (t := 32) (k := 0) (j := 0) (ty := .int) (e := 0) rfl (by decide) rfl (fun _ => rfl) rfl ac_int (by decide) (by decide) (Nat.le_of_ble_eq_true rfl) rfl (by decide) (by decide) dX11_init_16 ?_
  refine w_putR fp_X11_13 rfl rfl rfl (fun _ => rfl) (fun _ => rfl) dX11_init_18 ?_
  refine w_aload_n dX11_init_21 rfl ?_
  refine w_iconst (v := 2) dX11_init_22 (by decide) ?_
  refine w_newa (t := 33) (k := 0) (j := 0) (ty := .boolean) (e := 2) rfl (by decide) rfl (fun _ => rfl) rfl ac_boolean (by decide) (by decide) (Nat.le_of_ble_eq_true rfl) rfl (by decide) (by decide) dX11_init_23 ?_
  refine w_putR fp_X11_16 rfl rfl rfl (fun _ => rfl) (fun _ => rfl) dX11_init_25 ?_
  refine w_aload_n dX11_init_28 rfl ?_
  refine w_bipush (v := 76) dX11_init_29 (by decide) ?_
  refine w_newa (t := 34) (k := 0) (j := 0) (ty := .int) (e := 0) rfl (by decide) rfl (fun _ => rfl) rfl ac_int (by decide) (by decide) (Nat.le_of_ble_eq_true rfl) rfl (by decide) (by decide) dX11_init_31 ?_
  refine w_putR fp_X11_20 rfl rfl rfl (fun _ => rfl) (fun _ => rfl) dX11_init_33 ?_
  refine w_aload_n dX11_init_36 rfl ?_
  refine w_sipush (v := 160) dX11_init_37 (by decide) ?_
  refine w_newa (t := 35) (k := 0) (j := 0) (ty := .int) (e := 0) rfl (by decide) rfl (fun _ => rfl) rfl ac_int (by decide) (by decide) (Nat.le_of_ble_eq_true rfl) rfl (by decide) (by decide) dX11_init_40 ?_
  refine w_putR fp_X11_23 rfl rfl rfl (fun _ => rfl) (fun _ => rfl) dX11_init_42 ?_
  refine w_aload_n dX11_init_45 rfl ?_
  refine w_iconst (v := 4) dX11_init_46 (by decide) ?_
  refine w_newa (t := 36) (k := 0) (j := 0) (ty := .int) (e := 0) rfl (by decide) rfl (fun _ => rfl) rfl ac_int (by decide) (by decide) (Nat.le_of_ble_eq_true rfl) rfl (by decide) (by decide) dX11_init_47 ?_
  refine w_putR fp_X11_26 rfl rfl rfl (fun _ => rfl) (fun _ => rfl) dX11_init_49 ?_
  refine w_aload_n dX11_init_52 rfl ?_
  refine w_iconst (v := 4) dX11_init_53 (by decide) ?_
  refine w_newa (t := 37) (k := 0) (j := 0) (ty := .int) (e := 0) rfl (by decide) rfl (fun _ => rfl) rfl ac_int (by decide) (by decide) (Nat.le_of_ble_eq_true rfl) rfl (by decide) (by decide) dX11_init_54 ?_
  refine w_putR fp_X11_29 rfl rfl rfl (fun _ => rfl) (fun _ => rfl) dX11_init_56 ?_
  refine w_aload_n dX11_init_59 rfl ?_
  refine w_iconst (v := 4) dX11_init_60 (by decide) ?_
  refine w_newa (t := 38) (k := 0) (j := 0) (ty := .int) (e := 0) rfl (by decide) rfl (fun _ => rfl) rfl ac_int (by decide) (by decide) (Nat.le_of_ble_eq_true rfl) rfl (by decide) (by decide) dX11_init_61 ?_
  refine w_putR fp_X11_32 rfl rfl rfl (fun _ => rfl) (fun _ => rfl) dX11_init_63 ?_
  refine w_aload_n dX11_init_66 rfl ?_
  refine w_sipush (v := 160) dX11_init_67 (by decide) ?_
  refine w_newa (t := 39) (k := 0) (j := 0) (ty := .int) (e := 0) rfl (by decide) rfl (fun _ => rfl) rfl ac_int (by decide) (by decide) (Nat.le_of_ble_eq_true rfl) rfl (by decide) (by decide) dX11_init_70 ?_
  refine w_putR fp_X11_35 rfl rfl rfl (fun _ => rfl) (fun _ => rfl) dX11_init_72 ?_
  refine w_aload_n dX11_init_75 rfl ?_
  refine w_bipush (v := 76) dX11_init_76 (by decide) ?_
  refine w_newa (t := 40) (k := 0) (j := 0) (ty := .int) (e := 0) rfl (by decide) rfl (fun _ => rfl) rfl ac_int (by decide) (by decide) (Nat.le_of_ble_eq_true rfl) rfl (by decide) (by decide) dX11_init_78 ?_
  refine w_putR fp_X11_38 rfl rfl rfl (fun _ => rfl) (fun _ => rfl) dX11_init_80 ?_
  exact kk

theorem l_lanes {L : xF4 Int64} {I0 : xF4 Int32} {Q : Option xV → xM → Prop} (kk : ∀ I, (∀ y, y < 4 → I 37 0 0 y = -4) → (∀ t k j s, t ≠ 37 → I t k j s = I0 t k j s) → Wp 20 109 m_X11_init 104 [some (vR 30 0 0), some (vI (nI 4))] [] (rM I L) Q) : ∀ (m c : Nat) (I : xF4 Int32), c + m = 4 → (∀ y, y < c → I 37 0 0 y = -4) → (∀ t k j s, t ≠ 37 → I t k j s = I0 t k j s) → Wp 20 109 m_X11_init 85 [some (vR 30 0 0), some (vI (nI c))] [] (rM I L) Q := by
  intro m
  induction m with
  | zero =>
    intro c I hi hz hf
    have e : c = 4 := by omega
    subst e
    refine w_iload_n dX11_init_85 rfl ?_
    refine w_iconst (v := 4) dX11_init_86 (by decide) ?_
    refine w_icmp_ge (tgt := 104) dX11_init_87 (by decide) (fun _ => ?_) (fun h => absurd (by decide) h)
    exact kk I hz hf
  | succ m ih =>
    intro c I hi hz hf
    have hlt : c < 4 := by omega
    refine w_iload_n dX11_init_85 rfl ?_
    refine w_iconst (v := 4) dX11_init_86 (by decide) ?_
    refine w_icmp_ge (tgt := 104) dX11_init_87 (by decide) (fun h => absurd h (nI_ge (b := 4) hlt (by omega))) (fun _ => ?_)
    refine w_aload_n dX11_init_90 rfl ?_
    refine w_getR (w := some (37, 0, 0)) ff_X11_29 rfl rfl dX11_init_91 rfl ?_
    refine w_iload_n dX11_init_94 rfl ?_
    refine w_bipush (v := (-4)) dX11_init_95 (by decide) ?_
    refine w_iastore (a := c) rfl (vp_in_nI (n := c) (by omega) (by omega)) (nI_clamp (n := c) (by omega)) dX11_init_97 ?_
    refine w_iinc (v := nI (c + 1)) (ls' := [some (vR 30 0 0), some (vI (nI (c + 1)))]) dX11_init_98 rfl (nI_1 _) rfl ?_
    refine w_goto (tgt := 85) dX11_init_101 (by decide) ?_
    refine ih (c + 1) _ (by omega) (fun y hy => ?_) (fun t k j s h => (xup_tag h).trans (hf t k j s h))
    by_cases e : y = c
    · rw [e, xup_self]
    · rw [xup_slot e]; exact hz y (by omega)

theorem made_sim : MadeSim Inv := by
  refine ⟨k_X11_init, Nat.le_of_ble_eq_true rfl, ?_⟩
  refine l_mdRows ?_
  refine Wp.conv (M' := rM iI zL) ?_ rfl xEq_made (fun i s x h hx => xR0_closed i s x h hx)
  refine w_iconst (v := 0) dX11_init_83 (by decide) ?_
  refine w_istore_n (ls' := [some (vR 30 0 0), some (vI (0))]) dX11_init_84 rfl ?_
  refine l_lanes (I0 := iI) (fun I1 z1 f1 => ?_) 4 0 iI rfl (fun y hy => absurd hy (Nat.not_lt_zero _)) (fun _ _ _ _ _ => rfl)
  refine w_aload_n dX11_init_104 rfl ?_
  refine w_callV (as := []) (st := []) (Tri.mono (d_first (I := I1)) (Nat.le_of_ble_eq_true rfl)) rfl rfl tg_X11_firstDraft lk_X11_41 in_X11_firstDraft se_X11_firstDraft rfl dX11_init_105 rfl (Nat.le_of_ble_eq_true rfl) (Nat.le_refl _) (Nat.le_refl _) ?_
  rintro v M9 ⟨rfl, I2, rfl, m2, f2⟩ -
  refine w_aload_n dX11_init_108 rfl ?_
  refine w_callV (as := []) (st := []) (Tri.mono (d_keepD (I := I2) DOK.z.1 m2) (Nat.le_of_ble_eq_true rfl)) rfl rfl tg_X11_keepDraft lk_X11_44 in_X11_keepDraft se_X11_keepDraft rfl dX11_init_109 rfl (Nat.le_of_ble_eq_true rfl) (Nat.le_refl _) (Nat.le_refl _) ?_
  rintro v M9 ⟨rfl, I3, rfl, s3, a3, b3, f3⟩ -
  have lo : ∀ t k j s, t < 30 → I3 t k j s = iI t k j s := fun t k j s ht => (f3 t k j s (by omega) (by omega) (by omega)).trans ((f2 t k j s (by omega) (by omega)).trans (f1 t k j s (by omega)))
  have q30 : ∀ s, s = 10 ∨ s = 15 ∨ s = 26 → I3 30 0 0 s = 0 := fun s hs => (f3 30 0 0 s (by omega) (by omega) (by omega)).trans ((f2 30 0 0 s (by omega) (by omega)).trans (f1 30 0 0 s (by omega)))
  have q37 : ∀ k, k < 4 → I3 37 0 0 k = -4 := fun k hk => (f3 37 0 0 k (by omega) (by omega) (by omega)).trans ((f2 37 0 0 k (by omega) (by omega)).trans (z1 k hk))
  let g : gG := (draft0, ((fun _ => none), (0, ((fun _ => 0), (0, ((fun _ => none), 0))))))
  have hg : WG g := ⟨DOK.z.1, Nat.zero_le _, fun k hk b hb => (by cases hb), Nat.zero_le _, fun i hi => absurd hi (Nat.not_lt_zero _), fun k hk q hq => (by cases hq)⟩
  have hc : CH I3 g := ⟨⟨lo 1 0 0 3 (by omega), lo 1 0 0 4 (by omega), lo 1 0 0 5 (by omega), lo 1 0 0 6 (by omega), lo 1 0 0 7 (by omega), fun j hj => absurd hj (Nat.not_lt_zero _), fun c hc => absurd hc (Nat.not_lt_zero _), fun i hi => absurd hi (Nat.not_lt_zero _)⟩, fun k hk => lo 9 k 0 1 (by omega), lo 10 0 0 1 (by omega), fun i hi => absurd hi (Nat.not_lt_zero _), lo 10 0 0 2 (by omega), fun k hk => lo 20 k 0 1 (by omega), lo 0 0 0 8 (by omega)⟩
  have hm : MH I3 g := ⟨s3, fun k hk => (by
      rcases (show k = 0 ∨ k = 1 by omega) with rfl | rfl
      · exact a3
      · exact b3), q30 10 (by omega), fun i hi => absurd hi (Nat.not_lt_zero _), q30 15 (by omega), q37, q30 26 (by omega)⟩
  exact w_return dX11_init_112 rfl rfl (⟨rfl, _, _, rfl, g, hg, hc, hm⟩)
