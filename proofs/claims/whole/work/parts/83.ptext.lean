/-! the call of a text, by the class (by wip/whole/gen/g84.py) -/
abbrev txF (g : gG) (c : Nat) : gG := (gA g, (g.2.1, (0, (g.2.2.2.1, (nI c, g.2.2.2.2.2)))))
abbrev txO (g : gG) (a : aA) : gG := (a, ((fun _ => none), (0, (g.2.2.2.1, (0, g.2.2.2.2.2)))))
abbrev txG (g : gG) : (tS × (aA × Bool)) × Nat := txT (gTn g) (gTb g)
theorem WG.bk {g : gG} (h : WG g) : BK (gTn g) (gTb g) := ⟨h.2.2.2.1, h.2.2.2.2.1⟩
theorem CH.tb {I : xF4 Int32} {g : gG} (h : CH I g) : TB I (gTn g) (gTb g) := ⟨h.2.2.1, h.2.2.2.1⟩
theorem FrZ.ch {I I' I2 : xF4 Int32} {g : gG} {c : Nat} (h : CH I g) (f : FrZ I I') (e2 : I' 10 0 0 2 = nI c) (e : ∀ t b j s, ¬ (t = 10 ∧ s = 1) → I2 t b j s = I' t b j s) (e1 : I2 10 0 0 1 = nI 0) : CH I2 (txF g c) := by
  obtain ⟨h1, h2, h3, h4, h5, h6, h7⟩ := h
  have q : ∀ t b j s, ¬ ((t = 1 ∨ t = 3 ∨ t = 5 ∨ t = 7) ∧ b = 1) → ¬ t = 10 → I2 t b j s = I t b j s := fun t b j s p p2 => (e t b j s (by omega)).trans (f t b j s p (by omega))
  exact ⟨h1.eqv (fun t j s ht => q t 0 j s (by omega) (by omega)), fun k hk => (h2 k hk).eqv (q 9 k 0 1 (by omega) (by omega)) (fun t j s ht => q t (2 + k) j s (by omega) (by omega)), e1, fun i hi => absurd hi (Nat.not_lt_zero _), (e 10 0 0 2 (by omega)).trans e2, fun k hk => (h6 k hk).eqv (fun s => q 20 k 0 s (by omega) (by omega)) (fun s => q 21 k 0 s (by omega) (by omega)), (q 0 0 0 8 (by omega) (by omega)).trans h7⟩
theorem TXo.ch {I I' : xF4 Int32} {g : gG} {a : aA} (h : CH I g) (f : ∀ t b j s, 10 < t ∨ t = 0 → I' t b j s = I t b j s) (hc : CourtIs I' 0 a) (e9 : ∀ k, k < 2 → I' 9 k 0 1 = 0) (e1 : I' 10 0 0 1 = nI 0) (e2 : I' 10 0 0 2 = 0) : CH I' (txO g a) := by
  obtain ⟨h1, h2, h3, h4, h5, h6, h7⟩ := h
  exact ⟨hc, e9, e1, fun i hi => absurd hi (Nat.not_lt_zero _), e2, fun k hk => (h6 k hk).eqv (fun s => f 20 k 0 s (by omega)) (fun s => f 21 k 0 s (by omega)), (f 0 0 0 8 (by omega)).trans h7⟩
theorem beg_is {I I' : xF4 Int32} {k : Nat} (e : ∀ s, I' 1 k 0 s = begI I k 1 k 0 s) : CourtIs I' k draft0 :=
  ⟨(e 3).trans (by simp [begI, xup]; rfl), (e 4).trans (by simp [begI, xup]; rfl), (e 5).trans (by simp [begI, xup]; rfl), (e 6).trans (by simp [begI, xup]; rfl), (e 7).trans (by simp [begI, xup]; rfl), fun j hj => absurd hj (Nat.not_lt_zero _), fun c hc => absurd hc (Nat.not_lt_zero _), fun i hi => absurd hi (Nat.not_lt_zero _)⟩
theorem FrC.beg {I : xF4 Int32} {k : Nat} : FrC k I (begI I k) := ((((FrC.up (Or.inl rfl)).tr (FrC.up (Or.inl rfl))).tr (FrC.up (Or.inl rfl))).tr (FrC.up (Or.inl rfl))).tr (FrC.up (Or.inl rfl))

theorem c_parse {I : xF4 Int32} {L : xF4 Int64} {n : Nat} {b : Nat → Nat} (hk : BK n b) (ht : TB I n b) : Tri 8 109 m_X9_parse [vR 10 0 0, vR 1 1 0] (rM I L) (pPr n (txT n b) I L) := by
  refine ⟨k_X9_parse, Nat.le_of_ble_eq_true rfl, ?_⟩
  show Wp _ _ _ 0 [some (vR 10 0 0), some (vR 1 1 0), none] [] (rM I L) _
  refine w_aload_n dX9_parse_0 rfl ?_
  refine w_callV (as := []) (st := []) (Tri.mono (c_begin 1) (Nat.le_of_ble_eq_true rfl)) rfl rfl tg_X1_begin lk_X9_25 in_X1_begin se_X1_begin rfl dX9_parse_1 rfl (Nat.le_of_ble_eq_true rfl) (Nat.le_refl _) (Nat.le_refl _) ?_
  rintro _ _ ⟨rfl, rfl⟩ -
  refine w_aload_n dX9_parse_4 rfl ?_
  refine w_iconst (v := 0) dX9_parse_5 (by decide) ?_
  refine w_putI ff_X9_19 rfl rfl rfl rfl dX9_parse_6 ?_
  refine w_aload_n dX9_parse_9 rfl ?_
  refine w_iconst (v := 0) dX9_parse_10 (by decide) ?_
  refine w_putI ff_X9_22 rfl rfl rfl rfl dX9_parse_11 ?_
  refine w_aload_n dX9_parse_14 rfl ?_
  refine w_iconst (v := 0) dX9_parse_15 (by decide) ?_
  refine w_putI ff_X9_30 rfl rfl rfl rfl dX9_parse_16 ?_
  refine w_aload_n dX9_parse_19 rfl ?_
  refine w_iconst (v := 0) dX9_parse_20 (by decide) ?_
  refine w_putI ff_X9_33 rfl rfl rfl rfl dX9_parse_21 ?_
  refine w_iconst (v := 0) dX9_parse_24 (by decide) ?_
  refine w_istore_n (ls' := [some (vR 10 0 0), some (vR 1 1 0), some (vI (0))]) dX9_parse_25 rfl ?_
  refine w_aload_n dX9_parse_26 rfl ?_
  obtain ⟨I9, hI9⟩ : ∃ z, z = xup (xup (xup (xup ((begI I 1)) 10 0 0 2 (0)) 10 0 0 3 (0)) 10 0 0 6 (0)) 10 0 0 8 (0) := ⟨_, rfl⟩
  rw [← hI9]
  have q1 : ∀ t k j s, t ≠ 10 → I9 t k j s = begI I 1 t k j s := fun t k j s h => by rw [hI9]; exact (xup_tag h).trans ((xup_tag h).trans ((xup_tag h).trans (xup_tag h)))
  have q2 : I9 10 0 0 2 = 0 := by rw [hI9]; exact (xup_slot (by decide)).trans ((xup_slot (by decide)).trans ((xup_slot (by decide)).trans xup_self))
  have q6 : I9 10 0 0 6 = 0 := by rw [hI9]; exact (xup_slot (by decide)).trans xup_self
  have q8 : I9 10 0 0 8 = 0 := by rw [hI9]; exact xup_self
  have fz : FrZ I I9 := fun t b j s p q => by
    by_cases e : t = 10
    · subst e
      have z : ∀ x v, 2 ≤ x → ∀ J : xF4 Int32, xup J 10 0 0 x v 10 b j s = J 10 b j s := fun x v hx J => by
        unfold xup
        rw [if_neg (by rintro ⟨-, -, -, rfl⟩; exact q ⟨rfl, hx⟩)]
      rw [hI9, z _ _ (by decide), z _ _ (by decide), z _ _ (by decide), z _ _ (by decide)]
      exact FrC.beg (k := 1) 10 b j s (by omega)
    · exact (q1 t b j s e).trans (FrC.beg (k := 1) t b j s p)
  refine w_callV (as := []) (st := []) (Tri.mono (c_take0 hk (fz.tb ht) q2 q6) (Nat.le_of_ble_eq_true rfl)) rfl rfl tg_X9_take lk_X9_37 in_X9_take se_X9_take rfl dX9_parse_27 rfl (Nat.le_of_ble_eq_true rfl) (Nat.le_refl _) (Nat.le_refl _) ?_
  rintro v M9 ⟨rfl, I1, rfl, t1, f1⟩ -
  exact l_parse hk 161 0 _ (draft0, false) I1 rfl (lex_ok (Nat.zero_le _)) t1 ((fz.tr f1.u).tb ht) (fz.tr f1.u) (fun q z => ⟨beg_is (fun s => (f1 1 1 0 s (by omega)).trans (q1 1 1 0 s (by decide))), DOK.z, (f1 10 0 0 8 (by omega)).trans q8, Nat.zero_le _⟩)

theorem c_drop {I : xF4 Int32} {L : xF4 Int64} : Tri 1 109 m_X10_dropImages [vR 0 0 0] (rM I L) (pV (xup (xup I 9 0 0 1 0) 9 1 0 1 0) L) := by
  refine ⟨k_X10_dropImages, Nat.le_of_ble_eq_true rfl, ?_⟩
  show Wp _ _ _ 0 [some (vR 0 0 0), none, none] [] (rM I L) _
  refine w_iconst (v := 0) dX10_dropImages_0 (by decide) ?_
  refine w_istore_n (ls' := [some (vR 0 0 0), some (vI (0)), none]) dX10_dropImages_1 rfl ?_
  refine w_iload_n dX10_dropImages_2 rfl ?_
  refine w_iconst (v := 2) dX10_dropImages_3 (by decide) ?_
  refine w_icmp_ge (tgt := 28) dX10_dropImages_4 (by decide) (fun h => absurd h (by decide)) (fun _ => ?_)
  refine w_aload_n dX10_dropImages_7 rfl ?_
  refine w_iload_n dX10_dropImages_8 rfl ?_
  refine w_callV (as := [vI (0)]) (st := []) (Tri.mono (c_imageAt (i := 0) (by decide)) (Nat.le_of_ble_eq_true rfl)) rfl rfl tg_X10_imageAt lk_X10_291 in_X10_imageAt se_X10_imageAt rfl dX10_dropImages_9 rfl (Nat.le_of_ble_eq_true rfl) (Nat.le_refl _) (Nat.le_refl _) ?_
  rintro _ _ ⟨rfl, rfl⟩ -
  refine w_astore_n (ls' := [some (vR 0 0 0), some (vI (0)), some (vR 9 0 0)]) dX10_dropImages_12 rfl ?_
  refine w_aload_n dX10_dropImages_13 rfl ?_
  refine w_ifnull (tgt := 22) dX10_dropImages_14 (by decide) (fun h => by cases h) (fun _ _ => ?_)
  refine w_aload_n dX10_dropImages_17 rfl ?_
  refine w_iconst (v := 0) dX10_dropImages_18 (by decide) ?_
  refine w_putI ff_X10_295 rfl rfl rfl rfl dX10_dropImages_19 ?_
  refine w_iinc (v := 1) (ls' := [some (vR 0 0 0), some (vI (1)), some (vR 9 0 0)]) dX10_dropImages_22 rfl (by decide) rfl ?_
  refine w_goto (tgt := 2) dX10_dropImages_25 (by decide) ?_
  refine w_iload_n dX10_dropImages_2 rfl ?_
  refine w_iconst (v := 2) dX10_dropImages_3 (by decide) ?_
  refine w_icmp_ge (tgt := 28) dX10_dropImages_4 (by decide) (fun h => absurd h (by decide)) (fun _ => ?_)
  refine w_aload_n dX10_dropImages_7 rfl ?_
  refine w_iload_n dX10_dropImages_8 rfl ?_
  refine w_callV (as := [vI (1)]) (st := []) (Tri.mono (c_imageAt (i := 1) (by decide)) (Nat.le_of_ble_eq_true rfl)) rfl rfl tg_X10_imageAt lk_X10_291 in_X10_imageAt se_X10_imageAt rfl dX10_dropImages_9 rfl (Nat.le_of_ble_eq_true rfl) (Nat.le_refl _) (Nat.le_refl _) ?_
  rintro _ _ ⟨rfl, rfl⟩ -
  refine w_astore_n (ls' := [some (vR 0 0 0), some (vI (1)), some (vR 9 1 0)]) dX10_dropImages_12 rfl ?_
  refine w_aload_n dX10_dropImages_13 rfl ?_
  refine w_ifnull (tgt := 22) dX10_dropImages_14 (by decide) (fun h => by cases h) (fun _ _ => ?_)
  refine w_aload_n dX10_dropImages_17 rfl ?_
  refine w_iconst (v := 0) dX10_dropImages_18 (by decide) ?_
  refine w_putI ff_X10_295 rfl rfl rfl rfl dX10_dropImages_19 ?_
  refine w_iinc (v := 2) (ls' := [some (vR 0 0 0), some (vI (2)), some (vR 9 1 0)]) dX10_dropImages_22 rfl (by decide) rfl ?_
  refine w_goto (tgt := 2) dX10_dropImages_25 (by decide) ?_
  refine w_iload_n dX10_dropImages_2 rfl ?_
  refine w_iconst (v := 2) dX10_dropImages_3 (by decide) ?_
  refine w_icmp_ge (tgt := 28) dX10_dropImages_4 (by decide) (fun _ => ?_) (fun h => absurd (by decide) h)
  exact w_return dX10_dropImages_28 rfl rfl (⟨rfl, rfl⟩)

theorem p_text {I : xF4 Int32} {L : xF4 Int64} {g : gG} (hg : WG g) (hh : CH I g) {q : Nat × (Nat × (Nat × Nat))} (hz : (txG g).1.1 = .inr q) : Tri 19 109 m_X10_text [vR 0 0 0] (rM I L) (pCl (vI (nI (txG g).2)) (txO g (txG g).1.2.1) I) := by
  refine ⟨k_X10_text, Nat.le_of_ble_eq_true rfl, ?_⟩
  show Wp _ _ _ 0 [some (vR 0 0 0), none] [] (rM I L) _
  obtain ⟨hw, hd9, hgi, ht160, htb, hgs⟩ := id hg
  obtain ⟨z9, hz9⟩ : ∃ z, z = txG g := ⟨_, rfl⟩
  rw [← hz9] at hz ⊢
  refine w_aload_n dX10_text_0 rfl ?_
  refine w_getR (w := some (10, 0, 0)) ff_X10_29 rfl rfl dX10_text_1 rfl ?_
  refine w_aload_n dX10_text_4 rfl ?_
  refine w_getR (w := some (1, 1, 0)) ff_X10_16 rfl rfl dX10_text_5 rfl ?_
  refine w_callV (as := [vR 1 1 0]) (st := []) (Tri.mono (c_parse hg.bk hh.tb) (Nat.le_of_ble_eq_true rfl)) rfl rfl tg_X9_parse lk_X10_72 in_X9_parse se_X9_parse rfl dX10_text_8 rfl (Nat.le_of_ble_eq_true rfl) (Nat.le_refl _) (Nat.le_refl _) ?_
  rw [show txT (gTn g) (gTb g) = z9 from hz9.symm]
  rintro v M9 ⟨rfl, I1, rfl, t1, o1, f1, v1⟩ -
  rw [hz] at t1 o1 v1
  refine w_istore_n (ls' := [some (vR 0 0 0), some (vI (nI z9.2))]) dX10_text_11 rfl ?_
  refine w_aload_n dX10_text_12 rfl ?_
  refine w_getR (w := some (10, 0, 0)) ff_X10_29 rfl rfl dX10_text_13 rfl ?_
  refine w_iconst (v := 0) dX10_text_16 (by decide) ?_
  refine w_putI ff_X10_69 rfl rfl rfl rfl dX10_text_17 ?_
  refine w_aload_n dX10_text_20 rfl ?_
  refine w_getR (w := some (10, 0, 0)) ff_X10_29 rfl rfl dX10_text_21 rfl ?_
  refine w_getI ff_X10_76 rfl rfl dX10_text_24 ?_
  rw [show ((xup I1 10 0 0 1 (0)) 10 0 0 2 : Int32) = 0 from (xup_slot (by decide)).trans t1.1]
  refine w_if_eq (tgt := 41) dX10_text_27 (by decide) (fun _ => ?_) (fun h => absurd (rfl) h)
  refine w_aload_n dX10_text_41 rfl ?_
  refine w_getR (w := some (1, 0, 0)) ff_X10_10 rfl rfl dX10_text_42 rfl ?_
  refine w_aload_n dX10_text_45 rfl ?_
  refine w_getR (w := some (1, 1, 0)) ff_X10_16 rfl rfl dX10_text_46 rfl ?_
  obtain ⟨c1, d1⟩ := v1 q rfl
  refine w_callV (as := [vR 1 1 0]) (st := []) (Tri.mono (c_copy (k := 0) (k2 := 1) (by decide) d1.1 (c1.eqv (fun t j s ht => xup_tag (by omega)))) (Nat.le_of_ble_eq_true rfl)) rfl rfl tg_X1_copy lk_X10_82 in_X1_copy se_X1_copy rfl dX10_text_49 rfl (Nat.le_of_ble_eq_true rfl) (Nat.le_refl _) (Nat.le_refl _) ?_
  rintro v M9 ⟨rfl, I2, rfl, c2, f2⟩ -
  refine w_aload_n dX10_text_52 rfl ?_
  refine w_callV (as := []) (st := []) (Tri.mono (c_drop (I := I2)) (Nat.le_of_ble_eq_true rfl)) rfl rfl tg_X10_dropImages lk_X10_86 in_X10_dropImages se_X10_dropImages rfl dX10_text_53 rfl (Nat.le_of_ble_eq_true rfl) (Nat.le_refl _) (Nat.le_refl _) ?_
  rintro _ _ ⟨rfl, rfl⟩ -
  refine w_iload_n dX10_text_56 rfl ?_
  have lo : ∀ t b j s, 10 < t ∨ t = 0 → (xup (xup I2 9 0 0 1 0) 9 1 0 1 0 : xF4 Int32) t b j s = I t b j s := fun t b j s ht => (xup_tag (by omega)).trans ((xup_tag (by omega)).trans ((f2 t b j s (by omega)).trans ((xup_tag (by omega)).trans (f1 t b j s (by omega) (by omega)))))
  have e9 : ∀ k, k < 2 → (xup (xup I2 9 0 0 1 0) 9 1 0 1 0 : xF4 Int32) 9 k 0 1 = 0 := fun k hk => by
    rcases (show k = 0 ∨ k = 1 by omega) with rfl | rfl
    · simp [xup]
    · simp [xup]
  exact w_ireturn dX10_text_57 rfl (rfl) rfl (⟨rfl, _, _, rfl, TXo.ch hh lo (c2.eqv (fun t j s ht => (xup_tag (by omega)).trans (xup_tag (by omega)))) e9 ((xup_tag (by decide)).trans ((xup_tag (by decide)).trans ((f2 10 0 0 1 (by omega)).trans xup_self))) ((xup_tag (by decide)).trans ((xup_tag (by decide)).trans ((f2 10 0 0 2 (by omega)).trans ((xup_slot (by decide)).trans t1.1)))), fun t b j s ht => lo t b j s (by omega)⟩)

theorem p_text_f {I : xF4 Int32} {L : xF4 Int64} {g : gG} (hg : WG g) (hh : CH I g) {c p : Nat} (hz : (txG g).1.1 = .inl (c, p)) : Tri 19 109 m_X10_text [vR 0 0 0] (rM I L) (pCl (vI (-10 - nI p)) (txF g c) I) := by
  refine ⟨k_X10_text, Nat.le_of_ble_eq_true rfl, ?_⟩
  show Wp _ _ _ 0 [some (vR 0 0 0), none] [] (rM I L) _
  obtain ⟨hw, hd9, hgi, ht160, htb, hgs⟩ := id hg
  obtain ⟨z9, hz9⟩ : ∃ z, z = txG g := ⟨_, rfl⟩
  rw [← hz9] at hz
  refine w_aload_n dX10_text_0 rfl ?_
  refine w_getR (w := some (10, 0, 0)) ff_X10_29 rfl rfl dX10_text_1 rfl ?_
  refine w_aload_n dX10_text_4 rfl ?_
  refine w_getR (w := some (1, 1, 0)) ff_X10_16 rfl rfl dX10_text_5 rfl ?_
  refine w_callV (as := [vR 1 1 0]) (st := []) (Tri.mono (c_parse hg.bk hh.tb) (Nat.le_of_ble_eq_true rfl)) rfl rfl tg_X9_parse lk_X10_72 in_X9_parse se_X9_parse rfl dX10_text_8 rfl (Nat.le_of_ble_eq_true rfl) (Nat.le_refl _) (Nat.le_refl _) ?_
  rw [show txT (gTn g) (gTb g) = z9 from hz9.symm]
  rintro v M9 ⟨rfl, I1, rfl, t1, o1, f1, v1⟩ -
  rw [hz] at t1 o1 v1
  refine w_istore_n (ls' := [some (vR 0 0 0), some (vI (nI z9.2))]) dX10_text_11 rfl ?_
  refine w_aload_n dX10_text_12 rfl ?_
  refine w_getR (w := some (10, 0, 0)) ff_X10_29 rfl rfl dX10_text_13 rfl ?_
  refine w_iconst (v := 0) dX10_text_16 (by decide) ?_
  refine w_putI ff_X10_69 rfl rfl rfl rfl dX10_text_17 ?_
  refine w_aload_n dX10_text_20 rfl ?_
  refine w_getR (w := some (10, 0, 0)) ff_X10_29 rfl rfl dX10_text_21 rfl ?_
  refine w_getI ff_X10_76 rfl rfl dX10_text_24 ?_
  rw [show ((xup I1 10 0 0 1 (0)) 10 0 0 2 : Int32) = nI c from (xup_slot (by decide)).trans t1.1]
  refine w_if_eq (tgt := 41) dX10_text_27 (by decide) (fun h => absurd h ((fun z => absurd ((nI_eq (b := 0) (Nat.lt_of_le_of_lt o1.2.1 (by decide)) (by decide)).mp z) (Nat.pos_iff_ne_zero.mp o1.1)))) (fun _ => ?_)
  refine w_bipush (v := (-10)) dX10_text_30 (by decide) ?_
  refine w_aload_n dX10_text_32 rfl ?_
  refine w_getR (w := some (10, 0, 0)) ff_X10_29 rfl rfl dX10_text_33 rfl ?_
  refine w_getI ff_X10_79 rfl rfl dX10_text_36 ?_
  rw [show ((xup I1 10 0 0 1 (0)) 10 0 0 3 : Int32) = nI p from (xup_slot (by decide)).trans t1.2]
  refine w_isub dX10_text_39 ?_
  exact w_ireturn dX10_text_40 rfl (rfl) rfl (⟨rfl, _, _, rfl, FrZ.ch hh f1 t1.1 (fun t b j s hn => by unfold xup; rw [if_neg (by rintro ⟨rfl, rfl, rfl, rfl⟩; exact hn ⟨rfl, rfl⟩)]) xup_self, fun t b j s ht => (xup_tag (by omega)).trans (f1 t b j s (by omega) (by omega))⟩)
