/-! sheets, counts, both ways (by wip/whole/gen/g77.py) -/
def shI : Option (Nat × (Nat × (Nat → Int32))) → Int32
  | none => -4
  | some q => nI q.2.1
/-- a cell as its lane holds it -/
def narI (l : Nat) (v : Int32) : Int32 := if l = 0 then v.toInt8.toInt32 else if l = 1 then v.toInt16.toInt32 else v

theorem l_sheetBegin {L : xF4 Int64} {k l n : Nat} {I0 : xF4 Int32} : ∀ (m i : Nat) (I : xF4 Int32), i + m = 40 → I 20 k 0 1 = 1 → I 20 k 0 2 = nI l → I 20 k 0 3 = nI n → (∀ x, x < i → I 21 k 0 x = 0) → (∀ t b j s, ¬ ((t = 20 ∨ t = 21) ∧ b = k) → I t b j s = I0 t b j s) → Wp 0 109 m_X6_begin 17 [some (vR 20 k 0), some (vI (nI l)), some (vI (nI n)), some (vI (nI i))] [] (rM I L) (fun v M => v = none ∧ ∃ I', M = rM I' L ∧ ShC I' k (some (l, (n, fun _ => 0))) ∧ ∀ t b j s, ¬ ((t = 20 ∨ t = 21) ∧ b = k) → I' t b j s = I0 t b j s) := by
  intro m
  induction m with
  | zero =>
    intro i I hi h1 h2 h3 hz hf
    have e : i = 40 := by omega
    subst e
    refine w_iload_n dX6_begin_17 rfl ?_
    refine w_aload_n dX6_begin_18 rfl ?_
    refine w_getR (w := some (21, k, 0)) ff_X6_9 rfl rfl dX6_begin_19 rfl ?_
    refine w_alen (v := 40) rfl rfl dX6_begin_22 ?_
    refine w_icmp_ge (tgt := 39) dX6_begin_23 (by decide) (fun _ => ?_) (fun h => absurd (by decide) h)
    exact w_return dX6_begin_39 rfl rfl (⟨rfl, I, rfl, ⟨h1, h2, h3, hz⟩, hf⟩)
  | succ m ih =>
    intro i I hi h1 h2 h3 hz hf
    have hlt : i < 40 := by omega
    refine w_iload_n dX6_begin_17 rfl ?_
    refine w_aload_n dX6_begin_18 rfl ?_
    refine w_getR (w := some (21, k, 0)) ff_X6_9 rfl rfl dX6_begin_19 rfl ?_
    refine w_alen (v := 40) rfl rfl dX6_begin_22 ?_
    refine w_icmp_ge (tgt := 39) dX6_begin_23 (by decide) (fun h => absurd h (nI_ge (b := 40) hlt (by omega))) (fun _ => ?_)
    refine w_aload_n dX6_begin_26 rfl ?_
    refine w_getR (w := some (21, k, 0)) ff_X6_9 rfl rfl dX6_begin_27 rfl ?_
    refine w_iload_n dX6_begin_30 rfl ?_
    refine w_iconst (v := 0) dX6_begin_31 (by decide) ?_
    refine w_iastore (a := i) rfl (vp_in_nI (n := i) (by omega) (by omega)) (nI_clamp (n := i) (by omega)) dX6_begin_32 ?_
    refine w_iinc (v := nI (i + 1)) (ls' := [some (vR 20 k 0), some (vI (nI l)), some (vI (nI n)), some (vI (nI (i + 1)))]) dX6_begin_33 rfl (nI_1 _) rfl ?_
    refine w_goto (tgt := 17) dX6_begin_36 (by decide) ?_
    refine ih (i + 1) _ (by omega) ((xup_tag (by decide)).trans h1) ((xup_tag (by decide)).trans h2) ((xup_tag (by decide)).trans h3) (fun x hx => ?_) (fun t b j s hn => ?_)
    · by_cases e : x = i
      · rw [e, xup_self]
      · rw [xup_slot e]; exact hz x (by omega)
    · unfold xup
      rw [if_neg (by rintro ⟨rfl, rfl, rfl, rfl⟩; exact hn ⟨Or.inr rfl, rfl⟩)]
      exact hf t b j s hn

theorem c_sheetBegin {I : xF4 Int32} {L : xF4 Int64} (k l n : Nat) : Tri 0 109 m_X6_begin [vR 20 k 0, vI (nI l), vI (nI n)] (rM I L) (fun v M => v = none ∧ ∃ I', M = rM I' L ∧ ShC I' k (some (l, (n, fun _ => 0))) ∧ ∀ t b j s, ¬ ((t = 20 ∨ t = 21) ∧ b = k) → I' t b j s = I t b j s) := by
  refine ⟨k_X6_begin, Nat.le_of_ble_eq_true rfl, ?_⟩
  show Wp _ _ _ 0 [some (vR 20 k 0), some (vI (nI l)), some (vI (nI n)), none] [] (rM I L) _
  refine w_aload_n dX6_begin_0 rfl ?_
  refine w_iconst (v := 1) dX6_begin_1 (by decide) ?_
  refine w_putI ff_X6_15 rfl rfl rfl rfl dX6_begin_2 ?_
  refine w_aload_n dX6_begin_5 rfl ?_
  refine w_iload_n dX6_begin_6 rfl ?_
  refine w_putI ff_X6_19 rfl rfl rfl rfl dX6_begin_7 ?_
  refine w_aload_n dX6_begin_10 rfl ?_
  refine w_iload_n dX6_begin_11 rfl ?_
  refine w_putI ff_X6_23 rfl rfl rfl rfl dX6_begin_12 ?_
  refine w_iconst (v := 0) dX6_begin_15 (by decide) ?_
  refine w_istore_n (ls' := [some (vR 20 k 0), some (vI (nI l)), some (vI (nI n)), some (vI (0))]) dX6_begin_16 rfl ?_
  refine l_sheetBegin 40 0 _ rfl ((xup_slot (by decide)).trans ((xup_slot (by decide)).trans xup_self)) ((xup_slot (by decide)).trans xup_self) xup_self (fun x hx => absurd hx (Nat.not_lt_zero _)) (fun t b j s hn => ?_)
  unfold xup
  rw [if_neg (by rintro ⟨rfl, rfl, rfl, rfl⟩; exact hn ⟨Or.inl rfl, rfl⟩), if_neg (by rintro ⟨rfl, rfl, rfl, rfl⟩; exact hn ⟨Or.inl rfl, rfl⟩), if_neg (by rintro ⟨rfl, rfl, rfl, rfl⟩; exact hn ⟨Or.inl rfl, rfl⟩)]

theorem l_sheetM {L : xF4 Int64} {k l n : Nat} (hk : k < 4) (hl : l < 3) (hn : n ≤ 40) {I0 : xF4 Int32} : ∀ (m i : Nat) (I : xF4 Int32), i + m = 40 → I 37 0 0 k = nI l → I 38 0 0 k = nI n → (∀ x, x < i → I 39 0 0 (40 * k + x) = 0) → (∀ t b j s, ¬ (t = 37 ∧ s = k) → ¬ (t = 38 ∧ s = k) → ¬ (t = 39 ∧ 40 * k ≤ s ∧ s < 40 * k + 40) → I t b j s = I0 t b j s) → Wp 19 109 m_X11_sheet 40 [some (vR 30 0 0), some (vI (nI k)), some (vI (nI l)), some (vI (nI n)), some (vI (nI i))] [] (rM I L) (fun v M => v = some (vI 1) ∧ ∃ I' L1, M = rM I' L1 ∧ ShM I' k (some (l, (n, fun _ => 0))) ∧ (∀ t b j s, ¬ (t = 37 ∧ s = k) → ¬ (t = 38 ∧ s = k) → ¬ (t = 39 ∧ 40 * k ≤ s ∧ s < 40 * k + 40) → I' t b j s = I0 t b j s)) := by
  intro m
  induction m with
  | zero =>
    intro i I hi h1 h2 hz hf
    have e : i = 40 := by omega
    subst e
    refine w_iload dX11_sheet_40 rfl ?_
    refine w_bipush (v := 40) dX11_sheet_42 (by decide) ?_
    refine w_icmp_ge (tgt := 66) dX11_sheet_44 (by decide) (fun _ => ?_) (fun h => absurd (by decide) h)
    refine w_iconst (v := 1) dX11_sheet_66 (by decide) ?_
    exact w_ireturn dX11_sheet_67 rfl (rfl) rfl (⟨rfl, I, L, rfl, ⟨h1, h2, hz⟩, hf⟩)
  | succ m ih =>
    intro i I hi h1 h2 hz hf
    have hlt : i < 40 := by omega
    refine w_iload dX11_sheet_40 rfl ?_
    refine w_bipush (v := 40) dX11_sheet_42 (by decide) ?_
    refine w_icmp_ge (tgt := 66) dX11_sheet_44 (by decide) (fun h => absurd h (nI_ge (b := 40) hlt (by omega))) (fun _ => ?_)
    refine w_aload_n dX11_sheet_47 rfl ?_
    refine w_getR (w := some (39, 0, 0)) ff_X11_35 rfl rfl dX11_sheet_48 rfl ?_
    refine w_bipush (v := 40) dX11_sheet_51 (by decide) ?_
    refine w_iload_n dX11_sheet_53 rfl ?_
    refine w_imul dX11_sheet_54 ?_
    rw [show ((40) * (nI k) : Int32) = nI (40 * k) from ar_mul (p := 40) (q := k) rfl rfl (by first | rfl | omega)]
    refine w_iload dX11_sheet_55 rfl ?_
    refine w_iadd dX11_sheet_57 ?_
    rw [show ((nI (40 * k)) + (nI i) : Int32) = nI ((40 * k) + i) from ar_add (p := 40 * k) (q := i) rfl rfl (by omega)]
    refine w_iconst (v := 0) dX11_sheet_58 (by decide) ?_
    refine w_iastore (a := (40 * k) + i) rfl (vp_in_nI (n := (40 * k) + i) (by omega) (by omega)) (nI_clamp (n := (40 * k) + i) (by omega)) dX11_sheet_59 ?_
    refine w_iinc (v := nI (i + 1)) (ls' := [some (vR 30 0 0), some (vI (nI k)), some (vI (nI l)), some (vI (nI n)), some (vI (nI (i + 1)))]) dX11_sheet_60 rfl (nI_1 _) rfl ?_
    refine w_goto (tgt := 40) dX11_sheet_63 (by decide) ?_
    refine ih (i + 1) _ (by omega) ((xup_tag (by decide)).trans h1) ((xup_tag (by decide)).trans h2) (fun x hx => ?_) (fun t b j s p q r => ?_)
    · by_cases e : x = i
      · rw [e, xup_self]
      · rw [xup_slot (by omega)]; exact hz x (by omega)
    · unfold xup
      rw [if_neg (by rintro ⟨rfl, rfl, rfl, rfl⟩; exact r ⟨rfl, by omega, by omega⟩)]
      exact hf t b j s p q r

theorem p_sheet {I : xF4 Int32} {L : xF4 Int64} {g : gG} (hg : WG g) (hh : CH I g) {k l n : Nat} (hk : k < 4) (hl : l < 3) (hn : n ≤ 40) : Tri 19 109 m_X10_sheet [vR 0 0 0, vI (nI k), vI (nI l), vI (nI n)] (rM I L) (pCl (vI (1)) (setSh g k (l, (n, fun _ => 0))) I) := by
  refine ⟨k_X10_sheet, Nat.le_of_ble_eq_true rfl, ?_⟩
  show Wp _ _ _ 0 [some (vR 0 0 0), some (vI (nI k)), some (vI (nI l)), some (vI (nI n)), none] [] (rM I L) _
  obtain ⟨hw, hd9, hgi, ht160, htb, hgs⟩ := id hg
  refine w_aload_n dX10_sheet_0 rfl ?_
  refine w_iload_n dX10_sheet_1 rfl ?_
  refine w_callV (as := [vI (nI k)]) (st := []) (Tri.mono (c_sheetAt (i := k) hk) (Nat.le_of_ble_eq_true rfl)) rfl rfl tg_X10_sheetAt lk_X10_302 in_X10_sheetAt se_X10_sheetAt rfl dX10_sheet_2 rfl (Nat.le_of_ble_eq_true rfl) (Nat.le_refl _) (Nat.le_refl _) ?_
  rintro _ _ ⟨rfl, rfl⟩ -
  refine w_astore (ls' := [some (vR 0 0 0), some (vI (nI k)), some (vI (nI l)), some (vI (nI n)), some (vR 20 k 0)]) dX10_sheet_5 rfl ?_
  refine w_aload dX10_sheet_7 rfl ?_
  refine w_ifnull (tgt := 27) dX10_sheet_9 (by decide) (fun h => by cases h) (fun _ _ => ?_)
  refine w_iload_n dX10_sheet_12 rfl ?_
  refine w_iconst (v := 0) dX10_sheet_13 (by decide) ?_
  refine w_iconst (v := 2) dX10_sheet_14 (by decide) ?_
  refine w_callS (as := [vI (nI l), vI (0), vI (2)]) (st := []) (Tri.mono (c_X10_within (nI l) (0) (2)) (Nat.le_of_ble_eq_true rfl)) tg_X10_within lk_X10_158 sa_X10_within rfl dX10_sheet_15 rfl (Nat.le_of_ble_eq_true rfl) (Nat.le_refl _) (Nat.le_refl _) ?_
  rintro _ _ ⟨rfl, rfl⟩ -
  refine w_top (y := bI (0 ≤ ((l : Nat) : Int) ∧ ((l : Nat) : Int) ≤ 2)) (show (bI ((0 : Int32) ≤ (nI l) ∧ (nI l) ≤ (2 : Int32)) : Int32) = bI (0 ≤ ((l : Nat) : Int) ∧ ((l : Nat) : Int) ≤ 2) from wiZ (X := ((l : Nat) : Int)) (A := 0) (B := 2) (z_nI (by omega)) (by decide) (by decide)) ?_
  refine w_ifeq_b (tgt := 27) dX10_sheet_18 (by decide) (fun h1 => ?_) (fun h1 => ?_)
  · skip
    first
    | (exfalso; omega)
    | skip
      refine w_iconst (v := (-1)) dX10_sheet_27 (by decide) ?_
      exact w_ireturn dX10_sheet_28 rfl (rfl) rfl (⟨rfl, _, _, rfl, hh.sheet g2 g1, fun t b j s ht => g2 t b j s (by omega)⟩)
  · skip
    first
    | (exfalso; omega)
    | skip
      refine w_iload_n dX10_sheet_21 rfl ?_
      refine w_bipush (v := 40) dX10_sheet_22 (by decide) ?_
      refine w_icmp_le (tgt := 29) dX10_sheet_24 (by decide) (fun h2 => ?_) (fun h2 => ?_)
      · skip
        replace h2 : ((n : Nat) : Int) ≤ 40 := (zle (z_nI (by omega)) (by decide)).mp h2
        first
        | (exfalso; omega)
        | skip
          refine w_iload_n dX10_sheet_29 rfl ?_
          refine w_if_ge (tgt := 36) dX10_sheet_30 (by decide) (fun h3 => ?_) (fun h3 => ?_)
          · skip
            replace h3 : 0 ≤ ((n : Nat) : Int) := (zle (by decide) (z_nI (by omega))).mp h3
            first
            | (exfalso; omega)
            | skip
              refine w_aload dX10_sheet_36 rfl ?_
              refine w_iload_n dX10_sheet_38 rfl ?_
              refine w_iload_n dX10_sheet_39 rfl ?_
              refine w_callV (as := [vI (nI l), vI (nI n)]) (st := []) (Tri.mono (c_sheetBegin k l n) (Nat.le_of_ble_eq_true rfl)) rfl rfl tg_X6_begin lk_X10_306 in_X6_begin se_X6_begin rfl dX10_sheet_40 rfl (Nat.le_of_ble_eq_true rfl) (Nat.le_refl _) (Nat.le_refl _) ?_
              rintro v M9 ⟨rfl, I1, rfl, g1, g2⟩ -
              refine w_iconst (v := 1) dX10_sheet_43 (by decide) ?_
              exact w_ireturn dX10_sheet_44 rfl (rfl) rfl (⟨rfl, _, _, rfl, hh.sheet g2 g1, fun t b j s ht => g2 t b j s (by omega)⟩)
          · skip
            replace h3 : ¬ (0 ≤ ((n : Nat) : Int)) := fun q => h3 ((zle (by decide) (z_nI (by omega))).mpr q)
            first
            | (exfalso; omega)
            | skip
              refine w_bipush (v := (-14)) dX10_sheet_33 (by decide) ?_
              exact w_ireturn dX10_sheet_35 rfl (rfl) rfl (⟨rfl, _, _, rfl, hh.sheet g2 g1, fun t b j s ht => g2 t b j s (by omega)⟩)
      · skip
        replace h2 : ¬ (((n : Nat) : Int) ≤ 40) := fun q => h2 ((zle (z_nI (by omega)) (by decide)).mpr q)
        first
        | (exfalso; omega)
        | skip
          refine w_iconst (v := (-1)) dX10_sheet_27 (by decide) ?_
          exact w_ireturn dX10_sheet_28 rfl (rfl) rfl (⟨rfl, _, _, rfl, hh.sheet g2 g1, fun t b j s ht => g2 t b j s (by omega)⟩)

theorem q_sheet {I : xF4 Int32} {L : xF4 Int64} {g : gG} (hg : WG g) (hh : MH I g) {k l n : Nat} (hk : k < 4) (hl : l < 3) (hn : n ≤ 40) : Tri 19 109 m_X11_sheet [vR 30 0 0, vI (nI k), vI (nI l), vI (nI n)] (rM I L) (pMo (vI (1)) (setSh g k (l, (n, fun _ => 0))) I) := by
  refine ⟨k_X11_sheet, Nat.le_of_ble_eq_true rfl, ?_⟩
  show Wp _ _ _ 0 [some (vR 30 0 0), some (vI (nI k)), some (vI (nI l)), some (vI (nI n)), none] [] (rM I L) _
  obtain ⟨hw, hd9, hgi, ht160, htb, hgs⟩ := id hg
  refine w_iload_n dX11_sheet_0 rfl ?_
  refine w_iload_n dX11_sheet_1 rfl ?_
  refine w_callS (as := [vI (nI k), vI (nI l)]) (st := []) (Tri.mono (d_isSheet (x := nI k) (X := ((k : Nat) : Int)) (z_nI (by omega)) (y := nI l) (Y := ((l : Nat) : Int)) (z_nI (by omega))) (Nat.le_of_ble_eq_true rfl)) tg_X11_isSheet lk_X11_302 sa_X11_isSheet rfl dX11_sheet_2 rfl (Nat.le_of_ble_eq_true rfl) (Nat.le_refl _) (Nat.le_refl _) ?_
  rintro _ _ ⟨rfl, rfl⟩ -
  refine w_ifeq_b (tgt := 14) dX11_sheet_5 (by decide) (fun h1 => ?_) (fun h1 => ?_)
  · skip
    first
    | (exfalso; omega)
    | skip
      refine w_iconst (v := (-1)) dX11_sheet_14 (by decide) ?_
      exfalso
      omega
  · skip
    first
    | (exfalso; omega)
    | skip
      refine w_iload_n dX11_sheet_8 rfl ?_
      refine w_bipush (v := 40) dX11_sheet_9 (by decide) ?_
      refine w_icmp_le (tgt := 16) dX11_sheet_11 (by decide) (fun h2 => ?_) (fun h2 => ?_)
      · skip
        replace h2 : ((n : Nat) : Int) ≤ 40 := (zle (z_nI (by omega)) (by decide)).mp h2
        first
        | (exfalso; omega)
        | skip
          refine w_iload_n dX11_sheet_16 rfl ?_
          refine w_if_ge (tgt := 23) dX11_sheet_17 (by decide) (fun h3 => ?_) (fun h3 => ?_)
          · skip
            replace h3 : 0 ≤ ((n : Nat) : Int) := (zle (by decide) (z_nI (by omega))).mp h3
            first
            | (exfalso; omega)
            | skip
              refine w_aload_n dX11_sheet_23 rfl ?_
              refine w_getR (w := some (37, 0, 0)) ff_X11_29 rfl rfl dX11_sheet_24 rfl ?_
              refine w_iload_n dX11_sheet_27 rfl ?_
              refine w_iload_n dX11_sheet_28 rfl ?_
              refine w_iastore (a := k) rfl (vp_in_nI (n := k) (by omega) (by omega)) (nI_clamp (n := k) (by omega)) dX11_sheet_29 ?_
              refine w_aload_n dX11_sheet_30 rfl ?_
              refine w_getR (w := some (38, 0, 0)) ff_X11_32 rfl rfl dX11_sheet_31 rfl ?_
              refine w_iload_n dX11_sheet_34 rfl ?_
              refine w_iload_n dX11_sheet_35 rfl ?_
              refine w_iastore (a := k) rfl (vp_in_nI (n := k) (by omega) (by omega)) (nI_clamp (n := k) (by omega)) dX11_sheet_36 ?_
              refine w_iconst (v := 0) dX11_sheet_37 (by decide) ?_
              refine w_istore (ls' := [some (vR 30 0 0), some (vI (nI k)), some (vI (nI l)), some (vI (nI n)), some (vI (0))]) dX11_sheet_38 rfl ?_
              refine (l_sheetM hk hl hn (I0 := I) 40 0 _ rfl ((xup_tag (by decide)).trans xup_self) xup_self (fun x hx => absurd hx (Nat.not_lt_zero _)) (fun t b j s p q r => ?_)).post ?_
              · unfold xup
                rw [if_neg (by rintro ⟨rfl, rfl, rfl, rfl⟩; exact q ⟨rfl, rfl⟩), if_neg (by rintro ⟨rfl, rfl, rfl, rfl⟩; exact p ⟨rfl, rfl⟩)]
              · rintro v M9 - ⟨rfl, I2, L2, rfl, g1, g2⟩
                exact ⟨rfl, I2, L2, rfl, hh.sheet g2 g1, fun t b j s ht => g2 t b j s (by omega) (by omega) (by omega)⟩
          · skip
            replace h3 : ¬ (0 ≤ ((n : Nat) : Int)) := fun q => h3 ((zle (by decide) (z_nI (by omega))).mpr q)
            first
            | (exfalso; omega)
            | skip
              refine w_bipush (v := (-14)) dX11_sheet_20 (by decide) ?_
              exfalso
              omega
      · skip
        replace h2 : ¬ (((n : Nat) : Int) ≤ 40) := fun q => h2 ((zle (z_nI (by omega)) (by decide)).mpr q)
        first
        | (exfalso; omega)
        | skip
          refine w_iconst (v := (-1)) dX11_sheet_14 (by decide) ?_
          exfalso
          omega

theorem p_sheet_s {I : xF4 Int32} {L : xF4 Int64} {g : gG} (hg : WG g) (hh : CH I g) {k l : Nat} (hk : k < 4) (hl : l < 3) {n : Int32} (hx : n.toInt < 0) : Tri 19 109 m_X10_sheet [vR 0 0 0, vI (nI k), vI (nI l), vI (n)] (rM I L) (pCq (vI (-14)) I) := by
  refine ⟨k_X10_sheet, Nat.le_of_ble_eq_true rfl, ?_⟩
  show Wp _ _ _ 0 [some (vR 0 0 0), some (vI (nI k)), some (vI (nI l)), some (vI (n)), none] [] (rM I L) _
  obtain ⟨hw, hd9, hgi, ht160, htb, hgs⟩ := id hg
  obtain ⟨hJ, hC, hG, hD, hR, -⟩ := id hw
  refine w_aload_n dX10_sheet_0 rfl ?_
  refine w_iload_n dX10_sheet_1 rfl ?_
  refine w_callV (as := [vI (nI k)]) (st := []) (Tri.mono (c_sheetAt (i := k) hk) (Nat.le_of_ble_eq_true rfl)) rfl rfl tg_X10_sheetAt lk_X10_302 in_X10_sheetAt se_X10_sheetAt rfl dX10_sheet_2 rfl (Nat.le_of_ble_eq_true rfl) (Nat.le_refl _) (Nat.le_refl _) ?_
  rintro _ _ ⟨rfl, rfl⟩ -
  refine w_astore (ls' := [some (vR 0 0 0), some (vI (nI k)), some (vI (nI l)), some (vI (n)), some (vR 20 k 0)]) dX10_sheet_5 rfl ?_
  refine w_aload dX10_sheet_7 rfl ?_
  refine w_ifnull (tgt := 27) dX10_sheet_9 (by decide) (fun h => by cases h) (fun _ _ => ?_)
  refine w_iload_n dX10_sheet_12 rfl ?_
  refine w_iconst (v := 0) dX10_sheet_13 (by decide) ?_
  refine w_iconst (v := 2) dX10_sheet_14 (by decide) ?_
  refine w_callS (as := [vI (nI l), vI (0), vI (2)]) (st := []) (Tri.mono (c_X10_within (nI l) (0) (2)) (Nat.le_of_ble_eq_true rfl)) tg_X10_within lk_X10_158 sa_X10_within rfl dX10_sheet_15 rfl (Nat.le_of_ble_eq_true rfl) (Nat.le_refl _) (Nat.le_refl _) ?_
  rintro _ _ ⟨rfl, rfl⟩ -
  refine w_top (y := bI (0 ≤ ((l : Nat) : Int) ∧ ((l : Nat) : Int) ≤ 2)) (show (bI ((0 : Int32) ≤ (nI l) ∧ (nI l) ≤ (2 : Int32)) : Int32) = bI (0 ≤ ((l : Nat) : Int) ∧ ((l : Nat) : Int) ≤ 2) from wiZ (X := ((l : Nat) : Int)) (A := 0) (B := 2) (z_nI (by omega)) (by decide) (by decide)) ?_
  refine w_ifeq_b (tgt := 27) dX10_sheet_18 (by decide) (fun h1 => ?_) (fun h1 => ?_)
  · skip
    first
    | (exfalso; omega)
    | skip
      refine w_iconst (v := (-1)) dX10_sheet_27 (by decide) ?_
      exact w_ireturn dX10_sheet_28 rfl (rfl) rfl (⟨rfl, _, _, rfl, FrQ.rf⟩)
  · skip
    first
    | (exfalso; omega)
    | skip
      refine w_iload_n dX10_sheet_21 rfl ?_
      refine w_bipush (v := 40) dX10_sheet_22 (by decide) ?_
      refine w_icmp_le (tgt := 29) dX10_sheet_24 (by decide) (fun h2 => ?_) (fun h2 => ?_)
      · skip
        replace h2 : n.toInt ≤ 40 := (zle rfl (by decide)).mp h2
        first
        | (exfalso; omega)
        | skip
          refine w_iload_n dX10_sheet_29 rfl ?_
          refine w_if_ge (tgt := 36) dX10_sheet_30 (by decide) (fun h3 => ?_) (fun h3 => ?_)
          · skip
            replace h3 : 0 ≤ n.toInt := (zle (by decide) rfl).mp h3
            first
            | (exfalso; omega)
            | skip
              exfalso
              omega
          · skip
            replace h3 : ¬ (0 ≤ n.toInt) := fun q => h3 ((zle (by decide) rfl).mpr q)
            first
            | (exfalso; omega)
            | skip
              refine w_bipush (v := (-14)) dX10_sheet_33 (by decide) ?_
              exact w_ireturn dX10_sheet_35 rfl (rfl) rfl (⟨rfl, _, _, rfl, FrQ.rf⟩)
      · skip
        replace h2 : ¬ (n.toInt ≤ 40) := fun q => h2 ((zle rfl (by decide)).mpr q)
        first
        | (exfalso; omega)
        | skip
          refine w_iconst (v := (-1)) dX10_sheet_27 (by decide) ?_
          exact w_ireturn dX10_sheet_28 rfl (rfl) rfl (⟨rfl, _, _, rfl, FrQ.rf⟩)

theorem q_sheet_s {I : xF4 Int32} {L : xF4 Int64} {g : gG} (hg : WG g) (hh : MH I g) {k l : Nat} (hk : k < 4) (hl : l < 3) {n : Int32} (hx : n.toInt < 0) : Tri 19 109 m_X11_sheet [vR 30 0 0, vI (nI k), vI (nI l), vI (n)] (rM I L) (pMq (vI (-14)) I) := by
  refine ⟨k_X11_sheet, Nat.le_of_ble_eq_true rfl, ?_⟩
  show Wp _ _ _ 0 [some (vR 30 0 0), some (vI (nI k)), some (vI (nI l)), some (vI (n)), none] [] (rM I L) _
  obtain ⟨hw, hd9, hgi, ht160, htb, hgs⟩ := id hg
  obtain ⟨hJ, hC, hG, hD, hR, -⟩ := id hw
  refine w_iload_n dX11_sheet_0 rfl ?_
  refine w_iload_n dX11_sheet_1 rfl ?_
  refine w_callS (as := [vI (nI k), vI (nI l)]) (st := []) (Tri.mono (d_isSheet (x := nI k) (X := ((k : Nat) : Int)) (z_nI (by omega)) (y := nI l) (Y := ((l : Nat) : Int)) (z_nI (by omega))) (Nat.le_of_ble_eq_true rfl)) tg_X11_isSheet lk_X11_302 sa_X11_isSheet rfl dX11_sheet_2 rfl (Nat.le_of_ble_eq_true rfl) (Nat.le_refl _) (Nat.le_refl _) ?_
  rintro _ _ ⟨rfl, rfl⟩ -
  refine w_ifeq_b (tgt := 14) dX11_sheet_5 (by decide) (fun h1 => ?_) (fun h1 => ?_)
  · skip
    first
    | (exfalso; omega)
    | skip
      refine w_iconst (v := (-1)) dX11_sheet_14 (by decide) ?_
      exact w_ireturn dX11_sheet_15 rfl (rfl) rfl (⟨rfl, _, _, rfl, FrR.rf⟩)
  · skip
    first
    | (exfalso; omega)
    | skip
      refine w_iload_n dX11_sheet_8 rfl ?_
      refine w_bipush (v := 40) dX11_sheet_9 (by decide) ?_
      refine w_icmp_le (tgt := 16) dX11_sheet_11 (by decide) (fun h2 => ?_) (fun h2 => ?_)
      · skip
        replace h2 : n.toInt ≤ 40 := (zle rfl (by decide)).mp h2
        first
        | (exfalso; omega)
        | skip
          refine w_iload_n dX11_sheet_16 rfl ?_
          refine w_if_ge (tgt := 23) dX11_sheet_17 (by decide) (fun h3 => ?_) (fun h3 => ?_)
          · skip
            replace h3 : 0 ≤ n.toInt := (zle (by decide) rfl).mp h3
            first
            | (exfalso; omega)
            | skip
              exfalso
              omega
          · skip
            replace h3 : ¬ (0 ≤ n.toInt) := fun q => h3 ((zle (by decide) rfl).mpr q)
            first
            | (exfalso; omega)
            | skip
              refine w_bipush (v := (-14)) dX11_sheet_20 (by decide) ?_
              exact w_ireturn dX11_sheet_22 rfl (rfl) rfl (⟨rfl, _, _, rfl, FrR.rf⟩)
      · skip
        replace h2 : ¬ (n.toInt ≤ 40) := fun q => h2 ((zle rfl (by decide)).mpr q)
        first
        | (exfalso; omega)
        | skip
          refine w_iconst (v := (-1)) dX11_sheet_14 (by decide) ?_
          exact w_ireturn dX11_sheet_15 rfl (rfl) rfl (⟨rfl, _, _, rfl, FrR.rf⟩)

theorem p_sheet_n {I : xF4 Int32} {L : xF4 Int64} {g : gG} (hg : WG g) (hh : CH I g) {k l : Nat} (hk : k < 4) (hl : l < 3) {n : Int32} (hx : 40 < n.toInt) : Tri 19 109 m_X10_sheet [vR 0 0 0, vI (nI k), vI (nI l), vI (n)] (rM I L) (pCq (vI (-1)) I) := by
  refine ⟨k_X10_sheet, Nat.le_of_ble_eq_true rfl, ?_⟩
  show Wp _ _ _ 0 [some (vR 0 0 0), some (vI (nI k)), some (vI (nI l)), some (vI (n)), none] [] (rM I L) _
  obtain ⟨hw, hd9, hgi, ht160, htb, hgs⟩ := id hg
  obtain ⟨hJ, hC, hG, hD, hR, -⟩ := id hw
  refine w_aload_n dX10_sheet_0 rfl ?_
  refine w_iload_n dX10_sheet_1 rfl ?_
  refine w_callV (as := [vI (nI k)]) (st := []) (Tri.mono (c_sheetAt (i := k) hk) (Nat.le_of_ble_eq_true rfl)) rfl rfl tg_X10_sheetAt lk_X10_302 in_X10_sheetAt se_X10_sheetAt rfl dX10_sheet_2 rfl (Nat.le_of_ble_eq_true rfl) (Nat.le_refl _) (Nat.le_refl _) ?_
  rintro _ _ ⟨rfl, rfl⟩ -
  refine w_astore (ls' := [some (vR 0 0 0), some (vI (nI k)), some (vI (nI l)), some (vI (n)), some (vR 20 k 0)]) dX10_sheet_5 rfl ?_
  refine w_aload dX10_sheet_7 rfl ?_
  refine w_ifnull (tgt := 27) dX10_sheet_9 (by decide) (fun h => by cases h) (fun _ _ => ?_)
  refine w_iload_n dX10_sheet_12 rfl ?_
  refine w_iconst (v := 0) dX10_sheet_13 (by decide) ?_
  refine w_iconst (v := 2) dX10_sheet_14 (by decide) ?_
  refine w_callS (as := [vI (nI l), vI (0), vI (2)]) (st := []) (Tri.mono (c_X10_within (nI l) (0) (2)) (Nat.le_of_ble_eq_true rfl)) tg_X10_within lk_X10_158 sa_X10_within rfl dX10_sheet_15 rfl (Nat.le_of_ble_eq_true rfl) (Nat.le_refl _) (Nat.le_refl _) ?_
  rintro _ _ ⟨rfl, rfl⟩ -
  refine w_top (y := bI (0 ≤ ((l : Nat) : Int) ∧ ((l : Nat) : Int) ≤ 2)) (show (bI ((0 : Int32) ≤ (nI l) ∧ (nI l) ≤ (2 : Int32)) : Int32) = bI (0 ≤ ((l : Nat) : Int) ∧ ((l : Nat) : Int) ≤ 2) from wiZ (X := ((l : Nat) : Int)) (A := 0) (B := 2) (z_nI (by omega)) (by decide) (by decide)) ?_
  refine w_ifeq_b (tgt := 27) dX10_sheet_18 (by decide) (fun h1 => ?_) (fun h1 => ?_)
  · skip
    first
    | (exfalso; omega)
    | skip
      refine w_iconst (v := (-1)) dX10_sheet_27 (by decide) ?_
      exact w_ireturn dX10_sheet_28 rfl (rfl) rfl (⟨rfl, _, _, rfl, FrQ.rf⟩)
  · skip
    first
    | (exfalso; omega)
    | skip
      refine w_iload_n dX10_sheet_21 rfl ?_
      refine w_bipush (v := 40) dX10_sheet_22 (by decide) ?_
      refine w_icmp_le (tgt := 29) dX10_sheet_24 (by decide) (fun h2 => ?_) (fun h2 => ?_)
      · skip
        replace h2 : n.toInt ≤ 40 := (zle rfl (by decide)).mp h2
        first
        | (exfalso; omega)
        | skip
          exfalso
          omega
      · skip
        replace h2 : ¬ (n.toInt ≤ 40) := fun q => h2 ((zle rfl (by decide)).mpr q)
        first
        | (exfalso; omega)
        | skip
          refine w_iconst (v := (-1)) dX10_sheet_27 (by decide) ?_
          exact w_ireturn dX10_sheet_28 rfl (rfl) rfl (⟨rfl, _, _, rfl, FrQ.rf⟩)

theorem q_sheet_n {I : xF4 Int32} {L : xF4 Int64} {g : gG} (hg : WG g) (hh : MH I g) {k l : Nat} (hk : k < 4) (hl : l < 3) {n : Int32} (hx : 40 < n.toInt) : Tri 19 109 m_X11_sheet [vR 30 0 0, vI (nI k), vI (nI l), vI (n)] (rM I L) (pMq (vI (-1)) I) := by
  refine ⟨k_X11_sheet, Nat.le_of_ble_eq_true rfl, ?_⟩
  show Wp _ _ _ 0 [some (vR 30 0 0), some (vI (nI k)), some (vI (nI l)), some (vI (n)), none] [] (rM I L) _
  obtain ⟨hw, hd9, hgi, ht160, htb, hgs⟩ := id hg
  obtain ⟨hJ, hC, hG, hD, hR, -⟩ := id hw
  refine w_iload_n dX11_sheet_0 rfl ?_
  refine w_iload_n dX11_sheet_1 rfl ?_
  refine w_callS (as := [vI (nI k), vI (nI l)]) (st := []) (Tri.mono (d_isSheet (x := nI k) (X := ((k : Nat) : Int)) (z_nI (by omega)) (y := nI l) (Y := ((l : Nat) : Int)) (z_nI (by omega))) (Nat.le_of_ble_eq_true rfl)) tg_X11_isSheet lk_X11_302 sa_X11_isSheet rfl dX11_sheet_2 rfl (Nat.le_of_ble_eq_true rfl) (Nat.le_refl _) (Nat.le_refl _) ?_
  rintro _ _ ⟨rfl, rfl⟩ -
  refine w_ifeq_b (tgt := 14) dX11_sheet_5 (by decide) (fun h1 => ?_) (fun h1 => ?_)
  · skip
    first
    | (exfalso; omega)
    | skip
      refine w_iconst (v := (-1)) dX11_sheet_14 (by decide) ?_
      exact w_ireturn dX11_sheet_15 rfl (rfl) rfl (⟨rfl, _, _, rfl, FrR.rf⟩)
  · skip
    first
    | (exfalso; omega)
    | skip
      refine w_iload_n dX11_sheet_8 rfl ?_
      refine w_bipush (v := 40) dX11_sheet_9 (by decide) ?_
      refine w_icmp_le (tgt := 16) dX11_sheet_11 (by decide) (fun h2 => ?_) (fun h2 => ?_)
      · skip
        replace h2 : n.toInt ≤ 40 := (zle rfl (by decide)).mp h2
        first
        | (exfalso; omega)
        | skip
          exfalso
          omega
      · skip
        replace h2 : ¬ (n.toInt ≤ 40) := fun q => h2 ((zle rfl (by decide)).mpr q)
        first
        | (exfalso; omega)
        | skip
          refine w_iconst (v := (-1)) dX11_sheet_14 (by decide) ?_
          exact w_ireturn dX11_sheet_15 rfl (rfl) rfl (⟨rfl, _, _, rfl, FrR.rf⟩)

theorem p_sheet_l {I : xF4 Int32} {L : xF4 Int64} {g : gG} (hg : WG g) (hh : CH I g) {k : Nat} (hk : k < 4) {l n : Int32} (hx : l.toInt < 0 ∨ ((3 : Nat) : Int) ≤ l.toInt) : Tri 19 109 m_X10_sheet [vR 0 0 0, vI (nI k), vI (l), vI (n)] (rM I L) (pCq (vI (-1)) I) := by
  refine ⟨k_X10_sheet, Nat.le_of_ble_eq_true rfl, ?_⟩
  show Wp _ _ _ 0 [some (vR 0 0 0), some (vI (nI k)), some (vI (l)), some (vI (n)), none] [] (rM I L) _
  obtain ⟨hw, hd9, hgi, ht160, htb, hgs⟩ := id hg
  obtain ⟨hJ, hC, hG, hD, hR, -⟩ := id hw
  refine w_aload_n dX10_sheet_0 rfl ?_
  refine w_iload_n dX10_sheet_1 rfl ?_
  refine w_callV (as := [vI (nI k)]) (st := []) (Tri.mono (c_sheetAt (i := k) hk) (Nat.le_of_ble_eq_true rfl)) rfl rfl tg_X10_sheetAt lk_X10_302 in_X10_sheetAt se_X10_sheetAt rfl dX10_sheet_2 rfl (Nat.le_of_ble_eq_true rfl) (Nat.le_refl _) (Nat.le_refl _) ?_
  rintro _ _ ⟨rfl, rfl⟩ -
  refine w_astore (ls' := [some (vR 0 0 0), some (vI (nI k)), some (vI (l)), some (vI (n)), some (vR 20 k 0)]) dX10_sheet_5 rfl ?_
  refine w_aload dX10_sheet_7 rfl ?_
  refine w_ifnull (tgt := 27) dX10_sheet_9 (by decide) (fun h => by cases h) (fun _ _ => ?_)
  refine w_iload_n dX10_sheet_12 rfl ?_
  refine w_iconst (v := 0) dX10_sheet_13 (by decide) ?_
  refine w_iconst (v := 2) dX10_sheet_14 (by decide) ?_
  refine w_callS (as := [vI (l), vI (0), vI (2)]) (st := []) (Tri.mono (c_X10_within (l) (0) (2)) (Nat.le_of_ble_eq_true rfl)) tg_X10_within lk_X10_158 sa_X10_within rfl dX10_sheet_15 rfl (Nat.le_of_ble_eq_true rfl) (Nat.le_refl _) (Nat.le_refl _) ?_
  rintro _ _ ⟨rfl, rfl⟩ -
  refine w_top (y := bI (0 ≤ l.toInt ∧ l.toInt ≤ 2)) (show (bI ((0 : Int32) ≤ (l) ∧ (l) ≤ (2 : Int32)) : Int32) = bI (0 ≤ l.toInt ∧ l.toInt ≤ 2) from wiZ (X := l.toInt) (A := 0) (B := 2) rfl (by decide) (by decide)) ?_
  refine w_ifeq_b (tgt := 27) dX10_sheet_18 (by decide) (fun h1 => ?_) (fun h1 => ?_)
  · skip
    first
    | (exfalso; omega)
    | skip
      refine w_iconst (v := (-1)) dX10_sheet_27 (by decide) ?_
      exact w_ireturn dX10_sheet_28 rfl (rfl) rfl (⟨rfl, _, _, rfl, FrQ.rf⟩)
  · skip
    first
    | (exfalso; omega)
    | skip
      refine w_iload_n dX10_sheet_21 rfl ?_
      refine w_bipush (v := 40) dX10_sheet_22 (by decide) ?_
      refine w_icmp_le (tgt := 29) dX10_sheet_24 (by decide) (fun h2 => ?_) (fun h2 => ?_)
      · skip
        replace h2 : n.toInt ≤ 40 := (zle rfl (by decide)).mp h2
        first
        | (exfalso; omega)
        | skip
          exfalso
          omega
      · skip
        replace h2 : ¬ (n.toInt ≤ 40) := fun q => h2 ((zle rfl (by decide)).mpr q)
        first
        | (exfalso; omega)
        | skip
          refine w_iconst (v := (-1)) dX10_sheet_27 (by decide) ?_
          exact w_ireturn dX10_sheet_28 rfl (rfl) rfl (⟨rfl, _, _, rfl, FrQ.rf⟩)

theorem q_sheet_l {I : xF4 Int32} {L : xF4 Int64} {g : gG} (hg : WG g) (hh : MH I g) {k : Nat} (hk : k < 4) {l n : Int32} (hx : l.toInt < 0 ∨ ((3 : Nat) : Int) ≤ l.toInt) : Tri 19 109 m_X11_sheet [vR 30 0 0, vI (nI k), vI (l), vI (n)] (rM I L) (pMq (vI (-1)) I) := by
  refine ⟨k_X11_sheet, Nat.le_of_ble_eq_true rfl, ?_⟩
  show Wp _ _ _ 0 [some (vR 30 0 0), some (vI (nI k)), some (vI (l)), some (vI (n)), none] [] (rM I L) _
  obtain ⟨hw, hd9, hgi, ht160, htb, hgs⟩ := id hg
  obtain ⟨hJ, hC, hG, hD, hR, -⟩ := id hw
  refine w_iload_n dX11_sheet_0 rfl ?_
  refine w_iload_n dX11_sheet_1 rfl ?_
  refine w_callS (as := [vI (nI k), vI (l)]) (st := []) (Tri.mono (d_isSheet (x := nI k) (X := ((k : Nat) : Int)) (z_nI (by omega)) (y := l) (Y := l.toInt) rfl) (Nat.le_of_ble_eq_true rfl)) tg_X11_isSheet lk_X11_302 sa_X11_isSheet rfl dX11_sheet_2 rfl (Nat.le_of_ble_eq_true rfl) (Nat.le_refl _) (Nat.le_refl _) ?_
  rintro _ _ ⟨rfl, rfl⟩ -
  refine w_ifeq_b (tgt := 14) dX11_sheet_5 (by decide) (fun h1 => ?_) (fun h1 => ?_)
  · skip
    first
    | (exfalso; omega)
    | skip
      refine w_iconst (v := (-1)) dX11_sheet_14 (by decide) ?_
      exact w_ireturn dX11_sheet_15 rfl (rfl) rfl (⟨rfl, _, _, rfl, FrR.rf⟩)
  · skip
    first
    | (exfalso; omega)
    | skip
      refine w_iload_n dX11_sheet_8 rfl ?_
      refine w_bipush (v := 40) dX11_sheet_9 (by decide) ?_
      refine w_icmp_le (tgt := 16) dX11_sheet_11 (by decide) (fun h2 => ?_) (fun h2 => ?_)
      · skip
        replace h2 : n.toInt ≤ 40 := (zle rfl (by decide)).mp h2
        first
        | (exfalso; omega)
        | skip
          exfalso
          omega
      · skip
        replace h2 : ¬ (n.toInt ≤ 40) := fun q => h2 ((zle rfl (by decide)).mpr q)
        first
        | (exfalso; omega)
        | skip
          refine w_iconst (v := (-1)) dX11_sheet_14 (by decide) ?_
          exact w_ireturn dX11_sheet_15 rfl (rfl) rfl (⟨rfl, _, _, rfl, FrR.rf⟩)

theorem p_sheet_k {I : xF4 Int32} {L : xF4 Int64} {g : gG} (hg : WG g) (hh : CH I g) {k l n : Int32} (hx : k.toInt < 0 ∨ ((4 : Nat) : Int) ≤ k.toInt) : Tri 19 109 m_X10_sheet [vR 0 0 0, vI (k), vI (l), vI (n)] (rM I L) (pCq (vI (-1)) I) := by
  refine ⟨k_X10_sheet, Nat.le_of_ble_eq_true rfl, ?_⟩
  show Wp _ _ _ 0 [some (vR 0 0 0), some (vI (k)), some (vI (l)), some (vI (n)), none] [] (rM I L) _
  obtain ⟨hw, hd9, hgi, ht160, htb, hgs⟩ := id hg
  obtain ⟨hJ, hC, hG, hD, hR, -⟩ := id hw
  refine w_aload_n dX10_sheet_0 rfl ?_
  refine w_iload_n dX10_sheet_1 rfl ?_
  refine w_callV (as := [vI (k)]) (st := []) (Tri.mono (c_sheetAtO (by omega)) (Nat.le_of_ble_eq_true rfl)) rfl rfl tg_X10_sheetAt lk_X10_302 in_X10_sheetAt se_X10_sheetAt rfl dX10_sheet_2 rfl (Nat.le_of_ble_eq_true rfl) (Nat.le_refl _) (Nat.le_refl _) ?_
  rintro _ _ ⟨rfl, rfl⟩ -
  refine w_astore (ls' := [some (vR 0 0 0), some (vI (k)), some (vI (l)), some (vI (n)), some (vN)]) dX10_sheet_5 rfl ?_
  refine w_aload dX10_sheet_7 rfl ?_
  refine w_ifnull (tgt := 27) dX10_sheet_9 (by decide) (fun _ => ?_) (fun _ h => by cases h)
  refine w_iconst (v := (-1)) dX10_sheet_27 (by decide) ?_
  exact w_ireturn dX10_sheet_28 rfl (rfl) rfl (⟨rfl, _, _, rfl, FrQ.rf⟩)

theorem q_sheet_k {I : xF4 Int32} {L : xF4 Int64} {g : gG} (hg : WG g) (hh : MH I g) {k l n : Int32} (hx : k.toInt < 0 ∨ ((4 : Nat) : Int) ≤ k.toInt) : Tri 19 109 m_X11_sheet [vR 30 0 0, vI (k), vI (l), vI (n)] (rM I L) (pMq (vI (-1)) I) := by
  refine ⟨k_X11_sheet, Nat.le_of_ble_eq_true rfl, ?_⟩
  show Wp _ _ _ 0 [some (vR 30 0 0), some (vI (k)), some (vI (l)), some (vI (n)), none] [] (rM I L) _
  obtain ⟨hw, hd9, hgi, ht160, htb, hgs⟩ := id hg
  obtain ⟨hJ, hC, hG, hD, hR, -⟩ := id hw
  refine w_iload_n dX11_sheet_0 rfl ?_
  refine w_iload_n dX11_sheet_1 rfl ?_
  refine w_callS (as := [vI (k), vI (l)]) (st := []) (Tri.mono (d_isSheet (x := k) (X := k.toInt) rfl (y := l) (Y := l.toInt) rfl) (Nat.le_of_ble_eq_true rfl)) tg_X11_isSheet lk_X11_302 sa_X11_isSheet rfl dX11_sheet_2 rfl (Nat.le_of_ble_eq_true rfl) (Nat.le_refl _) (Nat.le_refl _) ?_
  rintro _ _ ⟨rfl, rfl⟩ -
  refine w_ifeq_b (tgt := 14) dX11_sheet_5 (by decide) (fun h1 => ?_) (fun h1 => ?_)
  · skip
    first
    | (exfalso; omega)
    | skip
      refine w_iconst (v := (-1)) dX11_sheet_14 (by decide) ?_
      exact w_ireturn dX11_sheet_15 rfl (rfl) rfl (⟨rfl, _, _, rfl, FrR.rf⟩)
  · skip
    first
    | (exfalso; omega)
    | skip
      refine w_iload_n dX11_sheet_8 rfl ?_
      refine w_bipush (v := 40) dX11_sheet_9 (by decide) ?_
      refine w_icmp_le (tgt := 16) dX11_sheet_11 (by decide) (fun h2 => ?_) (fun h2 => ?_)
      · skip
        replace h2 : n.toInt ≤ 40 := (zle rfl (by decide)).mp h2
        first
        | (exfalso; omega)
        | skip
          exfalso
          omega
      · skip
        replace h2 : ¬ (n.toInt ≤ 40) := fun q => h2 ((zle rfl (by decide)).mpr q)
        first
        | (exfalso; omega)
        | skip
          refine w_iconst (v := (-1)) dX11_sheet_14 (by decide) ?_
          exact w_ireturn dX11_sheet_15 rfl (rfl) rfl (⟨rfl, _, _, rfl, FrR.rf⟩)

theorem nar_0 {l : Nat} {v : Int32} (h : l = 0) : v.toInt8.toInt32 = narI l v := by unfold narI; rw [if_pos h]
theorem nar_1 {l : Nat} {v : Int32} (h0 : ¬ l = 0) (h : l = 1) : v.toInt16.toInt32 = narI l v := by unfold narI; rw [if_neg h0, if_pos h]
theorem nar_2 {l : Nat} {v : Int32} (h0 : ¬ l = 0) (h : ¬ l = 1) : v = narI l v := by unfold narI; rw [if_neg h0, if_neg h]

theorem c_put {I : xF4 Int32} {L : xF4 Int64} {g : gG} (hg : WG g) (hh : CH I g) {k : Nat} (hk : k < 4) {q : Nat × (Nat × (Nat → Int32))} (hq : gSh g k = some q) {i : Nat} (hi : i < q.2.1) (v : Int32) : Tri 0 109 m_X6_put [vR 20 k 0, vI (nI i), vI (v)] (rM I L) (pI 0 (xup I 21 k 0 i (narI q.1 v)) L) := by
  refine ⟨k_X6_put, Nat.le_of_ble_eq_true rfl, ?_⟩
  show Wp _ _ _ 0 [some (vR 20 k 0), some (vI (nI i)), some (vI (v))] [] (rM I L) _
  obtain ⟨hw, hd9, hgi, ht160, htb, hgs⟩ := id hg
  have hsh := hh.2.2.2.2.2.1 k hk
  rw [hq] at hsh
  obtain ⟨hq3, hq40⟩ := hgs k hk q hq
  obtain ⟨s1, s2, s3, s4⟩ := hsh
  refine w_aload_n dX6_put_0 rfl ?_
  refine w_getI ff_X6_15 rfl rfl dX6_put_1 ?_
  rw [show (I 20 k 0 1 : Int32) = 1 from s1]
  refine w_if_ne (tgt := 9) dX6_put_4 (by decide) (fun _ => ?_) (fun h => absurd h (by decide))
  refine w_iload_n dX6_put_9 rfl ?_
  refine w_if_lt (tgt := 30) dX6_put_10 (by decide) (fun h1 => ?_) (fun h1 => ?_)
  · skip
    replace h1 : ((i : Nat) : Int) < 0 := (zlt (z_nI (by omega)) (by decide)).mp h1
    first
    | (exfalso; omega)
    | skip
      refine w_iconst (v := 2) dX6_put_30 (by decide) ?_
      exfalso
      omega
  · skip
    replace h1 : ¬ (((i : Nat) : Int) < 0) := fun q => h1 ((zlt (z_nI (by omega)) (by decide)).mpr q)
    first
    | (exfalso; omega)
    | skip
      refine w_iload_n dX6_put_13 rfl ?_
      refine w_aload_n dX6_put_14 rfl ?_
      refine w_getI ff_X6_23 rfl rfl dX6_put_15 ?_
      rw [show (I 20 k 0 3 : Int32) = nI q.2.1 from s3]
      refine w_icmp_ge (tgt := 30) dX6_put_18 (by decide) (fun h2 => ?_) (fun h2 => ?_)
      · skip
        replace h2 : ((q.2.1 : Nat) : Int) ≤ ((i : Nat) : Int) := (zle (z_nI (by omega)) (z_nI (by omega))).mp h2
        first
        | (exfalso; omega)
        | skip
          refine w_iconst (v := 2) dX6_put_30 (by decide) ?_
          exfalso
          omega
      · skip
        replace h2 : ¬ (((q.2.1 : Nat) : Int) ≤ ((i : Nat) : Int)) := fun q => h2 ((zle (z_nI (by omega)) (z_nI (by omega))).mpr q)
        first
        | (exfalso; omega)
        | skip
          refine w_iload_n dX6_put_21 rfl ?_
          refine w_aload_n dX6_put_22 rfl ?_
          refine w_getR (w := some (21, k, 0)) ff_X6_9 rfl rfl dX6_put_23 rfl ?_
          refine w_alen (v := 40) rfl rfl dX6_put_26 ?_
          refine w_icmp_lt (tgt := 32) dX6_put_27 (by decide) (fun h3 => ?_) (fun h3 => ?_)
          · skip
            replace h3 : ((i : Nat) : Int) < 40 := (zlt (z_nI (by omega)) (by decide)).mp h3
            first
            | (exfalso; omega)
            | skip
              refine w_aload_n dX6_put_32 rfl ?_
              refine w_getR (w := some (21, k, 0)) ff_X6_9 rfl rfl dX6_put_33 rfl ?_
              refine w_iload_n dX6_put_36 rfl ?_
              refine w_aload_n dX6_put_37 rfl ?_
              refine w_getI ff_X6_19 rfl rfl dX6_put_38 ?_
              rw [show (I 20 k 0 2 : Int32) = nI q.1 from s2]
              refine w_if_ne (tgt := 49) dX6_put_41 (by decide) (fun h4 => ?_) (fun h4 => ?_)
              · skip
                replace h4 : ¬ (((q.1 : Nat) : Int) = 0) := fun q => h4 ((zeq (z_nI (by omega)) (by decide)).mpr q)
                first
                | (exfalso; omega)
                | skip
                  refine w_aload_n dX6_put_49 rfl ?_
                  refine w_getI ff_X6_19 rfl rfl dX6_put_50 ?_
                  rw [show (I 20 k 0 2 : Int32) = nI q.1 from s2]
                  refine w_iconst (v := 1) dX6_put_53 (by decide) ?_
                  refine w_icmp_ne (tgt := 62) dX6_put_54 (by decide) (fun h5 => ?_) (fun h5 => ?_)
                  · skip
                    replace h5 : ¬ (((q.1 : Nat) : Int) = 1) := fun q => h5 ((zeq (z_nI (by omega)) (by decide)).mpr q)
                    first
                    | (exfalso; omega)
                    | skip
                      refine w_iload_n dX6_put_62 rfl ?_
                      refine w_top (y := narI q.1 v) (show (v : Int32) = narI q.1 v from nar_2 (by omega) (by omega)) ?_
                      refine w_iastore (a := i) rfl (vp_in_nI (n := i) (by omega) (by omega)) (nI_clamp (n := i) (by omega)) dX6_put_63 ?_
                      refine w_iconst (v := 0) dX6_put_64 (by decide) ?_
                      exact w_ireturn dX6_put_65 rfl (rfl) rfl (⟨rfl, rfl⟩)
                  · skip
                    replace h5 : ((q.1 : Nat) : Int) = 1 := (zeq (z_nI (by omega)) (by decide)).mp h5
                    first
                    | (exfalso; omega)
                    | skip
                      refine w_iload_n dX6_put_57 rfl ?_
                      refine w_i2s dX6_put_58 ?_
                      refine w_goto (tgt := 63) dX6_put_59 (by decide) ?_
                      refine w_top (y := narI q.1 v) (show ((v : Int32).toInt16.toInt32 : Int32) = narI q.1 v from nar_1 (by omega) (by omega)) ?_
                      refine w_iastore (a := i) rfl (vp_in_nI (n := i) (by omega) (by omega)) (nI_clamp (n := i) (by omega)) dX6_put_63 ?_
                      refine w_iconst (v := 0) dX6_put_64 (by decide) ?_
                      exact w_ireturn dX6_put_65 rfl (rfl) rfl (⟨rfl, rfl⟩)
              · skip
                replace h4 : ((q.1 : Nat) : Int) = 0 := (zeq (z_nI (by omega)) (by decide)).mp h4
                first
                | (exfalso; omega)
                | skip
                  refine w_iload_n dX6_put_44 rfl ?_
                  refine w_i2b dX6_put_45 ?_
                  refine w_goto (tgt := 63) dX6_put_46 (by decide) ?_
                  refine w_top (y := narI q.1 v) (show ((v : Int32).toInt8.toInt32 : Int32) = narI q.1 v from nar_0 (by omega)) ?_
                  refine w_iastore (a := i) rfl (vp_in_nI (n := i) (by omega) (by omega)) (nI_clamp (n := i) (by omega)) dX6_put_63 ?_
                  refine w_iconst (v := 0) dX6_put_64 (by decide) ?_
                  exact w_ireturn dX6_put_65 rfl (rfl) rfl (⟨rfl, rfl⟩)
          · skip
            replace h3 : ¬ (((i : Nat) : Int) < 40) := fun q => h3 ((zlt (z_nI (by omega)) (by decide)).mpr q)
            first
            | (exfalso; omega)
            | skip
              refine w_iconst (v := 2) dX6_put_30 (by decide) ?_
              exfalso
              omega

theorem p_lay {I : xF4 Int32} {L : xF4 Int64} {g : gG} (hg : WG g) (hh : CH I g) {k : Nat} (hk : k < 4) {q : Nat × (Nat × (Nat → Int32))} (hq : gSh g k = some q) {i : Nat} (hi : i < q.2.1) {v : Int32} : Tri 19 109 m_X10_lay [vR 0 0 0, vI (nI k), vI (nI i), vI (v)] (rM I L) (pCl (vI (1)) (setSh g k (q.1, (q.2.1, fun x => if x = i then narI q.1 v else q.2.2 x))) I) := by
  refine ⟨k_X10_lay, Nat.le_of_ble_eq_true rfl, ?_⟩
  show Wp _ _ _ 0 [some (vR 0 0 0), some (vI (nI k)), some (vI (nI i)), some (vI (v)), none, none] [] (rM I L) _
  obtain ⟨hw, hd9, hgi, ht160, htb, hgs⟩ := id hg
  have hsh := hh.2.2.2.2.2.1 k hk
  rw [hq] at hsh
  obtain ⟨hq3, hq40⟩ := hgs k hk q hq
  obtain ⟨s1, s2, s3, s4⟩ := hsh
  refine w_aload_n dX10_lay_0 rfl ?_
  refine w_iload_n dX10_lay_1 rfl ?_
  refine w_callV (as := [vI (nI k)]) (st := []) (Tri.mono (c_sheetAt (i := k) hk) (Nat.le_of_ble_eq_true rfl)) rfl rfl tg_X10_sheetAt lk_X10_302 in_X10_sheetAt se_X10_sheetAt rfl dX10_lay_2 rfl (Nat.le_of_ble_eq_true rfl) (Nat.le_refl _) (Nat.le_refl _) ?_
  rintro _ _ ⟨rfl, rfl⟩ -
  refine w_astore (ls' := [some (vR 0 0 0), some (vI (nI k)), some (vI (nI i)), some (vI (v)), some (vR 20 k 0), none]) dX10_lay_5 rfl ?_
  refine w_aload dX10_lay_7 rfl ?_
  refine w_ifnonnull (tgt := 14) dX10_lay_9 (by decide) (fun _ _ => ?_) (fun h => by cases h)
  refine w_aload dX10_lay_14 rfl ?_
  refine w_iload_n dX10_lay_16 rfl ?_
  refine w_iload_n dX10_lay_17 rfl ?_
  refine w_callV (as := [vI (nI i), vI (v)]) (st := []) (Tri.mono (c_put hg hh hk hq hi v) (Nat.le_of_ble_eq_true rfl)) rfl rfl tg_X6_put lk_X10_310 in_X6_put se_X6_put rfl dX10_lay_18 rfl (Nat.le_of_ble_eq_true rfl) (Nat.le_refl _) (Nat.le_refl _) ?_
  rintro _ _ ⟨rfl, rfl⟩ -
  refine w_istore (ls' := [some (vR 0 0 0), some (vI (nI k)), some (vI (nI i)), some (vI (v)), some (vR 20 k 0), some (vI (0))]) dX10_lay_21 rfl ?_
  refine w_iload dX10_lay_23 rfl ?_
  refine w_if_ne (tgt := 32) dX10_lay_25 (by decide) (fun h => absurd (by decide) h) (fun _ => ?_)
  refine w_iconst (v := 1) dX10_lay_28 (by decide) ?_
  refine w_goto (tgt := 37) dX10_lay_29 (by decide) ?_
  exact w_ireturn dX10_lay_37 rfl (rfl) rfl (⟨rfl, _, _, rfl, hh.sheet (fun t b j s hn => by unfold xup; rw [if_neg (by rintro ⟨rfl, rfl, rfl, rfl⟩; exact hn ⟨Or.inr rfl, rfl⟩)]) ⟨(xup_tag (by decide)).trans s1, (xup_tag (by decide)).trans s2, (xup_tag (by decide)).trans s3, fun x hx => by
    by_cases e : x = i
    · rw [e, xup_self]; exact (if_pos rfl).symm
    · rw [xup_slot e]; exact (s4 x hx).trans (if_neg e).symm⟩, Lo.up (by decide)⟩)

theorem q_lay {I : xF4 Int32} {L : xF4 Int64} {g : gG} (hg : WG g) (hh : MH I g) {k : Nat} (hk : k < 4) {q : Nat × (Nat × (Nat → Int32))} (hq : gSh g k = some q) {i : Nat} (hi : i < q.2.1) {v : Int32} : Tri 19 109 m_X11_lay [vR 30 0 0, vI (nI k), vI (nI i), vI (v)] (rM I L) (pMo (vI (1)) (setSh g k (q.1, (q.2.1, fun x => if x = i then narI q.1 v else q.2.2 x))) I) := by
  refine ⟨k_X11_lay, Nat.le_of_ble_eq_true rfl, ?_⟩
  show Wp _ _ _ 0 [some (vR 30 0 0), some (vI (nI k)), some (vI (nI i)), some (vI (v))] [] (rM I L) _
  obtain ⟨hw, hd9, hgi, ht160, htb, hgs⟩ := id hg
  have hsh := hh.2.2.2.2.2.1 k hk
  rw [hq] at hsh
  obtain ⟨hq3, hq40⟩ := hgs k hk q hq
  obtain ⟨s2, s3, s4⟩ := hsh
  refine w_iload_n dX11_lay_0 rfl ?_
  refine w_iconst (v := 0) dX11_lay_1 (by decide) ?_
  refine w_callS (as := [vI (nI k), vI (0)]) (st := []) (Tri.mono (d_isSheet (x := nI k) (X := ((k : Nat) : Int)) (z_nI (by omega)) (y := 0) (Y := 0) (by decide)) (Nat.le_of_ble_eq_true rfl)) tg_X11_isSheet lk_X11_302 sa_X11_isSheet rfl dX11_lay_2 rfl (Nat.le_of_ble_eq_true rfl) (Nat.le_refl _) (Nat.le_refl _) ?_
  rintro _ _ ⟨rfl, rfl⟩ -
  refine w_ifne_b (tgt := 10) dX11_lay_5 (by decide) (fun h1 => ?_) (fun h1 => ?_)
  · skip
    first
    | (exfalso; omega)
    | skip
      refine w_aload_n dX11_lay_10 rfl ?_
      refine w_getR (w := some (37, 0, 0)) ff_X11_29 rfl rfl dX11_lay_11 rfl ?_
      refine w_iload_n dX11_lay_14 rfl ?_
      refine w_iaload (a := k) rfl (vp_in_nI (n := k) (by omega) (by omega)) (nI_clamp (n := k) (by omega)) dX11_lay_15 ?_
      rw [show (I 37 0 0 (k) : Int32) = nI q.1 from s2]
      refine w_bipush (v := (-4)) dX11_lay_16 (by decide) ?_
      refine w_icmp_ne (tgt := 24) dX11_lay_18 (by decide) (fun _ => ?_) (fun h => absurd h (nI_m4 q.1 (by omega)))
      refine w_iload_n dX11_lay_24 rfl ?_
      refine w_i2l dX11_lay_25 ?_
      refine w_lconst (v := 0) dX11_lay_26 (by decide) ?_
      refine w_aload_n dX11_lay_27 rfl ?_
      refine w_getR (w := some (38, 0, 0)) ff_X11_32 rfl rfl dX11_lay_28 rfl ?_
      refine w_iload_n dX11_lay_31 rfl ?_
      refine w_iaload (a := k) rfl (vp_in_nI (n := k) (by omega) (by omega)) (nI_clamp (n := k) (by omega)) dX11_lay_32 ?_
      rw [show (I 38 0 0 (k) : Int32) = nI q.2.1 from s3]
      refine w_iconst (v := 1) dX11_lay_33 (by decide) ?_
      refine w_isub dX11_lay_34 ?_
      refine w_i2l dX11_lay_35 ?_
      refine w_callS (as := [vL ((nI i : Int32).toInt64), vL (0), vL (((nI q.2.1) - (1) : Int32).toInt64)]) (st := []) (Tri.mono (d_in ((nI i : Int32).toInt64) (0) (((nI q.2.1) - (1) : Int32).toInt64)) (Nat.le_of_ble_eq_true rfl)) tg_X11_in lk_X11_66 sa_X11_in rfl dX11_lay_36 rfl (Nat.le_of_ble_eq_true rfl) (Nat.le_refl _) (Nat.le_refl _) ?_
      rintro _ _ ⟨rfl, rfl⟩ -
      refine w_top (y := bI (0 ≤ ((i : Nat) : Int) ∧ ((i : Nat) : Int) ≤ ((q.2.1 : Nat) : Int) - 1)) (show (bI ((0 : Int64) ≤ ((nI i : Int32).toInt64) ∧ ((nI i : Int32).toInt64) ≤ (((nI q.2.1) - (1) : Int32).toInt64)) : Int32) = bI (0 ≤ ((i : Nat) : Int) ∧ ((i : Nat) : Int) ≤ ((q.2.1 : Nat) : Int) - 1) from inZ (x := nI i) (l := 0) (h := (nI q.2.1) - (1)) (X := ((i : Nat) : Int)) (A := 0) (B := ((q.2.1 : Nat) : Int) - 1) rfl (by decide) rfl (z_nI (by omega)) (by decide) (z_sub (a := q.2.1) (b := 1) (by omega) (by omega))) ?_
      refine w_ifne_b (tgt := 45) dX11_lay_39 (by decide) (fun h2 => ?_) (fun h2 => ?_)
      · skip
        first
        | (exfalso; omega)
        | skip
          refine w_aload_n dX11_lay_45 rfl ?_
          refine w_getR (w := some (39, 0, 0)) ff_X11_35 rfl rfl dX11_lay_46 rfl ?_
          refine w_bipush (v := 40) dX11_lay_49 (by decide) ?_
          refine w_iload_n dX11_lay_51 rfl ?_
          refine w_imul dX11_lay_52 ?_
          rw [show ((40) * (nI k) : Int32) = nI (40 * k) from ar_mul (p := 40) (q := k) rfl rfl (by first | rfl | omega)]
          refine w_iload_n dX11_lay_53 rfl ?_
          refine w_iadd dX11_lay_54 ?_
          rw [show ((nI (40 * k)) + (nI i) : Int32) = nI ((40 * k) + i) from ar_add (p := 40 * k) (q := i) rfl rfl (by omega)]
          refine w_aload_n dX11_lay_55 rfl ?_
          refine w_getR (w := some (37, 0, 0)) ff_X11_29 rfl rfl dX11_lay_56 rfl ?_
          refine w_iload_n dX11_lay_59 rfl ?_
          refine w_iaload (a := k) rfl (vp_in_nI (n := k) (by omega) (by omega)) (nI_clamp (n := k) (by omega)) dX11_lay_60 ?_
          rw [show (I 37 0 0 (k) : Int32) = nI q.1 from s2]
          refine w_if_ne (tgt := 69) dX11_lay_61 (by decide) (fun h3 => ?_) (fun h3 => ?_)
          · skip
            replace h3 : ¬ (((q.1 : Nat) : Int) = 0) := fun q => h3 ((zeq (z_nI (by omega)) (by decide)).mpr q)
            first
            | (exfalso; omega)
            | skip
              refine w_aload_n dX11_lay_69 rfl ?_
              refine w_getR (w := some (37, 0, 0)) ff_X11_29 rfl rfl dX11_lay_70 rfl ?_
              refine w_iload_n dX11_lay_73 rfl ?_
              refine w_iaload (a := k) rfl (vp_in_nI (n := k) (by omega) (by omega)) (nI_clamp (n := k) (by omega)) dX11_lay_74 ?_
              rw [show (I 37 0 0 (k) : Int32) = nI q.1 from s2]
              refine w_iconst (v := 1) dX11_lay_75 (by decide) ?_
              refine w_icmp_ne (tgt := 84) dX11_lay_76 (by decide) (fun h4 => ?_) (fun h4 => ?_)
              · skip
                replace h4 : ¬ (((q.1 : Nat) : Int) = 1) := fun q => h4 ((zeq (z_nI (by omega)) (by decide)).mpr q)
                first
                | (exfalso; omega)
                | skip
                  refine w_iload_n dX11_lay_84 rfl ?_
                  refine w_top (y := narI q.1 v) (show (v : Int32) = narI q.1 v from nar_2 (by omega) (by omega)) ?_
                  refine w_iastore (a := (40 * k) + i) rfl (vp_in_nI (n := (40 * k) + i) (by omega) (by omega)) (nI_clamp (n := (40 * k) + i) (by omega)) dX11_lay_85 ?_
                  refine w_iconst (v := 1) dX11_lay_86 (by decide) ?_
                  exact w_ireturn dX11_lay_87 rfl (rfl) rfl (⟨rfl, _, _, rfl, hh.sheet (fun t b j s p q r => by unfold xup; rw [if_neg (by rintro ⟨rfl, rfl, rfl, rfl⟩; exact r ⟨rfl, by omega, by omega⟩)]) ⟨(xup_tag (by decide)).trans s2, (xup_tag (by decide)).trans s3, fun x hx => by
                    by_cases e : x = i
                    · rw [e, xup_self]; exact (if_pos rfl).symm
                    · rw [xup_slot (by omega)]; exact (s4 x hx).trans (if_neg e).symm⟩, Hi.up (by decide)⟩)
              · skip
                replace h4 : ((q.1 : Nat) : Int) = 1 := (zeq (z_nI (by omega)) (by decide)).mp h4
                first
                | (exfalso; omega)
                | skip
                  refine w_iload_n dX11_lay_79 rfl ?_
                  refine w_i2s dX11_lay_80 ?_
                  refine w_goto (tgt := 85) dX11_lay_81 (by decide) ?_
                  refine w_top (y := narI q.1 v) (show ((v : Int32).toInt16.toInt32 : Int32) = narI q.1 v from nar_1 (by omega) (by omega)) ?_
                  refine w_iastore (a := (40 * k) + i) rfl (vp_in_nI (n := (40 * k) + i) (by omega) (by omega)) (nI_clamp (n := (40 * k) + i) (by omega)) dX11_lay_85 ?_
                  refine w_iconst (v := 1) dX11_lay_86 (by decide) ?_
                  exact w_ireturn dX11_lay_87 rfl (rfl) rfl (⟨rfl, _, _, rfl, hh.sheet (fun t b j s p q r => by unfold xup; rw [if_neg (by rintro ⟨rfl, rfl, rfl, rfl⟩; exact r ⟨rfl, by omega, by omega⟩)]) ⟨(xup_tag (by decide)).trans s2, (xup_tag (by decide)).trans s3, fun x hx => by
                    by_cases e : x = i
                    · rw [e, xup_self]; exact (if_pos rfl).symm
                    · rw [xup_slot (by omega)]; exact (s4 x hx).trans (if_neg e).symm⟩, Hi.up (by decide)⟩)
          · skip
            replace h3 : ((q.1 : Nat) : Int) = 0 := (zeq (z_nI (by omega)) (by decide)).mp h3
            first
            | (exfalso; omega)
            | skip
              refine w_iload_n dX11_lay_64 rfl ?_
              refine w_i2b dX11_lay_65 ?_
              refine w_goto (tgt := 85) dX11_lay_66 (by decide) ?_
              refine w_top (y := narI q.1 v) (show ((v : Int32).toInt8.toInt32 : Int32) = narI q.1 v from nar_0 (by omega)) ?_
              refine w_iastore (a := (40 * k) + i) rfl (vp_in_nI (n := (40 * k) + i) (by omega) (by omega)) (nI_clamp (n := (40 * k) + i) (by omega)) dX11_lay_85 ?_
              refine w_iconst (v := 1) dX11_lay_86 (by decide) ?_
              exact w_ireturn dX11_lay_87 rfl (rfl) rfl (⟨rfl, _, _, rfl, hh.sheet (fun t b j s p q r => by unfold xup; rw [if_neg (by rintro ⟨rfl, rfl, rfl, rfl⟩; exact r ⟨rfl, by omega, by omega⟩)]) ⟨(xup_tag (by decide)).trans s2, (xup_tag (by decide)).trans s3, fun x hx => by
                by_cases e : x = i
                · rw [e, xup_self]; exact (if_pos rfl).symm
                · rw [xup_slot (by omega)]; exact (s4 x hx).trans (if_neg e).symm⟩, Hi.up (by decide)⟩)
      · skip
        first
        | (exfalso; omega)
        | skip
          refine w_bipush (v := (-12)) dX11_lay_42 (by decide) ?_
          exfalso
          omega
  · skip
    first
    | (exfalso; omega)
    | skip
      refine w_iconst (v := (-1)) dX11_lay_8 (by decide) ?_
      exfalso
      omega

theorem c_putI {I : xF4 Int32} {L : xF4 Int64} {g : gG} (hg : WG g) (hh : CH I g) {k : Nat} (hk : k < 4) {q : Nat × (Nat × (Nat → Int32))} (hq : gSh g k = some q) {i : Int32} (hx : i.toInt < 0 ∨ ((q.2.1 : Nat) : Int) ≤ i.toInt) (v : Int32) : Tri 0 109 m_X6_put [vR 20 k 0, vI (i), vI (v)] (rM I L) (pI 2 I L) := by
  refine ⟨k_X6_put, Nat.le_of_ble_eq_true rfl, ?_⟩
  show Wp _ _ _ 0 [some (vR 20 k 0), some (vI (i)), some (vI (v))] [] (rM I L) _
  obtain ⟨hw, hd9, hgi, ht160, htb, hgs⟩ := id hg
  have hsh := hh.2.2.2.2.2.1 k hk
  rw [hq] at hsh
  obtain ⟨hq3, hq40⟩ := hgs k hk q hq
  obtain ⟨s1, s2, s3, s4⟩ := hsh
  refine w_aload_n dX6_put_0 rfl ?_
  refine w_getI ff_X6_15 rfl rfl dX6_put_1 ?_
  rw [show (I 20 k 0 1 : Int32) = 1 from s1]
  refine w_if_ne (tgt := 9) dX6_put_4 (by decide) (fun _ => ?_) (fun h => absurd h (by decide))
  refine w_iload_n dX6_put_9 rfl ?_
  refine w_if_lt (tgt := 30) dX6_put_10 (by decide) (fun h1 => ?_) (fun h1 => ?_)
  · skip
    replace h1 : i.toInt < 0 := (zlt rfl (by decide)).mp h1
    first
    | (exfalso; omega)
    | skip
      refine w_iconst (v := 2) dX6_put_30 (by decide) ?_
      exact w_ireturn dX6_put_31 rfl (rfl) rfl (⟨rfl, rfl⟩)
  · skip
    replace h1 : ¬ (i.toInt < 0) := fun q => h1 ((zlt rfl (by decide)).mpr q)
    first
    | (exfalso; omega)
    | skip
      refine w_iload_n dX6_put_13 rfl ?_
      refine w_aload_n dX6_put_14 rfl ?_
      refine w_getI ff_X6_23 rfl rfl dX6_put_15 ?_
      rw [show (I 20 k 0 3 : Int32) = nI q.2.1 from s3]
      refine w_icmp_ge (tgt := 30) dX6_put_18 (by decide) (fun h2 => ?_) (fun h2 => ?_)
      · skip
        replace h2 : ((q.2.1 : Nat) : Int) ≤ i.toInt := (zle (z_nI (by omega)) rfl).mp h2
        first
        | (exfalso; omega)
        | skip
          refine w_iconst (v := 2) dX6_put_30 (by decide) ?_
          exact w_ireturn dX6_put_31 rfl (rfl) rfl (⟨rfl, rfl⟩)
      · skip
        replace h2 : ¬ (((q.2.1 : Nat) : Int) ≤ i.toInt) := fun q => h2 ((zle (z_nI (by omega)) rfl).mpr q)
        first
        | (exfalso; omega)
        | skip
          refine w_iload_n dX6_put_21 rfl ?_
          refine w_aload_n dX6_put_22 rfl ?_
          refine w_getR (w := some (21, k, 0)) ff_X6_9 rfl rfl dX6_put_23 rfl ?_
          refine w_alen (v := 40) rfl rfl dX6_put_26 ?_
          refine w_icmp_lt (tgt := 32) dX6_put_27 (by decide) (fun h3 => ?_) (fun h3 => ?_)
          · skip
            replace h3 : i.toInt < 40 := (zlt rfl (by decide)).mp h3
            first
            | (exfalso; omega)
            | skip
              exfalso
              omega
          · skip
            replace h3 : ¬ (i.toInt < 40) := fun q => h3 ((zlt rfl (by decide)).mpr q)
            first
            | (exfalso; omega)
            | skip
              refine w_iconst (v := 2) dX6_put_30 (by decide) ?_
              exact w_ireturn dX6_put_31 rfl (rfl) rfl (⟨rfl, rfl⟩)

theorem p_lay_i {I : xF4 Int32} {L : xF4 Int64} {g : gG} (hg : WG g) (hh : CH I g) {k : Nat} (hk : k < 4) {q : Nat × (Nat × (Nat → Int32))} (hq : gSh g k = some q) {i v : Int32} (hx : i.toInt < 0 ∨ ((q.2.1 : Nat) : Int) ≤ i.toInt) : Tri 19 109 m_X10_lay [vR 0 0 0, vI (nI k), vI (i), vI (v)] (rM I L) (pCq (vI (-12)) I) := by
  refine ⟨k_X10_lay, Nat.le_of_ble_eq_true rfl, ?_⟩
  show Wp _ _ _ 0 [some (vR 0 0 0), some (vI (nI k)), some (vI (i)), some (vI (v)), none, none] [] (rM I L) _
  obtain ⟨hw, hd9, hgi, ht160, htb, hgs⟩ := id hg
  have hsh := hh.2.2.2.2.2.1 k hk
  rw [hq] at hsh
  obtain ⟨hq3, hq40⟩ := hgs k hk q hq
  obtain ⟨s1, s2, s3, s4⟩ := hsh
  refine w_aload_n dX10_lay_0 rfl ?_
  refine w_iload_n dX10_lay_1 rfl ?_
  refine w_callV (as := [vI (nI k)]) (st := []) (Tri.mono (c_sheetAt (i := k) hk) (Nat.le_of_ble_eq_true rfl)) rfl rfl tg_X10_sheetAt lk_X10_302 in_X10_sheetAt se_X10_sheetAt rfl dX10_lay_2 rfl (Nat.le_of_ble_eq_true rfl) (Nat.le_refl _) (Nat.le_refl _) ?_
  rintro _ _ ⟨rfl, rfl⟩ -
  refine w_astore (ls' := [some (vR 0 0 0), some (vI (nI k)), some (vI (i)), some (vI (v)), some (vR 20 k 0), none]) dX10_lay_5 rfl ?_
  refine w_aload dX10_lay_7 rfl ?_
  refine w_ifnonnull (tgt := 14) dX10_lay_9 (by decide) (fun _ _ => ?_) (fun h => by cases h)
  refine w_aload dX10_lay_14 rfl ?_
  refine w_iload_n dX10_lay_16 rfl ?_
  refine w_iload_n dX10_lay_17 rfl ?_
  refine w_callV (as := [vI (i), vI (v)]) (st := []) (Tri.mono (c_putI hg hh hk hq hx v) (Nat.le_of_ble_eq_true rfl)) rfl rfl tg_X6_put lk_X10_310 in_X6_put se_X6_put rfl dX10_lay_18 rfl (Nat.le_of_ble_eq_true rfl) (Nat.le_refl _) (Nat.le_refl _) ?_
  rintro _ _ ⟨rfl, rfl⟩ -
  refine w_istore (ls' := [some (vR 0 0 0), some (vI (nI k)), some (vI (i)), some (vI (v)), some (vR 20 k 0), some (vI (2))]) dX10_lay_21 rfl ?_
  refine w_iload dX10_lay_23 rfl ?_
  refine w_if_ne (tgt := 32) dX10_lay_25 (by decide) (fun _ => ?_) (fun h => absurd h (by decide))
  refine w_bipush (v := (-10)) dX10_lay_32 (by decide) ?_
  refine w_iload dX10_lay_34 rfl ?_
  refine w_isub dX10_lay_36 ?_
  rw [show (((-10)) - (2) : Int32) = (-12) from by decide]
  exact w_ireturn dX10_lay_37 rfl (rfl) rfl (⟨rfl, _, _, rfl, FrQ.rf⟩)

theorem q_lay_i {I : xF4 Int32} {L : xF4 Int64} {g : gG} (hg : WG g) (hh : MH I g) {k : Nat} (hk : k < 4) {q : Nat × (Nat × (Nat → Int32))} (hq : gSh g k = some q) {i v : Int32} (hx : i.toInt < 0 ∨ ((q.2.1 : Nat) : Int) ≤ i.toInt) : Tri 19 109 m_X11_lay [vR 30 0 0, vI (nI k), vI (i), vI (v)] (rM I L) (pMq (vI (-12)) I) := by
  refine ⟨k_X11_lay, Nat.le_of_ble_eq_true rfl, ?_⟩
  show Wp _ _ _ 0 [some (vR 30 0 0), some (vI (nI k)), some (vI (i)), some (vI (v))] [] (rM I L) _
  obtain ⟨hw, hd9, hgi, ht160, htb, hgs⟩ := id hg
  have hsh := hh.2.2.2.2.2.1 k hk
  rw [hq] at hsh
  obtain ⟨hq3, hq40⟩ := hgs k hk q hq
  obtain ⟨s2, s3, s4⟩ := hsh
  refine w_iload_n dX11_lay_0 rfl ?_
  refine w_iconst (v := 0) dX11_lay_1 (by decide) ?_
  refine w_callS (as := [vI (nI k), vI (0)]) (st := []) (Tri.mono (d_isSheet (x := nI k) (X := ((k : Nat) : Int)) (z_nI (by omega)) (y := 0) (Y := 0) (by decide)) (Nat.le_of_ble_eq_true rfl)) tg_X11_isSheet lk_X11_302 sa_X11_isSheet rfl dX11_lay_2 rfl (Nat.le_of_ble_eq_true rfl) (Nat.le_refl _) (Nat.le_refl _) ?_
  rintro _ _ ⟨rfl, rfl⟩ -
  refine w_ifne_b (tgt := 10) dX11_lay_5 (by decide) (fun h1 => ?_) (fun h1 => ?_)
  · skip
    first
    | (exfalso; omega)
    | skip
      refine w_aload_n dX11_lay_10 rfl ?_
      refine w_getR (w := some (37, 0, 0)) ff_X11_29 rfl rfl dX11_lay_11 rfl ?_
      refine w_iload_n dX11_lay_14 rfl ?_
      refine w_iaload (a := k) rfl (vp_in_nI (n := k) (by omega) (by omega)) (nI_clamp (n := k) (by omega)) dX11_lay_15 ?_
      rw [show (I 37 0 0 (k) : Int32) = nI q.1 from s2]
      refine w_bipush (v := (-4)) dX11_lay_16 (by decide) ?_
      refine w_icmp_ne (tgt := 24) dX11_lay_18 (by decide) (fun _ => ?_) (fun h => absurd h (nI_m4 q.1 (by omega)))
      refine w_iload_n dX11_lay_24 rfl ?_
      refine w_i2l dX11_lay_25 ?_
      refine w_lconst (v := 0) dX11_lay_26 (by decide) ?_
      refine w_aload_n dX11_lay_27 rfl ?_
      refine w_getR (w := some (38, 0, 0)) ff_X11_32 rfl rfl dX11_lay_28 rfl ?_
      refine w_iload_n dX11_lay_31 rfl ?_
      refine w_iaload (a := k) rfl (vp_in_nI (n := k) (by omega) (by omega)) (nI_clamp (n := k) (by omega)) dX11_lay_32 ?_
      rw [show (I 38 0 0 (k) : Int32) = nI q.2.1 from s3]
      refine w_iconst (v := 1) dX11_lay_33 (by decide) ?_
      refine w_isub dX11_lay_34 ?_
      refine w_i2l dX11_lay_35 ?_
      refine w_callS (as := [vL ((i : Int32).toInt64), vL (0), vL (((nI q.2.1) - (1) : Int32).toInt64)]) (st := []) (Tri.mono (d_in ((i : Int32).toInt64) (0) (((nI q.2.1) - (1) : Int32).toInt64)) (Nat.le_of_ble_eq_true rfl)) tg_X11_in lk_X11_66 sa_X11_in rfl dX11_lay_36 rfl (Nat.le_of_ble_eq_true rfl) (Nat.le_refl _) (Nat.le_refl _) ?_
      rintro _ _ ⟨rfl, rfl⟩ -
      refine w_top (y := bI (0 ≤ i.toInt ∧ i.toInt ≤ ((q.2.1 : Nat) : Int) - 1)) (show (bI ((0 : Int64) ≤ ((i : Int32).toInt64) ∧ ((i : Int32).toInt64) ≤ (((nI q.2.1) - (1) : Int32).toInt64)) : Int32) = bI (0 ≤ i.toInt ∧ i.toInt ≤ ((q.2.1 : Nat) : Int) - 1) from inZ (x := i) (l := 0) (h := (nI q.2.1) - (1)) (X := i.toInt) (A := 0) (B := ((q.2.1 : Nat) : Int) - 1) rfl (by decide) rfl rfl (by decide) (z_sub (a := q.2.1) (b := 1) (by omega) (by omega))) ?_
      refine w_ifne_b (tgt := 45) dX11_lay_39 (by decide) (fun h2 => ?_) (fun h2 => ?_)
      · skip
        first
        | (exfalso; omega)
        | skip
          exfalso
          omega
      · skip
        first
        | (exfalso; omega)
        | skip
          refine w_bipush (v := (-12)) dX11_lay_42 (by decide) ?_
          exact w_ireturn dX11_lay_44 rfl (rfl) rfl (⟨rfl, _, _, rfl, FrR.rf⟩)
  · skip
    first
    | (exfalso; omega)
    | skip
      refine w_iconst (v := (-1)) dX11_lay_8 (by decide) ?_
      exact w_ireturn dX11_lay_9 rfl (rfl) rfl (⟨rfl, _, _, rfl, FrR.rf⟩)

theorem c_putN {I : xF4 Int32} {L : xF4 Int64} {g : gG} (hg : WG g) (hh : CH I g) {k : Nat} (hk : k < 4) (hq : gSh g k = none) (i v : Int32) : Tri 0 109 m_X6_put [vR 20 k 0, vI (i), vI (v)] (rM I L) (pI 1 I L) := by
  refine ⟨k_X6_put, Nat.le_of_ble_eq_true rfl, ?_⟩
  show Wp _ _ _ 0 [some (vR 20 k 0), some (vI (i)), some (vI (v))] [] (rM I L) _
  obtain ⟨hw, hd9, hgi, ht160, htb, hgs⟩ := id hg
  have hsh := hh.2.2.2.2.2.1 k hk
  rw [hq] at hsh
  have s1 : I 20 k 0 1 = 0 := hsh
  refine w_aload_n dX6_put_0 rfl ?_
  refine w_getI ff_X6_15 rfl rfl dX6_put_1 ?_
  rw [show (I 20 k 0 1 : Int32) = 0 from s1]
  refine w_if_ne (tgt := 9) dX6_put_4 (by decide) (fun h => absurd (by decide) h) (fun _ => ?_)
  refine w_iconst (v := 1) dX6_put_7 (by decide) ?_
  exact w_ireturn dX6_put_8 rfl (rfl) rfl (⟨rfl, rfl⟩)

theorem p_lay_n {I : xF4 Int32} {L : xF4 Int64} {g : gG} (hg : WG g) (hh : CH I g) {k : Nat} (hk : k < 4) (hq : gSh g k = none) {i v : Int32} : Tri 19 109 m_X10_lay [vR 0 0 0, vI (nI k), vI (i), vI (v)] (rM I L) (pCq (vI (-11)) I) := by
  refine ⟨k_X10_lay, Nat.le_of_ble_eq_true rfl, ?_⟩
  show Wp _ _ _ 0 [some (vR 0 0 0), some (vI (nI k)), some (vI (i)), some (vI (v)), none, none] [] (rM I L) _
  obtain ⟨hw, hd9, hgi, ht160, htb, hgs⟩ := id hg
  refine w_aload_n dX10_lay_0 rfl ?_
  refine w_iload_n dX10_lay_1 rfl ?_
  refine w_callV (as := [vI (nI k)]) (st := []) (Tri.mono (c_sheetAt (i := k) hk) (Nat.le_of_ble_eq_true rfl)) rfl rfl tg_X10_sheetAt lk_X10_302 in_X10_sheetAt se_X10_sheetAt rfl dX10_lay_2 rfl (Nat.le_of_ble_eq_true rfl) (Nat.le_refl _) (Nat.le_refl _) ?_
  rintro _ _ ⟨rfl, rfl⟩ -
  refine w_astore (ls' := [some (vR 0 0 0), some (vI (nI k)), some (vI (i)), some (vI (v)), some (vR 20 k 0), none]) dX10_lay_5 rfl ?_
  refine w_aload dX10_lay_7 rfl ?_
  refine w_ifnonnull (tgt := 14) dX10_lay_9 (by decide) (fun _ _ => ?_) (fun h => by cases h)
  refine w_aload dX10_lay_14 rfl ?_
  refine w_iload_n dX10_lay_16 rfl ?_
  refine w_iload_n dX10_lay_17 rfl ?_
  refine w_callV (as := [vI (i), vI (v)]) (st := []) (Tri.mono (c_putN hg hh hk hq i v) (Nat.le_of_ble_eq_true rfl)) rfl rfl tg_X6_put lk_X10_310 in_X6_put se_X6_put rfl dX10_lay_18 rfl (Nat.le_of_ble_eq_true rfl) (Nat.le_refl _) (Nat.le_refl _) ?_
  rintro _ _ ⟨rfl, rfl⟩ -
  refine w_istore (ls' := [some (vR 0 0 0), some (vI (nI k)), some (vI (i)), some (vI (v)), some (vR 20 k 0), some (vI (1))]) dX10_lay_21 rfl ?_
  refine w_iload dX10_lay_23 rfl ?_
  refine w_if_ne (tgt := 32) dX10_lay_25 (by decide) (fun _ => ?_) (fun h => absurd h (by decide))
  refine w_bipush (v := (-10)) dX10_lay_32 (by decide) ?_
  refine w_iload dX10_lay_34 rfl ?_
  refine w_isub dX10_lay_36 ?_
  rw [show (((-10)) - (1) : Int32) = (-11) from by decide]
  exact w_ireturn dX10_lay_37 rfl (rfl) rfl (⟨rfl, _, _, rfl, FrQ.rf⟩)

theorem q_lay_n {I : xF4 Int32} {L : xF4 Int64} {g : gG} (hg : WG g) (hh : MH I g) {k : Nat} (hk : k < 4) (hq : gSh g k = none) {i v : Int32} : Tri 19 109 m_X11_lay [vR 30 0 0, vI (nI k), vI (i), vI (v)] (rM I L) (pMq (vI (-11)) I) := by
  refine ⟨k_X11_lay, Nat.le_of_ble_eq_true rfl, ?_⟩
  show Wp _ _ _ 0 [some (vR 30 0 0), some (vI (nI k)), some (vI (i)), some (vI (v))] [] (rM I L) _
  obtain ⟨hw, hd9, hgi, ht160, htb, hgs⟩ := id hg
  have hsh := hh.2.2.2.2.2.1 k hk
  rw [hq] at hsh
  have s1 : I 37 0 0 k = -4 := hsh
  refine w_iload_n dX11_lay_0 rfl ?_
  refine w_iconst (v := 0) dX11_lay_1 (by decide) ?_
  refine w_callS (as := [vI (nI k), vI (0)]) (st := []) (Tri.mono (d_isSheet (x := nI k) (X := ((k : Nat) : Int)) (z_nI (by omega)) (y := 0) (Y := 0) (by decide)) (Nat.le_of_ble_eq_true rfl)) tg_X11_isSheet lk_X11_302 sa_X11_isSheet rfl dX11_lay_2 rfl (Nat.le_of_ble_eq_true rfl) (Nat.le_refl _) (Nat.le_refl _) ?_
  rintro _ _ ⟨rfl, rfl⟩ -
  refine w_ifne_b (tgt := 10) dX11_lay_5 (by decide) (fun h1 => ?_) (fun h1 => ?_)
  · skip
    first
    | (exfalso; omega)
    | skip
      refine w_aload_n dX11_lay_10 rfl ?_
      refine w_getR (w := some (37, 0, 0)) ff_X11_29 rfl rfl dX11_lay_11 rfl ?_
      refine w_iload_n dX11_lay_14 rfl ?_
      refine w_iaload (a := k) rfl (vp_in_nI (n := k) (by omega) (by omega)) (nI_clamp (n := k) (by omega)) dX11_lay_15 ?_
      rw [show (I 37 0 0 (k) : Int32) = (-4) from s1]
      refine w_bipush (v := (-4)) dX11_lay_16 (by decide) ?_
      refine w_icmp_ne (tgt := 24) dX11_lay_18 (by decide) (fun h => absurd (by decide) h) (fun _ => ?_)
      refine w_bipush (v := (-11)) dX11_lay_21 (by decide) ?_
      exact w_ireturn dX11_lay_23 rfl (rfl) rfl (⟨rfl, _, _, rfl, FrR.rf⟩)
  · skip
    first
    | (exfalso; omega)
    | skip
      refine w_iconst (v := (-1)) dX11_lay_8 (by decide) ?_
      exact w_ireturn dX11_lay_9 rfl (rfl) rfl (⟨rfl, _, _, rfl, FrR.rf⟩)

theorem p_lay_k {I : xF4 Int32} {L : xF4 Int64} {g : gG} (hg : WG g) (hh : CH I g) {k i v : Int32} (hx : k.toInt < 0 ∨ ((4 : Nat) : Int) ≤ k.toInt) : Tri 19 109 m_X10_lay [vR 0 0 0, vI (k), vI (i), vI (v)] (rM I L) (pCq (vI (-1)) I) := by
  refine ⟨k_X10_lay, Nat.le_of_ble_eq_true rfl, ?_⟩
  show Wp _ _ _ 0 [some (vR 0 0 0), some (vI (k)), some (vI (i)), some (vI (v)), none, none] [] (rM I L) _
  obtain ⟨hw, hd9, hgi, ht160, htb, hgs⟩ := id hg
  obtain ⟨hJ, hC, hG, hD, hR, -⟩ := id hw
  refine w_aload_n dX10_lay_0 rfl ?_
  refine w_iload_n dX10_lay_1 rfl ?_
  refine w_callV (as := [vI (k)]) (st := []) (Tri.mono (c_sheetAtO (by omega)) (Nat.le_of_ble_eq_true rfl)) rfl rfl tg_X10_sheetAt lk_X10_302 in_X10_sheetAt se_X10_sheetAt rfl dX10_lay_2 rfl (Nat.le_of_ble_eq_true rfl) (Nat.le_refl _) (Nat.le_refl _) ?_
  rintro _ _ ⟨rfl, rfl⟩ -
  refine w_astore (ls' := [some (vR 0 0 0), some (vI (k)), some (vI (i)), some (vI (v)), some (vN), none]) dX10_lay_5 rfl ?_
  refine w_aload dX10_lay_7 rfl ?_
  refine w_ifnonnull (tgt := 14) dX10_lay_9 (by decide) (fun _ h => by cases h) (fun _ => ?_)
  refine w_iconst (v := (-1)) dX10_lay_12 (by decide) ?_
  exact w_ireturn dX10_lay_13 rfl (rfl) rfl (⟨rfl, _, _, rfl, FrQ.rf⟩)

theorem q_lay_k {I : xF4 Int32} {L : xF4 Int64} {g : gG} (hg : WG g) (hh : MH I g) {k i v : Int32} (hx : k.toInt < 0 ∨ ((4 : Nat) : Int) ≤ k.toInt) : Tri 19 109 m_X11_lay [vR 30 0 0, vI (k), vI (i), vI (v)] (rM I L) (pMq (vI (-1)) I) := by
  refine ⟨k_X11_lay, Nat.le_of_ble_eq_true rfl, ?_⟩
  show Wp _ _ _ 0 [some (vR 30 0 0), some (vI (k)), some (vI (i)), some (vI (v))] [] (rM I L) _
  obtain ⟨hw, hd9, hgi, ht160, htb, hgs⟩ := id hg
  obtain ⟨hJ, hC, hG, hD, hR, -⟩ := id hw
  refine w_iload_n dX11_lay_0 rfl ?_
  refine w_iconst (v := 0) dX11_lay_1 (by decide) ?_
  refine w_callS (as := [vI (k), vI (0)]) (st := []) (Tri.mono (d_isSheet (x := k) (X := k.toInt) rfl (y := 0) (Y := 0) (by decide)) (Nat.le_of_ble_eq_true rfl)) tg_X11_isSheet lk_X11_302 sa_X11_isSheet rfl dX11_lay_2 rfl (Nat.le_of_ble_eq_true rfl) (Nat.le_refl _) (Nat.le_refl _) ?_
  rintro _ _ ⟨rfl, rfl⟩ -
  refine w_ifne_b (tgt := 10) dX11_lay_5 (by decide) (fun h1 => ?_) (fun h1 => ?_)
  · skip
    first
    | (exfalso; omega)
    | skip
      exfalso
      omega
  · skip
    first
    | (exfalso; omega)
    | skip
      refine w_iconst (v := (-1)) dX11_lay_8 (by decide) ?_
      exact w_ireturn dX11_lay_9 rfl (rfl) rfl (⟨rfl, _, _, rfl, FrR.rf⟩)

theorem p_count_0 {I : xF4 Int32} {L : xF4 Int64} {g : gG} (hg : WG g) (hh : CH I g)  : Tri 19 109 m_X10_count [vR 0 0 0, vI (0)] (rM I L) (pCq (vI (nI (nG (gA g)))) I) := by
  refine ⟨k_X10_count, Nat.le_of_ble_eq_true rfl, ?_⟩
  show Wp _ _ _ 0 [some (vR 0 0 0), some (vI (0))] [] (rM I L) _
  obtain ⟨hw, hd9, hgi, ht160, htb, hgs⟩ := id hg
  refine w_iload_n dX10_count_0 rfl ?_
  refine w_tabIn (off := 39) (tgt := 40) dX10_count_1 (by decide) (by decide) rfl (by decide) ?_
  refine w_aload_n dX10_count_40 rfl ?_
  refine w_getR (w := some (1, 0, 0)) ff_X10_10 rfl rfl dX10_count_41 rfl ?_
  refine w_getI ff_X10_270 rfl rfl dX10_count_44 ?_
  rw [show (I 1 0 0 5 : Int32) = nI (nG (gA g)) from hh.1.2.2.1]
  exact w_ireturn dX10_count_47 rfl (rfl) rfl (⟨rfl, _, _, rfl, FrQ.rf⟩)

theorem q_count_0 {I : xF4 Int32} {L : xF4 Int64} {g : gG} (hg : WG g) (hh : MH I g)  : Tri 19 109 m_X11_count [vR 30 0 0, vI (0)] (rM I L) (pMq (vI (nI (nG (gA g)))) I) := by
  refine ⟨k_X11_count, Nat.le_of_ble_eq_true rfl, ?_⟩
  show Wp _ _ _ 0 [some (vR 30 0 0), some (vI (0))] [] (rM I L) _
  obtain ⟨hw, hd9, hgi, ht160, htb, hgs⟩ := id hg
  obtain ⟨hJ, hC, hG, hD, hR, -⟩ := id hw
  have hh0 := hh
  refine w_aload_n dX11_count_0 rfl ?_
  refine w_callV (as := []) (st := []) (Tri.mono (d_starts hh.1 hw) (Nat.le_of_ble_eq_true rfl)) rfl rfl tg_X11_starts lk_X11_192 in_X11_starts se_X11_starts rfl dX11_count_1 rfl (Nat.le_of_ble_eq_true rfl) (Nat.le_refl _) (Nat.le_refl _) ?_
  rintro v M9 ⟨rfl, I1, rfl, hm1, hi1, hf1⟩ -
  have hs1 := hf1.r.si hh.1
  have hh1 := hh.r hf1.r
  refine w_iload_n dX11_count_4 rfl ?_
  refine w_tabIn (off := 39) (tgt := 44) dX11_count_5 (by decide) (by decide) rfl (by decide) ?_
  refine w_aload_n dX11_count_44 rfl ?_
  refine w_getR (w := some (31, 0, 0)) ff_X11_7 rfl rfl dX11_count_45 rfl ?_
  refine w_bipush (v := 57) dX11_count_48 (by decide) ?_
  refine w_iaload (a := 57) rfl (vp_in_nI (n := 57) (by omega) (by omega)) (nI_clamp (n := 57) (by omega)) dX11_count_50 ?_
  rw [show (I1 31 0 0 (57) : Int32) = nI (nG (gA g)) from hs1.2.2.ng rfl]
  exact w_ireturn dX11_count_51 rfl (rfl) rfl (⟨rfl, _, _, rfl, hf1.r⟩)

theorem p_count_2 {I : xF4 Int32} {L : xF4 Int64} {g : gG} (hg : WG g) (hh : CH I g)  : Tri 19 109 m_X10_count [vR 0 0 0, vI (2)] (rM I L) (pCq (vI (nI (gTn g))) I) := by
  refine ⟨k_X10_count, Nat.le_of_ble_eq_true rfl, ?_⟩
  show Wp _ _ _ 0 [some (vR 0 0 0), some (vI (2))] [] (rM I L) _
  obtain ⟨hw, hd9, hgi, ht160, htb, hgs⟩ := id hg
  refine w_iload_n dX10_count_0 rfl ?_
  refine w_tabIn (off := 52) (tgt := 53) dX10_count_1 (by decide) (by decide) rfl (by decide) ?_
  refine w_aload_n dX10_count_53 rfl ?_
  refine w_getR (w := some (10, 0, 0)) ff_X10_29 rfl rfl dX10_count_54 rfl ?_
  refine w_getI ff_X10_69 rfl rfl dX10_count_57 ?_
  rw [show (I 10 0 0 1 : Int32) = nI (gTn g) from hh.2.2.1]
  exact w_ireturn dX10_count_60 rfl (rfl) rfl (⟨rfl, _, _, rfl, FrQ.rf⟩)

theorem q_count_2 {I : xF4 Int32} {L : xF4 Int64} {g : gG} (hg : WG g) (hh : MH I g)  : Tri 19 109 m_X11_count [vR 30 0 0, vI (2)] (rM I L) (pMq (vI (nI (gTn g))) I) := by
  refine ⟨k_X11_count, Nat.le_of_ble_eq_true rfl, ?_⟩
  show Wp _ _ _ 0 [some (vR 30 0 0), some (vI (2))] [] (rM I L) _
  obtain ⟨hw, hd9, hgi, ht160, htb, hgs⟩ := id hg
  obtain ⟨hJ, hC, hG, hD, hR, -⟩ := id hw
  have hh0 := hh
  refine w_aload_n dX11_count_0 rfl ?_
  refine w_callV (as := []) (st := []) (Tri.mono (d_starts hh.1 hw) (Nat.le_of_ble_eq_true rfl)) rfl rfl tg_X11_starts lk_X11_192 in_X11_starts se_X11_starts rfl dX11_count_1 rfl (Nat.le_of_ble_eq_true rfl) (Nat.le_refl _) (Nat.le_refl _) ?_
  rintro v M9 ⟨rfl, I1, rfl, hm1, hi1, hf1⟩ -
  have hs1 := hf1.r.si hh.1
  have hh1 := hh.r hf1.r
  refine w_iload_n dX11_count_4 rfl ?_
  refine w_tabIn (off := 67) (tgt := 72) dX11_count_5 (by decide) (by decide) rfl (by decide) ?_
  refine w_aload_n dX11_count_72 rfl ?_
  refine w_getI ff_X11_70 rfl rfl dX11_count_73 ?_
  rw [show (I1 30 0 0 10 : Int32) = nI (gTn g) from hh1.2.2.1]
  exact w_ireturn dX11_count_76 rfl (rfl) rfl (⟨rfl, _, _, rfl, hf1.r⟩)

theorem p_count_4 {I : xF4 Int32} {L : xF4 Int64} {g : gG} (hg : WG g) (hh : CH I g)  : Tri 19 109 m_X10_count [vR 0 0 0, vI (4)] (rM I L) (pCq (vI (nI (sumN (fun j => jF (gA g) j 2) (nJ (gA g))))) I) := by
  refine ⟨k_X10_count, Nat.le_of_ble_eq_true rfl, ?_⟩
  show Wp _ _ _ 0 [some (vR 0 0 0), some (vI (4))] [] (rM I L) _
  obtain ⟨hw, hd9, hgi, ht160, htb, hgs⟩ := id hg
  refine w_iload_n dX10_count_0 rfl ?_
  refine w_tabIn (off := 65) (tgt := 66) dX10_count_1 (by decide) (by decide) rfl (by decide) ?_
  refine w_aload_n dX10_count_66 rfl ?_
  refine w_getR (w := some (1, 0, 0)) ff_X10_10 rfl rfl dX10_count_67 rfl ?_
  refine w_callV (as := []) (st := []) (Tri.mono (c_allPurses hh.1 hw) (Nat.le_of_ble_eq_true rfl)) rfl rfl tg_X1_allPurses lk_X10_202 in_X1_allPurses se_X1_allPurses rfl dX10_count_70 rfl (Nat.le_of_ble_eq_true rfl) (Nat.le_refl _) (Nat.le_refl _) ?_
  rintro _ _ ⟨rfl, rfl⟩ -
  exact w_ireturn dX10_count_73 rfl (rfl) rfl (⟨rfl, _, _, rfl, FrQ.rf⟩)

theorem q_count_4 {I : xF4 Int32} {L : xF4 Int64} {g : gG} (hg : WG g) (hh : MH I g)  : Tri 19 109 m_X11_count [vR 30 0 0, vI (4)] (rM I L) (pMq (vI (nI (sumN (fun j => jF (gA g) j 2) (nJ (gA g))))) I) := by
  refine ⟨k_X11_count, Nat.le_of_ble_eq_true rfl, ?_⟩
  show Wp _ _ _ 0 [some (vR 30 0 0), some (vI (4))] [] (rM I L) _
  obtain ⟨hw, hd9, hgi, ht160, htb, hgs⟩ := id hg
  obtain ⟨hJ, hC, hG, hD, hR, -⟩ := id hw
  have hh0 := hh
  refine w_aload_n dX11_count_0 rfl ?_
  refine w_callV (as := []) (st := []) (Tri.mono (d_starts hh.1 hw) (Nat.le_of_ble_eq_true rfl)) rfl rfl tg_X11_starts lk_X11_192 in_X11_starts se_X11_starts rfl dX11_count_1 rfl (Nat.le_of_ble_eq_true rfl) (Nat.le_refl _) (Nat.le_refl _) ?_
  rintro v M9 ⟨rfl, I1, rfl, hm1, hi1, hf1⟩ -
  have hs1 := hf1.r.si hh.1
  have hh1 := hh.r hf1.r
  refine w_iload_n dX11_count_4 rfl ?_
  refine w_tabIn (off := 95) (tgt := 100) dX11_count_5 (by decide) (by decide) rfl (by decide) ?_
  refine w_aload_n dX11_count_100 rfl ?_
  refine w_iconst (v := 2) dX11_count_101 (by decide) ?_
  refine w_callV (as := [vI (2)]) (st := []) (Tri.mono (d_purses hm1 hw) (Nat.le_of_ble_eq_true rfl)) rfl rfl tg_X11_allOf lk_X11_233 in_X11_allOf se_X11_allOf rfl dX11_count_102 rfl (Nat.le_of_ble_eq_true rfl) (Nat.le_refl _) (Nat.le_refl _) ?_
  rintro _ _ ⟨rfl, rfl⟩ -
  exact w_ireturn dX11_count_105 rfl (rfl) rfl (⟨rfl, _, _, rfl, hf1.r⟩)

theorem p_count_5 {I : xF4 Int32} {L : xF4 Int64} {g : gG} (hg : WG g) (hh : CH I g)  : Tri 19 109 m_X10_count [vR 0 0 0, vI (5)] (rM I L) (pCq (vI (sumI (fun j => sC (gA g) j) (nJ (gA g)))) I) := by
  refine ⟨k_X10_count, Nat.le_of_ble_eq_true rfl, ?_⟩
  show Wp _ _ _ 0 [some (vR 0 0 0), some (vI (5))] [] (rM I L) _
  obtain ⟨hw, hd9, hgi, ht160, htb, hgs⟩ := id hg
  refine w_iload_n dX10_count_0 rfl ?_
  refine w_tabIn (off := 73) (tgt := 74) dX10_count_1 (by decide) (by decide) rfl (by decide) ?_
  refine w_aload_n dX10_count_74 rfl ?_
  refine w_getR (w := some (1, 0, 0)) ff_X10_10 rfl rfl dX10_count_75 rfl ?_
  refine w_callV (as := []) (st := []) (Tri.mono (c_allScars hh.1 hw) (Nat.le_of_ble_eq_true rfl)) rfl rfl tg_X1_allScars lk_X10_332 in_X1_allScars se_X1_allScars rfl dX10_count_78 rfl (Nat.le_of_ble_eq_true rfl) (Nat.le_refl _) (Nat.le_refl _) ?_
  rintro _ _ ⟨rfl, rfl⟩ -
  exact w_ireturn dX10_count_81 rfl (rfl) rfl (⟨rfl, _, _, rfl, FrQ.rf⟩)

theorem q_count_5 {I : xF4 Int32} {L : xF4 Int64} {g : gG} (hg : WG g) (hh : MH I g)  : Tri 19 109 m_X11_count [vR 30 0 0, vI (5)] (rM I L) (pMq (vI (sumI (fun j => sC (gA g) j) (nJ (gA g)))) I) := by
  refine ⟨k_X11_count, Nat.le_of_ble_eq_true rfl, ?_⟩
  show Wp _ _ _ 0 [some (vR 30 0 0), some (vI (5))] [] (rM I L) _
  obtain ⟨hw, hd9, hgi, ht160, htb, hgs⟩ := id hg
  obtain ⟨hJ, hC, hG, hD, hR, -⟩ := id hw
  have hh0 := hh
  refine w_aload_n dX11_count_0 rfl ?_
  refine w_callV (as := []) (st := []) (Tri.mono (d_starts hh.1 hw) (Nat.le_of_ble_eq_true rfl)) rfl rfl tg_X11_starts lk_X11_192 in_X11_starts se_X11_starts rfl dX11_count_1 rfl (Nat.le_of_ble_eq_true rfl) (Nat.le_refl _) (Nat.le_refl _) ?_
  rintro v M9 ⟨rfl, I1, rfl, hm1, hi1, hf1⟩ -
  have hs1 := hf1.r.si hh.1
  have hh1 := hh.r hf1.r
  refine w_iload_n dX11_count_4 rfl ?_
  refine w_tabIn (off := 101) (tgt := 106) dX11_count_5 (by decide) (by decide) rfl (by decide) ?_
  refine w_aload_n dX11_count_106 rfl ?_
  refine w_iconst (v := 4) dX11_count_107 (by decide) ?_
  refine w_callV (as := [vI (4)]) (st := []) (Tri.mono (d_scars hm1 hw) (Nat.le_of_ble_eq_true rfl)) rfl rfl tg_X11_allOf lk_X11_233 in_X11_allOf se_X11_allOf rfl dX11_count_108 rfl (Nat.le_of_ble_eq_true rfl) (Nat.le_refl _) (Nat.le_refl _) ?_
  rintro _ _ ⟨rfl, rfl⟩ -
  exact w_ireturn dX11_count_111 rfl (rfl) rfl (⟨rfl, _, _, rfl, hf1.r⟩)

theorem p_count_w {I : xF4 Int32} {L : xF4 Int64} {g : gG} (hg : WG g) (hh : CH I g) {what : Int32} (hx : what.toInt < 0 ∨ ((6 : Nat) : Int) ≤ what.toInt) : Tri 19 109 m_X10_count [vR 0 0 0, vI (what)] (rM I L) (pCq (vI (-1)) I) := by
  refine ⟨k_X10_count, Nat.le_of_ble_eq_true rfl, ?_⟩
  show Wp _ _ _ 0 [some (vR 0 0 0), some (vI (what))] [] (rM I L) _
  obtain ⟨hw, hd9, hgi, ht160, htb, hgs⟩ := id hg
  refine w_iload_n dX10_count_0 rfl ?_
  refine w_tabOut (tgt := 82) dX10_count_1 (by rw [show (what : Int32).toInt = what.toInt from rfl]; omega) (by decide) ?_
  refine w_iconst (v := (-1)) dX10_count_82 (by decide) ?_
  exact w_ireturn dX10_count_83 rfl (rfl) rfl (⟨rfl, _, _, rfl, FrQ.rf⟩)

theorem q_count_w {I : xF4 Int32} {L : xF4 Int64} {g : gG} (hg : WG g) (hh : MH I g) {what : Int32} (hx : what.toInt < 0 ∨ ((6 : Nat) : Int) ≤ what.toInt) : Tri 19 109 m_X11_count [vR 30 0 0, vI (what)] (rM I L) (pMq (vI (-1)) I) := by
  refine ⟨k_X11_count, Nat.le_of_ble_eq_true rfl, ?_⟩
  show Wp _ _ _ 0 [some (vR 30 0 0), some (vI (what))] [] (rM I L) _
  obtain ⟨hw, hd9, hgi, ht160, htb, hgs⟩ := id hg
  obtain ⟨hJ, hC, hG, hD, hR, -⟩ := id hw
  have hh0 := hh
  refine w_aload_n dX11_count_0 rfl ?_
  refine w_callV (as := []) (st := []) (Tri.mono (d_starts hh.1 hw) (Nat.le_of_ble_eq_true rfl)) rfl rfl tg_X11_starts lk_X11_192 in_X11_starts se_X11_starts rfl dX11_count_1 rfl (Nat.le_of_ble_eq_true rfl) (Nat.le_refl _) (Nat.le_refl _) ?_
  rintro v M9 ⟨rfl, I1, rfl, hm1, hi1, hf1⟩ -
  have hs1 := hf1.r.si hh.1
  have hh1 := hh.r hf1.r
  refine w_iload_n dX11_count_4 rfl ?_
  refine w_tabOut (tgt := 112) dX11_count_5 (by rw [show (what : Int32).toInt = what.toInt from rfl]; omega) (by decide) ?_
  refine w_iconst (v := (-1)) dX11_count_112 (by decide) ?_
  exact w_ireturn dX11_count_113 rfl (rfl) rfl (⟨rfl, _, _, rfl, hf1.r⟩)

theorem c_there00 {I : xF4 Int32} {L : xF4 Int64} (e0 : I 9 0 0 1 = 0) (e1 : I 9 1 0 1 = 0) : Tri 1 109 m_X10_imagesThere [vR 0 0 0] (rM I L) (pI 0 I L) := by
  refine ⟨k_X10_imagesThere, Nat.le_of_ble_eq_true rfl, ?_⟩
  show Wp _ _ _ 0 [some (vR 0 0 0), none, none, none] [] (rM I L) _
  refine w_iconst (v := 0) dX10_imagesThere_0 (by decide) ?_
  refine w_istore_n (ls' := [some (vR 0 0 0), some (vI (0)), none, none]) dX10_imagesThere_1 rfl ?_
  refine w_iconst (v := 0) dX10_imagesThere_2 (by decide) ?_
  refine w_istore_n (ls' := [some (vR 0 0 0), some (vI (0)), some (vI (0)), none]) dX10_imagesThere_3 rfl ?_
  refine w_iload_n dX10_imagesThere_4 rfl ?_
  refine w_iconst (v := 2) dX10_imagesThere_5 (by decide) ?_
  refine w_icmp_ge (tgt := 35) dX10_imagesThere_6 (by decide) (fun h => absurd h (by decide)) (fun _ => ?_)
  refine w_aload_n dX10_imagesThere_9 rfl ?_
  refine w_iload_n dX10_imagesThere_10 rfl ?_
  refine w_callV (as := [vI (0)]) (st := []) (Tri.mono (c_imageAt (i := 0) (by decide)) (Nat.le_of_ble_eq_true rfl)) rfl rfl tg_X10_imageAt lk_X10_291 in_X10_imageAt se_X10_imageAt rfl dX10_imagesThere_11 rfl (Nat.le_of_ble_eq_true rfl) (Nat.le_refl _) (Nat.le_refl _) ?_
  rintro _ _ ⟨rfl, rfl⟩ -
  refine w_astore_n (ls' := [some (vR 0 0 0), some (vI (0)), some (vI (0)), some (vR 9 0 0)]) dX10_imagesThere_14 rfl ?_
  refine w_aload_n dX10_imagesThere_15 rfl ?_
  refine w_ifnull (tgt := 29) dX10_imagesThere_16 (by decide) (fun h => by cases h) (fun _ _ => ?_)
  refine w_aload_n dX10_imagesThere_19 rfl ?_
  refine w_getI ff_X10_295 rfl rfl dX10_imagesThere_20 ?_
  rw [show (I 9 0 0 1 : Int32) = 0 from e0]
  refine w_if_eq (tgt := 29) dX10_imagesThere_23 (by decide) (fun _ => ?_) (fun h => absurd (by decide) h)
  refine w_iinc (v := 1) (ls' := [some (vR 0 0 0), some (vI (0)), some (vI (1)), some (vR 9 0 0)]) dX10_imagesThere_29 rfl (by decide) rfl ?_
  refine w_goto (tgt := 4) dX10_imagesThere_32 (by decide) ?_
  refine w_iload_n dX10_imagesThere_4 rfl ?_
  refine w_iconst (v := 2) dX10_imagesThere_5 (by decide) ?_
  refine w_icmp_ge (tgt := 35) dX10_imagesThere_6 (by decide) (fun h => absurd h (by decide)) (fun _ => ?_)
  refine w_aload_n dX10_imagesThere_9 rfl ?_
  refine w_iload_n dX10_imagesThere_10 rfl ?_
  refine w_callV (as := [vI (1)]) (st := []) (Tri.mono (c_imageAt (i := 1) (by decide)) (Nat.le_of_ble_eq_true rfl)) rfl rfl tg_X10_imageAt lk_X10_291 in_X10_imageAt se_X10_imageAt rfl dX10_imagesThere_11 rfl (Nat.le_of_ble_eq_true rfl) (Nat.le_refl _) (Nat.le_refl _) ?_
  rintro _ _ ⟨rfl, rfl⟩ -
  refine w_astore_n (ls' := [some (vR 0 0 0), some (vI (0)), some (vI (1)), some (vR 9 1 0)]) dX10_imagesThere_14 rfl ?_
  refine w_aload_n dX10_imagesThere_15 rfl ?_
  refine w_ifnull (tgt := 29) dX10_imagesThere_16 (by decide) (fun h => by cases h) (fun _ _ => ?_)
  refine w_aload_n dX10_imagesThere_19 rfl ?_
  refine w_getI ff_X10_295 rfl rfl dX10_imagesThere_20 ?_
  rw [show (I 9 1 0 1 : Int32) = 0 from e1]
  refine w_if_eq (tgt := 29) dX10_imagesThere_23 (by decide) (fun _ => ?_) (fun h => absurd (by decide) h)
  refine w_iinc (v := 2) (ls' := [some (vR 0 0 0), some (vI (0)), some (vI (2)), some (vR 9 1 0)]) dX10_imagesThere_29 rfl (by decide) rfl ?_
  refine w_goto (tgt := 4) dX10_imagesThere_32 (by decide) ?_
  refine w_iload_n dX10_imagesThere_4 rfl ?_
  refine w_iconst (v := 2) dX10_imagesThere_5 (by decide) ?_
  refine w_icmp_ge (tgt := 35) dX10_imagesThere_6 (by decide) (fun _ => ?_) (fun h => absurd (by decide) h)
  refine w_iload_n dX10_imagesThere_35 rfl ?_
  exact w_ireturn dX10_imagesThere_36 rfl (rfl) rfl (⟨rfl, rfl⟩)

theorem c_there01 {I : xF4 Int32} {L : xF4 Int64} (e0 : I 9 0 0 1 = 0) (e1 : I 9 1 0 1 = 1) : Tri 1 109 m_X10_imagesThere [vR 0 0 0] (rM I L) (pI 1 I L) := by
  refine ⟨k_X10_imagesThere, Nat.le_of_ble_eq_true rfl, ?_⟩
  show Wp _ _ _ 0 [some (vR 0 0 0), none, none, none] [] (rM I L) _
  refine w_iconst (v := 0) dX10_imagesThere_0 (by decide) ?_
  refine w_istore_n (ls' := [some (vR 0 0 0), some (vI (0)), none, none]) dX10_imagesThere_1 rfl ?_
  refine w_iconst (v := 0) dX10_imagesThere_2 (by decide) ?_
  refine w_istore_n (ls' := [some (vR 0 0 0), some (vI (0)), some (vI (0)), none]) dX10_imagesThere_3 rfl ?_
  refine w_iload_n dX10_imagesThere_4 rfl ?_
  refine w_iconst (v := 2) dX10_imagesThere_5 (by decide) ?_
  refine w_icmp_ge (tgt := 35) dX10_imagesThere_6 (by decide) (fun h => absurd h (by decide)) (fun _ => ?_)
  refine w_aload_n dX10_imagesThere_9 rfl ?_
  refine w_iload_n dX10_imagesThere_10 rfl ?_
  refine w_callV (as := [vI (0)]) (st := []) (Tri.mono (c_imageAt (i := 0) (by decide)) (Nat.le_of_ble_eq_true rfl)) rfl rfl tg_X10_imageAt lk_X10_291 in_X10_imageAt se_X10_imageAt rfl dX10_imagesThere_11 rfl (Nat.le_of_ble_eq_true rfl) (Nat.le_refl _) (Nat.le_refl _) ?_
  rintro _ _ ⟨rfl, rfl⟩ -
  refine w_astore_n (ls' := [some (vR 0 0 0), some (vI (0)), some (vI (0)), some (vR 9 0 0)]) dX10_imagesThere_14 rfl ?_
  refine w_aload_n dX10_imagesThere_15 rfl ?_
  refine w_ifnull (tgt := 29) dX10_imagesThere_16 (by decide) (fun h => by cases h) (fun _ _ => ?_)
  refine w_aload_n dX10_imagesThere_19 rfl ?_
  refine w_getI ff_X10_295 rfl rfl dX10_imagesThere_20 ?_
  rw [show (I 9 0 0 1 : Int32) = 0 from e0]
  refine w_if_eq (tgt := 29) dX10_imagesThere_23 (by decide) (fun _ => ?_) (fun h => absurd (by decide) h)
  refine w_iinc (v := 1) (ls' := [some (vR 0 0 0), some (vI (0)), some (vI (1)), some (vR 9 0 0)]) dX10_imagesThere_29 rfl (by decide) rfl ?_
  refine w_goto (tgt := 4) dX10_imagesThere_32 (by decide) ?_
  refine w_iload_n dX10_imagesThere_4 rfl ?_
  refine w_iconst (v := 2) dX10_imagesThere_5 (by decide) ?_
  refine w_icmp_ge (tgt := 35) dX10_imagesThere_6 (by decide) (fun h => absurd h (by decide)) (fun _ => ?_)
  refine w_aload_n dX10_imagesThere_9 rfl ?_
  refine w_iload_n dX10_imagesThere_10 rfl ?_
  refine w_callV (as := [vI (1)]) (st := []) (Tri.mono (c_imageAt (i := 1) (by decide)) (Nat.le_of_ble_eq_true rfl)) rfl rfl tg_X10_imageAt lk_X10_291 in_X10_imageAt se_X10_imageAt rfl dX10_imagesThere_11 rfl (Nat.le_of_ble_eq_true rfl) (Nat.le_refl _) (Nat.le_refl _) ?_
  rintro _ _ ⟨rfl, rfl⟩ -
  refine w_astore_n (ls' := [some (vR 0 0 0), some (vI (0)), some (vI (1)), some (vR 9 1 0)]) dX10_imagesThere_14 rfl ?_
  refine w_aload_n dX10_imagesThere_15 rfl ?_
  refine w_ifnull (tgt := 29) dX10_imagesThere_16 (by decide) (fun h => by cases h) (fun _ _ => ?_)
  refine w_aload_n dX10_imagesThere_19 rfl ?_
  refine w_getI ff_X10_295 rfl rfl dX10_imagesThere_20 ?_
  rw [show (I 9 1 0 1 : Int32) = 1 from e1]
  refine w_if_eq (tgt := 29) dX10_imagesThere_23 (by decide) (fun h => absurd h (by decide)) (fun _ => ?_)
  refine w_iinc (v := 1) (ls' := [some (vR 0 0 0), some (vI (1)), some (vI (1)), some (vR 9 1 0)]) dX10_imagesThere_26 rfl (by decide) rfl ?_
  refine w_iinc (v := 2) (ls' := [some (vR 0 0 0), some (vI (1)), some (vI (2)), some (vR 9 1 0)]) dX10_imagesThere_29 rfl (by decide) rfl ?_
  refine w_goto (tgt := 4) dX10_imagesThere_32 (by decide) ?_
  refine w_iload_n dX10_imagesThere_4 rfl ?_
  refine w_iconst (v := 2) dX10_imagesThere_5 (by decide) ?_
  refine w_icmp_ge (tgt := 35) dX10_imagesThere_6 (by decide) (fun _ => ?_) (fun h => absurd (by decide) h)
  refine w_iload_n dX10_imagesThere_35 rfl ?_
  exact w_ireturn dX10_imagesThere_36 rfl (rfl) rfl (⟨rfl, rfl⟩)

theorem c_there10 {I : xF4 Int32} {L : xF4 Int64} (e0 : I 9 0 0 1 = 1) (e1 : I 9 1 0 1 = 0) : Tri 1 109 m_X10_imagesThere [vR 0 0 0] (rM I L) (pI 1 I L) := by
  refine ⟨k_X10_imagesThere, Nat.le_of_ble_eq_true rfl, ?_⟩
  show Wp _ _ _ 0 [some (vR 0 0 0), none, none, none] [] (rM I L) _
  refine w_iconst (v := 0) dX10_imagesThere_0 (by decide) ?_
  refine w_istore_n (ls' := [some (vR 0 0 0), some (vI (0)), none, none]) dX10_imagesThere_1 rfl ?_
  refine w_iconst (v := 0) dX10_imagesThere_2 (by decide) ?_
  refine w_istore_n (ls' := [some (vR 0 0 0), some (vI (0)), some (vI (0)), none]) dX10_imagesThere_3 rfl ?_
  refine w_iload_n dX10_imagesThere_4 rfl ?_
  refine w_iconst (v := 2) dX10_imagesThere_5 (by decide) ?_
  refine w_icmp_ge (tgt := 35) dX10_imagesThere_6 (by decide) (fun h => absurd h (by decide)) (fun _ => ?_)
  refine w_aload_n dX10_imagesThere_9 rfl ?_
  refine w_iload_n dX10_imagesThere_10 rfl ?_
  refine w_callV (as := [vI (0)]) (st := []) (Tri.mono (c_imageAt (i := 0) (by decide)) (Nat.le_of_ble_eq_true rfl)) rfl rfl tg_X10_imageAt lk_X10_291 in_X10_imageAt se_X10_imageAt rfl dX10_imagesThere_11 rfl (Nat.le_of_ble_eq_true rfl) (Nat.le_refl _) (Nat.le_refl _) ?_
  rintro _ _ ⟨rfl, rfl⟩ -
  refine w_astore_n (ls' := [some (vR 0 0 0), some (vI (0)), some (vI (0)), some (vR 9 0 0)]) dX10_imagesThere_14 rfl ?_
  refine w_aload_n dX10_imagesThere_15 rfl ?_
  refine w_ifnull (tgt := 29) dX10_imagesThere_16 (by decide) (fun h => by cases h) (fun _ _ => ?_)
  refine w_aload_n dX10_imagesThere_19 rfl ?_
  refine w_getI ff_X10_295 rfl rfl dX10_imagesThere_20 ?_
  rw [show (I 9 0 0 1 : Int32) = 1 from e0]
  refine w_if_eq (tgt := 29) dX10_imagesThere_23 (by decide) (fun h => absurd h (by decide)) (fun _ => ?_)
  refine w_iinc (v := 1) (ls' := [some (vR 0 0 0), some (vI (1)), some (vI (0)), some (vR 9 0 0)]) dX10_imagesThere_26 rfl (by decide) rfl ?_
  refine w_iinc (v := 1) (ls' := [some (vR 0 0 0), some (vI (1)), some (vI (1)), some (vR 9 0 0)]) dX10_imagesThere_29 rfl (by decide) rfl ?_
  refine w_goto (tgt := 4) dX10_imagesThere_32 (by decide) ?_
  refine w_iload_n dX10_imagesThere_4 rfl ?_
  refine w_iconst (v := 2) dX10_imagesThere_5 (by decide) ?_
  refine w_icmp_ge (tgt := 35) dX10_imagesThere_6 (by decide) (fun h => absurd h (by decide)) (fun _ => ?_)
  refine w_aload_n dX10_imagesThere_9 rfl ?_
  refine w_iload_n dX10_imagesThere_10 rfl ?_
  refine w_callV (as := [vI (1)]) (st := []) (Tri.mono (c_imageAt (i := 1) (by decide)) (Nat.le_of_ble_eq_true rfl)) rfl rfl tg_X10_imageAt lk_X10_291 in_X10_imageAt se_X10_imageAt rfl dX10_imagesThere_11 rfl (Nat.le_of_ble_eq_true rfl) (Nat.le_refl _) (Nat.le_refl _) ?_
  rintro _ _ ⟨rfl, rfl⟩ -
  refine w_astore_n (ls' := [some (vR 0 0 0), some (vI (1)), some (vI (1)), some (vR 9 1 0)]) dX10_imagesThere_14 rfl ?_
  refine w_aload_n dX10_imagesThere_15 rfl ?_
  refine w_ifnull (tgt := 29) dX10_imagesThere_16 (by decide) (fun h => by cases h) (fun _ _ => ?_)
  refine w_aload_n dX10_imagesThere_19 rfl ?_
  refine w_getI ff_X10_295 rfl rfl dX10_imagesThere_20 ?_
  rw [show (I 9 1 0 1 : Int32) = 0 from e1]
  refine w_if_eq (tgt := 29) dX10_imagesThere_23 (by decide) (fun _ => ?_) (fun h => absurd (by decide) h)
  refine w_iinc (v := 2) (ls' := [some (vR 0 0 0), some (vI (1)), some (vI (2)), some (vR 9 1 0)]) dX10_imagesThere_29 rfl (by decide) rfl ?_
  refine w_goto (tgt := 4) dX10_imagesThere_32 (by decide) ?_
  refine w_iload_n dX10_imagesThere_4 rfl ?_
  refine w_iconst (v := 2) dX10_imagesThere_5 (by decide) ?_
  refine w_icmp_ge (tgt := 35) dX10_imagesThere_6 (by decide) (fun _ => ?_) (fun h => absurd (by decide) h)
  refine w_iload_n dX10_imagesThere_35 rfl ?_
  exact w_ireturn dX10_imagesThere_36 rfl (rfl) rfl (⟨rfl, rfl⟩)

theorem c_there11 {I : xF4 Int32} {L : xF4 Int64} (e0 : I 9 0 0 1 = 1) (e1 : I 9 1 0 1 = 1) : Tri 1 109 m_X10_imagesThere [vR 0 0 0] (rM I L) (pI 2 I L) := by
  refine ⟨k_X10_imagesThere, Nat.le_of_ble_eq_true rfl, ?_⟩
  show Wp _ _ _ 0 [some (vR 0 0 0), none, none, none] [] (rM I L) _
  refine w_iconst (v := 0) dX10_imagesThere_0 (by decide) ?_
  refine w_istore_n (ls' := [some (vR 0 0 0), some (vI (0)), none, none]) dX10_imagesThere_1 rfl ?_
  refine w_iconst (v := 0) dX10_imagesThere_2 (by decide) ?_
  refine w_istore_n (ls' := [some (vR 0 0 0), some (vI (0)), some (vI (0)), none]) dX10_imagesThere_3 rfl ?_
  refine w_iload_n dX10_imagesThere_4 rfl ?_
  refine w_iconst (v := 2) dX10_imagesThere_5 (by decide) ?_
  refine w_icmp_ge (tgt := 35) dX10_imagesThere_6 (by decide) (fun h => absurd h (by decide)) (fun _ => ?_)
  refine w_aload_n dX10_imagesThere_9 rfl ?_
  refine w_iload_n dX10_imagesThere_10 rfl ?_
  refine w_callV (as := [vI (0)]) (st := []) (Tri.mono (c_imageAt (i := 0) (by decide)) (Nat.le_of_ble_eq_true rfl)) rfl rfl tg_X10_imageAt lk_X10_291 in_X10_imageAt se_X10_imageAt rfl dX10_imagesThere_11 rfl (Nat.le_of_ble_eq_true rfl) (Nat.le_refl _) (Nat.le_refl _) ?_
  rintro _ _ ⟨rfl, rfl⟩ -
  refine w_astore_n (ls' := [some (vR 0 0 0), some (vI (0)), some (vI (0)), some (vR 9 0 0)]) dX10_imagesThere_14 rfl ?_
  refine w_aload_n dX10_imagesThere_15 rfl ?_
  refine w_ifnull (tgt := 29) dX10_imagesThere_16 (by decide) (fun h => by cases h) (fun _ _ => ?_)
  refine w_aload_n dX10_imagesThere_19 rfl ?_
  refine w_getI ff_X10_295 rfl rfl dX10_imagesThere_20 ?_
  rw [show (I 9 0 0 1 : Int32) = 1 from e0]
  refine w_if_eq (tgt := 29) dX10_imagesThere_23 (by decide) (fun h => absurd h (by decide)) (fun _ => ?_)
  refine w_iinc (v := 1) (ls' := [some (vR 0 0 0), some (vI (1)), some (vI (0)), some (vR 9 0 0)]) dX10_imagesThere_26 rfl (by decide) rfl ?_
  refine w_iinc (v := 1) (ls' := [some (vR 0 0 0), some (vI (1)), some (vI (1)), some (vR 9 0 0)]) dX10_imagesThere_29 rfl (by decide) rfl ?_
  refine w_goto (tgt := 4) dX10_imagesThere_32 (by decide) ?_
  refine w_iload_n dX10_imagesThere_4 rfl ?_
  refine w_iconst (v := 2) dX10_imagesThere_5 (by decide) ?_
  refine w_icmp_ge (tgt := 35) dX10_imagesThere_6 (by decide) (fun h => absurd h (by decide)) (fun _ => ?_)
  refine w_aload_n dX10_imagesThere_9 rfl ?_
  refine w_iload_n dX10_imagesThere_10 rfl ?_
  refine w_callV (as := [vI (1)]) (st := []) (Tri.mono (c_imageAt (i := 1) (by decide)) (Nat.le_of_ble_eq_true rfl)) rfl rfl tg_X10_imageAt lk_X10_291 in_X10_imageAt se_X10_imageAt rfl dX10_imagesThere_11 rfl (Nat.le_of_ble_eq_true rfl) (Nat.le_refl _) (Nat.le_refl _) ?_
  rintro _ _ ⟨rfl, rfl⟩ -
  refine w_astore_n (ls' := [some (vR 0 0 0), some (vI (1)), some (vI (1)), some (vR 9 1 0)]) dX10_imagesThere_14 rfl ?_
  refine w_aload_n dX10_imagesThere_15 rfl ?_
  refine w_ifnull (tgt := 29) dX10_imagesThere_16 (by decide) (fun h => by cases h) (fun _ _ => ?_)
  refine w_aload_n dX10_imagesThere_19 rfl ?_
  refine w_getI ff_X10_295 rfl rfl dX10_imagesThere_20 ?_
  rw [show (I 9 1 0 1 : Int32) = 1 from e1]
  refine w_if_eq (tgt := 29) dX10_imagesThere_23 (by decide) (fun h => absurd h (by decide)) (fun _ => ?_)
  refine w_iinc (v := 2) (ls' := [some (vR 0 0 0), some (vI (2)), some (vI (1)), some (vR 9 1 0)]) dX10_imagesThere_26 rfl (by decide) rfl ?_
  refine w_iinc (v := 2) (ls' := [some (vR 0 0 0), some (vI (2)), some (vI (2)), some (vR 9 1 0)]) dX10_imagesThere_29 rfl (by decide) rfl ?_
  refine w_goto (tgt := 4) dX10_imagesThere_32 (by decide) ?_
  refine w_iload_n dX10_imagesThere_4 rfl ?_
  refine w_iconst (v := 2) dX10_imagesThere_5 (by decide) ?_
  refine w_icmp_ge (tgt := 35) dX10_imagesThere_6 (by decide) (fun _ => ?_) (fun h => absurd (by decide) h)
  refine w_iload_n dX10_imagesThere_35 rfl ?_
  exact w_ireturn dX10_imagesThere_36 rfl (rfl) rfl (⟨rfl, rfl⟩)

theorem p_count_1 {I : xF4 Int32} {L : xF4 Int64} {g : gG} (hg : WG g) (hh : CH I g)  : Tri 19 109 m_X10_count [vR 0 0 0, vI (1)] (rM I L) (pCq (vI (keptI (gIm g 0) + keptI (gIm g 1))) I) := by
  refine ⟨k_X10_count, Nat.le_of_ble_eq_true rfl, ?_⟩
  show Wp _ _ _ 0 [some (vR 0 0 0), some (vI (1))] [] (rM I L) _
  obtain ⟨hw, hd9, hgi, ht160, htb, hgs⟩ := id hg
  have i0 := hh.2.1 0 (by decide)
  have i1 := hh.2.1 1 (by decide)
  cases h0 : gIm g 0 with
  | none =>
    rw [h0] at i0
    cases h1 : gIm g 1 with
    | none =>
      rw [h1] at i1
      have e0 : I 9 0 0 1 = 0 := i0
      have e1 : I 9 1 0 1 = 0 := i1
      refine w_iload_n dX10_count_0 rfl ?_
      refine w_tabIn (off := 47) (tgt := 48) dX10_count_1 (by decide) (by decide) rfl (by decide) ?_
      refine w_aload_n dX10_count_48 rfl ?_
      refine w_callV (as := []) (st := []) (Tri.mono (c_there00 e0 e1) (Nat.le_of_ble_eq_true rfl)) rfl rfl tg_X10_imagesThere lk_X10_326 in_X10_imagesThere se_X10_imagesThere rfl dX10_count_49 rfl (Nat.le_of_ble_eq_true rfl) (Nat.le_refl _) (Nat.le_refl _) ?_
      rintro _ _ ⟨rfl, rfl⟩ -
      exact w_ireturn dX10_count_52 rfl (rfl) rfl (⟨congrArg (fun z => some (vI z)) (show (0 : Int32) = 0 + 0 from by decide), _, _, rfl, FrQ.rf⟩)
    | some b1 =>
      rw [h1] at i1
      have e0 : I 9 0 0 1 = 0 := i0
      have e1 : I 9 1 0 1 = 1 := i1.1
      refine w_iload_n dX10_count_0 rfl ?_
      refine w_tabIn (off := 47) (tgt := 48) dX10_count_1 (by decide) (by decide) rfl (by decide) ?_
      refine w_aload_n dX10_count_48 rfl ?_
      refine w_callV (as := []) (st := []) (Tri.mono (c_there01 e0 e1) (Nat.le_of_ble_eq_true rfl)) rfl rfl tg_X10_imagesThere lk_X10_326 in_X10_imagesThere se_X10_imagesThere rfl dX10_count_49 rfl (Nat.le_of_ble_eq_true rfl) (Nat.le_refl _) (Nat.le_refl _) ?_
      rintro _ _ ⟨rfl, rfl⟩ -
      exact w_ireturn dX10_count_52 rfl (rfl) rfl (⟨congrArg (fun z => some (vI z)) (show (1 : Int32) = 0 + 1 from by decide), _, _, rfl, FrQ.rf⟩)
  | some b0 =>
    rw [h0] at i0
    cases h1 : gIm g 1 with
    | none =>
      rw [h1] at i1
      have e0 : I 9 0 0 1 = 1 := i0.1
      have e1 : I 9 1 0 1 = 0 := i1
      refine w_iload_n dX10_count_0 rfl ?_
      refine w_tabIn (off := 47) (tgt := 48) dX10_count_1 (by decide) (by decide) rfl (by decide) ?_
      refine w_aload_n dX10_count_48 rfl ?_
      refine w_callV (as := []) (st := []) (Tri.mono (c_there10 e0 e1) (Nat.le_of_ble_eq_true rfl)) rfl rfl tg_X10_imagesThere lk_X10_326 in_X10_imagesThere se_X10_imagesThere rfl dX10_count_49 rfl (Nat.le_of_ble_eq_true rfl) (Nat.le_refl _) (Nat.le_refl _) ?_
      rintro _ _ ⟨rfl, rfl⟩ -
      exact w_ireturn dX10_count_52 rfl (rfl) rfl (⟨congrArg (fun z => some (vI z)) (show (1 : Int32) = 1 + 0 from by decide), _, _, rfl, FrQ.rf⟩)
    | some b1 =>
      rw [h1] at i1
      have e0 : I 9 0 0 1 = 1 := i0.1
      have e1 : I 9 1 0 1 = 1 := i1.1
      refine w_iload_n dX10_count_0 rfl ?_
      refine w_tabIn (off := 47) (tgt := 48) dX10_count_1 (by decide) (by decide) rfl (by decide) ?_
      refine w_aload_n dX10_count_48 rfl ?_
      refine w_callV (as := []) (st := []) (Tri.mono (c_there11 e0 e1) (Nat.le_of_ble_eq_true rfl)) rfl rfl tg_X10_imagesThere lk_X10_326 in_X10_imagesThere se_X10_imagesThere rfl dX10_count_49 rfl (Nat.le_of_ble_eq_true rfl) (Nat.le_refl _) (Nat.le_refl _) ?_
      rintro _ _ ⟨rfl, rfl⟩ -
      exact w_ireturn dX10_count_52 rfl (rfl) rfl (⟨congrArg (fun z => some (vI z)) (show (2 : Int32) = 1 + 1 from by decide), _, _, rfl, FrQ.rf⟩)

theorem q_count_1 {I : xF4 Int32} {L : xF4 Int64} {g : gG} (hg : WG g) (hh : MH I g)  : Tri 19 109 m_X11_count [vR 30 0 0, vI (1)] (rM I L) (pMq (vI (keptI (gIm g 0) + keptI (gIm g 1))) I) := by
  refine ⟨k_X11_count, Nat.le_of_ble_eq_true rfl, ?_⟩
  show Wp _ _ _ 0 [some (vR 30 0 0), some (vI (1))] [] (rM I L) _
  obtain ⟨hw, hd9, hgi, ht160, htb, hgs⟩ := id hg
  obtain ⟨hJ, hC, hG, hD, hR, -⟩ := id hw
  have i0 := hh.2.1 0 (by decide)
  have i1 := hh.2.1 1 (by decide)
  cases h0 : gIm g 0 with
  | none =>
    rw [h0] at i0
    cases h1 : gIm g 1 with
    | none =>
      rw [h1] at i1
      have e0 : I 33 0 0 0 = 0 := i0
      have e1 : I 33 0 0 1 = 0 := i1
      refine w_aload_n dX11_count_0 rfl ?_
      refine w_callV (as := []) (st := []) (Tri.mono (d_starts hh.1 hw) (Nat.le_of_ble_eq_true rfl)) rfl rfl tg_X11_starts lk_X11_192 in_X11_starts se_X11_starts rfl dX11_count_1 rfl (Nat.le_of_ble_eq_true rfl) (Nat.le_refl _) (Nat.le_refl _) ?_
      rintro v M9 ⟨rfl, I1, rfl, hm1, hi1, hf1⟩ -
      have hs1 := hf1.r.si hh.1
      refine w_iload_n dX11_count_4 rfl ?_
      refine w_tabIn (off := 47) (tgt := 52) dX11_count_5 (by decide) (by decide) rfl (by decide) ?_
      refine w_aload_n dX11_count_52 rfl ?_
      refine w_getR (w := some (33, 0, 0)) ff_X11_16 rfl rfl dX11_count_53 rfl ?_
      refine w_iconst (v := 0) dX11_count_56 (by decide) ?_
      refine w_zaload (a := 0) rfl (vp_in_nI (n := 0) (by omega) (by omega)) (nI_clamp (n := 0) (by omega)) dX11_count_57 ?_
      rw [show (I1 33 0 0 (0) : Int32) = 0 from (hf1.r 33 0 0 0 (by omega) (by omega)).trans e0]
      refine w_callS (as := [vI (0)]) (st := []) (Tri.mono (d_flag0) (Nat.le_of_ble_eq_true rfl)) tg_X11_flag lk_X11_161 sa_X11_flag rfl dX11_count_58 rfl (Nat.le_of_ble_eq_true rfl) (Nat.le_refl _) (Nat.le_refl _) ?_
      rintro _ _ ⟨rfl, rfl⟩ -
      refine w_aload_n dX11_count_61 rfl ?_
      refine w_getR (w := some (33, 0, 0)) ff_X11_16 rfl rfl dX11_count_62 rfl ?_
      refine w_iconst (v := 1) dX11_count_65 (by decide) ?_
      refine w_zaload (a := 1) rfl (vp_in_nI (n := 1) (by omega) (by omega)) (nI_clamp (n := 1) (by omega)) dX11_count_66 ?_
      rw [show (I1 33 0 0 (1) : Int32) = 0 from (hf1.r 33 0 0 1 (by omega) (by omega)).trans e1]
      refine w_callS (as := [vI (0)]) (st := [vI (0)]) (Tri.mono (d_flag0) (Nat.le_of_ble_eq_true rfl)) tg_X11_flag lk_X11_161 sa_X11_flag rfl dX11_count_67 rfl (Nat.le_of_ble_eq_true rfl) (Nat.le_refl _) (Nat.le_refl _) ?_
      rintro _ _ ⟨rfl, rfl⟩ -
      refine w_iadd dX11_count_70 ?_
      rw [show ((0) + (0) : Int32) = 0 from by decide]
      exact w_ireturn dX11_count_71 rfl (rfl) rfl (⟨congrArg (fun z => some (vI z)) (show (0 : Int32) = 0 + 0 from by decide), _, _, rfl, hf1.r⟩)
    | some b1 =>
      rw [h1] at i1
      have e0 : I 33 0 0 0 = 0 := i0
      have e1 : I 33 0 0 1 = 1 := i1.1
      refine w_aload_n dX11_count_0 rfl ?_
      refine w_callV (as := []) (st := []) (Tri.mono (d_starts hh.1 hw) (Nat.le_of_ble_eq_true rfl)) rfl rfl tg_X11_starts lk_X11_192 in_X11_starts se_X11_starts rfl dX11_count_1 rfl (Nat.le_of_ble_eq_true rfl) (Nat.le_refl _) (Nat.le_refl _) ?_
      rintro v M9 ⟨rfl, I1, rfl, hm1, hi1, hf1⟩ -
      have hs1 := hf1.r.si hh.1
      refine w_iload_n dX11_count_4 rfl ?_
      refine w_tabIn (off := 47) (tgt := 52) dX11_count_5 (by decide) (by decide) rfl (by decide) ?_
      refine w_aload_n dX11_count_52 rfl ?_
      refine w_getR (w := some (33, 0, 0)) ff_X11_16 rfl rfl dX11_count_53 rfl ?_
      refine w_iconst (v := 0) dX11_count_56 (by decide) ?_
      refine w_zaload (a := 0) rfl (vp_in_nI (n := 0) (by omega) (by omega)) (nI_clamp (n := 0) (by omega)) dX11_count_57 ?_
      rw [show (I1 33 0 0 (0) : Int32) = 0 from (hf1.r 33 0 0 0 (by omega) (by omega)).trans e0]
      refine w_callS (as := [vI (0)]) (st := []) (Tri.mono (d_flag0) (Nat.le_of_ble_eq_true rfl)) tg_X11_flag lk_X11_161 sa_X11_flag rfl dX11_count_58 rfl (Nat.le_of_ble_eq_true rfl) (Nat.le_refl _) (Nat.le_refl _) ?_
      rintro _ _ ⟨rfl, rfl⟩ -
      refine w_aload_n dX11_count_61 rfl ?_
      refine w_getR (w := some (33, 0, 0)) ff_X11_16 rfl rfl dX11_count_62 rfl ?_
      refine w_iconst (v := 1) dX11_count_65 (by decide) ?_
      refine w_zaload (a := 1) rfl (vp_in_nI (n := 1) (by omega) (by omega)) (nI_clamp (n := 1) (by omega)) dX11_count_66 ?_
      rw [show (I1 33 0 0 (1) : Int32) = 1 from (hf1.r 33 0 0 1 (by omega) (by omega)).trans e1]
      refine w_callS (as := [vI (1)]) (st := [vI (0)]) (Tri.mono (d_flag1) (Nat.le_of_ble_eq_true rfl)) tg_X11_flag lk_X11_161 sa_X11_flag rfl dX11_count_67 rfl (Nat.le_of_ble_eq_true rfl) (Nat.le_refl _) (Nat.le_refl _) ?_
      rintro _ _ ⟨rfl, rfl⟩ -
      refine w_iadd dX11_count_70 ?_
      rw [show ((0) + (1) : Int32) = 1 from by decide]
      exact w_ireturn dX11_count_71 rfl (rfl) rfl (⟨congrArg (fun z => some (vI z)) (show (1 : Int32) = 0 + 1 from by decide), _, _, rfl, hf1.r⟩)
  | some b0 =>
    rw [h0] at i0
    cases h1 : gIm g 1 with
    | none =>
      rw [h1] at i1
      have e0 : I 33 0 0 0 = 1 := i0.1
      have e1 : I 33 0 0 1 = 0 := i1
      refine w_aload_n dX11_count_0 rfl ?_
      refine w_callV (as := []) (st := []) (Tri.mono (d_starts hh.1 hw) (Nat.le_of_ble_eq_true rfl)) rfl rfl tg_X11_starts lk_X11_192 in_X11_starts se_X11_starts rfl dX11_count_1 rfl (Nat.le_of_ble_eq_true rfl) (Nat.le_refl _) (Nat.le_refl _) ?_
      rintro v M9 ⟨rfl, I1, rfl, hm1, hi1, hf1⟩ -
      have hs1 := hf1.r.si hh.1
      refine w_iload_n dX11_count_4 rfl ?_
      refine w_tabIn (off := 47) (tgt := 52) dX11_count_5 (by decide) (by decide) rfl (by decide) ?_
      refine w_aload_n dX11_count_52 rfl ?_
      refine w_getR (w := some (33, 0, 0)) ff_X11_16 rfl rfl dX11_count_53 rfl ?_
      refine w_iconst (v := 0) dX11_count_56 (by decide) ?_
      refine w_zaload (a := 0) rfl (vp_in_nI (n := 0) (by omega) (by omega)) (nI_clamp (n := 0) (by omega)) dX11_count_57 ?_
      rw [show (I1 33 0 0 (0) : Int32) = 1 from (hf1.r 33 0 0 0 (by omega) (by omega)).trans e0]
      refine w_callS (as := [vI (1)]) (st := []) (Tri.mono (d_flag1) (Nat.le_of_ble_eq_true rfl)) tg_X11_flag lk_X11_161 sa_X11_flag rfl dX11_count_58 rfl (Nat.le_of_ble_eq_true rfl) (Nat.le_refl _) (Nat.le_refl _) ?_
      rintro _ _ ⟨rfl, rfl⟩ -
      refine w_aload_n dX11_count_61 rfl ?_
      refine w_getR (w := some (33, 0, 0)) ff_X11_16 rfl rfl dX11_count_62 rfl ?_
      refine w_iconst (v := 1) dX11_count_65 (by decide) ?_
      refine w_zaload (a := 1) rfl (vp_in_nI (n := 1) (by omega) (by omega)) (nI_clamp (n := 1) (by omega)) dX11_count_66 ?_
      rw [show (I1 33 0 0 (1) : Int32) = 0 from (hf1.r 33 0 0 1 (by omega) (by omega)).trans e1]
      refine w_callS (as := [vI (0)]) (st := [vI (1)]) (Tri.mono (d_flag0) (Nat.le_of_ble_eq_true rfl)) tg_X11_flag lk_X11_161 sa_X11_flag rfl dX11_count_67 rfl (Nat.le_of_ble_eq_true rfl) (Nat.le_refl _) (Nat.le_refl _) ?_
      rintro _ _ ⟨rfl, rfl⟩ -
      refine w_iadd dX11_count_70 ?_
      rw [show ((1) + (0) : Int32) = 1 from by decide]
      exact w_ireturn dX11_count_71 rfl (rfl) rfl (⟨congrArg (fun z => some (vI z)) (show (1 : Int32) = 1 + 0 from by decide), _, _, rfl, hf1.r⟩)
    | some b1 =>
      rw [h1] at i1
      have e0 : I 33 0 0 0 = 1 := i0.1
      have e1 : I 33 0 0 1 = 1 := i1.1
      refine w_aload_n dX11_count_0 rfl ?_
      refine w_callV (as := []) (st := []) (Tri.mono (d_starts hh.1 hw) (Nat.le_of_ble_eq_true rfl)) rfl rfl tg_X11_starts lk_X11_192 in_X11_starts se_X11_starts rfl dX11_count_1 rfl (Nat.le_of_ble_eq_true rfl) (Nat.le_refl _) (Nat.le_refl _) ?_
      rintro v M9 ⟨rfl, I1, rfl, hm1, hi1, hf1⟩ -
      have hs1 := hf1.r.si hh.1
      refine w_iload_n dX11_count_4 rfl ?_
      refine w_tabIn (off := 47) (tgt := 52) dX11_count_5 (by decide) (by decide) rfl (by decide) ?_
      refine w_aload_n dX11_count_52 rfl ?_
      refine w_getR (w := some (33, 0, 0)) ff_X11_16 rfl rfl dX11_count_53 rfl ?_
      refine w_iconst (v := 0) dX11_count_56 (by decide) ?_
      refine w_zaload (a := 0) rfl (vp_in_nI (n := 0) (by omega) (by omega)) (nI_clamp (n := 0) (by omega)) dX11_count_57 ?_
      rw [show (I1 33 0 0 (0) : Int32) = 1 from (hf1.r 33 0 0 0 (by omega) (by omega)).trans e0]
      refine w_callS (as := [vI (1)]) (st := []) (Tri.mono (d_flag1) (Nat.le_of_ble_eq_true rfl)) tg_X11_flag lk_X11_161 sa_X11_flag rfl dX11_count_58 rfl (Nat.le_of_ble_eq_true rfl) (Nat.le_refl _) (Nat.le_refl _) ?_
      rintro _ _ ⟨rfl, rfl⟩ -
      refine w_aload_n dX11_count_61 rfl ?_
      refine w_getR (w := some (33, 0, 0)) ff_X11_16 rfl rfl dX11_count_62 rfl ?_
      refine w_iconst (v := 1) dX11_count_65 (by decide) ?_
      refine w_zaload (a := 1) rfl (vp_in_nI (n := 1) (by omega) (by omega)) (nI_clamp (n := 1) (by omega)) dX11_count_66 ?_
      rw [show (I1 33 0 0 (1) : Int32) = 1 from (hf1.r 33 0 0 1 (by omega) (by omega)).trans e1]
      refine w_callS (as := [vI (1)]) (st := [vI (1)]) (Tri.mono (d_flag1) (Nat.le_of_ble_eq_true rfl)) tg_X11_flag lk_X11_161 sa_X11_flag rfl dX11_count_67 rfl (Nat.le_of_ble_eq_true rfl) (Nat.le_refl _) (Nat.le_refl _) ?_
      rintro _ _ ⟨rfl, rfl⟩ -
      refine w_iadd dX11_count_70 ?_
      rw [show ((1) + (1) : Int32) = 2 from by decide]
      exact w_ireturn dX11_count_71 rfl (rfl) rfl (⟨congrArg (fun z => some (vI z)) (show (2 : Int32) = 1 + 1 from by decide), _, _, rfl, hf1.r⟩)

theorem c_cells0 {I : xF4 Int32} {L : xF4 Int64} (e1 : I 20 0 0 1 = 0) : Tri 1 109 m_X10_cellsOfFirst [vR 0 0 0] (rM I L) (pI (-4) I L) := by
  refine ⟨k_X10_cellsOfFirst, Nat.le_of_ble_eq_true rfl, ?_⟩
  show Wp _ _ _ 0 [some (vR 0 0 0), none] [] (rM I L) _
  refine w_aload_n dX10_cellsOfFirst_0 rfl ?_
  refine w_iconst (v := 0) dX10_cellsOfFirst_1 (by decide) ?_
  refine w_callV (as := [vI (0)]) (st := []) (Tri.mono (c_sheetAt (i := 0) (by decide)) (Nat.le_of_ble_eq_true rfl)) rfl rfl tg_X10_sheetAt lk_X10_302 in_X10_sheetAt se_X10_sheetAt rfl dX10_cellsOfFirst_2 rfl (Nat.le_of_ble_eq_true rfl) (Nat.le_refl _) (Nat.le_refl _) ?_
  rintro _ _ ⟨rfl, rfl⟩ -
  refine w_astore_n (ls' := [some (vR 0 0 0), some (vR 20 0 0)]) dX10_cellsOfFirst_5 rfl ?_
  refine w_aload_n dX10_cellsOfFirst_6 rfl ?_
  refine w_ifnull (tgt := 17) dX10_cellsOfFirst_7 (by decide) (fun h => by cases h) (fun _ _ => ?_)
  refine w_aload_n dX10_cellsOfFirst_10 rfl ?_
  refine w_getI ff_X10_347 rfl rfl dX10_cellsOfFirst_11 ?_
  rw [show (I 20 0 0 1 : Int32) = 0 from e1]
  refine w_if_ne (tgt := 22) dX10_cellsOfFirst_14 (by decide) (fun h => absurd (by decide) h) (fun _ => ?_)
  refine w_bipush (v := (-4)) dX10_cellsOfFirst_17 (by decide) ?_
  refine w_goto (tgt := 26) dX10_cellsOfFirst_19 (by decide) ?_
  exact w_ireturn dX10_cellsOfFirst_26 rfl (rfl) rfl (⟨rfl, rfl⟩)

theorem c_cells1 {I : xF4 Int32} {L : xF4 Int64} {m : Nat} (e1 : I 20 0 0 1 = 1) (e3 : I 20 0 0 3 = nI m) : Tri 1 109 m_X10_cellsOfFirst [vR 0 0 0] (rM I L) (pI (nI m) I L) := by
  refine ⟨k_X10_cellsOfFirst, Nat.le_of_ble_eq_true rfl, ?_⟩
  show Wp _ _ _ 0 [some (vR 0 0 0), none] [] (rM I L) _
  refine w_aload_n dX10_cellsOfFirst_0 rfl ?_
  refine w_iconst (v := 0) dX10_cellsOfFirst_1 (by decide) ?_
  refine w_callV (as := [vI (0)]) (st := []) (Tri.mono (c_sheetAt (i := 0) (by decide)) (Nat.le_of_ble_eq_true rfl)) rfl rfl tg_X10_sheetAt lk_X10_302 in_X10_sheetAt se_X10_sheetAt rfl dX10_cellsOfFirst_2 rfl (Nat.le_of_ble_eq_true rfl) (Nat.le_refl _) (Nat.le_refl _) ?_
  rintro _ _ ⟨rfl, rfl⟩ -
  refine w_astore_n (ls' := [some (vR 0 0 0), some (vR 20 0 0)]) dX10_cellsOfFirst_5 rfl ?_
  refine w_aload_n dX10_cellsOfFirst_6 rfl ?_
  refine w_ifnull (tgt := 17) dX10_cellsOfFirst_7 (by decide) (fun h => by cases h) (fun _ _ => ?_)
  refine w_aload_n dX10_cellsOfFirst_10 rfl ?_
  refine w_getI ff_X10_347 rfl rfl dX10_cellsOfFirst_11 ?_
  rw [show (I 20 0 0 1 : Int32) = 1 from e1]
  refine w_if_ne (tgt := 22) dX10_cellsOfFirst_14 (by decide) (fun _ => ?_) (fun h => absurd h (by decide))
  refine w_aload_n dX10_cellsOfFirst_22 rfl ?_
  refine w_getI ff_X10_320 rfl rfl dX10_cellsOfFirst_23 ?_
  rw [show (I 20 0 0 3 : Int32) = nI m from e3]
  exact w_ireturn dX10_cellsOfFirst_26 rfl (rfl) rfl (⟨rfl, rfl⟩)

theorem p_count_3 {I : xF4 Int32} {L : xF4 Int64} {g : gG} (hg : WG g) (hh : CH I g)  : Tri 19 109 m_X10_count [vR 0 0 0, vI (3)] (rM I L) (pCq (vI (shI (gSh g 0))) I) := by
  refine ⟨k_X10_count, Nat.le_of_ble_eq_true rfl, ?_⟩
  show Wp _ _ _ 0 [some (vR 0 0 0), some (vI (3))] [] (rM I L) _
  obtain ⟨hw, hd9, hgi, ht160, htb, hgs⟩ := id hg
  have hsh := hh.2.2.2.2.2.1 0 (by decide)
  cases hq : gSh g 0 with
  | none =>
    rw [hq] at hsh
    have e1 : I 20 0 0 1 = 0 := hsh
    refine w_iload_n dX10_count_0 rfl ?_
    refine w_tabIn (off := 60) (tgt := 61) dX10_count_1 (by decide) (by decide) rfl (by decide) ?_
    refine w_aload_n dX10_count_61 rfl ?_
    refine w_callV (as := []) (st := []) (Tri.mono (c_cells0 e1) (Nat.le_of_ble_eq_true rfl)) rfl rfl tg_X10_cellsOfFirst lk_X10_329 in_X10_cellsOfFirst se_X10_cellsOfFirst rfl dX10_count_62 rfl (Nat.le_of_ble_eq_true rfl) (Nat.le_refl _) (Nat.le_refl _) ?_
    rintro _ _ ⟨rfl, rfl⟩ -
    exact w_ireturn dX10_count_65 rfl (rfl) rfl (⟨rfl, _, _, rfl, FrQ.rf⟩)
  | some q =>
    rw [hq] at hsh
    obtain ⟨hq3, hq40⟩ := hgs 0 (by decide) q hq
    have e1 : I 20 0 0 1 = 1 := hsh.1
    have e3 : I 20 0 0 3 = nI q.2.1 := hsh.2.2.1
    refine w_iload_n dX10_count_0 rfl ?_
    refine w_tabIn (off := 60) (tgt := 61) dX10_count_1 (by decide) (by decide) rfl (by decide) ?_
    refine w_aload_n dX10_count_61 rfl ?_
    refine w_callV (as := []) (st := []) (Tri.mono (c_cells1 e1 e3) (Nat.le_of_ble_eq_true rfl)) rfl rfl tg_X10_cellsOfFirst lk_X10_329 in_X10_cellsOfFirst se_X10_cellsOfFirst rfl dX10_count_62 rfl (Nat.le_of_ble_eq_true rfl) (Nat.le_refl _) (Nat.le_refl _) ?_
    rintro _ _ ⟨rfl, rfl⟩ -
    exact w_ireturn dX10_count_65 rfl (rfl) rfl (⟨rfl, _, _, rfl, FrQ.rf⟩)

theorem q_count_3 {I : xF4 Int32} {L : xF4 Int64} {g : gG} (hg : WG g) (hh : MH I g)  : Tri 19 109 m_X11_count [vR 30 0 0, vI (3)] (rM I L) (pMq (vI (shI (gSh g 0))) I) := by
  refine ⟨k_X11_count, Nat.le_of_ble_eq_true rfl, ?_⟩
  show Wp _ _ _ 0 [some (vR 30 0 0), some (vI (3))] [] (rM I L) _
  obtain ⟨hw, hd9, hgi, ht160, htb, hgs⟩ := id hg
  obtain ⟨hJ, hC, hG, hD, hR, -⟩ := id hw
  have hsh := hh.2.2.2.2.2.1 0 (by decide)
  cases hq : gSh g 0 with
  | none =>
    rw [hq] at hsh
    have e1 : I 37 0 0 0 = -4 := hsh
    refine w_aload_n dX11_count_0 rfl ?_
    refine w_callV (as := []) (st := []) (Tri.mono (d_starts hh.1 hw) (Nat.le_of_ble_eq_true rfl)) rfl rfl tg_X11_starts lk_X11_192 in_X11_starts se_X11_starts rfl dX11_count_1 rfl (Nat.le_of_ble_eq_true rfl) (Nat.le_refl _) (Nat.le_refl _) ?_
    rintro v M9 ⟨rfl, I1, rfl, hm1, hi1, hf1⟩ -
    have hs1 := hf1.r.si hh.1
    refine w_iload_n dX11_count_4 rfl ?_
    refine w_tabIn (off := 72) (tgt := 77) dX11_count_5 (by decide) (by decide) rfl (by decide) ?_
    refine w_aload_n dX11_count_77 rfl ?_
    refine w_getR (w := some (37, 0, 0)) ff_X11_29 rfl rfl dX11_count_78 rfl ?_
    refine w_iconst (v := 0) dX11_count_81 (by decide) ?_
    refine w_iaload (a := 0) rfl (vp_in_nI (n := 0) (by omega) (by omega)) (nI_clamp (n := 0) (by omega)) dX11_count_82 ?_
    rw [show (I1 37 0 0 (0) : Int32) = (-4) from (hf1.r 37 0 0 0 (by omega) (by omega)).trans e1]
    refine w_bipush (v := (-4)) dX11_count_83 (by decide) ?_
    refine w_icmp_ne (tgt := 93) dX11_count_85 (by decide) (fun h => absurd ((rfl : (-4 : Int32) = -4)) h) (fun _ => ?_)
    refine w_bipush (v := (-4)) dX11_count_88 (by decide) ?_
    refine w_goto (tgt := 99) dX11_count_90 (by decide) ?_
    exact w_ireturn dX11_count_99 rfl (rfl) rfl (⟨rfl, _, _, rfl, hf1.r⟩)
  | some q =>
    rw [hq] at hsh
    obtain ⟨hq3, hq40⟩ := hgs 0 (by decide) q hq
    have e1 : I 37 0 0 0 = nI q.1 := hsh.1
    have e3 : I 38 0 0 0 = nI q.2.1 := hsh.2.1
    refine w_aload_n dX11_count_0 rfl ?_
    refine w_callV (as := []) (st := []) (Tri.mono (d_starts hh.1 hw) (Nat.le_of_ble_eq_true rfl)) rfl rfl tg_X11_starts lk_X11_192 in_X11_starts se_X11_starts rfl dX11_count_1 rfl (Nat.le_of_ble_eq_true rfl) (Nat.le_refl _) (Nat.le_refl _) ?_
    rintro v M9 ⟨rfl, I1, rfl, hm1, hi1, hf1⟩ -
    have hs1 := hf1.r.si hh.1
    refine w_iload_n dX11_count_4 rfl ?_
    refine w_tabIn (off := 72) (tgt := 77) dX11_count_5 (by decide) (by decide) rfl (by decide) ?_
    refine w_aload_n dX11_count_77 rfl ?_
    refine w_getR (w := some (37, 0, 0)) ff_X11_29 rfl rfl dX11_count_78 rfl ?_
    refine w_iconst (v := 0) dX11_count_81 (by decide) ?_
    refine w_iaload (a := 0) rfl (vp_in_nI (n := 0) (by omega) (by omega)) (nI_clamp (n := 0) (by omega)) dX11_count_82 ?_
    rw [show (I1 37 0 0 (0) : Int32) = nI q.1 from (hf1.r 37 0 0 0 (by omega) (by omega)).trans e1]
    refine w_bipush (v := (-4)) dX11_count_83 (by decide) ?_
    refine w_icmp_ne (tgt := 93) dX11_count_85 (by decide) (fun _ => ?_) (fun h => absurd h (nI_m4 q.1 (by omega)))
    refine w_aload_n dX11_count_93 rfl ?_
    refine w_getR (w := some (38, 0, 0)) ff_X11_32 rfl rfl dX11_count_94 rfl ?_
    refine w_iconst (v := 0) dX11_count_97 (by decide) ?_
    refine w_iaload (a := 0) rfl (vp_in_nI (n := 0) (by omega) (by omega)) (nI_clamp (n := 0) (by omega)) dX11_count_98 ?_
    rw [show (I1 38 0 0 (0) : Int32) = nI q.2.1 from (hf1.r 38 0 0 0 (by omega) (by omega)).trans e3]
    exact w_ireturn dX11_count_99 rfl (rfl) rfl (⟨rfl, _, _, rfl, hf1.r⟩)
