/-! the reference's reader (by wip/whole/gen/g85.py) -/
def TM (I : xF4 Int32) : tS → Prop
  | .inl q => I 30 0 0 15 = nI q.1 ∧ I 30 0 0 16 = nI q.2
  | .inr q => I 30 0 0 15 = 0 ∧ I 30 0 0 13 = nI q.1 ∧ I 30 0 0 12 = nI q.2.1 ∧ I 30 0 0 11 = nI q.2.2.1 ∧ (q.1 = 2 → I 30 0 0 14 = nI q.2.2.2)
def TN (I : xF4 Int32) (n : Nat) (b : Nat → Nat) : Prop := I 30 0 0 10 = nI n ∧ ∀ i, i < n → I 35 0 0 i = nI (b i)
/-- only the reader's own numbers have changed; only the place -/
def FrN (I I' : xF4 Int32) : Prop := ∀ t k j s, ¬ (t = 30 ∧ 11 ≤ s ∧ s ≤ 16) → I' t k j s = I t k j s
def FrB (I I' : xF4 Int32) : Prop := ∀ t k j s, ¬ (t = 30 ∧ s = 11) → I' t k j s = I t k j s
theorem FrN.rf {I : xF4 Int32} : FrN I I := fun _ _ _ _ _ => rfl
theorem FrB.rf {I : xF4 Int32} : FrB I I := fun _ _ _ _ _ => rfl
theorem FrN.tr {I I1 I2 : xF4 Int32} (h1 : FrN I I1) (h2 : FrN I1 I2) : FrN I I2 := fun t b j s h => (h2 t b j s h).trans (h1 t b j s h)
theorem FrB.n {I I' : xF4 Int32} (h : FrB I I') : FrN I I' := fun t b j s q => h t b j s (fun z => q (by omega))
theorem FrN.up {I I1 : xF4 Int32} {s : Nat} {v : Int32} (h1 : FrN I I1) (h : 11 ≤ s ∧ s ≤ 16) : FrN I (xup I1 30 0 0 s v) := fun t b j s' hn => by
  unfold xup
  rw [if_neg (by rintro ⟨rfl, rfl, rfl, rfl⟩; exact hn ⟨rfl, h⟩)]
  exact h1 t b j s' hn
theorem FrB.up {I I1 : xF4 Int32} {v : Int32} (h1 : FrB I I1) : FrB I (xup I1 30 0 0 11 v) := fun t b j s' hn => by
  unfold xup
  rw [if_neg (by rintro ⟨rfl, rfl, rfl, rfl⟩; exact hn ⟨rfl, rfl⟩)]
  exact h1 t b j s' hn
theorem TN.fr {I I' : xF4 Int32} {n : Nat} {b : Nat → Nat} (h : TN I n b) (f : FrN I I') : TN I' n b := ⟨(f 30 0 0 10 (by omega)).trans h.1, fun i hi => (f 35 0 0 i (by omega)).trans (h.2 i hi)⟩
abbrev pM9 (s : tS) (I : xF4 Int32) (L : xF4 Int64) : Option xV → xM → Prop := fun v M => v = none ∧ ∃ I', M = rM I' L ∧ TM I' s ∧ FrN I I'

theorem d_byteAt {I : xF4 Int32} {L : xF4 Int64} {n : Nat} {b : Nat → Nat} (hk : BK n b) (ht : TN I n b) {i : Nat} (hi : i < n) : Tri 0 109 m_X11_byteAt [vR 30 0 0, vI (nI i)] (rM I L) (pI (nI (b i)) I L) := by
  refine ⟨k_X11_byteAt, Nat.le_of_ble_eq_true rfl, ?_⟩
  show Wp _ _ _ 0 [some (vR 30 0 0), some (vI (nI i))] [] (rM I L) _
  obtain ⟨k1, k2⟩ := id hk
  refine w_iload_n dX11_byteAt_0 rfl ?_
  refine w_aload_n dX11_byteAt_1 rfl ?_
  refine w_getI ff_X11_70 rfl rfl dX11_byteAt_2 ?_
  rw [show (I 30 0 0 10 : Int32) = nI n from ht.1]
  refine w_icmp_ge (tgt := 17) dX11_byteAt_5 (by decide) (fun h1 => ?_) (fun h1 => ?_)
  · skip
    replace h1 : ((n : Nat) : Int) ≤ ((i : Nat) : Int) := (zle (z_nI (by omega)) (z_nI (by omega))).mp h1
    first
    | (exfalso; omega)
    | skip
      exfalso
      omega
  · skip
    replace h1 : ¬ (((n : Nat) : Int) ≤ ((i : Nat) : Int)) := fun q => h1 ((zle (z_nI (by omega)) (z_nI (by omega))).mpr q)
    first
    | (exfalso; omega)
    | skip
      refine w_aload_n dX11_byteAt_8 rfl ?_
      refine w_getR (w := some (35, 0, 0)) ff_X11_23 rfl rfl dX11_byteAt_9 rfl ?_
      refine w_iload_n dX11_byteAt_12 rfl ?_
      refine w_iaload (a := i) rfl (vp_in_nI (n := i) (by omega) (by omega)) (nI_clamp (n := i) (by omega)) dX11_byteAt_13 ?_
      rw [show (I 35 0 0 (i) : Int32) = nI (b i) from ht.2 i hi]
      refine w_goto (tgt := 18) dX11_byteAt_14 (by decide) ?_
      exact w_ireturn dX11_byteAt_18 rfl (rfl) rfl (⟨rfl, rfl⟩)

theorem d_byteAtO {I : xF4 Int32} {L : xF4 Int64} {n : Nat} {b : Nat → Nat} (hk : BK n b) (ht : TN I n b) {i : Nat} (hi : ¬ i < n) (hi2 : i < 1000) : Tri 0 109 m_X11_byteAt [vR 30 0 0, vI (nI i)] (rM I L) (pI (-1) I L) := by
  refine ⟨k_X11_byteAt, Nat.le_of_ble_eq_true rfl, ?_⟩
  show Wp _ _ _ 0 [some (vR 30 0 0), some (vI (nI i))] [] (rM I L) _
  obtain ⟨k1, k2⟩ := id hk
  refine w_iload_n dX11_byteAt_0 rfl ?_
  refine w_aload_n dX11_byteAt_1 rfl ?_
  refine w_getI ff_X11_70 rfl rfl dX11_byteAt_2 ?_
  rw [show (I 30 0 0 10 : Int32) = nI n from ht.1]
  refine w_icmp_ge (tgt := 17) dX11_byteAt_5 (by decide) (fun h1 => ?_) (fun h1 => ?_)
  · skip
    replace h1 : ((n : Nat) : Int) ≤ ((i : Nat) : Int) := (zle (z_nI (by omega)) (z_nI (by omega))).mp h1
    first
    | (exfalso; omega)
    | skip
      refine w_iconst (v := (-1)) dX11_byteAt_17 (by decide) ?_
      exact w_ireturn dX11_byteAt_18 rfl (rfl) rfl (⟨rfl, rfl⟩)
  · skip
    replace h1 : ¬ (((n : Nat) : Int) ≤ ((i : Nat) : Int)) := fun q => h1 ((zle (z_nI (by omega)) (z_nI (by omega))).mpr q)
    first
    | (exfalso; omega)
    | skip
      exfalso
      omega

theorem d_need1 {I : xF4 Int32} {L : xF4 Int64} (c : Int32) : Tri 0 109 m_X11_needs [vR 30 0 0, vI (1), vI (c)] (rM I L) (pV I L) := by
  refine ⟨k_X11_needs, Nat.le_of_ble_eq_true rfl, ?_⟩
  show Wp _ _ _ 0 [some (vR 30 0 0), some (vI (1)), some (vI (c))] [] (rM I L) _
  refine w_iload_n dX11_needs_0 rfl ?_
  refine w_if_ne (tgt := 24) dX11_needs_1 (by decide) (fun _ => ?_) (fun h => absurd h ((by decide : ¬ (1 : Int32) = 0)))
  exact w_return dX11_needs_24 rfl rfl (⟨rfl, rfl⟩)

theorem d_needL {I : xF4 Int32} {L : xF4 Int64} {st9 : Int32} (h2 : I 30 0 0 15 = 0) (h5 : I 30 0 0 12 = st9) (c : Int32) : Tri 0 109 m_X11_needs [vR 30 0 0, vI (0), vI (c)] (rM I L) (pV (xup (xup I 30 0 0 15 c) 30 0 0 16 st9) L) := by
  refine ⟨k_X11_needs, Nat.le_of_ble_eq_true rfl, ?_⟩
  show Wp _ _ _ 0 [some (vR 30 0 0), some (vI (0)), some (vI (c))] [] (rM I L) _
  refine w_iload_n dX11_needs_0 rfl ?_
  refine w_if_ne (tgt := 24) dX11_needs_1 (by decide) (fun h => absurd (by decide) h) (fun _ => ?_)
  refine w_aload_n dX11_needs_4 rfl ?_
  refine w_getI ff_X11_73 rfl rfl dX11_needs_5 ?_
  rw [show (I 30 0 0 15 : Int32) = 0 from h2]
  refine w_if_ne (tgt := 24) dX11_needs_8 (by decide) (fun h => absurd (by decide) h) (fun _ => ?_)
  refine w_aload_n dX11_needs_11 rfl ?_
  refine w_iload_n dX11_needs_12 rfl ?_
  refine w_putI ff_X11_73 rfl rfl rfl rfl dX11_needs_13 ?_
  refine w_aload_n dX11_needs_16 rfl ?_
  refine w_aload_n dX11_needs_17 rfl ?_
  refine w_getI ff_X11_76 rfl rfl dX11_needs_18 ?_
  rw [show ((xup I 30 0 0 15 (c)) 30 0 0 12 : Int32) = st9 from ((xup_slot (by decide)).trans h5)]
  refine w_putI ff_X11_79 rfl rfl rfl rfl dX11_needs_21 ?_
  exact w_return dX11_needs_24 rfl rfl (⟨rfl, rfl⟩)

theorem d_needD {I : xF4 Int32} {L : xF4 Int64} {e : Nat} (he : 1 ≤ e ∧ e ≤ 5) (h2 : I 30 0 0 15 = nI e) (c : Int32) : Tri 0 109 m_X11_needs [vR 30 0 0, vI (0), vI (c)] (rM I L) (pV I L) := by
  refine ⟨k_X11_needs, Nat.le_of_ble_eq_true rfl, ?_⟩
  show Wp _ _ _ 0 [some (vR 30 0 0), some (vI (0)), some (vI (c))] [] (rM I L) _
  refine w_iload_n dX11_needs_0 rfl ?_
  refine w_if_ne (tgt := 24) dX11_needs_1 (by decide) (fun h => absurd (by decide) h) (fun _ => ?_)
  refine w_aload_n dX11_needs_4 rfl ?_
  refine w_getI ff_X11_73 rfl rfl dX11_needs_5 ?_
  rw [show (I 30 0 0 15 : Int32) = nI e from h2]
  refine w_if_ne (tgt := 24) dX11_needs_8 (by decide) (fun h1 => ?_) (fun h1 => ?_)
  · skip
    replace h1 : ¬ (((e : Nat) : Int) = 0) := fun q => h1 ((zeq (z_nI (by omega)) (by decide)).mpr q)
    first
    | (exfalso; omega)
    | skip
      exact w_return dX11_needs_24 rfl rfl (⟨rfl, rfl⟩)
  · skip
    replace h1 : ((e : Nat) : Int) = 0 := (zeq (z_nI (by omega)) (by decide)).mp h1
    first
    | (exfalso; omega)
    | skip
      exfalso
      omega

theorem d_need0 {I : xF4 Int32} {L : xF4 Int64} {n : Nat} {s : tS} (hok : OKT n s) (h : TM I s) {c : Nat} {c9 : Int32} (e : c9 = nI c) : Tri 0 109 m_X11_needs [vR 30 0 0, vI 0, vI (c9)] (rM I L) (pM9 (flT c s) I L) := by
  rcases s with ⟨c0, p⟩ | ⟨so, st, nx, v⟩
  · exact (d_needD ⟨hok.1, hok.2.1⟩ h.1 c9).imp (fun v M z => ⟨z.1, I, z.2, h, FrN.rf⟩)
  · exact (d_needL h.1 h.2.2.1 c9).imp (fun v M z => ⟨z.1, _, z.2, ⟨((xup_slot (by decide)).trans xup_self).trans e, xup_self⟩, ((FrN.rf.up (by decide)).up (by decide))⟩)
theorem d_need {I : xF4 Int32} {L : xF4 Int64} {n : Nat} {s : tS} (hok : OKT n s) (h : TM I s) {c : Nat} {c9 : Int32} (e : c9 = nI c) (P : Prop) [Decidable P] : Tri 0 109 m_X11_needs [vR 30 0 0, vI (bI P), vI (c9)] (rM I L) (pM9 (if P then s else flT c s) I L) := by
  by_cases p : P
  · rw [bI_t p, if_pos p]
    exact (d_need1 c9).imp (fun v M z => ⟨z.1, I, z.2, h, FrN.rf⟩)
  · rw [bI_f p, if_neg p]
    exact d_need0 hok h e

theorem l_space {L : xF4 Int64} {n : Nat} {b : Nat → Nat} (hk : BK n b) {o1 : Option xV} {Q : Option xV → xM → Prop} : ∀ (m p : Nat) (I : xF4 Int32), p + m = n → TN I n b → I 30 0 0 11 = nI p → (∀ I', FrB I I' → I' 30 0 0 11 = nI (bhd n b 32 32 p) → Wp 1 109 m_X11_takes 34 [some (vR 30 0 0), o1] [] (rM I' L) Q) → Wp 1 109 m_X11_takes 8 [some (vR 30 0 0), o1] [] (rM I L) Q := by
  obtain ⟨k1, k2⟩ := id hk
  intro m
  induction m with
  | zero =>
    intro p I hi ht hp kk
    refine w_aload_n dX11_takes_8 rfl ?_
    refine w_aload_n dX11_takes_9 rfl ?_
    refine w_getI ff_X11_82 rfl rfl dX11_takes_10 ?_
    rw [show (I 30 0 0 11 : Int32) = nI p from hp]
    refine w_callV (as := [vI (nI p)]) (st := []) (Tri.mono (d_byteAtO hk ht (i := p) (by omega) (by omega)) (Nat.le_of_ble_eq_true rfl)) rfl rfl tg_X11_byteAt lk_X11_85 in_X11_byteAt se_X11_byteAt rfl dX11_takes_13 rfl (Nat.le_of_ble_eq_true rfl) (Nat.le_refl _) (Nat.le_refl _) ?_
    rintro _ _ ⟨rfl, rfl⟩ -
    refine w_bipush (v := 32) dX11_takes_16 (by decide) ?_
    refine w_icmp_ne (tgt := 34) dX11_takes_18 (by decide) (fun _ => ?_) (fun h => absurd h (by decide))
    refine kk I FrB.rf ?_
    rw [bhd_no (by omega)]
    exact hp
  | succ m ih =>
    intro p I hi ht hp kk
    have hpn : p < n := by omega
    have h128 := k2 p hpn
    refine w_aload_n dX11_takes_8 rfl ?_
    refine w_aload_n dX11_takes_9 rfl ?_
    refine w_getI ff_X11_82 rfl rfl dX11_takes_10 ?_
    rw [show (I 30 0 0 11 : Int32) = nI p from hp]
    refine w_callV (as := [vI (nI p)]) (st := []) (Tri.mono (d_byteAt hk (ht.fr FrN.rf) (i := p) hpn) (Nat.le_of_ble_eq_true rfl)) rfl rfl tg_X11_byteAt lk_X11_85 in_X11_byteAt se_X11_byteAt rfl dX11_takes_13 rfl (Nat.le_of_ble_eq_true rfl) (Nat.le_refl _) (Nat.le_refl _) ?_
    rintro _ _ ⟨rfl, rfl⟩ -
    refine w_bipush (v := 32) dX11_takes_16 (by decide) ?_
    refine w_icmp_ne (tgt := 34) dX11_takes_18 (by decide) (fun h1 => ?_) (fun h1 => ?_)
    · skip
      replace h1 : ¬ (((b p : Nat) : Int) = 32) := fun q => h1 ((zeq (z_nI (by omega)) (by decide)).mpr q)
      first
      | (exfalso; omega)
      | skip
        refine kk I FrB.rf ?_
        rw [bhd_no (by omega)]
        exact hp
    · skip
      replace h1 : ((b p : Nat) : Int) = 32 := (zeq (z_nI (by omega)) (by decide)).mp h1
      first
      | (exfalso; omega)
      | skip
        refine w_aload_n dX11_takes_21 rfl ?_
        refine w_dup dX11_takes_22 rfl ?_
        refine w_getI ff_X11_82 rfl rfl dX11_takes_23 ?_
        rw [show (I 30 0 0 11 : Int32) = nI p from hp]
        refine w_iconst (v := 1) dX11_takes_26 (by decide) ?_
        refine w_iadd dX11_takes_27 ?_
        rw [show ((nI p) + (1) : Int32) = nI (p + 1) from ar_add (p := p) (q := 1) rfl rfl (by omega)]
        refine w_putI ff_X11_82 rfl rfl rfl rfl dX11_takes_28 ?_
        refine w_goto (tgt := 8) dX11_takes_31 (by decide) ?_
        refine ih (p + 1) _ (by omega) (ht.fr (FrN.rf.up (by decide))) xup_self (fun I' f' e' => kk I' (fun t k j s h => (f' t k j s h).trans (FrB.rf.up t k j s h)) ?_)
        rw [bhd_go (by omega)]
        exact e'

theorem l_name {L : xF4 Int64} {n : Nat} {b : Nat → Nat} (hk : BK n b) {o1 : Option xV} {Q : Option xV → xM → Prop} : ∀ (m p : Nat) (I : xF4 Int32), p + m = n → TN I n b → I 30 0 0 11 = nI p → (∀ I', FrB I I' → I' 30 0 0 11 = nI (bhd n b 97 122 p) → Wp 1 109 m_X11_takes 274 [some (vR 30 0 0), o1] [] (rM I' L) Q) → Wp 1 109 m_X11_takes 82 [some (vR 30 0 0), o1] [] (rM I L) Q := by
  obtain ⟨k1, k2⟩ := id hk
  intro m
  induction m with
  | zero =>
    intro p I hi ht hp kk
    refine w_aload_n dX11_takes_82 rfl ?_
    refine w_aload_n dX11_takes_83 rfl ?_
    refine w_getI ff_X11_82 rfl rfl dX11_takes_84 ?_
    rw [show (I 30 0 0 11 : Int32) = nI p from hp]
    refine w_callV (as := [vI (nI p)]) (st := []) (Tri.mono (d_byteAtO hk ht (i := p) (by omega) (by omega)) (Nat.le_of_ble_eq_true rfl)) rfl rfl tg_X11_byteAt lk_X11_85 in_X11_byteAt se_X11_byteAt rfl dX11_takes_87 rfl (Nat.le_of_ble_eq_true rfl) (Nat.le_refl _) (Nat.le_refl _) ?_
    rintro _ _ ⟨rfl, rfl⟩ -
    refine w_i2l dX11_takes_90 ?_
    refine w_ldc2 dX11_takes_91 cq_X11_104 ?_
    refine w_ldc2 dX11_takes_94 cq_X11_106 ?_
    refine w_callS (as := [vL (((-1) : Int32).toInt64), vL (97), vL (122)]) (st := []) (Tri.mono (d_in (((-1) : Int32).toInt64) (97) (122)) (Nat.le_of_ble_eq_true rfl)) tg_X11_in lk_X11_66 sa_X11_in rfl dX11_takes_97 rfl (Nat.le_of_ble_eq_true rfl) (Nat.le_refl _) (Nat.le_refl _) ?_
    rintro _ _ ⟨rfl, rfl⟩ -
    refine w_top (y := 0) (show (bI ((97 : Int64) ≤ (((-1) : Int32).toInt64) ∧ (((-1) : Int32).toInt64) ≤ (122 : Int64)) : Int32) = 0 from bI_f (by decide)) ?_
    refine w_if_eq (tgt := 274) dX11_takes_100 (by decide) (fun _ => ?_) (fun h => absurd (by decide) h)
    refine kk I FrB.rf ?_
    rw [bhd_no (by omega)]
    exact hp
  | succ m ih =>
    intro p I hi ht hp kk
    have hpn : p < n := by omega
    have h128 := k2 p hpn
    refine w_aload_n dX11_takes_82 rfl ?_
    refine w_aload_n dX11_takes_83 rfl ?_
    refine w_getI ff_X11_82 rfl rfl dX11_takes_84 ?_
    rw [show (I 30 0 0 11 : Int32) = nI p from hp]
    refine w_callV (as := [vI (nI p)]) (st := []) (Tri.mono (d_byteAt hk (ht.fr FrN.rf) (i := p) hpn) (Nat.le_of_ble_eq_true rfl)) rfl rfl tg_X11_byteAt lk_X11_85 in_X11_byteAt se_X11_byteAt rfl dX11_takes_87 rfl (Nat.le_of_ble_eq_true rfl) (Nat.le_refl _) (Nat.le_refl _) ?_
    rintro _ _ ⟨rfl, rfl⟩ -
    refine w_i2l dX11_takes_90 ?_
    refine w_ldc2 dX11_takes_91 cq_X11_104 ?_
    refine w_ldc2 dX11_takes_94 cq_X11_106 ?_
    refine w_callS (as := [vL ((nI (b p) : Int32).toInt64), vL (97), vL (122)]) (st := []) (Tri.mono (d_in ((nI (b p) : Int32).toInt64) (97) (122)) (Nat.le_of_ble_eq_true rfl)) tg_X11_in lk_X11_66 sa_X11_in rfl dX11_takes_97 rfl (Nat.le_of_ble_eq_true rfl) (Nat.le_refl _) (Nat.le_refl _) ?_
    rintro _ _ ⟨rfl, rfl⟩ -
    refine w_top (y := bI (97 ≤ ((b p : Nat) : Int) ∧ ((b p : Nat) : Int) ≤ 122)) (show (bI ((97 : Int64) ≤ ((nI (b p) : Int32).toInt64) ∧ ((nI (b p) : Int32).toInt64) ≤ (122 : Int64)) : Int32) = bI (97 ≤ ((b p : Nat) : Int) ∧ ((b p : Nat) : Int) ≤ 122) from inZ (x := nI (b p)) (l := 97) (h := 122) (X := ((b p : Nat) : Int)) (A := 97) (B := 122) rfl (by decide) (by decide) (z_nI (by omega)) (by decide) (by decide)) ?_
    refine w_ifeq_b (tgt := 274) dX11_takes_100 (by decide) (fun h1 => ?_) (fun h1 => ?_)
    · skip
      first
      | (exfalso; omega)
      | skip
        refine kk I FrB.rf ?_
        rw [bhd_no (by omega)]
        exact hp
    · skip
      first
      | (exfalso; omega)
      | skip
        refine w_aload_n dX11_takes_103 rfl ?_
        refine w_dup dX11_takes_104 rfl ?_
        refine w_getI ff_X11_82 rfl rfl dX11_takes_105 ?_
        rw [show (I 30 0 0 11 : Int32) = nI p from hp]
        refine w_iconst (v := 1) dX11_takes_108 (by decide) ?_
        refine w_iadd dX11_takes_109 ?_
        rw [show ((nI p) + (1) : Int32) = nI (p + 1) from ar_add (p := p) (q := 1) rfl rfl (by omega)]
        refine w_putI ff_X11_82 rfl rfl rfl rfl dX11_takes_110 ?_
        refine w_goto (tgt := 82) dX11_takes_113 (by decide) ?_
        refine ih (p + 1) _ (by omega) (ht.fr (FrN.rf.up (by decide))) xup_self (fun I' f' e' => kk I' (fun t k j s h => (f' t k j s h).trans (FrB.rf.up t k j s h)) ?_)
        rw [bhd_go (by omega)]
        exact e'

def FrV (I I' : xF4 Int32) : Prop := ∀ t k j s, ¬ (t = 30 ∧ (s = 11 ∨ s = 14)) → I' t k j s = I t k j s
theorem FrV.rf {I : xF4 Int32} : FrV I I := fun _ _ _ _ _ => rfl
theorem FrV.tr {I I1 I2 : xF4 Int32} (h1 : FrV I I1) (h2 : FrV I1 I2) : FrV I I2 := fun t b j s h => (h2 t b j s h).trans (h1 t b j s h)
theorem FrV.n {I I' : xF4 Int32} (h : FrV I I') : FrN I I' := fun t b j s q => h t b j s (fun z => q (by omega))
theorem FrV.up {I I1 : xF4 Int32} {s : Nat} {v : Int32} (h1 : FrV I I1) (h : s = 11 ∨ s = 14) : FrV I (xup I1 30 0 0 s v) := fun t b j s' hn => by
  unfold xup
  rw [if_neg (by rintro ⟨rfl, rfl, rfl, rfl⟩; exact hn ⟨rfl, h⟩)]
  exact h1 t b j s' hn

theorem l_dig {L : xF4 Int64} {n : Nat} {b : Nat → Nat} (hk : BK n b) {o1 : Option xV} {Q : Option xV → xM → Prop} {f : Nat} {v9 : Int32} : ∀ (m p : Nat) (I : xF4 Int32), p + m = n → f + 2 ≤ p → TN I n b → I 30 0 0 11 = nI p → I 30 0 0 12 = nI f → I 30 0 0 14 = v9 → (∀ I', FrV I I' → I' 30 0 0 11 = nI (bhd n b 48 57 p) → I' 30 0 0 14 = v9 → Wp 1 109 m_X11_takes 217 [some (vR 30 0 0), o1] [] (rM I' L) Q) → Wp 1 109 m_X11_takes 140 [some (vR 30 0 0), o1] [] (rM I L) Q := by
  obtain ⟨k1, k2⟩ := id hk
  intro m
  induction m with
  | zero =>
    intro p I hi hfp ht hp hf hv kk
    refine w_aload_n dX11_takes_140 rfl ?_
    refine w_aload_n dX11_takes_141 rfl ?_
    refine w_getI ff_X11_82 rfl rfl dX11_takes_142 ?_
    rw [show (I 30 0 0 11 : Int32) = nI p from hp]
    refine w_callV (as := [vI (nI p)]) (st := []) (Tri.mono (d_byteAtO hk ht (i := p) (by omega) (by omega)) (Nat.le_of_ble_eq_true rfl)) rfl rfl tg_X11_byteAt lk_X11_85 in_X11_byteAt se_X11_byteAt rfl dX11_takes_145 rfl (Nat.le_of_ble_eq_true rfl) (Nat.le_refl _) (Nat.le_refl _) ?_
    rintro _ _ ⟨rfl, rfl⟩ -
    refine w_i2l dX11_takes_148 ?_
    refine w_ldc2 dX11_takes_149 cq_X11_108 ?_
    refine w_ldc2 dX11_takes_152 cq_X11_110 ?_
    refine w_callS (as := [vL (((-1) : Int32).toInt64), vL (48), vL (57)]) (st := []) (Tri.mono (d_in (((-1) : Int32).toInt64) (48) (57)) (Nat.le_of_ble_eq_true rfl)) tg_X11_in lk_X11_66 sa_X11_in rfl dX11_takes_155 rfl (Nat.le_of_ble_eq_true rfl) (Nat.le_refl _) (Nat.le_refl _) ?_
    rintro _ _ ⟨rfl, rfl⟩ -
    refine w_top (y := 0) (show (bI ((48 : Int64) ≤ (((-1) : Int32).toInt64) ∧ (((-1) : Int32).toInt64) ≤ (57 : Int64)) : Int32) = 0 from bI_f (by decide)) ?_
    refine w_if_eq (tgt := 217) dX11_takes_158 (by decide) (fun _ => ?_) (fun h => absurd (by decide) h)
    refine kk I FrV.rf ?_ hv
    rw [bhd_no (by omega)]
    exact hp
  | succ m ih =>
    intro p I hi hfp ht hp hf hv kk
    have hpn : p < n := by omega
    have h128 := k2 p hpn
    refine w_aload_n dX11_takes_140 rfl ?_
    refine w_aload_n dX11_takes_141 rfl ?_
    refine w_getI ff_X11_82 rfl rfl dX11_takes_142 ?_
    rw [show (I 30 0 0 11 : Int32) = nI p from hp]
    refine w_callV (as := [vI (nI p)]) (st := []) (Tri.mono (d_byteAt hk (ht.fr FrN.rf) (i := p) hpn) (Nat.le_of_ble_eq_true rfl)) rfl rfl tg_X11_byteAt lk_X11_85 in_X11_byteAt se_X11_byteAt rfl dX11_takes_145 rfl (Nat.le_of_ble_eq_true rfl) (Nat.le_refl _) (Nat.le_refl _) ?_
    rintro _ _ ⟨rfl, rfl⟩ -
    refine w_i2l dX11_takes_148 ?_
    refine w_ldc2 dX11_takes_149 cq_X11_108 ?_
    refine w_ldc2 dX11_takes_152 cq_X11_110 ?_
    refine w_callS (as := [vL ((nI (b p) : Int32).toInt64), vL (48), vL (57)]) (st := []) (Tri.mono (d_in ((nI (b p) : Int32).toInt64) (48) (57)) (Nat.le_of_ble_eq_true rfl)) tg_X11_in lk_X11_66 sa_X11_in rfl dX11_takes_155 rfl (Nat.le_of_ble_eq_true rfl) (Nat.le_refl _) (Nat.le_refl _) ?_
    rintro _ _ ⟨rfl, rfl⟩ -
    refine w_top (y := bI (48 ≤ ((b p : Nat) : Int) ∧ ((b p : Nat) : Int) ≤ 57)) (show (bI ((48 : Int64) ≤ ((nI (b p) : Int32).toInt64) ∧ ((nI (b p) : Int32).toInt64) ≤ (57 : Int64)) : Int32) = bI (48 ≤ ((b p : Nat) : Int) ∧ ((b p : Nat) : Int) ≤ 57) from inZ (x := nI (b p)) (l := 48) (h := 57) (X := ((b p : Nat) : Int)) (A := 48) (B := 57) rfl (by decide) (by decide) (z_nI (by omega)) (by decide) (by decide)) ?_
    refine w_ifeq_b (tgt := 217) dX11_takes_158 (by decide) (fun h1 => ?_) (fun h1 => ?_)
    · skip
      first
      | (exfalso; omega)
      | skip
        refine kk I FrV.rf ?_ hv
        rw [bhd_no (by omega)]
        exact hp
    · skip
      first
      | (exfalso; omega)
      | skip
        refine w_aload_n dX11_takes_161 rfl ?_
        refine w_aload_n dX11_takes_162 rfl ?_
        refine w_getI ff_X11_82 rfl rfl dX11_takes_163 ?_
        rw [show (I 30 0 0 11 : Int32) = nI p from hp]
        refine w_aload_n dX11_takes_166 rfl ?_
        refine w_getI ff_X11_76 rfl rfl dX11_takes_167 ?_
        rw [show (I 30 0 0 12 : Int32) = nI f from hf]
        refine w_isub dX11_takes_170 ?_
        refine w_iconst (v := 2) dX11_takes_171 (by decide) ?_
        refine w_icmp_ge (tgt := 197) dX11_takes_172 (by decide) (fun h2 => ?_) (fun h2 => ?_)
        · skip
          replace h2 : 2 ≤ ((p : Nat) : Int) - ((f : Nat) : Int) := (zle (by decide) (z_sub (a := p) (b := f) (by omega) (by omega))).mp h2
          first
          | (exfalso; omega)
          | skip
            refine w_aload_n dX11_takes_197 rfl ?_
            refine w_getI ff_X11_112 rfl rfl dX11_takes_198 ?_
            rw [show (I 30 0 0 14 : Int32) = v9 from hv]
            refine w_putI ff_X11_112 rfl rfl rfl rfl dX11_takes_201 ?_
            refine w_aload_n dX11_takes_204 rfl ?_
            refine w_dup dX11_takes_205 rfl ?_
            refine w_getI ff_X11_82 rfl rfl dX11_takes_206 ?_
            rw [show ((xup I 30 0 0 14 (v9)) 30 0 0 11 : Int32) = nI p from ((xup_slot (by decide)).trans hp)]
            refine w_iconst (v := 1) dX11_takes_209 (by decide) ?_
            refine w_iadd dX11_takes_210 ?_
            rw [show ((nI p) + (1) : Int32) = nI (p + 1) from ar_add (p := p) (q := 1) rfl rfl (by omega)]
            refine w_putI ff_X11_82 rfl rfl rfl rfl dX11_takes_211 ?_
            refine w_goto (tgt := 140) dX11_takes_214 (by decide) ?_
            refine ih (p + 1) _ (by omega) (by omega) (ht.fr ((FrN.rf.up (by decide)).up (by decide))) xup_self ((xup_slot (by decide)).trans ((xup_slot (by decide)).trans hf)) ((xup_slot (by decide)).trans xup_self) (fun I' f' e' v' => kk I' (((FrV.rf.up (Or.inr rfl)).up (Or.inl rfl)).tr f') ?_ v')
            rw [bhd_go (by omega)]
            exact e'
        · skip
          replace h2 : ¬ (2 ≤ ((p : Nat) : Int) - ((f : Nat) : Int)) := fun q => h2 ((zle (by decide) (z_sub (a := p) (b := f) (by omega) (by omega))).mpr q)
          first
          | (exfalso; omega)
          | skip
            refine w_bipush (v := 10) dX11_takes_175 (by decide) ?_
            refine w_aload_n dX11_takes_177 rfl ?_
            refine w_getI ff_X11_112 rfl rfl dX11_takes_178 ?_
            rw [show (I 30 0 0 14 : Int32) = v9 from hv]
            refine w_imul dX11_takes_181 ?_
            refine w_aload_n dX11_takes_182 rfl ?_
            refine w_aload_n dX11_takes_183 rfl ?_
            refine w_getI ff_X11_82 rfl rfl dX11_takes_184 ?_
            rw [show (I 30 0 0 11 : Int32) = nI p from hp]
            refine w_callV (as := [vI (nI p)]) (st := [vI ((10) * (v9)), vR 30 0 0]) (Tri.mono (d_byteAt hk (ht.fr FrN.rf) (i := p) hpn) (Nat.le_of_ble_eq_true rfl)) rfl rfl tg_X11_byteAt lk_X11_85 in_X11_byteAt se_X11_byteAt rfl dX11_takes_187 rfl (Nat.le_of_ble_eq_true rfl) (Nat.le_refl _) (Nat.le_refl _) ?_
            rintro _ _ ⟨rfl, rfl⟩ -
            refine w_iadd dX11_takes_190 ?_
            refine w_bipush (v := 48) dX11_takes_191 (by decide) ?_
            refine w_isub dX11_takes_193 ?_
            refine w_goto (tgt := 201) dX11_takes_194 (by decide) ?_
            refine w_putI ff_X11_112 rfl rfl rfl rfl dX11_takes_201 ?_
            refine w_aload_n dX11_takes_204 rfl ?_
            refine w_dup dX11_takes_205 rfl ?_
            refine w_getI ff_X11_82 rfl rfl dX11_takes_206 ?_
            rw [show ((xup I 30 0 0 14 ((((10) * (v9)) + (nI (b p))) - (48))) 30 0 0 11 : Int32) = nI p from ((xup_slot (by decide)).trans hp)]
            refine w_iconst (v := 1) dX11_takes_209 (by decide) ?_
            refine w_iadd dX11_takes_210 ?_
            rw [show ((nI p) + (1) : Int32) = nI (p + 1) from ar_add (p := p) (q := 1) rfl rfl (by omega)]
            refine w_putI ff_X11_82 rfl rfl rfl rfl dX11_takes_211 ?_
            refine w_goto (tgt := 140) dX11_takes_214 (by decide) ?_
            refine ih (p + 1) _ (by omega) (by omega) (ht.fr ((FrN.rf.up (by decide)).up (by decide))) xup_self ((xup_slot (by decide)).trans ((xup_slot (by decide)).trans hf)) ((xup_slot (by decide)).trans xup_self) (fun I' f' e' v' => kk I' (((FrV.rf.up (Or.inr rfl)).up (Or.inl rfl)).tr f') ?_ v')
            rw [bhd_go (by omega)]
            exact e'

theorem d_takeD {I : xF4 Int32} {L : xF4 Int64} {n : Nat} {b : Nat → Nat} (hk : BK n b) (ht : TN I n b) {c p : Nat} (hok : 1 ≤ c ∧ c ≤ 5) (h : TM I (.inl (c, p))) : Tri 0 109 m_X11_takes [vR 30 0 0] (rM I L) (pM9 (.inl (c, p)) I L) := by
  refine ⟨k_X11_takes, Nat.le_of_ble_eq_true rfl, ?_⟩
  show Wp _ _ _ 0 [some (vR 30 0 0), none] [] (rM I L) _
  refine w_aload_n dX11_takes_0 rfl ?_
  refine w_getI ff_X11_73 rfl rfl dX11_takes_1 ?_
  rw [show (I 30 0 0 15 : Int32) = nI c from h.1]
  refine w_if_le (tgt := 8) dX11_takes_4 (by decide) (fun h1 => ?_) (fun h1 => ?_)
  · skip
    replace h1 : ((c : Nat) : Int) ≤ 0 := (zle (z_nI (by omega)) (by decide)).mp h1
    first
    | (exfalso; omega)
    | skip
      exfalso
      omega
  · skip
    replace h1 : ¬ (((c : Nat) : Int) ≤ 0) := fun q => h1 ((zle (z_nI (by omega)) (by decide)).mpr q)
    first
    | (exfalso; omega)
    | skip
      exact w_return dX11_takes_7 rfl rfl (⟨rfl, _, rfl, h, FrN.rf⟩)

def TM0 (I : xF4 Int32) (nx : Nat) : Prop := I 30 0 0 15 = 0 ∧ I 30 0 0 11 = nI nx

theorem vm_1 {x : Nat} (h : 48 ≤ x) : nI x - 48 = nI (x - 48) := vl_1 h
theorem vm_2 {v x : Nat} (h : 48 ≤ x) : nI (10 * v + x) - 48 = nI (10 * v + (x - 48)) := ar_sub (p := 10 * v + x) (q := 48) rfl rfl (by omega) (by omega)

set_option maxHeartbeats 1000000 in
theorem d_takeL {I : xF4 Int32} {L : xF4 Int64} {n : Nat} {b : Nat → Nat} (hk : BK n b) (ht : TN I n b) {nx : Nat} (hok : nx ≤ n) (h : TM0 I nx) : Tri 1 109 m_X11_takes [vR 30 0 0] (rM I L) (pM9 (lexT n b nx) I L) := by
  refine ⟨k_X11_takes, Nat.le_of_ble_eq_true rfl, ?_⟩
  show Wp _ _ _ 0 [some (vR 30 0 0), none] [] (rM I L) _
  obtain ⟨k1, k2⟩ := id hk
  obtain ⟨c15, c11⟩ := id h
  obtain ⟨f, hf⟩ : ∃ f, f = bhd n b 32 32 nx := ⟨_, rfl⟩
  obtain ⟨b1, b2, -⟩ := bhd_le (n := n) (b := b) (lo := 32) (hi := 32) (n - nx) nx (by omega)
  rw [← hf] at b1 b2
  refine w_aload_n dX11_takes_0 rfl ?_
  refine w_getI ff_X11_73 rfl rfl dX11_takes_1 ?_
  rw [show (I 30 0 0 15 : Int32) = 0 from c15]
  refine w_if_le (tgt := 8) dX11_takes_4 (by decide) (fun _ => ?_) (fun h => absurd (by decide) h)
  refine l_space hk (n - nx) nx I (by omega) ht c11 (fun I1 f1 e1 => ?_)
  rw [← hf] at e1
  have d15 : I1 30 0 0 15 = 0 := (f1 30 0 0 15 (by omega)).trans c15
  have ht1 := ht.fr f1.n
  rcases Nat.lt_or_ge f n with hfn | hfn
  · skip
    have k3 := k2 f hfn
    obtain ⟨e, he⟩ : ∃ e, e = bhd n b 97 122 f := ⟨_, rfl⟩
    obtain ⟨d, hd⟩ : ∃ d, d = bhd n b 48 57 f := ⟨_, rfl⟩
    obtain ⟨d1, d2, d3⟩ := bhd_le (n := n) (b := b) (lo := 48) (hi := 57) (n - f) f (by omega)
    rw [← hd] at d1 d2 d3
    refine w_aload_n dX11_takes_34 rfl ?_
    refine w_aload_n dX11_takes_35 rfl ?_
    refine w_getI ff_X11_82 rfl rfl dX11_takes_36 ?_
    rw [show (I1 30 0 0 11 : Int32) = nI f from e1]
    refine w_putI ff_X11_76 rfl rfl rfl rfl dX11_takes_39 ?_
    refine w_aload_n dX11_takes_42 rfl ?_
    refine w_aload_n dX11_takes_43 rfl ?_
    refine w_getI ff_X11_82 rfl rfl dX11_takes_44 ?_
    rw [show ((xup I1 30 0 0 12 (nI f)) 30 0 0 11 : Int32) = nI f from ((xup_slot (by decide)).trans e1)]
    refine w_callV (as := [vI (nI f)]) (st := []) (Tri.mono (d_byteAt hk (ht1.fr (FrN.rf.up (by decide))) hfn) (Nat.le_of_ble_eq_true rfl)) rfl rfl tg_X11_byteAt lk_X11_85 in_X11_byteAt se_X11_byteAt rfl dX11_takes_47 rfl (Nat.le_of_ble_eq_true rfl) (Nat.le_refl _) (Nat.le_refl _) ?_
    rintro _ _ ⟨rfl, rfl⟩ -
    refine w_istore_n (ls' := [some (vR 30 0 0), some (vI (nI (b f)))]) dX11_takes_50 rfl ?_
    refine w_iload_n dX11_takes_51 rfl ?_
    refine w_if_ge (tgt := 63) dX11_takes_52 (by decide) (fun h1 => ?_) (fun h1 => ?_)
    · skip
      replace h1 : 0 ≤ ((b f : Nat) : Int) := (zle (by decide) (z_nI (by omega))).mp h1
      first
      | (exfalso; omega)
      | skip
        refine w_iload_n dX11_takes_63 rfl ?_
        refine w_i2l dX11_takes_64 ?_
        refine w_ldc2 dX11_takes_65 cq_X11_104 ?_
        refine w_ldc2 dX11_takes_68 cq_X11_106 ?_
        refine w_callS (as := [vL ((nI (b f) : Int32).toInt64), vL (97), vL (122)]) (st := []) (Tri.mono (d_in ((nI (b f) : Int32).toInt64) (97) (122)) (Nat.le_of_ble_eq_true rfl)) tg_X11_in lk_X11_66 sa_X11_in rfl dX11_takes_71 rfl (Nat.le_of_ble_eq_true rfl) (Nat.le_refl _) (Nat.le_refl _) ?_
        rintro _ _ ⟨rfl, rfl⟩ -
        refine w_top (y := bI (97 ≤ ((b f : Nat) : Int) ∧ ((b f : Nat) : Int) ≤ 122)) (show (bI ((97 : Int64) ≤ ((nI (b f) : Int32).toInt64) ∧ ((nI (b f) : Int32).toInt64) ≤ (122 : Int64)) : Int32) = bI (97 ≤ ((b f : Nat) : Int) ∧ ((b f : Nat) : Int) ≤ 122) from inZ (x := nI (b f)) (l := 97) (h := 122) (X := ((b f : Nat) : Int)) (A := 97) (B := 122) rfl (by decide) (by decide) (z_nI (by omega)) (by decide) (by decide)) ?_
        refine w_ifeq_b (tgt := 116) dX11_takes_74 (by decide) (fun h2 => ?_) (fun h2 => ?_)
        · skip
          first
          | (exfalso; omega)
          | skip
            refine w_iload_n dX11_takes_116 rfl ?_
            refine w_i2l dX11_takes_117 ?_
            refine w_ldc2 dX11_takes_118 cq_X11_108 ?_
            refine w_ldc2 dX11_takes_121 cq_X11_110 ?_
            refine w_callS (as := [vL ((nI (b f) : Int32).toInt64), vL (48), vL (57)]) (st := []) (Tri.mono (d_in ((nI (b f) : Int32).toInt64) (48) (57)) (Nat.le_of_ble_eq_true rfl)) tg_X11_in lk_X11_66 sa_X11_in rfl dX11_takes_124 rfl (Nat.le_of_ble_eq_true rfl) (Nat.le_refl _) (Nat.le_refl _) ?_
            rintro _ _ ⟨rfl, rfl⟩ -
            refine w_top (y := bI (48 ≤ ((b f : Nat) : Int) ∧ ((b f : Nat) : Int) ≤ 57)) (show (bI ((48 : Int64) ≤ ((nI (b f) : Int32).toInt64) ∧ ((nI (b f) : Int32).toInt64) ≤ (57 : Int64)) : Int32) = bI (48 ≤ ((b f : Nat) : Int) ∧ ((b f : Nat) : Int) ≤ 57) from inZ (x := nI (b f)) (l := 48) (h := 57) (X := ((b f : Nat) : Int)) (A := 48) (B := 57) rfl (by decide) (by decide) (z_nI (by omega)) (by decide) (by decide)) ?_
            refine w_ifeq_b (tgt := 243) dX11_takes_127 (by decide) (fun h3 => ?_) (fun h3 => ?_)
            · skip
              first
              | (exfalso; omega)
              | skip
                refine w_aload_n dX11_takes_243 rfl ?_
                refine w_iconst (v := 3) dX11_takes_244 (by decide) ?_
                refine w_putI ff_X11_101 rfl rfl rfl rfl dX11_takes_245 ?_
                refine w_aload_n dX11_takes_248 rfl ?_
                refine w_iload_n dX11_takes_249 rfl ?_
                refine w_bipush (v := 59) dX11_takes_250 (by decide) ?_
                refine w_icmp_ne (tgt := 259) dX11_takes_252 (by decide) (fun h4 => ?_) (fun h4 => ?_)
                · skip
                  replace h4 : ¬ (((b f : Nat) : Int) = 59) := fun q => h4 ((zeq (z_nI (by omega)) (by decide)).mpr q)
                  first
                  | (exfalso; omega)
                  | skip
                    refine w_iconst (v := 0) dX11_takes_259 (by decide) ?_
                    refine w_iconst (v := 1) dX11_takes_260 (by decide) ?_
                    refine w_callV (as := [vI (0), vI (1)]) (st := []) (Tri.mono (d_needL (I := xup (xup I1 30 0 0 12 (nI f)) 30 0 0 13 (3)) ((xup_slot (by decide)).trans ((xup_slot (by decide)).trans d15)) ((xup_slot (by decide)).trans xup_self) (1)) (Nat.le_of_ble_eq_true rfl)) rfl rfl tg_X11_needs lk_X11_115 in_X11_needs se_X11_needs rfl dX11_takes_261 rfl (Nat.le_of_ble_eq_true rfl) (Nat.le_refl _) (Nat.le_refl _) ?_
                    rintro _ _ ⟨rfl, rfl⟩ -
                    refine w_aload_n dX11_takes_264 rfl ?_
                    refine w_dup dX11_takes_265 rfl ?_
                    refine w_getI ff_X11_82 rfl rfl dX11_takes_266 ?_
                    rw [show ((xup (xup (xup (xup I1 30 0 0 12 (nI f)) 30 0 0 13 (3)) 30 0 0 15 (1)) 30 0 0 16 ((nI f))) 30 0 0 11 : Int32) = nI f from ((xup_slot (by decide)).trans ((xup_slot (by decide)).trans ((xup_slot (by decide)).trans ((xup_slot (by decide)).trans e1))))]
                    refine w_iconst (v := 1) dX11_takes_269 (by decide) ?_
                    refine w_iadd dX11_takes_270 ?_
                    rw [show ((nI f) + (1) : Int32) = nI (f + 1) from ar_add (p := f) (q := 1) rfl rfl (by omega)]
                    refine w_putI ff_X11_82 rfl rfl rfl rfl dX11_takes_271 ?_
                    rw [show lexT n b nx = _ from lex_b hf hfn (by omega) (by omega) (by omega)]
                    exact w_return dX11_takes_274 rfl rfl (⟨rfl, _, rfl, ⟨(((xup_slot (by decide)).trans ((xup_slot (by decide)).trans xup_self)).trans (by rfl)), (((xup_slot (by decide)).trans xup_self).trans (by rfl))⟩, (f1.n.tr (((((FrN.rf.up (by decide)).up (by decide)).up (by decide)).up (by decide)).up (by decide)))⟩)
                · skip
                  replace h4 : ((b f : Nat) : Int) = 59 := (zeq (z_nI (by omega)) (by decide)).mp h4
                  first
                  | (exfalso; omega)
                  | skip
                    refine w_iconst (v := 1) dX11_takes_255 (by decide) ?_
                    refine w_goto (tgt := 260) dX11_takes_256 (by decide) ?_
                    refine w_iconst (v := 1) dX11_takes_260 (by decide) ?_
                    refine w_callV (as := [vI (1), vI (1)]) (st := []) (Tri.mono (d_need1 (I := xup (xup I1 30 0 0 12 (nI f)) 30 0 0 13 (3)) (1)) (Nat.le_of_ble_eq_true rfl)) rfl rfl tg_X11_needs lk_X11_115 in_X11_needs se_X11_needs rfl dX11_takes_261 rfl (Nat.le_of_ble_eq_true rfl) (Nat.le_refl _) (Nat.le_refl _) ?_
                    rintro _ _ ⟨rfl, rfl⟩ -
                    refine w_aload_n dX11_takes_264 rfl ?_
                    refine w_dup dX11_takes_265 rfl ?_
                    refine w_getI ff_X11_82 rfl rfl dX11_takes_266 ?_
                    rw [show ((xup (xup I1 30 0 0 12 (nI f)) 30 0 0 13 (3)) 30 0 0 11 : Int32) = nI f from ((xup_slot (by decide)).trans ((xup_slot (by decide)).trans e1))]
                    refine w_iconst (v := 1) dX11_takes_269 (by decide) ?_
                    refine w_iadd dX11_takes_270 ?_
                    rw [show ((nI f) + (1) : Int32) = nI (f + 1) from ar_add (p := f) (q := 1) rfl rfl (by omega)]
                    refine w_putI ff_X11_82 rfl rfl rfl rfl dX11_takes_271 ?_
                    rw [show lexT n b nx = _ from lex_3 hf hfn (by omega)]
                    exact w_return dX11_takes_274 rfl rfl (⟨rfl, _, rfl, ⟨(((xup_slot (by decide)).trans ((xup_slot (by decide)).trans ((xup_slot (by decide)).trans d15))).trans (by rfl)), (((xup_slot (by decide)).trans xup_self).trans (by rfl)), (((xup_slot (by decide)).trans ((xup_slot (by decide)).trans xup_self)).trans (by rfl)), (xup_self.trans (by rfl)), fun h => by cases h⟩, (f1.n.tr (((FrN.rf.up (by decide)).up (by decide)).up (by decide)))⟩)
            · skip
              first
              | (exfalso; omega)
              | skip
                refine w_aload_n dX11_takes_130 rfl ?_
                refine w_iconst (v := 2) dX11_takes_131 (by decide) ?_
                refine w_putI ff_X11_101 rfl rfl rfl rfl dX11_takes_132 ?_
                refine w_aload_n dX11_takes_135 rfl ?_
                refine w_iconst (v := 0) dX11_takes_136 (by decide) ?_
                refine w_putI ff_X11_112 rfl rfl rfl rfl dX11_takes_137 ?_
                have q1 : 48 ≤ b f ∧ b f ≤ 57 := by omega
                have hdf := bhd_go (n := n) (b := b) (lo := 48) (hi := 57) (i := f) ⟨hfn, q1⟩
                rw [← hd] at hdf
                refine w_aload_n dX11_takes_140 rfl ?_
                refine w_aload_n dX11_takes_141 rfl ?_
                refine w_getI ff_X11_82 rfl rfl dX11_takes_142 ?_
                rw [show ((xup (xup (xup I1 30 0 0 12 (nI f)) 30 0 0 13 (2)) 30 0 0 14 (0)) 30 0 0 11 : Int32) = nI f from ((xup_slot (by decide)).trans ((xup_slot (by decide)).trans ((xup_slot (by decide)).trans e1)))]
                refine w_callV (as := [vI (nI f)]) (st := []) (Tri.mono (d_byteAt hk (ht1.fr (((FrN.rf.up (by decide)).up (by decide)).up (by decide))) hfn) (Nat.le_of_ble_eq_true rfl)) rfl rfl tg_X11_byteAt lk_X11_85 in_X11_byteAt se_X11_byteAt rfl dX11_takes_145 rfl (Nat.le_of_ble_eq_true rfl) (Nat.le_refl _) (Nat.le_refl _) ?_
                rintro _ _ ⟨rfl, rfl⟩ -
                refine w_i2l dX11_takes_148 ?_
                refine w_ldc2 dX11_takes_149 cq_X11_108 ?_
                refine w_ldc2 dX11_takes_152 cq_X11_110 ?_
                refine w_callS (as := [vL ((nI (b f) : Int32).toInt64), vL (48), vL (57)]) (st := []) (Tri.mono (d_in ((nI (b f) : Int32).toInt64) (48) (57)) (Nat.le_of_ble_eq_true rfl)) tg_X11_in lk_X11_66 sa_X11_in rfl dX11_takes_155 rfl (Nat.le_of_ble_eq_true rfl) (Nat.le_refl _) (Nat.le_refl _) ?_
                rintro _ _ ⟨rfl, rfl⟩ -
                refine w_top (y := bI (48 ≤ ((b f : Nat) : Int) ∧ ((b f : Nat) : Int) ≤ 57)) (show (bI ((48 : Int64) ≤ ((nI (b f) : Int32).toInt64) ∧ ((nI (b f) : Int32).toInt64) ≤ (57 : Int64)) : Int32) = bI (48 ≤ ((b f : Nat) : Int) ∧ ((b f : Nat) : Int) ≤ 57) from inZ (x := nI (b f)) (l := 48) (h := 57) (X := ((b f : Nat) : Int)) (A := 48) (B := 57) rfl (by decide) (by decide) (z_nI (by omega)) (by decide) (by decide)) ?_
                refine w_ifeq_b (tgt := 217) dX11_takes_158 (by decide) (fun h8 => ?_) (fun h8 => ?_)
                · skip
                  first
                  | (exfalso; omega)
                  | skip
                    exfalso
                    omega
                · skip
                  first
                  | (exfalso; omega)
                  | skip
                    refine w_aload_n dX11_takes_161 rfl ?_
                    refine w_aload_n dX11_takes_162 rfl ?_
                    refine w_getI ff_X11_82 rfl rfl dX11_takes_163 ?_
                    rw [show ((xup (xup (xup I1 30 0 0 12 (nI f)) 30 0 0 13 (2)) 30 0 0 14 (0)) 30 0 0 11 : Int32) = nI f from ((xup_slot (by decide)).trans ((xup_slot (by decide)).trans ((xup_slot (by decide)).trans e1)))]
                    refine w_aload_n dX11_takes_166 rfl ?_
                    refine w_getI ff_X11_76 rfl rfl dX11_takes_167 ?_
                    rw [show ((xup (xup (xup I1 30 0 0 12 (nI f)) 30 0 0 13 (2)) 30 0 0 14 (0)) 30 0 0 12 : Int32) = (nI f) from ((xup_slot (by decide)).trans ((xup_slot (by decide)).trans xup_self))]
                    refine w_isub dX11_takes_170 ?_
                    refine w_iconst (v := 2) dX11_takes_171 (by decide) ?_
                    refine w_icmp_ge (tgt := 197) dX11_takes_172 (by decide) (fun h9 => ?_) (fun h9 => ?_)
                    · skip
                      replace h9 : 2 ≤ ((f : Nat) : Int) - ((f : Nat) : Int) := (zle (by decide) (z_sub (a := f) (b := f) (by omega) (by omega))).mp h9
                      first
                      | (exfalso; omega)
                      | skip
                        refine w_aload_n dX11_takes_197 rfl ?_
                        refine w_getI ff_X11_112 rfl rfl dX11_takes_198 ?_
                        rw [show ((xup (xup (xup I1 30 0 0 12 (nI f)) 30 0 0 13 (2)) 30 0 0 14 (0)) 30 0 0 14 : Int32) = 0 from xup_self]
                        refine w_top (y := nI (b f - 48)) (show (0 : Int32) = nI (b f - 48) from vm_1 q1.1) ?_
                        refine w_putI ff_X11_112 rfl rfl rfl rfl dX11_takes_201 ?_
                        refine w_aload_n dX11_takes_204 rfl ?_
                        refine w_dup dX11_takes_205 rfl ?_
                        refine w_getI ff_X11_82 rfl rfl dX11_takes_206 ?_
                        rw [show ((xup (xup (xup (xup I1 30 0 0 12 (nI f)) 30 0 0 13 (2)) 30 0 0 14 (0)) 30 0 0 14 (nI (b f - 48))) 30 0 0 11 : Int32) = nI f from ((xup_slot (by decide)).trans ((xup_slot (by decide)).trans ((xup_slot (by decide)).trans ((xup_slot (by decide)).trans e1))))]
                        refine w_iconst (v := 1) dX11_takes_209 (by decide) ?_
                        refine w_iadd dX11_takes_210 ?_
                        rw [show ((nI f) + (1) : Int32) = nI (f + 1) from ar_add (p := f) (q := 1) rfl rfl (by omega)]
                        refine w_putI ff_X11_82 rfl rfl rfl rfl dX11_takes_211 ?_
                        refine w_goto (tgt := 140) dX11_takes_214 (by decide) ?_
                        obtain ⟨I2, hI2⟩ : ∃ z, z = xup (xup (xup (xup (xup I1 30 0 0 12 (nI f)) 30 0 0 13 (2)) 30 0 0 14 (0)) 30 0 0 14 (nI (b f - 48))) 30 0 0 11 (nI (f + 1)) := ⟨_, rfl⟩
                        rw [← hI2]
                        have j11 : I2 30 0 0 11 = (nI (f + 1)) := by rw [hI2]; exact xup_self
                        have j12 : I2 30 0 0 12 = (nI f) := by rw [hI2]; exact ((xup_slot (by decide)).trans ((xup_slot (by decide)).trans ((xup_slot (by decide)).trans ((xup_slot (by decide)).trans xup_self))))
                        have j13 : I2 30 0 0 13 = (2) := by rw [hI2]; exact ((xup_slot (by decide)).trans ((xup_slot (by decide)).trans ((xup_slot (by decide)).trans xup_self)))
                        have j14 : I2 30 0 0 14 = (nI (b f - 48)) := by rw [hI2]; exact ((xup_slot (by decide)).trans xup_self)
                        have j15 : I2 30 0 0 15 = 0 := by rw [hI2]; exact ((xup_slot (by decide)).trans ((xup_slot (by decide)).trans ((xup_slot (by decide)).trans ((xup_slot (by decide)).trans ((xup_slot (by decide)).trans d15)))))
                        have f2 : FrN I1 I2 := by rw [hI2]; exact (((((FrN.rf.up (by decide)).up (by decide)).up (by decide)).up (by decide)).up (by decide))
                        have ht2 := ht1.fr f2
                        rcases Nat.lt_or_ge (f + 1) n with h1n | h1n
                        · skip
                          have k4 := k2 (f + 1) h1n
                          refine w_aload_n dX11_takes_140 rfl ?_
                          refine w_aload_n dX11_takes_141 rfl ?_
                          refine w_getI ff_X11_82 rfl rfl dX11_takes_142 ?_
                          rw [show (I2 30 0 0 11 : Int32) = nI (f + 1) from j11]
                          refine w_callV (as := [vI (nI (f + 1))]) (st := []) (Tri.mono (d_byteAt hk (ht2.fr FrN.rf) (i := f + 1) h1n) (Nat.le_of_ble_eq_true rfl)) rfl rfl tg_X11_byteAt lk_X11_85 in_X11_byteAt se_X11_byteAt rfl dX11_takes_145 rfl (Nat.le_of_ble_eq_true rfl) (Nat.le_refl _) (Nat.le_refl _) ?_
                          rintro _ _ ⟨rfl, rfl⟩ -
                          refine w_i2l dX11_takes_148 ?_
                          refine w_ldc2 dX11_takes_149 cq_X11_108 ?_
                          refine w_ldc2 dX11_takes_152 cq_X11_110 ?_
                          refine w_callS (as := [vL ((nI (b (f + 1)) : Int32).toInt64), vL (48), vL (57)]) (st := []) (Tri.mono (d_in ((nI (b (f + 1)) : Int32).toInt64) (48) (57)) (Nat.le_of_ble_eq_true rfl)) tg_X11_in lk_X11_66 sa_X11_in rfl dX11_takes_155 rfl (Nat.le_of_ble_eq_true rfl) (Nat.le_refl _) (Nat.le_refl _) ?_
                          rintro _ _ ⟨rfl, rfl⟩ -
                          refine w_top (y := bI (48 ≤ ((b (f + 1) : Nat) : Int) ∧ ((b (f + 1) : Nat) : Int) ≤ 57)) (show (bI ((48 : Int64) ≤ ((nI (b (f + 1)) : Int32).toInt64) ∧ ((nI (b (f + 1)) : Int32).toInt64) ≤ (57 : Int64)) : Int32) = bI (48 ≤ ((b (f + 1) : Nat) : Int) ∧ ((b (f + 1) : Nat) : Int) ≤ 57) from inZ (x := nI (b (f + 1))) (l := 48) (h := 57) (X := ((b (f + 1) : Nat) : Int)) (A := 48) (B := 57) rfl (by decide) (by decide) (z_nI (by omega)) (by decide) (by decide)) ?_
                          refine w_ifeq_b (tgt := 217) dX11_takes_158 (by decide) (fun h11 => ?_) (fun h11 => ?_)
                          · skip
                            first
                            | (exfalso; omega)
                            | skip
                              have hd1 : d = f + 1 := by rw [hdf]; exact bhd_no (by omega)
                              rw [← hd1] at j11
                              refine w_aload_n dX11_takes_217 rfl ?_
                              refine w_aload_n dX11_takes_218 rfl ?_
                              refine w_getI ff_X11_82 rfl rfl dX11_takes_219 ?_
                              rw [show (I2 30 0 0 11 : Int32) = nI d from j11]
                              refine w_aload_n dX11_takes_222 rfl ?_
                              refine w_getI ff_X11_76 rfl rfl dX11_takes_223 ?_
                              rw [show (I2 30 0 0 12 : Int32) = nI f from j12]
                              refine w_isub dX11_takes_226 ?_
                              refine w_iconst (v := 2) dX11_takes_227 (by decide) ?_
                              refine w_icmp_gt (tgt := 235) dX11_takes_228 (by decide) (fun h14 => ?_) (fun h14 => ?_)
                              · skip
                                replace h14 : 2 < ((d : Nat) : Int) - ((f : Nat) : Int) := (zlt (by decide) (z_sub (a := d) (b := f) (by omega) (by omega))).mp h14
                                first
                                | (exfalso; omega)
                                | skip
                                  refine w_iconst (v := 0) dX11_takes_235 (by decide) ?_
                                  refine w_iconst (v := 1) dX11_takes_236 (by decide) ?_
                                  refine w_callV (as := [vI (0), vI (1)]) (st := []) (Tri.mono (d_needL (I := I2) j15 j12 (1)) (Nat.le_of_ble_eq_true rfl)) rfl rfl tg_X11_needs lk_X11_115 in_X11_needs se_X11_needs rfl dX11_takes_237 rfl (Nat.le_of_ble_eq_true rfl) (Nat.le_refl _) (Nat.le_refl _) ?_
                                  rintro _ _ ⟨rfl, rfl⟩ -
                                  refine w_goto (tgt := 274) dX11_takes_240 (by decide) ?_
                                  rw [show lexT n b nx = _ from lex_2b hf hfn (by omega) hd (by omega)]
                                  exact w_return dX11_takes_274 rfl rfl (⟨rfl, _, rfl, ⟨(((xup_slot (by decide)).trans xup_self).trans (by rfl)), (xup_self.trans (by rfl))⟩, ((f1.n.tr f2).tr ((FrN.rf.up (by decide)).up (by decide)))⟩)
                              · skip
                                replace h14 : ¬ (2 < ((d : Nat) : Int) - ((f : Nat) : Int)) := fun q => h14 ((zlt (by decide) (z_sub (a := d) (b := f) (by omega) (by omega))).mpr q)
                                first
                                | (exfalso; omega)
                                | skip
                                  refine w_iconst (v := 1) dX11_takes_231 (by decide) ?_
                                  refine w_goto (tgt := 236) dX11_takes_232 (by decide) ?_
                                  refine w_iconst (v := 1) dX11_takes_236 (by decide) ?_
                                  refine w_callV (as := [vI (1), vI (1)]) (st := []) (Tri.mono (d_need1 (I := I2) (1)) (Nat.le_of_ble_eq_true rfl)) rfl rfl tg_X11_needs lk_X11_115 in_X11_needs se_X11_needs rfl dX11_takes_237 rfl (Nat.le_of_ble_eq_true rfl) (Nat.le_refl _) (Nat.le_refl _) ?_
                                  rintro _ _ ⟨rfl, rfl⟩ -
                                  refine w_goto (tgt := 274) dX11_takes_240 (by decide) ?_
                                  rw [show lexT n b nx = _ from lex_2 hf hfn (by omega) hd (by omega)]
                                  exact w_return dX11_takes_274 rfl rfl (⟨rfl, _, rfl, ⟨(j15.trans (by rfl)), (j13.trans (by rfl)), (j12.trans (by rfl)), (j11.trans (by rfl)), fun _ => (j14.trans (congrArg nI (if_pos hd1 : vlT b f d = b f - 48).symm))⟩, ((f1.n.tr f2).tr FrN.rf)⟩)
                          · skip
                            first
                            | (exfalso; omega)
                            | skip
                              refine w_aload_n dX11_takes_161 rfl ?_
                              refine w_aload_n dX11_takes_162 rfl ?_
                              refine w_getI ff_X11_82 rfl rfl dX11_takes_163 ?_
                              rw [show (I2 30 0 0 11 : Int32) = nI (f + 1) from j11]
                              refine w_aload_n dX11_takes_166 rfl ?_
                              refine w_getI ff_X11_76 rfl rfl dX11_takes_167 ?_
                              rw [show (I2 30 0 0 12 : Int32) = nI f from j12]
                              refine w_isub dX11_takes_170 ?_
                              refine w_iconst (v := 2) dX11_takes_171 (by decide) ?_
                              refine w_icmp_ge (tgt := 197) dX11_takes_172 (by decide) (fun h12 => ?_) (fun h12 => ?_)
                              · skip
                                replace h12 : 2 ≤ ((f + 1 : Nat) : Int) - ((f : Nat) : Int) := (zle (by decide) (z_sub (a := f + 1) (b := f) (by omega) (by omega))).mp h12
                                first
                                | (exfalso; omega)
                                | skip
                                  refine w_aload_n dX11_takes_197 rfl ?_
                                  refine w_getI ff_X11_112 rfl rfl dX11_takes_198 ?_
                                  rw [show (I2 30 0 0 14 : Int32) = nI (b f - 48) from j14]
                                  have q2 : 48 ≤ b (f + 1) ∧ b (f + 1) ≤ 57 := by omega
                                  have hd2 := bhd_go (n := n) (b := b) (lo := 48) (hi := 57) (i := f + 1) ⟨h1n, q2⟩
                                  rw [← hdf] at hd2
                                  refine w_top (y := nI (10 * (b f - 48) + (b (f + 1) - 48))) (show (nI (b f - 48) : Int32) = nI (10 * (b f - 48) + (b (f + 1) - 48)) from vm_2 q2.1) ?_
                                  refine w_putI ff_X11_112 rfl rfl rfl rfl dX11_takes_201 ?_
                                  refine w_aload_n dX11_takes_204 rfl ?_
                                  refine w_dup dX11_takes_205 rfl ?_
                                  refine w_getI ff_X11_82 rfl rfl dX11_takes_206 ?_
                                  rw [show ((xup I2 30 0 0 14 (nI (10 * (b f - 48) + (b (f + 1) - 48)))) 30 0 0 11 : Int32) = nI (f + 1) from ((xup_slot (by decide)).trans j11)]
                                  refine w_iconst (v := 1) dX11_takes_209 (by decide) ?_
                                  refine w_iadd dX11_takes_210 ?_
                                  rw [show ((nI (f + 1)) + (1) : Int32) = nI ((f + 1) + 1) from ar_add (p := f + 1) (q := 1) rfl rfl (by omega)]
                                  refine w_putI ff_X11_82 rfl rfl rfl rfl dX11_takes_211 ?_
                                  refine w_goto (tgt := 140) dX11_takes_214 (by decide) ?_
                                  refine l_dig hk (n - (f + 2)) (f + 2) _ (by omega) (Nat.le_refl _) (ht2.fr ((FrN.rf.up (by decide)).up (by decide))) xup_self ((xup_slot (by decide)).trans ((xup_slot (by decide)).trans j12)) ((xup_slot (by decide)).trans xup_self) (fun I3 f3 e11 e14 => ?_)
                                  rw [show bhd n b 48 57 (f + 2) = d from hd2.symm] at e11
                                  obtain ⟨g1, g2, -⟩ := bhd_le (n := n) (b := b) (lo := 48) (hi := 57) (n - (f + 2)) (f + 2) (by omega)
                                  rw [show bhd n b 48 57 (f + 2) = d from hd2.symm] at g1 g2
                                  have i12 : I3 30 0 0 12 = nI f := (f3 30 0 0 12 (by omega)).trans ((xup_slot (by decide)).trans ((xup_slot (by decide)).trans j12))
                                  have i13 : I3 30 0 0 13 = 2 := (f3 30 0 0 13 (by omega)).trans ((xup_slot (by decide)).trans ((xup_slot (by decide)).trans j13))
                                  have i15 : I3 30 0 0 15 = 0 := (f3 30 0 0 15 (by omega)).trans ((xup_slot (by decide)).trans ((xup_slot (by decide)).trans j15))
                                  refine w_aload_n dX11_takes_217 rfl ?_
                                  refine w_aload_n dX11_takes_218 rfl ?_
                                  refine w_getI ff_X11_82 rfl rfl dX11_takes_219 ?_
                                  rw [show (I3 30 0 0 11 : Int32) = nI d from e11]
                                  refine w_aload_n dX11_takes_222 rfl ?_
                                  refine w_getI ff_X11_76 rfl rfl dX11_takes_223 ?_
                                  rw [show (I3 30 0 0 12 : Int32) = nI f from i12]
                                  refine w_isub dX11_takes_226 ?_
                                  refine w_iconst (v := 2) dX11_takes_227 (by decide) ?_
                                  refine w_icmp_gt (tgt := 235) dX11_takes_228 (by decide) (fun h14 => ?_) (fun h14 => ?_)
                                  · skip
                                    replace h14 : 2 < ((d : Nat) : Int) - ((f : Nat) : Int) := (zlt (by decide) (z_sub (a := d) (b := f) (by omega) (by omega))).mp h14
                                    first
                                    | (exfalso; omega)
                                    | skip
                                      refine w_iconst (v := 0) dX11_takes_235 (by decide) ?_
                                      refine w_iconst (v := 1) dX11_takes_236 (by decide) ?_
                                      refine w_callV (as := [vI (0), vI (1)]) (st := []) (Tri.mono (d_needL (I := I3) i15 i12 (1)) (Nat.le_of_ble_eq_true rfl)) rfl rfl tg_X11_needs lk_X11_115 in_X11_needs se_X11_needs rfl dX11_takes_237 rfl (Nat.le_of_ble_eq_true rfl) (Nat.le_refl _) (Nat.le_refl _) ?_
                                      rintro _ _ ⟨rfl, rfl⟩ -
                                      refine w_goto (tgt := 274) dX11_takes_240 (by decide) ?_
                                      rw [show lexT n b nx = _ from lex_2b hf hfn (by omega) hd (by omega)]
                                      exact w_return dX11_takes_274 rfl rfl (⟨rfl, _, rfl, ⟨(((xup_slot (by decide)).trans xup_self).trans (by rfl)), (xup_self.trans (by rfl))⟩, ((f1.n.tr (f2.tr (((FrN.rf.up (by decide)).up (by decide)).tr f3.n))).tr ((FrN.rf.up (by decide)).up (by decide)))⟩)
                                  · skip
                                    replace h14 : ¬ (2 < ((d : Nat) : Int) - ((f : Nat) : Int)) := fun q => h14 ((zlt (by decide) (z_sub (a := d) (b := f) (by omega) (by omega))).mpr q)
                                    first
                                    | (exfalso; omega)
                                    | skip
                                      refine w_iconst (v := 1) dX11_takes_231 (by decide) ?_
                                      refine w_goto (tgt := 236) dX11_takes_232 (by decide) ?_
                                      refine w_iconst (v := 1) dX11_takes_236 (by decide) ?_
                                      refine w_callV (as := [vI (1), vI (1)]) (st := []) (Tri.mono (d_need1 (I := I3) (1)) (Nat.le_of_ble_eq_true rfl)) rfl rfl tg_X11_needs lk_X11_115 in_X11_needs se_X11_needs rfl dX11_takes_237 rfl (Nat.le_of_ble_eq_true rfl) (Nat.le_refl _) (Nat.le_refl _) ?_
                                      rintro _ _ ⟨rfl, rfl⟩ -
                                      refine w_goto (tgt := 274) dX11_takes_240 (by decide) ?_
                                      rw [show lexT n b nx = _ from lex_2 hf hfn (by omega) hd (by omega)]
                                      exact w_return dX11_takes_274 rfl rfl (⟨rfl, _, rfl, ⟨(i15.trans (by rfl)), (i13.trans (by rfl)), (i12.trans (by rfl)), (e11.trans (by rfl)), fun _ => (e14.trans (congrArg nI (if_neg (by omega) : vlT b f d = 10 * (b f - 48) + (b (f + 1) - 48)).symm))⟩, ((f1.n.tr (f2.tr (((FrN.rf.up (by decide)).up (by decide)).tr f3.n))).tr FrN.rf)⟩)
                              · skip
                                replace h12 : ¬ (2 ≤ ((f + 1 : Nat) : Int) - ((f : Nat) : Int)) := fun q => h12 ((zle (by decide) (z_sub (a := f + 1) (b := f) (by omega) (by omega))).mpr q)
                                first
                                | (exfalso; omega)
                                | skip
                                  refine w_bipush (v := 10) dX11_takes_175 (by decide) ?_
                                  refine w_aload_n dX11_takes_177 rfl ?_
                                  refine w_getI ff_X11_112 rfl rfl dX11_takes_178 ?_
                                  rw [show (I2 30 0 0 14 : Int32) = nI (b f - 48) from j14]
                                  refine w_imul dX11_takes_181 ?_
                                  rw [show ((10) * (nI (b f - 48)) : Int32) = nI (10 * (b f - 48)) from ar_mul (p := 10) (q := b f - 48) rfl rfl (by first | rfl | omega)]
                                  refine w_aload_n dX11_takes_182 rfl ?_
                                  refine w_aload_n dX11_takes_183 rfl ?_
                                  refine w_getI ff_X11_82 rfl rfl dX11_takes_184 ?_
                                  rw [show (I2 30 0 0 11 : Int32) = nI (f + 1) from j11]
                                  refine w_callV (as := [vI (nI (f + 1))]) (st := [vI (nI (10 * (b f - 48))), vR 30 0 0]) (Tri.mono (d_byteAt hk (ht2.fr FrN.rf) (i := f + 1) h1n) (Nat.le_of_ble_eq_true rfl)) rfl rfl tg_X11_byteAt lk_X11_85 in_X11_byteAt se_X11_byteAt rfl dX11_takes_187 rfl (Nat.le_of_ble_eq_true rfl) (Nat.le_refl _) (Nat.le_refl _) ?_
                                  rintro _ _ ⟨rfl, rfl⟩ -
                                  refine w_iadd dX11_takes_190 ?_
                                  rw [show ((nI (10 * (b f - 48))) + (nI (b (f + 1))) : Int32) = nI ((10 * (b f - 48)) + (b (f + 1))) from ar_add (p := 10 * (b f - 48)) (q := b (f + 1)) rfl rfl (by omega)]
                                  refine w_bipush (v := 48) dX11_takes_191 (by decide) ?_
                                  refine w_isub dX11_takes_193 ?_
                                  refine w_goto (tgt := 201) dX11_takes_194 (by decide) ?_
                                  have q2 : 48 ≤ b (f + 1) ∧ b (f + 1) ≤ 57 := by omega
                                  have hd2 := bhd_go (n := n) (b := b) (lo := 48) (hi := 57) (i := f + 1) ⟨h1n, q2⟩
                                  rw [← hdf] at hd2
                                  refine w_top (y := nI (10 * (b f - 48) + (b (f + 1) - 48))) (show ((nI ((10 * (b f - 48)) + (b (f + 1)))) - (48) : Int32) = nI (10 * (b f - 48) + (b (f + 1) - 48)) from vm_2 q2.1) ?_
                                  refine w_putI ff_X11_112 rfl rfl rfl rfl dX11_takes_201 ?_
                                  refine w_aload_n dX11_takes_204 rfl ?_
                                  refine w_dup dX11_takes_205 rfl ?_
                                  refine w_getI ff_X11_82 rfl rfl dX11_takes_206 ?_
                                  rw [show ((xup I2 30 0 0 14 (nI (10 * (b f - 48) + (b (f + 1) - 48)))) 30 0 0 11 : Int32) = nI (f + 1) from ((xup_slot (by decide)).trans j11)]
                                  refine w_iconst (v := 1) dX11_takes_209 (by decide) ?_
                                  refine w_iadd dX11_takes_210 ?_
                                  rw [show ((nI (f + 1)) + (1) : Int32) = nI ((f + 1) + 1) from ar_add (p := f + 1) (q := 1) rfl rfl (by omega)]
                                  refine w_putI ff_X11_82 rfl rfl rfl rfl dX11_takes_211 ?_
                                  refine w_goto (tgt := 140) dX11_takes_214 (by decide) ?_
                                  refine l_dig hk (n - (f + 2)) (f + 2) _ (by omega) (Nat.le_refl _) (ht2.fr ((FrN.rf.up (by decide)).up (by decide))) xup_self ((xup_slot (by decide)).trans ((xup_slot (by decide)).trans j12)) ((xup_slot (by decide)).trans xup_self) (fun I3 f3 e11 e14 => ?_)
                                  rw [show bhd n b 48 57 (f + 2) = d from hd2.symm] at e11
                                  obtain ⟨g1, g2, -⟩ := bhd_le (n := n) (b := b) (lo := 48) (hi := 57) (n - (f + 2)) (f + 2) (by omega)
                                  rw [show bhd n b 48 57 (f + 2) = d from hd2.symm] at g1 g2
                                  have i12 : I3 30 0 0 12 = nI f := (f3 30 0 0 12 (by omega)).trans ((xup_slot (by decide)).trans ((xup_slot (by decide)).trans j12))
                                  have i13 : I3 30 0 0 13 = 2 := (f3 30 0 0 13 (by omega)).trans ((xup_slot (by decide)).trans ((xup_slot (by decide)).trans j13))
                                  have i15 : I3 30 0 0 15 = 0 := (f3 30 0 0 15 (by omega)).trans ((xup_slot (by decide)).trans ((xup_slot (by decide)).trans j15))
                                  refine w_aload_n dX11_takes_217 rfl ?_
                                  refine w_aload_n dX11_takes_218 rfl ?_
                                  refine w_getI ff_X11_82 rfl rfl dX11_takes_219 ?_
                                  rw [show (I3 30 0 0 11 : Int32) = nI d from e11]
                                  refine w_aload_n dX11_takes_222 rfl ?_
                                  refine w_getI ff_X11_76 rfl rfl dX11_takes_223 ?_
                                  rw [show (I3 30 0 0 12 : Int32) = nI f from i12]
                                  refine w_isub dX11_takes_226 ?_
                                  refine w_iconst (v := 2) dX11_takes_227 (by decide) ?_
                                  refine w_icmp_gt (tgt := 235) dX11_takes_228 (by decide) (fun h14 => ?_) (fun h14 => ?_)
                                  · skip
                                    replace h14 : 2 < ((d : Nat) : Int) - ((f : Nat) : Int) := (zlt (by decide) (z_sub (a := d) (b := f) (by omega) (by omega))).mp h14
                                    first
                                    | (exfalso; omega)
                                    | skip
                                      refine w_iconst (v := 0) dX11_takes_235 (by decide) ?_
                                      refine w_iconst (v := 1) dX11_takes_236 (by decide) ?_
                                      refine w_callV (as := [vI (0), vI (1)]) (st := []) (Tri.mono (d_needL (I := I3) i15 i12 (1)) (Nat.le_of_ble_eq_true rfl)) rfl rfl tg_X11_needs lk_X11_115 in_X11_needs se_X11_needs rfl dX11_takes_237 rfl (Nat.le_of_ble_eq_true rfl) (Nat.le_refl _) (Nat.le_refl _) ?_
                                      rintro _ _ ⟨rfl, rfl⟩ -
                                      refine w_goto (tgt := 274) dX11_takes_240 (by decide) ?_
                                      rw [show lexT n b nx = _ from lex_2b hf hfn (by omega) hd (by omega)]
                                      exact w_return dX11_takes_274 rfl rfl (⟨rfl, _, rfl, ⟨(((xup_slot (by decide)).trans xup_self).trans (by rfl)), (xup_self.trans (by rfl))⟩, ((f1.n.tr (f2.tr (((FrN.rf.up (by decide)).up (by decide)).tr f3.n))).tr ((FrN.rf.up (by decide)).up (by decide)))⟩)
                                  · skip
                                    replace h14 : ¬ (2 < ((d : Nat) : Int) - ((f : Nat) : Int)) := fun q => h14 ((zlt (by decide) (z_sub (a := d) (b := f) (by omega) (by omega))).mpr q)
                                    first
                                    | (exfalso; omega)
                                    | skip
                                      refine w_iconst (v := 1) dX11_takes_231 (by decide) ?_
                                      refine w_goto (tgt := 236) dX11_takes_232 (by decide) ?_
                                      refine w_iconst (v := 1) dX11_takes_236 (by decide) ?_
                                      refine w_callV (as := [vI (1), vI (1)]) (st := []) (Tri.mono (d_need1 (I := I3) (1)) (Nat.le_of_ble_eq_true rfl)) rfl rfl tg_X11_needs lk_X11_115 in_X11_needs se_X11_needs rfl dX11_takes_237 rfl (Nat.le_of_ble_eq_true rfl) (Nat.le_refl _) (Nat.le_refl _) ?_
                                      rintro _ _ ⟨rfl, rfl⟩ -
                                      refine w_goto (tgt := 274) dX11_takes_240 (by decide) ?_
                                      rw [show lexT n b nx = _ from lex_2 hf hfn (by omega) hd (by omega)]
                                      exact w_return dX11_takes_274 rfl rfl (⟨rfl, _, rfl, ⟨(i15.trans (by rfl)), (i13.trans (by rfl)), (i12.trans (by rfl)), (e11.trans (by rfl)), fun _ => (e14.trans (congrArg nI (if_neg (by omega) : vlT b f d = 10 * (b f - 48) + (b (f + 1) - 48)).symm))⟩, ((f1.n.tr (f2.tr (((FrN.rf.up (by decide)).up (by decide)).tr f3.n))).tr FrN.rf)⟩)
                        · skip
                          refine w_aload_n dX11_takes_140 rfl ?_
                          refine w_aload_n dX11_takes_141 rfl ?_
                          refine w_getI ff_X11_82 rfl rfl dX11_takes_142 ?_
                          rw [show (I2 30 0 0 11 : Int32) = nI (f + 1) from j11]
                          refine w_callV (as := [vI (nI (f + 1))]) (st := []) (Tri.mono (d_byteAtO hk (ht2.fr FrN.rf) (i := f + 1) (by omega) (by omega)) (Nat.le_of_ble_eq_true rfl)) rfl rfl tg_X11_byteAt lk_X11_85 in_X11_byteAt se_X11_byteAt rfl dX11_takes_145 rfl (Nat.le_of_ble_eq_true rfl) (Nat.le_refl _) (Nat.le_refl _) ?_
                          rintro _ _ ⟨rfl, rfl⟩ -
                          refine w_i2l dX11_takes_148 ?_
                          refine w_ldc2 dX11_takes_149 cq_X11_108 ?_
                          refine w_ldc2 dX11_takes_152 cq_X11_110 ?_
                          refine w_callS (as := [vL (((-1) : Int32).toInt64), vL (48), vL (57)]) (st := []) (Tri.mono (d_in (((-1) : Int32).toInt64) (48) (57)) (Nat.le_of_ble_eq_true rfl)) tg_X11_in lk_X11_66 sa_X11_in rfl dX11_takes_155 rfl (Nat.le_of_ble_eq_true rfl) (Nat.le_refl _) (Nat.le_refl _) ?_
                          rintro _ _ ⟨rfl, rfl⟩ -
                          refine w_top (y := 0) (show (bI ((48 : Int64) ≤ (((-1) : Int32).toInt64) ∧ (((-1) : Int32).toInt64) ≤ (57 : Int64)) : Int32) = 0 from bI_f (by decide)) ?_
                          refine w_if_eq (tgt := 217) dX11_takes_158 (by decide) (fun _ => ?_) (fun h => absurd (by decide) h)
                          have hd1 : d = f + 1 := by rw [hdf]; exact bhd_no (by omega)
                          rw [← hd1] at j11
                          refine w_aload_n dX11_takes_217 rfl ?_
                          refine w_aload_n dX11_takes_218 rfl ?_
                          refine w_getI ff_X11_82 rfl rfl dX11_takes_219 ?_
                          rw [show (I2 30 0 0 11 : Int32) = nI d from j11]
                          refine w_aload_n dX11_takes_222 rfl ?_
                          refine w_getI ff_X11_76 rfl rfl dX11_takes_223 ?_
                          rw [show (I2 30 0 0 12 : Int32) = nI f from j12]
                          refine w_isub dX11_takes_226 ?_
                          refine w_iconst (v := 2) dX11_takes_227 (by decide) ?_
                          refine w_icmp_gt (tgt := 235) dX11_takes_228 (by decide) (fun h14 => ?_) (fun h14 => ?_)
                          · skip
                            replace h14 : 2 < ((d : Nat) : Int) - ((f : Nat) : Int) := (zlt (by decide) (z_sub (a := d) (b := f) (by omega) (by omega))).mp h14
                            first
                            | (exfalso; omega)
                            | skip
                              refine w_iconst (v := 0) dX11_takes_235 (by decide) ?_
                              refine w_iconst (v := 1) dX11_takes_236 (by decide) ?_
                              refine w_callV (as := [vI (0), vI (1)]) (st := []) (Tri.mono (d_needL (I := I2) j15 j12 (1)) (Nat.le_of_ble_eq_true rfl)) rfl rfl tg_X11_needs lk_X11_115 in_X11_needs se_X11_needs rfl dX11_takes_237 rfl (Nat.le_of_ble_eq_true rfl) (Nat.le_refl _) (Nat.le_refl _) ?_
                              rintro _ _ ⟨rfl, rfl⟩ -
                              refine w_goto (tgt := 274) dX11_takes_240 (by decide) ?_
                              rw [show lexT n b nx = _ from lex_2b hf hfn (by omega) hd (by omega)]
                              exact w_return dX11_takes_274 rfl rfl (⟨rfl, _, rfl, ⟨(((xup_slot (by decide)).trans xup_self).trans (by rfl)), (xup_self.trans (by rfl))⟩, ((f1.n.tr f2).tr ((FrN.rf.up (by decide)).up (by decide)))⟩)
                          · skip
                            replace h14 : ¬ (2 < ((d : Nat) : Int) - ((f : Nat) : Int)) := fun q => h14 ((zlt (by decide) (z_sub (a := d) (b := f) (by omega) (by omega))).mpr q)
                            first
                            | (exfalso; omega)
                            | skip
                              refine w_iconst (v := 1) dX11_takes_231 (by decide) ?_
                              refine w_goto (tgt := 236) dX11_takes_232 (by decide) ?_
                              refine w_iconst (v := 1) dX11_takes_236 (by decide) ?_
                              refine w_callV (as := [vI (1), vI (1)]) (st := []) (Tri.mono (d_need1 (I := I2) (1)) (Nat.le_of_ble_eq_true rfl)) rfl rfl tg_X11_needs lk_X11_115 in_X11_needs se_X11_needs rfl dX11_takes_237 rfl (Nat.le_of_ble_eq_true rfl) (Nat.le_refl _) (Nat.le_refl _) ?_
                              rintro _ _ ⟨rfl, rfl⟩ -
                              refine w_goto (tgt := 274) dX11_takes_240 (by decide) ?_
                              rw [show lexT n b nx = _ from lex_2 hf hfn (by omega) hd (by omega)]
                              exact w_return dX11_takes_274 rfl rfl (⟨rfl, _, rfl, ⟨(j15.trans (by rfl)), (j13.trans (by rfl)), (j12.trans (by rfl)), (j11.trans (by rfl)), fun _ => (j14.trans (congrArg nI (if_pos hd1 : vlT b f d = b f - 48).symm))⟩, ((f1.n.tr f2).tr FrN.rf)⟩)
                    · skip
                      replace h9 : ¬ (2 ≤ ((f : Nat) : Int) - ((f : Nat) : Int)) := fun q => h9 ((zle (by decide) (z_sub (a := f) (b := f) (by omega) (by omega))).mpr q)
                      first
                      | (exfalso; omega)
                      | skip
                        refine w_bipush (v := 10) dX11_takes_175 (by decide) ?_
                        refine w_aload_n dX11_takes_177 rfl ?_
                        refine w_getI ff_X11_112 rfl rfl dX11_takes_178 ?_
                        rw [show ((xup (xup (xup I1 30 0 0 12 (nI f)) 30 0 0 13 (2)) 30 0 0 14 (0)) 30 0 0 14 : Int32) = 0 from xup_self]
                        refine w_imul dX11_takes_181 ?_
                        rw [show ((10) * (0) : Int32) = nI (0) from ar_mul (p := 10) (q := 0) rfl rfl (by first | rfl | omega)]
                        refine w_aload_n dX11_takes_182 rfl ?_
                        refine w_aload_n dX11_takes_183 rfl ?_
                        refine w_getI ff_X11_82 rfl rfl dX11_takes_184 ?_
                        rw [show ((xup (xup (xup I1 30 0 0 12 (nI f)) 30 0 0 13 (2)) 30 0 0 14 (0)) 30 0 0 11 : Int32) = nI f from ((xup_slot (by decide)).trans ((xup_slot (by decide)).trans ((xup_slot (by decide)).trans e1)))]
                        refine w_callV (as := [vI (nI f)]) (st := [vI (nI (0)), vR 30 0 0]) (Tri.mono (d_byteAt hk (ht1.fr (((FrN.rf.up (by decide)).up (by decide)).up (by decide))) hfn) (Nat.le_of_ble_eq_true rfl)) rfl rfl tg_X11_byteAt lk_X11_85 in_X11_byteAt se_X11_byteAt rfl dX11_takes_187 rfl (Nat.le_of_ble_eq_true rfl) (Nat.le_refl _) (Nat.le_refl _) ?_
                        rintro _ _ ⟨rfl, rfl⟩ -
                        refine w_iadd dX11_takes_190 ?_
                        rw [show ((nI (0)) + (nI (b f)) : Int32) = nI (b f) from ar_add (p := 0) (q := b f) rfl rfl (by omega)]
                        refine w_bipush (v := 48) dX11_takes_191 (by decide) ?_
                        refine w_isub dX11_takes_193 ?_
                        refine w_goto (tgt := 201) dX11_takes_194 (by decide) ?_
                        refine w_top (y := nI (b f - 48)) (show ((nI (b f)) - (48) : Int32) = nI (b f - 48) from vm_1 q1.1) ?_
                        refine w_putI ff_X11_112 rfl rfl rfl rfl dX11_takes_201 ?_
                        refine w_aload_n dX11_takes_204 rfl ?_
                        refine w_dup dX11_takes_205 rfl ?_
                        refine w_getI ff_X11_82 rfl rfl dX11_takes_206 ?_
                        rw [show ((xup (xup (xup (xup I1 30 0 0 12 (nI f)) 30 0 0 13 (2)) 30 0 0 14 (0)) 30 0 0 14 (nI (b f - 48))) 30 0 0 11 : Int32) = nI f from ((xup_slot (by decide)).trans ((xup_slot (by decide)).trans ((xup_slot (by decide)).trans ((xup_slot (by decide)).trans e1))))]
                        refine w_iconst (v := 1) dX11_takes_209 (by decide) ?_
                        refine w_iadd dX11_takes_210 ?_
                        rw [show ((nI f) + (1) : Int32) = nI (f + 1) from ar_add (p := f) (q := 1) rfl rfl (by omega)]
                        refine w_putI ff_X11_82 rfl rfl rfl rfl dX11_takes_211 ?_
                        refine w_goto (tgt := 140) dX11_takes_214 (by decide) ?_
                        obtain ⟨I2, hI2⟩ : ∃ z, z = xup (xup (xup (xup (xup I1 30 0 0 12 (nI f)) 30 0 0 13 (2)) 30 0 0 14 (0)) 30 0 0 14 (nI (b f - 48))) 30 0 0 11 (nI (f + 1)) := ⟨_, rfl⟩
                        rw [← hI2]
                        have j11 : I2 30 0 0 11 = (nI (f + 1)) := by rw [hI2]; exact xup_self
                        have j12 : I2 30 0 0 12 = (nI f) := by rw [hI2]; exact ((xup_slot (by decide)).trans ((xup_slot (by decide)).trans ((xup_slot (by decide)).trans ((xup_slot (by decide)).trans xup_self))))
                        have j13 : I2 30 0 0 13 = (2) := by rw [hI2]; exact ((xup_slot (by decide)).trans ((xup_slot (by decide)).trans ((xup_slot (by decide)).trans xup_self)))
                        have j14 : I2 30 0 0 14 = (nI (b f - 48)) := by rw [hI2]; exact ((xup_slot (by decide)).trans xup_self)
                        have j15 : I2 30 0 0 15 = 0 := by rw [hI2]; exact ((xup_slot (by decide)).trans ((xup_slot (by decide)).trans ((xup_slot (by decide)).trans ((xup_slot (by decide)).trans ((xup_slot (by decide)).trans d15)))))
                        have f2 : FrN I1 I2 := by rw [hI2]; exact (((((FrN.rf.up (by decide)).up (by decide)).up (by decide)).up (by decide)).up (by decide))
                        have ht2 := ht1.fr f2
                        rcases Nat.lt_or_ge (f + 1) n with h1n | h1n
                        · skip
                          have k4 := k2 (f + 1) h1n
                          refine w_aload_n dX11_takes_140 rfl ?_
                          refine w_aload_n dX11_takes_141 rfl ?_
                          refine w_getI ff_X11_82 rfl rfl dX11_takes_142 ?_
                          rw [show (I2 30 0 0 11 : Int32) = nI (f + 1) from j11]
                          refine w_callV (as := [vI (nI (f + 1))]) (st := []) (Tri.mono (d_byteAt hk (ht2.fr FrN.rf) (i := f + 1) h1n) (Nat.le_of_ble_eq_true rfl)) rfl rfl tg_X11_byteAt lk_X11_85 in_X11_byteAt se_X11_byteAt rfl dX11_takes_145 rfl (Nat.le_of_ble_eq_true rfl) (Nat.le_refl _) (Nat.le_refl _) ?_
                          rintro _ _ ⟨rfl, rfl⟩ -
                          refine w_i2l dX11_takes_148 ?_
                          refine w_ldc2 dX11_takes_149 cq_X11_108 ?_
                          refine w_ldc2 dX11_takes_152 cq_X11_110 ?_
                          refine w_callS (as := [vL ((nI (b (f + 1)) : Int32).toInt64), vL (48), vL (57)]) (st := []) (Tri.mono (d_in ((nI (b (f + 1)) : Int32).toInt64) (48) (57)) (Nat.le_of_ble_eq_true rfl)) tg_X11_in lk_X11_66 sa_X11_in rfl dX11_takes_155 rfl (Nat.le_of_ble_eq_true rfl) (Nat.le_refl _) (Nat.le_refl _) ?_
                          rintro _ _ ⟨rfl, rfl⟩ -
                          refine w_top (y := bI (48 ≤ ((b (f + 1) : Nat) : Int) ∧ ((b (f + 1) : Nat) : Int) ≤ 57)) (show (bI ((48 : Int64) ≤ ((nI (b (f + 1)) : Int32).toInt64) ∧ ((nI (b (f + 1)) : Int32).toInt64) ≤ (57 : Int64)) : Int32) = bI (48 ≤ ((b (f + 1) : Nat) : Int) ∧ ((b (f + 1) : Nat) : Int) ≤ 57) from inZ (x := nI (b (f + 1))) (l := 48) (h := 57) (X := ((b (f + 1) : Nat) : Int)) (A := 48) (B := 57) rfl (by decide) (by decide) (z_nI (by omega)) (by decide) (by decide)) ?_
                          refine w_ifeq_b (tgt := 217) dX11_takes_158 (by decide) (fun h11 => ?_) (fun h11 => ?_)
                          · skip
                            first
                            | (exfalso; omega)
                            | skip
                              have hd1 : d = f + 1 := by rw [hdf]; exact bhd_no (by omega)
                              rw [← hd1] at j11
                              refine w_aload_n dX11_takes_217 rfl ?_
                              refine w_aload_n dX11_takes_218 rfl ?_
                              refine w_getI ff_X11_82 rfl rfl dX11_takes_219 ?_
                              rw [show (I2 30 0 0 11 : Int32) = nI d from j11]
                              refine w_aload_n dX11_takes_222 rfl ?_
                              refine w_getI ff_X11_76 rfl rfl dX11_takes_223 ?_
                              rw [show (I2 30 0 0 12 : Int32) = nI f from j12]
                              refine w_isub dX11_takes_226 ?_
                              refine w_iconst (v := 2) dX11_takes_227 (by decide) ?_
                              refine w_icmp_gt (tgt := 235) dX11_takes_228 (by decide) (fun h14 => ?_) (fun h14 => ?_)
                              · skip
                                replace h14 : 2 < ((d : Nat) : Int) - ((f : Nat) : Int) := (zlt (by decide) (z_sub (a := d) (b := f) (by omega) (by omega))).mp h14
                                first
                                | (exfalso; omega)
                                | skip
                                  refine w_iconst (v := 0) dX11_takes_235 (by decide) ?_
                                  refine w_iconst (v := 1) dX11_takes_236 (by decide) ?_
                                  refine w_callV (as := [vI (0), vI (1)]) (st := []) (Tri.mono (d_needL (I := I2) j15 j12 (1)) (Nat.le_of_ble_eq_true rfl)) rfl rfl tg_X11_needs lk_X11_115 in_X11_needs se_X11_needs rfl dX11_takes_237 rfl (Nat.le_of_ble_eq_true rfl) (Nat.le_refl _) (Nat.le_refl _) ?_
                                  rintro _ _ ⟨rfl, rfl⟩ -
                                  refine w_goto (tgt := 274) dX11_takes_240 (by decide) ?_
                                  rw [show lexT n b nx = _ from lex_2b hf hfn (by omega) hd (by omega)]
                                  exact w_return dX11_takes_274 rfl rfl (⟨rfl, _, rfl, ⟨(((xup_slot (by decide)).trans xup_self).trans (by rfl)), (xup_self.trans (by rfl))⟩, ((f1.n.tr f2).tr ((FrN.rf.up (by decide)).up (by decide)))⟩)
                              · skip
                                replace h14 : ¬ (2 < ((d : Nat) : Int) - ((f : Nat) : Int)) := fun q => h14 ((zlt (by decide) (z_sub (a := d) (b := f) (by omega) (by omega))).mpr q)
                                first
                                | (exfalso; omega)
                                | skip
                                  refine w_iconst (v := 1) dX11_takes_231 (by decide) ?_
                                  refine w_goto (tgt := 236) dX11_takes_232 (by decide) ?_
                                  refine w_iconst (v := 1) dX11_takes_236 (by decide) ?_
                                  refine w_callV (as := [vI (1), vI (1)]) (st := []) (Tri.mono (d_need1 (I := I2) (1)) (Nat.le_of_ble_eq_true rfl)) rfl rfl tg_X11_needs lk_X11_115 in_X11_needs se_X11_needs rfl dX11_takes_237 rfl (Nat.le_of_ble_eq_true rfl) (Nat.le_refl _) (Nat.le_refl _) ?_
                                  rintro _ _ ⟨rfl, rfl⟩ -
                                  refine w_goto (tgt := 274) dX11_takes_240 (by decide) ?_
                                  rw [show lexT n b nx = _ from lex_2 hf hfn (by omega) hd (by omega)]
                                  exact w_return dX11_takes_274 rfl rfl (⟨rfl, _, rfl, ⟨(j15.trans (by rfl)), (j13.trans (by rfl)), (j12.trans (by rfl)), (j11.trans (by rfl)), fun _ => (j14.trans (congrArg nI (if_pos hd1 : vlT b f d = b f - 48).symm))⟩, ((f1.n.tr f2).tr FrN.rf)⟩)
                          · skip
                            first
                            | (exfalso; omega)
                            | skip
                              refine w_aload_n dX11_takes_161 rfl ?_
                              refine w_aload_n dX11_takes_162 rfl ?_
                              refine w_getI ff_X11_82 rfl rfl dX11_takes_163 ?_
                              rw [show (I2 30 0 0 11 : Int32) = nI (f + 1) from j11]
                              refine w_aload_n dX11_takes_166 rfl ?_
                              refine w_getI ff_X11_76 rfl rfl dX11_takes_167 ?_
                              rw [show (I2 30 0 0 12 : Int32) = nI f from j12]
                              refine w_isub dX11_takes_170 ?_
                              refine w_iconst (v := 2) dX11_takes_171 (by decide) ?_
                              refine w_icmp_ge (tgt := 197) dX11_takes_172 (by decide) (fun h12 => ?_) (fun h12 => ?_)
                              · skip
                                replace h12 : 2 ≤ ((f + 1 : Nat) : Int) - ((f : Nat) : Int) := (zle (by decide) (z_sub (a := f + 1) (b := f) (by omega) (by omega))).mp h12
                                first
                                | (exfalso; omega)
                                | skip
                                  refine w_aload_n dX11_takes_197 rfl ?_
                                  refine w_getI ff_X11_112 rfl rfl dX11_takes_198 ?_
                                  rw [show (I2 30 0 0 14 : Int32) = nI (b f - 48) from j14]
                                  have q2 : 48 ≤ b (f + 1) ∧ b (f + 1) ≤ 57 := by omega
                                  have hd2 := bhd_go (n := n) (b := b) (lo := 48) (hi := 57) (i := f + 1) ⟨h1n, q2⟩
                                  rw [← hdf] at hd2
                                  refine w_top (y := nI (10 * (b f - 48) + (b (f + 1) - 48))) (show (nI (b f - 48) : Int32) = nI (10 * (b f - 48) + (b (f + 1) - 48)) from vm_2 q2.1) ?_
                                  refine w_putI ff_X11_112 rfl rfl rfl rfl dX11_takes_201 ?_
                                  refine w_aload_n dX11_takes_204 rfl ?_
                                  refine w_dup dX11_takes_205 rfl ?_
                                  refine w_getI ff_X11_82 rfl rfl dX11_takes_206 ?_
                                  rw [show ((xup I2 30 0 0 14 (nI (10 * (b f - 48) + (b (f + 1) - 48)))) 30 0 0 11 : Int32) = nI (f + 1) from ((xup_slot (by decide)).trans j11)]
                                  refine w_iconst (v := 1) dX11_takes_209 (by decide) ?_
                                  refine w_iadd dX11_takes_210 ?_
                                  rw [show ((nI (f + 1)) + (1) : Int32) = nI ((f + 1) + 1) from ar_add (p := f + 1) (q := 1) rfl rfl (by omega)]
                                  refine w_putI ff_X11_82 rfl rfl rfl rfl dX11_takes_211 ?_
                                  refine w_goto (tgt := 140) dX11_takes_214 (by decide) ?_
                                  refine l_dig hk (n - (f + 2)) (f + 2) _ (by omega) (Nat.le_refl _) (ht2.fr ((FrN.rf.up (by decide)).up (by decide))) xup_self ((xup_slot (by decide)).trans ((xup_slot (by decide)).trans j12)) ((xup_slot (by decide)).trans xup_self) (fun I3 f3 e11 e14 => ?_)
                                  rw [show bhd n b 48 57 (f + 2) = d from hd2.symm] at e11
                                  obtain ⟨g1, g2, -⟩ := bhd_le (n := n) (b := b) (lo := 48) (hi := 57) (n - (f + 2)) (f + 2) (by omega)
                                  rw [show bhd n b 48 57 (f + 2) = d from hd2.symm] at g1 g2
                                  have i12 : I3 30 0 0 12 = nI f := (f3 30 0 0 12 (by omega)).trans ((xup_slot (by decide)).trans ((xup_slot (by decide)).trans j12))
                                  have i13 : I3 30 0 0 13 = 2 := (f3 30 0 0 13 (by omega)).trans ((xup_slot (by decide)).trans ((xup_slot (by decide)).trans j13))
                                  have i15 : I3 30 0 0 15 = 0 := (f3 30 0 0 15 (by omega)).trans ((xup_slot (by decide)).trans ((xup_slot (by decide)).trans j15))
                                  refine w_aload_n dX11_takes_217 rfl ?_
                                  refine w_aload_n dX11_takes_218 rfl ?_
                                  refine w_getI ff_X11_82 rfl rfl dX11_takes_219 ?_
                                  rw [show (I3 30 0 0 11 : Int32) = nI d from e11]
                                  refine w_aload_n dX11_takes_222 rfl ?_
                                  refine w_getI ff_X11_76 rfl rfl dX11_takes_223 ?_
                                  rw [show (I3 30 0 0 12 : Int32) = nI f from i12]
                                  refine w_isub dX11_takes_226 ?_
                                  refine w_iconst (v := 2) dX11_takes_227 (by decide) ?_
                                  refine w_icmp_gt (tgt := 235) dX11_takes_228 (by decide) (fun h14 => ?_) (fun h14 => ?_)
                                  · skip
                                    replace h14 : 2 < ((d : Nat) : Int) - ((f : Nat) : Int) := (zlt (by decide) (z_sub (a := d) (b := f) (by omega) (by omega))).mp h14
                                    first
                                    | (exfalso; omega)
                                    | skip
                                      refine w_iconst (v := 0) dX11_takes_235 (by decide) ?_
                                      refine w_iconst (v := 1) dX11_takes_236 (by decide) ?_
                                      refine w_callV (as := [vI (0), vI (1)]) (st := []) (Tri.mono (d_needL (I := I3) i15 i12 (1)) (Nat.le_of_ble_eq_true rfl)) rfl rfl tg_X11_needs lk_X11_115 in_X11_needs se_X11_needs rfl dX11_takes_237 rfl (Nat.le_of_ble_eq_true rfl) (Nat.le_refl _) (Nat.le_refl _) ?_
                                      rintro _ _ ⟨rfl, rfl⟩ -
                                      refine w_goto (tgt := 274) dX11_takes_240 (by decide) ?_
                                      rw [show lexT n b nx = _ from lex_2b hf hfn (by omega) hd (by omega)]
                                      exact w_return dX11_takes_274 rfl rfl (⟨rfl, _, rfl, ⟨(((xup_slot (by decide)).trans xup_self).trans (by rfl)), (xup_self.trans (by rfl))⟩, ((f1.n.tr (f2.tr (((FrN.rf.up (by decide)).up (by decide)).tr f3.n))).tr ((FrN.rf.up (by decide)).up (by decide)))⟩)
                                  · skip
                                    replace h14 : ¬ (2 < ((d : Nat) : Int) - ((f : Nat) : Int)) := fun q => h14 ((zlt (by decide) (z_sub (a := d) (b := f) (by omega) (by omega))).mpr q)
                                    first
                                    | (exfalso; omega)
                                    | skip
                                      refine w_iconst (v := 1) dX11_takes_231 (by decide) ?_
                                      refine w_goto (tgt := 236) dX11_takes_232 (by decide) ?_
                                      refine w_iconst (v := 1) dX11_takes_236 (by decide) ?_
                                      refine w_callV (as := [vI (1), vI (1)]) (st := []) (Tri.mono (d_need1 (I := I3) (1)) (Nat.le_of_ble_eq_true rfl)) rfl rfl tg_X11_needs lk_X11_115 in_X11_needs se_X11_needs rfl dX11_takes_237 rfl (Nat.le_of_ble_eq_true rfl) (Nat.le_refl _) (Nat.le_refl _) ?_
                                      rintro _ _ ⟨rfl, rfl⟩ -
                                      refine w_goto (tgt := 274) dX11_takes_240 (by decide) ?_
                                      rw [show lexT n b nx = _ from lex_2 hf hfn (by omega) hd (by omega)]
                                      exact w_return dX11_takes_274 rfl rfl (⟨rfl, _, rfl, ⟨(i15.trans (by rfl)), (i13.trans (by rfl)), (i12.trans (by rfl)), (e11.trans (by rfl)), fun _ => (e14.trans (congrArg nI (if_neg (by omega) : vlT b f d = 10 * (b f - 48) + (b (f + 1) - 48)).symm))⟩, ((f1.n.tr (f2.tr (((FrN.rf.up (by decide)).up (by decide)).tr f3.n))).tr FrN.rf)⟩)
                              · skip
                                replace h12 : ¬ (2 ≤ ((f + 1 : Nat) : Int) - ((f : Nat) : Int)) := fun q => h12 ((zle (by decide) (z_sub (a := f + 1) (b := f) (by omega) (by omega))).mpr q)
                                first
                                | (exfalso; omega)
                                | skip
                                  refine w_bipush (v := 10) dX11_takes_175 (by decide) ?_
                                  refine w_aload_n dX11_takes_177 rfl ?_
                                  refine w_getI ff_X11_112 rfl rfl dX11_takes_178 ?_
                                  rw [show (I2 30 0 0 14 : Int32) = nI (b f - 48) from j14]
                                  refine w_imul dX11_takes_181 ?_
                                  rw [show ((10) * (nI (b f - 48)) : Int32) = nI (10 * (b f - 48)) from ar_mul (p := 10) (q := b f - 48) rfl rfl (by first | rfl | omega)]
                                  refine w_aload_n dX11_takes_182 rfl ?_
                                  refine w_aload_n dX11_takes_183 rfl ?_
                                  refine w_getI ff_X11_82 rfl rfl dX11_takes_184 ?_
                                  rw [show (I2 30 0 0 11 : Int32) = nI (f + 1) from j11]
                                  refine w_callV (as := [vI (nI (f + 1))]) (st := [vI (nI (10 * (b f - 48))), vR 30 0 0]) (Tri.mono (d_byteAt hk (ht2.fr FrN.rf) (i := f + 1) h1n) (Nat.le_of_ble_eq_true rfl)) rfl rfl tg_X11_byteAt lk_X11_85 in_X11_byteAt se_X11_byteAt rfl dX11_takes_187 rfl (Nat.le_of_ble_eq_true rfl) (Nat.le_refl _) (Nat.le_refl _) ?_
                                  rintro _ _ ⟨rfl, rfl⟩ -
                                  refine w_iadd dX11_takes_190 ?_
                                  rw [show ((nI (10 * (b f - 48))) + (nI (b (f + 1))) : Int32) = nI ((10 * (b f - 48)) + (b (f + 1))) from ar_add (p := 10 * (b f - 48)) (q := b (f + 1)) rfl rfl (by omega)]
                                  refine w_bipush (v := 48) dX11_takes_191 (by decide) ?_
                                  refine w_isub dX11_takes_193 ?_
                                  refine w_goto (tgt := 201) dX11_takes_194 (by decide) ?_
                                  have q2 : 48 ≤ b (f + 1) ∧ b (f + 1) ≤ 57 := by omega
                                  have hd2 := bhd_go (n := n) (b := b) (lo := 48) (hi := 57) (i := f + 1) ⟨h1n, q2⟩
                                  rw [← hdf] at hd2
                                  refine w_top (y := nI (10 * (b f - 48) + (b (f + 1) - 48))) (show ((nI ((10 * (b f - 48)) + (b (f + 1)))) - (48) : Int32) = nI (10 * (b f - 48) + (b (f + 1) - 48)) from vm_2 q2.1) ?_
                                  refine w_putI ff_X11_112 rfl rfl rfl rfl dX11_takes_201 ?_
                                  refine w_aload_n dX11_takes_204 rfl ?_
                                  refine w_dup dX11_takes_205 rfl ?_
                                  refine w_getI ff_X11_82 rfl rfl dX11_takes_206 ?_
                                  rw [show ((xup I2 30 0 0 14 (nI (10 * (b f - 48) + (b (f + 1) - 48)))) 30 0 0 11 : Int32) = nI (f + 1) from ((xup_slot (by decide)).trans j11)]
                                  refine w_iconst (v := 1) dX11_takes_209 (by decide) ?_
                                  refine w_iadd dX11_takes_210 ?_
                                  rw [show ((nI (f + 1)) + (1) : Int32) = nI ((f + 1) + 1) from ar_add (p := f + 1) (q := 1) rfl rfl (by omega)]
                                  refine w_putI ff_X11_82 rfl rfl rfl rfl dX11_takes_211 ?_
                                  refine w_goto (tgt := 140) dX11_takes_214 (by decide) ?_
                                  refine l_dig hk (n - (f + 2)) (f + 2) _ (by omega) (Nat.le_refl _) (ht2.fr ((FrN.rf.up (by decide)).up (by decide))) xup_self ((xup_slot (by decide)).trans ((xup_slot (by decide)).trans j12)) ((xup_slot (by decide)).trans xup_self) (fun I3 f3 e11 e14 => ?_)
                                  rw [show bhd n b 48 57 (f + 2) = d from hd2.symm] at e11
                                  obtain ⟨g1, g2, -⟩ := bhd_le (n := n) (b := b) (lo := 48) (hi := 57) (n - (f + 2)) (f + 2) (by omega)
                                  rw [show bhd n b 48 57 (f + 2) = d from hd2.symm] at g1 g2
                                  have i12 : I3 30 0 0 12 = nI f := (f3 30 0 0 12 (by omega)).trans ((xup_slot (by decide)).trans ((xup_slot (by decide)).trans j12))
                                  have i13 : I3 30 0 0 13 = 2 := (f3 30 0 0 13 (by omega)).trans ((xup_slot (by decide)).trans ((xup_slot (by decide)).trans j13))
                                  have i15 : I3 30 0 0 15 = 0 := (f3 30 0 0 15 (by omega)).trans ((xup_slot (by decide)).trans ((xup_slot (by decide)).trans j15))
                                  refine w_aload_n dX11_takes_217 rfl ?_
                                  refine w_aload_n dX11_takes_218 rfl ?_
                                  refine w_getI ff_X11_82 rfl rfl dX11_takes_219 ?_
                                  rw [show (I3 30 0 0 11 : Int32) = nI d from e11]
                                  refine w_aload_n dX11_takes_222 rfl ?_
                                  refine w_getI ff_X11_76 rfl rfl dX11_takes_223 ?_
                                  rw [show (I3 30 0 0 12 : Int32) = nI f from i12]
                                  refine w_isub dX11_takes_226 ?_
                                  refine w_iconst (v := 2) dX11_takes_227 (by decide) ?_
                                  refine w_icmp_gt (tgt := 235) dX11_takes_228 (by decide) (fun h14 => ?_) (fun h14 => ?_)
                                  · skip
                                    replace h14 : 2 < ((d : Nat) : Int) - ((f : Nat) : Int) := (zlt (by decide) (z_sub (a := d) (b := f) (by omega) (by omega))).mp h14
                                    first
                                    | (exfalso; omega)
                                    | skip
                                      refine w_iconst (v := 0) dX11_takes_235 (by decide) ?_
                                      refine w_iconst (v := 1) dX11_takes_236 (by decide) ?_
                                      refine w_callV (as := [vI (0), vI (1)]) (st := []) (Tri.mono (d_needL (I := I3) i15 i12 (1)) (Nat.le_of_ble_eq_true rfl)) rfl rfl tg_X11_needs lk_X11_115 in_X11_needs se_X11_needs rfl dX11_takes_237 rfl (Nat.le_of_ble_eq_true rfl) (Nat.le_refl _) (Nat.le_refl _) ?_
                                      rintro _ _ ⟨rfl, rfl⟩ -
                                      refine w_goto (tgt := 274) dX11_takes_240 (by decide) ?_
                                      rw [show lexT n b nx = _ from lex_2b hf hfn (by omega) hd (by omega)]
                                      exact w_return dX11_takes_274 rfl rfl (⟨rfl, _, rfl, ⟨(((xup_slot (by decide)).trans xup_self).trans (by rfl)), (xup_self.trans (by rfl))⟩, ((f1.n.tr (f2.tr (((FrN.rf.up (by decide)).up (by decide)).tr f3.n))).tr ((FrN.rf.up (by decide)).up (by decide)))⟩)
                                  · skip
                                    replace h14 : ¬ (2 < ((d : Nat) : Int) - ((f : Nat) : Int)) := fun q => h14 ((zlt (by decide) (z_sub (a := d) (b := f) (by omega) (by omega))).mpr q)
                                    first
                                    | (exfalso; omega)
                                    | skip
                                      refine w_iconst (v := 1) dX11_takes_231 (by decide) ?_
                                      refine w_goto (tgt := 236) dX11_takes_232 (by decide) ?_
                                      refine w_iconst (v := 1) dX11_takes_236 (by decide) ?_
                                      refine w_callV (as := [vI (1), vI (1)]) (st := []) (Tri.mono (d_need1 (I := I3) (1)) (Nat.le_of_ble_eq_true rfl)) rfl rfl tg_X11_needs lk_X11_115 in_X11_needs se_X11_needs rfl dX11_takes_237 rfl (Nat.le_of_ble_eq_true rfl) (Nat.le_refl _) (Nat.le_refl _) ?_
                                      rintro _ _ ⟨rfl, rfl⟩ -
                                      refine w_goto (tgt := 274) dX11_takes_240 (by decide) ?_
                                      rw [show lexT n b nx = _ from lex_2 hf hfn (by omega) hd (by omega)]
                                      exact w_return dX11_takes_274 rfl rfl (⟨rfl, _, rfl, ⟨(i15.trans (by rfl)), (i13.trans (by rfl)), (i12.trans (by rfl)), (e11.trans (by rfl)), fun _ => (e14.trans (congrArg nI (if_neg (by omega) : vlT b f d = 10 * (b f - 48) + (b (f + 1) - 48)).symm))⟩, ((f1.n.tr (f2.tr (((FrN.rf.up (by decide)).up (by decide)).tr f3.n))).tr FrN.rf)⟩)
                        · skip
                          refine w_aload_n dX11_takes_140 rfl ?_
                          refine w_aload_n dX11_takes_141 rfl ?_
                          refine w_getI ff_X11_82 rfl rfl dX11_takes_142 ?_
                          rw [show (I2 30 0 0 11 : Int32) = nI (f + 1) from j11]
                          refine w_callV (as := [vI (nI (f + 1))]) (st := []) (Tri.mono (d_byteAtO hk (ht2.fr FrN.rf) (i := f + 1) (by omega) (by omega)) (Nat.le_of_ble_eq_true rfl)) rfl rfl tg_X11_byteAt lk_X11_85 in_X11_byteAt se_X11_byteAt rfl dX11_takes_145 rfl (Nat.le_of_ble_eq_true rfl) (Nat.le_refl _) (Nat.le_refl _) ?_
                          rintro _ _ ⟨rfl, rfl⟩ -
                          refine w_i2l dX11_takes_148 ?_
                          refine w_ldc2 dX11_takes_149 cq_X11_108 ?_
                          refine w_ldc2 dX11_takes_152 cq_X11_110 ?_
                          refine w_callS (as := [vL (((-1) : Int32).toInt64), vL (48), vL (57)]) (st := []) (Tri.mono (d_in (((-1) : Int32).toInt64) (48) (57)) (Nat.le_of_ble_eq_true rfl)) tg_X11_in lk_X11_66 sa_X11_in rfl dX11_takes_155 rfl (Nat.le_of_ble_eq_true rfl) (Nat.le_refl _) (Nat.le_refl _) ?_
                          rintro _ _ ⟨rfl, rfl⟩ -
                          refine w_top (y := 0) (show (bI ((48 : Int64) ≤ (((-1) : Int32).toInt64) ∧ (((-1) : Int32).toInt64) ≤ (57 : Int64)) : Int32) = 0 from bI_f (by decide)) ?_
                          refine w_if_eq (tgt := 217) dX11_takes_158 (by decide) (fun _ => ?_) (fun h => absurd (by decide) h)
                          have hd1 : d = f + 1 := by rw [hdf]; exact bhd_no (by omega)
                          rw [← hd1] at j11
                          refine w_aload_n dX11_takes_217 rfl ?_
                          refine w_aload_n dX11_takes_218 rfl ?_
                          refine w_getI ff_X11_82 rfl rfl dX11_takes_219 ?_
                          rw [show (I2 30 0 0 11 : Int32) = nI d from j11]
                          refine w_aload_n dX11_takes_222 rfl ?_
                          refine w_getI ff_X11_76 rfl rfl dX11_takes_223 ?_
                          rw [show (I2 30 0 0 12 : Int32) = nI f from j12]
                          refine w_isub dX11_takes_226 ?_
                          refine w_iconst (v := 2) dX11_takes_227 (by decide) ?_
                          refine w_icmp_gt (tgt := 235) dX11_takes_228 (by decide) (fun h14 => ?_) (fun h14 => ?_)
                          · skip
                            replace h14 : 2 < ((d : Nat) : Int) - ((f : Nat) : Int) := (zlt (by decide) (z_sub (a := d) (b := f) (by omega) (by omega))).mp h14
                            first
                            | (exfalso; omega)
                            | skip
                              refine w_iconst (v := 0) dX11_takes_235 (by decide) ?_
                              refine w_iconst (v := 1) dX11_takes_236 (by decide) ?_
                              refine w_callV (as := [vI (0), vI (1)]) (st := []) (Tri.mono (d_needL (I := I2) j15 j12 (1)) (Nat.le_of_ble_eq_true rfl)) rfl rfl tg_X11_needs lk_X11_115 in_X11_needs se_X11_needs rfl dX11_takes_237 rfl (Nat.le_of_ble_eq_true rfl) (Nat.le_refl _) (Nat.le_refl _) ?_
                              rintro _ _ ⟨rfl, rfl⟩ -
                              refine w_goto (tgt := 274) dX11_takes_240 (by decide) ?_
                              rw [show lexT n b nx = _ from lex_2b hf hfn (by omega) hd (by omega)]
                              exact w_return dX11_takes_274 rfl rfl (⟨rfl, _, rfl, ⟨(((xup_slot (by decide)).trans xup_self).trans (by rfl)), (xup_self.trans (by rfl))⟩, ((f1.n.tr f2).tr ((FrN.rf.up (by decide)).up (by decide)))⟩)
                          · skip
                            replace h14 : ¬ (2 < ((d : Nat) : Int) - ((f : Nat) : Int)) := fun q => h14 ((zlt (by decide) (z_sub (a := d) (b := f) (by omega) (by omega))).mpr q)
                            first
                            | (exfalso; omega)
                            | skip
                              refine w_iconst (v := 1) dX11_takes_231 (by decide) ?_
                              refine w_goto (tgt := 236) dX11_takes_232 (by decide) ?_
                              refine w_iconst (v := 1) dX11_takes_236 (by decide) ?_
                              refine w_callV (as := [vI (1), vI (1)]) (st := []) (Tri.mono (d_need1 (I := I2) (1)) (Nat.le_of_ble_eq_true rfl)) rfl rfl tg_X11_needs lk_X11_115 in_X11_needs se_X11_needs rfl dX11_takes_237 rfl (Nat.le_of_ble_eq_true rfl) (Nat.le_refl _) (Nat.le_refl _) ?_
                              rintro _ _ ⟨rfl, rfl⟩ -
                              refine w_goto (tgt := 274) dX11_takes_240 (by decide) ?_
                              rw [show lexT n b nx = _ from lex_2 hf hfn (by omega) hd (by omega)]
                              exact w_return dX11_takes_274 rfl rfl (⟨rfl, _, rfl, ⟨(j15.trans (by rfl)), (j13.trans (by rfl)), (j12.trans (by rfl)), (j11.trans (by rfl)), fun _ => (j14.trans (congrArg nI (if_pos hd1 : vlT b f d = b f - 48).symm))⟩, ((f1.n.tr f2).tr FrN.rf)⟩)
        · skip
          first
          | (exfalso; omega)
          | skip
            refine w_aload_n dX11_takes_77 rfl ?_
            refine w_iconst (v := 1) dX11_takes_78 (by decide) ?_
            refine w_putI ff_X11_101 rfl rfl rfl rfl dX11_takes_79 ?_
            refine l_name hk (n - f) f _ (by omega) (ht1.fr ((FrN.rf.up (by decide)).up (by decide))) ((xup_slot (by decide)).trans ((xup_slot (by decide)).trans e1)) (fun I2 f2 e2 => ?_)
            rw [← he] at e2
            rw [show lexT n b nx = _ from lex_1 hf hfn (by omega) he]
            exact w_return dX11_takes_274 rfl rfl (⟨rfl, _, rfl, ⟨((f2 30 0 0 15 (by omega)).trans (((xup_slot (by decide)).trans ((xup_slot (by decide)).trans d15)).trans (by rfl))), ((f2 30 0 0 13 (by omega)).trans (xup_self.trans (by rfl))), ((f2 30 0 0 12 (by omega)).trans (((xup_slot (by decide)).trans xup_self).trans (by rfl))), e2, fun h => by cases h⟩, (f1.n.tr (((FrN.rf.up (by decide)).up (by decide)).tr f2.n))⟩)
    · skip
      replace h1 : ¬ (0 ≤ ((b f : Nat) : Int)) := fun q => h1 ((zle (by decide) (z_nI (by omega))).mpr q)
      first
      | (exfalso; omega)
      | skip
        refine w_aload_n dX11_takes_55 rfl ?_
        refine w_iconst (v := 0) dX11_takes_56 (by decide) ?_
        refine w_putI ff_X11_101 rfl rfl rfl rfl dX11_takes_57 ?_
        refine w_goto (tgt := 274) dX11_takes_60 (by decide) ?_
        rw [show lexT n b nx = _ from lex_0 hf (by omega)]
        exact w_return dX11_takes_274 rfl rfl (⟨rfl, _, rfl, ⟨(((xup_slot (by decide)).trans ((xup_slot (by decide)).trans d15)).trans (by rfl)), (xup_self.trans (by rfl)), (((xup_slot (by decide)).trans xup_self).trans (by rfl)), (((xup_slot (by decide)).trans ((xup_slot (by decide)).trans e1)).trans (by rfl)), fun h => by cases h⟩, (f1.n.tr ((FrN.rf.up (by decide)).up (by decide)))⟩)
  · skip
    refine w_aload_n dX11_takes_34 rfl ?_
    refine w_aload_n dX11_takes_35 rfl ?_
    refine w_getI ff_X11_82 rfl rfl dX11_takes_36 ?_
    rw [show (I1 30 0 0 11 : Int32) = nI f from e1]
    refine w_putI ff_X11_76 rfl rfl rfl rfl dX11_takes_39 ?_
    refine w_aload_n dX11_takes_42 rfl ?_
    refine w_aload_n dX11_takes_43 rfl ?_
    refine w_getI ff_X11_82 rfl rfl dX11_takes_44 ?_
    rw [show ((xup I1 30 0 0 12 (nI f)) 30 0 0 11 : Int32) = nI f from ((xup_slot (by decide)).trans e1)]
    refine w_callV (as := [vI (nI f)]) (st := []) (Tri.mono (d_byteAtO hk (ht1.fr (FrN.rf.up (by decide))) (i := f) (by omega) (by omega)) (Nat.le_of_ble_eq_true rfl)) rfl rfl tg_X11_byteAt lk_X11_85 in_X11_byteAt se_X11_byteAt rfl dX11_takes_47 rfl (Nat.le_of_ble_eq_true rfl) (Nat.le_refl _) (Nat.le_refl _) ?_
    rintro _ _ ⟨rfl, rfl⟩ -
    refine w_istore_n (ls' := [some (vR 30 0 0), some (vI ((-1)))]) dX11_takes_50 rfl ?_
    refine w_iload_n dX11_takes_51 rfl ?_
    refine w_if_ge (tgt := 63) dX11_takes_52 (by decide) (fun h => absurd h (by decide)) (fun _ => ?_)
    refine w_aload_n dX11_takes_55 rfl ?_
    refine w_iconst (v := 0) dX11_takes_56 (by decide) ?_
    refine w_putI ff_X11_101 rfl rfl rfl rfl dX11_takes_57 ?_
    refine w_goto (tgt := 274) dX11_takes_60 (by decide) ?_
    rw [show lexT n b nx = _ from lex_0 hf (by omega)]
    exact w_return dX11_takes_274 rfl rfl (⟨rfl, _, rfl, ⟨(((xup_slot (by decide)).trans ((xup_slot (by decide)).trans d15)).trans (by rfl)), (xup_self.trans (by rfl)), (((xup_slot (by decide)).trans xup_self).trans (by rfl)), (((xup_slot (by decide)).trans ((xup_slot (by decide)).trans e1)).trans (by rfl)), fun h => by cases h⟩, (f1.n.tr ((FrN.rf.up (by decide)).up (by decide)))⟩)

theorem d_take {I : xF4 Int32} {L : xF4 Int64} {n : Nat} {b : Nat → Nat} (hk : BK n b) (ht : TN I n b) {s : tS} (hok : OKT n s) (h : TM I s) : Tri 1 109 m_X11_takes [vR 30 0 0] (rM I L) (pM9 (tkT n b s) I L) := by
  rcases s with ⟨c, p⟩ | ⟨so, st, nx, v⟩
  · exact (d_takeD hk ht ⟨hok.1, hok.2.1⟩ h).mono (by decide)
  · exact d_takeL hk ht hok.2.2.1 ⟨h.1, h.2.2.2.1⟩
