/-! the reference's reader (by wip/whole/gen/g85.py) -/
def TM (I : xF4 Int32) : tS → Prop
  | .inl q => I 30 0 0 15 = nI q.1 ∧ I 30 0 0 16 = nI q.2
  | .inr q => I 30 0 0 15 = 0 ∧ I 30 0 0 13 = nI q.1 ∧ I 30 0 0 12 = nI q.2.1 ∧ I 30 0 0 11 = nI q.2.2.1 ∧ (q.1 = 2 → I 30 0 0 14 = nI q.2.2.2)
def TN (I : xF4 Int32) (n : Nat) (b : Nat → Nat) : Prop := I 30 0 0 10 = nI n ∧ ∀ i, i < n → I 35 0 0 i = nI (b i)
/-- only the reader's own numbers have changed; only the place -/
def FrN (I I' : xF4 Int32) : Prop := ∀ t k j s, ¬ (t = 30 ∧ 11 ≤ s ∧ s ≤ 16) → I' t k j s = I t k j s
def FrB (I I' : xF4 Int32) : Prop := ∀ t k j s, ¬ (t = 30 ∧ s = 11) → I' t k j s = I t k j s
theorem FrN.rf {I : xF4 Int32} : FrN I I := fun _ _ _ _ _ => rfl
theorem FrB.rf {I : xF4 Int32} : FrB I I := fun _ _ _ _ _ => rfl
theorem FrN.tr {I I1 I2 : xF4 Int32} (h1 : FrN I I1) (h2 : FrN I1 I2) : FrN I I2 := fun t b j s h => (h2 t b j s h).trans (h1 t b j s h)
theorem FrB.n {I I' : xF4 Int32} (h : FrB I I') : FrN I I' := fun t b j s q => h t b j s (fun z => q (by omega))
theorem FrN.up {I I1 : xF4 Int32} {s : Nat} {v : Int32} (h1 : FrN I I1) (h : 11 ≤ s ∧ s ≤ 16) : FrN I (xup I1 30 0 0 s v) := fun t b j s' hn => by
  unfold xup
  rw [if_neg (by rintro ⟨rfl, rfl, rfl, rfl⟩; exact hn ⟨rfl, h⟩)]
  exact h1 t b j s' hn
theorem FrB.up {I I1 : xF4 Int32} {v : Int32} (h1 : FrB I I1) : FrB I (xup I1 30 0 0 11 v) := fun t b j s' hn => by
  unfold xup
  rw [if_neg (by rintro ⟨rfl, rfl, rfl, rfl⟩; exact hn ⟨rfl, rfl⟩)]
  exact h1 t b j s' hn
theorem TN.fr {I I' : xF4 Int32} {n : Nat} {b : Nat → Nat} (h : TN I n b) (f : FrN I I') : TN I' n b := ⟨(f 30 0 0 10 (by omega)).trans h.1, fun i hi => (f 35 0 0 i (by omega)).trans (h.2 i hi)⟩
abbrev pM9 (s : tS) (I : xF4 Int32) (L : xF4 Int64) : Option xV → xM → Prop := fun v M => v = none ∧ ∃ I', M = rM I' L ∧ TM I' s ∧ FrN I I'

theorem d_byteAt {I : xF4 Int32} {L : xF4 Int64} {n : Nat} {b : Nat → Nat} (hk : BK n b) (ht : TN I n b) {i : Nat} (hi : i < n) : Tri 0 109 m_X11_byteAt [vR 30 0 0, vI (nI i)] (rM I L) (pI (nI (b i)) I L) := by
  refine ⟨k_X11_byteAt, Nat.le_of_ble_eq_true rfl, ?_⟩
  show Wp _ _ _ 0 [some (vR 30 0 0), some (vI (nI i))] [] (rM I L) _
  obtain ⟨k1, k2⟩ := id hk
  refine w_iload_n dX11_byteAt_0 rfl ?_
  refine w_aload_n dX11_byteAt_1 rfl ?_
  refine w_getI ff_X11_70 rfl rfl dX11_byteAt_2 ?_
  rw [show (I 30 0 0 10 : Int32) = nI n from ht.1]
  refine w_icmp_ge (tgt := 17) dX11_byteAt_5 (by decide) (fun h1 => ?_) (fun h1 => ?_)
  · skip
    replace h1 : ((n : Nat) : Int) ≤ ((i : Nat) : Int) := (zle (z_nI (by omega)) (z_nI (by omega))).mp h1
    first
    | (exfalso; omega)
    | skip
      exfalso
      omega
  · skip
    replace h1 : ¬ (((n : Nat) : Int) ≤ ((i : Nat) : Int)) := fun q => h1 ((zle (z_nI (by omega)) (z_nI (by omega))).mpr q)
    first
    | (exfalso; omega)
    | skip
      refine w_aload_n dX11_byteAt_8 rfl ?_
      refine w_getR (w := some (35, 0, 0)) ff_X11_23 rfl rfl dX11_byteAt_9 rfl ?_
      refine w_iload_n dX11_byteAt_12 rfl ?_
      refine w_iaload (a := i) rfl (vp_in_nI (n := i) (by omega) (by omega)) (nI_clamp (n := i) (by omega)) dX11_byteAt_13 ?_
      rw [show (I 35 0 0 (i) : Int32) = nI (b i) from ht.2 i hi]
      refine w_goto (tgt := 18) dX11_byteAt_14 (by decide) ?_
      exact w_ireturn dX11_byteAt_18 rfl (rfl) rfl (⟨rfl, rfl⟩)

theorem d_byteAtO {I : xF4 Int32} {L : xF4 Int64} {n : Nat} {b : Nat → Nat} (hk : BK n b) (ht : TN I n b) {i : Nat} (hi : ¬ i < n) (hi2 : i < 1000) : Tri 0 109 m_X11_byteAt [vR 30 0 0, vI (nI i)] (rM I L) (pI (-1) I L) := by
  refine ⟨k_X11_byteAt, Nat.le_of_ble_eq_true rfl, ?_⟩
  show Wp _ _ _ 0 [some (vR 30 0 0), some (vI (nI i))] [] (rM I L) _
  obtain ⟨k1, k2⟩ := id hk
  refine w_iload_n dX11_byteAt_0 rfl ?_
  refine w_aload_n dX11_byteAt_1 rfl ?_
  refine w_getI ff_X11_70 rfl rfl dX11_byteAt_2 ?_
  rw [show (I 30 0 0 10 : Int32) = nI n from ht.1]
  refine w_icmp_ge (tgt := 17) dX11_byteAt_5 (by decide) (fun h1 => ?_) (fun h1 => ?_)
  · skip
    replace h1 : ((n : Nat) : Int) ≤ ((i : Nat) : Int) := (zle (z_nI (by omega)) (z_nI (by omega))).mp h1
    first
    | (exfalso; omega)
    | skip
      refine w_iconst (v := (-1)) dX11_byteAt_17 (by decide) ?_
      exact w_ireturn dX11_byteAt_18 rfl (rfl) rfl (⟨rfl, rfl⟩)
  · skip
    replace h1 : ¬ (((n : Nat) : Int) ≤ ((i : Nat) : Int)) := fun q => h1 ((zle (z_nI (by omega)) (z_nI (by omega))).mpr q)
    first
    | (exfalso; omega)
    | skip
      exfalso
      omega

theorem d_need1 {I : xF4 Int32} {L : xF4 Int64} (c : Int32) : Tri 0 109 m_X11_needs [vR 30 0 0, vI (1), vI (c)] (rM I L) (pV I L) := by
  refine ⟨k_X11_needs, Nat.le_of_ble_eq_true rfl, ?_⟩
  show Wp _ _ _ 0 [some (vR 30 0 0), some (vI (1)), some (vI (c))] [] (rM I L) _
  refine w_iload_n dX11_needs_0 rfl ?_
  refine w_if_ne (tgt := 24) dX11_needs_1 (by decide) (fun _ => ?_) (fun h => absurd h ((by decide : ¬ (1 : Int32) = 0)))
  exact w_return dX11_needs_24 rfl rfl (⟨rfl, rfl⟩)

theorem d_needL {I : xF4 Int32} {L : xF4 Int64} {st9 : Int32} (h2 : I 30 0 0 15 = 0) (h5 : I 30 0 0 12 = st9) (c : Int32) : Tri 0 109 m_X11_needs [vR 30 0 0, vI (0), vI (c)] (rM I L) (pV (xup (xup I 30 0 0 15 c) 30 0 0 16 st9) L) := by
  refine ⟨k_X11_needs, Nat.le_of_ble_eq_true rfl, ?_⟩
  show Wp _ _ _ 0 [some (vR 30 0 0), some (vI (0)), some (vI (c))] [] (rM I L) _
  refine w_iload_n dX11_needs_0 rfl ?_
  refine w_if_ne (tgt := 24) dX11_needs_1 (by decide) (fun h => absurd (by decide) h) (fun _ => ?_)
  refine w_aload_n dX11_needs_4 rfl ?_
  refine w_getI ff_X11_73 rfl rfl dX11_needs_5 ?_
  rw [show (I 30 0 0 15 : Int32) = 0 from h2]
  refine w_if_ne (tgt := 24) dX11_needs_8 (by decide) (fun h => absurd (by decide) h) (fun _ => ?_)
  refine w_aload_n dX11_needs_11 rfl ?_
  refine w_iload_n dX11_needs_12 rfl ?_
  refine w_putI ff_X11_73 rfl rfl rfl rfl dX11_needs_13 ?_
  refine w_aload_n dX11_needs_16 rfl ?_
  refine w_aload_n dX11_needs_17 rfl ?_
  refine w_getI ff_X11_76 rfl rfl dX11_needs_18 ?_
  rw [show ((xup I 30 0 0 15 (c)) 30 0 0 12 : Int32) = st9 from ((xup_slot (by decide)).trans h5)]
  refine w_putI ff_X11_79 rfl rfl rfl rfl dX11_needs_21 ?_
  exact w_return dX11_needs_24 rfl rfl (⟨rfl, rfl⟩)

theorem d_needD {I : xF4 Int32} {L : xF4 Int64} {e : Nat} (he : 1 ≤ e ∧ e ≤ 5) (h2 : I 30 0 0 15 = nI e) (c : Int32) : Tri 0 109 m_X11_needs [vR 30 0 0, vI (0), vI (c)] (rM I L) (pV I L) := by
  refine ⟨k_X11_needs, Nat.le_of_ble_eq_true rfl, ?_⟩
  show Wp _ _ _ 0 [some (vR 30 0 0), some (vI (0)), some (vI (c))] [] (rM I L) _
  refine w_iload_n dX11_needs_0 rfl ?_
  refine w_if_ne (tgt := 24) dX11_needs_1 (by decide) (fun h => absurd (by decide) h) (fun _ => ?_)
  refine w_aload_n dX11_needs_4 rfl ?_
  refine w_getI ff_X11_73 rfl rfl dX11_needs_5 ?_
  rw [show (I 30 0 0 15 : Int32) = nI e from h2]
  refine w_if_ne (tgt := 24) dX11_needs_8 (by decide) (fun h1 => ?_) (fun h1 => ?_)
  · skip
    replace h1 : ¬ (((e : Nat) : Int) = 0) := fun q => h1 ((zeq (z_nI (by omega)) (by decide)).mpr q)
    first
    | (exfalso; omega)
    | skip
      exact w_return dX11_needs_24 rfl rfl (⟨rfl, rfl⟩)
  · skip
    replace h1 : ((e : Nat) : Int) = 0 := (zeq (z_nI (by omega)) (by decide)).mp h1
    first
    | (exfalso; omega)
    | skip
      exfalso
      omega

theorem d_need0 {I : xF4 Int32} {L : xF4 Int64} {n : Nat} {s : tS} (hok : OKT n s) (h : TM I s) {c : Nat} {c9 : Int32} (e : c9 = nI c) : Tri 0 109 m_X11_needs [vR 30 0 0, vI 0, vI (c9)] (rM I L) (pM9 (flT c s) I L) := by
  rcases s with ⟨c0, p⟩ | ⟨so, st, nx, v⟩
  · exact (d_needD ⟨hok.1, hok.2.1⟩ h.1 c9).imp (fun v M z => ⟨z.1, I, z.2, h, FrN.rf⟩)
  · exact (d_needL h.1 h.2.2.1 c9).imp (fun v M z => ⟨z.1, _, z.2, ⟨((xup_slot (by decide)).trans xup_self).trans e, xup_self⟩, ((FrN.rf.up (by decide)).up (by decide))⟩)
theorem d_need {I : xF4 Int32} {L : xF4 Int64} {n : Nat} {s : tS} (hok : OKT n s) (h : TM I s) {c : Nat} {c9 : Int32} (e : c9 = nI c) (P : Prop) [Decidable P] : Tri 0 109 m_X11_needs [vR 30 0 0, vI (bI P), vI (c9)] (rM I L) (pM9 (if P then s else flT c s) I L) := by
  by_cases p : P
  · rw [bI_t p, if_pos p]
    exact (d_need1 c9).imp (fun v M z => ⟨z.1, I, z.2, h, FrN.rf⟩)
  · rw [bI_f p, if_neg p]
    exact d_need0 hok h e

theorem l_space {L : xF4 Int64} {n : Nat} {b : Nat → Nat} (hk : BK n b) {o1 : Option xV} {Q : Option xV → xM → Prop} : ∀ (m p : Nat) (I : xF4 Int32), p + m = n → TN I n b → I 30 0 0 11 = nI p → (∀ I', FrB I I' → I' 30 0 0 11 = nI (bhd n b 32 32 p) → Wp 1 109 m_X11_takes 34 [some (vR 30 0 0), o1] [] (rM I' L) Q) → Wp 1 109 m_X11_takes 8 [some (vR 30 0 0), o1] [] (rM I L) Q := by
  obtain ⟨k1, k2⟩ := id hk
  intro m
  induction m with
  | zero =>
    intro p I hi ht hp kk
    refine w_aload_n dX11_takes_8 rfl ?_
    refine w_aload_n dX11_takes_9 rfl ?_
    refine w_getI ff_X11_82 rfl rfl dX11_takes_10 ?_
    rw [show (I 30 0 0 11 : Int32) = nI p from hp]
    refine w_callV (as := [vI (nI p)]) (st := []) (Tri.mono (d_byteAtO hk ht (i := p) (by omega) (by omega)) (Nat.le_of_ble_eq_true rfl)) rfl rfl tg_X11_byteAt lk_X11_85 in_X11_byteAt se_X11_byteAt rfl dX11_takes_13 rfl (Nat.le_of_ble_eq_true rfl) (Nat.le_refl _) (Nat.le_refl _) ?_
    rintro _ _ ⟨rfl, rfl⟩ -
    refine w_bipush (v := 32) dX11_takes_16 (by decide) ?_
    refine w_icmp_ne (tgt := 34) dX11_takes_18 (by decide) (fun _ => ?_) (fun h => absurd h (by decide))
    refine kk I FrB.rf ?_
    rw [bhd_no (by omega)]
    exact hp
  | succ m ih =>
    intro p I hi ht hp kk
    have hpn : p < n := by omega
    have h128 := k2 p hpn
    refine w_aload_n dX11_takes_8 rfl ?_
    refine w_aload_n dX11_takes_9 rfl ?_
    refine w_getI ff_X11_82 rfl rfl dX11_takes_10 ?_
    rw [show (I 30 0 0 11 : Int32) = nI p from hp]
    refine w_callV (as := [vI (nI p)]) (st := []) (Tri.mono (d_byteAt hk (ht.fr FrN.rf) (i := p) hpn) (Nat.le_of_ble_eq_true rfl)) rfl rfl tg_X11_byteAt lk_X11_85 in_X11_byteAt se_X11_byteAt rfl dX11_takes_13 rfl (Nat.le_of_ble_eq_true rfl) (Nat.le_refl _) (Nat.le_refl _) ?_
    rintro _ _ ⟨rfl, rfl⟩ -
    refine w_bipush (v := 32) dX11_takes_16 (by decide) ?_
    refine w_icmp_ne (tgt := 34) dX11_takes_18 (by decide) (fun h1 => ?_) (fun h1 => ?_)
    · skip
      replace h1 : ¬ (((b p : Nat) : Int) = 32) := fun q => h1 ((zeq (z_nI (by omega)) (by decide)).mpr q)
      first
      | (exfalso; omega)
      | skip
        refine kk I FrB.rf ?_
        rw [bhd_no (by omega)]
        exact hp
    · skip
      replace h1 : ((b p : Nat) : Int) = 32 := (zeq (z_nI (by omega)) (by decide)).mp h1
      first
      | (exfalso; omega)
      | skip
        refine w_aload_n dX11_takes_21 rfl ?_
        refine w_dup dX11_takes_22 rfl ?_
        refine w_getI ff_X11_82 rfl rfl dX11_takes_23 ?_
        rw [show (I 30 0 0 11 : Int32) = nI p from hp]
        refine w_iconst (v := 1) dX11_takes_26 (by decide) ?_
        refine w_iadd dX11_takes_27 ?_
        rw [show ((nI p) + (1) : Int32) = nI (p + 1) from ar_add (p := p) (q := 1) rfl rfl (by omega)]
        refine w_putI ff_X11_82 rfl rfl rfl rfl dX11_takes_28 ?_
        refine w_goto (tgt := 8) dX11_takes_31 (by decide) ?_
        refine ih (p + 1) _ (by omega) (ht.fr (FrN.rf.up (by decide))) xup_self (fun I' f' e' => kk I' (fun t k j s h => (f' t k j s h).trans (FrB.rf.up t k j s h)) ?_)
        rw [bhd_go (by omega)]
        exact e'

theorem l_name {L : xF4 Int64} {n : Nat} {b : Nat → Nat} (hk : BK n b) {o1 : Option xV} {Q : Option xV → xM → Prop} : ∀ (m p : Nat) (I : xF4 Int32), p + m = n → TN I n b → I 30 0 0 11 = nI p → (∀ I', FrB I I' → I' 30 0 0 11 = nI (bhd n b 97 122 p) → Wp 1 109 m_X11_takes 274 [some (vR 30 0 0), o1] [] (rM I' L) Q) → Wp 1 109 m_X11_takes 82 [some (vR 30 0 0), o1] [] (rM I L) Q := by
  obtain ⟨k1, k2⟩ := id hk
  intro m
  induction m with
  | zero =>
    intro p I hi ht hp kk
    refine w_aload_n dX11_takes_82 rfl ?_
    refine w_aload_n dX11_takes_83 rfl ?_
    refine w_getI ff_X11_82 rfl rfl dX11_takes_84 ?_
    rw [show (I 30 0 0 11 : Int32) = nI p from hp]
    refine w_callV (as := [vI (nI p)]) (st := []) (Tri.mono (d_byteAtO hk ht (i := p) (by omega) (by omega)) (Nat.le_of_ble_eq_true rfl)) rfl rfl tg_X11_byteAt lk_X11_85 in_X11_byteAt se_X11_byteAt rfl dX11_takes_87 rfl (Nat.le_of_ble_eq_true rfl) (Nat.le_refl _) (Nat.le_refl _) ?_
    rintro _ _ ⟨rfl, rfl⟩ -
    refine w_i2l dX11_takes_90 ?_
    refine w_ldc2 dX11_takes_91 cq_X11_104 ?_
    refine w_ldc2 dX11_takes_94 cq_X11_106 ?_
    refine w_callS (as := [vL (((-1) : Int32).toInt64), vL (97), vL (122)]) (st := []) (Tri.mono (d_in (((-1) : Int32).toInt64) (97) (122)) (Nat.le_of_ble_eq_true rfl)) tg_X11_in lk_X11_66 sa_X11_in rfl dX11_takes_97 rfl (Nat.le_of_ble_eq_true rfl) (Nat.le_refl _) (Nat.le_refl _) ?_
    rintro _ _ ⟨rfl, rfl⟩ -
    refine w_top (y := 0) (show (bI ((97 : Int64) ≤ (((-1) : Int32).toInt64) ∧ (((-1) : Int32).toInt64) ≤ (122 : Int64)) : Int32) = 0 from bI_f (by decide)) ?_
    refine w_if_eq (tgt := 274) dX11_takes_100 (by decide) (fun _ => ?_) (fun h => absurd (by decide) h)
    refine kk I FrB.rf ?_
    rw [bhd_no (by omega)]
    exact hp
  | succ m ih =>
    intro p I hi ht hp kk
    have hpn : p < n := by omega
    have h128 := k2 p hpn
    refine w_aload_n dX11_takes_82 rfl ?_
    refine w_aload_n dX11_takes_83 rfl ?_
    refine w_getI ff_X11_82 rfl rfl dX11_takes_84 ?_
    rw [show (I 30 0 0 11 : Int32) = nI p from hp]
    refine w_callV (as := [vI (nI p)]) (st := []) (Tri.mono (d_byteAt hk (ht.fr FrN.rf) (i := p) hpn) (Nat.le_of_ble_eq_true rfl)) rfl rfl tg_X11_byteAt lk_X11_85 in_X11_byteAt se_X11_byteAt rfl dX11_takes_87 rfl (Nat.le_of_ble_eq_true rfl) (Nat.le_refl _) (Nat.le_refl _) ?_
    rintro _ _ ⟨rfl, rfl⟩ -
    refine w_i2l dX11_takes_90 ?_
    refine w_ldc2 dX11_takes_91 cq_X11_104 ?_
    refine w_ldc2 dX11_takes_94 cq_X11_106 ?_
    refine w_callS (as := [vL ((nI (b p) : Int32).toInt64), vL (97), vL (122)]) (st := []) (Tri.mono (d_in ((nI (b p) : Int32).toInt64) (97) (122)) (Nat.le_of_ble_eq_true rfl)) tg_X11_in lk_X11_66 sa_X11_in rfl dX11_takes_97 rfl (Nat.le_of_ble_eq_true rfl) (Nat.le_refl _) (Nat.le_refl _) ?_
    rintro _ _ ⟨rfl, rfl⟩ -
    refine w_top (y := bI (97 ≤ ((b p : Nat) : Int) ∧ ((b p : Nat) : Int) ≤ 122)) (show (bI ((97 : Int64) ≤ ((nI (b p) : Int32).toInt64) ∧ ((nI (b p) : Int32).toInt64) ≤ (122 : Int64)) : Int32) = bI (97 ≤ ((b p : Nat) : Int) ∧ ((b p : Nat) : Int) ≤ 122) from inZ (x := nI (b p)) (l := 97) (h := 122) (X := ((b p : Nat) : Int)) (A := 97) (B := 122) rfl (by decide) (by decide) (z_nI (by omega)) (by decide) (by decide)) ?_
    refine w_ifeq_b (tgt := 274) dX11_takes_100 (by decide) (fun h1 => ?_) (fun h1 => ?_)
    · skip
      first
      | (exfalso; omega)
      | skip
        refine kk I FrB.rf ?_
        rw [bhd_no (by omega)]
        exact hp
    · skip
      first
      | (exfalso; omega)
      | skip
        refine w_aload_n dX11_takes_103 rfl ?_
        refine w_dup dX11_takes_104 rfl ?_
        refine w_getI ff_X11_82 rfl rfl dX11_takes_105 ?_
        rw [show (I 30 0 0 11 : Int32) = nI p from hp]
        refine w_iconst (v := 1) dX11_takes_108 (by decide) ?_
        refine w_iadd dX11_takes_109 ?_
        rw [show ((nI p) + (1) : Int32) = nI (p + 1) from ar_add (p := p) (q := 1) rfl rfl (by omega)]
        refine w_putI ff_X11_82 rfl rfl rfl rfl dX11_takes_110 ?_
        refine w_goto (tgt := 82) dX11_takes_113 (by decide) ?_
        refine ih (p + 1) _ (by omega) (ht.fr (FrN.rf.up (by decide))) xup_self (fun I' f' e' => kk I' (fun t k j s h => (f' t k j s h).trans (FrB.rf.up t k j s h)) ?_)
        rw [bhd_go (by omega)]
        exact e'
