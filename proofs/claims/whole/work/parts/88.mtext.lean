/-! the call of a text, by the reference (by wip/whole/gen/g89.py) -/

theorem d_line {I : xF4 Int32} {L : xF4 Int64} {n : Nat} {b : Nat → Nat} (hk : BK n b) (ht : TN I n b) {so st nx v : Nat} (hok : OKT n (.inr (so, (st, (nx, v))))) (h : TM I (.inr (so, (st, (nx, v))))) {a : aA} {t : Bool} (hd : DOK a) (hm : DM I a t) : Tri 6 109 m_X11_readLine [vR 30 0 0] (rM I L) (pLz (tkT n b (lnT n b (so, (st, (nx, v))) (a, t)).1) (lnT n b (so, (st, (nx, v))) (a, t)).2 I L) := by
  refine ⟨k_X11_readLine, Nat.le_of_ble_eq_true rfl, ?_⟩
  show Wp _ _ _ 0 [some (vR 30 0 0), none] [] (rM I L) _
  obtain ⟨g4, g5, g6, g7, g8, g9⟩ : so ≤ 3 ∧ st ≤ n ∧ nx ≤ n ∧ v ≤ 99 ∧ st ≤ nx ∧ (so = 0 ∨ (st < nx ∧ st < n)) := id hok
  refine w_aload_n dX11_readLine_0 rfl ?_
  refine w_getI ff_X11_101 rfl rfl dX11_readLine_1 ?_
  rw [show (I 30 0 0 13 : Int32) = nI so from h.2.1]
  refine w_iconst (v := 1) dX11_readLine_4 (by decide) ?_
  refine w_icmp_ne (tgt := 15) dX11_readLine_5 (by decide) (fun h1 => ?_) (fun h1 => ?_)
  · skip
    replace h1 : ¬ (((so : Nat) : Int) = 1) := fun q => h1 ((zeq (z_nI (by omega)) (by decide)).mpr q)
    first
    | (exfalso; omega)
    | skip
      refine w_bipush (v := (-4)) dX11_readLine_15 (by decide) ?_
      have hw9 : wrT b (so, (st, (nx, v))) = 9 := if_neg (by omega)
      refine w_istore_n (ls' := [some (vR 30 0 0), some (vI ((-4)))]) dX11_readLine_17 rfl ?_
      unfold lnT
      rw [hw9]
      exact l_rdN hk ht hok h hd hm
  · skip
    replace h1 : ((so : Nat) : Int) = 1 := (zeq (z_nI (by omega)) (by decide)).mp h1
    first
    | (exfalso; omega)
    | skip
      refine w_aload_n dX11_readLine_8 rfl ?_
      refine w_callV (as := []) (st := []) (Tri.mono (d_lineNow hk ht h.2.2.1 h.2.2.2.1 g8 g6) (Nat.le_of_ble_eq_true rfl)) rfl rfl tg_X11_lineNow lk_X11_130 in_X11_lineNow se_X11_lineNow rfl dX11_readLine_9 rfl (Nat.le_of_ble_eq_true rfl) (Nat.le_refl _) (Nat.le_refl _) ?_
      rintro _ _ ⟨rfl, rfl⟩ -
      refine w_goto (tgt := 17) dX11_readLine_12 (by decide) ?_
      have hw9 : wrT b (so, (st, (nx, v))) = wdT b st nx := if_pos (by omega)
      have wle := wd_le b st nx
      unfold lnT
      rw [hw9]
      obtain ⟨w, hw⟩ : ∃ w, w = wdT b st nx := ⟨_, rfl⟩
      rw [← hw] at wle ⊢
      rcases (show w < 4 ∨ (4 ≤ w ∧ w < 8) ∨ w = 8 ∨ w = 9 by omega) with w4 | ⟨w4, w8⟩ | rfl | rfl
      · skip
        rw [if_neg (show ¬ w = 9 by omega)]
        refine w_istore_n (ls' := [some (vR 30 0 0), some (vI (nI w))]) dX11_readLine_17 rfl ?_
        exact l_rdJ hk ht hok h hd hm w4
      · skip
        rw [if_neg (show ¬ w = 9 by omega)]
        refine w_istore_n (ls' := [some (vR 30 0 0), some (vI (nI w))]) dX11_readLine_17 rfl ?_
        exact l_rdS hk ht hok h hd hm w4 w8
      · skip
        rw [show (if 8 = 9 then (-4 : Int32) else nI 8) = 8 from rfl]
        refine w_istore_n (ls' := [some (vR 30 0 0), some (vI (8))]) dX11_readLine_17 rfl ?_
        exact l_rdC hk ht hok h hd hm
      · skip
        rw [show (if 9 = 9 then (-4 : Int32) else nI 9) = -4 from rfl]
        refine w_istore_n (ls' := [some (vR 30 0 0), some (vI ((-4)))]) dX11_readLine_17 rfl ?_
        exact l_rdN hk ht hok h hd hm

theorem l_fd1 {L : xF4 Int64} {I0 : xF4 Int32} {Q : Option xV → xM → Prop} (kk : ∀ I, (∀ y, y < 76 → I 34 0 0 y = 0) → (∀ t k j s, t ≠ 34 → I t k j s = I0 t k j s) → Wp 0 109 m_X11_firstDraft 21 [some (vR 30 0 0), some (vI (nI 76))] [] (rM I L) Q) : ∀ (m c : Nat) (I : xF4 Int32), c + m = 76 → (∀ y, y < c → I 34 0 0 y = 0) → (∀ t k j s, t ≠ 34 → I t k j s = I0 t k j s) → Wp 0 109 m_X11_firstDraft 2 [some (vR 30 0 0), some (vI (nI c))] [] (rM I L) Q := by
  intro m
  induction m with
  | zero =>
    intro c I hi hz hf
    have e : c = 76 := by omega
    subst e
    refine w_iload_n dX11_firstDraft_2 rfl ?_
    refine w_bipush (v := 76) dX11_firstDraft_3 (by decide) ?_
    refine w_icmp_ge (tgt := 21) dX11_firstDraft_5 (by decide) (fun _ => ?_) (fun h => absurd (by decide) h)
    exact kk I hz hf
  | succ m ih =>
    intro c I hi hz hf
    have hlt : c < 76 := by omega
    refine w_iload_n dX11_firstDraft_2 rfl ?_
    refine w_bipush (v := 76) dX11_firstDraft_3 (by decide) ?_
    refine w_icmp_ge (tgt := 21) dX11_firstDraft_5 (by decide) (fun h => absurd h (nI_ge (b := 76) hlt (by omega))) (fun _ => ?_)
    refine w_aload_n dX11_firstDraft_8 rfl ?_
    refine w_getR (w := some (34, 0, 0)) ff_X11_20 rfl rfl dX11_firstDraft_9 rfl ?_
    refine w_iload_n dX11_firstDraft_12 rfl ?_
    refine w_iconst (v := 0) dX11_firstDraft_13 (by decide) ?_
    refine w_iastore (a := c) rfl (vp_in_nI (n := c) (by omega) (by omega)) (nI_clamp (n := c) (by omega)) dX11_firstDraft_14 ?_
    refine w_iinc (v := nI (c + 1)) (ls' := [some (vR 30 0 0), some (vI (nI (c + 1)))]) dX11_firstDraft_15 rfl (nI_1 _) rfl ?_
    refine w_goto (tgt := 2) dX11_firstDraft_18 (by decide) ?_
    refine ih (c + 1) _ (by omega) (fun y hy => ?_) (fun t k j s h => (xup_tag h).trans (hf t k j s h))
    by_cases e : y = c
    · rw [e, xup_self]
    · rw [xup_slot e]; exact hz y (by omega)

theorem l_fd2 {L : xF4 Int64} {I0 : xF4 Int32} {Q : Option xV → xM → Prop} (kk : ∀ I, (∀ y, y < 5 → I 34 0 0 (20 + 7 * y + 5) = -4) → (∀ y, y < 76 → (∀ c, c < 5 → y ≠ 20 + 7 * c + 5) → I 34 0 0 y = 0) → (∀ t k j s, t ≠ 34 → I t k j s = I0 t k j s) → Wp 0 109 m_X11_firstDraft 50 [some (vR 30 0 0), some (vI (nI 5))] [] (rM I L) Q) : ∀ (m c : Nat) (I : xF4 Int32), c + m = 5 → (∀ y, y < c → I 34 0 0 (20 + 7 * y + 5) = -4) → (∀ y, y < 76 → (∀ c, c < 5 → y ≠ 20 + 7 * c + 5) → I 34 0 0 y = 0) → (∀ t k j s, t ≠ 34 → I t k j s = I0 t k j s) → Wp 0 109 m_X11_firstDraft 23 [some (vR 30 0 0), some (vI (nI c))] [] (rM I L) Q := by
  intro m
  induction m with
  | zero =>
    intro c I hi hb hz hf
    have e : c = 5 := by omega
    subst e
    refine w_iload_n dX11_firstDraft_23 rfl ?_
    refine w_iconst (v := 5) dX11_firstDraft_24 (by decide) ?_
    refine w_icmp_ge (tgt := 50) dX11_firstDraft_25 (by decide) (fun _ => ?_) (fun h => absurd (by decide) h)
    exact kk I hb hz hf
  | succ m ih =>
    intro c I hi hb hz hf
    have hlt : c < 5 := by omega
    refine w_iload_n dX11_firstDraft_23 rfl ?_
    refine w_iconst (v := 5) dX11_firstDraft_24 (by decide) ?_
    refine w_icmp_ge (tgt := 50) dX11_firstDraft_25 (by decide) (fun h => absurd h (nI_ge (b := 5) hlt (by omega))) (fun _ => ?_)
    refine w_aload_n dX11_firstDraft_28 rfl ?_
    refine w_getR (w := some (34, 0, 0)) ff_X11_20 rfl rfl dX11_firstDraft_29 rfl ?_
    refine w_bipush (v := 20) dX11_firstDraft_32 (by decide) ?_
    refine w_bipush (v := 7) dX11_firstDraft_34 (by decide) ?_
    refine w_iload_n dX11_firstDraft_36 rfl ?_
    refine w_imul dX11_firstDraft_37 ?_
    rw [show ((7) * (nI c) : Int32) = nI (7 * c) from ar_mul (p := 7) (q := c) rfl rfl (by first | rfl | omega)]
    refine w_iadd dX11_firstDraft_38 ?_
    rw [show ((20) + (nI (7 * c)) : Int32) = nI (20 + (7 * c)) from ar_add (p := 20) (q := 7 * c) rfl rfl (by omega)]
    refine w_iconst (v := 5) dX11_firstDraft_39 (by decide) ?_
    refine w_iadd dX11_firstDraft_40 ?_
    rw [show ((nI (20 + (7 * c))) + (5) : Int32) = nI ((20 + (7 * c)) + 5) from ar_add (p := 20 + (7 * c)) (q := 5) rfl rfl (by omega)]
    refine w_bipush (v := (-4)) dX11_firstDraft_41 (by decide) ?_
    refine w_iastore (a := (20 + (7 * c)) + 5) rfl (vp_in_nI (n := (20 + (7 * c)) + 5) (by omega) (by omega)) (nI_clamp (n := (20 + (7 * c)) + 5) (by omega)) dX11_firstDraft_43 ?_
    refine w_iinc (v := nI (c + 1)) (ls' := [some (vR 30 0 0), some (vI (nI (c + 1)))]) dX11_firstDraft_44 rfl (nI_1 _) rfl ?_
    refine w_goto (tgt := 23) dX11_firstDraft_47 (by decide) ?_
    refine ih (c + 1) _ (by omega) (fun y hy => ?_) (fun y hy hn => (xup_slot (by have := hn c (by omega); omega)).trans (hz y hy (fun c' hc' => hn c' hc'))) (fun t k j s h => (xup_tag h).trans (hf t k j s h))
    by_cases e : y = c
    · rw [e, show 20 + 7 * c + 5 = ((20 + (7 * c)) + 5) by omega, xup_self]
    · rw [xup_slot (by omega)]; exact hb y (by omega)

theorem d_first {I : xF4 Int32} {L : xF4 Int64} : Tri 0 109 m_X11_firstDraft [vR 30 0 0] (rM I L) (fun v M => v = none ∧ ∃ I', M = rM I' L ∧ DM I' draft0 false ∧ ∀ t k j s, t ≠ 34 → ¬ (t = 30 ∧ (s = 6 ∨ s = 7 ∨ s = 8)) → I' t k j s = I t k j s) := by
  refine ⟨k_X11_firstDraft, Nat.le_of_ble_eq_true rfl, ?_⟩
  show Wp _ _ _ 0 [some (vR 30 0 0), none] [] (rM I L) _
  refine w_iconst (v := 0) dX11_firstDraft_0 (by decide) ?_
  refine w_istore_n (ls' := [some (vR 30 0 0), some (vI (0))]) dX11_firstDraft_1 rfl ?_
  refine l_fd1 (I0 := I) (fun I1 hz1 hf1 => ?_) 76 0 I rfl (fun y hy => absurd hy (Nat.not_lt_zero _)) (fun _ _ _ _ _ => rfl)
  refine w_iconst (v := 0) dX11_firstDraft_21 (by decide) ?_
  refine w_istore_n (ls' := [some (vR 30 0 0), some (vI (0))]) dX11_firstDraft_22 rfl ?_
  refine l_fd2 (I0 := I) (fun I2 hb2 hz2 hf2 => ?_) 5 0 I1 rfl (fun y hy => absurd hy (Nat.not_lt_zero _)) (fun y hy _ => hz1 y hy) hf1
  refine w_aload_n dX11_firstDraft_50 rfl ?_
  refine w_getR (w := some (34, 0, 0)) ff_X11_20 rfl rfl dX11_firstDraft_51 rfl ?_
  refine w_bipush (v := 56) dX11_firstDraft_54 (by decide) ?_
  refine w_bipush (v := 20) dX11_firstDraft_56 (by decide) ?_
  refine w_iastore (a := 56) rfl (vp_in_nI (n := 56) (by omega) (by omega)) (nI_clamp (n := 56) (by omega)) dX11_firstDraft_58 ?_
  refine w_aload_n dX11_firstDraft_59 rfl ?_
  refine w_iconst (v := 0) dX11_firstDraft_60 (by decide) ?_
  refine w_putI ff_X11_47 rfl rfl rfl rfl dX11_firstDraft_61 ?_
  refine w_aload_n dX11_firstDraft_64 rfl ?_
  refine w_iconst (v := 0) dX11_firstDraft_65 (by decide) ?_
  refine w_putI ff_X11_51 rfl rfl rfl rfl dX11_firstDraft_66 ?_
  refine w_aload_n dX11_firstDraft_69 rfl ?_
  refine w_iconst (v := 0) dX11_firstDraft_70 (by decide) ?_
  refine w_putI ff_X11_54 rfl rfl rfl rfl dX11_firstDraft_71 ?_
  have q : ∀ y, y < 76 → y ≠ 56 → (∀ c, c < 5 → y ≠ 20 + 7 * c + 5) → (xup (xup (xup (xup I2 34 0 0 (56) (20)) 30 0 0 6 (0)) 30 0 0 7 (0)) 30 0 0 8 (0) : xF4 Int32) 34 0 0 y = 0 := fun y h1 h2 h3 => by
    rw [xup_tag (by decide), xup_tag (by decide), xup_tag (by decide), xup_slot h2]
    exact hz2 y h1 h3
  refine w_return dX11_firstDraft_74 rfl rfl (⟨rfl, _, rfl, ⟨(xup_slot (by decide)).trans ((xup_slot (by decide)).trans xup_self), (xup_slot (by decide)).trans xup_self, xup_self, ⟨fun j hj => absurd hj (Nat.not_lt_zero _), fun c hc => absurd hc (Nat.not_lt_zero _), q 55 (by decide) (by decide) (fun c hc => by omega), by rw [xup_tag (by decide), xup_tag (by decide), xup_tag (by decide)]; exact xup_self, q 57 (by decide) (by decide) (fun c hc => by omega), fun i hi => absurd hi (Nat.not_lt_zero _)⟩, fun j _ hj => ⟨q _ (by omega) (by omega) (fun c hc => by omega), q _ (by omega) (by omega) (fun c hc => by omega)⟩, fun c _ hc => ⟨q _ (by omega) (by omega) (fun c2 hc2 => by omega), by rw [xup_tag (by decide), xup_tag (by decide), xup_tag (by decide), xup_slot (by omega)]; exact hb2 c hc, q _ (by omega) (by omega) (fun c2 hc2 => by omega)⟩⟩, fun t k j s h1 h2 => ?_⟩)
  have z : ∀ x v, (x = 6 ∨ x = 7 ∨ x = 8) → ∀ J : xF4 Int32, xup J 30 0 0 x v t k j s = J t k j s := fun x v hx J => by
    unfold xup
    rw [if_neg (by rintro ⟨rfl, rfl, rfl, rfl⟩; exact h2 ⟨rfl, hx⟩)]
  rw [z _ _ (by decide), z _ _ (by decide), z _ _ (by decide), xup_tag h1]
  exact hf2 t k j s h1

theorem l_kd {L : xF4 Int64} {I0 : xF4 Int32} {Q : Option xV → xM → Prop} (kk : ∀ I, (∀ y, y < 76 → I 31 0 0 y = I0 34 0 0 y) → (∀ t k j s, ¬ (t = 31 ∧ s < 76) → I t k j s = I0 t k j s) → Wp 0 109 m_X11_keepDraft 26 [some (vR 30 0 0), some (vI (nI 76))] [] (rM I L) Q) : ∀ (m c : Nat) (I : xF4 Int32), c + m = 76 → (∀ y, y < c → I 31 0 0 y = I0 34 0 0 y) → (∀ t k j s, ¬ (t = 31 ∧ s < 76) → I t k j s = I0 t k j s) → Wp 0 109 m_X11_keepDraft 2 [some (vR 30 0 0), some (vI (nI c))] [] (rM I L) Q := by
  intro m
  induction m with
  | zero =>
    intro c I hi hz hf
    have e : c = 76 := by omega
    subst e
    refine w_iload_n dX11_keepDraft_2 rfl ?_
    refine w_bipush (v := 76) dX11_keepDraft_3 (by decide) ?_
    refine w_icmp_ge (tgt := 26) dX11_keepDraft_5 (by decide) (fun _ => ?_) (fun h => absurd (by decide) h)
    exact kk I hz hf
  | succ m ih =>
    intro c I hi hz hf
    have hlt : c < 76 := by omega
    refine w_iload_n dX11_keepDraft_2 rfl ?_
    refine w_bipush (v := 76) dX11_keepDraft_3 (by decide) ?_
    refine w_icmp_ge (tgt := 26) dX11_keepDraft_5 (by decide) (fun h => absurd h (nI_ge (b := 76) hlt (by omega))) (fun _ => ?_)
    refine w_aload_n dX11_keepDraft_8 rfl ?_
    refine w_getR (w := some (31, 0, 0)) ff_X11_7 rfl rfl dX11_keepDraft_9 rfl ?_
    refine w_iload_n dX11_keepDraft_12 rfl ?_
    refine w_aload_n dX11_keepDraft_13 rfl ?_
    refine w_getR (w := some (34, 0, 0)) ff_X11_20 rfl rfl dX11_keepDraft_14 rfl ?_
    refine w_iload_n dX11_keepDraft_17 rfl ?_
    refine w_iaload (a := c) rfl (vp_in_nI (n := c) (by omega) (by omega)) (nI_clamp (n := c) (by omega)) dX11_keepDraft_18 ?_
    refine w_top (y := I0 34 0 0 c) (show (I 34 0 0 (c) : Int32) = I0 34 0 0 c from hf 34 0 0 c (by omega)) ?_
    refine w_iastore (a := c) rfl (vp_in_nI (n := c) (by omega) (by omega)) (nI_clamp (n := c) (by omega)) dX11_keepDraft_19 ?_
    refine w_iinc (v := nI (c + 1)) (ls' := [some (vR 30 0 0), some (vI (nI (c + 1)))]) dX11_keepDraft_20 rfl (nI_1 _) rfl ?_
    refine w_goto (tgt := 2) dX11_keepDraft_23 (by decide) ?_
    refine ih (c + 1) _ (by omega) (fun y hy => ?_) (fun t k j s h => ?_)
    · by_cases e : y = c
      · rw [e, xup_self]
      · rw [xup_slot e]; exact hz y (by omega)
    · unfold xup
      rw [if_neg (by rintro ⟨rfl, rfl, rfl, rfl⟩; exact h ⟨rfl, hlt⟩)]
      exact hf t k j s h

theorem d_keepD {I : xF4 Int32} {L : xF4 Int64} {a : aA} {t : Bool} (hw : WF a) (hm : DM I a t) : Tri 0 109 m_X11_keepDraft [vR 30 0 0] (rM I L) (fun v M => v = none ∧ ∃ I', M = rM I' L ∧ SI I' a ∧ I' 33 0 0 0 = 0 ∧ I' 33 0 0 1 = 0 ∧ ∀ t k j s, t ≠ 31 → t ≠ 33 → ¬ (t = 30 ∧ (s = 3 ∨ s = 4)) → I' t k j s = I t k j s) := by
  refine ⟨k_X11_keepDraft, Nat.le_of_ble_eq_true rfl, ?_⟩
  show Wp _ _ _ 0 [some (vR 30 0 0), none] [] (rM I L) _
  refine w_iconst (v := 0) dX11_keepDraft_0 (by decide) ?_
  refine w_istore_n (ls' := [some (vR 30 0 0), some (vI (0))]) dX11_keepDraft_1 rfl ?_
  refine l_kd (I0 := I) (fun I1 hz1 hf1 => ?_) 76 0 I rfl (fun y hy => absurd hy (Nat.not_lt_zero _)) (fun _ _ _ _ _ => rfl)
  refine w_aload_n dX11_keepDraft_26 rfl ?_
  refine w_aload_n dX11_keepDraft_27 rfl ?_
  refine w_getI ff_X11_47 rfl rfl dX11_keepDraft_28 ?_
  rw [show (I1 30 0 0 6 : Int32) = nI (nJ a) from (hf1 30 0 0 6 (by omega)).trans hm.1]
  refine w_putI ff_X11_58 rfl rfl rfl rfl dX11_keepDraft_31 ?_
  refine w_aload_n dX11_keepDraft_34 rfl ?_
  refine w_aload_n dX11_keepDraft_35 rfl ?_
  refine w_getI ff_X11_51 rfl rfl dX11_keepDraft_36 ?_
  rw [show ((xup I1 30 0 0 3 (nI (nJ a))) 30 0 0 7 : Int32) = nI (nC a) from (xup_slot (by decide)).trans ((hf1 30 0 0 7 (by omega)).trans hm.2.1)]
  refine w_putI ff_X11_61 rfl rfl rfl rfl dX11_keepDraft_39 ?_
  refine w_aload_n dX11_keepDraft_42 rfl ?_
  refine w_getR (w := some (33, 0, 0)) ff_X11_16 rfl rfl dX11_keepDraft_43 rfl ?_
  refine w_iconst (v := 0) dX11_keepDraft_46 (by decide) ?_
  refine w_iconst (v := 0) dX11_keepDraft_47 (by decide) ?_
  refine w_zastore (a := 0) rfl (vp_in_nI (n := 0) (by omega) (by omega)) (nI_clamp (n := 0) (by omega)) dX11_keepDraft_48 ?_
  refine w_aload_n dX11_keepDraft_49 rfl ?_
  refine w_getR (w := some (33, 0, 0)) ff_X11_16 rfl rfl dX11_keepDraft_50 rfl ?_
  refine w_iconst (v := 1) dX11_keepDraft_53 (by decide) ?_
  refine w_iconst (v := 0) dX11_keepDraft_54 (by decide) ?_
  refine w_zastore (a := 1) rfl (vp_in_nI (n := 1) (by omega) (by omega)) (nI_clamp (n := 1) (by omega)) dX11_keepDraft_55 ?_
  refine w_return dX11_keepDraft_56 rfl rfl (⟨rfl, _, rfl, ⟨(xup_tag (by decide)).trans ((xup_tag (by decide)).trans ((xup_slot (by decide)).trans xup_self)), (xup_tag (by decide)).trans ((xup_tag (by decide)).trans xup_self), hm.2.2.2.1.to hw (fun x hx => ?_)⟩, (xup_slot (by decide)).trans (xup_self.trans (by rfl)), xup_self.trans (by rfl), fun t k j s h1 h2 h3 => ?_⟩)
  · rw [xup_tag (by decide), xup_tag (by decide), xup_tag (by decide), xup_tag (by decide), Nat.zero_add]
    exact hz1 x hx
  · rw [xup_tag h2, xup_tag h2]
    have z : ∀ x v, (x = 3 ∨ x = 4) → ∀ J : xF4 Int32, xup J 30 0 0 x v t k j s = J t k j s := fun x v hx J => by
      unfold xup
      rw [if_neg (by rintro ⟨rfl, rfl, rfl, rfl⟩; exact h3 ⟨rfl, hx⟩)]
    rw [z _ _ (by decide), z _ _ (by decide)]
    exact hf1 t k j s (fun q => h1 q.1)

abbrev pEr (n : Nat) (z : (tS × (aA × Bool)) × Nat) (I0 : xF4 Int32) (L : xF4 Int64) (Q : Option xV → xM → Prop) : Prop := ∀ I, TM I z.1.1 → OKT n z.1.1 → FrY I0 I → (∀ q, z.1.1 = .inr q → DM I z.1.2.1 z.1.2.2 ∧ DOK z.1.2.1) → Wp 19 109 m_X11_text 44 [some (vR 30 0 0), some (vI (nI z.2))] [] (rM I L) Q

theorem l_text {L : xF4 Int64} {n : Nat} {b : Nat → Nat} (hk : BK n b) {I0 : xF4 Int32} {Q : Option xV → xM → Prop} : ∀ (k m : Nat) (s : tS) (r : aA × Bool) (I : xF4 Int32), k + m = 161 → pEr n (prT n b k (s, r) m) I0 L Q → OKT n s → TM I s → TN I n b → FrY I0 I → (∀ q, s = .inr q → DM I r.1 r.2 ∧ DOK r.1 ∧ m ≤ q.2.1) → Wp 19 109 m_X11_text 20 [some (vR 30 0 0), some (vI (nI m))] [] (rM I L) Q := by
  obtain ⟨k1, k2⟩ := id hk
  intro k
  induction k with
  | zero =>
    intro m s r I hm kk hok h ht hf hl
    rcases s with ⟨c, p⟩ | q
    · skip
      refine w_aload_n dX11_text_20 rfl ?_
      refine w_getI ff_X11_73 rfl rfl dX11_text_21 ?_
      rw [show (I 30 0 0 15 : Int32) = nI c from h.1]
      refine w_if_ne (tgt := 44) dX11_text_24 (by decide) (fun _ => ?_) (fun h => absurd h ((fun z => absurd ((nI_eq (b := 0) (Nat.lt_of_le_of_lt hok.2.1 (by decide)) (by decide)).mp z) (Nat.pos_iff_ne_zero.mp hok.1))))
      exact kk I h hok hf (fun q z => ⟨(hl q z).1, (hl q z).2.1⟩)
    · have := (hl q rfl).2.2
      have := hok.2.1
      omega
  | succ k ih =>
    intro m s r I hm kk hok h ht hf hl
    rcases s with ⟨c, p⟩ | ⟨so, st, nx, v⟩
    · skip
      refine w_aload_n dX11_text_20 rfl ?_
      refine w_getI ff_X11_73 rfl rfl dX11_text_21 ?_
      rw [show (I 30 0 0 15 : Int32) = nI c from h.1]
      refine w_if_ne (tgt := 44) dX11_text_24 (by decide) (fun _ => ?_) (fun h => absurd h ((fun z => absurd ((nI_eq (b := 0) (Nat.lt_of_le_of_lt hok.2.1 (by decide)) (by decide)).mp z) (Nat.pos_iff_ne_zero.mp hok.1))))
      exact kk I h hok hf (fun q z => ⟨(hl q z).1, (hl q z).2.1⟩)
    · skip
      obtain ⟨hc, hd, hm2⟩ := hl _ rfl
      replace hm2 : m ≤ st := hm2
      obtain ⟨g4, g5, g6, g7, g8, g9⟩ : so ≤ 3 ∧ st ≤ n ∧ nx ≤ n ∧ v ≤ 99 ∧ st ≤ nx ∧ (so = 0 ∨ (st < nx ∧ st < n)) := id hok
      refine w_aload_n dX11_text_20 rfl ?_
      refine w_getI ff_X11_73 rfl rfl dX11_text_21 ?_
      rw [show (I 30 0 0 15 : Int32) = 0 from h.1]
      refine w_if_ne (tgt := 44) dX11_text_24 (by decide) (fun h => absurd (by decide) h) (fun _ => ?_)
      refine w_aload_n dX11_text_27 rfl ?_
      refine w_getI ff_X11_101 rfl rfl dX11_text_28 ?_
      rw [show (I 30 0 0 13 : Int32) = nI so from h.2.1]
      refine w_if_eq (tgt := 44) dX11_text_31 (by decide) (fun h1 => ?_) (fun h1 => ?_)
      · skip
        replace h1 : ((so : Nat) : Int) = 0 := (zeq (z_nI (by omega)) (by decide)).mp h1
        first
        | (exfalso; omega)
        | skip
          rw [show prT n b (k + 1) (.inr (so, (st, (nx, v))), r) m = ((.inr (so, (st, (nx, v))), r), m) from if_pos (by omega)] at kk
          exact kk I h hok hf (fun q z => ⟨(hl q z).1, (hl q z).2.1⟩)
      · skip
        replace h1 : ¬ (((so : Nat) : Int) = 0) := fun q => h1 ((zeq (z_nI (by omega)) (by decide)).mpr q)
        first
        | (exfalso; omega)
        | skip
          refine w_aload_n dX11_text_34 rfl ?_
          refine w_callV (as := []) (st := []) (Tri.mono (d_line hk ht hok h hd hc) (Nat.le_of_ble_eq_true rfl)) rfl rfl tg_X11_readLine lk_X11_136 in_X11_readLine se_X11_readLine rfl dX11_text_35 rfl (Nat.le_of_ble_eq_true rfl) (Nat.le_refl _) (Nat.le_refl _) ?_
          rintro v M9 ⟨rfl, I1, rfl, t1, f1, v1⟩ -
          refine w_iinc (v := nI (m + 1)) (ls' := [some (vR 30 0 0), some (vI (nI (m + 1)))]) dX11_text_38 rfl (nI_1 _) rfl ?_
          refine w_goto (tgt := 20) dX11_text_41 (by decide) ?_
          rw [show prT n b (k + 1) (.inr (so, (st, (nx, v))), r) m = prT n b k (tkT n b (lnT n b (so, (st, (nx, v))) r).1, (lnT n b (so, (st, (nx, v))) r).2) (m + 1) from if_neg (by omega)] at kk
          refine ih (m + 1) _ _ I1 (by omega) kk (tk_ok (ln_ok hok)) t1 (ht.y f1) (hf.tr f1) (fun q z => ?_)
          obtain ⟨l1, p1, e1⟩ := ln_st hok z
          replace l1 : st + 1 ≤ q.2.1 := l1
          exact ⟨v1 q z, ln_live hd e1, by omega⟩

theorem MH.tn {I : xF4 Int32} {g : gG} (h : MH I g) : TN I (gTn g) (gTb g) := ⟨h.2.2.1, h.2.2.2.1⟩
theorem FrY.mh {I I' I2 : xF4 Int32} {g : gG} {c : Nat} (h : MH I g) (f : FrY I I') (e2 : I' 30 0 0 15 = nI c) (e : ∀ t b j s, ¬ (t = 30 ∧ s = 10) → I2 t b j s = I' t b j s) (e1 : I2 30 0 0 10 = nI 0) : MH I2 (txF g c) := by
  obtain ⟨h1, h2, h3, h4, h5, h6, h7⟩ := h
  have q : ∀ t b j s, t ≠ 34 → ¬ (t = 30 ∧ (s = 6 ∨ s = 7 ∨ s = 8 ∨ (10 ≤ s ∧ s ≤ 16))) → I2 t b j s = I t b j s := fun t b j s p p2 => (e t b j s (by omega)).trans (f t b j s p (by omega))
  exact ⟨⟨(q 30 0 0 3 (by omega) (by omega)).trans h1.1, (q 30 0 0 4 (by omega) (by omega)).trans h1.2.1, h1.2.2.fr (fun x => q 31 0 0 x (by omega) (by omega))⟩, fun k hk => (h2 k hk).eqv (q 33 0 0 k (by omega) (by omega)) (fun s => q 31 0 0 s (by omega) (by omega)), e1, fun i hi => absurd hi (Nat.not_lt_zero _), (e 30 0 0 15 (by omega)).trans e2, fun k hk => (h6 k hk).eqv (q 37 0 0 k (by omega) (by omega)) (q 38 0 0 k (by omega) (by omega)) (fun i _ => q 39 0 0 _ (by omega) (by omega)), (q 30 0 0 26 (by omega) (by omega)).trans h7⟩
theorem TXo.mh {I I' : xF4 Int32} {g : gG} {a : aA} (h : MH I g) (f : ∀ t b j s, (34 < t ∧ t ≠ 40) ∨ (t = 30 ∧ 20 ≤ s) → I' t b j s = I t b j s) (hc : SI I' a) (e3 : ∀ k, k < 2 → I' 33 0 0 k = 0) (e1 : I' 30 0 0 10 = nI 0) (e2 : I' 30 0 0 15 = 0) : MH I' (txO g a) := by
  obtain ⟨h1, h2, h3, h4, h5, h6, h7⟩ := h
  exact ⟨hc, e3, e1, fun i hi => absurd hi (Nat.not_lt_zero _), e2, fun k hk => (h6 k hk).eqv (f 37 0 0 k (by omega)) (f 38 0 0 k (by omega)) (fun i _ => f 39 0 0 _ (by omega)), (f 30 0 0 26 (by omega)).trans h7⟩

theorem xup30_ne {J : xF4 Int32} {x t b j s : Nat} {v : Int32} (h : ¬ (t = 30 ∧ s = x)) : xup J 30 0 0 x v t b j s = J t b j s := by
  unfold xup
  exact if_neg (fun z => h ⟨z.1, z.2.2.2⟩)

theorem q_text {I : xF4 Int32} {L : xF4 Int64} {g : gG} (hg : WG g) (hh : MH I g) {q : Nat × (Nat × (Nat × Nat))} (hz : (txG g).1.1 = .inr q) : Tri 19 109 m_X11_text [vR 30 0 0] (rM I L) (pMo (vI (nI (txG g).2)) (txO g (txG g).1.2.1) I) := by
  refine ⟨k_X11_text, Nat.le_of_ble_eq_true rfl, ?_⟩
  show Wp _ _ _ 0 [some (vR 30 0 0), none] [] (rM I L) _
  have hk9 := hg.bk
  obtain ⟨hw, hd9, hgi, ht160, htb, hgs⟩ := id hg
  obtain ⟨z9, hz9⟩ : ∃ z, z = txG g := ⟨_, rfl⟩
  rw [← hz9] at hz ⊢
  have hy := hh.tn
  refine w_iconst (v := 0) dX11_text_0 (by decide) ?_
  refine w_istore_n (ls' := [some (vR 30 0 0), some (vI (0))]) dX11_text_1 rfl ?_
  refine w_aload_n dX11_text_2 rfl ?_
  refine w_iconst (v := 0) dX11_text_3 (by decide) ?_
  refine w_putI ff_X11_73 rfl rfl rfl rfl dX11_text_4 ?_
  refine w_aload_n dX11_text_7 rfl ?_
  refine w_iconst (v := 0) dX11_text_8 (by decide) ?_
  refine w_putI ff_X11_82 rfl rfl rfl rfl dX11_text_9 ?_
  refine w_aload_n dX11_text_12 rfl ?_
  refine w_callV (as := []) (st := []) (Tri.mono (d_first (I := xup (xup I 30 0 0 15 (0)) 30 0 0 11 (0))) (Nat.le_of_ble_eq_true rfl)) rfl rfl tg_X11_firstDraft lk_X11_41 in_X11_firstDraft se_X11_firstDraft rfl dX11_text_13 rfl (Nat.le_of_ble_eq_true rfl) (Nat.le_refl _) (Nat.le_refl _) ?_
  rintro v M9 ⟨rfl, I1, rfl, m1, f1⟩ -
  have fy : FrY I I1 := (((FrY.rf.up30 (by decide)).up30 (by decide))).tr (fun t k j s h1 h2 => f1 t k j s h1 (fun q => h2 (by omega)))
  refine w_aload_n dX11_text_16 rfl ?_
  refine w_callV (as := []) (st := []) (Tri.mono (d_takeL hk9 (hy.y fy) (nx := 0) (Nat.zero_le _) ⟨(f1 30 0 0 15 (by decide) (by decide)).trans ((xup_slot (by decide)).trans xup_self), (f1 30 0 0 11 (by decide) (by decide)).trans (xup_self.trans (by rfl))⟩) (Nat.le_of_ble_eq_true rfl)) rfl rfl tg_X11_takes lk_X11_119 in_X11_takes se_X11_takes rfl dX11_text_17 rfl (Nat.le_of_ble_eq_true rfl) (Nat.le_refl _) (Nat.le_refl _) ?_
  rintro v M9 ⟨rfl, I2, rfl, t2, f2⟩ -
  refine l_text hk9 161 0 _ (draft0, false) I2 rfl ?_ (lex_ok (Nat.zero_le _)) t2 (hy.y (fy.tr f2.y)) (fy.tr f2.y) (fun q z => ⟨m1.n f2, DOK.z, Nat.zero_le _⟩)
  show pEr _ (txG g) I L _
  rw [← hz9]
  intro I3 t3 o3 f3 v3
  rw [hz] at t3 o3 v3
  refine w_aload_n dX11_text_44 rfl ?_
  refine w_iconst (v := 0) dX11_text_45 (by decide) ?_
  refine w_putI ff_X11_70 rfl rfl rfl rfl dX11_text_46 ?_
  refine w_aload_n dX11_text_49 rfl ?_
  refine w_getI ff_X11_73 rfl rfl dX11_text_50 ?_
  rw [show ((xup I3 30 0 0 10 (0)) 30 0 0 15 : Int32) = 0 from ((xup_slot (by decide)).trans t3.1)]
  refine w_if_le (tgt := 64) dX11_text_53 (by decide) (fun _ => ?_) (fun h => absurd (by decide) h)
  refine w_aload_n dX11_text_64 rfl ?_
  obtain ⟨m3, d3⟩ := v3 q rfl
  refine w_callV (as := []) (st := []) (Tri.mono (d_keepD (I := xup I3 30 0 0 10 (0)) d3.1 (DM.t8 m3 (I' := xup I3 30 0 0 10 (0)) (fun x => xup_tag (by decide)) (fun x hx => xup_slot (by omega)) ((xup_slot (by decide)).trans m3.2.2.1))) (Nat.le_of_ble_eq_true rfl)) rfl rfl tg_X11_keepDraft lk_X11_44 in_X11_keepDraft se_X11_keepDraft rfl dX11_text_65 rfl (Nat.le_of_ble_eq_true rfl) (Nat.le_refl _) (Nat.le_refl _) ?_
  rintro v M9 ⟨rfl, I4, rfl, s4, a4, b4, f4⟩ -
  refine w_iload_n dX11_text_68 rfl ?_
  have e3 : ∀ k, k < 2 → I4 33 0 0 k = 0 := fun k hk => by
    rcases (show k = 0 ∨ k = 1 by omega) with rfl | rfl
    · exact a4
    · exact b4
  exact w_ireturn dX11_text_69 rfl (rfl) rfl (⟨rfl, _, _, rfl, TXo.mh hh (fun t b j s ht => (f4 t b j s (by omega) (by omega) (by omega)).trans ((xup30_ne (by omega)).trans (f3 t b j s (by omega) (by omega)))) s4 e3 ((f4 30 0 0 10 (by decide) (by decide) (by decide)).trans (xup_self.trans (by rfl))) ((f4 30 0 0 15 (by decide) (by decide) (by decide)).trans ((xup_slot (by decide)).trans t3.1)), fun t b j s ht => (f4 t b j s (by omega) (by omega) (by omega)).trans ((xup_tag (by omega)).trans (f3 t b j s (by omega) (by omega)))⟩)

theorem q_text_f {I : xF4 Int32} {L : xF4 Int64} {g : gG} (hg : WG g) (hh : MH I g) {c p : Nat} (hz : (txG g).1.1 = .inl (c, p)) : Tri 19 109 m_X11_text [vR 30 0 0] (rM I L) (pMo (vI (-10 - nI p)) (txF g c) I) := by
  refine ⟨k_X11_text, Nat.le_of_ble_eq_true rfl, ?_⟩
  show Wp _ _ _ 0 [some (vR 30 0 0), none] [] (rM I L) _
  have hk9 := hg.bk
  obtain ⟨hw, hd9, hgi, ht160, htb, hgs⟩ := id hg
  obtain ⟨z9, hz9⟩ : ∃ z, z = txG g := ⟨_, rfl⟩
  rw [← hz9] at hz
  have hy := hh.tn
  refine w_iconst (v := 0) dX11_text_0 (by decide) ?_
  refine w_istore_n (ls' := [some (vR 30 0 0), some (vI (0))]) dX11_text_1 rfl ?_
  refine w_aload_n dX11_text_2 rfl ?_
  refine w_iconst (v := 0) dX11_text_3 (by decide) ?_
  refine w_putI ff_X11_73 rfl rfl rfl rfl dX11_text_4 ?_
  refine w_aload_n dX11_text_7 rfl ?_
  refine w_iconst (v := 0) dX11_text_8 (by decide) ?_
  refine w_putI ff_X11_82 rfl rfl rfl rfl dX11_text_9 ?_
  refine w_aload_n dX11_text_12 rfl ?_
  refine w_callV (as := []) (st := []) (Tri.mono (d_first (I := xup (xup I 30 0 0 15 (0)) 30 0 0 11 (0))) (Nat.le_of_ble_eq_true rfl)) rfl rfl tg_X11_firstDraft lk_X11_41 in_X11_firstDraft se_X11_firstDraft rfl dX11_text_13 rfl (Nat.le_of_ble_eq_true rfl) (Nat.le_refl _) (Nat.le_refl _) ?_
  rintro v M9 ⟨rfl, I1, rfl, m1, f1⟩ -
  have fy : FrY I I1 := (((FrY.rf.up30 (by decide)).up30 (by decide))).tr (fun t k j s h1 h2 => f1 t k j s h1 (fun q => h2 (by omega)))
  refine w_aload_n dX11_text_16 rfl ?_
  refine w_callV (as := []) (st := []) (Tri.mono (d_takeL hk9 (hy.y fy) (nx := 0) (Nat.zero_le _) ⟨(f1 30 0 0 15 (by decide) (by decide)).trans ((xup_slot (by decide)).trans xup_self), (f1 30 0 0 11 (by decide) (by decide)).trans (xup_self.trans (by rfl))⟩) (Nat.le_of_ble_eq_true rfl)) rfl rfl tg_X11_takes lk_X11_119 in_X11_takes se_X11_takes rfl dX11_text_17 rfl (Nat.le_of_ble_eq_true rfl) (Nat.le_refl _) (Nat.le_refl _) ?_
  rintro v M9 ⟨rfl, I2, rfl, t2, f2⟩ -
  refine l_text hk9 161 0 _ (draft0, false) I2 rfl ?_ (lex_ok (Nat.zero_le _)) t2 (hy.y (fy.tr f2.y)) (fy.tr f2.y) (fun q z => ⟨m1.n f2, DOK.z, Nat.zero_le _⟩)
  show pEr _ (txG g) I L _
  rw [← hz9]
  intro I3 t3 o3 f3 v3
  rw [hz] at t3 o3 v3
  refine w_aload_n dX11_text_44 rfl ?_
  refine w_iconst (v := 0) dX11_text_45 (by decide) ?_
  refine w_putI ff_X11_70 rfl rfl rfl rfl dX11_text_46 ?_
  refine w_aload_n dX11_text_49 rfl ?_
  refine w_getI ff_X11_73 rfl rfl dX11_text_50 ?_
  rw [show ((xup I3 30 0 0 10 (0)) 30 0 0 15 : Int32) = nI c from ((xup_slot (by decide)).trans t3.1)]
  have q1 := o3.1
  have q2 := o3.2.1
  replace q1 : 1 ≤ c := q1
  replace q2 : c ≤ 5 := q2
  refine w_if_le (tgt := 64) dX11_text_53 (by decide) (fun h1 => ?_) (fun h1 => ?_)
  · skip
    replace h1 : ((c : Nat) : Int) ≤ 0 := (zle (z_nI (by omega)) (by decide)).mp h1
    first
    | (exfalso; omega)
    | skip
      exfalso
      omega
  · skip
    replace h1 : ¬ (((c : Nat) : Int) ≤ 0) := fun q => h1 ((zle (z_nI (by omega)) (by decide)).mpr q)
    first
    | (exfalso; omega)
    | skip
      refine w_bipush (v := (-10)) dX11_text_56 (by decide) ?_
      refine w_aload_n dX11_text_58 rfl ?_
      refine w_getI ff_X11_79 rfl rfl dX11_text_59 ?_
      rw [show ((xup I3 30 0 0 10 (0)) 30 0 0 16 : Int32) = nI p from ((xup_slot (by decide)).trans t3.2)]
      refine w_isub dX11_text_62 ?_
      exact w_ireturn dX11_text_63 rfl (rfl) rfl (⟨rfl, _, _, rfl, FrY.mh hh f3 t3.1 (fun t b j s hn => xup30_ne hn) (xup_self.trans (by rfl)), fun t b j s ht => (xup_tag (by omega)).trans (f3 t b j s (by omega) (by omega))⟩)
