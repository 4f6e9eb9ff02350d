/-! the reference starts, settles, copies; plays a docket (by wip/whole/gen/g25.py) -/
def FrH (I I' : xF4 Int32) : Prop := ∀ t b j s, t ≠ 32 → t ≠ 36 → I' t b j s = I t b j s
theorem FrH.m {I I1 : xF4 Int32} (h : FrH I I1) : FrM I I1 := fun t b j s p q _ => h t b j s p q
abbrev pSt (a : aA) (I : xF4 Int32) (L : xF4 Int64) : Option xV → xM → Prop := fun v M => v = none ∧ ∃ I', M = rM I' L ∧ MI I' a ∧ (∀ i, i < 4 → I' 36 0 0 i = nI i) ∧ FrH I I'
/-- only the first of the reference's courts -/
def FrU (I I' : xF4 Int32) : Prop := ∀ t b j s, ¬ (t = 31 ∧ s < 76) → I' t b j s = I t b j s
abbrev pSe2 (a : aA) (I : xF4 Int32) (L : xF4 Int64) : Option xV → xM → Prop := fun v M => v = none ∧ ∃ I', M = rM I' L ∧ SI I' a ∧ FrU I I'
theorem sits_range {I : xF4 Int32} (h : ∀ i, i < 4 → I 36 0 0 i = nI i) {n : Nat} (hn : n ≤ 4) : SitsIs I (List.range n) := fun i j hij => by
  have hi := (List.getElem?_eq_some_iff.mp hij).1
  rw [List.length_range] at hi
  rw [List.getElem?_range hi] at hij
  cases hij
  exact h i (by omega)

theorem l_starts2 {L : xF4 Int64} {I0 I1 : xF4 Int32} {a : aA} (hm : MI I1 a) (h0 : FrT 32 I0 I1) : ∀ (m i : Nat) (I : xF4 Int32), i + m = 4 → (∀ x, x < i → I 36 0 0 x = nI x) → FrT 36 I1 I → Wp 0 109 m_X11_starts 28 [some (vR 30 0 0), some (vI (nI i))] [] (rM I L) (pSt a I0 L) := by
  intro m
  induction m with
  | zero =>
    intro i I hi hc hf
    have e : i = 4 := by omega
    subst e
    refine w_iload_n dX11_starts_28 rfl ?_
    refine w_iconst (v := 4) dX11_starts_29 (by decide) ?_
    refine w_icmp_ge (tgt := 46) dX11_starts_30 (by decide) (fun _ => ?_) (fun h => absurd (by decide) h)
    exact w_return dX11_starts_46 rfl rfl (⟨rfl, I, rfl, ⟨(hf 30 0 0 3 (by decide)).trans hm.1, (hf 30 0 0 4 (by decide)).trans hm.2.1, hm.2.2.fr (fun x => hf 32 0 0 x (by decide))⟩, hc, fun t b j s p q => (hf t b j s q).trans (h0 t b j s p)⟩)
  | succ m ih =>
    intro i I hi hc hf
    have hlt : i < 4 := by omega
    refine w_iload_n dX11_starts_28 rfl ?_
    refine w_iconst (v := 4) dX11_starts_29 (by decide) ?_
    refine w_icmp_ge (tgt := 46) dX11_starts_30 (by decide) (fun h => absurd h (nI_ge (b := 4) hlt (by omega))) (fun _ => ?_)
    refine w_aload_n dX11_starts_33 rfl ?_
    refine w_getR (w := some (36, 0, 0)) ff_X11_26 rfl rfl dX11_starts_34 rfl ?_
    refine w_iload_n dX11_starts_37 rfl ?_
    refine w_iload_n dX11_starts_38 rfl ?_
    refine w_iastore (a := i) rfl (vp_in_nI (n := i) (by omega) (by omega)) (nI_clamp (n := i) (by omega)) dX11_starts_39 ?_
    refine w_iinc (v := nI (i + 1)) (ls' := [some (vR 30 0 0), some (vI (nI (i + 1)))]) dX11_starts_40 rfl (nI_1 _) rfl ?_
    refine w_goto (tgt := 28) dX11_starts_43 (by decide) ?_
    refine ih (i + 1) _ (by omega) (fun x hx => ?_) (hf.tr (fun t b j s h => xup_tag h))
    by_cases e : x = i
    · rw [e, xup_self]
    · rw [xup_slot e]; exact hc x (by omega)

theorem l_starts1 {L : xF4 Int64} {I0 : xF4 Int32} {a : aA} (hs : SI I0 a) (hw : WF a) : ∀ (m k : Nat) (I : xF4 Int32), k + m = 76 → (∀ x, x < k → I 32 0 0 x = I0 31 0 0 x) → FrT 32 I0 I → Wp 0 109 m_X11_starts 2 [some (vR 30 0 0), some (vI (nI k))] [] (rM I L) (pSt a I0 L) := by
  intro m
  induction m with
  | zero =>
    intro k I hk hc hf
    have e : k = 76 := by omega
    subst e
    refine w_iload_n dX11_starts_2 rfl ?_
    refine w_bipush (v := 76) dX11_starts_3 (by decide) ?_
    refine w_icmp_ge (tgt := 26) dX11_starts_5 (by decide) (fun _ => ?_) (fun h => absurd (by decide) h)
    refine w_iconst (v := 0) dX11_starts_26 (by decide) ?_
    refine w_istore_n (ls' := [some (vR 30 0 0), some (vI (0))]) dX11_starts_27 rfl ?_
    exact l_starts2 (a := a) ⟨(hf 30 0 0 3 (by decide)).trans hs.1, (hf 30 0 0 4 (by decide)).trans hs.2.1, hs.2.2.to hw (fun x hx => by rw [Nat.zero_add]; exact hc x hx)⟩ hf 4 0 I (by omega) (fun x hx => absurd hx (Nat.not_lt_zero _)) FrT.rf
  | succ m ih =>
    intro k I hk hc hf
    have hlt : k < 76 := by omega
    refine w_iload_n dX11_starts_2 rfl ?_
    refine w_bipush (v := 76) dX11_starts_3 (by decide) ?_
    refine w_icmp_ge (tgt := 26) dX11_starts_5 (by decide) (fun h => absurd h (nI_ge (b := 76) hlt (by omega))) (fun _ => ?_)
    refine w_aload_n dX11_starts_8 rfl ?_
    refine w_getR (w := some (32, 0, 0)) ff_X11_13 rfl rfl dX11_starts_9 rfl ?_
    refine w_iload_n dX11_starts_12 rfl ?_
    refine w_aload_n dX11_starts_13 rfl ?_
    refine w_getR (w := some (31, 0, 0)) ff_X11_7 rfl rfl dX11_starts_14 rfl ?_
    refine w_iload_n dX11_starts_17 rfl ?_
    refine w_iaload (a := k) rfl (vp_in_nI (n := k) (by omega) (by omega)) (nI_clamp (n := k) (by omega)) dX11_starts_18 ?_
    refine w_iastore (a := k) rfl (vp_in_nI (n := k) (by omega) (by omega)) (nI_clamp (n := k) (by omega)) dX11_starts_19 ?_
    refine w_iinc (v := nI (k + 1)) (ls' := [some (vR 30 0 0), some (vI (nI (k + 1)))]) dX11_starts_20 rfl (nI_1 _) rfl ?_
    refine w_goto (tgt := 2) dX11_starts_23 (by decide) ?_
    refine ih (k + 1) _ (by omega) (fun x hx => ?_) (hf.tr (fun t b j s h => xup_tag h))
    by_cases e : x = k
    · rw [e, xup_self]; exact hf 31 0 0 k (by decide)
    · rw [xup_slot e]; exact hc x (by omega)

theorem d_starts {I : xF4 Int32} {L : xF4 Int64} {a : aA} (hs : SI I a) (hw : WF a) : Tri 0 109 m_X11_starts [vR 30 0 0] (rM I L) (pSt a I L) := by
  refine ⟨k_X11_starts, Nat.le_of_ble_eq_true rfl, ?_⟩
  show Wp _ _ _ 0 [some (vR 30 0 0), none] [] (rM I L) _
  refine w_iconst (v := 0) dX11_starts_0 (by decide) ?_
  refine w_istore_n (ls' := [some (vR 30 0 0), some (vI (0))]) dX11_starts_1 rfl ?_
  exact l_starts1 hs hw 76 0 I (by omega) (fun x hx => absurd hx (Nat.not_lt_zero _)) FrT.rf

theorem l_settles {L : xF4 Int64} {I0 : xF4 Int32} {a : aA} (hm : MI I0 a) (hw : WF a) : ∀ (m k : Nat) (I : xF4 Int32), k + m = 76 → (∀ x, x < k → I 31 0 0 x = I0 32 0 0 x) → FrU I0 I → Wp 0 109 m_X11_settles 2 [some (vR 30 0 0), some (vI (nI k))] [] (rM I L) (pSe2 a I0 L) := by
  intro m
  induction m with
  | zero =>
    intro k I hk hc hf
    have e : k = 76 := by omega
    subst e
    refine w_iload_n dX11_settles_2 rfl ?_
    refine w_bipush (v := 76) dX11_settles_3 (by decide) ?_
    refine w_icmp_ge (tgt := 26) dX11_settles_5 (by decide) (fun _ => ?_) (fun h => absurd (by decide) h)
    exact w_return dX11_settles_26 rfl rfl (⟨rfl, I, rfl, ⟨(hf 30 0 0 3 (by omega)).trans hm.1, (hf 30 0 0 4 (by omega)).trans hm.2.1, hm.2.2.to hw (fun x hx => by rw [Nat.zero_add]; exact hc x hx)⟩, hf⟩)
  | succ m ih =>
    intro k I hk hc hf
    have hlt : k < 76 := by omega
    refine w_iload_n dX11_settles_2 rfl ?_
    refine w_bipush (v := 76) dX11_settles_3 (by decide) ?_
    refine w_icmp_ge (tgt := 26) dX11_settles_5 (by decide) (fun h => absurd h (nI_ge (b := 76) hlt (by omega))) (fun _ => ?_)
    refine w_aload_n dX11_settles_8 rfl ?_
    refine w_getR (w := some (31, 0, 0)) ff_X11_7 rfl rfl dX11_settles_9 rfl ?_
    refine w_iload_n dX11_settles_12 rfl ?_
    refine w_aload_n dX11_settles_13 rfl ?_
    refine w_getR (w := some (32, 0, 0)) ff_X11_13 rfl rfl dX11_settles_14 rfl ?_
    refine w_iload_n dX11_settles_17 rfl ?_
    refine w_iaload (a := k) rfl (vp_in_nI (n := k) (by omega) (by omega)) (nI_clamp (n := k) (by omega)) dX11_settles_18 ?_
    refine w_iastore (a := k) rfl (vp_in_nI (n := k) (by omega) (by omega)) (nI_clamp (n := k) (by omega)) dX11_settles_19 ?_
    refine w_iinc (v := nI (k + 1)) (ls' := [some (vR 30 0 0), some (vI (nI (k + 1)))]) dX11_settles_20 rfl (nI_1 _) rfl ?_
    refine w_goto (tgt := 2) dX11_settles_23 (by decide) ?_
    refine ih (k + 1) _ (by omega) (fun x hx => ?_) (fun t b j s h => ?_)
    · by_cases e : x = k
      · rw [e, xup_self]; exact hf 32 0 0 k (by omega)
      · rw [xup_slot e]; exact hc x (by omega)
    · unfold xup
      rw [if_neg (by rintro ⟨rfl, rfl, rfl, rfl⟩; exact h ⟨rfl, hlt⟩)]
      exact hf t b j s h

theorem d_settles {I : xF4 Int32} {L : xF4 Int64} {a : aA} (hm : MI I a) (hw : WF a) : Tri 0 109 m_X11_settles [vR 30 0 0] (rM I L) (pSe2 a I L) := by
  refine ⟨k_X11_settles, Nat.le_of_ble_eq_true rfl, ?_⟩
  show Wp _ _ _ 0 [some (vR 30 0 0), none] [] (rM I L) _
  refine w_iconst (v := 0) dX11_settles_0 (by decide) ?_
  refine w_istore_n (ls' := [some (vR 30 0 0), some (vI (0))]) dX11_settles_1 rfl ?_
  exact l_settles hm hw 76 0 I (by omega) (fun x hx => absurd hx (Nat.not_lt_zero _)) (fun _ _ _ _ _ => rfl)

theorem foldB_it {ab : Nat} {ss : List Nat} {a : aA} {k : Nat} : dayN (foldB ab ss (itN (presB ab ss) a k)) = itN (presB ab ss) a (k + 1) := by
  rw [foldB_eq]
  rfl
abbrev pDh (ab : Nat) (ss : List Nat) (a : aA) (n : Nat) (I : xF4 Int32) (L : xF4 Int64) : Option xV → xM → Prop := fun v M => v = some (vI (nI (popN (heardN (itN (presB ab ss) a n))) - nI (popN (heardN a)))) ∧ ∃ I', M = rM I' L ∧ MI I' (itN (presB ab ss) a n) ∧ FrG I I'
theorem presB_in {ab j : Nat} {ss : List Nat} (h : j ∈ presB ab ss) : j ∈ ss := (List.mem_filter.mp h).1

theorem l_docketHears {L : xF4 Int64} {a : aA} (hw : WF a) {ss : List Nat} {ab n : Nat} (hab9 : ab < 32) (hl : ss.length = nJ a) (hall : ∀ j ∈ ss, j < nJ a) (hd : dY a + n ≤ 2000) {I0 : xF4 Int32} : ∀ (m k : Nat) (I : xF4 Int32), k + m = n → MI I (itN (presB ab ss) a k) → SitsIs I ss → I 30 0 0 18 = nI ab → FrG I0 I → Wp 5 109 m_X11_docketHears 10 [some (vR 30 0 0), some (vI (nI n)), some (vI (nI (popN (heardN a)))), some (vI (nI k))] [] (rM I L) (pDh ab ss a n I0 L) := by
  intro m
  induction m with
  | zero =>
    intro k I hk hm hs hab hf
    have e : k = n := by omega
    subst e
    have hw2 := hw.it (ss := presB ab ss) (fun j hj => hall j (presB_in hj)) k hd
    refine w_iload_n dX11_docketHears_10 rfl ?_
    refine w_iload_n dX11_docketHears_11 rfl ?_
    refine w_icmp_ge (tgt := 25) dX11_docketHears_12 (by decide) (fun _ => ?_) (fun h => absurd (nI_le (Nat.le_refl _) (by omega)) h)
    refine w_aload_n dX11_docketHears_25 rfl ?_
    refine w_callV (as := []) (st := []) (Tri.mono (d_heard hm hw2) (Nat.le_of_ble_eq_true rfl)) rfl rfl tg_X11_heard lk_X11_183 in_X11_heard se_X11_heard rfl dX11_docketHears_26 rfl (Nat.le_of_ble_eq_true rfl) (Nat.le_refl _) (Nat.le_refl _) ?_
    rintro _ _ ⟨rfl, rfl⟩ -
    refine w_callS (as := [vI (nI (heardN (itN (presB ab ss) a k)))]) (st := []) (Tri.mono (d_bitsOf (heardN_lt hw2)) (Nat.le_of_ble_eq_true rfl)) tg_X11_bitsOf lk_X11_186 sa_X11_bitsOf rfl dX11_docketHears_29 rfl (Nat.le_of_ble_eq_true rfl) (Nat.le_refl _) (Nat.le_refl _) ?_
    rintro _ _ ⟨rfl, rfl⟩ -
    refine w_iload_n dX11_docketHears_32 rfl ?_
    refine w_isub dX11_docketHears_33 ?_
    exact w_ireturn dX11_docketHears_34 rfl (rfl) rfl (⟨rfl, I, rfl, hm, hf⟩)
  | succ m ih =>
    intro k I hk hm hs hab hf
    have hlt : k < n := by omega
    have hw2 := hw.it (ss := presB ab ss) (fun j hj => hall j (presB_in hj)) k (by omega)
    obtain ⟨q1, q2, q3, q4⟩ := itN_k (presB ab ss) a k
    refine w_iload_n dX11_docketHears_10 rfl ?_
    refine w_iload_n dX11_docketHears_11 rfl ?_
    refine w_icmp_ge (tgt := 25) dX11_docketHears_12 (by decide) (fun h => absurd h (nI_ge hlt (by omega))) (fun _ => ?_)
    refine w_aload_n dX11_docketHears_15 rfl ?_
    refine w_callV (as := []) (st := []) (Tri.mono (d_docketGoes hm hw2 hab9 (by rw [q1]; exact hl) hs (fun j hj => by rw [q1]; exact hall j hj) hab rfl) (Nat.le_of_ble_eq_true rfl)) rfl rfl tg_X11_docketGoes lk_X11_189 in_X11_docketGoes se_X11_docketGoes rfl dX11_docketHears_16 rfl (Nat.le_of_ble_eq_true rfl) (Nat.le_refl _) (Nat.le_refl _) ?_
    rintro v M9 ⟨rfl, I1, rfl, g1, g2, g3⟩ -
    refine w_iinc (v := nI (k + 1)) (ls' := [some (vR 30 0 0), some (vI (nI n)), some (vI (nI (popN (heardN a)))), some (vI (nI (k + 1)))]) dX11_docketHears_19 rfl (nI_1 _) rfl ?_
    refine w_goto (tgt := 10) dX11_docketHears_22 (by decide) ?_
    rw [foldB_it] at g1
    exact ih (k + 1) I1 (by omega) g1 (fun i j h => (g3 36 0 0 i (by decide) (by omega)).trans (hs i j h)) ((g3 30 0 0 18 (by decide) (by omega)).trans hab) (hf.tr g3)

theorem d_docketHears {I : xF4 Int32} {L : xF4 Int64} {a : aA} (hm : MI I a) (hw : WF a) {ss : List Nat} {ab n : Nat} (hab9 : ab < 32) (hl : ss.length = nJ a) (hall : ∀ j ∈ ss, j < nJ a) (hd : dY a + n ≤ 2000) (hs : SitsIs I ss) (hab : I 30 0 0 18 = nI ab) : Tri 5 109 m_X11_docketHears [vR 30 0 0, vI (nI n)] (rM I L) (pDh ab ss a n I L) := by
  refine ⟨k_X11_docketHears, Nat.le_of_ble_eq_true rfl, ?_⟩
  show Wp _ _ _ 0 [some (vR 30 0 0), some (vI (nI n)), none, none] [] (rM I L) _
  refine w_aload_n dX11_docketHears_0 rfl ?_
  refine w_callV (as := []) (st := []) (Tri.mono (d_heard hm hw) (Nat.le_of_ble_eq_true rfl)) rfl rfl tg_X11_heard lk_X11_183 in_X11_heard se_X11_heard rfl dX11_docketHears_1 rfl (Nat.le_of_ble_eq_true rfl) (Nat.le_refl _) (Nat.le_refl _) ?_
  rintro _ _ ⟨rfl, rfl⟩ -
  refine w_callS (as := [vI (nI (heardN a))]) (st := []) (Tri.mono (d_bitsOf (heardN_lt hw)) (Nat.le_of_ble_eq_true rfl)) tg_X11_bitsOf lk_X11_186 sa_X11_bitsOf rfl dX11_docketHears_4 rfl (Nat.le_of_ble_eq_true rfl) (Nat.le_refl _) (Nat.le_refl _) ?_
  rintro _ _ ⟨rfl, rfl⟩ -
  refine w_istore_n (ls' := [some (vR 30 0 0), some (vI (nI n)), some (vI (nI (popN (heardN a)))), none]) dX11_docketHears_7 rfl ?_
  refine w_iconst (v := 0) dX11_docketHears_8 (by decide) ?_
  refine w_istore_n (ls' := [some (vR 30 0 0), some (vI (nI n)), some (vI (nI (popN (heardN a)))), some (vI (0))]) dX11_docketHears_9 rfl ?_
  exact l_docketHears hw hab9 hl hall hd n 0 I (Nat.zero_add _) hm hs hab FrG.rf
