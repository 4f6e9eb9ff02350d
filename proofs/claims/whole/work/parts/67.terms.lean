/-! terms, ask, both ways (by wip/whole/gen/g68.py) -/
theorem l_isSeenC {I : xF4 Int32} {L : xF4 Int64} {a : aA} (hc : CourtIs I 0 a) (hw : WF a) {j c : Nat} (hj4 : j < 4) (hcc : c < nC a) : ∀ (m i : Nat) (o4 : Option xV), i + m = nG a → Wp 1 109 m_X0_isSeen 2 [some (vR 1 0 0), some (vI (nI j)), some (vI (nI c)), some (vI (nI i)), o4] [] (rM I L) (pI (bI (snF a j c i m = true)) I L) := by
  intro m
  induction m with
  | zero =>
    intro i o4 hi
    have e : i = nG a := by omega
    subst e
    obtain ⟨hJ, hC, hG, hD, hR, -⟩ := id hw
    refine w_iload_n dX0_isSeen_2 rfl ?_
    refine w_aload_n dX0_isSeen_3 rfl ?_
    refine w_getI ff_X0_23 rfl rfl dX0_isSeen_4 ?_
    rw [show (I 1 0 0 5 : Int32) = nI (nG a) from hc.2.2.1]
    refine w_icmp_ge (tgt := 48) dX0_isSeen_7 (by decide) (fun _ => ?_) (fun h => absurd (nI_le (Nat.le_refl _) (by omega)) h)
    refine w_iconst (v := 0) dX0_isSeen_48 (by decide) ?_
    exact w_ireturn dX0_isSeen_49 rfl (rfl) rfl (⟨by rw [← bI_ff (show snF a j c (nG a) 0 = false from by rw [snF])], rfl⟩)
  | succ m ih =>
    intro i o4 hi
    have hlt : i < nG a := by omega
    obtain ⟨hJ, hC, hG, hD, hR, -⟩ := id hw
    obtain ⟨fg0, fg1, fg2⟩ := hw.2.2.2.2.2.2.2 i hlt
    refine w_iload_n dX0_isSeen_2 rfl ?_
    refine w_aload_n dX0_isSeen_3 rfl ?_
    refine w_getI ff_X0_23 rfl rfl dX0_isSeen_4 ?_
    rw [show (I 1 0 0 5 : Int32) = nI (nG a) from hc.2.2.1]
    refine w_icmp_ge (tgt := 48) dX0_isSeen_7 (by decide) (fun h => absurd h (nI_ge (b := nG a) hlt (by omega))) (fun _ => ?_)
    refine w_aload_n dX0_isSeen_10 rfl ?_
    refine w_iload_n dX0_isSeen_11 rfl ?_
    refine w_callV (as := [vI (nI i)]) (st := []) (Tri.mono (c_gAt hc hw hlt) (Nat.le_of_ble_eq_true rfl)) rfl rfl tg_X1_sightAt lk_X0_29 in_X1_sightAt se_X1_sightAt rfl dX0_isSeen_12 rfl (Nat.le_of_ble_eq_true rfl) (Nat.le_refl _) (Nat.le_refl _) ?_
    rintro _ _ ⟨rfl, rfl⟩ -
    refine w_astore (ls' := [some (vR 1 0 0), some (vI (nI j)), some (vI (nI c)), some (vI (nI i)), some (vR 7 0 i)]) dX0_isSeen_15 rfl ?_
    refine w_aload dX0_isSeen_17 rfl ?_
    refine w_ifnull (tgt := 42) dX0_isSeen_19 (by decide) (fun h => by cases h) (fun _ _ => ?_)
    refine w_aload dX0_isSeen_22 rfl ?_
    refine w_getI ff_X0_33 rfl rfl dX0_isSeen_24 ?_
    rw [show (I 7 0 i 0 : Int32) = nI (gF a i 0) from hc.g hlt (by decide)]
    refine w_iload_n dX0_isSeen_27 rfl ?_
    refine w_icmp_ne (tgt := 42) dX0_isSeen_28 (by decide) (fun h1 => ?_) (fun h1 => ?_)
    · skip
      replace h1 : ¬ ((gF a i 0) = (j)) := fun q => h1 ((nI_eq (a := gF a i 0) (b := j) (by omega) (by omega)).mpr q)
      first
      | (exfalso; omega)
      | skip
        rw [show snF a j c i (m + 1) = snF a j c (i + 1) m from by rw [snF]; simp [h1]]
        refine w_iinc (v := nI (i + 1)) (ls' := [some (vR 1 0 0), some (vI (nI j)), some (vI (nI c)), some (vI (nI (i + 1))), some (vR 7 0 i)]) dX0_isSeen_42 rfl (nI_1 _) rfl ?_
        refine w_goto (tgt := 2) dX0_isSeen_45 (by decide) ?_
        exact ih (i + 1) _ (by omega)
    · skip
      replace h1 : (gF a i 0) = (j) := (nI_eq (a := gF a i 0) (b := j) (by omega) (by omega)).mp h1
      first
      | (exfalso; omega)
      | skip
        refine w_aload dX0_isSeen_31 rfl ?_
        refine w_getI ff_X0_42 rfl rfl dX0_isSeen_33 ?_
        rw [show (I 7 0 i 1 : Int32) = nI (gF a i 1) from hc.g hlt (by decide)]
        refine w_iload_n dX0_isSeen_36 rfl ?_
        refine w_icmp_ne (tgt := 42) dX0_isSeen_37 (by decide) (fun h2 => ?_) (fun h2 => ?_)
        · skip
          replace h2 : ¬ ((gF a i 1) = (c)) := fun q => h2 ((nI_eq (a := gF a i 1) (b := c) (by omega) (by omega)).mpr q)
          first
          | (exfalso; omega)
          | skip
            rw [show snF a j c i (m + 1) = snF a j c (i + 1) m from by rw [snF]; simp [h1, h2]]
            refine w_iinc (v := nI (i + 1)) (ls' := [some (vR 1 0 0), some (vI (nI j)), some (vI (nI c)), some (vI (nI (i + 1))), some (vR 7 0 i)]) dX0_isSeen_42 rfl (nI_1 _) rfl ?_
            refine w_goto (tgt := 2) dX0_isSeen_45 (by decide) ?_
            exact ih (i + 1) _ (by omega)
        · skip
          replace h2 : (gF a i 1) = (c) := (nI_eq (a := gF a i 1) (b := c) (by omega) (by omega)).mp h2
          first
          | (exfalso; omega)
          | skip
            refine w_iconst (v := 1) dX0_isSeen_40 (by decide) ?_
            exact w_ireturn dX0_isSeen_41 rfl (rfl) rfl (⟨by rw [← bI_tt (show snF a j c i (m + 1) = true from by rw [snF]; simp [h1, h2])], rfl⟩)

theorem c_isSeen {I : xF4 Int32} {L : xF4 Int64} {a : aA} (hc : CourtIs I 0 a) (hw : WF a) {j c : Nat} (hj4 : j < 4) (hcc : c < nC a) : Tri 1 109 m_X0_isSeen [vR 1 0 0, vI (nI j), vI (nI c)] (rM I L) (pI (bI (snF a j c 0 (nG a) = true)) I L) := by
  refine ⟨k_X0_isSeen, Nat.le_of_ble_eq_true rfl, ?_⟩
  show Wp _ _ _ 0 [some (vR 1 0 0), some (vI (nI j)), some (vI (nI c)), none, none] [] (rM I L) _
  refine w_iconst (v := 0) dX0_isSeen_0 (by decide) ?_
  refine w_istore_n (ls' := [some (vR 1 0 0), some (vI (nI j)), some (vI (nI c)), some (vI (0)), none]) dX0_isSeen_1 rfl ?_
  exact l_isSeenC hc hw hj4 hcc (nG a) 0 none (Nat.zero_add _)

theorem l_agreesC {I : xF4 Int32} {L : xF4 Int64} {a : aA} (hc : CourtIs I 0 a) (hw : WF a) {j c t : Nat} (hj4 : j < 4) (hcc : c < nC a) (ht60 : t ≤ 60) : ∀ (m i : Nat) (o5 : Option xV), i + m = nG a → Wp 1 109 m_X0_agrees 3 [some (vR 1 0 0), some (vI (nI j)), some (vI (nI c)), some (vI (nI t)), some (vI (nI i)), o5] [] (rM I L) (pI (bI (agF a j c t i m = true)) I L) := by
  intro m
  induction m with
  | zero =>
    intro i o5 hi
    have e : i = nG a := by omega
    subst e
    obtain ⟨hJ, hC, hG, hD, hR, -⟩ := id hw
    refine w_iload dX0_agrees_3 rfl ?_
    refine w_aload_n dX0_agrees_5 rfl ?_
    refine w_getI ff_X0_23 rfl rfl dX0_agrees_6 ?_
    rw [show (I 1 0 0 5 : Int32) = nI (nG a) from hc.2.2.1]
    refine w_icmp_ge (tgt := 60) dX0_agrees_9 (by decide) (fun _ => ?_) (fun h => absurd (nI_le (Nat.le_refl _) (by omega)) h)
    refine w_iconst (v := 1) dX0_agrees_60 (by decide) ?_
    exact w_ireturn dX0_agrees_61 rfl (rfl) rfl (⟨by rw [← bI_tt (show agF a j c t (nG a) 0 = true from by rw [agF])], rfl⟩)
  | succ m ih =>
    intro i o5 hi
    have hlt : i < nG a := by omega
    obtain ⟨hJ, hC, hG, hD, hR, -⟩ := id hw
    obtain ⟨fg0, fg1, fg2⟩ := hw.2.2.2.2.2.2.2 i hlt
    refine w_iload dX0_agrees_3 rfl ?_
    refine w_aload_n dX0_agrees_5 rfl ?_
    refine w_getI ff_X0_23 rfl rfl dX0_agrees_6 ?_
    rw [show (I 1 0 0 5 : Int32) = nI (nG a) from hc.2.2.1]
    refine w_icmp_ge (tgt := 60) dX0_agrees_9 (by decide) (fun h => absurd h (nI_ge (b := nG a) hlt (by omega))) (fun _ => ?_)
    refine w_aload_n dX0_agrees_12 rfl ?_
    refine w_iload dX0_agrees_13 rfl ?_
    refine w_callV (as := [vI (nI i)]) (st := []) (Tri.mono (c_gAt hc hw hlt) (Nat.le_of_ble_eq_true rfl)) rfl rfl tg_X1_sightAt lk_X0_29 in_X1_sightAt se_X1_sightAt rfl dX0_agrees_15 rfl (Nat.le_of_ble_eq_true rfl) (Nat.le_refl _) (Nat.le_refl _) ?_
    rintro _ _ ⟨rfl, rfl⟩ -
    refine w_astore (ls' := [some (vR 1 0 0), some (vI (nI j)), some (vI (nI c)), some (vI (nI t)), some (vI (nI i)), some (vR 7 0 i)]) dX0_agrees_18 rfl ?_
    refine w_aload dX0_agrees_20 rfl ?_
    refine w_ifnull (tgt := 54) dX0_agrees_22 (by decide) (fun h => by cases h) (fun _ _ => ?_)
    refine w_aload dX0_agrees_25 rfl ?_
    refine w_getI ff_X0_33 rfl rfl dX0_agrees_27 ?_
    rw [show (I 7 0 i 0 : Int32) = nI (gF a i 0) from hc.g hlt (by decide)]
    refine w_iload_n dX0_agrees_30 rfl ?_
    refine w_icmp_ne (tgt := 54) dX0_agrees_31 (by decide) (fun h1 => ?_) (fun h1 => ?_)
    · skip
      replace h1 : ¬ ((gF a i 0) = (j)) := fun q => h1 ((nI_eq (a := gF a i 0) (b := j) (by omega) (by omega)).mpr q)
      first
      | (exfalso; omega)
      | skip
        rw [show agF a j c t i (m + 1) = agF a j c t (i + 1) m from by rw [agF]; simp [h1]]
        refine w_iinc (v := nI (i + 1)) (ls' := [some (vR 1 0 0), some (vI (nI j)), some (vI (nI c)), some (vI (nI t)), some (vI (nI (i + 1))), some (vR 7 0 i)]) dX0_agrees_54 rfl (nI_1 _) rfl ?_
        refine w_goto (tgt := 3) dX0_agrees_57 (by decide) ?_
        exact ih (i + 1) _ (by omega)
    · skip
      replace h1 : (gF a i 0) = (j) := (nI_eq (a := gF a i 0) (b := j) (by omega) (by omega)).mp h1
      first
      | (exfalso; omega)
      | skip
        refine w_aload dX0_agrees_34 rfl ?_
        refine w_getI ff_X0_42 rfl rfl dX0_agrees_36 ?_
        rw [show (I 7 0 i 1 : Int32) = nI (gF a i 1) from hc.g hlt (by decide)]
        refine w_iload_n dX0_agrees_39 rfl ?_
        refine w_icmp_ne (tgt := 54) dX0_agrees_40 (by decide) (fun h2 => ?_) (fun h2 => ?_)
        · skip
          replace h2 : ¬ ((gF a i 1) = (c)) := fun q => h2 ((nI_eq (a := gF a i 1) (b := c) (by omega) (by omega)).mpr q)
          first
          | (exfalso; omega)
          | skip
            rw [show agF a j c t i (m + 1) = agF a j c t (i + 1) m from by rw [agF]; simp [h1, h2]]
            refine w_iinc (v := nI (i + 1)) (ls' := [some (vR 1 0 0), some (vI (nI j)), some (vI (nI c)), some (vI (nI t)), some (vI (nI (i + 1))), some (vR 7 0 i)]) dX0_agrees_54 rfl (nI_1 _) rfl ?_
            refine w_goto (tgt := 3) dX0_agrees_57 (by decide) ?_
            exact ih (i + 1) _ (by omega)
        · skip
          replace h2 : (gF a i 1) = (c) := (nI_eq (a := gF a i 1) (b := c) (by omega) (by omega)).mp h2
          first
          | (exfalso; omega)
          | skip
            refine w_aload dX0_agrees_43 rfl ?_
            refine w_getI ff_X0_61 rfl rfl dX0_agrees_45 ?_
            rw [show (I 7 0 i 2 : Int32) = nI (gF a i 2) from hc.g hlt (by decide)]
            refine w_iload_n dX0_agrees_48 rfl ?_
            refine w_icmp_eq (tgt := 54) dX0_agrees_49 (by decide) (fun h3 => ?_) (fun h3 => ?_)
            · skip
              replace h3 : (gF a i 2) = (t) := (nI_eq (a := gF a i 2) (b := t) (by omega) (by omega)).mp h3
              first
              | (exfalso; omega)
              | skip
                rw [show agF a j c t i (m + 1) = agF a j c t (i + 1) m from by rw [agF]; simp [h1, h2, h3]]
                refine w_iinc (v := nI (i + 1)) (ls' := [some (vR 1 0 0), some (vI (nI j)), some (vI (nI c)), some (vI (nI t)), some (vI (nI (i + 1))), some (vR 7 0 i)]) dX0_agrees_54 rfl (nI_1 _) rfl ?_
                refine w_goto (tgt := 3) dX0_agrees_57 (by decide) ?_
                exact ih (i + 1) _ (by omega)
            · skip
              replace h3 : ¬ ((gF a i 2) = (t)) := fun q => h3 ((nI_eq (a := gF a i 2) (b := t) (by omega) (by omega)).mpr q)
              first
              | (exfalso; omega)
              | skip
                refine w_iconst (v := 0) dX0_agrees_52 (by decide) ?_
                exact w_ireturn dX0_agrees_53 rfl (rfl) rfl (⟨by rw [← bI_ff (show agF a j c t i (m + 1) = false from by rw [agF]; simp [h1, h2, h3])], rfl⟩)

theorem c_agrees {I : xF4 Int32} {L : xF4 Int64} {a : aA} (hc : CourtIs I 0 a) (hw : WF a) {j c t : Nat} (hj4 : j < 4) (hcc : c < nC a) (ht60 : t ≤ 60) : Tri 1 109 m_X0_agrees [vR 1 0 0, vI (nI j), vI (nI c), vI (nI t)] (rM I L) (pI (bI (agF a j c t 0 (nG a) = true)) I L) := by
  refine ⟨k_X0_agrees, Nat.le_of_ble_eq_true rfl, ?_⟩
  show Wp _ _ _ 0 [some (vR 1 0 0), some (vI (nI j)), some (vI (nI c)), some (vI (nI t)), none, none] [] (rM I L) _
  refine w_iconst (v := 0) dX0_agrees_0 (by decide) ?_
  refine w_istore (ls' := [some (vR 1 0 0), some (vI (nI j)), some (vI (nI c)), some (vI (nI t)), some (vI (0)), none]) dX0_agrees_1 rfl ?_
  exact l_agreesC hc hw hj4 hcc ht60 (nG a) 0 none (Nat.zero_add _)

theorem l_someKind {I : xF4 Int32} {L : xF4 Int64} {a : aA} (hc : CourtIs I 0 a) (hw : WF a) {kb j c n : Nat} (hkb : kb < 16) (hj4 : j < 4) (hcc : c < nC a) (hn : n ≤ 60) : ∀ (m i : Nat) , i + m = 4 → Wp 2 109 m_X0_someKind 3 [some (vR 1 0 0), some (vI (nI kb)), some (vI (nI j)), some (vI (nI c)), some (vI (nI n)), some (vI (nI i))] [] (rM I L) (pI (bI (skF a kb j c n i m = true)) I L) := by
  intro m
  induction m with
  | zero =>
    intro i  hi
    have e : i = 4 := by omega
    subst e
    obtain ⟨hJ, hC, hG, hD, hR, -⟩ := id hw
    refine w_iload dX0_someKind_3 rfl ?_
    refine w_iconst (v := 4) dX0_someKind_5 (by decide) ?_
    refine w_icmp_ge (tgt := 42) dX0_someKind_6 (by decide) (fun _ => ?_) (fun h => absurd (by decide) h)
    refine w_iconst (v := 0) dX0_someKind_42 (by decide) ?_
    exact w_ireturn dX0_someKind_43 rfl (rfl) rfl (⟨by rw [← bI_ff (show skF a kb j c n (4) 0 = false from by rw [skF])], rfl⟩)
  | succ m ih =>
    intro i  hi
    have hlt : i < 4 := by omega
    obtain ⟨hJ, hC, hG, hD, hR, -⟩ := id hw
    have ht := tenN_le (kind := i) (n := n) (by omega) hn
    refine w_iload dX0_someKind_3 rfl ?_
    refine w_iconst (v := 4) dX0_someKind_5 (by decide) ?_
    refine w_icmp_ge (tgt := 42) dX0_someKind_6 (by decide) (fun h => absurd h (nI_ge (b := 4) hlt (by omega))) (fun _ => ?_)
    refine w_iload_n dX0_someKind_9 rfl ?_
    refine w_iload dX0_someKind_10 rfl ?_
    refine w_ishr dX0_someKind_12 ?_
    refine w_iconst (v := 1) dX0_someKind_13 (by decide) ?_
    refine w_iand dX0_someKind_14 ?_
    rw [show (((nI kb) >>> ((nI i) &&& 31)) &&& (1) : Int32) = bI (kb.testBit i = true) from tb16 _ hkb _ hlt]
    refine w_ifeq_b (tgt := 36) dX0_someKind_15 (by decide) (fun h1 => ?_) (fun h1 => ?_)
    · skip
      first
      | (exfalso; omega)
      | skip
        rw [show skF a kb j c n i (m + 1) = skF a kb j c n (i + 1) m from by rw [skF]; simp [h1]]
        refine w_iinc (v := nI (i + 1)) (ls' := [some (vR 1 0 0), some (vI (nI kb)), some (vI (nI j)), some (vI (nI c)), some (vI (nI n)), some (vI (nI (i + 1)))]) dX0_someKind_36 rfl (nI_1 _) rfl ?_
        refine w_goto (tgt := 3) dX0_someKind_39 (by decide) ?_
        exact ih (i + 1) (by omega)
    · skip
      first
      | (exfalso; omega)
      | skip
        refine w_aload_n dX0_someKind_18 rfl ?_
        refine w_iload_n dX0_someKind_19 rfl ?_
        refine w_iload_n dX0_someKind_20 rfl ?_
        refine w_iload dX0_someKind_21 rfl ?_
        refine w_iload dX0_someKind_23 rfl ?_
        refine w_callSN (as := [vI (nI i), vI (nI n)]) (st := [vI (nI c), vI (nI j), vR 1 0 0]) (Tri.mono (c_X10_tenthBy (nI i) (nI n)) (Nat.le_of_ble_eq_true rfl)) tg_X10_tenthBy ln_X0_57 sa_X10_tenthBy rfl dX0_someKind_25 rfl (Nat.le_of_ble_eq_true rfl) (Nat.le_refl _) (Nat.le_refl _) ?_
        rintro _ _ ⟨rfl, rfl⟩ -
        refine w_top (y := nI (tenN i n)) (show (tenI (nI i) (nI n) : Int32) = nI (tenN i n) from tenI_N (by omega) (by omega)) ?_
        refine w_callS (as := [vR 1 0 0, vI (nI j), vI (nI c), vI (nI (tenN i n))]) (st := []) (Tri.mono (c_agrees hc hw hj4 hcc (t := tenN i n) (by omega)) (Nat.le_of_ble_eq_true rfl)) tg_X0_agrees lk_X0_74 sa_X0_agrees rfl dX0_someKind_28 rfl (Nat.le_of_ble_eq_true rfl) (Nat.le_refl _) (Nat.le_refl _) ?_
        rintro _ _ ⟨rfl, rfl⟩ -
        refine w_ifeq_b (tgt := 36) dX0_someKind_31 (by decide) (fun h2 => ?_) (fun h2 => ?_)
        · skip
          first
          | (exfalso; omega)
          | skip
            rw [show skF a kb j c n i (m + 1) = skF a kb j c n (i + 1) m from by rw [skF]; simp [h1, h2]]
            refine w_iinc (v := nI (i + 1)) (ls' := [some (vR 1 0 0), some (vI (nI kb)), some (vI (nI j)), some (vI (nI c)), some (vI (nI n)), some (vI (nI (i + 1)))]) dX0_someKind_36 rfl (nI_1 _) rfl ?_
            refine w_goto (tgt := 3) dX0_someKind_39 (by decide) ?_
            exact ih (i + 1) (by omega)
        · skip
          first
          | (exfalso; omega)
          | skip
            refine w_iconst (v := 1) dX0_someKind_34 (by decide) ?_
            exact w_ireturn dX0_someKind_35 rfl (rfl) rfl (⟨by rw [← bI_tt (show skF a kb j c n i (m + 1) = true from by rw [skF]; simp [h1, h2])], rfl⟩)

theorem c_someKind {I : xF4 Int32} {L : xF4 Int64} {a : aA} (hc : CourtIs I 0 a) (hw : WF a) {kb j c n : Nat} (hkb : kb < 16) (hj4 : j < 4) (hcc : c < nC a) (hn : n ≤ 60) : Tri 2 109 m_X0_someKind [vR 1 0 0, vI (nI kb), vI (nI j), vI (nI c), vI (nI n)] (rM I L) (pI (bI (skF a kb j c n 0 4 = true)) I L) := by
  refine ⟨k_X0_someKind, Nat.le_of_ble_eq_true rfl, ?_⟩
  show Wp _ _ _ 0 [some (vR 1 0 0), some (vI (nI kb)), some (vI (nI j)), some (vI (nI c)), some (vI (nI n)), none] [] (rM I L) _
  refine w_iconst (v := 0) dX0_someKind_0 (by decide) ?_
  refine w_istore (ls' := [some (vR 1 0 0), some (vI (nI kb)), some (vI (nI j)), some (vI (nI c)), some (vI (nI n)), some (vI (0))]) dX0_someKind_1 rfl ?_
  exact l_someKind hc hw hkb hj4 hcc hn (4) 0 (Nat.zero_add _)

/-- the kinds of each judge, gathered -/
def GatIs (I : xF4 Int32) (a : aA) : Prop := ∀ i, i < 4 → I 18 0 0 i = nI (kindsN a i)

theorem l_gather {L : xF4 Int64} {a : aA} (hw : WF a) {I0 : xF4 Int32} : ∀ (m j : Nat) (I : xF4 Int32), j + m = 4 → CourtIs I 0 a → (∀ i, i < j → I 18 0 0 i = nI (kindsN a i)) → FrQ I0 I → Wp 5 109 m_X0_gather 2 [some (vR 17 0 0), some (vR 1 0 0), some (vI (nI j))] [] (rM I L) (fun v M => v = none ∧ ∃ I', M = rM I' L ∧ CourtIs I' 0 a ∧ GatIs I' a ∧ FrQ I0 I') := by
  intro m
  induction m with
  | zero =>
    intro j I hj hc hg hf
    have e : j = 4 := by omega
    subst e
    refine w_iload_n dX0_gather_2 rfl ?_
    refine w_aload_n dX0_gather_3 rfl ?_
    refine w_getR (w := some (18, 0, 0)) ff_X0_9 rfl rfl dX0_gather_4 rfl ?_
    refine w_alen (v := 4) rfl rfl dX0_gather_7 ?_
    refine w_icmp_ge (tgt := 28) dX0_gather_8 (by decide) (fun _ => ?_) (fun h => absurd (by decide) h)
    exact w_return dX0_gather_28 rfl rfl (⟨rfl, I, rfl, hc, hg, hf⟩)
  | succ m ih =>
    intro j I hj hc hg hf
    have hlt : j < 4 := by omega
    refine w_iload_n dX0_gather_2 rfl ?_
    refine w_aload_n dX0_gather_3 rfl ?_
    refine w_getR (w := some (18, 0, 0)) ff_X0_9 rfl rfl dX0_gather_4 rfl ?_
    refine w_alen (v := 4) rfl rfl dX0_gather_7 ?_
    refine w_icmp_ge (tgt := 28) dX0_gather_8 (by decide) (fun h => absurd h (nI_ge (b := 4) hlt (by omega))) (fun _ => ?_)
    refine w_aload_n dX0_gather_11 rfl ?_
    refine w_getR (w := some (18, 0, 0)) ff_X0_9 rfl rfl dX0_gather_12 rfl ?_
    refine w_iload_n dX0_gather_15 rfl ?_
    refine w_aload_n dX0_gather_16 rfl ?_
    refine w_iload_n dX0_gather_17 rfl ?_
    refine w_callS (as := [vR 1 0 0, vI (nI j)]) (st := [vI (nI j), vR 18 0 0]) (Tri.mono (c_kindsOf hc hw (j := j) hlt) (Nat.le_of_ble_eq_true rfl)) tg_X0_kindsOf lk_X0_15 sa_X0_kindsOf rfl dX0_gather_18 rfl (Nat.le_of_ble_eq_true rfl) (Nat.le_refl _) (Nat.le_refl _) ?_
    rintro _ _ ⟨rfl, rfl⟩ -
    refine w_iastore (a := j) rfl (vp_in_nI (n := j) (by omega) (by omega)) (nI_clamp (n := j) (by omega)) dX0_gather_21 ?_
    refine w_iinc (v := nI (j + 1)) (ls' := [some (vR 17 0 0), some (vR 1 0 0), some (vI (nI (j + 1)))]) dX0_gather_22 rfl (nI_1 _) rfl ?_
    refine w_goto (tgt := 2) dX0_gather_25 (by decide) ?_
    refine ih (j + 1) _ (by omega) (hc.eqv (fun t j9 s ht => xup_tag (by omega))) (fun i hi => ?_) (hf.tr (FrQ.up (Or.inl (by decide))))
    by_cases e : i = j
    · rw [e, xup_self]
    · rw [xup_slot e]; exact hg i (by omega)

theorem c_gather {I : xF4 Int32} {L : xF4 Int64} {a : aA} (hc : CourtIs I 0 a) (hw : WF a) : Tri 5 109 m_X0_gather [vR 17 0 0, vR 1 0 0] (rM I L) (fun v M => v = none ∧ ∃ I', M = rM I' L ∧ CourtIs I' 0 a ∧ GatIs I' a ∧ FrQ I I') := by
  refine ⟨k_X0_gather, Nat.le_of_ble_eq_true rfl, ?_⟩
  show Wp _ _ _ 0 [some (vR 17 0 0), some (vR 1 0 0), none] [] (rM I L) _
  refine w_iconst (v := 0) dX0_gather_0 (by decide) ?_
  refine w_istore_n (ls' := [some (vR 17 0 0), some (vR 1 0 0), some (vI (0))]) dX0_gather_1 rfl ?_
  exact l_gather hw 4 0 I rfl hc (fun i hi => absurd hi (Nat.not_lt_zero _)) FrQ.rf

theorem l_allow {I : xF4 Int32} {L : xF4 Int64} {a : aA} (hc : CourtIs I 0 a) (hw : WF a) (hga : GatIs I a) {c n : Nat} (hcc : c < nC a) (hn : n ≤ 60) : ∀ (m i : Nat) , i + m = nJ a → Wp 4 109 m_X0_allow 3 [some (vR 17 0 0), some (vR 1 0 0), some (vI (nI c)), some (vI (nI n)), some (vI (nI i))] [] (rM I L) (pI (bI (alF a c n i m = true)) I L) := by
  intro m
  induction m with
  | zero =>
    intro i  hi
    have e : i = nJ a := by omega
    subst e
    obtain ⟨hJ, hC, hG, hD, hR, -⟩ := id hw
    refine w_iload dX0_allow_3 rfl ?_
    refine w_aload_n dX0_allow_5 rfl ?_
    refine w_getI ff_X0_64 rfl rfl dX0_allow_6 ?_
    rw [show (I 1 0 0 3 : Int32) = nI (nJ a) from hc.1]
    refine w_icmp_ge (tgt := 58) dX0_allow_9 (by decide) (fun _ => ?_) (fun h => absurd (nI_le (Nat.le_refl _) (by omega)) h)
    refine w_iconst (v := 1) dX0_allow_58 (by decide) ?_
    exact w_ireturn dX0_allow_59 rfl (rfl) rfl (⟨by rw [← bI_tt (show alF a c n (nJ a) 0 = true from by rw [alF])], rfl⟩)
  | succ m ih =>
    intro i  hi
    have hlt : i < nJ a := by omega
    obtain ⟨hJ, hC, hG, hD, hR, -⟩ := id hw
    refine w_iload dX0_allow_3 rfl ?_
    refine w_aload_n dX0_allow_5 rfl ?_
    refine w_getI ff_X0_64 rfl rfl dX0_allow_6 ?_
    rw [show (I 1 0 0 3 : Int32) = nI (nJ a) from hc.1]
    refine w_icmp_ge (tgt := 58) dX0_allow_9 (by decide) (fun h => absurd h (nI_ge (b := nJ a) hlt (by omega))) (fun _ => ?_)
    refine w_iload dX0_allow_12 rfl ?_
    refine w_aload_n dX0_allow_14 rfl ?_
    refine w_getR (w := some (18, 0, 0)) ff_X0_9 rfl rfl dX0_allow_15 rfl ?_
    refine w_alen (v := 4) rfl rfl dX0_allow_18 ?_
    refine w_icmp_ge (tgt := 58) dX0_allow_19 (by decide) (fun h1 => ?_) (fun h1 => ?_)
    · skip
      replace h1 : (4) ≤ (i) := (nI_leI (a := 4) (b := i) (by omega) (by omega)).mp h1
      first
      | (exfalso; omega)
      | skip
        refine w_iconst (v := 1) dX0_allow_58 (by decide) ?_
        exact w_ireturn dX0_allow_59 rfl (rfl) rfl (⟨by rw [← bI_tt (show alF a c n i (m + 1) = true from by rw [alF]; simp [h1])], rfl⟩)
    · skip
      replace h1 : ¬ ((4) ≤ (i)) := fun q => h1 ((nI_leI (a := 4) (b := i) (by omega) (by omega)).mpr q)
      first
      | (exfalso; omega)
      | skip
        refine w_aload_n dX0_allow_22 rfl ?_
        refine w_iload dX0_allow_23 rfl ?_
        refine w_iload_n dX0_allow_25 rfl ?_
        refine w_callS (as := [vR 1 0 0, vI (nI i), vI (nI c)]) (st := []) (Tri.mono (c_isSeen hc hw (j := i) (by omega) hcc) (Nat.le_of_ble_eq_true rfl)) tg_X0_isSeen lk_X0_67 sa_X0_isSeen rfl dX0_allow_26 rfl (Nat.le_of_ble_eq_true rfl) (Nat.le_refl _) (Nat.le_refl _) ?_
        rintro _ _ ⟨rfl, rfl⟩ -
        refine w_ifeq_b (tgt := 52) dX0_allow_29 (by decide) (fun h2 => ?_) (fun h2 => ?_)
        · skip
          first
          | (exfalso; omega)
          | skip
            rw [show alF a c n i (m + 1) = alF a c n (i + 1) m from by rw [alF]; simp [h1, h2]]
            refine w_iinc (v := nI (i + 1)) (ls' := [some (vR 17 0 0), some (vR 1 0 0), some (vI (nI c)), some (vI (nI n)), some (vI (nI (i + 1)))]) dX0_allow_52 rfl (nI_1 _) rfl ?_
            refine w_goto (tgt := 3) dX0_allow_55 (by decide) ?_
            exact ih (i + 1) (by omega)
        · skip
          first
          | (exfalso; omega)
          | skip
            refine w_aload_n dX0_allow_32 rfl ?_
            refine w_aload_n dX0_allow_33 rfl ?_
            refine w_getR (w := some (18, 0, 0)) ff_X0_9 rfl rfl dX0_allow_34 rfl ?_
            refine w_iload dX0_allow_37 rfl ?_
            refine w_iaload (a := i) rfl (vp_in_nI (n := i) (by omega) (by omega)) (nI_clamp (n := i) (by omega)) dX0_allow_39 ?_
            rw [show (I 18 0 0 (i) : Int32) = nI (kindsN a i) from hga i (by omega)]
            refine w_iload dX0_allow_40 rfl ?_
            refine w_iload_n dX0_allow_42 rfl ?_
            refine w_iload_n dX0_allow_43 rfl ?_
            refine w_callS (as := [vR 1 0 0, vI (nI (kindsN a i)), vI (nI i), vI (nI c), vI (nI n)]) (st := []) (Tri.mono (c_someKind hc hw (kindsN_lt a i) (j := i) (by omega) hcc hn) (Nat.le_of_ble_eq_true rfl)) tg_X0_someKind lk_X0_70 sa_X0_someKind rfl dX0_allow_44 rfl (Nat.le_of_ble_eq_true rfl) (Nat.le_refl _) (Nat.le_refl _) ?_
            rintro _ _ ⟨rfl, rfl⟩ -
            refine w_ifne_b (tgt := 52) dX0_allow_47 (by decide) (fun h3 => ?_) (fun h3 => ?_)
            · skip
              first
              | (exfalso; omega)
              | skip
                rw [show alF a c n i (m + 1) = alF a c n (i + 1) m from by rw [alF]; simp [h1, h2, h3]]
                refine w_iinc (v := nI (i + 1)) (ls' := [some (vR 17 0 0), some (vR 1 0 0), some (vI (nI c)), some (vI (nI n)), some (vI (nI (i + 1)))]) dX0_allow_52 rfl (nI_1 _) rfl ?_
                refine w_goto (tgt := 3) dX0_allow_55 (by decide) ?_
                exact ih (i + 1) (by omega)
            · skip
              first
              | (exfalso; omega)
              | skip
                refine w_iconst (v := 0) dX0_allow_50 (by decide) ?_
                exact w_ireturn dX0_allow_51 rfl (rfl) rfl (⟨by rw [← bI_ff (show alF a c n i (m + 1) = false from by rw [alF]; simp [h1, h2, h3])], rfl⟩)

theorem c_allow {I : xF4 Int32} {L : xF4 Int64} {a : aA} (hc : CourtIs I 0 a) (hw : WF a) (hga : GatIs I a) {c n : Nat} (hcc : c < nC a) (hn : n ≤ 60) : Tri 4 109 m_X0_allow [vR 17 0 0, vR 1 0 0, vI (nI c), vI (nI n)] (rM I L) (pI (bI (alF a c n 0 (nJ a) = true)) I L) := by
  refine ⟨k_X0_allow, Nat.le_of_ble_eq_true rfl, ?_⟩
  show Wp _ _ _ 0 [some (vR 17 0 0), some (vR 1 0 0), some (vI (nI c)), some (vI (nI n)), none] [] (rM I L) _
  refine w_iconst (v := 0) dX0_allow_0 (by decide) ?_
  refine w_istore (ls' := [some (vR 17 0 0), some (vR 1 0 0), some (vI (nI c)), some (vI (nI n)), some (vI (0))]) dX0_allow_1 rfl ?_
  exact l_allow hc hw hga hcc hn (nJ a) 0 (Nat.zero_add _)

theorem l_seenM {I : xF4 Int32} {L : xF4 Int64} {a : aA} (hs : SI I a) (hw : WF a) {j c : Nat} (hj4 : j < 4) (hcc : c < nC a) : ∀ (m i : Nat) (b : Bool), i + m = nG a → Wp 1 109 m_X11_isSeenIn 5 [some (vR 30 0 0), some (vI (nI j)), some (vI (nI c)), some (vI (bI (b = true))), some (vI (nI i))] [] (rM I L) (pI (bI ((b || snF a j c i m) = true)) I L) := by
  intro m
  induction m with
  | zero =>
    intro i b  hi
    have e : i = nG a := by omega
    subst e
    obtain ⟨hJ, hC, hG, hD, hR, -⟩ := id hw
    refine w_iload dX11_isSeenIn_5 rfl ?_
    refine w_aload_n dX11_isSeenIn_7 rfl ?_
    refine w_getR (w := some (31, 0, 0)) ff_X11_7 rfl rfl dX11_isSeenIn_8 rfl ?_
    refine w_bipush (v := 57) dX11_isSeenIn_11 (by decide) ?_
    refine w_iaload (a := 57) rfl (vp_in_nI (n := 57) (by omega) (by omega)) (nI_clamp (n := 57) (by omega)) dX11_isSeenIn_13 ?_
    rw [show (I 31 0 0 (57) : Int32) = nI (nG a) from hs.2.2.ng rfl]
    refine w_icmp_ge (tgt := 67) dX11_isSeenIn_14 (by decide) (fun _ => ?_) (fun h => absurd (nI_le (Nat.le_refl _) (by omega)) h)
    have e9 : (b || snF a j c (nG a) 0) = b := by rw [snF]; cases b <;> rfl
    refine w_iload_n dX11_isSeenIn_67 rfl ?_
    rw [e9]
    exact w_ireturn dX11_isSeenIn_68 rfl (bI_nar _) rfl (⟨rfl, rfl⟩)
  | succ m ih =>
    intro i b  hi
    have hlt : i < nG a := by omega
    obtain ⟨hJ, hC, hG, hD, hR, -⟩ := id hw
    obtain ⟨fg0, fg1, fg2⟩ := hw.2.2.2.2.2.2.2 i hlt
    refine w_iload dX11_isSeenIn_5 rfl ?_
    refine w_aload_n dX11_isSeenIn_7 rfl ?_
    refine w_getR (w := some (31, 0, 0)) ff_X11_7 rfl rfl dX11_isSeenIn_8 rfl ?_
    refine w_bipush (v := 57) dX11_isSeenIn_11 (by decide) ?_
    refine w_iaload (a := 57) rfl (vp_in_nI (n := 57) (by omega) (by omega)) (nI_clamp (n := 57) (by omega)) dX11_isSeenIn_13 ?_
    rw [show (I 31 0 0 (57) : Int32) = nI (nG a) from hs.2.2.ng rfl]
    refine w_icmp_ge (tgt := 67) dX11_isSeenIn_14 (by decide) (fun h => absurd h (nI_ge (b := nG a) hlt (by omega))) (fun _ => ?_)
    refine w_iload_n dX11_isSeenIn_17 rfl ?_
    refine w_ifne_b (tgt := 55) dX11_isSeenIn_18 (by decide) (fun h1 => ?_) (fun h1 => ?_)
    · skip
      first
      | (exfalso; omega)
      | skip
        refine w_iconst (v := 1) dX11_isSeenIn_55 (by decide) ?_
        refine w_goto (tgt := 60) dX11_isSeenIn_56 (by decide) ?_
        refine w_top (y := bI ((b || (decide (gF a i 0 = j) && decide (gF a i 1 = c))) = true)) (show (1 : Int32) = bI ((b || (decide (gF a i 0 = j) && decide (gF a i 1 = c))) = true) from bI_tt (show (b || (decide (gF a i 0 = j) && decide (gF a i 1 = c))) = true from by simp [h1])) ?_
        rw [show (b || snF a j c i (m + 1)) = ((b || (decide (gF a i 0 = j) && decide (gF a i 1 = c))) || snF a j c (i + 1) m) from by rw [snF]; rw [Bool.or_assoc]]
        refine w_istore_n (ls' := [some (vR 30 0 0), some (vI (nI j)), some (vI (nI c)), some (vI (bI ((b || (decide (gF a i 0 = j) && decide (gF a i 1 = c))) = true))), some (vI (nI i))]) dX11_isSeenIn_60 rfl ?_
        refine w_iinc (v := nI (i + 1)) (ls' := [some (vR 30 0 0), some (vI (nI j)), some (vI (nI c)), some (vI (bI ((b || (decide (gF a i 0 = j) && decide (gF a i 1 = c))) = true))), some (vI (nI (i + 1)))]) dX11_isSeenIn_61 rfl (nI_1 _) rfl ?_
        refine w_goto (tgt := 5) dX11_isSeenIn_64 (by decide) ?_
        exact ih (i + 1) (b || (decide (gF a i 0 = j) && decide (gF a i 1 = c))) (by omega)
    · skip
      first
      | (exfalso; omega)
      | skip
        refine w_aload_n dX11_isSeenIn_21 rfl ?_
        refine w_getR (w := some (31, 0, 0)) ff_X11_7 rfl rfl dX11_isSeenIn_22 rfl ?_
        refine w_bipush (v := 58) dX11_isSeenIn_25 (by decide) ?_
        refine w_iconst (v := 3) dX11_isSeenIn_27 (by decide) ?_
        refine w_iload dX11_isSeenIn_28 rfl ?_
        refine w_imul dX11_isSeenIn_30 ?_
        rw [show ((3) * (nI i) : Int32) = nI (3 * i) from ar_mul (p := 3) (q := i) rfl rfl (by first | rfl | omega)]
        refine w_iadd dX11_isSeenIn_31 ?_
        rw [show ((58) + (nI (3 * i)) : Int32) = nI (58 + (3 * i)) from ar_add (p := 58) (q := 3 * i) rfl rfl (by omega)]
        refine w_iaload (a := 58 + (3 * i)) rfl (vp_in_nI (n := 58 + (3 * i)) (by omega) (by omega)) (nI_clamp (n := 58 + (3 * i)) (by omega)) dX11_isSeenIn_32 ?_
        rw [show (I 31 0 0 (58 + (3 * i)) : Int32) = nI (gF a i 0) from hs.2.2.g hlt (f := 0) (by decide) (by omega)]
        refine w_iload_n dX11_isSeenIn_33 rfl ?_
        refine w_icmp_ne (tgt := 59) dX11_isSeenIn_34 (by decide) (fun h2 => ?_) (fun h2 => ?_)
        · skip
          replace h2 : ¬ ((gF a i 0) = (j)) := fun q => h2 ((nI_eq (a := gF a i 0) (b := j) (by omega) (by omega)).mpr q)
          first
          | (exfalso; omega)
          | skip
            refine w_iconst (v := 0) dX11_isSeenIn_59 (by decide) ?_
            refine w_top (y := bI ((b || (decide (gF a i 0 = j) && decide (gF a i 1 = c))) = true)) (show (0 : Int32) = bI ((b || (decide (gF a i 0 = j) && decide (gF a i 1 = c))) = true) from bI_ff (show (b || (decide (gF a i 0 = j) && decide (gF a i 1 = c))) = false from by simp [h1, h2])) ?_
            rw [show (b || snF a j c i (m + 1)) = ((b || (decide (gF a i 0 = j) && decide (gF a i 1 = c))) || snF a j c (i + 1) m) from by rw [snF]; rw [Bool.or_assoc]]
            refine w_istore_n (ls' := [some (vR 30 0 0), some (vI (nI j)), some (vI (nI c)), some (vI (bI ((b || (decide (gF a i 0 = j) && decide (gF a i 1 = c))) = true))), some (vI (nI i))]) dX11_isSeenIn_60 rfl ?_
            refine w_iinc (v := nI (i + 1)) (ls' := [some (vR 30 0 0), some (vI (nI j)), some (vI (nI c)), some (vI (bI ((b || (decide (gF a i 0 = j) && decide (gF a i 1 = c))) = true))), some (vI (nI (i + 1)))]) dX11_isSeenIn_61 rfl (nI_1 _) rfl ?_
            refine w_goto (tgt := 5) dX11_isSeenIn_64 (by decide) ?_
            exact ih (i + 1) (b || (decide (gF a i 0 = j) && decide (gF a i 1 = c))) (by omega)
        · skip
          replace h2 : (gF a i 0) = (j) := (nI_eq (a := gF a i 0) (b := j) (by omega) (by omega)).mp h2
          first
          | (exfalso; omega)
          | skip
            refine w_aload_n dX11_isSeenIn_37 rfl ?_
            refine w_getR (w := some (31, 0, 0)) ff_X11_7 rfl rfl dX11_isSeenIn_38 rfl ?_
            refine w_bipush (v := 58) dX11_isSeenIn_41 (by decide) ?_
            refine w_iconst (v := 3) dX11_isSeenIn_43 (by decide) ?_
            refine w_iload dX11_isSeenIn_44 rfl ?_
            refine w_imul dX11_isSeenIn_46 ?_
            rw [show ((3) * (nI i) : Int32) = nI (3 * i) from ar_mul (p := 3) (q := i) rfl rfl (by first | rfl | omega)]
            refine w_iadd dX11_isSeenIn_47 ?_
            rw [show ((58) + (nI (3 * i)) : Int32) = nI (58 + (3 * i)) from ar_add (p := 58) (q := 3 * i) rfl rfl (by omega)]
            refine w_iconst (v := 1) dX11_isSeenIn_48 (by decide) ?_
            refine w_iadd dX11_isSeenIn_49 ?_
            rw [show ((nI (58 + (3 * i))) + (1) : Int32) = nI ((58 + (3 * i)) + 1) from ar_add (p := 58 + (3 * i)) (q := 1) rfl rfl (by omega)]
            refine w_iaload (a := (58 + (3 * i)) + 1) rfl (vp_in_nI (n := (58 + (3 * i)) + 1) (by omega) (by omega)) (nI_clamp (n := (58 + (3 * i)) + 1) (by omega)) dX11_isSeenIn_50 ?_
            rw [show (I 31 0 0 ((58 + (3 * i)) + 1) : Int32) = nI (gF a i 1) from hs.2.2.g hlt (f := 1) (by decide) (by omega)]
            refine w_iload_n dX11_isSeenIn_51 rfl ?_
            refine w_icmp_ne (tgt := 59) dX11_isSeenIn_52 (by decide) (fun h3 => ?_) (fun h3 => ?_)
            · skip
              replace h3 : ¬ ((gF a i 1) = (c)) := fun q => h3 ((nI_eq (a := gF a i 1) (b := c) (by omega) (by omega)).mpr q)
              first
              | (exfalso; omega)
              | skip
                refine w_iconst (v := 0) dX11_isSeenIn_59 (by decide) ?_
                refine w_top (y := bI ((b || (decide (gF a i 0 = j) && decide (gF a i 1 = c))) = true)) (show (0 : Int32) = bI ((b || (decide (gF a i 0 = j) && decide (gF a i 1 = c))) = true) from bI_ff (show (b || (decide (gF a i 0 = j) && decide (gF a i 1 = c))) = false from by simp [h1, h2, h3])) ?_
                rw [show (b || snF a j c i (m + 1)) = ((b || (decide (gF a i 0 = j) && decide (gF a i 1 = c))) || snF a j c (i + 1) m) from by rw [snF]; rw [Bool.or_assoc]]
                refine w_istore_n (ls' := [some (vR 30 0 0), some (vI (nI j)), some (vI (nI c)), some (vI (bI ((b || (decide (gF a i 0 = j) && decide (gF a i 1 = c))) = true))), some (vI (nI i))]) dX11_isSeenIn_60 rfl ?_
                refine w_iinc (v := nI (i + 1)) (ls' := [some (vR 30 0 0), some (vI (nI j)), some (vI (nI c)), some (vI (bI ((b || (decide (gF a i 0 = j) && decide (gF a i 1 = c))) = true))), some (vI (nI (i + 1)))]) dX11_isSeenIn_61 rfl (nI_1 _) rfl ?_
                refine w_goto (tgt := 5) dX11_isSeenIn_64 (by decide) ?_
                exact ih (i + 1) (b || (decide (gF a i 0 = j) && decide (gF a i 1 = c))) (by omega)
            · skip
              replace h3 : (gF a i 1) = (c) := (nI_eq (a := gF a i 1) (b := c) (by omega) (by omega)).mp h3
              first
              | (exfalso; omega)
              | skip
                refine w_iconst (v := 1) dX11_isSeenIn_55 (by decide) ?_
                refine w_goto (tgt := 60) dX11_isSeenIn_56 (by decide) ?_
                refine w_top (y := bI ((b || (decide (gF a i 0 = j) && decide (gF a i 1 = c))) = true)) (show (1 : Int32) = bI ((b || (decide (gF a i 0 = j) && decide (gF a i 1 = c))) = true) from bI_tt (show (b || (decide (gF a i 0 = j) && decide (gF a i 1 = c))) = true from by simp [h1, h2, h3])) ?_
                rw [show (b || snF a j c i (m + 1)) = ((b || (decide (gF a i 0 = j) && decide (gF a i 1 = c))) || snF a j c (i + 1) m) from by rw [snF]; rw [Bool.or_assoc]]
                refine w_istore_n (ls' := [some (vR 30 0 0), some (vI (nI j)), some (vI (nI c)), some (vI (bI ((b || (decide (gF a i 0 = j) && decide (gF a i 1 = c))) = true))), some (vI (nI i))]) dX11_isSeenIn_60 rfl ?_
                refine w_iinc (v := nI (i + 1)) (ls' := [some (vR 30 0 0), some (vI (nI j)), some (vI (nI c)), some (vI (bI ((b || (decide (gF a i 0 = j) && decide (gF a i 1 = c))) = true))), some (vI (nI (i + 1)))]) dX11_isSeenIn_61 rfl (nI_1 _) rfl ?_
                refine w_goto (tgt := 5) dX11_isSeenIn_64 (by decide) ?_
                exact ih (i + 1) (b || (decide (gF a i 0 = j) && decide (gF a i 1 = c))) (by omega)

theorem d_isSeenIn {I : xF4 Int32} {L : xF4 Int64} {a : aA} (hs : SI I a) (hw : WF a) {j c : Nat} (hj4 : j < 4) (hcc : c < nC a) : Tri 1 109 m_X11_isSeenIn [vR 30 0 0, vI (nI j), vI (nI c)] (rM I L) (pI (bI (snF a j c 0 (nG a) = true)) I L) := by
  refine ⟨k_X11_isSeenIn, Nat.le_of_ble_eq_true rfl, ?_⟩
  show Wp _ _ _ 0 [some (vR 30 0 0), some (vI (nI j)), some (vI (nI c)), none, none] [] (rM I L) _
  refine w_iconst (v := 0) dX11_isSeenIn_0 (by decide) ?_
  refine w_istore_n (ls' := [some (vR 30 0 0), some (vI (nI j)), some (vI (nI c)), some (vI (0)), none]) dX11_isSeenIn_1 rfl ?_
  refine w_iconst (v := 0) dX11_isSeenIn_2 (by decide) ?_
  refine w_istore (ls' := [some (vR 30 0 0), some (vI (nI j)), some (vI (nI c)), some (vI (0)), some (vI (0))]) dX11_isSeenIn_3 rfl ?_
  have q := l_seenM (L := L) hs hw hj4 hcc (nG a) 0 false (Nat.zero_add _)
  rw [Bool.false_or] at q
  exact q

theorem l_soM {I : xF4 Int32} {L : xF4 Int64} {a : aA} (hs : SI I a) (hw : WF a) {j c kind n : Nat} (hj4 : j < 4) (hcc : c < nC a) (hk : kind < 4) (hn : n ≤ 60) : ∀ (m i : Nat) (b : Bool) (o7 : Option xV), i + m = nG a → Wp 1 109 m_X11_isSo 6 [some (vR 30 0 0), some (vI (nI j)), some (vI (nI c)), some (vI (nI kind)), some (vI (nI n)), some (vI (bI (b = true))), some (vI (nI i)), o7] [] (rM I L) (pI (bI ((b && agF a j c (tenN kind n) i m) = true)) I L) := by
  intro m
  induction m with
  | zero =>
    intro i b o7 hi
    have e : i = nG a := by omega
    subst e
    obtain ⟨hJ, hC, hG, hD, hR, -⟩ := id hw
    refine w_iload dX11_isSo_6 rfl ?_
    refine w_aload_n dX11_isSo_8 rfl ?_
    refine w_getR (w := some (31, 0, 0)) ff_X11_7 rfl rfl dX11_isSo_9 rfl ?_
    refine w_bipush (v := 57) dX11_isSo_12 (by decide) ?_
    refine w_iaload (a := 57) rfl (vp_in_nI (n := 57) (by omega) (by omega)) (nI_clamp (n := 57) (by omega)) dX11_isSo_14 ?_
    rw [show (I 31 0 0 (57) : Int32) = nI (nG a) from hs.2.2.ng rfl]
    refine w_icmp_ge (tgt := 87) dX11_isSo_15 (by decide) (fun _ => ?_) (fun h => absurd (nI_le (Nat.le_refl _) (by omega)) h)
    have e9 : (b && agF a j c (tenN kind n) (nG a) 0) = b := by rw [agF]; cases b <;> rfl
    refine w_iload dX11_isSo_87 rfl ?_
    rw [e9]
    exact w_ireturn dX11_isSo_89 rfl (bI_nar _) rfl (⟨rfl, rfl⟩)
  | succ m ih =>
    intro i b o7 hi
    have hlt : i < nG a := by omega
    obtain ⟨hJ, hC, hG, hD, hR, -⟩ := id hw
    obtain ⟨fg0, fg1, fg2⟩ := hw.2.2.2.2.2.2.2 i hlt
    refine w_iload dX11_isSo_6 rfl ?_
    refine w_aload_n dX11_isSo_8 rfl ?_
    refine w_getR (w := some (31, 0, 0)) ff_X11_7 rfl rfl dX11_isSo_9 rfl ?_
    refine w_bipush (v := 57) dX11_isSo_12 (by decide) ?_
    refine w_iaload (a := 57) rfl (vp_in_nI (n := 57) (by omega) (by omega)) (nI_clamp (n := 57) (by omega)) dX11_isSo_14 ?_
    rw [show (I 31 0 0 (57) : Int32) = nI (nG a) from hs.2.2.ng rfl]
    refine w_icmp_ge (tgt := 87) dX11_isSo_15 (by decide) (fun h => absurd h (nI_ge (b := nG a) hlt (by omega))) (fun _ => ?_)
    have ht := tenN_le hk hn
    refine w_bipush (v := 58) dX11_isSo_18 (by decide) ?_
    refine w_iconst (v := 3) dX11_isSo_20 (by decide) ?_
    refine w_iload dX11_isSo_21 rfl ?_
    refine w_imul dX11_isSo_23 ?_
    rw [show ((3) * (nI i) : Int32) = nI (3 * i) from ar_mul (p := 3) (q := i) rfl rfl (by first | rfl | omega)]
    refine w_iadd dX11_isSo_24 ?_
    rw [show ((58) + (nI (3 * i)) : Int32) = nI (58 + (3 * i)) from ar_add (p := 58) (q := 3 * i) rfl rfl (by omega)]
    refine w_istore (ls' := [some (vR 30 0 0), some (vI (nI j)), some (vI (nI c)), some (vI (nI kind)), some (vI (nI n)), some (vI (bI (b = true))), some (vI (nI i)), some (vI (nI (58 + (3 * i))))]) dX11_isSo_25 rfl ?_
    refine w_iload dX11_isSo_27 rfl ?_
    refine w_ifeq_b (tgt := 78) dX11_isSo_29 (by decide) (fun h1 => ?_) (fun h1 => ?_)
    · skip
      first
      | (exfalso; omega)
      | skip
        refine w_iconst (v := 0) dX11_isSo_78 (by decide) ?_
        refine w_top (y := bI ((b && (!decide (gF a i 0 = j) || (!decide (gF a i 1 = c) || decide (gF a i 2 = tenN kind n)))) = true)) (show (0 : Int32) = bI ((b && (!decide (gF a i 0 = j) || (!decide (gF a i 1 = c) || decide (gF a i 2 = tenN kind n)))) = true) from bI_ff (show (b && (!decide (gF a i 0 = j) || (!decide (gF a i 1 = c) || decide (gF a i 2 = tenN kind n)))) = false from by simp [h1, eq_comm (a := gF a i 2)])) ?_
        rw [show (b && agF a j c (tenN kind n) i (m + 1)) = ((b && (!decide (gF a i 0 = j) || (!decide (gF a i 1 = c) || decide (gF a i 2 = tenN kind n)))) && agF a j c (tenN kind n) (i + 1) m) from by rw [agF]; rw [Bool.and_assoc]]
        refine w_istore (ls' := [some (vR 30 0 0), some (vI (nI j)), some (vI (nI c)), some (vI (nI kind)), some (vI (nI n)), some (vI (bI ((b && (!decide (gF a i 0 = j) || (!decide (gF a i 1 = c) || decide (gF a i 2 = tenN kind n)))) = true))), some (vI (nI i)), some (vI (nI (58 + (3 * i))))]) dX11_isSo_79 rfl ?_
        refine w_iinc (v := nI (i + 1)) (ls' := [some (vR 30 0 0), some (vI (nI j)), some (vI (nI c)), some (vI (nI kind)), some (vI (nI n)), some (vI (bI ((b && (!decide (gF a i 0 = j) || (!decide (gF a i 1 = c) || decide (gF a i 2 = tenN kind n)))) = true))), some (vI (nI (i + 1))), some (vI (nI (58 + (3 * i))))]) dX11_isSo_81 rfl (nI_1 _) rfl ?_
        refine w_goto (tgt := 6) dX11_isSo_84 (by decide) ?_
        exact ih (i + 1) (b && (!decide (gF a i 0 = j) || (!decide (gF a i 1 = c) || decide (gF a i 2 = tenN kind n)))) _ (by omega)
    · skip
      first
      | (exfalso; omega)
      | skip
        refine w_aload_n dX11_isSo_32 rfl ?_
        refine w_getR (w := some (31, 0, 0)) ff_X11_7 rfl rfl dX11_isSo_33 rfl ?_
        refine w_iload dX11_isSo_36 rfl ?_
        refine w_iaload (a := 58 + (3 * i)) rfl (vp_in_nI (n := 58 + (3 * i)) (by omega) (by omega)) (nI_clamp (n := 58 + (3 * i)) (by omega)) dX11_isSo_38 ?_
        rw [show (I 31 0 0 (58 + (3 * i)) : Int32) = nI (gF a i 0) from hs.2.2.g hlt (f := 0) (by decide) (by omega)]
        refine w_iload_n dX11_isSo_39 rfl ?_
        refine w_icmp_ne (tgt := 74) dX11_isSo_40 (by decide) (fun h2 => ?_) (fun h2 => ?_)
        · skip
          replace h2 : ¬ ((gF a i 0) = (j)) := fun q => h2 ((nI_eq (a := gF a i 0) (b := j) (by omega) (by omega)).mpr q)
          first
          | (exfalso; omega)
          | skip
            refine w_iconst (v := 1) dX11_isSo_74 (by decide) ?_
            refine w_goto (tgt := 79) dX11_isSo_75 (by decide) ?_
            refine w_top (y := bI ((b && (!decide (gF a i 0 = j) || (!decide (gF a i 1 = c) || decide (gF a i 2 = tenN kind n)))) = true)) (show (1 : Int32) = bI ((b && (!decide (gF a i 0 = j) || (!decide (gF a i 1 = c) || decide (gF a i 2 = tenN kind n)))) = true) from bI_tt (show (b && (!decide (gF a i 0 = j) || (!decide (gF a i 1 = c) || decide (gF a i 2 = tenN kind n)))) = true from by simp [h1, h2, eq_comm (a := gF a i 2)])) ?_
            rw [show (b && agF a j c (tenN kind n) i (m + 1)) = ((b && (!decide (gF a i 0 = j) || (!decide (gF a i 1 = c) || decide (gF a i 2 = tenN kind n)))) && agF a j c (tenN kind n) (i + 1) m) from by rw [agF]; rw [Bool.and_assoc]]
            refine w_istore (ls' := [some (vR 30 0 0), some (vI (nI j)), some (vI (nI c)), some (vI (nI kind)), some (vI (nI n)), some (vI (bI ((b && (!decide (gF a i 0 = j) || (!decide (gF a i 1 = c) || decide (gF a i 2 = tenN kind n)))) = true))), some (vI (nI i)), some (vI (nI (58 + (3 * i))))]) dX11_isSo_79 rfl ?_
            refine w_iinc (v := nI (i + 1)) (ls' := [some (vR 30 0 0), some (vI (nI j)), some (vI (nI c)), some (vI (nI kind)), some (vI (nI n)), some (vI (bI ((b && (!decide (gF a i 0 = j) || (!decide (gF a i 1 = c) || decide (gF a i 2 = tenN kind n)))) = true))), some (vI (nI (i + 1))), some (vI (nI (58 + (3 * i))))]) dX11_isSo_81 rfl (nI_1 _) rfl ?_
            refine w_goto (tgt := 6) dX11_isSo_84 (by decide) ?_
            exact ih (i + 1) (b && (!decide (gF a i 0 = j) || (!decide (gF a i 1 = c) || decide (gF a i 2 = tenN kind n)))) _ (by omega)
        · skip
          replace h2 : (gF a i 0) = (j) := (nI_eq (a := gF a i 0) (b := j) (by omega) (by omega)).mp h2
          first
          | (exfalso; omega)
          | skip
            refine w_aload_n dX11_isSo_43 rfl ?_
            refine w_getR (w := some (31, 0, 0)) ff_X11_7 rfl rfl dX11_isSo_44 rfl ?_
            refine w_iload dX11_isSo_47 rfl ?_
            refine w_iconst (v := 1) dX11_isSo_49 (by decide) ?_
            refine w_iadd dX11_isSo_50 ?_
            rw [show ((nI (58 + (3 * i))) + (1) : Int32) = nI ((58 + (3 * i)) + 1) from ar_add (p := 58 + (3 * i)) (q := 1) rfl rfl (by omega)]
            refine w_iaload (a := (58 + (3 * i)) + 1) rfl (vp_in_nI (n := (58 + (3 * i)) + 1) (by omega) (by omega)) (nI_clamp (n := (58 + (3 * i)) + 1) (by omega)) dX11_isSo_51 ?_
            rw [show (I 31 0 0 ((58 + (3 * i)) + 1) : Int32) = nI (gF a i 1) from hs.2.2.g hlt (f := 1) (by decide) (by omega)]
            refine w_iload_n dX11_isSo_52 rfl ?_
            refine w_icmp_ne (tgt := 74) dX11_isSo_53 (by decide) (fun h3 => ?_) (fun h3 => ?_)
            · skip
              replace h3 : ¬ ((gF a i 1) = (c)) := fun q => h3 ((nI_eq (a := gF a i 1) (b := c) (by omega) (by omega)).mpr q)
              first
              | (exfalso; omega)
              | skip
                refine w_iconst (v := 1) dX11_isSo_74 (by decide) ?_
                refine w_goto (tgt := 79) dX11_isSo_75 (by decide) ?_
                refine w_top (y := bI ((b && (!decide (gF a i 0 = j) || (!decide (gF a i 1 = c) || decide (gF a i 2 = tenN kind n)))) = true)) (show (1 : Int32) = bI ((b && (!decide (gF a i 0 = j) || (!decide (gF a i 1 = c) || decide (gF a i 2 = tenN kind n)))) = true) from bI_tt (show (b && (!decide (gF a i 0 = j) || (!decide (gF a i 1 = c) || decide (gF a i 2 = tenN kind n)))) = true from by simp [h1, h2, h3, eq_comm (a := gF a i 2)])) ?_
                rw [show (b && agF a j c (tenN kind n) i (m + 1)) = ((b && (!decide (gF a i 0 = j) || (!decide (gF a i 1 = c) || decide (gF a i 2 = tenN kind n)))) && agF a j c (tenN kind n) (i + 1) m) from by rw [agF]; rw [Bool.and_assoc]]
                refine w_istore (ls' := [some (vR 30 0 0), some (vI (nI j)), some (vI (nI c)), some (vI (nI kind)), some (vI (nI n)), some (vI (bI ((b && (!decide (gF a i 0 = j) || (!decide (gF a i 1 = c) || decide (gF a i 2 = tenN kind n)))) = true))), some (vI (nI i)), some (vI (nI (58 + (3 * i))))]) dX11_isSo_79 rfl ?_
                refine w_iinc (v := nI (i + 1)) (ls' := [some (vR 30 0 0), some (vI (nI j)), some (vI (nI c)), some (vI (nI kind)), some (vI (nI n)), some (vI (bI ((b && (!decide (gF a i 0 = j) || (!decide (gF a i 1 = c) || decide (gF a i 2 = tenN kind n)))) = true))), some (vI (nI (i + 1))), some (vI (nI (58 + (3 * i))))]) dX11_isSo_81 rfl (nI_1 _) rfl ?_
                refine w_goto (tgt := 6) dX11_isSo_84 (by decide) ?_
                exact ih (i + 1) (b && (!decide (gF a i 0 = j) || (!decide (gF a i 1 = c) || decide (gF a i 2 = tenN kind n)))) _ (by omega)
            · skip
              replace h3 : (gF a i 1) = (c) := (nI_eq (a := gF a i 1) (b := c) (by omega) (by omega)).mp h3
              first
              | (exfalso; omega)
              | skip
                refine w_iload_n dX11_isSo_56 rfl ?_
                refine w_iload dX11_isSo_57 rfl ?_
                refine w_callS (as := [vI (nI kind), vI (nI n)]) (st := []) (Tri.mono (d_tenthBy (kind := kind) (n := n) (by omega) (by omega)) (Nat.le_of_ble_eq_true rfl)) tg_X11_tenthBy lk_X11_142 sa_X11_tenthBy rfl dX11_isSo_59 rfl (Nat.le_of_ble_eq_true rfl) (Nat.le_refl _) (Nat.le_refl _) ?_
                rintro _ _ ⟨rfl, rfl⟩ -
                refine w_aload_n dX11_isSo_62 rfl ?_
                refine w_getR (w := some (31, 0, 0)) ff_X11_7 rfl rfl dX11_isSo_63 rfl ?_
                refine w_iload dX11_isSo_66 rfl ?_
                refine w_iconst (v := 2) dX11_isSo_68 (by decide) ?_
                refine w_iadd dX11_isSo_69 ?_
                rw [show ((nI (58 + (3 * i))) + (2) : Int32) = nI ((58 + (3 * i)) + 2) from ar_add (p := 58 + (3 * i)) (q := 2) rfl rfl (by omega)]
                refine w_iaload (a := (58 + (3 * i)) + 2) rfl (vp_in_nI (n := (58 + (3 * i)) + 2) (by omega) (by omega)) (nI_clamp (n := (58 + (3 * i)) + 2) (by omega)) dX11_isSo_70 ?_
                rw [show (I 31 0 0 ((58 + (3 * i)) + 2) : Int32) = nI (gF a i 2) from hs.2.2.g hlt (f := 2) (by decide) (by omega)]
                refine w_icmp_ne (tgt := 78) dX11_isSo_71 (by decide) (fun h4 => ?_) (fun h4 => ?_)
                · skip
                  replace h4 : ¬ ((tenN kind n) = (gF a i 2)) := fun q => h4 ((nI_eq (a := tenN kind n) (b := gF a i 2) (by omega) (by omega)).mpr q)
                  first
                  | (exfalso; omega)
                  | skip
                    refine w_iconst (v := 0) dX11_isSo_78 (by decide) ?_
                    refine w_top (y := bI ((b && (!decide (gF a i 0 = j) || (!decide (gF a i 1 = c) || decide (gF a i 2 = tenN kind n)))) = true)) (show (0 : Int32) = bI ((b && (!decide (gF a i 0 = j) || (!decide (gF a i 1 = c) || decide (gF a i 2 = tenN kind n)))) = true) from bI_ff (show (b && (!decide (gF a i 0 = j) || (!decide (gF a i 1 = c) || decide (gF a i 2 = tenN kind n)))) = false from by simp [h1, h2, h3, h4, eq_comm (a := gF a i 2)])) ?_
                    rw [show (b && agF a j c (tenN kind n) i (m + 1)) = ((b && (!decide (gF a i 0 = j) || (!decide (gF a i 1 = c) || decide (gF a i 2 = tenN kind n)))) && agF a j c (tenN kind n) (i + 1) m) from by rw [agF]; rw [Bool.and_assoc]]
                    refine w_istore (ls' := [some (vR 30 0 0), some (vI (nI j)), some (vI (nI c)), some (vI (nI kind)), some (vI (nI n)), some (vI (bI ((b && (!decide (gF a i 0 = j) || (!decide (gF a i 1 = c) || decide (gF a i 2 = tenN kind n)))) = true))), some (vI (nI i)), some (vI (nI (58 + (3 * i))))]) dX11_isSo_79 rfl ?_
                    refine w_iinc (v := nI (i + 1)) (ls' := [some (vR 30 0 0), some (vI (nI j)), some (vI (nI c)), some (vI (nI kind)), some (vI (nI n)), some (vI (bI ((b && (!decide (gF a i 0 = j) || (!decide (gF a i 1 = c) || decide (gF a i 2 = tenN kind n)))) = true))), some (vI (nI (i + 1))), some (vI (nI (58 + (3 * i))))]) dX11_isSo_81 rfl (nI_1 _) rfl ?_
                    refine w_goto (tgt := 6) dX11_isSo_84 (by decide) ?_
                    exact ih (i + 1) (b && (!decide (gF a i 0 = j) || (!decide (gF a i 1 = c) || decide (gF a i 2 = tenN kind n)))) _ (by omega)
                · skip
                  replace h4 : (tenN kind n) = (gF a i 2) := (nI_eq (a := tenN kind n) (b := gF a i 2) (by omega) (by omega)).mp h4
                  first
                  | (exfalso; omega)
                  | skip
                    refine w_iconst (v := 1) dX11_isSo_74 (by decide) ?_
                    refine w_goto (tgt := 79) dX11_isSo_75 (by decide) ?_
                    refine w_top (y := bI ((b && (!decide (gF a i 0 = j) || (!decide (gF a i 1 = c) || decide (gF a i 2 = tenN kind n)))) = true)) (show (1 : Int32) = bI ((b && (!decide (gF a i 0 = j) || (!decide (gF a i 1 = c) || decide (gF a i 2 = tenN kind n)))) = true) from bI_tt (show (b && (!decide (gF a i 0 = j) || (!decide (gF a i 1 = c) || decide (gF a i 2 = tenN kind n)))) = true from by simp [h1, h2, h3, h4, eq_comm (a := gF a i 2)])) ?_
                    rw [show (b && agF a j c (tenN kind n) i (m + 1)) = ((b && (!decide (gF a i 0 = j) || (!decide (gF a i 1 = c) || decide (gF a i 2 = tenN kind n)))) && agF a j c (tenN kind n) (i + 1) m) from by rw [agF]; rw [Bool.and_assoc]]
                    refine w_istore (ls' := [some (vR 30 0 0), some (vI (nI j)), some (vI (nI c)), some (vI (nI kind)), some (vI (nI n)), some (vI (bI ((b && (!decide (gF a i 0 = j) || (!decide (gF a i 1 = c) || decide (gF a i 2 = tenN kind n)))) = true))), some (vI (nI i)), some (vI (nI (58 + (3 * i))))]) dX11_isSo_79 rfl ?_
                    refine w_iinc (v := nI (i + 1)) (ls' := [some (vR 30 0 0), some (vI (nI j)), some (vI (nI c)), some (vI (nI kind)), some (vI (nI n)), some (vI (bI ((b && (!decide (gF a i 0 = j) || (!decide (gF a i 1 = c) || decide (gF a i 2 = tenN kind n)))) = true))), some (vI (nI (i + 1))), some (vI (nI (58 + (3 * i))))]) dX11_isSo_81 rfl (nI_1 _) rfl ?_
                    refine w_goto (tgt := 6) dX11_isSo_84 (by decide) ?_
                    exact ih (i + 1) (b && (!decide (gF a i 0 = j) || (!decide (gF a i 1 = c) || decide (gF a i 2 = tenN kind n)))) _ (by omega)

theorem d_isSo {I : xF4 Int32} {L : xF4 Int64} {a : aA} (hs : SI I a) (hw : WF a) {j c kind n : Nat} (hj4 : j < 4) (hcc : c < nC a) (hk : kind < 4) (hn : n ≤ 60) : Tri 1 109 m_X11_isSo [vR 30 0 0, vI (nI j), vI (nI c), vI (nI kind), vI (nI n)] (rM I L) (pI (bI (agF a j c (tenN kind n) 0 (nG a) = true)) I L) := by
  refine ⟨k_X11_isSo, Nat.le_of_ble_eq_true rfl, ?_⟩
  show Wp _ _ _ 0 [some (vR 30 0 0), some (vI (nI j)), some (vI (nI c)), some (vI (nI kind)), some (vI (nI n)), none, none, none] [] (rM I L) _
  refine w_iconst (v := 1) dX11_isSo_0 (by decide) ?_
  refine w_istore (ls' := [some (vR 30 0 0), some (vI (nI j)), some (vI (nI c)), some (vI (nI kind)), some (vI (nI n)), some (vI (1)), none, none]) dX11_isSo_1 rfl ?_
  refine w_iconst (v := 0) dX11_isSo_3 (by decide) ?_
  refine w_istore (ls' := [some (vR 30 0 0), some (vI (nI j)), some (vI (nI c)), some (vI (nI kind)), some (vI (nI n)), some (vI (1)), some (vI (0)), none]) dX11_isSo_4 rfl ?_
  have q := l_soM (L := L) hs hw hj4 hcc hk hn (nG a) 0 true none (Nat.zero_add _)
  rw [Bool.true_and] at q
  exact q

theorem l_tsM {I : xF4 Int32} {L : xF4 Int64} {a : aA} (hs : SI I a) (hw : WF a) {kb j c n : Nat} (hkb : kb < 16) (hj4 : j < 4) (hcc : c < nC a) (hn : n ≤ 60) {x : Int32} {Q : Option xV → xM → Prop} : ∀ (m i : Nat) (b : Bool), i + m = 4 → Wp 4 109 m_X11_isTermSo 76 [some (vR 30 0 0), some (vI (nI c)), some (vI (nI n)), some (vI x), some (vI (nI j)), some (vI (bI ((b || skF a kb j c n i m) = true))), some (vI (nI kb)), some (vI (nI 4))] [] (rM I L) Q → Wp 4 109 m_X11_isTermSo 28 [some (vR 30 0 0), some (vI (nI c)), some (vI (nI n)), some (vI x), some (vI (nI j)), some (vI (bI (b = true))), some (vI (nI kb)), some (vI (nI i))] [] (rM I L) Q := by
  intro m
  induction m with
  | zero =>
    intro i b hi hk9
    have e : i = 4 := by omega
    subst e
    obtain ⟨hJ, hC, hG, hD, hR, -⟩ := id hw
    refine w_iload dX11_isTermSo_28 rfl ?_
    refine w_iconst (v := 4) dX11_isTermSo_30 (by decide) ?_
    refine w_icmp_ge (tgt := 76) dX11_isTermSo_31 (by decide) (fun _ => ?_) (fun h => absurd (by decide) h)
    have e9 : (b || skF a kb j c n (4) 0) = b := by rw [skF]; cases b <;> rfl
    rw [e9] at hk9
    exact hk9 
  | succ m ih =>
    intro i b hi hk9
    have hlt : i < 4 := by omega
    obtain ⟨hJ, hC, hG, hD, hR, -⟩ := id hw
    refine w_iload dX11_isTermSo_28 rfl ?_
    refine w_iconst (v := 4) dX11_isTermSo_30 (by decide) ?_
    refine w_icmp_ge (tgt := 76) dX11_isTermSo_31 (by decide) (fun h => absurd h (nI_ge (b := 4) hlt (by omega))) (fun _ => ?_)
    refine w_iload dX11_isTermSo_34 rfl ?_
    refine w_ifne_b (tgt := 63) dX11_isTermSo_36 (by decide) (fun h1 => ?_) (fun h1 => ?_)
    · skip
      first
      | (exfalso; omega)
      | skip
        refine w_iconst (v := 1) dX11_isTermSo_63 (by decide) ?_
        refine w_goto (tgt := 68) dX11_isTermSo_64 (by decide) ?_
        refine w_top (y := bI ((b || (kb.testBit i && agF a j c (tenN i n) 0 (nG a))) = true)) (show (1 : Int32) = bI ((b || (kb.testBit i && agF a j c (tenN i n) 0 (nG a))) = true) from bI_tt (show (b || (kb.testBit i && agF a j c (tenN i n) 0 (nG a))) = true from by simp [h1])) ?_
        rw [show (b || skF a kb j c n i (m + 1)) = ((b || (kb.testBit i && agF a j c (tenN i n) 0 (nG a))) || skF a kb j c n (i + 1) m) from by rw [skF]; rw [Bool.or_assoc]] at hk9
        refine w_istore (ls' := [some (vR 30 0 0), some (vI (nI c)), some (vI (nI n)), some (vI (x)), some (vI (nI j)), some (vI (bI ((b || (kb.testBit i && agF a j c (tenN i n) 0 (nG a))) = true))), some (vI (nI kb)), some (vI (nI i))]) dX11_isTermSo_68 rfl ?_
        refine w_iinc (v := nI (i + 1)) (ls' := [some (vR 30 0 0), some (vI (nI c)), some (vI (nI n)), some (vI (x)), some (vI (nI j)), some (vI (bI ((b || (kb.testBit i && agF a j c (tenN i n) 0 (nG a))) = true))), some (vI (nI kb)), some (vI (nI (i + 1)))]) dX11_isTermSo_70 rfl (nI_1 _) rfl ?_
        refine w_goto (tgt := 28) dX11_isTermSo_73 (by decide) ?_
        exact ih (i + 1) (b || (kb.testBit i && agF a j c (tenN i n) 0 (nG a))) (by omega) hk9
    · skip
      first
      | (exfalso; omega)
      | skip
        refine w_iload dX11_isTermSo_39 rfl ?_
        refine w_iload dX11_isTermSo_41 rfl ?_
        refine w_ishr dX11_isTermSo_43 ?_
        refine w_iconst (v := 1) dX11_isTermSo_44 (by decide) ?_
        refine w_iand dX11_isTermSo_45 ?_
        rw [show (((nI kb) >>> ((nI i) &&& 31)) &&& (1) : Int32) = bI (kb.testBit i = true) from tb16 _ hkb _ hlt]
        refine w_iconst (v := 1) dX11_isTermSo_46 (by decide) ?_
        refine w_icmp_ne (tgt := 67) dX11_isTermSo_47 (by decide) (fun h2 => ?_) (fun h2 => ?_)
        · skip
          replace h2 : ¬ kb.testBit i = true := fun q => h2 (bI_1.mpr q)
          refine w_iconst (v := 0) dX11_isTermSo_67 (by decide) ?_
          refine w_top (y := bI ((b || (kb.testBit i && agF a j c (tenN i n) 0 (nG a))) = true)) (show (0 : Int32) = bI ((b || (kb.testBit i && agF a j c (tenN i n) 0 (nG a))) = true) from bI_ff (show (b || (kb.testBit i && agF a j c (tenN i n) 0 (nG a))) = false from by simp [h1, h2])) ?_
          rw [show (b || skF a kb j c n i (m + 1)) = ((b || (kb.testBit i && agF a j c (tenN i n) 0 (nG a))) || skF a kb j c n (i + 1) m) from by rw [skF]; rw [Bool.or_assoc]] at hk9
          refine w_istore (ls' := [some (vR 30 0 0), some (vI (nI c)), some (vI (nI n)), some (vI (x)), some (vI (nI j)), some (vI (bI ((b || (kb.testBit i && agF a j c (tenN i n) 0 (nG a))) = true))), some (vI (nI kb)), some (vI (nI i))]) dX11_isTermSo_68 rfl ?_
          refine w_iinc (v := nI (i + 1)) (ls' := [some (vR 30 0 0), some (vI (nI c)), some (vI (nI n)), some (vI (x)), some (vI (nI j)), some (vI (bI ((b || (kb.testBit i && agF a j c (tenN i n) 0 (nG a))) = true))), some (vI (nI kb)), some (vI (nI (i + 1)))]) dX11_isTermSo_70 rfl (nI_1 _) rfl ?_
          refine w_goto (tgt := 28) dX11_isTermSo_73 (by decide) ?_
          exact ih (i + 1) (b || (kb.testBit i && agF a j c (tenN i n) 0 (nG a))) (by omega) hk9
        · skip
          replace h2 : kb.testBit i = true := bI_1.mp h2
          refine w_aload_n dX11_isTermSo_50 rfl ?_
          refine w_iload dX11_isTermSo_51 rfl ?_
          refine w_iload_n dX11_isTermSo_53 rfl ?_
          refine w_iload dX11_isTermSo_54 rfl ?_
          refine w_iload_n dX11_isTermSo_56 rfl ?_
          refine w_callV (as := [vI (nI j), vI (nI c), vI (nI i), vI (nI n)]) (st := []) (Tri.mono (d_isSo hs hw hj4 hcc (kind := i) hlt hn) (Nat.le_of_ble_eq_true rfl)) rfl rfl tg_X11_isSo lk_X11_287 in_X11_isSo se_X11_isSo rfl dX11_isTermSo_57 rfl (Nat.le_of_ble_eq_true rfl) (Nat.le_refl _) (Nat.le_refl _) ?_
          rintro _ _ ⟨rfl, rfl⟩ -
          refine w_ifeq_b (tgt := 67) dX11_isTermSo_60 (by decide) (fun h3 => ?_) (fun h3 => ?_)
          · skip
            first
            | (exfalso; omega)
            | skip
              refine w_iconst (v := 0) dX11_isTermSo_67 (by decide) ?_
              refine w_top (y := bI ((b || (kb.testBit i && agF a j c (tenN i n) 0 (nG a))) = true)) (show (0 : Int32) = bI ((b || (kb.testBit i && agF a j c (tenN i n) 0 (nG a))) = true) from bI_ff (show (b || (kb.testBit i && agF a j c (tenN i n) 0 (nG a))) = false from by simp [h1, h2, h3])) ?_
              rw [show (b || skF a kb j c n i (m + 1)) = ((b || (kb.testBit i && agF a j c (tenN i n) 0 (nG a))) || skF a kb j c n (i + 1) m) from by rw [skF]; rw [Bool.or_assoc]] at hk9
              refine w_istore (ls' := [some (vR 30 0 0), some (vI (nI c)), some (vI (nI n)), some (vI (x)), some (vI (nI j)), some (vI (bI ((b || (kb.testBit i && agF a j c (tenN i n) 0 (nG a))) = true))), some (vI (nI kb)), some (vI (nI i))]) dX11_isTermSo_68 rfl ?_
              refine w_iinc (v := nI (i + 1)) (ls' := [some (vR 30 0 0), some (vI (nI c)), some (vI (nI n)), some (vI (x)), some (vI (nI j)), some (vI (bI ((b || (kb.testBit i && agF a j c (tenN i n) 0 (nG a))) = true))), some (vI (nI kb)), some (vI (nI (i + 1)))]) dX11_isTermSo_70 rfl (nI_1 _) rfl ?_
              refine w_goto (tgt := 28) dX11_isTermSo_73 (by decide) ?_
              exact ih (i + 1) (b || (kb.testBit i && agF a j c (tenN i n) 0 (nG a))) (by omega) hk9
          · skip
            first
            | (exfalso; omega)
            | skip
              refine w_iconst (v := 1) dX11_isTermSo_63 (by decide) ?_
              refine w_goto (tgt := 68) dX11_isTermSo_64 (by decide) ?_
              refine w_top (y := bI ((b || (kb.testBit i && agF a j c (tenN i n) 0 (nG a))) = true)) (show (1 : Int32) = bI ((b || (kb.testBit i && agF a j c (tenN i n) 0 (nG a))) = true) from bI_tt (show (b || (kb.testBit i && agF a j c (tenN i n) 0 (nG a))) = true from by simp [h1, h2, h3])) ?_
              rw [show (b || skF a kb j c n i (m + 1)) = ((b || (kb.testBit i && agF a j c (tenN i n) 0 (nG a))) || skF a kb j c n (i + 1) m) from by rw [skF]; rw [Bool.or_assoc]] at hk9
              refine w_istore (ls' := [some (vR 30 0 0), some (vI (nI c)), some (vI (nI n)), some (vI (x)), some (vI (nI j)), some (vI (bI ((b || (kb.testBit i && agF a j c (tenN i n) 0 (nG a))) = true))), some (vI (nI kb)), some (vI (nI i))]) dX11_isTermSo_68 rfl ?_
              refine w_iinc (v := nI (i + 1)) (ls' := [some (vR 30 0 0), some (vI (nI c)), some (vI (nI n)), some (vI (x)), some (vI (nI j)), some (vI (bI ((b || (kb.testBit i && agF a j c (tenN i n) 0 (nG a))) = true))), some (vI (nI kb)), some (vI (nI (i + 1)))]) dX11_isTermSo_70 rfl (nI_1 _) rfl ?_
              refine w_goto (tgt := 28) dX11_isTermSo_73 (by decide) ?_
              exact ih (i + 1) (b || (kb.testBit i && agF a j c (tenN i n) 0 (nG a))) (by omega) hk9

theorem l_tsJ {I : xF4 Int32} {L : xF4 Int64} {a : aA} (hs : SI I a) (hw : WF a) {c n : Nat} (hcc : c < nC a) (hn : n ≤ 60) : ∀ (m i : Nat) (b : Bool) (o5 o6 o7 : Option xV), i + m = nJ a → Wp 4 109 m_X11_isTermSo 5 [some (vR 30 0 0), some (vI (nI c)), some (vI (nI n)), some (vI (bI (b = true))), some (vI (nI i)), o5, o6, o7] [] (rM I L) (pI (bI ((b && alF a c n i m) = true)) I L) := by
  intro m
  induction m with
  | zero =>
    intro i b o5 o6 o7 hi
    have e : i = nJ a := by omega
    subst e
    obtain ⟨hJ, hC, hG, hD, hR, -⟩ := id hw
    refine w_iload dX11_isTermSo_5 rfl ?_
    refine w_aload_n dX11_isTermSo_7 rfl ?_
    refine w_getI ff_X11_58 rfl rfl dX11_isTermSo_8 ?_
    rw [show (I 30 0 0 3 : Int32) = nI (nJ a) from hs.1]
    refine w_icmp_ge (tgt := 107) dX11_isTermSo_11 (by decide) (fun _ => ?_) (fun h => absurd (nI_le (Nat.le_refl _) (by omega)) h)
    have e9 : (b && alF a c n (nJ a) 0) = b := by rw [alF]; cases b <;> rfl
    refine w_iload_n dX11_isTermSo_107 rfl ?_
    rw [e9]
    exact w_ireturn dX11_isTermSo_108 rfl (bI_nar _) rfl (⟨rfl, rfl⟩)
  | succ m ih =>
    intro i b o5 o6 o7 hi
    have hlt : i < nJ a := by omega
    obtain ⟨hJ, hC, hG, hD, hR, -⟩ := id hw
    refine w_iload dX11_isTermSo_5 rfl ?_
    refine w_aload_n dX11_isTermSo_7 rfl ?_
    refine w_getI ff_X11_58 rfl rfl dX11_isTermSo_8 ?_
    rw [show (I 30 0 0 3 : Int32) = nI (nJ a) from hs.1]
    refine w_icmp_ge (tgt := 107) dX11_isTermSo_11 (by decide) (fun h => absurd h (nI_ge (b := nJ a) hlt (by omega))) (fun _ => ?_)
    refine w_iconst (v := 0) dX11_isTermSo_14 (by decide) ?_
    refine w_istore (ls' := [some (vR 30 0 0), some (vI (nI c)), some (vI (nI n)), some (vI (bI (b = true))), some (vI (nI i)), some (vI (0)), o6, o7]) dX11_isTermSo_15 rfl ?_
    refine w_aload_n dX11_isTermSo_17 rfl ?_
    refine w_iload dX11_isTermSo_18 rfl ?_
    refine w_callV (as := [vI (nI i)]) (st := []) (Tri.mono (d_kindsOf hs hw (j := i) (by omega)) (Nat.le_of_ble_eq_true rfl)) rfl rfl tg_X11_kindsOf lk_X11_284 in_X11_kindsOf se_X11_kindsOf rfl dX11_isTermSo_20 rfl (Nat.le_of_ble_eq_true rfl) (Nat.le_refl _) (Nat.le_refl _) ?_
    rintro _ _ ⟨rfl, rfl⟩ -
    refine w_istore (ls' := [some (vR 30 0 0), some (vI (nI c)), some (vI (nI n)), some (vI (bI (b = true))), some (vI (nI i)), some (vI (0)), some (vI (nI (kindsN a i))), o7]) dX11_isTermSo_23 rfl ?_
    refine w_iconst (v := 0) dX11_isTermSo_25 (by decide) ?_
    refine w_istore (ls' := [some (vR 30 0 0), some (vI (nI c)), some (vI (nI n)), some (vI (bI (b = true))), some (vI (nI i)), some (vI (0)), some (vI (nI (kindsN a i))), some (vI (0))]) dX11_isTermSo_26 rfl ?_
    refine w_ls (congrArg (fun z9 : Int32 => [some (vR 30 0 0), some (vI (nI c)), some (vI (nI n)), some (vI (bI (b = true))), some (vI (nI i)), some (vI z9), some (vI (nI (kindsN a i))), some (vI (0))]) (show (0 : Int32) = bI (false = true) from rfl)) ?_
    refine l_tsM hs hw (kindsN_lt a i) (by omega) hcc hn 4 0 false rfl ?_
    rw [Bool.false_or]
    refine w_iload_n dX11_isTermSo_76 rfl ?_
    refine w_ifeq_b (tgt := 99) dX11_isTermSo_77 (by decide) (fun h1 => ?_) (fun h1 => ?_)
    · skip
      first
      | (exfalso; omega)
      | skip
        refine w_iconst (v := 0) dX11_isTermSo_99 (by decide) ?_
        refine w_top (y := bI ((b && (!snF a i c 0 (nG a) || skF a (kindsN a i) i c n 0 4)) = true)) (show (0 : Int32) = bI ((b && (!snF a i c 0 (nG a) || skF a (kindsN a i) i c n 0 4)) = true) from bI_ff (show (b && (!snF a i c 0 (nG a) || skF a (kindsN a i) i c n 0 4)) = false from by simp [h1])) ?_
        rw [show (b && alF a c n i (m + 1)) = ((b && (!snF a i c 0 (nG a) || skF a (kindsN a i) i c n 0 4)) && alF a c n (i + 1) m) from by rw [alF]; rw [Bool.and_assoc]]
        refine w_istore_n (ls' := [some (vR 30 0 0), some (vI (nI c)), some (vI (nI n)), some (vI (bI ((b && (!snF a i c 0 (nG a) || skF a (kindsN a i) i c n 0 4)) = true))), some (vI (nI i)), some (vI (bI (skF a (kindsN a i) i c n 0 4 = true))), some (vI (nI (kindsN a i))), some (vI (nI 4))]) dX11_isTermSo_100 rfl ?_
        refine w_iinc (v := nI (i + 1)) (ls' := [some (vR 30 0 0), some (vI (nI c)), some (vI (nI n)), some (vI (bI ((b && (!snF a i c 0 (nG a) || skF a (kindsN a i) i c n 0 4)) = true))), some (vI (nI (i + 1))), some (vI (bI (skF a (kindsN a i) i c n 0 4 = true))), some (vI (nI (kindsN a i))), some (vI (nI 4))]) dX11_isTermSo_101 rfl (nI_1 _) rfl ?_
        refine w_goto (tgt := 5) dX11_isTermSo_104 (by decide) ?_
        exact ih (i + 1) (b && (!snF a i c 0 (nG a) || skF a (kindsN a i) i c n 0 4)) _ _ _ (by omega)
    · skip
      first
      | (exfalso; omega)
      | skip
        refine w_iload dX11_isTermSo_80 rfl ?_
        refine w_ifne_b (tgt := 95) dX11_isTermSo_82 (by decide) (fun h2 => ?_) (fun h2 => ?_)
        · skip
          first
          | (exfalso; omega)
          | skip
            refine w_iconst (v := 1) dX11_isTermSo_95 (by decide) ?_
            refine w_goto (tgt := 100) dX11_isTermSo_96 (by decide) ?_
            refine w_top (y := bI ((b && (!snF a i c 0 (nG a) || skF a (kindsN a i) i c n 0 4)) = true)) (show (1 : Int32) = bI ((b && (!snF a i c 0 (nG a) || skF a (kindsN a i) i c n 0 4)) = true) from bI_tt (show (b && (!snF a i c 0 (nG a) || skF a (kindsN a i) i c n 0 4)) = true from by simp [h1, h2])) ?_
            rw [show (b && alF a c n i (m + 1)) = ((b && (!snF a i c 0 (nG a) || skF a (kindsN a i) i c n 0 4)) && alF a c n (i + 1) m) from by rw [alF]; rw [Bool.and_assoc]]
            refine w_istore_n (ls' := [some (vR 30 0 0), some (vI (nI c)), some (vI (nI n)), some (vI (bI ((b && (!snF a i c 0 (nG a) || skF a (kindsN a i) i c n 0 4)) = true))), some (vI (nI i)), some (vI (bI (skF a (kindsN a i) i c n 0 4 = true))), some (vI (nI (kindsN a i))), some (vI (nI 4))]) dX11_isTermSo_100 rfl ?_
            refine w_iinc (v := nI (i + 1)) (ls' := [some (vR 30 0 0), some (vI (nI c)), some (vI (nI n)), some (vI (bI ((b && (!snF a i c 0 (nG a) || skF a (kindsN a i) i c n 0 4)) = true))), some (vI (nI (i + 1))), some (vI (bI (skF a (kindsN a i) i c n 0 4 = true))), some (vI (nI (kindsN a i))), some (vI (nI 4))]) dX11_isTermSo_101 rfl (nI_1 _) rfl ?_
            refine w_goto (tgt := 5) dX11_isTermSo_104 (by decide) ?_
            exact ih (i + 1) (b && (!snF a i c 0 (nG a) || skF a (kindsN a i) i c n 0 4)) _ _ _ (by omega)
        · skip
          first
          | (exfalso; omega)
          | skip
            refine w_aload_n dX11_isTermSo_85 rfl ?_
            refine w_iload dX11_isTermSo_86 rfl ?_
            refine w_iload_n dX11_isTermSo_88 rfl ?_
            refine w_callV (as := [vI (nI i), vI (nI c)]) (st := []) (Tri.mono (d_isSeenIn hs hw (j := i) (by omega) hcc) (Nat.le_of_ble_eq_true rfl)) rfl rfl tg_X11_isSeenIn lk_X11_290 in_X11_isSeenIn se_X11_isSeenIn rfl dX11_isTermSo_89 rfl (Nat.le_of_ble_eq_true rfl) (Nat.le_refl _) (Nat.le_refl _) ?_
            rintro _ _ ⟨rfl, rfl⟩ -
            refine w_ifne_b (tgt := 99) dX11_isTermSo_92 (by decide) (fun h3 => ?_) (fun h3 => ?_)
            · skip
              first
              | (exfalso; omega)
              | skip
                refine w_iconst (v := 0) dX11_isTermSo_99 (by decide) ?_
                refine w_top (y := bI ((b && (!snF a i c 0 (nG a) || skF a (kindsN a i) i c n 0 4)) = true)) (show (0 : Int32) = bI ((b && (!snF a i c 0 (nG a) || skF a (kindsN a i) i c n 0 4)) = true) from bI_ff (show (b && (!snF a i c 0 (nG a) || skF a (kindsN a i) i c n 0 4)) = false from by simp [h1, h2, h3])) ?_
                rw [show (b && alF a c n i (m + 1)) = ((b && (!snF a i c 0 (nG a) || skF a (kindsN a i) i c n 0 4)) && alF a c n (i + 1) m) from by rw [alF]; rw [Bool.and_assoc]]
                refine w_istore_n (ls' := [some (vR 30 0 0), some (vI (nI c)), some (vI (nI n)), some (vI (bI ((b && (!snF a i c 0 (nG a) || skF a (kindsN a i) i c n 0 4)) = true))), some (vI (nI i)), some (vI (bI (skF a (kindsN a i) i c n 0 4 = true))), some (vI (nI (kindsN a i))), some (vI (nI 4))]) dX11_isTermSo_100 rfl ?_
                refine w_iinc (v := nI (i + 1)) (ls' := [some (vR 30 0 0), some (vI (nI c)), some (vI (nI n)), some (vI (bI ((b && (!snF a i c 0 (nG a) || skF a (kindsN a i) i c n 0 4)) = true))), some (vI (nI (i + 1))), some (vI (bI (skF a (kindsN a i) i c n 0 4 = true))), some (vI (nI (kindsN a i))), some (vI (nI 4))]) dX11_isTermSo_101 rfl (nI_1 _) rfl ?_
                refine w_goto (tgt := 5) dX11_isTermSo_104 (by decide) ?_
                exact ih (i + 1) (b && (!snF a i c 0 (nG a) || skF a (kindsN a i) i c n 0 4)) _ _ _ (by omega)
            · skip
              first
              | (exfalso; omega)
              | skip
                refine w_iconst (v := 1) dX11_isTermSo_95 (by decide) ?_
                refine w_goto (tgt := 100) dX11_isTermSo_96 (by decide) ?_
                refine w_top (y := bI ((b && (!snF a i c 0 (nG a) || skF a (kindsN a i) i c n 0 4)) = true)) (show (1 : Int32) = bI ((b && (!snF a i c 0 (nG a) || skF a (kindsN a i) i c n 0 4)) = true) from bI_tt (show (b && (!snF a i c 0 (nG a) || skF a (kindsN a i) i c n 0 4)) = true from by simp [h1, h2, h3])) ?_
                rw [show (b && alF a c n i (m + 1)) = ((b && (!snF a i c 0 (nG a) || skF a (kindsN a i) i c n 0 4)) && alF a c n (i + 1) m) from by rw [alF]; rw [Bool.and_assoc]]
                refine w_istore_n (ls' := [some (vR 30 0 0), some (vI (nI c)), some (vI (nI n)), some (vI (bI ((b && (!snF a i c 0 (nG a) || skF a (kindsN a i) i c n 0 4)) = true))), some (vI (nI i)), some (vI (bI (skF a (kindsN a i) i c n 0 4 = true))), some (vI (nI (kindsN a i))), some (vI (nI 4))]) dX11_isTermSo_100 rfl ?_
                refine w_iinc (v := nI (i + 1)) (ls' := [some (vR 30 0 0), some (vI (nI c)), some (vI (nI n)), some (vI (bI ((b && (!snF a i c 0 (nG a) || skF a (kindsN a i) i c n 0 4)) = true))), some (vI (nI (i + 1))), some (vI (bI (skF a (kindsN a i) i c n 0 4 = true))), some (vI (nI (kindsN a i))), some (vI (nI 4))]) dX11_isTermSo_101 rfl (nI_1 _) rfl ?_
                refine w_goto (tgt := 5) dX11_isTermSo_104 (by decide) ?_
                exact ih (i + 1) (b && (!snF a i c 0 (nG a) || skF a (kindsN a i) i c n 0 4)) _ _ _ (by omega)

theorem d_isTermSo {I : xF4 Int32} {L : xF4 Int64} {a : aA} (hs : SI I a) (hw : WF a) {c n : Nat} (hcc : c < nC a) (hn : n ≤ 60) : Tri 4 109 m_X11_isTermSo [vR 30 0 0, vI (nI c), vI (nI n)] (rM I L) (pI (bI (alF a c n 0 (nJ a) = true)) I L) := by
  refine ⟨k_X11_isTermSo, Nat.le_of_ble_eq_true rfl, ?_⟩
  show Wp _ _ _ 0 [some (vR 30 0 0), some (vI (nI c)), some (vI (nI n)), none, none, none, none, none] [] (rM I L) _
  refine w_iconst (v := 1) dX11_isTermSo_0 (by decide) ?_
  refine w_istore_n (ls' := [some (vR 30 0 0), some (vI (nI c)), some (vI (nI n)), some (vI (1)), none, none, none, none]) dX11_isTermSo_1 rfl ?_
  refine w_iconst (v := 0) dX11_isTermSo_2 (by decide) ?_
  refine w_istore (ls' := [some (vR 30 0 0), some (vI (nI c)), some (vI (nI n)), some (vI (1)), some (vI (0)), none, none, none]) dX11_isTermSo_3 rfl ?_
  have q := l_tsJ (L := L) hs hw hcc hn (nJ a) 0 true none none none (Nat.zero_add _)
  rw [Bool.true_and] at q
  exact q

theorem fstO_none {n : Nat} : fstO n none = some n := rfl
theorem fstO_some {n x : Nat} : fstO n (some x) = some x := rfl
/-- what is gathered of the sentences a case may have been given -/
def TmOk (n : Nat) (s : Nat × (Option Nat × Option Nat)) : Prop := s.1 ≤ n ∧ (s.2.1 = none ↔ s.1 = 0) ∧ (∀ x, s.2.1 = some x → x ≤ 60)
theorem TmOk.step {n : Nat} (hn : n ≤ 60) {s : Nat × (Option Nat × Option Nat)} (h : TmOk n s) : TmOk (n + 1) (s.1 + 1, (fstO n s.2.1, some n)) := by
  refine ⟨Nat.succ_le_succ h.1, ?_, fun x hx => ?_⟩
  · cases hf : s.2.1 with
    | none => exact ⟨fun q => (by cases q), fun q => (by cases q)⟩
    | some y => exact ⟨fun q => (by cases q), fun q => (by cases q)⟩
  · cases hf : s.2.1 with
    | none => rw [hf] at hx; cases hx; exact hn
    | some y => rw [hf] at hx; cases hx; exact h.2.2 _ hf
theorem TmOk.mono {n : Nat} {s : Nat × (Option Nat × Option Nat)} (h : TmOk n s) : TmOk (n + 1) s := ⟨Nat.le_succ_of_le h.1, h.2⟩
theorem nI_m4b : ∀ c, c < 100 → ¬ nI c = (-4 : Int32) := by decide +kernel
def tmN (a : aA) (c : Nat) : Nat × (Option Nat × Option Nat) := tmF a c (sF a c 1) (sF a c 2 + 1 - sF a c 1) (0, (none, none))

theorem l_termsC {I : xF4 Int32} {L : xF4 Int64} {a : aA} (hc : CourtIs I 0 a) (hw : WF a) {c : Nat} (hcc : c < nC a) (hga : GatIs I a) {what : Int32} {Q : Option xV → xM → Prop} : ∀ (m n k : Nat) (f l : Option Nat), n + m = sF a c 2 + 1 → TmOk n (k, (f, l)) → Wp 19 109 m_X10_terms 107 [some (vR 0 0 0), some (vI (nI c)), some (vI what), some (vR 5 0 c), some (vI (nI (tmF a c n m (k, (f, l))).1)), some (vI (byI (tmF a c n m (k, (f, l))).2.1)), some (vI (byI (tmF a c n m (k, (f, l))).2.2)), some (vI (nI (sF a c 2 + 1)))] [] (rM I L) Q → Wp 19 109 m_X10_terms 52 [some (vR 0 0 0), some (vI (nI c)), some (vI what), some (vR 5 0 c), some (vI (nI k)), some (vI (byI f)), some (vI (byI l)), some (vI (nI n))] [] (rM I L) Q := by
  intro m
  induction m with
  | zero =>
    intro n k f l hn ok hk
    obtain ⟨hJ, hC, hG, hD, hR, -⟩ := id hw
    obtain ⟨fc0, fc1, fc2, fc3, fc4, fc5, fc6, fc7, fc8⟩ := hw.2.2.2.2.2.2.1 c hcc
    refine w_iload dX10_terms_52 rfl ?_
    refine w_aload_n dX10_terms_54 rfl ?_
    refine w_getI ff_X10_148 rfl rfl dX10_terms_55 ?_
    rw [show (I 5 0 c 2 : Int32) = nI (sF a c 2) from hc.s hcc (by decide) (by decide)]
    refine w_icmp_gt (tgt := 107) dX10_terms_58 (by decide) (fun _ => ?_) (fun h => absurd (nI_lt (by omega) (by omega)) h)
    have e : n = sF a c 2 + 1 := by omega
    subst e
    exact hk
  | succ m ih =>
    intro n k f l hn ok hk
    obtain ⟨hJ, hC, hG, hD, hR, -⟩ := id hw
    obtain ⟨fc0, fc1, fc2, fc3, fc4, fc5, fc6, fc7, fc8⟩ := hw.2.2.2.2.2.2.1 c hcc
    refine w_iload dX10_terms_52 rfl ?_
    refine w_aload_n dX10_terms_54 rfl ?_
    refine w_getI ff_X10_148 rfl rfl dX10_terms_55 ?_
    rw [show (I 5 0 c 2 : Int32) = nI (sF a c 2) from hc.s hcc (by decide) (by decide)]
    refine w_icmp_gt (tgt := 107) dX10_terms_58 (by decide) (fun h => absurd h ((fun q => absurd ((nI_ltI (by omega) (by omega)).mp q) (by omega)))) (fun _ => ?_)
    refine w_aload_n dX10_terms_61 rfl ?_
    refine w_getR (w := some (17, 0, 0)) ff_X10_50 rfl rfl dX10_terms_62 rfl ?_
    refine w_aload_n dX10_terms_65 rfl ?_
    refine w_getR (w := some (1, 0, 0)) ff_X10_10 rfl rfl dX10_terms_66 rfl ?_
    refine w_iload_n dX10_terms_69 rfl ?_
    refine w_iload dX10_terms_70 rfl ?_
    refine w_callV (as := [vR 1 0 0, vI (nI c), vI (nI n)]) (st := []) (Tri.mono (c_allow hc hw hga hcc (n := n) (by omega)) (Nat.le_of_ble_eq_true rfl)) rfl rfl tg_X0_allow lk_X10_280 in_X0_allow se_X0_allow rfl dX10_terms_72 rfl (Nat.le_of_ble_eq_true rfl) (Nat.le_refl _) (Nat.le_refl _) ?_
    rintro _ _ ⟨rfl, rfl⟩ -
    refine w_ifeq_b (tgt := 101) dX10_terms_75 (by decide) (fun h1 => ?_) (fun h1 => ?_)
    · skip
      rw [tmF, if_neg h1] at hk
      refine w_iinc (v := nI (n + 1)) (ls' := [some (vR 0 0 0), some (vI (nI c)), some (vI (what)), some (vR 5 0 c), some (vI (nI k)), some (vI (byI f)), some (vI (byI l)), some (vI (nI (n + 1)))]) dX10_terms_101 rfl (nI_1 _) rfl ?_
      refine w_goto (tgt := 52) dX10_terms_104 (by decide) ?_
      exact ih (n + 1) k f l (by omega) ok.mono hk
    · skip
      rw [tmF, if_pos h1] at hk
      have ok1 := ok.step (n := n) (by omega)
      obtain ⟨ok2, ok3, ok4⟩ := ok
      dsimp only at ok2 ok3 ok4 ok1
      cases f with
      | none =>
        rw [show byI (none) = (-4) from rfl]
        have hk0 : k = 0 := ok3.mp rfl
        refine w_iinc (v := nI (k + 1)) (ls' := [some (vR 0 0 0), some (vI (nI c)), some (vI (what)), some (vR 5 0 c), some (vI (nI (k + 1))), some (vI ((-4))), some (vI (byI l)), some (vI (nI n))]) dX10_terms_78 rfl (nI_1 _) rfl ?_
        refine w_iload dX10_terms_81 rfl ?_
        refine w_bipush (v := (-4)) dX10_terms_83 (by decide) ?_
        refine w_icmp_ne (tgt := 93) dX10_terms_85 (by decide) (fun h => absurd ((rfl : (-4 : Int32) = -4)) h) (fun _ => ?_)
        refine w_iload dX10_terms_88 rfl ?_
        refine w_goto (tgt := 95) dX10_terms_90 (by decide) ?_
        refine w_top (y := byI (fstO n none)) (show (nI n : Int32) = byI (fstO n none) from rfl) ?_
        refine w_istore (ls' := [some (vR 0 0 0), some (vI (nI c)), some (vI (what)), some (vR 5 0 c), some (vI (nI (k + 1))), some (vI (byI (fstO n none))), some (vI (byI l)), some (vI (nI n))]) dX10_terms_95 rfl ?_
        refine w_iload dX10_terms_97 rfl ?_
        refine w_istore (ls' := [some (vR 0 0 0), some (vI (nI c)), some (vI (what)), some (vR 5 0 c), some (vI (nI (k + 1))), some (vI (byI (fstO n none))), some (vI (nI n)), some (vI (nI n))]) dX10_terms_99 rfl ?_
        refine w_iinc (v := nI (n + 1)) (ls' := [some (vR 0 0 0), some (vI (nI c)), some (vI (what)), some (vR 5 0 c), some (vI (nI (k + 1))), some (vI (byI (fstO n none))), some (vI (nI n)), some (vI (nI (n + 1)))]) dX10_terms_101 rfl (nI_1 _) rfl ?_
        refine w_goto (tgt := 52) dX10_terms_104 (by decide) ?_
        exact ih (n + 1) (k + 1) (fstO n none) (some n) (by omega) ok1 hk
      | some x =>
        rw [show byI (some x) = nI x from rfl]
        have hx60 := ok4 x rfl
        have hk0 : ¬ k = 0 := fun q => by cases ok3.mpr q
        refine w_iinc (v := nI (k + 1)) (ls' := [some (vR 0 0 0), some (vI (nI c)), some (vI (what)), some (vR 5 0 c), some (vI (nI (k + 1))), some (vI (nI x)), some (vI (byI l)), some (vI (nI n))]) dX10_terms_78 rfl (nI_1 _) rfl ?_
        refine w_iload dX10_terms_81 rfl ?_
        refine w_bipush (v := (-4)) dX10_terms_83 (by decide) ?_
        refine w_icmp_ne (tgt := 93) dX10_terms_85 (by decide) (fun _ => ?_) (fun h => absurd h (nI_m4b x (by omega)))
        refine w_iload dX10_terms_93 rfl ?_
        refine w_top (y := byI (fstO n (some x))) (show (nI x : Int32) = byI (fstO n (some x)) from rfl) ?_
        refine w_istore (ls' := [some (vR 0 0 0), some (vI (nI c)), some (vI (what)), some (vR 5 0 c), some (vI (nI (k + 1))), some (vI (byI (fstO n (some x)))), some (vI (byI l)), some (vI (nI n))]) dX10_terms_95 rfl ?_
        refine w_iload dX10_terms_97 rfl ?_
        refine w_istore (ls' := [some (vR 0 0 0), some (vI (nI c)), some (vI (what)), some (vR 5 0 c), some (vI (nI (k + 1))), some (vI (byI (fstO n (some x)))), some (vI (nI n)), some (vI (nI n))]) dX10_terms_99 rfl ?_
        refine w_iinc (v := nI (n + 1)) (ls' := [some (vR 0 0 0), some (vI (nI c)), some (vI (what)), some (vR 5 0 c), some (vI (nI (k + 1))), some (vI (byI (fstO n (some x)))), some (vI (nI n)), some (vI (nI (n + 1)))]) dX10_terms_101 rfl (nI_1 _) rfl ?_
        refine w_goto (tgt := 52) dX10_terms_104 (by decide) ?_
        exact ih (n + 1) (k + 1) (fstO n (some x)) (some n) (by omega) ok1 hk

theorem l_termsM {I : xF4 Int32} {L : xF4 Int64} {a : aA} (hs : SI I a) (hw : WF a) {c : Nat} (hcc : c < nC a) {what : Int32} {Q : Option xV → xM → Prop} : ∀ (m n k : Nat) (f l : Option Nat), n + m = sF a c 2 + 1 → TmOk n (k, (f, l)) → Wp 19 109 m_X11_terms 103 [some (vR 30 0 0), some (vI (nI c)), some (vI what), some (vI (nI (tmF a c n m (k, (f, l))).1)), some (vI (byI (tmF a c n m (k, (f, l))).2.1)), some (vI (byI (tmF a c n m (k, (f, l))).2.2)), some (vI (nI (sF a c 2 + 1)))] [] (rM I L) Q → Wp 19 109 m_X11_terms 48 [some (vR 30 0 0), some (vI (nI c)), some (vI what), some (vI (nI k)), some (vI (byI f)), some (vI (byI l)), some (vI (nI n))] [] (rM I L) Q := by
  intro m
  induction m with
  | zero =>
    intro n k f l hn ok hk
    obtain ⟨hJ, hC, hG, hD, hR, -⟩ := id hw
    obtain ⟨fc0, fc1, fc2, fc3, fc4, fc5, fc6, fc7, fc8⟩ := hw.2.2.2.2.2.2.1 c hcc
    refine w_iload dX11_terms_48 rfl ?_
    refine w_aload_n dX11_terms_50 rfl ?_
    refine w_getR (w := some (31, 0, 0)) ff_X11_7 rfl rfl dX11_terms_51 rfl ?_
    refine w_bipush (v := 20) dX11_terms_54 (by decide) ?_
    refine w_bipush (v := 7) dX11_terms_56 (by decide) ?_
    refine w_iload_n dX11_terms_58 rfl ?_
    refine w_imul dX11_terms_59 ?_
    rw [show ((7) * (nI c) : Int32) = nI (7 * c) from ar_mul (p := 7) (q := c) rfl rfl (by first | rfl | omega)]
    refine w_iadd dX11_terms_60 ?_
    rw [show ((20) + (nI (7 * c)) : Int32) = nI (20 + (7 * c)) from ar_add (p := 20) (q := 7 * c) rfl rfl (by omega)]
    refine w_iconst (v := 2) dX11_terms_61 (by decide) ?_
    refine w_iadd dX11_terms_62 ?_
    rw [show ((nI (20 + (7 * c))) + (2) : Int32) = nI ((20 + (7 * c)) + 2) from ar_add (p := 20 + (7 * c)) (q := 2) rfl rfl (by omega)]
    refine w_iaload (a := (20 + (7 * c)) + 2) rfl (vp_in_nI (n := (20 + (7 * c)) + 2) (by omega) (by omega)) (nI_clamp (n := (20 + (7 * c)) + 2) (by omega)) dX11_terms_63 ?_
    rw [show (I 31 0 0 ((20 + (7 * c)) + 2) : Int32) = nI (sF a c 2) from hs.2.2.s hcc (f := 2) (by decide) (by decide) (by omega)]
    refine w_icmp_gt (tgt := 103) dX11_terms_64 (by decide) (fun _ => ?_) (fun h => absurd (nI_lt (by omega) (by omega)) h)
    have e : n = sF a c 2 + 1 := by omega
    subst e
    exact hk
  | succ m ih =>
    intro n k f l hn ok hk
    obtain ⟨hJ, hC, hG, hD, hR, -⟩ := id hw
    obtain ⟨fc0, fc1, fc2, fc3, fc4, fc5, fc6, fc7, fc8⟩ := hw.2.2.2.2.2.2.1 c hcc
    refine w_iload dX11_terms_48 rfl ?_
    refine w_aload_n dX11_terms_50 rfl ?_
    refine w_getR (w := some (31, 0, 0)) ff_X11_7 rfl rfl dX11_terms_51 rfl ?_
    refine w_bipush (v := 20) dX11_terms_54 (by decide) ?_
    refine w_bipush (v := 7) dX11_terms_56 (by decide) ?_
    refine w_iload_n dX11_terms_58 rfl ?_
    refine w_imul dX11_terms_59 ?_
    rw [show ((7) * (nI c) : Int32) = nI (7 * c) from ar_mul (p := 7) (q := c) rfl rfl (by first | rfl | omega)]
    refine w_iadd dX11_terms_60 ?_
    rw [show ((20) + (nI (7 * c)) : Int32) = nI (20 + (7 * c)) from ar_add (p := 20) (q := 7 * c) rfl rfl (by omega)]
    refine w_iconst (v := 2) dX11_terms_61 (by decide) ?_
    refine w_iadd dX11_terms_62 ?_
    rw [show ((nI (20 + (7 * c))) + (2) : Int32) = nI ((20 + (7 * c)) + 2) from ar_add (p := 20 + (7 * c)) (q := 2) rfl rfl (by omega)]
    refine w_iaload (a := (20 + (7 * c)) + 2) rfl (vp_in_nI (n := (20 + (7 * c)) + 2) (by omega) (by omega)) (nI_clamp (n := (20 + (7 * c)) + 2) (by omega)) dX11_terms_63 ?_
    rw [show (I 31 0 0 ((20 + (7 * c)) + 2) : Int32) = nI (sF a c 2) from hs.2.2.s hcc (f := 2) (by decide) (by decide) (by omega)]
    refine w_icmp_gt (tgt := 103) dX11_terms_64 (by decide) (fun h => absurd h ((fun q => absurd ((nI_ltI (by omega) (by omega)).mp q) (by omega)))) (fun _ => ?_)
    refine w_aload_n dX11_terms_67 rfl ?_
    refine w_iload_n dX11_terms_68 rfl ?_
    refine w_iload dX11_terms_69 rfl ?_
    refine w_callV (as := [vI (nI c), vI (nI n)]) (st := []) (Tri.mono (d_isTermSo hs hw hcc (n := n) (by omega)) (Nat.le_of_ble_eq_true rfl)) rfl rfl tg_X11_isTermSo lk_X11_295 in_X11_isTermSo se_X11_isTermSo rfl dX11_terms_71 rfl (Nat.le_of_ble_eq_true rfl) (Nat.le_refl _) (Nat.le_refl _) ?_
    rintro _ _ ⟨rfl, rfl⟩ -
    refine w_ifeq_b (tgt := 97) dX11_terms_74 (by decide) (fun h1 => ?_) (fun h1 => ?_)
    · skip
      rw [tmF, if_neg h1] at hk
      refine w_iinc (v := nI (n + 1)) (ls' := [some (vR 30 0 0), some (vI (nI c)), some (vI (what)), some (vI (nI k)), some (vI (byI f)), some (vI (byI l)), some (vI (nI (n + 1)))]) dX11_terms_97 rfl (nI_1 _) rfl ?_
      refine w_goto (tgt := 48) dX11_terms_100 (by decide) ?_
      exact ih (n + 1) k f l (by omega) ok.mono hk
    · skip
      rw [tmF, if_pos h1] at hk
      have ok1 := ok.step (n := n) (by omega)
      obtain ⟨ok2, ok3, ok4⟩ := ok
      dsimp only at ok2 ok3 ok4 ok1
      cases f with
      | none =>
        rw [show byI (none) = (-4) from rfl]
        have hk0 : k = 0 := ok3.mp rfl
        refine w_iload_n dX11_terms_77 rfl ?_
        refine w_if_ne (tgt := 86) dX11_terms_78 (by decide) (fun h => absurd ((by rw [hk0]; rfl : nI k = 0)) h) (fun _ => ?_)
        refine w_iload dX11_terms_81 rfl ?_
        refine w_goto (tgt := 88) dX11_terms_83 (by decide) ?_
        refine w_top (y := byI (fstO n none)) (show (nI n : Int32) = byI (fstO n none) from rfl) ?_
        refine w_istore (ls' := [some (vR 30 0 0), some (vI (nI c)), some (vI (what)), some (vI (nI k)), some (vI (byI (fstO n none))), some (vI (byI l)), some (vI (nI n))]) dX11_terms_88 rfl ?_
        refine w_iload dX11_terms_90 rfl ?_
        refine w_istore (ls' := [some (vR 30 0 0), some (vI (nI c)), some (vI (what)), some (vI (nI k)), some (vI (byI (fstO n none))), some (vI (nI n)), some (vI (nI n))]) dX11_terms_92 rfl ?_
        refine w_iinc (v := nI (k + 1)) (ls' := [some (vR 30 0 0), some (vI (nI c)), some (vI (what)), some (vI (nI (k + 1))), some (vI (byI (fstO n none))), some (vI (nI n)), some (vI (nI n))]) dX11_terms_94 rfl (nI_1 _) rfl ?_
        refine w_iinc (v := nI (n + 1)) (ls' := [some (vR 30 0 0), some (vI (nI c)), some (vI (what)), some (vI (nI (k + 1))), some (vI (byI (fstO n none))), some (vI (nI n)), some (vI (nI (n + 1)))]) dX11_terms_97 rfl (nI_1 _) rfl ?_
        refine w_goto (tgt := 48) dX11_terms_100 (by decide) ?_
        exact ih (n + 1) (k + 1) (fstO n none) (some n) (by omega) ok1 hk
      | some x =>
        rw [show byI (some x) = nI x from rfl]
        have hx60 := ok4 x rfl
        have hk0 : ¬ k = 0 := fun q => by cases ok3.mpr q
        refine w_iload_n dX11_terms_77 rfl ?_
        refine w_if_ne (tgt := 86) dX11_terms_78 (by decide) (fun _ => ?_) (fun h => absurd h (nI_nz (by omega) (by omega)))
        refine w_iload dX11_terms_86 rfl ?_
        refine w_top (y := byI (fstO n (some x))) (show (nI x : Int32) = byI (fstO n (some x)) from rfl) ?_
        refine w_istore (ls' := [some (vR 30 0 0), some (vI (nI c)), some (vI (what)), some (vI (nI k)), some (vI (byI (fstO n (some x)))), some (vI (byI l)), some (vI (nI n))]) dX11_terms_88 rfl ?_
        refine w_iload dX11_terms_90 rfl ?_
        refine w_istore (ls' := [some (vR 30 0 0), some (vI (nI c)), some (vI (what)), some (vI (nI k)), some (vI (byI (fstO n (some x)))), some (vI (nI n)), some (vI (nI n))]) dX11_terms_92 rfl ?_
        refine w_iinc (v := nI (k + 1)) (ls' := [some (vR 30 0 0), some (vI (nI c)), some (vI (what)), some (vI (nI (k + 1))), some (vI (byI (fstO n (some x)))), some (vI (nI n)), some (vI (nI n))]) dX11_terms_94 rfl (nI_1 _) rfl ?_
        refine w_iinc (v := nI (n + 1)) (ls' := [some (vR 30 0 0), some (vI (nI c)), some (vI (what)), some (vI (nI (k + 1))), some (vI (byI (fstO n (some x)))), some (vI (nI n)), some (vI (nI (n + 1)))]) dX11_terms_97 rfl (nI_1 _) rfl ?_
        refine w_goto (tgt := 48) dX11_terms_100 (by decide) ?_
        exact ih (n + 1) (k + 1) (fstO n (some x)) (some n) (by omega) ok1 hk

theorem p_terms_0 {I : xF4 Int32} {L : xF4 Int64} {a : aA} (hc : CourtIs I 0 a) (hw : WF a) {c : Nat} (hcc : c < nC a) : Tri 19 109 m_X10_terms [vR 0 0 0, vI (nI c), vI (0)] (rM I L) (pCq (vI (nI (tmN a c).1)) I) := by
  refine ⟨k_X10_terms, Nat.le_of_ble_eq_true rfl, ?_⟩
  show Wp _ _ _ 0 [some (vR 0 0 0), some (vI (nI c)), some (vI (0)), none, none, none, none, none] [] (rM I L) _
  obtain ⟨hJ, hC, hG, hD, hR, -⟩ := id hw
  obtain ⟨fc0, fc1, fc2, fc3, fc4, fc5, fc6, fc7, fc8⟩ := hw.2.2.2.2.2.2.1 c hcc
  refine w_aload_n dX10_terms_0 rfl ?_
  refine w_getR (w := some (1, 0, 0)) ff_X10_10 rfl rfl dX10_terms_1 rfl ?_
  refine w_iload_n dX10_terms_4 rfl ?_
  refine w_callV (as := [vI (nI c)]) (st := []) (Tri.mono (c_sAt hc hw hcc) (Nat.le_of_ble_eq_true rfl)) rfl rfl tg_X1_suitAt lk_X10_136 in_X1_suitAt se_X1_suitAt rfl dX10_terms_5 rfl (Nat.le_of_ble_eq_true rfl) (Nat.le_refl _) (Nat.le_refl _) ?_
  rintro _ _ ⟨rfl, rfl⟩ -
  refine w_astore_n (ls' := [some (vR 0 0 0), some (vI (nI c)), some (vI (0)), some (vR 5 0 c), none, none, none, none]) dX10_terms_8 rfl ?_
  refine w_aload_n dX10_terms_9 rfl ?_
  refine w_ifnull (tgt := 22) dX10_terms_10 (by decide) (fun h => by cases h) (fun _ _ => ?_)
  refine w_iload_n dX10_terms_13 rfl ?_
  refine w_iconst (v := 0) dX10_terms_14 (by decide) ?_
  refine w_iconst (v := 2) dX10_terms_15 (by decide) ?_
  refine w_callS (as := [vI (0), vI (0), vI (2)]) (st := []) (Tri.mono (c_X10_within (0) (0) (2)) (Nat.le_of_ble_eq_true rfl)) tg_X10_within lk_X10_158 sa_X10_within rfl dX10_terms_16 rfl (Nat.le_of_ble_eq_true rfl) (Nat.le_refl _) (Nat.le_refl _) ?_
  rintro _ _ ⟨rfl, rfl⟩ -
  refine w_top (y := 1) (show (bI ((0 : Int32) ≤ ((0 : Int32)) ∧ ((0 : Int32)) ≤ (2 : Int32)) : Int32) = 1 from bI_t (by decide)) ?_
  refine w_if_ne (tgt := 24) dX10_terms_19 (by decide) (fun _ => ?_) (fun h => absurd h (by decide))
  refine w_aload_n dX10_terms_24 rfl ?_
  refine w_getR (w := some (17, 0, 0)) ff_X10_50 rfl rfl dX10_terms_25 rfl ?_
  refine w_aload_n dX10_terms_28 rfl ?_
  refine w_getR (w := some (1, 0, 0)) ff_X10_10 rfl rfl dX10_terms_29 rfl ?_
  refine w_callV (as := [vR 1 0 0]) (st := []) (Tri.mono (c_gather hc hw) (Nat.le_of_ble_eq_true rfl)) rfl rfl tg_X0_gather lk_X10_277 in_X0_gather se_X0_gather rfl dX10_terms_32 rfl (Nat.le_of_ble_eq_true rfl) (Nat.le_refl _) (Nat.le_refl _) ?_
  rintro v M9 ⟨rfl, I1, rfl, hc1, hga, hf1⟩ -
  refine w_iconst (v := 0) dX10_terms_35 (by decide) ?_
  refine w_istore (ls' := [some (vR 0 0 0), some (vI (nI c)), some (vI (0)), some (vR 5 0 c), some (vI (0)), none, none, none]) dX10_terms_36 rfl ?_
  refine w_bipush (v := (-4)) dX10_terms_38 (by decide) ?_
  refine w_istore (ls' := [some (vR 0 0 0), some (vI (nI c)), some (vI (0)), some (vR 5 0 c), some (vI (0)), some (vI ((-4))), none, none]) dX10_terms_40 rfl ?_
  refine w_bipush (v := (-4)) dX10_terms_42 (by decide) ?_
  refine w_istore (ls' := [some (vR 0 0 0), some (vI (nI c)), some (vI (0)), some (vR 5 0 c), some (vI (0)), some (vI ((-4))), some (vI ((-4))), none]) dX10_terms_44 rfl ?_
  refine w_aload_n dX10_terms_46 rfl ?_
  refine w_getI ff_X10_145 rfl rfl dX10_terms_47 ?_
  rw [show (I1 5 0 c 1 : Int32) = nI (sF a c 1) from hc1.s hcc (by decide) (by decide)]
  refine w_istore (ls' := [some (vR 0 0 0), some (vI (nI c)), some (vI (0)), some (vR 5 0 c), some (vI (0)), some (vI ((-4))), some (vI ((-4))), some (vI (nI (sF a c 1)))]) dX10_terms_50 rfl ?_
  refine l_termsC hc1 hw hcc hga (sF a c 2 + 1 - sF a c 1) (sF a c 1) 0 none none (by omega) ⟨Nat.zero_le _, ⟨fun _ => rfl, fun _ => rfl⟩, fun x hx => by cases hx⟩ ?_
  refine w_iload_n dX10_terms_107 rfl ?_
  refine w_if_ne (tgt := 114) dX10_terms_108 (by decide) (fun h => absurd (by decide) h) (fun _ => ?_)
  refine w_iload dX10_terms_111 rfl ?_
  exact w_ireturn dX10_terms_113 rfl (rfl) rfl (⟨rfl, _, _, rfl, hf1⟩)

theorem q_terms_0 {I : xF4 Int32} {L : xF4 Int64} {a : aA} (hs : SI I a) (hw : WF a) {c : Nat} (hcc : c < nC a) : Tri 19 109 m_X11_terms [vR 30 0 0, vI (nI c), vI (0)] (rM I L) (pMq (vI (nI (tmN a c).1)) I) := by
  refine ⟨k_X11_terms, Nat.le_of_ble_eq_true rfl, ?_⟩
  show Wp _ _ _ 0 [some (vR 30 0 0), some (vI (nI c)), some (vI (0)), none, none, none, none] [] (rM I L) _
  obtain ⟨hJ, hC, hG, hD, hR, -⟩ := id hw
  obtain ⟨fc0, fc1, fc2, fc3, fc4, fc5, fc6, fc7, fc8⟩ := hw.2.2.2.2.2.2.1 c hcc
  refine w_aload_n dX11_terms_0 rfl ?_
  refine w_iload_n dX11_terms_1 rfl ?_
  refine w_callV (as := [vI (nI c)]) (st := []) (Tri.mono (d_isCase (hs.2.1) (by omega) (x := nI c) (X := ((c : Nat) : Int)) (z_nI (by omega))) (Nat.le_of_ble_eq_true rfl)) rfl rfl tg_X11_isCase lk_X11_204 in_X11_isCase se_X11_isCase rfl dX11_terms_2 rfl (Nat.le_of_ble_eq_true rfl) (Nat.le_refl _) (Nat.le_refl _) ?_
  rintro _ _ ⟨rfl, rfl⟩ -
  refine w_ifeq_b (tgt := 20) dX11_terms_5 (by decide) (fun h1 => ?_) (fun h1 => ?_)
  · skip
    first
    | (exfalso; omega)
    | skip
      refine w_iconst (v := (-1)) dX11_terms_20 (by decide) ?_
      exact w_ireturn dX11_terms_21 rfl (rfl) rfl (⟨rfl, _, _, rfl, FrR.rf⟩)
  · skip
    first
    | (exfalso; omega)
    | skip
      refine w_iload_n dX11_terms_8 rfl ?_
      refine w_i2l dX11_terms_9 ?_
      refine w_lconst (v := 0) dX11_terms_10 (by decide) ?_
      refine w_ldc2 dX11_terms_11 cq_X11_293 ?_
      refine w_callS (as := [vL ((0 : Int32).toInt64), vL (0), vL (2)]) (st := []) (Tri.mono (d_in ((0 : Int32).toInt64) (0) (2)) (Nat.le_of_ble_eq_true rfl)) tg_X11_in lk_X11_66 sa_X11_in rfl dX11_terms_14 rfl (Nat.le_of_ble_eq_true rfl) (Nat.le_refl _) (Nat.le_refl _) ?_
      rintro _ _ ⟨rfl, rfl⟩ -
      refine w_top (y := 1) (show (bI ((0 : Int64) ≤ ((0 : Int32).toInt64) ∧ ((0 : Int32).toInt64) ≤ (2 : Int64)) : Int32) = 1 from bI_t (by decide)) ?_
      refine w_if_ne (tgt := 22) dX11_terms_17 (by decide) (fun _ => ?_) (fun h => absurd h (by decide))
      refine w_iconst (v := 0) dX11_terms_22 (by decide) ?_
      refine w_istore_n (ls' := [some (vR 30 0 0), some (vI (nI c)), some (vI (0)), some (vI (0)), none, none, none]) dX11_terms_23 rfl ?_
      refine w_bipush (v := (-4)) dX11_terms_24 (by decide) ?_
      refine w_istore (ls' := [some (vR 30 0 0), some (vI (nI c)), some (vI (0)), some (vI (0)), some (vI ((-4))), none, none]) dX11_terms_26 rfl ?_
      refine w_bipush (v := (-4)) dX11_terms_28 (by decide) ?_
      refine w_istore (ls' := [some (vR 30 0 0), some (vI (nI c)), some (vI (0)), some (vI (0)), some (vI ((-4))), some (vI ((-4))), none]) dX11_terms_30 rfl ?_
      refine w_aload_n dX11_terms_32 rfl ?_
      refine w_getR (w := some (31, 0, 0)) ff_X11_7 rfl rfl dX11_terms_33 rfl ?_
      refine w_bipush (v := 20) dX11_terms_36 (by decide) ?_
      refine w_bipush (v := 7) dX11_terms_38 (by decide) ?_
      refine w_iload_n dX11_terms_40 rfl ?_
      refine w_imul dX11_terms_41 ?_
      rw [show ((7) * (nI c) : Int32) = nI (7 * c) from ar_mul (p := 7) (q := c) rfl rfl (by first | rfl | omega)]
      refine w_iadd dX11_terms_42 ?_
      rw [show ((20) + (nI (7 * c)) : Int32) = nI (20 + (7 * c)) from ar_add (p := 20) (q := 7 * c) rfl rfl (by omega)]
      refine w_iconst (v := 1) dX11_terms_43 (by decide) ?_
      refine w_iadd dX11_terms_44 ?_
      rw [show ((nI (20 + (7 * c))) + (1) : Int32) = nI ((20 + (7 * c)) + 1) from ar_add (p := 20 + (7 * c)) (q := 1) rfl rfl (by omega)]
      refine w_iaload (a := (20 + (7 * c)) + 1) rfl (vp_in_nI (n := (20 + (7 * c)) + 1) (by omega) (by omega)) (nI_clamp (n := (20 + (7 * c)) + 1) (by omega)) dX11_terms_45 ?_
      rw [show (I 31 0 0 ((20 + (7 * c)) + 1) : Int32) = nI (sF a c 1) from hs.2.2.s hcc (f := 1) (by decide) (by decide) (by omega)]
      refine w_istore (ls' := [some (vR 30 0 0), some (vI (nI c)), some (vI (0)), some (vI (0)), some (vI ((-4))), some (vI ((-4))), some (vI (nI (sF a c 1)))]) dX11_terms_46 rfl ?_
      refine l_termsM hs hw hcc (sF a c 2 + 1 - sF a c 1) (sF a c 1) 0 none none (by omega) ⟨Nat.zero_le _, ⟨fun _ => rfl, fun _ => rfl⟩, fun x hx => by cases hx⟩ ?_
      refine w_iload_n dX11_terms_103 rfl ?_
      refine w_if_ne (tgt := 111) dX11_terms_104 (by decide) (fun h => absurd (by decide) h) (fun _ => ?_)
      refine w_iload_n dX11_terms_107 rfl ?_
      refine w_goto (tgt := 123) dX11_terms_108 (by decide) ?_
      exact w_ireturn dX11_terms_123 rfl (rfl) rfl (⟨rfl, _, _, rfl, FrR.rf⟩)

theorem p_terms_1 {I : xF4 Int32} {L : xF4 Int64} {a : aA} (hc : CourtIs I 0 a) (hw : WF a) {c : Nat} (hcc : c < nC a) : Tri 19 109 m_X10_terms [vR 0 0 0, vI (nI c), vI (1)] (rM I L) (pCq (vI (byI (tmN a c).2.1)) I) := by
  refine ⟨k_X10_terms, Nat.le_of_ble_eq_true rfl, ?_⟩
  show Wp _ _ _ 0 [some (vR 0 0 0), some (vI (nI c)), some (vI (1)), none, none, none, none, none] [] (rM I L) _
  obtain ⟨hJ, hC, hG, hD, hR, -⟩ := id hw
  obtain ⟨fc0, fc1, fc2, fc3, fc4, fc5, fc6, fc7, fc8⟩ := hw.2.2.2.2.2.2.1 c hcc
  refine w_aload_n dX10_terms_0 rfl ?_
  refine w_getR (w := some (1, 0, 0)) ff_X10_10 rfl rfl dX10_terms_1 rfl ?_
  refine w_iload_n dX10_terms_4 rfl ?_
  refine w_callV (as := [vI (nI c)]) (st := []) (Tri.mono (c_sAt hc hw hcc) (Nat.le_of_ble_eq_true rfl)) rfl rfl tg_X1_suitAt lk_X10_136 in_X1_suitAt se_X1_suitAt rfl dX10_terms_5 rfl (Nat.le_of_ble_eq_true rfl) (Nat.le_refl _) (Nat.le_refl _) ?_
  rintro _ _ ⟨rfl, rfl⟩ -
  refine w_astore_n (ls' := [some (vR 0 0 0), some (vI (nI c)), some (vI (1)), some (vR 5 0 c), none, none, none, none]) dX10_terms_8 rfl ?_
  refine w_aload_n dX10_terms_9 rfl ?_
  refine w_ifnull (tgt := 22) dX10_terms_10 (by decide) (fun h => by cases h) (fun _ _ => ?_)
  refine w_iload_n dX10_terms_13 rfl ?_
  refine w_iconst (v := 0) dX10_terms_14 (by decide) ?_
  refine w_iconst (v := 2) dX10_terms_15 (by decide) ?_
  refine w_callS (as := [vI (1), vI (0), vI (2)]) (st := []) (Tri.mono (c_X10_within (1) (0) (2)) (Nat.le_of_ble_eq_true rfl)) tg_X10_within lk_X10_158 sa_X10_within rfl dX10_terms_16 rfl (Nat.le_of_ble_eq_true rfl) (Nat.le_refl _) (Nat.le_refl _) ?_
  rintro _ _ ⟨rfl, rfl⟩ -
  refine w_top (y := 1) (show (bI ((0 : Int32) ≤ ((1 : Int32)) ∧ ((1 : Int32)) ≤ (2 : Int32)) : Int32) = 1 from bI_t (by decide)) ?_
  refine w_if_ne (tgt := 24) dX10_terms_19 (by decide) (fun _ => ?_) (fun h => absurd h (by decide))
  refine w_aload_n dX10_terms_24 rfl ?_
  refine w_getR (w := some (17, 0, 0)) ff_X10_50 rfl rfl dX10_terms_25 rfl ?_
  refine w_aload_n dX10_terms_28 rfl ?_
  refine w_getR (w := some (1, 0, 0)) ff_X10_10 rfl rfl dX10_terms_29 rfl ?_
  refine w_callV (as := [vR 1 0 0]) (st := []) (Tri.mono (c_gather hc hw) (Nat.le_of_ble_eq_true rfl)) rfl rfl tg_X0_gather lk_X10_277 in_X0_gather se_X0_gather rfl dX10_terms_32 rfl (Nat.le_of_ble_eq_true rfl) (Nat.le_refl _) (Nat.le_refl _) ?_
  rintro v M9 ⟨rfl, I1, rfl, hc1, hga, hf1⟩ -
  refine w_iconst (v := 0) dX10_terms_35 (by decide) ?_
  refine w_istore (ls' := [some (vR 0 0 0), some (vI (nI c)), some (vI (1)), some (vR 5 0 c), some (vI (0)), none, none, none]) dX10_terms_36 rfl ?_
  refine w_bipush (v := (-4)) dX10_terms_38 (by decide) ?_
  refine w_istore (ls' := [some (vR 0 0 0), some (vI (nI c)), some (vI (1)), some (vR 5 0 c), some (vI (0)), some (vI ((-4))), none, none]) dX10_terms_40 rfl ?_
  refine w_bipush (v := (-4)) dX10_terms_42 (by decide) ?_
  refine w_istore (ls' := [some (vR 0 0 0), some (vI (nI c)), some (vI (1)), some (vR 5 0 c), some (vI (0)), some (vI ((-4))), some (vI ((-4))), none]) dX10_terms_44 rfl ?_
  refine w_aload_n dX10_terms_46 rfl ?_
  refine w_getI ff_X10_145 rfl rfl dX10_terms_47 ?_
  rw [show (I1 5 0 c 1 : Int32) = nI (sF a c 1) from hc1.s hcc (by decide) (by decide)]
  refine w_istore (ls' := [some (vR 0 0 0), some (vI (nI c)), some (vI (1)), some (vR 5 0 c), some (vI (0)), some (vI ((-4))), some (vI ((-4))), some (vI (nI (sF a c 1)))]) dX10_terms_50 rfl ?_
  refine l_termsC hc1 hw hcc hga (sF a c 2 + 1 - sF a c 1) (sF a c 1) 0 none none (by omega) ⟨Nat.zero_le _, ⟨fun _ => rfl, fun _ => rfl⟩, fun x hx => by cases hx⟩ ?_
  refine w_iload_n dX10_terms_107 rfl ?_
  refine w_if_ne (tgt := 114) dX10_terms_108 (by decide) (fun _ => ?_) (fun h => absurd h (by decide))
  refine w_iload_n dX10_terms_114 rfl ?_
  refine w_iconst (v := 1) dX10_terms_115 (by decide) ?_
  refine w_icmp_ne (tgt := 124) dX10_terms_116 (by decide) (fun h => absurd (by decide) h) (fun _ => ?_)
  refine w_iload dX10_terms_119 rfl ?_
  refine w_goto (tgt := 126) dX10_terms_121 (by decide) ?_
  exact w_ireturn dX10_terms_126 rfl (rfl) rfl (⟨rfl, _, _, rfl, hf1⟩)

theorem q_terms_1 {I : xF4 Int32} {L : xF4 Int64} {a : aA} (hs : SI I a) (hw : WF a) {c : Nat} (hcc : c < nC a) : Tri 19 109 m_X11_terms [vR 30 0 0, vI (nI c), vI (1)] (rM I L) (pMq (vI (byI (tmN a c).2.1)) I) := by
  refine ⟨k_X11_terms, Nat.le_of_ble_eq_true rfl, ?_⟩
  show Wp _ _ _ 0 [some (vR 30 0 0), some (vI (nI c)), some (vI (1)), none, none, none, none] [] (rM I L) _
  obtain ⟨hJ, hC, hG, hD, hR, -⟩ := id hw
  obtain ⟨fc0, fc1, fc2, fc3, fc4, fc5, fc6, fc7, fc8⟩ := hw.2.2.2.2.2.2.1 c hcc
  refine w_aload_n dX11_terms_0 rfl ?_
  refine w_iload_n dX11_terms_1 rfl ?_
  refine w_callV (as := [vI (nI c)]) (st := []) (Tri.mono (d_isCase (hs.2.1) (by omega) (x := nI c) (X := ((c : Nat) : Int)) (z_nI (by omega))) (Nat.le_of_ble_eq_true rfl)) rfl rfl tg_X11_isCase lk_X11_204 in_X11_isCase se_X11_isCase rfl dX11_terms_2 rfl (Nat.le_of_ble_eq_true rfl) (Nat.le_refl _) (Nat.le_refl _) ?_
  rintro _ _ ⟨rfl, rfl⟩ -
  refine w_ifeq_b (tgt := 20) dX11_terms_5 (by decide) (fun h1 => ?_) (fun h1 => ?_)
  · skip
    first
    | (exfalso; omega)
    | skip
      refine w_iconst (v := (-1)) dX11_terms_20 (by decide) ?_
      exact w_ireturn dX11_terms_21 rfl (rfl) rfl (⟨rfl, _, _, rfl, FrR.rf⟩)
  · skip
    first
    | (exfalso; omega)
    | skip
      refine w_iload_n dX11_terms_8 rfl ?_
      refine w_i2l dX11_terms_9 ?_
      refine w_lconst (v := 0) dX11_terms_10 (by decide) ?_
      refine w_ldc2 dX11_terms_11 cq_X11_293 ?_
      refine w_callS (as := [vL ((1 : Int32).toInt64), vL (0), vL (2)]) (st := []) (Tri.mono (d_in ((1 : Int32).toInt64) (0) (2)) (Nat.le_of_ble_eq_true rfl)) tg_X11_in lk_X11_66 sa_X11_in rfl dX11_terms_14 rfl (Nat.le_of_ble_eq_true rfl) (Nat.le_refl _) (Nat.le_refl _) ?_
      rintro _ _ ⟨rfl, rfl⟩ -
      refine w_top (y := 1) (show (bI ((0 : Int64) ≤ ((1 : Int32).toInt64) ∧ ((1 : Int32).toInt64) ≤ (2 : Int64)) : Int32) = 1 from bI_t (by decide)) ?_
      refine w_if_ne (tgt := 22) dX11_terms_17 (by decide) (fun _ => ?_) (fun h => absurd h (by decide))
      refine w_iconst (v := 0) dX11_terms_22 (by decide) ?_
      refine w_istore_n (ls' := [some (vR 30 0 0), some (vI (nI c)), some (vI (1)), some (vI (0)), none, none, none]) dX11_terms_23 rfl ?_
      refine w_bipush (v := (-4)) dX11_terms_24 (by decide) ?_
      refine w_istore (ls' := [some (vR 30 0 0), some (vI (nI c)), some (vI (1)), some (vI (0)), some (vI ((-4))), none, none]) dX11_terms_26 rfl ?_
      refine w_bipush (v := (-4)) dX11_terms_28 (by decide) ?_
      refine w_istore (ls' := [some (vR 30 0 0), some (vI (nI c)), some (vI (1)), some (vI (0)), some (vI ((-4))), some (vI ((-4))), none]) dX11_terms_30 rfl ?_
      refine w_aload_n dX11_terms_32 rfl ?_
      refine w_getR (w := some (31, 0, 0)) ff_X11_7 rfl rfl dX11_terms_33 rfl ?_
      refine w_bipush (v := 20) dX11_terms_36 (by decide) ?_
      refine w_bipush (v := 7) dX11_terms_38 (by decide) ?_
      refine w_iload_n dX11_terms_40 rfl ?_
      refine w_imul dX11_terms_41 ?_
      rw [show ((7) * (nI c) : Int32) = nI (7 * c) from ar_mul (p := 7) (q := c) rfl rfl (by first | rfl | omega)]
      refine w_iadd dX11_terms_42 ?_
      rw [show ((20) + (nI (7 * c)) : Int32) = nI (20 + (7 * c)) from ar_add (p := 20) (q := 7 * c) rfl rfl (by omega)]
      refine w_iconst (v := 1) dX11_terms_43 (by decide) ?_
      refine w_iadd dX11_terms_44 ?_
      rw [show ((nI (20 + (7 * c))) + (1) : Int32) = nI ((20 + (7 * c)) + 1) from ar_add (p := 20 + (7 * c)) (q := 1) rfl rfl (by omega)]
      refine w_iaload (a := (20 + (7 * c)) + 1) rfl (vp_in_nI (n := (20 + (7 * c)) + 1) (by omega) (by omega)) (nI_clamp (n := (20 + (7 * c)) + 1) (by omega)) dX11_terms_45 ?_
      rw [show (I 31 0 0 ((20 + (7 * c)) + 1) : Int32) = nI (sF a c 1) from hs.2.2.s hcc (f := 1) (by decide) (by decide) (by omega)]
      refine w_istore (ls' := [some (vR 30 0 0), some (vI (nI c)), some (vI (1)), some (vI (0)), some (vI ((-4))), some (vI ((-4))), some (vI (nI (sF a c 1)))]) dX11_terms_46 rfl ?_
      refine l_termsM hs hw hcc (sF a c 2 + 1 - sF a c 1) (sF a c 1) 0 none none (by omega) ⟨Nat.zero_le _, ⟨fun _ => rfl, fun _ => rfl⟩, fun x hx => by cases hx⟩ ?_
      refine w_iload_n dX11_terms_103 rfl ?_
      refine w_if_ne (tgt := 111) dX11_terms_104 (by decide) (fun _ => ?_) (fun h => absurd h (by decide))
      refine w_iload_n dX11_terms_111 rfl ?_
      refine w_iconst (v := 1) dX11_terms_112 (by decide) ?_
      refine w_icmp_ne (tgt := 121) dX11_terms_113 (by decide) (fun h => absurd (by decide) h) (fun _ => ?_)
      refine w_iload dX11_terms_116 rfl ?_
      refine w_goto (tgt := 123) dX11_terms_118 (by decide) ?_
      exact w_ireturn dX11_terms_123 rfl (rfl) rfl (⟨rfl, _, _, rfl, FrR.rf⟩)

theorem p_terms_2 {I : xF4 Int32} {L : xF4 Int64} {a : aA} (hc : CourtIs I 0 a) (hw : WF a) {c : Nat} (hcc : c < nC a) : Tri 19 109 m_X10_terms [vR 0 0 0, vI (nI c), vI (2)] (rM I L) (pCq (vI (byI (tmN a c).2.2)) I) := by
  refine ⟨k_X10_terms, Nat.le_of_ble_eq_true rfl, ?_⟩
  show Wp _ _ _ 0 [some (vR 0 0 0), some (vI (nI c)), some (vI (2)), none, none, none, none, none] [] (rM I L) _
  obtain ⟨hJ, hC, hG, hD, hR, -⟩ := id hw
  obtain ⟨fc0, fc1, fc2, fc3, fc4, fc5, fc6, fc7, fc8⟩ := hw.2.2.2.2.2.2.1 c hcc
  refine w_aload_n dX10_terms_0 rfl ?_
  refine w_getR (w := some (1, 0, 0)) ff_X10_10 rfl rfl dX10_terms_1 rfl ?_
  refine w_iload_n dX10_terms_4 rfl ?_
  refine w_callV (as := [vI (nI c)]) (st := []) (Tri.mono (c_sAt hc hw hcc) (Nat.le_of_ble_eq_true rfl)) rfl rfl tg_X1_suitAt lk_X10_136 in_X1_suitAt se_X1_suitAt rfl dX10_terms_5 rfl (Nat.le_of_ble_eq_true rfl) (Nat.le_refl _) (Nat.le_refl _) ?_
  rintro _ _ ⟨rfl, rfl⟩ -
  refine w_astore_n (ls' := [some (vR 0 0 0), some (vI (nI c)), some (vI (2)), some (vR 5 0 c), none, none, none, none]) dX10_terms_8 rfl ?_
  refine w_aload_n dX10_terms_9 rfl ?_
  refine w_ifnull (tgt := 22) dX10_terms_10 (by decide) (fun h => by cases h) (fun _ _ => ?_)
  refine w_iload_n dX10_terms_13 rfl ?_
  refine w_iconst (v := 0) dX10_terms_14 (by decide) ?_
  refine w_iconst (v := 2) dX10_terms_15 (by decide) ?_
  refine w_callS (as := [vI (2), vI (0), vI (2)]) (st := []) (Tri.mono (c_X10_within (2) (0) (2)) (Nat.le_of_ble_eq_true rfl)) tg_X10_within lk_X10_158 sa_X10_within rfl dX10_terms_16 rfl (Nat.le_of_ble_eq_true rfl) (Nat.le_refl _) (Nat.le_refl _) ?_
  rintro _ _ ⟨rfl, rfl⟩ -
  refine w_top (y := 1) (show (bI ((0 : Int32) ≤ ((2 : Int32)) ∧ ((2 : Int32)) ≤ (2 : Int32)) : Int32) = 1 from bI_t (by decide)) ?_
  refine w_if_ne (tgt := 24) dX10_terms_19 (by decide) (fun _ => ?_) (fun h => absurd h (by decide))
  refine w_aload_n dX10_terms_24 rfl ?_
  refine w_getR (w := some (17, 0, 0)) ff_X10_50 rfl rfl dX10_terms_25 rfl ?_
  refine w_aload_n dX10_terms_28 rfl ?_
  refine w_getR (w := some (1, 0, 0)) ff_X10_10 rfl rfl dX10_terms_29 rfl ?_
  refine w_callV (as := [vR 1 0 0]) (st := []) (Tri.mono (c_gather hc hw) (Nat.le_of_ble_eq_true rfl)) rfl rfl tg_X0_gather lk_X10_277 in_X0_gather se_X0_gather rfl dX10_terms_32 rfl (Nat.le_of_ble_eq_true rfl) (Nat.le_refl _) (Nat.le_refl _) ?_
  rintro v M9 ⟨rfl, I1, rfl, hc1, hga, hf1⟩ -
  refine w_iconst (v := 0) dX10_terms_35 (by decide) ?_
  refine w_istore (ls' := [some (vR 0 0 0), some (vI (nI c)), some (vI (2)), some (vR 5 0 c), some (vI (0)), none, none, none]) dX10_terms_36 rfl ?_
  refine w_bipush (v := (-4)) dX10_terms_38 (by decide) ?_
  refine w_istore (ls' := [some (vR 0 0 0), some (vI (nI c)), some (vI (2)), some (vR 5 0 c), some (vI (0)), some (vI ((-4))), none, none]) dX10_terms_40 rfl ?_
  refine w_bipush (v := (-4)) dX10_terms_42 (by decide) ?_
  refine w_istore (ls' := [some (vR 0 0 0), some (vI (nI c)), some (vI (2)), some (vR 5 0 c), some (vI (0)), some (vI ((-4))), some (vI ((-4))), none]) dX10_terms_44 rfl ?_
  refine w_aload_n dX10_terms_46 rfl ?_
  refine w_getI ff_X10_145 rfl rfl dX10_terms_47 ?_
  rw [show (I1 5 0 c 1 : Int32) = nI (sF a c 1) from hc1.s hcc (by decide) (by decide)]
  refine w_istore (ls' := [some (vR 0 0 0), some (vI (nI c)), some (vI (2)), some (vR 5 0 c), some (vI (0)), some (vI ((-4))), some (vI ((-4))), some (vI (nI (sF a c 1)))]) dX10_terms_50 rfl ?_
  refine l_termsC hc1 hw hcc hga (sF a c 2 + 1 - sF a c 1) (sF a c 1) 0 none none (by omega) ⟨Nat.zero_le _, ⟨fun _ => rfl, fun _ => rfl⟩, fun x hx => by cases hx⟩ ?_
  refine w_iload_n dX10_terms_107 rfl ?_
  refine w_if_ne (tgt := 114) dX10_terms_108 (by decide) (fun _ => ?_) (fun h => absurd h (by decide))
  refine w_iload_n dX10_terms_114 rfl ?_
  refine w_iconst (v := 1) dX10_terms_115 (by decide) ?_
  refine w_icmp_ne (tgt := 124) dX10_terms_116 (by decide) (fun _ => ?_) (fun h => absurd h (by decide))
  refine w_iload dX10_terms_124 rfl ?_
  exact w_ireturn dX10_terms_126 rfl (rfl) rfl (⟨rfl, _, _, rfl, hf1⟩)

theorem q_terms_2 {I : xF4 Int32} {L : xF4 Int64} {a : aA} (hs : SI I a) (hw : WF a) {c : Nat} (hcc : c < nC a) : Tri 19 109 m_X11_terms [vR 30 0 0, vI (nI c), vI (2)] (rM I L) (pMq (vI (byI (tmN a c).2.2)) I) := by
  refine ⟨k_X11_terms, Nat.le_of_ble_eq_true rfl, ?_⟩
  show Wp _ _ _ 0 [some (vR 30 0 0), some (vI (nI c)), some (vI (2)), none, none, none, none] [] (rM I L) _
  obtain ⟨hJ, hC, hG, hD, hR, -⟩ := id hw
  obtain ⟨fc0, fc1, fc2, fc3, fc4, fc5, fc6, fc7, fc8⟩ := hw.2.2.2.2.2.2.1 c hcc
  refine w_aload_n dX11_terms_0 rfl ?_
  refine w_iload_n dX11_terms_1 rfl ?_
  refine w_callV (as := [vI (nI c)]) (st := []) (Tri.mono (d_isCase (hs.2.1) (by omega) (x := nI c) (X := ((c : Nat) : Int)) (z_nI (by omega))) (Nat.le_of_ble_eq_true rfl)) rfl rfl tg_X11_isCase lk_X11_204 in_X11_isCase se_X11_isCase rfl dX11_terms_2 rfl (Nat.le_of_ble_eq_true rfl) (Nat.le_refl _) (Nat.le_refl _) ?_
  rintro _ _ ⟨rfl, rfl⟩ -
  refine w_ifeq_b (tgt := 20) dX11_terms_5 (by decide) (fun h1 => ?_) (fun h1 => ?_)
  · skip
    first
    | (exfalso; omega)
    | skip
      refine w_iconst (v := (-1)) dX11_terms_20 (by decide) ?_
      exact w_ireturn dX11_terms_21 rfl (rfl) rfl (⟨rfl, _, _, rfl, FrR.rf⟩)
  · skip
    first
    | (exfalso; omega)
    | skip
      refine w_iload_n dX11_terms_8 rfl ?_
      refine w_i2l dX11_terms_9 ?_
      refine w_lconst (v := 0) dX11_terms_10 (by decide) ?_
      refine w_ldc2 dX11_terms_11 cq_X11_293 ?_
      refine w_callS (as := [vL ((2 : Int32).toInt64), vL (0), vL (2)]) (st := []) (Tri.mono (d_in ((2 : Int32).toInt64) (0) (2)) (Nat.le_of_ble_eq_true rfl)) tg_X11_in lk_X11_66 sa_X11_in rfl dX11_terms_14 rfl (Nat.le_of_ble_eq_true rfl) (Nat.le_refl _) (Nat.le_refl _) ?_
      rintro _ _ ⟨rfl, rfl⟩ -
      refine w_top (y := 1) (show (bI ((0 : Int64) ≤ ((2 : Int32).toInt64) ∧ ((2 : Int32).toInt64) ≤ (2 : Int64)) : Int32) = 1 from bI_t (by decide)) ?_
      refine w_if_ne (tgt := 22) dX11_terms_17 (by decide) (fun _ => ?_) (fun h => absurd h (by decide))
      refine w_iconst (v := 0) dX11_terms_22 (by decide) ?_
      refine w_istore_n (ls' := [some (vR 30 0 0), some (vI (nI c)), some (vI (2)), some (vI (0)), none, none, none]) dX11_terms_23 rfl ?_
      refine w_bipush (v := (-4)) dX11_terms_24 (by decide) ?_
      refine w_istore (ls' := [some (vR 30 0 0), some (vI (nI c)), some (vI (2)), some (vI (0)), some (vI ((-4))), none, none]) dX11_terms_26 rfl ?_
      refine w_bipush (v := (-4)) dX11_terms_28 (by decide) ?_
      refine w_istore (ls' := [some (vR 30 0 0), some (vI (nI c)), some (vI (2)), some (vI (0)), some (vI ((-4))), some (vI ((-4))), none]) dX11_terms_30 rfl ?_
      refine w_aload_n dX11_terms_32 rfl ?_
      refine w_getR (w := some (31, 0, 0)) ff_X11_7 rfl rfl dX11_terms_33 rfl ?_
      refine w_bipush (v := 20) dX11_terms_36 (by decide) ?_
      refine w_bipush (v := 7) dX11_terms_38 (by decide) ?_
      refine w_iload_n dX11_terms_40 rfl ?_
      refine w_imul dX11_terms_41 ?_
      rw [show ((7) * (nI c) : Int32) = nI (7 * c) from ar_mul (p := 7) (q := c) rfl rfl (by first | rfl | omega)]
      refine w_iadd dX11_terms_42 ?_
      rw [show ((20) + (nI (7 * c)) : Int32) = nI (20 + (7 * c)) from ar_add (p := 20) (q := 7 * c) rfl rfl (by omega)]
      refine w_iconst (v := 1) dX11_terms_43 (by decide) ?_
      refine w_iadd dX11_terms_44 ?_
      rw [show ((nI (20 + (7 * c))) + (1) : Int32) = nI ((20 + (7 * c)) + 1) from ar_add (p := 20 + (7 * c)) (q := 1) rfl rfl (by omega)]
      refine w_iaload (a := (20 + (7 * c)) + 1) rfl (vp_in_nI (n := (20 + (7 * c)) + 1) (by omega) (by omega)) (nI_clamp (n := (20 + (7 * c)) + 1) (by omega)) dX11_terms_45 ?_
      rw [show (I 31 0 0 ((20 + (7 * c)) + 1) : Int32) = nI (sF a c 1) from hs.2.2.s hcc (f := 1) (by decide) (by decide) (by omega)]
      refine w_istore (ls' := [some (vR 30 0 0), some (vI (nI c)), some (vI (2)), some (vI (0)), some (vI ((-4))), some (vI ((-4))), some (vI (nI (sF a c 1)))]) dX11_terms_46 rfl ?_
      refine l_termsM hs hw hcc (sF a c 2 + 1 - sF a c 1) (sF a c 1) 0 none none (by omega) ⟨Nat.zero_le _, ⟨fun _ => rfl, fun _ => rfl⟩, fun x hx => by cases hx⟩ ?_
      refine w_iload_n dX11_terms_103 rfl ?_
      refine w_if_ne (tgt := 111) dX11_terms_104 (by decide) (fun _ => ?_) (fun h => absurd h (by decide))
      refine w_iload_n dX11_terms_111 rfl ?_
      refine w_iconst (v := 1) dX11_terms_112 (by decide) ?_
      refine w_icmp_ne (tgt := 121) dX11_terms_113 (by decide) (fun _ => ?_) (fun h => absurd h (by decide))
      refine w_iload dX11_terms_121 rfl ?_
      exact w_ireturn dX11_terms_123 rfl (rfl) rfl (⟨rfl, _, _, rfl, FrR.rf⟩)

theorem p_terms_w {I : xF4 Int32} {L : xF4 Int64} {a : aA} (hc : CourtIs I 0 a) (hw : WF a) {c : Nat} (hcc : c < nC a) {what : Int32} (hx : what.toInt < 0 ∨ ((3 : Nat) : Int) ≤ what.toInt) : Tri 19 109 m_X10_terms [vR 0 0 0, vI (nI c), vI (what)] (rM I L) (pCq (vI (-1)) I) := by
  refine ⟨k_X10_terms, Nat.le_of_ble_eq_true rfl, ?_⟩
  show Wp _ _ _ 0 [some (vR 0 0 0), some (vI (nI c)), some (vI (what)), none, none, none, none, none] [] (rM I L) _
  obtain ⟨hJ, hC, hG, hD, hR, -⟩ := id hw
  obtain ⟨fc0, fc1, fc2, fc3, fc4, fc5, fc6, fc7, fc8⟩ := hw.2.2.2.2.2.2.1 c hcc
  refine w_aload_n dX10_terms_0 rfl ?_
  refine w_getR (w := some (1, 0, 0)) ff_X10_10 rfl rfl dX10_terms_1 rfl ?_
  refine w_iload_n dX10_terms_4 rfl ?_
  refine w_callV (as := [vI (nI c)]) (st := []) (Tri.mono (c_sAt hc hw hcc) (Nat.le_of_ble_eq_true rfl)) rfl rfl tg_X1_suitAt lk_X10_136 in_X1_suitAt se_X1_suitAt rfl dX10_terms_5 rfl (Nat.le_of_ble_eq_true rfl) (Nat.le_refl _) (Nat.le_refl _) ?_
  rintro _ _ ⟨rfl, rfl⟩ -
  refine w_astore_n (ls' := [some (vR 0 0 0), some (vI (nI c)), some (vI (what)), some (vR 5 0 c), none, none, none, none]) dX10_terms_8 rfl ?_
  refine w_aload_n dX10_terms_9 rfl ?_
  refine w_ifnull (tgt := 22) dX10_terms_10 (by decide) (fun h => by cases h) (fun _ _ => ?_)
  refine w_iload_n dX10_terms_13 rfl ?_
  refine w_iconst (v := 0) dX10_terms_14 (by decide) ?_
  refine w_iconst (v := 2) dX10_terms_15 (by decide) ?_
  refine w_callS (as := [vI (what), vI (0), vI (2)]) (st := []) (Tri.mono (c_X10_within (what) (0) (2)) (Nat.le_of_ble_eq_true rfl)) tg_X10_within lk_X10_158 sa_X10_within rfl dX10_terms_16 rfl (Nat.le_of_ble_eq_true rfl) (Nat.le_refl _) (Nat.le_refl _) ?_
  rintro _ _ ⟨rfl, rfl⟩ -
  refine w_top (y := bI (0 ≤ what.toInt ∧ what.toInt ≤ 2)) (show (bI ((0 : Int32) ≤ (what) ∧ (what) ≤ (2 : Int32)) : Int32) = bI (0 ≤ what.toInt ∧ what.toInt ≤ 2) from wiZ (X := what.toInt) (A := 0) (B := 2) rfl (by decide) (by decide)) ?_
  refine w_ifne_b (tgt := 24) dX10_terms_19 (by decide) (fun h1 => ?_) (fun h1 => ?_)
  · skip
    first
    | (exfalso; omega)
    | skip
      exfalso
      omega
  · skip
    first
    | (exfalso; omega)
    | skip
      refine w_iconst (v := (-1)) dX10_terms_22 (by decide) ?_
      exact w_ireturn dX10_terms_23 rfl (rfl) rfl (⟨rfl, _, _, rfl, FrQ.rf⟩)

theorem q_terms_w {I : xF4 Int32} {L : xF4 Int64} {a : aA} (hs : SI I a) (hw : WF a) {c : Nat} (hcc : c < nC a) {what : Int32} (hx : what.toInt < 0 ∨ ((3 : Nat) : Int) ≤ what.toInt) : Tri 19 109 m_X11_terms [vR 30 0 0, vI (nI c), vI (what)] (rM I L) (pMq (vI (-1)) I) := by
  refine ⟨k_X11_terms, Nat.le_of_ble_eq_true rfl, ?_⟩
  show Wp _ _ _ 0 [some (vR 30 0 0), some (vI (nI c)), some (vI (what)), none, none, none, none] [] (rM I L) _
  obtain ⟨hJ, hC, hG, hD, hR, -⟩ := id hw
  obtain ⟨fc0, fc1, fc2, fc3, fc4, fc5, fc6, fc7, fc8⟩ := hw.2.2.2.2.2.2.1 c hcc
  refine w_aload_n dX11_terms_0 rfl ?_
  refine w_iload_n dX11_terms_1 rfl ?_
  refine w_callV (as := [vI (nI c)]) (st := []) (Tri.mono (d_isCase (hs.2.1) (by omega) (x := nI c) (X := ((c : Nat) : Int)) (z_nI (by omega))) (Nat.le_of_ble_eq_true rfl)) rfl rfl tg_X11_isCase lk_X11_204 in_X11_isCase se_X11_isCase rfl dX11_terms_2 rfl (Nat.le_of_ble_eq_true rfl) (Nat.le_refl _) (Nat.le_refl _) ?_
  rintro _ _ ⟨rfl, rfl⟩ -
  refine w_ifeq_b (tgt := 20) dX11_terms_5 (by decide) (fun h1 => ?_) (fun h1 => ?_)
  · skip
    first
    | (exfalso; omega)
    | skip
      refine w_iconst (v := (-1)) dX11_terms_20 (by decide) ?_
      exact w_ireturn dX11_terms_21 rfl (rfl) rfl (⟨rfl, _, _, rfl, FrR.rf⟩)
  · skip
    first
    | (exfalso; omega)
    | skip
      refine w_iload_n dX11_terms_8 rfl ?_
      refine w_i2l dX11_terms_9 ?_
      refine w_lconst (v := 0) dX11_terms_10 (by decide) ?_
      refine w_ldc2 dX11_terms_11 cq_X11_293 ?_
      refine w_callS (as := [vL ((what : Int32).toInt64), vL (0), vL (2)]) (st := []) (Tri.mono (d_in ((what : Int32).toInt64) (0) (2)) (Nat.le_of_ble_eq_true rfl)) tg_X11_in lk_X11_66 sa_X11_in rfl dX11_terms_14 rfl (Nat.le_of_ble_eq_true rfl) (Nat.le_refl _) (Nat.le_refl _) ?_
      rintro _ _ ⟨rfl, rfl⟩ -
      refine w_top (y := bI (0 ≤ what.toInt ∧ what.toInt ≤ 2)) (show (bI ((0 : Int64) ≤ ((what : Int32).toInt64) ∧ ((what : Int32).toInt64) ≤ (2 : Int64)) : Int32) = bI (0 ≤ what.toInt ∧ what.toInt ≤ 2) from inZ (x := what) (l := 0) (h := 2) (X := what.toInt) (A := 0) (B := 2) rfl (by decide) (by decide) rfl (by decide) (by decide)) ?_
      refine w_ifne_b (tgt := 22) dX11_terms_17 (by decide) (fun h2 => ?_) (fun h2 => ?_)
      · skip
        first
        | (exfalso; omega)
        | skip
          exfalso
          omega
      · skip
        first
        | (exfalso; omega)
        | skip
          refine w_iconst (v := (-1)) dX11_terms_20 (by decide) ?_
          exact w_ireturn dX11_terms_21 rfl (rfl) rfl (⟨rfl, _, _, rfl, FrR.rf⟩)

theorem p_terms_o {I : xF4 Int32} {L : xF4 Int64} {a : aA} (hc : CourtIs I 0 a) (hw : WF a) {c what : Int32} (hx : c.toInt < 0 ∨ ((nC a : Nat) : Int) ≤ c.toInt) : Tri 19 109 m_X10_terms [vR 0 0 0, vI (c), vI (what)] (rM I L) (pCq (vI (-1)) I) := by
  refine ⟨k_X10_terms, Nat.le_of_ble_eq_true rfl, ?_⟩
  show Wp _ _ _ 0 [some (vR 0 0 0), some (vI (c)), some (vI (what)), none, none, none, none, none] [] (rM I L) _
  obtain ⟨hJ, hC, hG, hD, hR, -⟩ := id hw
  refine w_aload_n dX10_terms_0 rfl ?_
  refine w_getR (w := some (1, 0, 0)) ff_X10_10 rfl rfl dX10_terms_1 rfl ?_
  refine w_iload_n dX10_terms_4 rfl ?_
  refine w_callV (as := [vI (c)]) (st := []) (Tri.mono (c_sAtO hc hw (z_out (by omega) hx)) (Nat.le_of_ble_eq_true rfl)) rfl rfl tg_X1_suitAt lk_X10_136 in_X1_suitAt se_X1_suitAt rfl dX10_terms_5 rfl (Nat.le_of_ble_eq_true rfl) (Nat.le_refl _) (Nat.le_refl _) ?_
  rintro _ _ ⟨rfl, rfl⟩ -
  refine w_astore_n (ls' := [some (vR 0 0 0), some (vI (c)), some (vI (what)), some (vN), none, none, none, none]) dX10_terms_8 rfl ?_
  refine w_aload_n dX10_terms_9 rfl ?_
  refine w_ifnull (tgt := 22) dX10_terms_10 (by decide) (fun _ => ?_) (fun _ h => by cases h)
  refine w_iconst (v := (-1)) dX10_terms_22 (by decide) ?_
  exact w_ireturn dX10_terms_23 rfl (rfl) rfl (⟨rfl, _, _, rfl, FrQ.rf⟩)

theorem q_terms_o {I : xF4 Int32} {L : xF4 Int64} {a : aA} (hs : SI I a) (hw : WF a) {c what : Int32} (hx : c.toInt < 0 ∨ ((nC a : Nat) : Int) ≤ c.toInt) : Tri 19 109 m_X11_terms [vR 30 0 0, vI (c), vI (what)] (rM I L) (pMq (vI (-1)) I) := by
  refine ⟨k_X11_terms, Nat.le_of_ble_eq_true rfl, ?_⟩
  show Wp _ _ _ 0 [some (vR 30 0 0), some (vI (c)), some (vI (what)), none, none, none, none] [] (rM I L) _
  obtain ⟨hJ, hC, hG, hD, hR, -⟩ := id hw
  refine w_aload_n dX11_terms_0 rfl ?_
  refine w_iload_n dX11_terms_1 rfl ?_
  refine w_callV (as := [vI (c)]) (st := []) (Tri.mono (d_isCase (hs.2.1) (by omega) (x := c) (X := c.toInt) rfl) (Nat.le_of_ble_eq_true rfl)) rfl rfl tg_X11_isCase lk_X11_204 in_X11_isCase se_X11_isCase rfl dX11_terms_2 rfl (Nat.le_of_ble_eq_true rfl) (Nat.le_refl _) (Nat.le_refl _) ?_
  rintro _ _ ⟨rfl, rfl⟩ -
  refine w_ifeq_b (tgt := 20) dX11_terms_5 (by decide) (fun h1 => ?_) (fun h1 => ?_)
  · skip
    first
    | (exfalso; omega)
    | skip
      refine w_iconst (v := (-1)) dX11_terms_20 (by decide) ?_
      exact w_ireturn dX11_terms_21 rfl (rfl) rfl (⟨rfl, _, _, rfl, FrR.rf⟩)
  · skip
    first
    | (exfalso; omega)
    | skip
      refine w_iload_n dX11_terms_8 rfl ?_
      refine w_i2l dX11_terms_9 ?_
      refine w_lconst (v := 0) dX11_terms_10 (by decide) ?_
      refine w_ldc2 dX11_terms_11 cq_X11_293 ?_
      refine w_callS (as := [vL ((what : Int32).toInt64), vL (0), vL (2)]) (st := []) (Tri.mono (d_in ((what : Int32).toInt64) (0) (2)) (Nat.le_of_ble_eq_true rfl)) tg_X11_in lk_X11_66 sa_X11_in rfl dX11_terms_14 rfl (Nat.le_of_ble_eq_true rfl) (Nat.le_refl _) (Nat.le_refl _) ?_
      rintro _ _ ⟨rfl, rfl⟩ -
      refine w_top (y := bI (0 ≤ what.toInt ∧ what.toInt ≤ 2)) (show (bI ((0 : Int64) ≤ ((what : Int32).toInt64) ∧ ((what : Int32).toInt64) ≤ (2 : Int64)) : Int32) = bI (0 ≤ what.toInt ∧ what.toInt ≤ 2) from inZ (x := what) (l := 0) (h := 2) (X := what.toInt) (A := 0) (B := 2) rfl (by decide) (by decide) rfl (by decide) (by decide)) ?_
      refine w_ifne_b (tgt := 22) dX11_terms_17 (by decide) (fun h2 => ?_) (fun h2 => ?_)
      · skip
        first
        | (exfalso; omega)
        | skip
          exfalso
          omega
      · skip
        first
        | (exfalso; omega)
        | skip
          refine w_iconst (v := (-1)) dX11_terms_20 (by decide) ?_
          exact w_ireturn dX11_terms_21 rfl (rfl) rfl (⟨rfl, _, _, rfl, FrR.rf⟩)
