/-! can, deter, hopeless, drift, both ways (by wip/whole/gen/g65.py) -/
theorem bit_bI {p : Nat → Bool} {c : Nat} (hc : c < 6) {P : Prop} [Decidable P] (h : P ↔ p c = true) : nI (bitN p c) ||| ((bI P) <<< (nI c &&& 31)) = nI (bitN p (c + 1)) := by
  by_cases hp : P
  · rw [bI_t hp]; exact bit_or hc (h.mp hp)
  · rw [bI_f hp]; exact bit_nz hc (fun q => hp (h.mpr q))

theorem l_canC {I : xF4 Int32} {L : xF4 Int64} {a : aA} (hc : CourtIs I 0 a) (hw : WF a) {c n : Nat} (hcc : c < nC a) (h1n : sF a c 1 ≤ n) (hn2 : n ≤ sF a c 2) {Q : Option xV → xM → Prop} (hk : Wp 19 109 m_X10_can 84 [some (vR 0 0 0), some (vI (nI c)), some (vI (nI n)), some (vR 5 0 c), some (vI (nI (bitN (fun j => decide (canN a c j n)) (nJ a)))), some (vI (nI (nJ a)))] [] (rM I L) Q) : ∀ (m c9 : Nat), c9 + m = nJ a → Wp 19 109 m_X10_can 36 [some (vR 0 0 0), some (vI (nI c)), some (vI (nI n)), some (vR 5 0 c), some (vI (nI (bitN (fun j => decide (canN a c j n)) c9))), some (vI (nI c9))] [] (rM I L) Q := by
  intro m
  induction m with
  | zero =>
    intro c9 hq9
    have e : c9 = nJ a := by omega
    subst e
    obtain ⟨hJ, hC, hG, hD, hR, -⟩ := id hw
    obtain ⟨fc0, fc1, fc2, fc3, fc4, fc5, fc6, fc7, fc8⟩ := hw.2.2.2.2.2.2.1 c hcc
    refine w_iload dX10_can_36 rfl ?_
    refine w_aload_n dX10_can_38 rfl ?_
    refine w_getR (w := some (1, 0, 0)) ff_X10_10 rfl rfl dX10_can_39 rfl ?_
    refine w_getI ff_X10_89 rfl rfl dX10_can_42 ?_
    rw [show (I 1 0 0 3 : Int32) = nI (nJ a) from hc.1]
    refine w_icmp_ge (tgt := 84) dX10_can_45 (by decide) (fun _ => ?_) (fun h => absurd (nI_le (Nat.le_refl _) (by omega)) h)
    exact hk
  | succ m ih =>
    intro c9 hq9
    have hlt : c9 < nJ a := by omega
    obtain ⟨hJ, hC, hG, hD, hR, -⟩ := id hw
    obtain ⟨fc0, fc1, fc2, fc3, fc4, fc5, fc6, fc7, fc8⟩ := hw.2.2.2.2.2.2.1 c hcc
    refine w_iload dX10_can_36 rfl ?_
    refine w_aload_n dX10_can_38 rfl ?_
    refine w_getR (w := some (1, 0, 0)) ff_X10_10 rfl rfl dX10_can_39 rfl ?_
    refine w_getI ff_X10_89 rfl rfl dX10_can_42 ?_
    rw [show (I 1 0 0 3 : Int32) = nI (nJ a) from hc.1]
    refine w_icmp_ge (tgt := 84) dX10_can_45 (by decide) (fun h => absurd h (nI_ge hlt (by omega))) (fun _ => ?_)
    have hcc9 : c9 < nJ a := by omega
    refine w_aload_n dX10_can_48 rfl ?_
    refine w_getR (w := some (1, 0, 0)) ff_X10_10 rfl rfl dX10_can_49 rfl ?_
    refine w_aload_n dX10_can_52 rfl ?_
    refine w_aload_n dX10_can_53 rfl ?_
    refine w_getR (w := some (1, 0, 0)) ff_X10_10 rfl rfl dX10_can_54 rfl ?_
    refine w_iload dX10_can_57 rfl ?_
    refine w_callV (as := [vI (nI c9)]) (st := [vR 5 0 c, vR 1 0 0]) (Tri.mono (c_jAt hc hw hcc9) (Nat.le_of_ble_eq_true rfl)) rfl rfl tg_X1_judgeAt lk_X10_111 in_X1_judgeAt se_X1_judgeAt rfl dX10_can_59 rfl (Nat.le_of_ble_eq_true rfl) (Nat.le_refl _) (Nat.le_refl _) ?_
    rintro _ _ ⟨rfl, rfl⟩ -
    refine w_iload_n dX10_can_62 rfl ?_
    refine w_callV (as := [vR 5 0 c, vR 3 0 c9, vI (nI n)]) (st := []) (Tri.mono (c_canHear hc hw (n := n) hcc hcc9 (by omega)) (Nat.le_of_ble_eq_true rfl)) rfl rfl tg_X1_canHear lk_X10_177 in_X1_canHear se_X1_canHear rfl dX10_can_63 rfl (Nat.le_of_ble_eq_true rfl) (Nat.le_refl _) (Nat.le_refl _) ?_
    rintro _ _ ⟨rfl, rfl⟩ -
    refine w_ifeq_b (tgt := 78) dX10_can_66 (by decide) (fun h1 => ?_) (fun h1 => ?_)
    · skip
      refine w_ls (congrArg (fun z9 : Int32 => [some (vR 0 0 0), some (vI (nI c)), some (vI (nI n)), some (vR 5 0 c), some (vI z9), some (vI (nI c9))]) (show (nI (bitN (fun j => decide (canN a c j n)) c9) : Int32) = nI (bitN (fun j => decide (canN a c j n)) (c9 + 1)) from bit_no (p := (fun j => decide (canN a c j n))) (fun q => h1 (of_decide_eq_true q)))) ?_
      refine w_iinc (v := nI (c9 + 1)) (ls' := [some (vR 0 0 0), some (vI (nI c)), some (vI (nI n)), some (vR 5 0 c), some (vI (nI (bitN (fun j => decide (canN a c j n)) (c9 + 1)))), some (vI (nI (c9 + 1)))]) dX10_can_78 rfl (nI_1 _) rfl ?_
      refine w_goto (tgt := 36) dX10_can_81 (by decide) ?_
      exact ih (c9 + 1) (by omega)
    · skip
      refine w_iload dX10_can_69 rfl ?_
      refine w_iconst (v := 1) dX10_can_71 (by decide) ?_
      refine w_iload dX10_can_72 rfl ?_
      refine w_ishl dX10_can_74 ?_
      refine w_ior dX10_can_75 ?_
      refine w_istore (ls' := [some (vR 0 0 0), some (vI (nI c)), some (vI (nI n)), some (vR 5 0 c), some (vI ((nI (bitN (fun j => decide (canN a c j n)) c9)) ||| ((1) <<< ((nI c9) &&& 31)))), some (vI (nI c9))]) dX10_can_76 rfl ?_
      refine w_ls (congrArg (fun z9 : Int32 => [some (vR 0 0 0), some (vI (nI c)), some (vI (nI n)), some (vR 5 0 c), some (vI z9), some (vI (nI c9))]) (show ((nI (bitN (fun j => decide (canN a c j n)) c9)) ||| ((1) <<< ((nI c9) &&& 31)) : Int32) = nI (bitN (fun j => decide (canN a c j n)) (c9 + 1)) from bit_or (by omega) (decide_eq_true h1))) ?_
      refine w_iinc (v := nI (c9 + 1)) (ls' := [some (vR 0 0 0), some (vI (nI c)), some (vI (nI n)), some (vR 5 0 c), some (vI (nI (bitN (fun j => decide (canN a c j n)) (c9 + 1)))), some (vI (nI (c9 + 1)))]) dX10_can_78 rfl (nI_1 _) rfl ?_
      refine w_goto (tgt := 36) dX10_can_81 (by decide) ?_
      exact ih (c9 + 1) (by omega)

theorem l_canM {I : xF4 Int32} {L : xF4 Int64} {a : aA} (hm : MI I a) (hw : WF a) {c n : Nat} (hcc : c < nC a) (h1n : sF a c 1 ≤ n) (hn2 : n ≤ sF a c 2) {Q : Option xV → xM → Prop} (hk : Wp 19 109 m_X11_can 52 [some (vR 30 0 0), some (vI (nI c)), some (vI (nI n)), some (vI (nI (bitN (fun j => decide (canN a c j n)) (nJ a)))), some (vI (nI (nJ a)))] [] (rM I L) Q) : ∀ (m c9 : Nat), c9 + m = nJ a → Wp 19 109 m_X11_can 20 [some (vR 30 0 0), some (vI (nI c)), some (vI (nI n)), some (vI (nI (bitN (fun j => decide (canN a c j n)) c9))), some (vI (nI c9))] [] (rM I L) Q := by
  intro m
  induction m with
  | zero =>
    intro c9 hq9
    have e : c9 = nJ a := by omega
    subst e
    obtain ⟨hJ, hC, hG, hD, hR, -⟩ := id hw
    obtain ⟨fc0, fc1, fc2, fc3, fc4, fc5, fc6, fc7, fc8⟩ := hw.2.2.2.2.2.2.1 c hcc
    refine w_iload dX11_can_20 rfl ?_
    refine w_aload_n dX11_can_22 rfl ?_
    refine w_getI ff_X11_58 rfl rfl dX11_can_23 ?_
    rw [show (I 30 0 0 3 : Int32) = nI (nJ a) from hm.1]
    refine w_icmp_ge (tgt := 52) dX11_can_26 (by decide) (fun _ => ?_) (fun h => absurd (nI_le (Nat.le_refl _) (by omega)) h)
    exact hk
  | succ m ih =>
    intro c9 hq9
    have hlt : c9 < nJ a := by omega
    obtain ⟨hJ, hC, hG, hD, hR, -⟩ := id hw
    obtain ⟨fc0, fc1, fc2, fc3, fc4, fc5, fc6, fc7, fc8⟩ := hw.2.2.2.2.2.2.1 c hcc
    refine w_iload dX11_can_20 rfl ?_
    refine w_aload_n dX11_can_22 rfl ?_
    refine w_getI ff_X11_58 rfl rfl dX11_can_23 ?_
    rw [show (I 30 0 0 3 : Int32) = nI (nJ a) from hm.1]
    refine w_icmp_ge (tgt := 52) dX11_can_26 (by decide) (fun h => absurd h (nI_ge hlt (by omega))) (fun _ => ?_)
    refine w_iload_n dX11_can_29 rfl ?_
    refine w_aload_n dX11_can_30 rfl ?_
    refine w_iload dX11_can_31 rfl ?_
    refine w_iload_n dX11_can_33 rfl ?_
    refine w_iload_n dX11_can_34 rfl ?_
    refine w_callV (as := [vI (nI c9), vI (nI c), vI (nI n)]) (st := [vI (nI (bitN (fun j => decide (canN a c j n)) c9))]) (Tri.mono (d_canHear hm hw (c := c) (j := c9) (n := n) hcc hlt (by omega)) (Nat.le_of_ble_eq_true rfl)) rfl rfl tg_X11_canHear lk_X11_165 in_X11_canHear se_X11_canHear rfl dX11_can_35 rfl (Nat.le_of_ble_eq_true rfl) (Nat.le_refl _) (Nat.le_refl _) ?_
    rintro _ _ ⟨rfl, rfl⟩ -
    refine w_callS (as := [vI (bI (canN a c c9 n))]) (st := [vI (nI (bitN (fun j => decide (canN a c j n)) c9))]) (Tri.mono (d_flag (canN a c c9 n)) (Nat.le_of_ble_eq_true rfl)) tg_X11_flag lk_X11_161 sa_X11_flag rfl dX11_can_38 rfl (Nat.le_of_ble_eq_true rfl) (Nat.le_refl _) (Nat.le_refl _) ?_
    rintro _ _ ⟨rfl, rfl⟩ -
    refine w_iload dX11_can_41 rfl ?_
    refine w_ishl dX11_can_43 ?_
    refine w_ior dX11_can_44 ?_
    refine w_top (y := nI (bitN (fun j => decide (canN a c j n)) (c9 + 1))) (show ((nI (bitN (fun j => decide (canN a c j n)) c9)) ||| ((bI (canN a c c9 n)) <<< ((nI c9) &&& 31)) : Int32) = nI (bitN (fun j => decide (canN a c j n)) (c9 + 1)) from bit_bI (by omega) (decide_eq_true_iff).symm) ?_
    refine w_istore_n (ls' := [some (vR 30 0 0), some (vI (nI c)), some (vI (nI n)), some (vI (nI (bitN (fun j => decide (canN a c j n)) (c9 + 1)))), some (vI (nI c9))]) dX11_can_45 rfl ?_
    refine w_iinc (v := nI (c9 + 1)) (ls' := [some (vR 30 0 0), some (vI (nI c)), some (vI (nI n)), some (vI (nI (bitN (fun j => decide (canN a c j n)) (c9 + 1)))), some (vI (nI (c9 + 1)))]) dX11_can_46 rfl (nI_1 _) rfl ?_
    refine w_goto (tgt := 20) dX11_can_49 (by decide) ?_
    exact ih (c9 + 1) (by omega)

theorem d_isTerm {I : xF4 Int32} {L : xF4 Int64} {a : aA} (hs : SI I a) (hw : WF a) {c : Nat} (hcc : c < nC a) {n : Int32} {X : Int} (hx : n.toInt = X) : Tri 2 109 m_X11_isTerm [vR 30 0 0, vI (nI c), vI (n)] (rM I L) (pI (bI (((sF a c 1 : Nat) : Int) ≤ X ∧ X ≤ ((sF a c 2 : Nat) : Int))) I L) := by
  refine ⟨k_X11_isTerm, Nat.le_of_ble_eq_true rfl, ?_⟩
  show Wp _ _ _ 0 [some (vR 30 0 0), some (vI (nI c)), some (vI (n))] [] (rM I L) _
  obtain ⟨hJ, hC, hG, hD, hR, -⟩ := id hw
  obtain ⟨fc0, fc1, fc2, fc3, fc4, fc5, fc6, fc7, fc8⟩ := hw.2.2.2.2.2.2.1 c hcc
  refine w_aload_n dX11_isTerm_0 rfl ?_
  refine w_iload_n dX11_isTerm_1 rfl ?_
  refine w_callV (as := [vI (nI c)]) (st := []) (Tri.mono (d_isCase (hs.2.1) (by omega) (x := nI c) (X := ((c : Nat) : Int)) (z_nI (by omega))) (Nat.le_of_ble_eq_true rfl)) rfl rfl tg_X11_isCase lk_X11_204 in_X11_isCase se_X11_isCase rfl dX11_isTerm_2 rfl (Nat.le_of_ble_eq_true rfl) (Nat.le_refl _) (Nat.le_refl _) ?_
  rintro _ _ ⟨rfl, rfl⟩ -
  refine w_ifeq_b (tgt := 50) dX11_isTerm_5 (by decide) (fun h1 => ?_) (fun h1 => ?_)
  · skip
    first
    | (exfalso; omega)
    | skip
      refine w_iconst (v := 0) dX11_isTerm_50 (by decide) ?_
      exact w_ireturn dX11_isTerm_51 rfl (rfl) rfl (⟨by rw [bI_f (by omega)], rfl⟩)
  · skip
    first
    | (exfalso; omega)
    | skip
      refine w_iload_n dX11_isTerm_8 rfl ?_
      refine w_i2l dX11_isTerm_9 ?_
      refine w_aload_n dX11_isTerm_10 rfl ?_
      refine w_getR (w := some (31, 0, 0)) ff_X11_7 rfl rfl dX11_isTerm_11 rfl ?_
      refine w_bipush (v := 20) dX11_isTerm_14 (by decide) ?_
      refine w_bipush (v := 7) dX11_isTerm_16 (by decide) ?_
      refine w_iload_n dX11_isTerm_18 rfl ?_
      refine w_imul dX11_isTerm_19 ?_
      rw [show ((7) * (nI c) : Int32) = nI (7 * c) from ar_mul (p := 7) (q := c) rfl rfl (by first | rfl | omega)]
      refine w_iadd dX11_isTerm_20 ?_
      rw [show ((20) + (nI (7 * c)) : Int32) = nI (20 + (7 * c)) from ar_add (p := 20) (q := 7 * c) rfl rfl (by omega)]
      refine w_iconst (v := 1) dX11_isTerm_21 (by decide) ?_
      refine w_iadd dX11_isTerm_22 ?_
      rw [show ((nI (20 + (7 * c))) + (1) : Int32) = nI ((20 + (7 * c)) + 1) from ar_add (p := 20 + (7 * c)) (q := 1) rfl rfl (by omega)]
      refine w_iaload (a := (20 + (7 * c)) + 1) rfl (vp_in_nI (n := (20 + (7 * c)) + 1) (by omega) (by omega)) (nI_clamp (n := (20 + (7 * c)) + 1) (by omega)) dX11_isTerm_23 ?_
      rw [show (I 31 0 0 ((20 + (7 * c)) + 1) : Int32) = nI (sF a c 1) from hs.2.2.s hcc (f := 1) (by decide) (by decide) (by omega)]
      refine w_i2l dX11_isTerm_24 ?_
      refine w_aload_n dX11_isTerm_25 rfl ?_
      refine w_getR (w := some (31, 0, 0)) ff_X11_7 rfl rfl dX11_isTerm_26 rfl ?_
      refine w_bipush (v := 20) dX11_isTerm_29 (by decide) ?_
      refine w_bipush (v := 7) dX11_isTerm_31 (by decide) ?_
      refine w_iload_n dX11_isTerm_33 rfl ?_
      refine w_imul dX11_isTerm_34 ?_
      rw [show ((7) * (nI c) : Int32) = nI (7 * c) from ar_mul (p := 7) (q := c) rfl rfl (by first | rfl | omega)]
      refine w_iadd dX11_isTerm_35 ?_
      rw [show ((20) + (nI (7 * c)) : Int32) = nI (20 + (7 * c)) from ar_add (p := 20) (q := 7 * c) rfl rfl (by omega)]
      refine w_iconst (v := 2) dX11_isTerm_36 (by decide) ?_
      refine w_iadd dX11_isTerm_37 ?_
      rw [show ((nI (20 + (7 * c))) + (2) : Int32) = nI ((20 + (7 * c)) + 2) from ar_add (p := 20 + (7 * c)) (q := 2) rfl rfl (by omega)]
      refine w_iaload (a := (20 + (7 * c)) + 2) rfl (vp_in_nI (n := (20 + (7 * c)) + 2) (by omega) (by omega)) (nI_clamp (n := (20 + (7 * c)) + 2) (by omega)) dX11_isTerm_38 ?_
      rw [show (I 31 0 0 ((20 + (7 * c)) + 2) : Int32) = nI (sF a c 2) from hs.2.2.s hcc (f := 2) (by decide) (by decide) (by omega)]
      refine w_i2l dX11_isTerm_39 ?_
      refine w_callS (as := [vL ((n : Int32).toInt64), vL ((nI (sF a c 1) : Int32).toInt64), vL ((nI (sF a c 2) : Int32).toInt64)]) (st := []) (Tri.mono (d_in ((n : Int32).toInt64) ((nI (sF a c 1) : Int32).toInt64) ((nI (sF a c 2) : Int32).toInt64)) (Nat.le_of_ble_eq_true rfl)) tg_X11_in lk_X11_66 sa_X11_in rfl dX11_isTerm_40 rfl (Nat.le_of_ble_eq_true rfl) (Nat.le_refl _) (Nat.le_refl _) ?_
      rintro _ _ ⟨rfl, rfl⟩ -
      refine w_top (y := bI (((sF a c 1 : Nat) : Int) ≤ X ∧ X ≤ ((sF a c 2 : Nat) : Int))) (show (bI (((nI (sF a c 1) : Int32).toInt64) ≤ ((n : Int32).toInt64) ∧ ((n : Int32).toInt64) ≤ ((nI (sF a c 2) : Int32).toInt64)) : Int32) = bI (((sF a c 1 : Nat) : Int) ≤ X ∧ X ≤ ((sF a c 2 : Nat) : Int)) from inZ (x := n) (l := nI (sF a c 1)) (h := nI (sF a c 2)) rfl rfl rfl hx (z_nI (by omega)) (z_nI (by omega))) ?_
      refine w_ifeq_b (tgt := 50) dX11_isTerm_43 (by decide) (fun h2 => ?_) (fun h2 => ?_)
      · skip
        first
        | (exfalso; omega)
        | skip
          refine w_iconst (v := 0) dX11_isTerm_50 (by decide) ?_
          exact w_ireturn dX11_isTerm_51 rfl (rfl) rfl (⟨by rw [bI_f (by omega)], rfl⟩)
      · skip
        first
        | (exfalso; omega)
        | skip
          refine w_iconst (v := 1) dX11_isTerm_46 (by decide) ?_
          refine w_goto (tgt := 51) dX11_isTerm_47 (by decide) ?_
          exact w_ireturn dX11_isTerm_51 rfl (rfl) rfl (⟨by rw [bI_t (by omega)], rfl⟩)

theorem d_isTermO {I : xF4 Int32} {L : xF4 Int64} {a : aA} (hs : SI I a) (hw : WF a) {c n : Int32} (hx : c.toInt < 0 ∨ ((nC a : Nat) : Int) ≤ c.toInt) : Tri 2 109 m_X11_isTerm [vR 30 0 0, vI (c), vI (n)] (rM I L) (pI 0 I L) := by
  refine ⟨k_X11_isTerm, Nat.le_of_ble_eq_true rfl, ?_⟩
  show Wp _ _ _ 0 [some (vR 30 0 0), some (vI (c)), some (vI (n))] [] (rM I L) _
  obtain ⟨hJ, hC, hG, hD, hR, -⟩ := id hw
  refine w_aload_n dX11_isTerm_0 rfl ?_
  refine w_iload_n dX11_isTerm_1 rfl ?_
  refine w_callV (as := [vI (c)]) (st := []) (Tri.mono (d_isCase (hs.2.1) (by omega) (x := c) (X := c.toInt) rfl) (Nat.le_of_ble_eq_true rfl)) rfl rfl tg_X11_isCase lk_X11_204 in_X11_isCase se_X11_isCase rfl dX11_isTerm_2 rfl (Nat.le_of_ble_eq_true rfl) (Nat.le_refl _) (Nat.le_refl _) ?_
  rintro _ _ ⟨rfl, rfl⟩ -
  refine w_ifeq_b (tgt := 50) dX11_isTerm_5 (by decide) (fun h1 => ?_) (fun h1 => ?_)
  · skip
    first
    | (exfalso; omega)
    | skip
      refine w_iconst (v := 0) dX11_isTerm_50 (by decide) ?_
      exact w_ireturn dX11_isTerm_51 rfl (rfl) rfl (⟨rfl, rfl⟩)
  · skip
    first
    | (exfalso; omega)
    | skip
      refine w_iload_n dX11_isTerm_8 rfl ?_
      refine w_i2l dX11_isTerm_9 ?_
      refine w_aload_n dX11_isTerm_10 rfl ?_
      refine w_getR (w := some (31, 0, 0)) ff_X11_7 rfl rfl dX11_isTerm_11 rfl ?_
      refine w_bipush (v := 20) dX11_isTerm_14 (by decide) ?_
      refine w_bipush (v := 7) dX11_isTerm_16 (by decide) ?_
      refine w_iload_n dX11_isTerm_18 rfl ?_
      refine w_imul dX11_isTerm_19 ?_
      refine w_iadd dX11_isTerm_20 ?_
      refine w_iconst (v := 1) dX11_isTerm_21 (by decide) ?_
      refine w_iadd dX11_isTerm_22 ?_
      exfalso
      omega

theorem p_can {I : xF4 Int32} {L : xF4 Int64} {a : aA} (hc : CourtIs I 0 a) (hw : WF a) {c n : Nat} (hcc : c < nC a) (h1n : sF a c 1 ≤ n) (hn2 : n ≤ sF a c 2)  : Tri 19 109 m_X10_can [vR 0 0 0, vI (nI c), vI (nI n)] (rM I L) (pCq (vI (nI (bitN (fun j => decide (canN a c j n)) (nJ a)))) I) := by
  refine ⟨k_X10_can, Nat.le_of_ble_eq_true rfl, ?_⟩
  show Wp _ _ _ 0 [some (vR 0 0 0), some (vI (nI c)), some (vI (nI n)), none, none, none] [] (rM I L) _
  obtain ⟨hJ, hC, hG, hD, hR, -⟩ := id hw
  obtain ⟨fc0, fc1, fc2, fc3, fc4, fc5, fc6, fc7, fc8⟩ := hw.2.2.2.2.2.2.1 c hcc
  refine w_aload_n dX10_can_0 rfl ?_
  refine w_getR (w := some (1, 0, 0)) ff_X10_10 rfl rfl dX10_can_1 rfl ?_
  refine w_iload_n dX10_can_4 rfl ?_
  refine w_callV (as := [vI (nI c)]) (st := []) (Tri.mono (c_sAt hc hw hcc) (Nat.le_of_ble_eq_true rfl)) rfl rfl tg_X1_suitAt lk_X10_136 in_X1_suitAt se_X1_suitAt rfl dX10_can_5 rfl (Nat.le_of_ble_eq_true rfl) (Nat.le_refl _) (Nat.le_refl _) ?_
  rintro _ _ ⟨rfl, rfl⟩ -
  refine w_astore_n (ls' := [some (vR 0 0 0), some (vI (nI c)), some (vI (nI n)), some (vR 5 0 c), none, none]) dX10_can_8 rfl ?_
  refine w_aload_n dX10_can_9 rfl ?_
  refine w_ifnull (tgt := 28) dX10_can_10 (by decide) (fun h => by cases h) (fun _ _ => ?_)
  refine w_iload_n dX10_can_13 rfl ?_
  refine w_aload_n dX10_can_14 rfl ?_
  refine w_getI ff_X10_145 rfl rfl dX10_can_15 ?_
  rw [show (I 5 0 c 1 : Int32) = nI (sF a c 1) from hc.s hcc (by decide) (by decide)]
  refine w_aload_n dX10_can_18 rfl ?_
  refine w_getI ff_X10_148 rfl rfl dX10_can_19 ?_
  rw [show (I 5 0 c 2 : Int32) = nI (sF a c 2) from hc.s hcc (by decide) (by decide)]
  refine w_callS (as := [vI (nI n), vI (nI (sF a c 1)), vI (nI (sF a c 2))]) (st := []) (Tri.mono (c_X10_within (nI n) (nI (sF a c 1)) (nI (sF a c 2))) (Nat.le_of_ble_eq_true rfl)) tg_X10_within lk_X10_158 sa_X10_within rfl dX10_can_22 rfl (Nat.le_of_ble_eq_true rfl) (Nat.le_refl _) (Nat.le_refl _) ?_
  rintro _ _ ⟨rfl, rfl⟩ -
  refine w_top (y := bI (((sF a c 1 : Nat) : Int) ≤ ((n : Nat) : Int) ∧ ((n : Nat) : Int) ≤ ((sF a c 2 : Nat) : Int))) (show (bI ((nI (sF a c 1)) ≤ (nI n) ∧ (nI n) ≤ (nI (sF a c 2))) : Int32) = bI (((sF a c 1 : Nat) : Int) ≤ ((n : Nat) : Int) ∧ ((n : Nat) : Int) ≤ ((sF a c 2 : Nat) : Int)) from wiZ (X := ((n : Nat) : Int)) (A := ((sF a c 1 : Nat) : Int)) (B := ((sF a c 2 : Nat) : Int)) (z_nI (by omega)) (z_nI (by omega)) (z_nI (by omega))) ?_
  refine w_ifne_b (tgt := 30) dX10_can_25 (by decide) (fun h1 => ?_) (fun h1 => ?_)
  · skip
    first
    | (exfalso; omega)
    | skip
      refine w_iconst (v := 0) dX10_can_30 (by decide) ?_
      refine w_istore (ls' := [some (vR 0 0 0), some (vI (nI c)), some (vI (nI n)), some (vR 5 0 c), some (vI (0)), none]) dX10_can_31 rfl ?_
      refine w_iconst (v := 0) dX10_can_33 (by decide) ?_
      refine w_istore (ls' := [some (vR 0 0 0), some (vI (nI c)), some (vI (nI n)), some (vR 5 0 c), some (vI (0)), some (vI (0))]) dX10_can_34 rfl ?_
      refine l_canC hc hw hcc h1n hn2 ?_ (nJ a) 0 (Nat.zero_add _)
      refine w_iload dX10_can_84 rfl ?_
      exact w_ireturn dX10_can_86 rfl (rfl) rfl (⟨rfl, _, _, rfl, FrQ.rf⟩)
  · skip
    first
    | (exfalso; omega)
    | skip
      refine w_iconst (v := (-1)) dX10_can_28 (by decide) ?_
      exact w_ireturn dX10_can_29 rfl (rfl) rfl (⟨rfl, _, _, rfl, FrQ.rf⟩)

theorem q_can {I : xF4 Int32} {L : xF4 Int64} {a : aA} (hs : SI I a) (hw : WF a) {c n : Nat} (hcc : c < nC a) (h1n : sF a c 1 ≤ n) (hn2 : n ≤ sF a c 2)  : Tri 19 109 m_X11_can [vR 30 0 0, vI (nI c), vI (nI n)] (rM I L) (pMq (vI (nI (bitN (fun j => decide (canN a c j n)) (nJ a)))) I) := by
  refine ⟨k_X11_can, Nat.le_of_ble_eq_true rfl, ?_⟩
  show Wp _ _ _ 0 [some (vR 30 0 0), some (vI (nI c)), some (vI (nI n)), none, none] [] (rM I L) _
  obtain ⟨hJ, hC, hG, hD, hR, -⟩ := id hw
  obtain ⟨fc0, fc1, fc2, fc3, fc4, fc5, fc6, fc7, fc8⟩ := hw.2.2.2.2.2.2.1 c hcc
  refine w_aload_n dX11_can_0 rfl ?_
  refine w_iload_n dX11_can_1 rfl ?_
  refine w_iload_n dX11_can_2 rfl ?_
  refine w_callV (as := [vI (nI c), vI (nI n)]) (st := []) (Tri.mono (d_isTerm hs hw hcc (n := nI n) (X := ((n : Nat) : Int)) (z_nI (by omega))) (Nat.le_of_ble_eq_true rfl)) rfl rfl tg_X11_isTerm lk_X11_221 in_X11_isTerm se_X11_isTerm rfl dX11_can_3 rfl (Nat.le_of_ble_eq_true rfl) (Nat.le_refl _) (Nat.le_refl _) ?_
  rintro _ _ ⟨rfl, rfl⟩ -
  refine w_ifne_b (tgt := 11) dX11_can_6 (by decide) (fun h1 => ?_) (fun h1 => ?_)
  · skip
    first
    | (exfalso; omega)
    | skip
      refine w_iconst (v := 0) dX11_can_11 (by decide) ?_
      refine w_istore_n (ls' := [some (vR 30 0 0), some (vI (nI c)), some (vI (nI n)), some (vI (0)), none]) dX11_can_12 rfl ?_
      refine w_aload_n dX11_can_13 rfl ?_
      refine w_callV (as := []) (st := []) (Tri.mono (d_starts hs hw) (Nat.le_of_ble_eq_true rfl)) rfl rfl tg_X11_starts lk_X11_192 in_X11_starts se_X11_starts rfl dX11_can_14 rfl (Nat.le_of_ble_eq_true rfl) (Nat.le_refl _) (Nat.le_refl _) ?_
      rintro v M9 ⟨rfl, I1, rfl, hm1, hi1, hf1⟩ -
      have hs1 := hf1.r.si hs
      refine w_iconst (v := 0) dX11_can_17 (by decide) ?_
      refine w_istore (ls' := [some (vR 30 0 0), some (vI (nI c)), some (vI (nI n)), some (vI (0)), some (vI (0))]) dX11_can_18 rfl ?_
      refine l_canM hm1 hw hcc h1n hn2 ?_ (nJ a) 0 (Nat.zero_add _)
      refine w_iload_n dX11_can_52 rfl ?_
      exact w_ireturn dX11_can_53 rfl (rfl) rfl (⟨rfl, _, _, rfl, hf1.r⟩)
  · skip
    first
    | (exfalso; omega)
    | skip
      refine w_iconst (v := (-1)) dX11_can_9 (by decide) ?_
      exact w_ireturn dX11_can_10 rfl (rfl) rfl (⟨rfl, _, _, rfl, FrR.rf⟩)

theorem p_can_n {I : xF4 Int32} {L : xF4 Int64} {a : aA} (hc : CourtIs I 0 a) (hw : WF a) {c : Nat} (hcc : c < nC a) {n : Int32} (hx : n.toInt < ((sF a c 1 : Nat) : Int) ∨ ((sF a c 2 : Nat) : Int) < n.toInt) : Tri 19 109 m_X10_can [vR 0 0 0, vI (nI c), vI (n)] (rM I L) (pCq (vI (-1)) I) := by
  refine ⟨k_X10_can, Nat.le_of_ble_eq_true rfl, ?_⟩
  show Wp _ _ _ 0 [some (vR 0 0 0), some (vI (nI c)), some (vI (n)), none, none, none] [] (rM I L) _
  obtain ⟨hJ, hC, hG, hD, hR, -⟩ := id hw
  obtain ⟨fc0, fc1, fc2, fc3, fc4, fc5, fc6, fc7, fc8⟩ := hw.2.2.2.2.2.2.1 c hcc
  refine w_aload_n dX10_can_0 rfl ?_
  refine w_getR (w := some (1, 0, 0)) ff_X10_10 rfl rfl dX10_can_1 rfl ?_
  refine w_iload_n dX10_can_4 rfl ?_
  refine w_callV (as := [vI (nI c)]) (st := []) (Tri.mono (c_sAt hc hw hcc) (Nat.le_of_ble_eq_true rfl)) rfl rfl tg_X1_suitAt lk_X10_136 in_X1_suitAt se_X1_suitAt rfl dX10_can_5 rfl (Nat.le_of_ble_eq_true rfl) (Nat.le_refl _) (Nat.le_refl _) ?_
  rintro _ _ ⟨rfl, rfl⟩ -
  refine w_astore_n (ls' := [some (vR 0 0 0), some (vI (nI c)), some (vI (n)), some (vR 5 0 c), none, none]) dX10_can_8 rfl ?_
  refine w_aload_n dX10_can_9 rfl ?_
  refine w_ifnull (tgt := 28) dX10_can_10 (by decide) (fun h => by cases h) (fun _ _ => ?_)
  refine w_iload_n dX10_can_13 rfl ?_
  refine w_aload_n dX10_can_14 rfl ?_
  refine w_getI ff_X10_145 rfl rfl dX10_can_15 ?_
  rw [show (I 5 0 c 1 : Int32) = nI (sF a c 1) from hc.s hcc (by decide) (by decide)]
  refine w_aload_n dX10_can_18 rfl ?_
  refine w_getI ff_X10_148 rfl rfl dX10_can_19 ?_
  rw [show (I 5 0 c 2 : Int32) = nI (sF a c 2) from hc.s hcc (by decide) (by decide)]
  refine w_callS (as := [vI (n), vI (nI (sF a c 1)), vI (nI (sF a c 2))]) (st := []) (Tri.mono (c_X10_within (n) (nI (sF a c 1)) (nI (sF a c 2))) (Nat.le_of_ble_eq_true rfl)) tg_X10_within lk_X10_158 sa_X10_within rfl dX10_can_22 rfl (Nat.le_of_ble_eq_true rfl) (Nat.le_refl _) (Nat.le_refl _) ?_
  rintro _ _ ⟨rfl, rfl⟩ -
  refine w_top (y := bI (((sF a c 1 : Nat) : Int) ≤ n.toInt ∧ n.toInt ≤ ((sF a c 2 : Nat) : Int))) (show (bI ((nI (sF a c 1)) ≤ (n) ∧ (n) ≤ (nI (sF a c 2))) : Int32) = bI (((sF a c 1 : Nat) : Int) ≤ n.toInt ∧ n.toInt ≤ ((sF a c 2 : Nat) : Int)) from wiZ (X := n.toInt) (A := ((sF a c 1 : Nat) : Int)) (B := ((sF a c 2 : Nat) : Int)) rfl (z_nI (by omega)) (z_nI (by omega))) ?_
  refine w_ifne_b (tgt := 30) dX10_can_25 (by decide) (fun h1 => ?_) (fun h1 => ?_)
  · skip
    first
    | (exfalso; omega)
    | skip
      exfalso
      omega
  · skip
    first
    | (exfalso; omega)
    | skip
      refine w_iconst (v := (-1)) dX10_can_28 (by decide) ?_
      exact w_ireturn dX10_can_29 rfl (rfl) rfl (⟨rfl, _, _, rfl, FrQ.rf⟩)

theorem q_can_n {I : xF4 Int32} {L : xF4 Int64} {a : aA} (hs : SI I a) (hw : WF a) {c : Nat} (hcc : c < nC a) {n : Int32} (hx : n.toInt < ((sF a c 1 : Nat) : Int) ∨ ((sF a c 2 : Nat) : Int) < n.toInt) : Tri 19 109 m_X11_can [vR 30 0 0, vI (nI c), vI (n)] (rM I L) (pMq (vI (-1)) I) := by
  refine ⟨k_X11_can, Nat.le_of_ble_eq_true rfl, ?_⟩
  show Wp _ _ _ 0 [some (vR 30 0 0), some (vI (nI c)), some (vI (n)), none, none] [] (rM I L) _
  obtain ⟨hJ, hC, hG, hD, hR, -⟩ := id hw
  obtain ⟨fc0, fc1, fc2, fc3, fc4, fc5, fc6, fc7, fc8⟩ := hw.2.2.2.2.2.2.1 c hcc
  refine w_aload_n dX11_can_0 rfl ?_
  refine w_iload_n dX11_can_1 rfl ?_
  refine w_iload_n dX11_can_2 rfl ?_
  refine w_callV (as := [vI (nI c), vI (n)]) (st := []) (Tri.mono (d_isTerm hs hw hcc (n := n) (X := n.toInt) rfl) (Nat.le_of_ble_eq_true rfl)) rfl rfl tg_X11_isTerm lk_X11_221 in_X11_isTerm se_X11_isTerm rfl dX11_can_3 rfl (Nat.le_of_ble_eq_true rfl) (Nat.le_refl _) (Nat.le_refl _) ?_
  rintro _ _ ⟨rfl, rfl⟩ -
  refine w_ifne_b (tgt := 11) dX11_can_6 (by decide) (fun h1 => ?_) (fun h1 => ?_)
  · skip
    first
    | (exfalso; omega)
    | skip
      exfalso
      omega
  · skip
    first
    | (exfalso; omega)
    | skip
      refine w_iconst (v := (-1)) dX11_can_9 (by decide) ?_
      exact w_ireturn dX11_can_10 rfl (rfl) rfl (⟨rfl, _, _, rfl, FrR.rf⟩)

theorem p_can_o {I : xF4 Int32} {L : xF4 Int64} {a : aA} (hc : CourtIs I 0 a) (hw : WF a) {c n : Int32} (hx : c.toInt < 0 ∨ ((nC a : Nat) : Int) ≤ c.toInt) : Tri 19 109 m_X10_can [vR 0 0 0, vI (c), vI (n)] (rM I L) (pCq (vI (-1)) I) := by
  refine ⟨k_X10_can, Nat.le_of_ble_eq_true rfl, ?_⟩
  show Wp _ _ _ 0 [some (vR 0 0 0), some (vI (c)), some (vI (n)), none, none, none] [] (rM I L) _
  obtain ⟨hJ, hC, hG, hD, hR, -⟩ := id hw
  refine w_aload_n dX10_can_0 rfl ?_
  refine w_getR (w := some (1, 0, 0)) ff_X10_10 rfl rfl dX10_can_1 rfl ?_
  refine w_iload_n dX10_can_4 rfl ?_
  refine w_callV (as := [vI (c)]) (st := []) (Tri.mono (c_sAtO hc hw (z_out (by omega) hx)) (Nat.le_of_ble_eq_true rfl)) rfl rfl tg_X1_suitAt lk_X10_136 in_X1_suitAt se_X1_suitAt rfl dX10_can_5 rfl (Nat.le_of_ble_eq_true rfl) (Nat.le_refl _) (Nat.le_refl _) ?_
  rintro _ _ ⟨rfl, rfl⟩ -
  refine w_astore_n (ls' := [some (vR 0 0 0), some (vI (c)), some (vI (n)), some (vN), none, none]) dX10_can_8 rfl ?_
  refine w_aload_n dX10_can_9 rfl ?_
  refine w_ifnull (tgt := 28) dX10_can_10 (by decide) (fun _ => ?_) (fun _ h => by cases h)
  refine w_iconst (v := (-1)) dX10_can_28 (by decide) ?_
  exact w_ireturn dX10_can_29 rfl (rfl) rfl (⟨rfl, _, _, rfl, FrQ.rf⟩)

theorem q_can_o {I : xF4 Int32} {L : xF4 Int64} {a : aA} (hs : SI I a) (hw : WF a) {c n : Int32} (hx : c.toInt < 0 ∨ ((nC a : Nat) : Int) ≤ c.toInt) : Tri 19 109 m_X11_can [vR 30 0 0, vI (c), vI (n)] (rM I L) (pMq (vI (-1)) I) := by
  refine ⟨k_X11_can, Nat.le_of_ble_eq_true rfl, ?_⟩
  show Wp _ _ _ 0 [some (vR 30 0 0), some (vI (c)), some (vI (n)), none, none] [] (rM I L) _
  obtain ⟨hJ, hC, hG, hD, hR, -⟩ := id hw
  refine w_aload_n dX11_can_0 rfl ?_
  refine w_iload_n dX11_can_1 rfl ?_
  refine w_iload_n dX11_can_2 rfl ?_
  refine w_callV (as := [vI (c), vI (n)]) (st := []) (Tri.mono (d_isTermO hs hw (c := c) (n := n) (by omega)) (Nat.le_of_ble_eq_true rfl)) rfl rfl tg_X11_isTerm lk_X11_221 in_X11_isTerm se_X11_isTerm rfl dX11_can_3 rfl (Nat.le_of_ble_eq_true rfl) (Nat.le_refl _) (Nat.le_refl _) ?_
  rintro _ _ ⟨rfl, rfl⟩ -
  refine w_if_ne (tgt := 11) dX11_can_6 (by decide) (fun h => absurd (by decide) h) (fun _ => ?_)
  refine w_iconst (v := (-1)) dX11_can_9 (by decide) ?_
  exact w_ireturn dX11_can_10 rfl (rfl) rfl (⟨rfl, _, _, rfl, FrR.rf⟩)

def detF (cr v : Nat) : Nat → Nat → Int32
  | _, 0 => -4
  | n, m + 1 => if cr - n / 5 ≤ v then nI n else detF cr v (n + 1) m

theorem l_deterC {I : xF4 Int32} {L : xF4 Int64} {a : aA} (hc : CourtIs I 0 a) (hw : WF a) {c v : Nat} (hcc : c < nC a) (hv : v ≤ 99) : ∀ (m n : Nat), n + m = sF a c 2 + 1 → Wp 19 109 m_X10_deter 41 [some (vR 0 0 0), some (vI (nI c)), some (vI (nI v)), some (vR 5 0 c), some (vI (nI n))] [] (rM I L) (pCq (vI (detF (cR a) v n m)) I) := by
  intro m
  induction m with
  | zero =>
    intro n hn
    obtain ⟨hJ, hC, hG, hD, hR, -⟩ := id hw
    obtain ⟨fc0, fc1, fc2, fc3, fc4, fc5, fc6, fc7, fc8⟩ := hw.2.2.2.2.2.2.1 c hcc
    refine w_iload dX10_deter_41 rfl ?_
    refine w_aload_n dX10_deter_43 rfl ?_
    refine w_getI ff_X10_148 rfl rfl dX10_deter_44 ?_
    rw [show (I 5 0 c 2 : Int32) = nI (sF a c 2) from hc.s hcc (by decide) (by decide)]
    refine w_icmp_gt (tgt := 75) dX10_deter_47 (by decide) (fun _ => ?_) (fun h => absurd (nI_lt (by omega) (by omega)) h)
    refine w_bipush (v := (-4)) dX10_deter_75 (by decide) ?_
    exact w_ireturn dX10_deter_77 rfl (rfl) rfl (⟨rfl, _, _, rfl, FrQ.rf⟩)
  | succ m ih =>
    intro n hn
    obtain ⟨hJ, hC, hG, hD, hR, -⟩ := id hw
    obtain ⟨fc0, fc1, fc2, fc3, fc4, fc5, fc6, fc7, fc8⟩ := hw.2.2.2.2.2.2.1 c hcc
    refine w_iload dX10_deter_41 rfl ?_
    refine w_aload_n dX10_deter_43 rfl ?_
    refine w_getI ff_X10_148 rfl rfl dX10_deter_44 ?_
    rw [show (I 5 0 c 2 : Int32) = nI (sF a c 2) from hc.s hcc (by decide) (by decide)]
    refine w_icmp_gt (tgt := 75) dX10_deter_47 (by decide) (fun h => absurd h ((fun q => absurd ((nI_ltI (by omega) (by omega)).mp q) (by omega)))) (fun _ => ?_)
    refine w_aload_n dX10_deter_50 rfl ?_
    refine w_getR (w := some (1, 0, 0)) ff_X10_10 rfl rfl dX10_deter_51 rfl ?_
    refine w_getI ff_X10_98 rfl rfl dX10_deter_54 ?_
    rw [show (I 1 0 0 7 : Int32) = nI (cR a) from hc.2.2.2.2.1]
    refine w_iload dX10_deter_57 rfl ?_
    refine w_callS (as := [vI (nI (cR a)), vI (nI n)]) (st := []) (Tri.mono (c_X10_lessCrime (nI (cR a)) (nI n)) (Nat.le_of_ble_eq_true rfl)) tg_X10_lessCrime lk_X10_228 sa_X10_lessCrime rfl dX10_deter_59 rfl (Nat.le_of_ble_eq_true rfl) (Nat.le_refl _) (Nat.le_refl _) ?_
    rintro _ _ ⟨rfl, rfl⟩ -
    refine w_top (y := nI (cR a - n / 5)) (show (lessI (nI (cR a)) (nI n) : Int32) = nI (cR a - n / 5) from lessI_N (by omega) (by omega)) ?_
    refine w_iload_n dX10_deter_62 rfl ?_
    refine w_icmp_gt (tgt := 69) dX10_deter_63 (by decide) (fun h1 => ?_) (fun h1 => ?_)
    · skip
      replace h1 : ((v : Nat) : Int) < ((cR a - n / 5 : Nat) : Int) := (zlt (z_nI (by omega)) (z_nI (by omega))).mp h1
      rw [detF, if_neg (by omega)]
      refine w_iinc (v := nI (n + 1)) (ls' := [some (vR 0 0 0), some (vI (nI c)), some (vI (nI v)), some (vR 5 0 c), some (vI (nI (n + 1)))]) dX10_deter_69 rfl (nI_1 _) rfl ?_
      refine w_goto (tgt := 41) dX10_deter_72 (by decide) ?_
      exact ih (n + 1) (by omega)
    · skip
      replace h1 : ¬ (((v : Nat) : Int) < ((cR a - n / 5 : Nat) : Int)) := fun q => h1 ((zlt (z_nI (by omega)) (z_nI (by omega))).mpr q)
      rw [detF, if_pos (by omega)]
      refine w_iload dX10_deter_66 rfl ?_
      exact w_ireturn dX10_deter_68 rfl (rfl) rfl (⟨rfl, _, _, rfl, FrQ.rf⟩)

theorem l_deterM {I : xF4 Int32} {L : xF4 Int64} {a : aA} (hs : SI I a) (hw : WF a) {c v : Nat} (hcc : c < nC a) (hv : v ≤ 99) : ∀ (m n : Nat), n + m = sF a c 2 + 1 → Wp 19 109 m_X11_deter 48 [some (vR 30 0 0), some (vI (nI c)), some (vI (nI v)), some (vI (nI n))] [] (rM I L) (pMq (vI (detF (cR a) v n m)) I) := by
  intro m
  induction m with
  | zero =>
    intro n hn
    obtain ⟨hJ, hC, hG, hD, hR, -⟩ := id hw
    obtain ⟨fc0, fc1, fc2, fc3, fc4, fc5, fc6, fc7, fc8⟩ := hw.2.2.2.2.2.2.1 c hcc
    refine w_iload_n dX11_deter_48 rfl ?_
    refine w_aload_n dX11_deter_49 rfl ?_
    refine w_getR (w := some (31, 0, 0)) ff_X11_7 rfl rfl dX11_deter_50 rfl ?_
    refine w_bipush (v := 20) dX11_deter_53 (by decide) ?_
    refine w_bipush (v := 7) dX11_deter_55 (by decide) ?_
    refine w_iload_n dX11_deter_57 rfl ?_
    refine w_imul dX11_deter_58 ?_
    rw [show ((7) * (nI c) : Int32) = nI (7 * c) from ar_mul (p := 7) (q := c) rfl rfl (by first | rfl | omega)]
    refine w_iadd dX11_deter_59 ?_
    rw [show ((20) + (nI (7 * c)) : Int32) = nI (20 + (7 * c)) from ar_add (p := 20) (q := 7 * c) rfl rfl (by omega)]
    refine w_iconst (v := 2) dX11_deter_60 (by decide) ?_
    refine w_iadd dX11_deter_61 ?_
    rw [show ((nI (20 + (7 * c))) + (2) : Int32) = nI ((20 + (7 * c)) + 2) from ar_add (p := 20 + (7 * c)) (q := 2) rfl rfl (by omega)]
    refine w_iaload (a := (20 + (7 * c)) + 2) rfl (vp_in_nI (n := (20 + (7 * c)) + 2) (by omega) (by omega)) (nI_clamp (n := (20 + (7 * c)) + 2) (by omega)) dX11_deter_62 ?_
    rw [show (I 31 0 0 ((20 + (7 * c)) + 2) : Int32) = nI (sF a c 2) from hs.2.2.s hcc (f := 2) (by decide) (by decide) (by omega)]
    refine w_icmp_gt (tgt := 89) dX11_deter_63 (by decide) (fun _ => ?_) (fun h => absurd (nI_lt (by omega) (by omega)) h)
    refine w_bipush (v := (-4)) dX11_deter_89 (by decide) ?_
    exact w_ireturn dX11_deter_91 rfl (rfl) rfl (⟨rfl, _, _, rfl, FrR.rf⟩)
  | succ m ih =>
    intro n hn
    obtain ⟨hJ, hC, hG, hD, hR, -⟩ := id hw
    obtain ⟨fc0, fc1, fc2, fc3, fc4, fc5, fc6, fc7, fc8⟩ := hw.2.2.2.2.2.2.1 c hcc
    refine w_iload_n dX11_deter_48 rfl ?_
    refine w_aload_n dX11_deter_49 rfl ?_
    refine w_getR (w := some (31, 0, 0)) ff_X11_7 rfl rfl dX11_deter_50 rfl ?_
    refine w_bipush (v := 20) dX11_deter_53 (by decide) ?_
    refine w_bipush (v := 7) dX11_deter_55 (by decide) ?_
    refine w_iload_n dX11_deter_57 rfl ?_
    refine w_imul dX11_deter_58 ?_
    rw [show ((7) * (nI c) : Int32) = nI (7 * c) from ar_mul (p := 7) (q := c) rfl rfl (by first | rfl | omega)]
    refine w_iadd dX11_deter_59 ?_
    rw [show ((20) + (nI (7 * c)) : Int32) = nI (20 + (7 * c)) from ar_add (p := 20) (q := 7 * c) rfl rfl (by omega)]
    refine w_iconst (v := 2) dX11_deter_60 (by decide) ?_
    refine w_iadd dX11_deter_61 ?_
    rw [show ((nI (20 + (7 * c))) + (2) : Int32) = nI ((20 + (7 * c)) + 2) from ar_add (p := 20 + (7 * c)) (q := 2) rfl rfl (by omega)]
    refine w_iaload (a := (20 + (7 * c)) + 2) rfl (vp_in_nI (n := (20 + (7 * c)) + 2) (by omega) (by omega)) (nI_clamp (n := (20 + (7 * c)) + 2) (by omega)) dX11_deter_62 ?_
    rw [show (I 31 0 0 ((20 + (7 * c)) + 2) : Int32) = nI (sF a c 2) from hs.2.2.s hcc (f := 2) (by decide) (by decide) (by omega)]
    refine w_icmp_gt (tgt := 89) dX11_deter_63 (by decide) (fun h => absurd h ((fun q => absurd ((nI_ltI (by omega) (by omega)).mp q) (by omega)))) (fun _ => ?_)
    refine w_aload_n dX11_deter_66 rfl ?_
    refine w_getR (w := some (31, 0, 0)) ff_X11_7 rfl rfl dX11_deter_67 rfl ?_
    refine w_bipush (v := 56) dX11_deter_70 (by decide) ?_
    refine w_iaload (a := 56) rfl (vp_in_nI (n := 56) (by omega) (by omega)) (nI_clamp (n := 56) (by omega)) dX11_deter_72 ?_
    rw [show (I 31 0 0 (56) : Int32) = nI (cR a) from hs.2.2.cr rfl]
    refine w_iload_n dX11_deter_73 rfl ?_
    refine w_iconst (v := 5) dX11_deter_74 (by decide) ?_
    refine w_idiv dX11_deter_75 (by decide) ?_
    refine w_top (y := nI (n / 5)) (show ((nI n) / (5) : Int32) = nI (n / 5) from ar_div (p := n) (q := 5) rfl rfl (by omega) (by decide) (by decide) rfl) ?_
    refine w_isub dX11_deter_76 ?_
    refine w_iload_n dX11_deter_77 rfl ?_
    refine w_icmp_gt (tgt := 83) dX11_deter_78 (by decide) (fun h1 => ?_) (fun h1 => ?_)
    · skip
      replace h1 : ((v : Nat) : Int) < ((cR a : Nat) : Int) - ((n / 5 : Nat) : Int) := (zlt (z_nI (by omega)) (z_sub (a := cR a) (b := n / 5) (by omega) (by omega))).mp h1
      rw [detF, if_neg (by omega)]
      refine w_iinc (v := nI (n + 1)) (ls' := [some (vR 30 0 0), some (vI (nI c)), some (vI (nI v)), some (vI (nI (n + 1)))]) dX11_deter_83 rfl (nI_1 _) rfl ?_
      refine w_goto (tgt := 48) dX11_deter_86 (by decide) ?_
      exact ih (n + 1) (by omega)
    · skip
      replace h1 : ¬ (((v : Nat) : Int) < ((cR a : Nat) : Int) - ((n / 5 : Nat) : Int)) := fun q => h1 ((zlt (z_nI (by omega)) (z_sub (a := cR a) (b := n / 5) (by omega) (by omega))).mpr q)
      rw [detF, if_pos (by omega)]
      refine w_iload_n dX11_deter_81 rfl ?_
      exact w_ireturn dX11_deter_82 rfl (rfl) rfl (⟨rfl, _, _, rfl, FrR.rf⟩)

theorem p_deter {I : xF4 Int32} {L : xF4 Int64} {a : aA} (hc : CourtIs I 0 a) (hw : WF a) {c v : Nat} (hcc : c < nC a) (hv : v ≤ 99) (h4 : ¬ 0 < sF a c 4) : Tri 19 109 m_X10_deter [vR 0 0 0, vI (nI c), vI (nI v)] (rM I L) (pCq (vI (detF (cR a) v (sF a c 1) (sF a c 2 + 1 - sF a c 1))) I) := by
  refine ⟨k_X10_deter, Nat.le_of_ble_eq_true rfl, ?_⟩
  show Wp _ _ _ 0 [some (vR 0 0 0), some (vI (nI c)), some (vI (nI v)), none, none] [] (rM I L) _
  obtain ⟨hJ, hC, hG, hD, hR, -⟩ := id hw
  obtain ⟨fc0, fc1, fc2, fc3, fc4, fc5, fc6, fc7, fc8⟩ := hw.2.2.2.2.2.2.1 c hcc
  refine w_aload_n dX10_deter_0 rfl ?_
  refine w_getR (w := some (1, 0, 0)) ff_X10_10 rfl rfl dX10_deter_1 rfl ?_
  refine w_iload_n dX10_deter_4 rfl ?_
  refine w_callV (as := [vI (nI c)]) (st := []) (Tri.mono (c_sAt hc hw hcc) (Nat.le_of_ble_eq_true rfl)) rfl rfl tg_X1_suitAt lk_X10_136 in_X1_suitAt se_X1_suitAt rfl dX10_deter_5 rfl (Nat.le_of_ble_eq_true rfl) (Nat.le_refl _) (Nat.le_refl _) ?_
  rintro _ _ ⟨rfl, rfl⟩ -
  refine w_astore_n (ls' := [some (vR 0 0 0), some (vI (nI c)), some (vI (nI v)), some (vR 5 0 c), none]) dX10_deter_8 rfl ?_
  refine w_aload_n dX10_deter_9 rfl ?_
  refine w_ifnull (tgt := 23) dX10_deter_10 (by decide) (fun h => by cases h) (fun _ _ => ?_)
  refine w_iload_n dX10_deter_13 rfl ?_
  refine w_iconst (v := 0) dX10_deter_14 (by decide) ?_
  refine w_bipush (v := 99) dX10_deter_15 (by decide) ?_
  refine w_callS (as := [vI (nI v), vI (0), vI (99)]) (st := []) (Tri.mono (c_X10_within (nI v) (0) (99)) (Nat.le_of_ble_eq_true rfl)) tg_X10_within lk_X10_158 sa_X10_within rfl dX10_deter_17 rfl (Nat.le_of_ble_eq_true rfl) (Nat.le_refl _) (Nat.le_refl _) ?_
  rintro _ _ ⟨rfl, rfl⟩ -
  refine w_top (y := bI (0 ≤ ((v : Nat) : Int) ∧ ((v : Nat) : Int) ≤ 99)) (show (bI ((0 : Int32) ≤ (nI v) ∧ (nI v) ≤ (99 : Int32)) : Int32) = bI (0 ≤ ((v : Nat) : Int) ∧ ((v : Nat) : Int) ≤ 99) from wiZ (X := ((v : Nat) : Int)) (A := 0) (B := 99) (z_nI (by omega)) (by decide) (by decide)) ?_
  refine w_ifne_b (tgt := 25) dX10_deter_20 (by decide) (fun h1 => ?_) (fun h1 => ?_)
  · skip
    first
    | (exfalso; omega)
    | skip
      refine w_aload_n dX10_deter_25 rfl ?_
      refine w_callV (as := []) (st := []) (Tri.mono (c_X8_isHeard 0 c) (Nat.le_of_ble_eq_true rfl)) rfl rfl tg_X8_isHeard lk_X10_170 in_X8_isHeard se_X8_isHeard rfl dX10_deter_26 rfl (Nat.le_of_ble_eq_true rfl) (Nat.le_refl _) (Nat.le_refl _) ?_
      rintro _ _ ⟨rfl, rfl⟩ -
      rw [show (bI (0 < I 5 0 c 4) : Int32) = bI (0 < sF a c 4) from isH hc hw hcc]
      refine w_ifeq_b (tgt := 35) dX10_deter_29 (by decide) (fun h2 => ?_) (fun h2 => ?_)
      · skip
        first
        | (exfalso; omega)
        | skip
          refine w_aload_n dX10_deter_35 rfl ?_
          refine w_getI ff_X10_145 rfl rfl dX10_deter_36 ?_
          rw [show (I 5 0 c 1 : Int32) = nI (sF a c 1) from hc.s hcc (by decide) (by decide)]
          refine w_istore (ls' := [some (vR 0 0 0), some (vI (nI c)), some (vI (nI v)), some (vR 5 0 c), some (vI (nI (sF a c 1)))]) dX10_deter_39 rfl ?_
          exact l_deterC hc hw hcc hv (sF a c 2 + 1 - sF a c 1) (sF a c 1) (by omega)
      · skip
        first
        | (exfalso; omega)
        | skip
          refine w_bipush (v := (-2)) dX10_deter_32 (by decide) ?_
          exact w_ireturn dX10_deter_34 rfl (rfl) rfl (⟨rfl, _, _, rfl, FrQ.rf⟩)
  · skip
    first
    | (exfalso; omega)
    | skip
      refine w_iconst (v := (-1)) dX10_deter_23 (by decide) ?_
      exact w_ireturn dX10_deter_24 rfl (rfl) rfl (⟨rfl, _, _, rfl, FrQ.rf⟩)

theorem q_deter {I : xF4 Int32} {L : xF4 Int64} {a : aA} (hs : SI I a) (hw : WF a) {c v : Nat} (hcc : c < nC a) (hv : v ≤ 99) (h4 : ¬ 0 < sF a c 4) : Tri 19 109 m_X11_deter [vR 30 0 0, vI (nI c), vI (nI v)] (rM I L) (pMq (vI (detF (cR a) v (sF a c 1) (sF a c 2 + 1 - sF a c 1))) I) := by
  refine ⟨k_X11_deter, Nat.le_of_ble_eq_true rfl, ?_⟩
  show Wp _ _ _ 0 [some (vR 30 0 0), some (vI (nI c)), some (vI (nI v)), none] [] (rM I L) _
  obtain ⟨hJ, hC, hG, hD, hR, -⟩ := id hw
  obtain ⟨fc0, fc1, fc2, fc3, fc4, fc5, fc6, fc7, fc8⟩ := hw.2.2.2.2.2.2.1 c hcc
  refine w_aload_n dX11_deter_0 rfl ?_
  refine w_iload_n dX11_deter_1 rfl ?_
  refine w_callV (as := [vI (nI c)]) (st := []) (Tri.mono (d_isCase (hs.2.1) (by omega) (x := nI c) (X := ((c : Nat) : Int)) (z_nI (by omega))) (Nat.le_of_ble_eq_true rfl)) rfl rfl tg_X11_isCase lk_X11_204 in_X11_isCase se_X11_isCase rfl dX11_deter_2 rfl (Nat.le_of_ble_eq_true rfl) (Nat.le_refl _) (Nat.le_refl _) ?_
  rintro _ _ ⟨rfl, rfl⟩ -
  refine w_ifeq_b (tgt := 20) dX11_deter_5 (by decide) (fun h1 => ?_) (fun h1 => ?_)
  · skip
    first
    | (exfalso; omega)
    | skip
      refine w_iconst (v := (-1)) dX11_deter_20 (by decide) ?_
      exact w_ireturn dX11_deter_21 rfl (rfl) rfl (⟨rfl, _, _, rfl, FrR.rf⟩)
  · skip
    first
    | (exfalso; omega)
    | skip
      refine w_iload_n dX11_deter_8 rfl ?_
      refine w_i2l dX11_deter_9 ?_
      refine w_lconst (v := 0) dX11_deter_10 (by decide) ?_
      refine w_ldc2 dX11_deter_11 cq_X11_213 ?_
      refine w_callS (as := [vL ((nI v : Int32).toInt64), vL (0), vL (99)]) (st := []) (Tri.mono (d_in ((nI v : Int32).toInt64) (0) (99)) (Nat.le_of_ble_eq_true rfl)) tg_X11_in lk_X11_66 sa_X11_in rfl dX11_deter_14 rfl (Nat.le_of_ble_eq_true rfl) (Nat.le_refl _) (Nat.le_refl _) ?_
      rintro _ _ ⟨rfl, rfl⟩ -
      refine w_top (y := bI (0 ≤ ((v : Nat) : Int) ∧ ((v : Nat) : Int) ≤ 99)) (show (bI ((0 : Int64) ≤ ((nI v : Int32).toInt64) ∧ ((nI v : Int32).toInt64) ≤ (99 : Int64)) : Int32) = bI (0 ≤ ((v : Nat) : Int) ∧ ((v : Nat) : Int) ≤ 99) from inZ (x := nI v) (l := 0) (h := 99) (X := ((v : Nat) : Int)) (A := 0) (B := 99) rfl (by decide) (by decide) (z_nI (by omega)) (by decide) (by decide)) ?_
      refine w_ifne_b (tgt := 22) dX11_deter_17 (by decide) (fun h2 => ?_) (fun h2 => ?_)
      · skip
        first
        | (exfalso; omega)
        | skip
          refine w_aload_n dX11_deter_22 rfl ?_
          refine w_iload_n dX11_deter_23 rfl ?_
          refine w_callV (as := [vI (nI c)]) (st := []) (Tri.mono (d_isHeard hs hw hcc) (Nat.le_of_ble_eq_true rfl)) rfl rfl tg_X11_isHeard lk_X11_218 in_X11_isHeard se_X11_isHeard rfl dX11_deter_24 rfl (Nat.le_of_ble_eq_true rfl) (Nat.le_refl _) (Nat.le_refl _) ?_
          rintro _ _ ⟨rfl, rfl⟩ -
          refine w_ifeq_b (tgt := 33) dX11_deter_27 (by decide) (fun h3 => ?_) (fun h3 => ?_)
          · skip
            first
            | (exfalso; omega)
            | skip
              refine w_aload_n dX11_deter_33 rfl ?_
              refine w_getR (w := some (31, 0, 0)) ff_X11_7 rfl rfl dX11_deter_34 rfl ?_
              refine w_bipush (v := 20) dX11_deter_37 (by decide) ?_
              refine w_bipush (v := 7) dX11_deter_39 (by decide) ?_
              refine w_iload_n dX11_deter_41 rfl ?_
              refine w_imul dX11_deter_42 ?_
              rw [show ((7) * (nI c) : Int32) = nI (7 * c) from ar_mul (p := 7) (q := c) rfl rfl (by first | rfl | omega)]
              refine w_iadd dX11_deter_43 ?_
              rw [show ((20) + (nI (7 * c)) : Int32) = nI (20 + (7 * c)) from ar_add (p := 20) (q := 7 * c) rfl rfl (by omega)]
              refine w_iconst (v := 1) dX11_deter_44 (by decide) ?_
              refine w_iadd dX11_deter_45 ?_
              rw [show ((nI (20 + (7 * c))) + (1) : Int32) = nI ((20 + (7 * c)) + 1) from ar_add (p := 20 + (7 * c)) (q := 1) rfl rfl (by omega)]
              refine w_iaload (a := (20 + (7 * c)) + 1) rfl (vp_in_nI (n := (20 + (7 * c)) + 1) (by omega) (by omega)) (nI_clamp (n := (20 + (7 * c)) + 1) (by omega)) dX11_deter_46 ?_
              rw [show (I 31 0 0 ((20 + (7 * c)) + 1) : Int32) = nI (sF a c 1) from hs.2.2.s hcc (f := 1) (by decide) (by decide) (by omega)]
              refine w_istore_n (ls' := [some (vR 30 0 0), some (vI (nI c)), some (vI (nI v)), some (vI (nI (sF a c 1)))]) dX11_deter_47 rfl ?_
              exact l_deterM hs hw hcc hv (sF a c 2 + 1 - sF a c 1) (sF a c 1) (by omega)
          · skip
            first
            | (exfalso; omega)
            | skip
              refine w_bipush (v := (-2)) dX11_deter_30 (by decide) ?_
              exact w_ireturn dX11_deter_32 rfl (rfl) rfl (⟨rfl, _, _, rfl, FrR.rf⟩)
      · skip
        first
        | (exfalso; omega)
        | skip
          refine w_iconst (v := (-1)) dX11_deter_20 (by decide) ?_
          exact w_ireturn dX11_deter_21 rfl (rfl) rfl (⟨rfl, _, _, rfl, FrR.rf⟩)

theorem p_deter_h {I : xF4 Int32} {L : xF4 Int64} {a : aA} (hc : CourtIs I 0 a) (hw : WF a) {c v : Nat} (hcc : c < nC a) (hv : v ≤ 99) (h4 : 0 < sF a c 4) : Tri 19 109 m_X10_deter [vR 0 0 0, vI (nI c), vI (nI v)] (rM I L) (pCq (vI (-2)) I) := by
  refine ⟨k_X10_deter, Nat.le_of_ble_eq_true rfl, ?_⟩
  show Wp _ _ _ 0 [some (vR 0 0 0), some (vI (nI c)), some (vI (nI v)), none, none] [] (rM I L) _
  obtain ⟨hJ, hC, hG, hD, hR, -⟩ := id hw
  obtain ⟨fc0, fc1, fc2, fc3, fc4, fc5, fc6, fc7, fc8⟩ := hw.2.2.2.2.2.2.1 c hcc
  refine w_aload_n dX10_deter_0 rfl ?_
  refine w_getR (w := some (1, 0, 0)) ff_X10_10 rfl rfl dX10_deter_1 rfl ?_
  refine w_iload_n dX10_deter_4 rfl ?_
  refine w_callV (as := [vI (nI c)]) (st := []) (Tri.mono (c_sAt hc hw hcc) (Nat.le_of_ble_eq_true rfl)) rfl rfl tg_X1_suitAt lk_X10_136 in_X1_suitAt se_X1_suitAt rfl dX10_deter_5 rfl (Nat.le_of_ble_eq_true rfl) (Nat.le_refl _) (Nat.le_refl _) ?_
  rintro _ _ ⟨rfl, rfl⟩ -
  refine w_astore_n (ls' := [some (vR 0 0 0), some (vI (nI c)), some (vI (nI v)), some (vR 5 0 c), none]) dX10_deter_8 rfl ?_
  refine w_aload_n dX10_deter_9 rfl ?_
  refine w_ifnull (tgt := 23) dX10_deter_10 (by decide) (fun h => by cases h) (fun _ _ => ?_)
  refine w_iload_n dX10_deter_13 rfl ?_
  refine w_iconst (v := 0) dX10_deter_14 (by decide) ?_
  refine w_bipush (v := 99) dX10_deter_15 (by decide) ?_
  refine w_callS (as := [vI (nI v), vI (0), vI (99)]) (st := []) (Tri.mono (c_X10_within (nI v) (0) (99)) (Nat.le_of_ble_eq_true rfl)) tg_X10_within lk_X10_158 sa_X10_within rfl dX10_deter_17 rfl (Nat.le_of_ble_eq_true rfl) (Nat.le_refl _) (Nat.le_refl _) ?_
  rintro _ _ ⟨rfl, rfl⟩ -
  refine w_top (y := bI (0 ≤ ((v : Nat) : Int) ∧ ((v : Nat) : Int) ≤ 99)) (show (bI ((0 : Int32) ≤ (nI v) ∧ (nI v) ≤ (99 : Int32)) : Int32) = bI (0 ≤ ((v : Nat) : Int) ∧ ((v : Nat) : Int) ≤ 99) from wiZ (X := ((v : Nat) : Int)) (A := 0) (B := 99) (z_nI (by omega)) (by decide) (by decide)) ?_
  refine w_ifne_b (tgt := 25) dX10_deter_20 (by decide) (fun h1 => ?_) (fun h1 => ?_)
  · skip
    first
    | (exfalso; omega)
    | skip
      refine w_aload_n dX10_deter_25 rfl ?_
      refine w_callV (as := []) (st := []) (Tri.mono (c_X8_isHeard 0 c) (Nat.le_of_ble_eq_true rfl)) rfl rfl tg_X8_isHeard lk_X10_170 in_X8_isHeard se_X8_isHeard rfl dX10_deter_26 rfl (Nat.le_of_ble_eq_true rfl) (Nat.le_refl _) (Nat.le_refl _) ?_
      rintro _ _ ⟨rfl, rfl⟩ -
      rw [show (bI (0 < I 5 0 c 4) : Int32) = bI (0 < sF a c 4) from isH hc hw hcc]
      refine w_ifeq_b (tgt := 35) dX10_deter_29 (by decide) (fun h2 => ?_) (fun h2 => ?_)
      · skip
        first
        | (exfalso; omega)
        | skip
          exfalso
          omega
      · skip
        first
        | (exfalso; omega)
        | skip
          refine w_bipush (v := (-2)) dX10_deter_32 (by decide) ?_
          exact w_ireturn dX10_deter_34 rfl (rfl) rfl (⟨rfl, _, _, rfl, FrQ.rf⟩)
  · skip
    first
    | (exfalso; omega)
    | skip
      refine w_iconst (v := (-1)) dX10_deter_23 (by decide) ?_
      exact w_ireturn dX10_deter_24 rfl (rfl) rfl (⟨rfl, _, _, rfl, FrQ.rf⟩)

theorem q_deter_h {I : xF4 Int32} {L : xF4 Int64} {a : aA} (hs : SI I a) (hw : WF a) {c v : Nat} (hcc : c < nC a) (hv : v ≤ 99) (h4 : 0 < sF a c 4) : Tri 19 109 m_X11_deter [vR 30 0 0, vI (nI c), vI (nI v)] (rM I L) (pMq (vI (-2)) I) := by
  refine ⟨k_X11_deter, Nat.le_of_ble_eq_true rfl, ?_⟩
  show Wp _ _ _ 0 [some (vR 30 0 0), some (vI (nI c)), some (vI (nI v)), none] [] (rM I L) _
  obtain ⟨hJ, hC, hG, hD, hR, -⟩ := id hw
  obtain ⟨fc0, fc1, fc2, fc3, fc4, fc5, fc6, fc7, fc8⟩ := hw.2.2.2.2.2.2.1 c hcc
  refine w_aload_n dX11_deter_0 rfl ?_
  refine w_iload_n dX11_deter_1 rfl ?_
  refine w_callV (as := [vI (nI c)]) (st := []) (Tri.mono (d_isCase (hs.2.1) (by omega) (x := nI c) (X := ((c : Nat) : Int)) (z_nI (by omega))) (Nat.le_of_ble_eq_true rfl)) rfl rfl tg_X11_isCase lk_X11_204 in_X11_isCase se_X11_isCase rfl dX11_deter_2 rfl (Nat.le_of_ble_eq_true rfl) (Nat.le_refl _) (Nat.le_refl _) ?_
  rintro _ _ ⟨rfl, rfl⟩ -
  refine w_ifeq_b (tgt := 20) dX11_deter_5 (by decide) (fun h1 => ?_) (fun h1 => ?_)
  · skip
    first
    | (exfalso; omega)
    | skip
      refine w_iconst (v := (-1)) dX11_deter_20 (by decide) ?_
      exact w_ireturn dX11_deter_21 rfl (rfl) rfl (⟨rfl, _, _, rfl, FrR.rf⟩)
  · skip
    first
    | (exfalso; omega)
    | skip
      refine w_iload_n dX11_deter_8 rfl ?_
      refine w_i2l dX11_deter_9 ?_
      refine w_lconst (v := 0) dX11_deter_10 (by decide) ?_
      refine w_ldc2 dX11_deter_11 cq_X11_213 ?_
      refine w_callS (as := [vL ((nI v : Int32).toInt64), vL (0), vL (99)]) (st := []) (Tri.mono (d_in ((nI v : Int32).toInt64) (0) (99)) (Nat.le_of_ble_eq_true rfl)) tg_X11_in lk_X11_66 sa_X11_in rfl dX11_deter_14 rfl (Nat.le_of_ble_eq_true rfl) (Nat.le_refl _) (Nat.le_refl _) ?_
      rintro _ _ ⟨rfl, rfl⟩ -
      refine w_top (y := bI (0 ≤ ((v : Nat) : Int) ∧ ((v : Nat) : Int) ≤ 99)) (show (bI ((0 : Int64) ≤ ((nI v : Int32).toInt64) ∧ ((nI v : Int32).toInt64) ≤ (99 : Int64)) : Int32) = bI (0 ≤ ((v : Nat) : Int) ∧ ((v : Nat) : Int) ≤ 99) from inZ (x := nI v) (l := 0) (h := 99) (X := ((v : Nat) : Int)) (A := 0) (B := 99) rfl (by decide) (by decide) (z_nI (by omega)) (by decide) (by decide)) ?_
      refine w_ifne_b (tgt := 22) dX11_deter_17 (by decide) (fun h2 => ?_) (fun h2 => ?_)
      · skip
        first
        | (exfalso; omega)
        | skip
          refine w_aload_n dX11_deter_22 rfl ?_
          refine w_iload_n dX11_deter_23 rfl ?_
          refine w_callV (as := [vI (nI c)]) (st := []) (Tri.mono (d_isHeard hs hw hcc) (Nat.le_of_ble_eq_true rfl)) rfl rfl tg_X11_isHeard lk_X11_218 in_X11_isHeard se_X11_isHeard rfl dX11_deter_24 rfl (Nat.le_of_ble_eq_true rfl) (Nat.le_refl _) (Nat.le_refl _) ?_
          rintro _ _ ⟨rfl, rfl⟩ -
          refine w_ifeq_b (tgt := 33) dX11_deter_27 (by decide) (fun h3 => ?_) (fun h3 => ?_)
          · skip
            first
            | (exfalso; omega)
            | skip
              exfalso
              omega
          · skip
            first
            | (exfalso; omega)
            | skip
              refine w_bipush (v := (-2)) dX11_deter_30 (by decide) ?_
              exact w_ireturn dX11_deter_32 rfl (rfl) rfl (⟨rfl, _, _, rfl, FrR.rf⟩)
      · skip
        first
        | (exfalso; omega)
        | skip
          refine w_iconst (v := (-1)) dX11_deter_20 (by decide) ?_
          exact w_ireturn dX11_deter_21 rfl (rfl) rfl (⟨rfl, _, _, rfl, FrR.rf⟩)

theorem p_deter_v {I : xF4 Int32} {L : xF4 Int64} {a : aA} (hc : CourtIs I 0 a) (hw : WF a) {c : Nat} (hcc : c < nC a) {v : Int32} (hx : v.toInt < ((0 : Nat) : Int) ∨ ((99 : Nat) : Int) < v.toInt) : Tri 19 109 m_X10_deter [vR 0 0 0, vI (nI c), vI (v)] (rM I L) (pCq (vI (-1)) I) := by
  refine ⟨k_X10_deter, Nat.le_of_ble_eq_true rfl, ?_⟩
  show Wp _ _ _ 0 [some (vR 0 0 0), some (vI (nI c)), some (vI (v)), none, none] [] (rM I L) _
  obtain ⟨hJ, hC, hG, hD, hR, -⟩ := id hw
  obtain ⟨fc0, fc1, fc2, fc3, fc4, fc5, fc6, fc7, fc8⟩ := hw.2.2.2.2.2.2.1 c hcc
  refine w_aload_n dX10_deter_0 rfl ?_
  refine w_getR (w := some (1, 0, 0)) ff_X10_10 rfl rfl dX10_deter_1 rfl ?_
  refine w_iload_n dX10_deter_4 rfl ?_
  refine w_callV (as := [vI (nI c)]) (st := []) (Tri.mono (c_sAt hc hw hcc) (Nat.le_of_ble_eq_true rfl)) rfl rfl tg_X1_suitAt lk_X10_136 in_X1_suitAt se_X1_suitAt rfl dX10_deter_5 rfl (Nat.le_of_ble_eq_true rfl) (Nat.le_refl _) (Nat.le_refl _) ?_
  rintro _ _ ⟨rfl, rfl⟩ -
  refine w_astore_n (ls' := [some (vR 0 0 0), some (vI (nI c)), some (vI (v)), some (vR 5 0 c), none]) dX10_deter_8 rfl ?_
  refine w_aload_n dX10_deter_9 rfl ?_
  refine w_ifnull (tgt := 23) dX10_deter_10 (by decide) (fun h => by cases h) (fun _ _ => ?_)
  refine w_iload_n dX10_deter_13 rfl ?_
  refine w_iconst (v := 0) dX10_deter_14 (by decide) ?_
  refine w_bipush (v := 99) dX10_deter_15 (by decide) ?_
  refine w_callS (as := [vI (v), vI (0), vI (99)]) (st := []) (Tri.mono (c_X10_within (v) (0) (99)) (Nat.le_of_ble_eq_true rfl)) tg_X10_within lk_X10_158 sa_X10_within rfl dX10_deter_17 rfl (Nat.le_of_ble_eq_true rfl) (Nat.le_refl _) (Nat.le_refl _) ?_
  rintro _ _ ⟨rfl, rfl⟩ -
  refine w_top (y := bI (0 ≤ v.toInt ∧ v.toInt ≤ 99)) (show (bI ((0 : Int32) ≤ (v) ∧ (v) ≤ (99 : Int32)) : Int32) = bI (0 ≤ v.toInt ∧ v.toInt ≤ 99) from wiZ (X := v.toInt) (A := 0) (B := 99) rfl (by decide) (by decide)) ?_
  refine w_ifne_b (tgt := 25) dX10_deter_20 (by decide) (fun h1 => ?_) (fun h1 => ?_)
  · skip
    first
    | (exfalso; omega)
    | skip
      exfalso
      omega
  · skip
    first
    | (exfalso; omega)
    | skip
      refine w_iconst (v := (-1)) dX10_deter_23 (by decide) ?_
      exact w_ireturn dX10_deter_24 rfl (rfl) rfl (⟨rfl, _, _, rfl, FrQ.rf⟩)

theorem q_deter_v {I : xF4 Int32} {L : xF4 Int64} {a : aA} (hs : SI I a) (hw : WF a) {c : Nat} (hcc : c < nC a) {v : Int32} (hx : v.toInt < ((0 : Nat) : Int) ∨ ((99 : Nat) : Int) < v.toInt) : Tri 19 109 m_X11_deter [vR 30 0 0, vI (nI c), vI (v)] (rM I L) (pMq (vI (-1)) I) := by
  refine ⟨k_X11_deter, Nat.le_of_ble_eq_true rfl, ?_⟩
  show Wp _ _ _ 0 [some (vR 30 0 0), some (vI (nI c)), some (vI (v)), none] [] (rM I L) _
  obtain ⟨hJ, hC, hG, hD, hR, -⟩ := id hw
  obtain ⟨fc0, fc1, fc2, fc3, fc4, fc5, fc6, fc7, fc8⟩ := hw.2.2.2.2.2.2.1 c hcc
  refine w_aload_n dX11_deter_0 rfl ?_
  refine w_iload_n dX11_deter_1 rfl ?_
  refine w_callV (as := [vI (nI c)]) (st := []) (Tri.mono (d_isCase (hs.2.1) (by omega) (x := nI c) (X := ((c : Nat) : Int)) (z_nI (by omega))) (Nat.le_of_ble_eq_true rfl)) rfl rfl tg_X11_isCase lk_X11_204 in_X11_isCase se_X11_isCase rfl dX11_deter_2 rfl (Nat.le_of_ble_eq_true rfl) (Nat.le_refl _) (Nat.le_refl _) ?_
  rintro _ _ ⟨rfl, rfl⟩ -
  refine w_ifeq_b (tgt := 20) dX11_deter_5 (by decide) (fun h1 => ?_) (fun h1 => ?_)
  · skip
    first
    | (exfalso; omega)
    | skip
      refine w_iconst (v := (-1)) dX11_deter_20 (by decide) ?_
      exact w_ireturn dX11_deter_21 rfl (rfl) rfl (⟨rfl, _, _, rfl, FrR.rf⟩)
  · skip
    first
    | (exfalso; omega)
    | skip
      refine w_iload_n dX11_deter_8 rfl ?_
      refine w_i2l dX11_deter_9 ?_
      refine w_lconst (v := 0) dX11_deter_10 (by decide) ?_
      refine w_ldc2 dX11_deter_11 cq_X11_213 ?_
      refine w_callS (as := [vL ((v : Int32).toInt64), vL (0), vL (99)]) (st := []) (Tri.mono (d_in ((v : Int32).toInt64) (0) (99)) (Nat.le_of_ble_eq_true rfl)) tg_X11_in lk_X11_66 sa_X11_in rfl dX11_deter_14 rfl (Nat.le_of_ble_eq_true rfl) (Nat.le_refl _) (Nat.le_refl _) ?_
      rintro _ _ ⟨rfl, rfl⟩ -
      refine w_top (y := bI (0 ≤ v.toInt ∧ v.toInt ≤ 99)) (show (bI ((0 : Int64) ≤ ((v : Int32).toInt64) ∧ ((v : Int32).toInt64) ≤ (99 : Int64)) : Int32) = bI (0 ≤ v.toInt ∧ v.toInt ≤ 99) from inZ (x := v) (l := 0) (h := 99) (X := v.toInt) (A := 0) (B := 99) rfl (by decide) (by decide) rfl (by decide) (by decide)) ?_
      refine w_ifne_b (tgt := 22) dX11_deter_17 (by decide) (fun h2 => ?_) (fun h2 => ?_)
      · skip
        first
        | (exfalso; omega)
        | skip
          exfalso
          omega
      · skip
        first
        | (exfalso; omega)
        | skip
          refine w_iconst (v := (-1)) dX11_deter_20 (by decide) ?_
          exact w_ireturn dX11_deter_21 rfl (rfl) rfl (⟨rfl, _, _, rfl, FrR.rf⟩)

theorem p_deter_o {I : xF4 Int32} {L : xF4 Int64} {a : aA} (hc : CourtIs I 0 a) (hw : WF a) {c v : Int32} (hx : c.toInt < 0 ∨ ((nC a : Nat) : Int) ≤ c.toInt) : Tri 19 109 m_X10_deter [vR 0 0 0, vI (c), vI (v)] (rM I L) (pCq (vI (-1)) I) := by
  refine ⟨k_X10_deter, Nat.le_of_ble_eq_true rfl, ?_⟩
  show Wp _ _ _ 0 [some (vR 0 0 0), some (vI (c)), some (vI (v)), none, none] [] (rM I L) _
  obtain ⟨hJ, hC, hG, hD, hR, -⟩ := id hw
  refine w_aload_n dX10_deter_0 rfl ?_
  refine w_getR (w := some (1, 0, 0)) ff_X10_10 rfl rfl dX10_deter_1 rfl ?_
  refine w_iload_n dX10_deter_4 rfl ?_
  refine w_callV (as := [vI (c)]) (st := []) (Tri.mono (c_sAtO hc hw (z_out (by omega) hx)) (Nat.le_of_ble_eq_true rfl)) rfl rfl tg_X1_suitAt lk_X10_136 in_X1_suitAt se_X1_suitAt rfl dX10_deter_5 rfl (Nat.le_of_ble_eq_true rfl) (Nat.le_refl _) (Nat.le_refl _) ?_
  rintro _ _ ⟨rfl, rfl⟩ -
  refine w_astore_n (ls' := [some (vR 0 0 0), some (vI (c)), some (vI (v)), some (vN), none]) dX10_deter_8 rfl ?_
  refine w_aload_n dX10_deter_9 rfl ?_
  refine w_ifnull (tgt := 23) dX10_deter_10 (by decide) (fun _ => ?_) (fun _ h => by cases h)
  refine w_iconst (v := (-1)) dX10_deter_23 (by decide) ?_
  exact w_ireturn dX10_deter_24 rfl (rfl) rfl (⟨rfl, _, _, rfl, FrQ.rf⟩)

theorem q_deter_o {I : xF4 Int32} {L : xF4 Int64} {a : aA} (hs : SI I a) (hw : WF a) {c v : Int32} (hx : c.toInt < 0 ∨ ((nC a : Nat) : Int) ≤ c.toInt) : Tri 19 109 m_X11_deter [vR 30 0 0, vI (c), vI (v)] (rM I L) (pMq (vI (-1)) I) := by
  refine ⟨k_X11_deter, Nat.le_of_ble_eq_true rfl, ?_⟩
  show Wp _ _ _ 0 [some (vR 30 0 0), some (vI (c)), some (vI (v)), none] [] (rM I L) _
  obtain ⟨hJ, hC, hG, hD, hR, -⟩ := id hw
  refine w_aload_n dX11_deter_0 rfl ?_
  refine w_iload_n dX11_deter_1 rfl ?_
  refine w_callV (as := [vI (c)]) (st := []) (Tri.mono (d_isCase (hs.2.1) (by omega) (x := c) (X := c.toInt) rfl) (Nat.le_of_ble_eq_true rfl)) rfl rfl tg_X11_isCase lk_X11_204 in_X11_isCase se_X11_isCase rfl dX11_deter_2 rfl (Nat.le_of_ble_eq_true rfl) (Nat.le_refl _) (Nat.le_refl _) ?_
  rintro _ _ ⟨rfl, rfl⟩ -
  refine w_ifeq_b (tgt := 20) dX11_deter_5 (by decide) (fun h1 => ?_) (fun h1 => ?_)
  · skip
    first
    | (exfalso; omega)
    | skip
      refine w_iconst (v := (-1)) dX11_deter_20 (by decide) ?_
      exact w_ireturn dX11_deter_21 rfl (rfl) rfl (⟨rfl, _, _, rfl, FrR.rf⟩)
  · skip
    first
    | (exfalso; omega)
    | skip
      refine w_iload_n dX11_deter_8 rfl ?_
      refine w_i2l dX11_deter_9 ?_
      refine w_lconst (v := 0) dX11_deter_10 (by decide) ?_
      refine w_ldc2 dX11_deter_11 cq_X11_213 ?_
      refine w_callS (as := [vL ((v : Int32).toInt64), vL (0), vL (99)]) (st := []) (Tri.mono (d_in ((v : Int32).toInt64) (0) (99)) (Nat.le_of_ble_eq_true rfl)) tg_X11_in lk_X11_66 sa_X11_in rfl dX11_deter_14 rfl (Nat.le_of_ble_eq_true rfl) (Nat.le_refl _) (Nat.le_refl _) ?_
      rintro _ _ ⟨rfl, rfl⟩ -
      refine w_top (y := bI (0 ≤ v.toInt ∧ v.toInt ≤ 99)) (show (bI ((0 : Int64) ≤ ((v : Int32).toInt64) ∧ ((v : Int32).toInt64) ≤ (99 : Int64)) : Int32) = bI (0 ≤ v.toInt ∧ v.toInt ≤ 99) from inZ (x := v) (l := 0) (h := 99) (X := v.toInt) (A := 0) (B := 99) rfl (by decide) (by decide) rfl (by decide) (by decide)) ?_
      refine w_ifne_b (tgt := 22) dX11_deter_17 (by decide) (fun h2 => ?_) (fun h2 => ?_)
      · skip
        first
        | (exfalso; omega)
        | skip
          exfalso
          omega
      · skip
        first
        | (exfalso; omega)
        | skip
          refine w_iconst (v := (-1)) dX11_deter_20 (by decide) ?_
          exact w_ireturn dX11_deter_21 rfl (rfl) rfl (⟨rfl, _, _, rfl, FrR.rf⟩)

theorem l_hopC {I : xF4 Int32} {L : xF4 Int64} {a : aA} (hc : CourtIs I 0 a) (hw : WF a) {Q : Option xV → xM → Prop} (hk : ∀ (o3 : Option xV), Wp 19 109 m_X10_hopeless 58 [some (vR 0 0 0), some (vI (nI (bitN (fun c => decide (sF a c 4 = 0 ∧ anyN a c (nJ a) = false)) (nC a)))), some (vI (nI (nC a))), o3] [] (rM I L) Q) : ∀ (m c9 : Nat) (o3 : Option xV), c9 + m = nC a → Wp 19 109 m_X10_hopeless 4 [some (vR 0 0 0), some (vI (nI (bitN (fun c => decide (sF a c 4 = 0 ∧ anyN a c (nJ a) = false)) c9))), some (vI (nI c9)), o3] [] (rM I L) Q := by
  intro m
  induction m with
  | zero =>
    intro c9 o3 hq9
    have e : c9 = nC a := by omega
    subst e
    obtain ⟨hJ, hC, hG, hD, hR, -⟩ := id hw
    refine w_iload_n dX10_hopeless_4 rfl ?_
    refine w_aload_n dX10_hopeless_5 rfl ?_
    refine w_getR (w := some (1, 0, 0)) ff_X10_10 rfl rfl dX10_hopeless_6 rfl ?_
    refine w_getI ff_X10_92 rfl rfl dX10_hopeless_9 ?_
    rw [show (I 1 0 0 4 : Int32) = nI (nC a) from hc.2.1]
    refine w_icmp_ge (tgt := 58) dX10_hopeless_12 (by decide) (fun _ => ?_) (fun h => absurd (nI_le (Nat.le_refl _) (by omega)) h)
    exact hk _
  | succ m ih =>
    intro c9 o3 hq9
    have hlt : c9 < nC a := by omega
    obtain ⟨hJ, hC, hG, hD, hR, -⟩ := id hw
    refine w_iload_n dX10_hopeless_4 rfl ?_
    refine w_aload_n dX10_hopeless_5 rfl ?_
    refine w_getR (w := some (1, 0, 0)) ff_X10_10 rfl rfl dX10_hopeless_6 rfl ?_
    refine w_getI ff_X10_92 rfl rfl dX10_hopeless_9 ?_
    rw [show (I 1 0 0 4 : Int32) = nI (nC a) from hc.2.1]
    refine w_icmp_ge (tgt := 58) dX10_hopeless_12 (by decide) (fun h => absurd h (nI_ge hlt (by omega))) (fun _ => ?_)
    obtain ⟨fc0, fc1, fc2, fc3, fc4, fc5, fc6, fc7, fc8⟩ := hw.2.2.2.2.2.2.1 c9 hlt
    refine w_aload_n dX10_hopeless_15 rfl ?_
    refine w_getR (w := some (1, 0, 0)) ff_X10_10 rfl rfl dX10_hopeless_16 rfl ?_
    refine w_iload_n dX10_hopeless_19 rfl ?_
    refine w_callV (as := [vI (nI c9)]) (st := []) (Tri.mono (c_sAt hc hw hlt) (Nat.le_of_ble_eq_true rfl)) rfl rfl tg_X1_suitAt lk_X10_136 in_X1_suitAt se_X1_suitAt rfl dX10_hopeless_20 rfl (Nat.le_of_ble_eq_true rfl) (Nat.le_refl _) (Nat.le_refl _) ?_
    rintro _ _ ⟨rfl, rfl⟩ -
    refine w_astore_n (ls' := [some (vR 0 0 0), some (vI (nI (bitN (fun c => decide (sF a c 4 = 0 ∧ anyN a c (nJ a) = false)) c9))), some (vI (nI c9)), some (vR 5 0 c9)]) dX10_hopeless_23 rfl ?_
    refine w_aload_n dX10_hopeless_24 rfl ?_
    refine w_ifnull (tgt := 52) dX10_hopeless_25 (by decide) (fun h => by cases h) (fun _ _ => ?_)
    refine w_aload_n dX10_hopeless_28 rfl ?_
    refine w_callV (as := []) (st := []) (Tri.mono (c_X8_isHeard 0 c9) (Nat.le_of_ble_eq_true rfl)) rfl rfl tg_X8_isHeard lk_X10_170 in_X8_isHeard se_X8_isHeard rfl dX10_hopeless_29 rfl (Nat.le_of_ble_eq_true rfl) (Nat.le_refl _) (Nat.le_refl _) ?_
    rintro _ _ ⟨rfl, rfl⟩ -
    rw [show (bI (0 < I 5 0 c9 4) : Int32) = bI (0 < sF a c9 4) from isH hc hw hlt]
    refine w_ifne_b (tgt := 52) dX10_hopeless_32 (by decide) (fun h1 => ?_) (fun h1 => ?_)
    · skip
      first
      | (exfalso; omega)
      | skip
        refine w_ls (congrArg (fun z9 : Int32 => [some (vR 0 0 0), some (vI z9), some (vI (nI c9)), some (vR 5 0 c9)]) (show (nI (bitN (fun c => decide (sF a c 4 = 0 ∧ anyN a c (nJ a) = false)) c9) : Int32) = nI (bitN (fun c => decide (sF a c 4 = 0 ∧ anyN a c (nJ a) = false)) (c9 + 1)) from bit_no (p := (fun c => decide (sF a c 4 = 0 ∧ anyN a c (nJ a) = false))) (fun q => by have q1 := (of_decide_eq_true q).1; have q2 := (of_decide_eq_true q).2; first | omega | (rw [h2] at q2; cases q2)))) ?_
        refine w_iinc (v := nI (c9 + 1)) (ls' := [some (vR 0 0 0), some (vI (nI (bitN (fun c => decide (sF a c 4 = 0 ∧ anyN a c (nJ a) = false)) (c9 + 1)))), some (vI (nI (c9 + 1))), some (vR 5 0 c9)]) dX10_hopeless_52 rfl (nI_1 _) rfl ?_
        refine w_goto (tgt := 4) dX10_hopeless_55 (by decide) ?_
        exact ih (c9 + 1) _ (by omega)
    · skip
      first
      | (exfalso; omega)
      | skip
        refine w_aload_n dX10_hopeless_35 rfl ?_
        refine w_getR (w := some (1, 0, 0)) ff_X10_10 rfl rfl dX10_hopeless_36 rfl ?_
        refine w_aload_n dX10_hopeless_39 rfl ?_
        refine w_callV (as := [vR 5 0 c9]) (st := []) (Tri.mono (c_anyBears hc hw hlt) (Nat.le_of_ble_eq_true rfl)) rfl rfl tg_X1_anyBears lk_X10_246 in_X1_anyBears se_X1_anyBears rfl dX10_hopeless_40 rfl (Nat.le_of_ble_eq_true rfl) (Nat.le_refl _) (Nat.le_refl _) ?_
        rintro _ _ ⟨rfl, rfl⟩ -
        refine w_ifne_b (tgt := 52) dX10_hopeless_43 (by decide) (fun h2 => ?_) (fun h2 => ?_)
        · skip
          first
          | (exfalso; omega)
          | skip
            refine w_ls (congrArg (fun z9 : Int32 => [some (vR 0 0 0), some (vI z9), some (vI (nI c9)), some (vR 5 0 c9)]) (show (nI (bitN (fun c => decide (sF a c 4 = 0 ∧ anyN a c (nJ a) = false)) c9) : Int32) = nI (bitN (fun c => decide (sF a c 4 = 0 ∧ anyN a c (nJ a) = false)) (c9 + 1)) from bit_no (p := (fun c => decide (sF a c 4 = 0 ∧ anyN a c (nJ a) = false))) (fun q => by have q1 := (of_decide_eq_true q).1; have q2 := (of_decide_eq_true q).2; first | omega | (rw [h2] at q2; cases q2)))) ?_
            refine w_iinc (v := nI (c9 + 1)) (ls' := [some (vR 0 0 0), some (vI (nI (bitN (fun c => decide (sF a c 4 = 0 ∧ anyN a c (nJ a) = false)) (c9 + 1)))), some (vI (nI (c9 + 1))), some (vR 5 0 c9)]) dX10_hopeless_52 rfl (nI_1 _) rfl ?_
            refine w_goto (tgt := 4) dX10_hopeless_55 (by decide) ?_
            exact ih (c9 + 1) _ (by omega)
        · skip
          first
          | (exfalso; omega)
          | skip
            refine w_iload_n dX10_hopeless_46 rfl ?_
            refine w_iconst (v := 1) dX10_hopeless_47 (by decide) ?_
            refine w_iload_n dX10_hopeless_48 rfl ?_
            refine w_ishl dX10_hopeless_49 ?_
            refine w_ior dX10_hopeless_50 ?_
            refine w_istore_n (ls' := [some (vR 0 0 0), some (vI ((nI (bitN (fun c => decide (sF a c 4 = 0 ∧ anyN a c (nJ a) = false)) c9)) ||| ((1) <<< ((nI c9) &&& 31)))), some (vI (nI c9)), some (vR 5 0 c9)]) dX10_hopeless_51 rfl ?_
            refine w_ls (congrArg (fun z9 : Int32 => [some (vR 0 0 0), some (vI z9), some (vI (nI c9)), some (vR 5 0 c9)]) (show ((nI (bitN (fun c => decide (sF a c 4 = 0 ∧ anyN a c (nJ a) = false)) c9)) ||| ((1) <<< ((nI c9) &&& 31)) : Int32) = nI (bitN (fun c => decide (sF a c 4 = 0 ∧ anyN a c (nJ a) = false)) (c9 + 1)) from bit_or (by omega) (decide_eq_true ⟨by omega, Bool.not_eq_true _ |>.mp h2⟩))) ?_
            refine w_iinc (v := nI (c9 + 1)) (ls' := [some (vR 0 0 0), some (vI (nI (bitN (fun c => decide (sF a c 4 = 0 ∧ anyN a c (nJ a) = false)) (c9 + 1)))), some (vI (nI (c9 + 1))), some (vR 5 0 c9)]) dX10_hopeless_52 rfl (nI_1 _) rfl ?_
            refine w_goto (tgt := 4) dX10_hopeless_55 (by decide) ?_
            exact ih (c9 + 1) _ (by omega)

theorem l_hopM1 {I : xF4 Int32} {L : xF4 Int64} {a : aA} (hm : MI I a) (hw : WF a) {c : Nat} (hcc : c < nC a) {b : Int32} {Q : Option xV → xM → Prop} (hk : Wp 19 109 m_X11_hopeless 75 [some (vR 30 0 0), some (vI (b)), some (vI (nI c)), some (vI (bI (sF a c 4 = 0 ∧ anyN a c (nJ a) = false))), some (vI (nI (nJ a)))] [] (rM I L) Q) : ∀ (m c9 : Nat), c9 + m = nJ a → Wp 19 109 m_X11_hopeless 34 [some (vR 30 0 0), some (vI (b)), some (vI (nI c)), some (vI (bI (sF a c 4 = 0 ∧ anyN a c c9 = false))), some (vI (nI c9))] [] (rM I L) Q := by
  intro m
  induction m with
  | zero =>
    intro c9 hq9
    have e : c9 = nJ a := by omega
    subst e
    obtain ⟨hJ, hC, hG, hD, hR, -⟩ := id hw
    obtain ⟨fc0, fc1, fc2, fc3, fc4, fc5, fc6, fc7, fc8⟩ := hw.2.2.2.2.2.2.1 c hcc
    refine w_iload dX11_hopeless_34 rfl ?_
    refine w_aload_n dX11_hopeless_36 rfl ?_
    refine w_getI ff_X11_58 rfl rfl dX11_hopeless_37 ?_
    rw [show (I 30 0 0 3 : Int32) = nI (nJ a) from hm.1]
    refine w_icmp_ge (tgt := 75) dX11_hopeless_40 (by decide) (fun _ => ?_) (fun h => absurd (nI_le (Nat.le_refl _) (by omega)) h)
    exact hk
  | succ m ih =>
    intro c9 hq9
    have hlt : c9 < nJ a := by omega
    obtain ⟨hJ, hC, hG, hD, hR, -⟩ := id hw
    obtain ⟨fc0, fc1, fc2, fc3, fc4, fc5, fc6, fc7, fc8⟩ := hw.2.2.2.2.2.2.1 c hcc
    refine w_iload dX11_hopeless_34 rfl ?_
    refine w_aload_n dX11_hopeless_36 rfl ?_
    refine w_getI ff_X11_58 rfl rfl dX11_hopeless_37 ?_
    rw [show (I 30 0 0 3 : Int32) = nI (nJ a) from hm.1]
    refine w_icmp_ge (tgt := 75) dX11_hopeless_40 (by decide) (fun h => absurd h (nI_ge hlt (by omega))) (fun _ => ?_)
    refine w_iload_n dX11_hopeless_43 rfl ?_
    refine w_ifeq_b (tgt := 67) dX11_hopeless_44 (by decide) (fun h1 => ?_) (fun h1 => ?_)
    · skip
      first
      | (exfalso; omega)
      | skip
        refine w_iconst (v := 0) dX11_hopeless_67 (by decide) ?_
        refine w_top (y := bI (sF a c 4 = 0 ∧ anyN a c (c9 + 1) = false)) (show (0 : Int32) = bI (sF a c 4 = 0 ∧ anyN a c (c9 + 1) = false) from (bI_f (p := sF a c 4 = 0 ∧ anyN a c (c9 + 1) = false) (fun q => by have q2 := q.2; rw [anyN] at q2; simp at q2; first | exact h1 ⟨q.1, q2.1⟩ | (have q3 := q2.2; unfold bearN at *; exact absurd h2 (by omega)) | (have q3 := q2.2; exact absurd h2 (by simpa using q3)))).symm) ?_
        refine w_istore_n (ls' := [some (vR 30 0 0), some (vI (b)), some (vI (nI c)), some (vI (bI (sF a c 4 = 0 ∧ anyN a c (c9 + 1) = false))), some (vI (nI c9))]) dX11_hopeless_68 rfl ?_
        refine w_iinc (v := nI (c9 + 1)) (ls' := [some (vR 30 0 0), some (vI (b)), some (vI (nI c)), some (vI (bI (sF a c 4 = 0 ∧ anyN a c (c9 + 1) = false))), some (vI (nI (c9 + 1)))]) dX11_hopeless_69 rfl (nI_1 _) rfl ?_
        refine w_goto (tgt := 34) dX11_hopeless_72 (by decide) ?_
        exact ih (c9 + 1) (by omega)
    · skip
      first
      | (exfalso; omega)
      | skip
        refine w_aload_n dX11_hopeless_47 rfl ?_
        refine w_iload dX11_hopeless_48 rfl ?_
        refine w_iload_n dX11_hopeless_50 rfl ?_
        refine w_aload_n dX11_hopeless_51 rfl ?_
        refine w_iload_n dX11_hopeless_52 rfl ?_
        refine w_iconst (v := 1) dX11_hopeless_53 (by decide) ?_
        refine w_callV (as := [vI (nI c), vI (1)]) (st := [vI (nI c), vI (nI c9), vR 30 0 0]) (Tri.mono (d_ofCase hm hC hcc (f := 1) (by decide) (by decide)) (Nat.le_of_ble_eq_true rfl)) rfl rfl tg_X11_ofCase lk_X11_145 in_X11_ofCase se_X11_ofCase rfl dX11_hopeless_54 rfl (Nat.le_of_ble_eq_true rfl) (Nat.le_refl _) (Nat.le_refl _) ?_
        rintro _ _ ⟨rfl, rfl⟩ -
        refine w_callV (as := [vI (nI c9), vI (nI c), vI (nI (sF a c 1))]) (st := []) (Tri.mono (d_canBear hm hw (c := c) (j := c9) (n := sF a c 1) hcc hlt (by omega)) (Nat.le_of_ble_eq_true rfl)) rfl rfl tg_X11_canBear lk_X11_148 in_X11_canBear se_X11_canBear rfl dX11_hopeless_57 rfl (Nat.le_of_ble_eq_true rfl) (Nat.le_refl _) (Nat.le_refl _) ?_
        rintro _ _ ⟨rfl, rfl⟩ -
        refine w_ifne_b (tgt := 67) dX11_hopeless_60 (by decide) (fun h2 => ?_) (fun h2 => ?_)
        · skip
          first
          | (exfalso; omega)
          | skip
            refine w_iconst (v := 0) dX11_hopeless_67 (by decide) ?_
            refine w_top (y := bI (sF a c 4 = 0 ∧ anyN a c (c9 + 1) = false)) (show (0 : Int32) = bI (sF a c 4 = 0 ∧ anyN a c (c9 + 1) = false) from (bI_f (p := sF a c 4 = 0 ∧ anyN a c (c9 + 1) = false) (fun q => by have q2 := q.2; rw [anyN] at q2; simp at q2; first | exact h1 ⟨q.1, q2.1⟩ | (have q3 := q2.2; unfold bearN at *; exact absurd h2 (by omega)) | (have q3 := q2.2; exact absurd h2 (by simpa using q3)))).symm) ?_
            refine w_istore_n (ls' := [some (vR 30 0 0), some (vI (b)), some (vI (nI c)), some (vI (bI (sF a c 4 = 0 ∧ anyN a c (c9 + 1) = false))), some (vI (nI c9))]) dX11_hopeless_68 rfl ?_
            refine w_iinc (v := nI (c9 + 1)) (ls' := [some (vR 30 0 0), some (vI (b)), some (vI (nI c)), some (vI (bI (sF a c 4 = 0 ∧ anyN a c (c9 + 1) = false))), some (vI (nI (c9 + 1)))]) dX11_hopeless_69 rfl (nI_1 _) rfl ?_
            refine w_goto (tgt := 34) dX11_hopeless_72 (by decide) ?_
            exact ih (c9 + 1) (by omega)
        · skip
          first
          | (exfalso; omega)
          | skip
            refine w_iconst (v := 1) dX11_hopeless_63 (by decide) ?_
            refine w_goto (tgt := 68) dX11_hopeless_64 (by decide) ?_
            refine w_top (y := bI (sF a c 4 = 0 ∧ anyN a c (c9 + 1) = false)) (show (1 : Int32) = bI (sF a c 4 = 0 ∧ anyN a c (c9 + 1) = false) from (bI_t (p := sF a c 4 = 0 ∧ anyN a c (c9 + 1) = false) ⟨h1.1, by rw [anyN, h1.2, Bool.false_or]; exact decide_eq_false h2⟩).symm) ?_
            refine w_istore_n (ls' := [some (vR 30 0 0), some (vI (b)), some (vI (nI c)), some (vI (bI (sF a c 4 = 0 ∧ anyN a c (c9 + 1) = false))), some (vI (nI c9))]) dX11_hopeless_68 rfl ?_
            refine w_iinc (v := nI (c9 + 1)) (ls' := [some (vR 30 0 0), some (vI (b)), some (vI (nI c)), some (vI (bI (sF a c 4 = 0 ∧ anyN a c (c9 + 1) = false))), some (vI (nI (c9 + 1)))]) dX11_hopeless_69 rfl (nI_1 _) rfl ?_
            refine w_goto (tgt := 34) dX11_hopeless_72 (by decide) ?_
            exact ih (c9 + 1) (by omega)

theorem l_hopM {I : xF4 Int32} {L : xF4 Int64} {a : aA} (hm : MI I a) (hw : WF a) {Q : Option xV → xM → Prop} (hk : ∀ (o3 o4 : Option xV), Wp 19 109 m_X11_hopeless 90 [some (vR 30 0 0), some (vI (nI (bitN (fun c => decide (sF a c 4 = 0 ∧ anyN a c (nJ a) = false)) (nC a)))), some (vI (nI (nC a))), o3, o4] [] (rM I L) Q) : ∀ (m c9 : Nat) (o3 o4 : Option xV), c9 + m = nC a → Wp 19 109 m_X11_hopeless 8 [some (vR 30 0 0), some (vI (nI (bitN (fun c => decide (sF a c 4 = 0 ∧ anyN a c (nJ a) = false)) c9))), some (vI (nI c9)), o3, o4] [] (rM I L) Q := by
  intro m
  induction m with
  | zero =>
    intro c9 o3 o4 hq9
    have e : c9 = nC a := by omega
    subst e
    obtain ⟨hJ, hC, hG, hD, hR, -⟩ := id hw
    refine w_iload_n dX11_hopeless_8 rfl ?_
    refine w_aload_n dX11_hopeless_9 rfl ?_
    refine w_getI ff_X11_61 rfl rfl dX11_hopeless_10 ?_
    rw [show (I 30 0 0 4 : Int32) = nI (nC a) from hm.2.1]
    refine w_icmp_ge (tgt := 90) dX11_hopeless_13 (by decide) (fun _ => ?_) (fun h => absurd (nI_le (Nat.le_refl _) (by omega)) h)
    exact hk _ _
  | succ m ih =>
    intro c9 o3 o4 hq9
    have hlt : c9 < nC a := by omega
    obtain ⟨hJ, hC, hG, hD, hR, -⟩ := id hw
    refine w_iload_n dX11_hopeless_8 rfl ?_
    refine w_aload_n dX11_hopeless_9 rfl ?_
    refine w_getI ff_X11_61 rfl rfl dX11_hopeless_10 ?_
    rw [show (I 30 0 0 4 : Int32) = nI (nC a) from hm.2.1]
    refine w_icmp_ge (tgt := 90) dX11_hopeless_13 (by decide) (fun h => absurd h (nI_ge hlt (by omega))) (fun _ => ?_)
    obtain ⟨fc0, fc1, fc2, fc3, fc4, fc5, fc6, fc7, fc8⟩ := hw.2.2.2.2.2.2.1 c9 hlt
    refine w_aload_n dX11_hopeless_16 rfl ?_
    refine w_iload_n dX11_hopeless_17 rfl ?_
    refine w_iconst (v := 4) dX11_hopeless_18 (by decide) ?_
    refine w_callV (as := [vI (nI c9), vI (4)]) (st := []) (Tri.mono (d_ofCase hm hC hlt (f := 4) (by decide) (by decide)) (Nat.le_of_ble_eq_true rfl)) rfl rfl tg_X11_ofCase lk_X11_145 in_X11_ofCase se_X11_ofCase rfl dX11_hopeless_19 rfl (Nat.le_of_ble_eq_true rfl) (Nat.le_refl _) (Nat.le_refl _) ?_
    rintro _ _ ⟨rfl, rfl⟩ -
    refine w_if_ne (tgt := 29) dX11_hopeless_22 (by decide) (fun h1 => ?_) (fun h1 => ?_)
    · skip
      replace h1 : ¬ (((sF a c9 4 : Nat) : Int) = 0) := fun q => h1 ((zeq (z_nI (by omega)) (by decide)).mpr q)
      first
      | (exfalso; omega)
      | skip
        refine w_iconst (v := 0) dX11_hopeless_29 (by decide) ?_
        refine w_istore_n (ls' := [some (vR 30 0 0), some (vI (nI (bitN (fun c => decide (sF a c 4 = 0 ∧ anyN a c (nJ a) = false)) c9))), some (vI (nI c9)), some (vI (0)), o4]) dX11_hopeless_30 rfl ?_
        refine w_ls (congrArg (fun z9 : Int32 => [some (vR 30 0 0), some (vI (nI (bitN (fun c => decide (sF a c 4 = 0 ∧ anyN a c (nJ a) = false)) c9))), some (vI (nI c9)), some (vI z9), o4]) (show (0 : Int32) = bI (sF a c9 4 = 0 ∧ anyN a c9 0 = false) from (bI_f (p := sF a c9 4 = 0 ∧ anyN a c9 0 = false) (fun q => by have := q.1; omega)).symm)) ?_
        refine w_iconst (v := 0) dX11_hopeless_31 (by decide) ?_
        refine w_istore (ls' := [some (vR 30 0 0), some (vI (nI (bitN (fun c => decide (sF a c 4 = 0 ∧ anyN a c (nJ a) = false)) c9))), some (vI (nI c9)), some (vI (bI (sF a c9 4 = 0 ∧ anyN a c9 0 = false))), some (vI (0))]) dX11_hopeless_32 rfl ?_
        refine l_hopM1 hm hw hlt ?_ (nJ a) 0 (Nat.zero_add _)
        refine w_iload_n dX11_hopeless_75 rfl ?_
        refine w_iload_n dX11_hopeless_76 rfl ?_
        refine w_callS (as := [vI (bI (sF a c9 4 = 0 ∧ anyN a c9 (nJ a) = false))]) (st := [vI (nI (bitN (fun c => decide (sF a c 4 = 0 ∧ anyN a c (nJ a) = false)) c9))]) (Tri.mono (d_flag (sF a c9 4 = 0 ∧ anyN a c9 (nJ a) = false)) (Nat.le_of_ble_eq_true rfl)) tg_X11_flag lk_X11_161 sa_X11_flag rfl dX11_hopeless_77 rfl (Nat.le_of_ble_eq_true rfl) (Nat.le_refl _) (Nat.le_refl _) ?_
        rintro _ _ ⟨rfl, rfl⟩ -
        refine w_iload_n dX11_hopeless_80 rfl ?_
        refine w_ishl dX11_hopeless_81 ?_
        refine w_ior dX11_hopeless_82 ?_
        refine w_top (y := nI (bitN (fun c => decide (sF a c 4 = 0 ∧ anyN a c (nJ a) = false)) (c9 + 1))) (show ((nI (bitN (fun c => decide (sF a c 4 = 0 ∧ anyN a c (nJ a) = false)) c9)) ||| ((bI (sF a c9 4 = 0 ∧ anyN a c9 (nJ a) = false)) <<< ((nI c9) &&& 31)) : Int32) = nI (bitN (fun c => decide (sF a c 4 = 0 ∧ anyN a c (nJ a) = false)) (c9 + 1)) from bit_bI (by omega) (decide_eq_true_iff).symm) ?_
        refine w_istore_n (ls' := [some (vR 30 0 0), some (vI (nI (bitN (fun c => decide (sF a c 4 = 0 ∧ anyN a c (nJ a) = false)) (c9 + 1)))), some (vI (nI c9)), some (vI (bI (sF a c9 4 = 0 ∧ anyN a c9 (nJ a) = false))), some (vI (nI (nJ a)))]) dX11_hopeless_83 rfl ?_
        refine w_iinc (v := nI (c9 + 1)) (ls' := [some (vR 30 0 0), some (vI (nI (bitN (fun c => decide (sF a c 4 = 0 ∧ anyN a c (nJ a) = false)) (c9 + 1)))), some (vI (nI (c9 + 1))), some (vI (bI (sF a c9 4 = 0 ∧ anyN a c9 (nJ a) = false))), some (vI (nI (nJ a)))]) dX11_hopeless_84 rfl (nI_1 _) rfl ?_
        refine w_goto (tgt := 8) dX11_hopeless_87 (by decide) ?_
        exact ih (c9 + 1) _ _ (by omega)
    · skip
      replace h1 : ((sF a c9 4 : Nat) : Int) = 0 := (zeq (z_nI (by omega)) (by decide)).mp h1
      first
      | (exfalso; omega)
      | skip
        refine w_iconst (v := 1) dX11_hopeless_25 (by decide) ?_
        refine w_goto (tgt := 30) dX11_hopeless_26 (by decide) ?_
        refine w_istore_n (ls' := [some (vR 30 0 0), some (vI (nI (bitN (fun c => decide (sF a c 4 = 0 ∧ anyN a c (nJ a) = false)) c9))), some (vI (nI c9)), some (vI (1)), o4]) dX11_hopeless_30 rfl ?_
        refine w_ls (congrArg (fun z9 : Int32 => [some (vR 30 0 0), some (vI (nI (bitN (fun c => decide (sF a c 4 = 0 ∧ anyN a c (nJ a) = false)) c9))), some (vI (nI c9)), some (vI z9), o4]) (show (1 : Int32) = bI (sF a c9 4 = 0 ∧ anyN a c9 0 = false) from (bI_t (p := sF a c9 4 = 0 ∧ anyN a c9 0 = false) ⟨by omega, rfl⟩).symm)) ?_
        refine w_iconst (v := 0) dX11_hopeless_31 (by decide) ?_
        refine w_istore (ls' := [some (vR 30 0 0), some (vI (nI (bitN (fun c => decide (sF a c 4 = 0 ∧ anyN a c (nJ a) = false)) c9))), some (vI (nI c9)), some (vI (bI (sF a c9 4 = 0 ∧ anyN a c9 0 = false))), some (vI (0))]) dX11_hopeless_32 rfl ?_
        refine l_hopM1 hm hw hlt ?_ (nJ a) 0 (Nat.zero_add _)
        refine w_iload_n dX11_hopeless_75 rfl ?_
        refine w_iload_n dX11_hopeless_76 rfl ?_
        refine w_callS (as := [vI (bI (sF a c9 4 = 0 ∧ anyN a c9 (nJ a) = false))]) (st := [vI (nI (bitN (fun c => decide (sF a c 4 = 0 ∧ anyN a c (nJ a) = false)) c9))]) (Tri.mono (d_flag (sF a c9 4 = 0 ∧ anyN a c9 (nJ a) = false)) (Nat.le_of_ble_eq_true rfl)) tg_X11_flag lk_X11_161 sa_X11_flag rfl dX11_hopeless_77 rfl (Nat.le_of_ble_eq_true rfl) (Nat.le_refl _) (Nat.le_refl _) ?_
        rintro _ _ ⟨rfl, rfl⟩ -
        refine w_iload_n dX11_hopeless_80 rfl ?_
        refine w_ishl dX11_hopeless_81 ?_
        refine w_ior dX11_hopeless_82 ?_
        refine w_top (y := nI (bitN (fun c => decide (sF a c 4 = 0 ∧ anyN a c (nJ a) = false)) (c9 + 1))) (show ((nI (bitN (fun c => decide (sF a c 4 = 0 ∧ anyN a c (nJ a) = false)) c9)) ||| ((bI (sF a c9 4 = 0 ∧ anyN a c9 (nJ a) = false)) <<< ((nI c9) &&& 31)) : Int32) = nI (bitN (fun c => decide (sF a c 4 = 0 ∧ anyN a c (nJ a) = false)) (c9 + 1)) from bit_bI (by omega) (decide_eq_true_iff).symm) ?_
        refine w_istore_n (ls' := [some (vR 30 0 0), some (vI (nI (bitN (fun c => decide (sF a c 4 = 0 ∧ anyN a c (nJ a) = false)) (c9 + 1)))), some (vI (nI c9)), some (vI (bI (sF a c9 4 = 0 ∧ anyN a c9 (nJ a) = false))), some (vI (nI (nJ a)))]) dX11_hopeless_83 rfl ?_
        refine w_iinc (v := nI (c9 + 1)) (ls' := [some (vR 30 0 0), some (vI (nI (bitN (fun c => decide (sF a c 4 = 0 ∧ anyN a c (nJ a) = false)) (c9 + 1)))), some (vI (nI (c9 + 1))), some (vI (bI (sF a c9 4 = 0 ∧ anyN a c9 (nJ a) = false))), some (vI (nI (nJ a)))]) dX11_hopeless_84 rfl (nI_1 _) rfl ?_
        refine w_goto (tgt := 8) dX11_hopeless_87 (by decide) ?_
        exact ih (c9 + 1) _ _ (by omega)

theorem p_hopeless {I : xF4 Int32} {L : xF4 Int64} {a : aA} (hc : CourtIs I 0 a) (hw : WF a)  : Tri 19 109 m_X10_hopeless [vR 0 0 0] (rM I L) (pCq (vI (nI (bitN (fun c => decide (sF a c 4 = 0 ∧ anyN a c (nJ a) = false)) (nC a)))) I) := by
  refine ⟨k_X10_hopeless, Nat.le_of_ble_eq_true rfl, ?_⟩
  show Wp _ _ _ 0 [some (vR 0 0 0), none, none, none] [] (rM I L) _
  obtain ⟨hJ, hC, hG, hD, hR, -⟩ := id hw
  refine w_iconst (v := 0) dX10_hopeless_0 (by decide) ?_
  refine w_istore_n (ls' := [some (vR 0 0 0), some (vI (0)), none, none]) dX10_hopeless_1 rfl ?_
  refine w_iconst (v := 0) dX10_hopeless_2 (by decide) ?_
  refine w_istore_n (ls' := [some (vR 0 0 0), some (vI (0)), some (vI (0)), none]) dX10_hopeless_3 rfl ?_
  refine l_hopC hc hw (fun o3 => ?_) (nC a) 0 none (Nat.zero_add _)
  refine w_iload_n dX10_hopeless_58 rfl ?_
  exact w_ireturn dX10_hopeless_59 rfl (rfl) rfl (⟨rfl, _, _, rfl, FrQ.rf⟩)

theorem q_hopeless {I : xF4 Int32} {L : xF4 Int64} {a : aA} (hs : SI I a) (hw : WF a)  : Tri 19 109 m_X11_hopeless [vR 30 0 0] (rM I L) (pMq (vI (nI (bitN (fun c => decide (sF a c 4 = 0 ∧ anyN a c (nJ a) = false)) (nC a)))) I) := by
  refine ⟨k_X11_hopeless, Nat.le_of_ble_eq_true rfl, ?_⟩
  show Wp _ _ _ 0 [some (vR 30 0 0), none, none, none, none] [] (rM I L) _
  obtain ⟨hJ, hC, hG, hD, hR, -⟩ := id hw
  refine w_iconst (v := 0) dX11_hopeless_0 (by decide) ?_
  refine w_istore_n (ls' := [some (vR 30 0 0), some (vI (0)), none, none, none]) dX11_hopeless_1 rfl ?_
  refine w_aload_n dX11_hopeless_2 rfl ?_
  refine w_callV (as := []) (st := []) (Tri.mono (d_starts hs hw) (Nat.le_of_ble_eq_true rfl)) rfl rfl tg_X11_starts lk_X11_192 in_X11_starts se_X11_starts rfl dX11_hopeless_3 rfl (Nat.le_of_ble_eq_true rfl) (Nat.le_refl _) (Nat.le_refl _) ?_
  rintro v M9 ⟨rfl, I1, rfl, hm1, hi1, hf1⟩ -
  have hs1 := hf1.r.si hs
  refine w_iconst (v := 0) dX11_hopeless_6 (by decide) ?_
  refine w_istore_n (ls' := [some (vR 30 0 0), some (vI (0)), some (vI (0)), none, none]) dX11_hopeless_7 rfl ?_
  refine l_hopM hm1 hw (fun o3 o4 => ?_) (nC a) 0 none none (Nat.zero_add _)
  refine w_iload_n dX11_hopeless_90 rfl ?_
  exact w_ireturn dX11_hopeless_91 rfl (rfl) rfl (⟨rfl, _, _, rfl, hf1.r⟩)

def seedN (s : Int32) : Int32 := s * 1103515245 + 12345
def gotN (s : Int32) : Nat := s.toBitVec.toNat / 65536 % 32768
theorem gotN_lt (s : Int32) : gotN s < 32768 := Nat.mod_lt _ (by decide)
theorem got_c (x : Int32) : (((x : Int32).toUInt32 >>> ((16 : Int32).toUInt32 &&& Int32.toUInt32 31)).toInt32) &&& 32767 = nI (gotN x) := by
  rw [pk_and _ 15 (by decide), pk_ushr x 16 16 (by decide)]
  rfl
theorem got_m (x : Int32) : (x >>> ((16 : Int32) &&& 31)) &&& 32767 = nI (gotN x) := by
  rw [pk_and _ 15 (by decide)]
  have h := pk_shr x ((16 : Int32) &&& 31) 16 (by decide)
  generalize x >>> ((16 : Int32) &&& 31) = y at h ⊢
  have e1 : y.toInt = if 2 * y.toBitVec.toNat < 2 ^ 32 then (y.toBitVec.toNat : Int) else (y.toBitVec.toNat : Int) - ((2 ^ 32 : Nat) : Int) := BitVec.toInt_eq_toNat_cond _
  have e2 : x.toInt = if 2 * x.toBitVec.toNat < 2 ^ 32 then (x.toBitVec.toNat : Int) else (x.toBitVec.toNat : Int) - ((2 ^ 32 : Nat) : Int) := BitVec.toInt_eq_toNat_cond _
  have l1 := y.toBitVec.isLt
  have l2 := x.toBitVec.isLt
  rw [Int.shiftRight_eq_div_pow] at h
  unfold gotN
  generalize y.toBitVec.toNat = p at *
  generalize x.toBitVec.toNat = q at *
  refine congrArg nI ?_
  rw [e1, e2] at h
  split at h <;> split at h <;> omega
def hearX (b : aA) (c j : Nat) : aA := if canN b c j (sF b c 1) then sentN b c j (sF b c 1) else b
def drC (a : aA) (s : Int32) : Nat → aA × Int32
  | 0 => (a, s)
  | d + 1 => (dayN (hearX (drC a s d).1 (gotN (seedN (drC a s d).2) % nC a) (gotN (seedN (drC a s d).2) / 8 % nJ a)), seedN (drC a s d).2)
theorem hearX_k {b : aA} (hw : WF b) {c j : Nat} (hc : c < nC b) (hj : j < nJ b) : WF (hearX b c j) ∧ nJ (hearX b c j) = nJ b ∧ nC (hearX b c j) = nC b ∧ dY (hearX b c j) = dY b := by
  unfold hearX
  obtain ⟨b1, b2, b3, b4, b5, b6, b7, b8, b9⟩ := hw.2.2.2.2.2.2.1 c hc
  split
  · obtain ⟨k1, k2, k3, k4, k5, k6⟩ := sentN_k b c j (sF b c 1)
    exact ⟨hw.sent hc hj b2 (by omega), k1, k2, k4⟩
  · exact ⟨hw, rfl, rfl, rfl⟩
theorem drC_k {a : aA} (hw : WF a) (hj0 : 0 < nJ a) (hc0 : 0 < nC a) (s : Int32) : ∀ d, dY a + d ≤ 2000 → WF (drC a s d).1 ∧ nJ (drC a s d).1 = nJ a ∧ nC (drC a s d).1 = nC a ∧ dY (drC a s d).1 = dY a + d
  | 0, _ => ⟨hw, rfl, rfl, rfl⟩
  | d + 1, h => by
    obtain ⟨h1, h2, h3, h4⟩ := drC_k hw hj0 hc0 s d (by omega)
    obtain ⟨g1, g2, g3, g4⟩ := hearX_k h1 (c := gotN (seedN (drC a s d).2) % nC a) (j := gotN (seedN (drC a s d).2) / 8 % nJ a) (by rw [h3]; exact Nat.mod_lt _ hc0) (by rw [h2]; exact Nat.mod_lt _ hj0)
    exact ⟨g1.dayA (by rw [g4, h4]; omega), g2.trans h2, g3.trans h3, by show dY (hearX _ _ _) + 1 = _; rw [g4, h4]; omega⟩

theorem l_driftC {L : xF4 Int64} {a : aA} (hw : WF a) {n : Nat} (h1n : 1 ≤ n) (hn : n ≤ 60) (hd9 : dY a ≤ 999) (hj0 : 0 < nJ a) (hc0 : 0 < nC a) {s what : Int32} {I0 : xF4 Int32} {Q : Option xV → xM → Prop} (hk : ∀ (I : xF4 Int32) (o6 : Option xV), CourtIs I 0 a → CourtIs I 1 (drC a s n).1 → FrQ I0 I → Wp 19 109 m_X10_drift 134 [some (vR 0 0 0), some (vI s), some (vI (nI n)), some (vI what), some (vI (drC a s n).2), some (vI (nI n)), o6] [] (rM I L) Q) : ∀ (m d : Nat) (I : xF4 Int32) (o6 : Option xV), d + m = n → CourtIs I 0 a → CourtIs I 1 (drC a s d).1 → FrQ I0 I → Wp 19 109 m_X10_drift 61 [some (vR 0 0 0), some (vI s), some (vI (nI n)), some (vI what), some (vI (drC a s d).2), some (vI (nI d)), o6] [] (rM I L) Q := by
  intro m
  induction m with
  | zero =>
    intro d I o6 hd hc hc1 hf
    have e : d = n := by omega
    subst e
    obtain ⟨hJ, hC, hG, hD, hR, -⟩ := id hw
    refine w_iload dX10_drift_61 rfl ?_
    refine w_iload_n dX10_drift_63 rfl ?_
    refine w_icmp_ge (tgt := 134) dX10_drift_64 (by decide) (fun _ => ?_) (fun h => absurd (nI_le (Nat.le_refl _) (by omega)) h)
    exact hk _ _ hc hc1 hf
  | succ m ih =>
    intro d I o6 hd hc hc1 hf
    have hlt : d < n := by omega
    obtain ⟨hJ, hC, hG, hD, hR, -⟩ := id hw
    obtain ⟨b, hb⟩ : ∃ b, b = (drC a s d).1 := ⟨_, rfl⟩
    obtain ⟨t, ht⟩ : ∃ t, t = seedN (drC a s d).2 := ⟨_, rfl⟩
    obtain ⟨k1, k2, k3, k4⟩ := drC_k hw hj0 hc0 s d (by omega)
    have hgl := gotN_lt t
    obtain ⟨c, hcE⟩ : ∃ c, c = gotN t % nC a := ⟨_, rfl⟩
    obtain ⟨j, hjE⟩ : ∃ j, j = gotN t / 8 % nJ a := ⟨_, rfl⟩
    have hcl : c < nC a := hcE ▸ Nat.mod_lt _ hc0
    have hjl : j < nJ a := hjE ▸ Nat.mod_lt _ hj0
    have hds : drC a s (d + 1) = (dayN (hearX b c j), t) := by rw [drC, ← ht, ← hb, ← hcE, ← hjE]
    rw [← hb] at k1 k2 k3 k4
    have hcl9 : c < nC b := by omega
    have hjl9 : j < nJ b := by omega
    refine w_iload dX10_drift_61 rfl ?_
    refine w_iload_n dX10_drift_63 rfl ?_
    refine w_icmp_ge (tgt := 134) dX10_drift_64 (by decide) (fun h => absurd h (nI_ge hlt (by omega))) (fun _ => ?_)
    refine w_iload dX10_drift_67 rfl ?_
    refine w_ldcw dX10_drift_69 ct_X10_287 ?_
    refine w_imul dX10_drift_72 ?_
    refine w_sipush (v := 12345) dX10_drift_73 (by decide) ?_
    refine w_iadd dX10_drift_76 ?_
    refine w_top (y := t) (show ((((drC a s d).2) * (1103515245)) + (12345) : Int32) = t from ht.symm) ?_
    refine w_istore (ls' := [some (vR 0 0 0), some (vI (s)), some (vI (nI n)), some (vI (what)), some (vI (t)), some (vI (nI d)), o6]) dX10_drift_77 rfl ?_
    refine w_iload dX10_drift_79 rfl ?_
    refine w_bipush (v := 16) dX10_drift_81 (by decide) ?_
    refine w_iushr dX10_drift_83 rfl ?_
    refine w_sipush (v := 32767) dX10_drift_84 (by decide) ?_
    refine w_iand dX10_drift_87 ?_
    refine w_top (y := nI (gotN t)) (show ((((t : Int32).toUInt32 >>> ((16 : Int32).toUInt32 &&& Int32.toUInt32 31)).toInt32) &&& (32767) : Int32) = nI (gotN t) from got_c t) ?_
    refine w_istore (ls' := [some (vR 0 0 0), some (vI (s)), some (vI (nI n)), some (vI (what)), some (vI (t)), some (vI (nI d)), some (vI (nI (gotN t)))]) dX10_drift_88 rfl ?_
    refine w_aload_n dX10_drift_90 rfl ?_
    refine w_getR (w := some (1, 1, 0)) ff_X10_16 rfl rfl dX10_drift_91 rfl ?_
    refine w_iload dX10_drift_94 rfl ?_
    refine w_aload_n dX10_drift_96 rfl ?_
    refine w_getR (w := some (1, 0, 0)) ff_X10_10 rfl rfl dX10_drift_97 rfl ?_
    refine w_getI ff_X10_92 rfl rfl dX10_drift_100 ?_
    rw [show (I 1 0 0 4 : Int32) = nI (nC a) from hc.2.1]
    refine w_irem dX10_drift_103 (nI_nz (by omega) (by omega)) ?_
    refine w_top (y := nI ((gotN t) % (nC a))) (show ((nI (gotN t)) - (nI (gotN t)) / (nI (nC a)) * (nI (nC a)) : Int32) = nI ((gotN t) % (nC a)) from ar_rem (p := gotN t) (q := nC a) rfl rfl (by omega) (by omega) (by omega) rfl) ?_
    refine w_top (y := nI c) (show (nI ((gotN t) % (nC a)) : Int32) = nI c from congrArg nI hcE.symm) ?_
    refine w_iload dX10_drift_104 rfl ?_
    refine w_bipush (v := 8) dX10_drift_106 (by decide) ?_
    refine w_idiv dX10_drift_108 (by decide) ?_
    refine w_top (y := nI ((gotN t) / 8)) (show ((nI (gotN t)) / (8) : Int32) = nI ((gotN t) / 8) from ar_div (p := gotN t) (q := 8) rfl rfl (by omega) (by decide) (by decide) rfl) ?_
    refine w_aload_n dX10_drift_109 rfl ?_
    refine w_getR (w := some (1, 0, 0)) ff_X10_10 rfl rfl dX10_drift_110 rfl ?_
    refine w_getI ff_X10_89 rfl rfl dX10_drift_113 ?_
    rw [show (I 1 0 0 3 : Int32) = nI (nJ a) from hc.1]
    refine w_irem dX10_drift_116 (nI_nz (by omega) (by omega)) ?_
    refine w_top (y := nI ((gotN t / 8) % (nJ a))) (show ((nI ((gotN t) / 8)) - (nI ((gotN t) / 8)) / (nI (nJ a)) * (nI (nJ a)) : Int32) = nI ((gotN t / 8) % (nJ a)) from ar_rem (p := gotN t / 8) (q := nJ a) rfl rfl (by omega) (by omega) (by omega) rfl) ?_
    refine w_top (y := nI j) (show (nI ((gotN t / 8) % (nJ a)) : Int32) = nI j from congrArg nI hjE.symm) ?_
    rw [← hb] at hc1
    refine w_callV (as := [vI (nI c), vI (nI j)]) (st := []) (Tri.mono (c_sentenceToLeast hc1 k1 hcl9 hjl9) (Nat.le_of_ble_eq_true rfl)) rfl rfl tg_X1_sentenceToLeast lk_X10_288 in_X1_sentenceToLeast se_X1_sentenceToLeast rfl dX10_drift_117 rfl (Nat.le_of_ble_eq_true rfl) (Nat.le_refl _) (Nat.le_refl _) ?_
    rintro v M9 (⟨hp, rfl, I1, rfl, g1, g2⟩ | ⟨hp, rfl, rfl⟩) -
    · skip
      have hx9 : hearX b c j = sentN b c j (sF b c 1) := if_pos hp
      obtain ⟨x1, x2, x3, x4⟩ := hearX_k k1 hcl9 hjl9
      rw [hx9] at x1 x2 x3 x4 hds
      refine w_pop dX10_drift_120 rfl ?_
      refine w_aload_n dX10_drift_121 rfl ?_
      refine w_getR (w := some (1, 1, 0)) ff_X10_16 rfl rfl dX10_drift_122 rfl ?_
      refine w_callV (as := []) (st := []) (Tri.mono (c_nextDay g1 x1 (by omega)) (Nat.le_of_ble_eq_true rfl)) rfl rfl tg_X1_nextDay lk_X10_189 in_X1_nextDay se_X1_nextDay rfl dX10_drift_125 rfl (Nat.le_of_ble_eq_true rfl) (Nat.le_refl _) (Nat.le_refl _) ?_
      rintro v M9 ⟨rfl, I2, rfl, g3, g4⟩ -
      refine w_iinc (v := nI (d + 1)) (ls' := [some (vR 0 0 0), some (vI (s)), some (vI (nI n)), some (vI (what)), some (vI (t)), some (vI (nI (d + 1))), some (vI (nI (gotN t)))]) dX10_drift_128 rfl (nI_1 _) rfl ?_
      refine w_goto (tgt := 61) dX10_drift_131 (by decide) ?_
      have q := ih (d + 1) I2 (some (vI (nI (gotN t)))) (by omega) ((g2.tr g4).court (by decide) hc) (by rw [hds]; exact g3) (hf.tr (g2.tr g4).q)
      rw [hds] at q
      exact q
    · skip
      have hx9 : hearX b c j = b := if_neg hp
      obtain ⟨x1, x2, x3, x4⟩ := hearX_k k1 hcl9 hjl9
      rw [hx9] at x1 x2 x3 x4 hds
      refine w_pop dX10_drift_120 rfl ?_
      refine w_aload_n dX10_drift_121 rfl ?_
      refine w_getR (w := some (1, 1, 0)) ff_X10_16 rfl rfl dX10_drift_122 rfl ?_
      refine w_callV (as := []) (st := []) (Tri.mono (c_nextDay hc1 x1 (by omega)) (Nat.le_of_ble_eq_true rfl)) rfl rfl tg_X1_nextDay lk_X10_189 in_X1_nextDay se_X1_nextDay rfl dX10_drift_125 rfl (Nat.le_of_ble_eq_true rfl) (Nat.le_refl _) (Nat.le_refl _) ?_
      rintro v M9 ⟨rfl, I2, rfl, g3, g4⟩ -
      refine w_iinc (v := nI (d + 1)) (ls' := [some (vR 0 0 0), some (vI (s)), some (vI (nI n)), some (vI (what)), some (vI (t)), some (vI (nI (d + 1))), some (vI (nI (gotN t)))]) dX10_drift_128 rfl (nI_1 _) rfl ?_
      refine w_goto (tgt := 61) dX10_drift_131 (by decide) ?_
      have q := ih (d + 1) I2 (some (vI (nI (gotN t)))) (by omega) (g4.court (by decide) hc) (by rw [hds]; exact g3) (hf.tr g4.q)
      rw [hds] at q
      exact q

theorem l_driftM {L : xF4 Int64} {a : aA} (hw : WF a) {n : Nat} (h1n : 1 ≤ n) (hn : n ≤ 60) (hd9 : dY a ≤ 999) (hj0 : 0 < nJ a) (hc0 : 0 < nC a) {s what : Int32} {I0 : xF4 Int32} {Q : Option xV → xM → Prop} (hk : ∀ (I : xF4 Int32) (o6 o7 o8 : Option xV), MI I (drC a s n).1 → FrR I0 I → Wp 19 109 m_X11_drift 141 [some (vR 30 0 0), some (vI s), some (vI (nI n)), some (vI what), some (vI (drC a s n).2), some (vI (nI n)), o6, o7, o8] [] (rM I L) Q) : ∀ (m d : Nat) (I : xF4 Int32) (o6 o7 o8 : Option xV), d + m = n → MI I (drC a s d).1 → FrR I0 I → Wp 19 109 m_X11_drift 48 [some (vR 30 0 0), some (vI s), some (vI (nI n)), some (vI what), some (vI (drC a s d).2), some (vI (nI d)), o6, o7, o8] [] (rM I L) Q := by
  intro m
  induction m with
  | zero =>
    intro d I o6 o7 o8 hd hm hf
    have e : d = n := by omega
    subst e
    obtain ⟨hJ, hC, hG, hD, hR, -⟩ := id hw
    refine w_iload dX11_drift_48 rfl ?_
    refine w_iload_n dX11_drift_50 rfl ?_
    refine w_icmp_ge (tgt := 141) dX11_drift_51 (by decide) (fun _ => ?_) (fun h => absurd (nI_le (Nat.le_refl _) (by omega)) h)
    exact hk _ _ _ _ hm hf
  | succ m ih =>
    intro d I o6 o7 o8 hd hm hf
    have hlt : d < n := by omega
    obtain ⟨hJ, hC, hG, hD, hR, -⟩ := id hw
    obtain ⟨b, hb⟩ : ∃ b, b = (drC a s d).1 := ⟨_, rfl⟩
    obtain ⟨t, ht⟩ : ∃ t, t = seedN (drC a s d).2 := ⟨_, rfl⟩
    obtain ⟨k1, k2, k3, k4⟩ := drC_k hw hj0 hc0 s d (by omega)
    have hgl := gotN_lt t
    obtain ⟨c, hcE⟩ : ∃ c, c = gotN t % nC a := ⟨_, rfl⟩
    obtain ⟨j, hjE⟩ : ∃ j, j = gotN t / 8 % nJ a := ⟨_, rfl⟩
    have hcl : c < nC a := hcE ▸ Nat.mod_lt _ hc0
    have hjl : j < nJ a := hjE ▸ Nat.mod_lt _ hj0
    have hds : drC a s (d + 1) = (dayN (hearX b c j), t) := by rw [drC, ← ht, ← hb, ← hcE, ← hjE]
    rw [← hb] at k1 k2 k3 k4
    have hcl9 : c < nC b := by omega
    have hjl9 : j < nJ b := by omega
    rw [← hb] at hm
    obtain ⟨fc0, fc1, fc2, fc3, fc4, fc5, fc6, fc7, fc8⟩ := k1.2.2.2.2.2.2.1 c hcl9
    refine w_iload dX11_drift_48 rfl ?_
    refine w_iload_n dX11_drift_50 rfl ?_
    refine w_icmp_ge (tgt := 141) dX11_drift_51 (by decide) (fun h => absurd h (nI_ge hlt (by omega))) (fun _ => ?_)
    refine w_iload dX11_drift_54 rfl ?_
    refine w_ldcw dX11_drift_56 ct_X11_298 ?_
    refine w_imul dX11_drift_59 ?_
    refine w_sipush (v := 12345) dX11_drift_60 (by decide) ?_
    refine w_iadd dX11_drift_63 ?_
    refine w_top (y := t) (show ((((drC a s d).2) * (1103515245)) + (12345) : Int32) = t from ht.symm) ?_
    refine w_istore (ls' := [some (vR 30 0 0), some (vI (s)), some (vI (nI n)), some (vI (what)), some (vI (t)), some (vI (nI d)), o6, o7, o8]) dX11_drift_64 rfl ?_
    refine w_iload dX11_drift_66 rfl ?_
    refine w_bipush (v := 16) dX11_drift_68 (by decide) ?_
    refine w_ishr dX11_drift_70 ?_
    refine w_sipush (v := 32767) dX11_drift_71 (by decide) ?_
    refine w_iand dX11_drift_74 ?_
    refine w_top (y := nI (gotN t)) (show (((t) >>> ((16) &&& 31)) &&& (32767) : Int32) = nI (gotN t) from got_m t) ?_
    refine w_istore (ls' := [some (vR 30 0 0), some (vI (s)), some (vI (nI n)), some (vI (what)), some (vI (t)), some (vI (nI d)), some (vI (nI (gotN t))), o7, o8]) dX11_drift_75 rfl ?_
    refine w_iload dX11_drift_77 rfl ?_
    refine w_aload_n dX11_drift_79 rfl ?_
    refine w_getI ff_X11_61 rfl rfl dX11_drift_80 ?_
    rw [show (I 30 0 0 4 : Int32) = nI (nC a) from hm.2.1.trans (congrArg nI k3)]
    refine w_irem dX11_drift_83 (nI_nz (by omega) (by omega)) ?_
    refine w_top (y := nI ((gotN t) % (nC a))) (show ((nI (gotN t)) - (nI (gotN t)) / (nI (nC a)) * (nI (nC a)) : Int32) = nI ((gotN t) % (nC a)) from ar_rem (p := gotN t) (q := nC a) rfl rfl (by omega) (by omega) (by omega) rfl) ?_
    refine w_top (y := nI c) (show (nI ((gotN t) % (nC a)) : Int32) = nI c from congrArg nI hcE.symm) ?_
    refine w_istore (ls' := [some (vR 30 0 0), some (vI (s)), some (vI (nI n)), some (vI (what)), some (vI (t)), some (vI (nI d)), some (vI (nI (gotN t))), some (vI (nI c)), o8]) dX11_drift_84 rfl ?_
    refine w_iload dX11_drift_86 rfl ?_
    refine w_bipush (v := 8) dX11_drift_88 (by decide) ?_
    refine w_idiv dX11_drift_90 (by decide) ?_
    refine w_top (y := nI ((gotN t) / 8)) (show ((nI (gotN t)) / (8) : Int32) = nI ((gotN t) / 8) from ar_div (p := gotN t) (q := 8) rfl rfl (by omega) (by decide) (by decide) rfl) ?_
    refine w_aload_n dX11_drift_91 rfl ?_
    refine w_getI ff_X11_58 rfl rfl dX11_drift_92 ?_
    rw [show (I 30 0 0 3 : Int32) = nI (nJ a) from hm.1.trans (congrArg nI k2)]
    refine w_irem dX11_drift_95 (nI_nz (by omega) (by omega)) ?_
    refine w_top (y := nI ((gotN t / 8) % (nJ a))) (show ((nI ((gotN t) / 8)) - (nI ((gotN t) / 8)) / (nI (nJ a)) * (nI (nJ a)) : Int32) = nI ((gotN t / 8) % (nJ a)) from ar_rem (p := gotN t / 8) (q := nJ a) rfl rfl (by omega) (by omega) (by omega) rfl) ?_
    refine w_top (y := nI j) (show (nI ((gotN t / 8) % (nJ a)) : Int32) = nI j from congrArg nI hjE.symm) ?_
    refine w_istore (ls' := [some (vR 30 0 0), some (vI (s)), some (vI (nI n)), some (vI (what)), some (vI (t)), some (vI (nI d)), some (vI (nI (gotN t))), some (vI (nI c)), some (vI (nI j))]) dX11_drift_96 rfl ?_
    refine w_aload_n dX11_drift_98 rfl ?_
    refine w_iload dX11_drift_99 rfl ?_
    refine w_iload dX11_drift_101 rfl ?_
    refine w_aload_n dX11_drift_103 rfl ?_
    refine w_iload dX11_drift_104 rfl ?_
    refine w_iconst (v := 1) dX11_drift_106 (by decide) ?_
    refine w_callV (as := [vI (nI c), vI (1)]) (st := [vI (nI c), vI (nI j), vR 30 0 0]) (Tri.mono (d_ofCase hm (show nC b ≤ 5 by omega) hcl9 (f := 1) (by decide) (by decide)) (Nat.le_of_ble_eq_true rfl)) rfl rfl tg_X11_ofCase lk_X11_145 in_X11_ofCase se_X11_ofCase rfl dX11_drift_107 rfl (Nat.le_of_ble_eq_true rfl) (Nat.le_refl _) (Nat.le_refl _) ?_
    rintro _ _ ⟨rfl, rfl⟩ -
    refine w_callV (as := [vI (nI j), vI (nI c), vI (nI (sF b c 1))]) (st := []) (Tri.mono (d_canHear hm k1 (c := c) (j := j) (n := sF b c 1) hcl9 hjl9 (by omega)) (Nat.le_of_ble_eq_true rfl)) rfl rfl tg_X11_canHear lk_X11_165 in_X11_canHear se_X11_canHear rfl dX11_drift_110 rfl (Nat.le_of_ble_eq_true rfl) (Nat.le_refl _) (Nat.le_refl _) ?_
    rintro _ _ ⟨rfl, rfl⟩ -
    refine w_ifeq_b (tgt := 131) dX11_drift_113 (by decide) (fun h1 => ?_) (fun h1 => ?_)
    · skip
      have hx9 : hearX b c j = b := if_neg h1
      obtain ⟨x1, x2, x3, x4⟩ := hearX_k k1 hcl9 hjl9
      rw [hx9] at x1 x2 x3 x4 hds
      refine w_aload_n dX11_drift_131 rfl ?_
      refine w_callV (as := []) (st := []) (Tri.mono (d_dayGoes hm x1) (Nat.le_of_ble_eq_true rfl)) rfl rfl tg_X11_dayGoes lk_X11_180 in_X11_dayGoes se_X11_dayGoes rfl dX11_drift_132 rfl (Nat.le_of_ble_eq_true rfl) (Nat.le_refl _) (Nat.le_refl _) ?_
      rintro v M9 ⟨rfl, I2, rfl, g3, g4⟩ -
      refine w_iinc (v := nI (d + 1)) (ls' := [some (vR 30 0 0), some (vI (s)), some (vI (nI n)), some (vI (what)), some (vI (t)), some (vI (nI (d + 1))), some (vI (nI (gotN t))), some (vI (nI c)), some (vI (nI j))]) dX11_drift_135 rfl (nI_1 _) rfl ?_
      refine w_goto (tgt := 48) dX11_drift_138 (by decide) ?_
      have q := ih (d + 1) I2 (some (vI (nI (gotN t)))) (some (vI (nI c))) (some (vI (nI j))) (by omega) (by rw [hds]; exact g3) (hf.tr g4.r)
      rw [hds] at q
      exact q
    · skip
      have hx9 : hearX b c j = sentN b c j (sF b c 1) := if_pos h1
      obtain ⟨x1, x2, x3, x4⟩ := hearX_k k1 hcl9 hjl9
      rw [hx9] at x1 x2 x3 x4 hds
      refine w_aload_n dX11_drift_116 rfl ?_
      refine w_iload dX11_drift_117 rfl ?_
      refine w_iload dX11_drift_119 rfl ?_
      refine w_aload_n dX11_drift_121 rfl ?_
      refine w_iload dX11_drift_122 rfl ?_
      refine w_iconst (v := 1) dX11_drift_124 (by decide) ?_
      refine w_callV (as := [vI (nI c), vI (1)]) (st := [vI (nI c), vI (nI j), vR 30 0 0]) (Tri.mono (d_ofCase hm (show nC b ≤ 5 by omega) hcl9 (f := 1) (by decide) (by decide)) (Nat.le_of_ble_eq_true rfl)) rfl rfl tg_X11_ofCase lk_X11_145 in_X11_ofCase se_X11_ofCase rfl dX11_drift_125 rfl (Nat.le_of_ble_eq_true rfl) (Nat.le_refl _) (Nat.le_refl _) ?_
      rintro _ _ ⟨rfl, rfl⟩ -
      refine w_callV (as := [vI (nI j), vI (nI c), vI (nI (sF b c 1))]) (st := []) (Tri.mono (d_sentences hm k1 (c := c) (j := j) (n := sF b c 1) hcl9 hjl9 (by omega) h1) (Nat.le_of_ble_eq_true rfl)) rfl rfl tg_X11_sentences lk_X11_174 in_X11_sentences se_X11_sentences rfl dX11_drift_128 rfl (Nat.le_of_ble_eq_true rfl) (Nat.le_refl _) (Nat.le_refl _) ?_
      rintro v M9 ⟨rfl, I1, rfl, g1, g2⟩ -
      refine w_aload_n dX11_drift_131 rfl ?_
      refine w_callV (as := []) (st := []) (Tri.mono (d_dayGoes g1 x1) (Nat.le_of_ble_eq_true rfl)) rfl rfl tg_X11_dayGoes lk_X11_180 in_X11_dayGoes se_X11_dayGoes rfl dX11_drift_132 rfl (Nat.le_of_ble_eq_true rfl) (Nat.le_refl _) (Nat.le_refl _) ?_
      rintro v M9 ⟨rfl, I2, rfl, g3, g4⟩ -
      refine w_iinc (v := nI (d + 1)) (ls' := [some (vR 30 0 0), some (vI (s)), some (vI (nI n)), some (vI (what)), some (vI (t)), some (vI (nI (d + 1))), some (vI (nI (gotN t))), some (vI (nI c)), some (vI (nI j))]) dX11_drift_135 rfl (nI_1 _) rfl ?_
      refine w_goto (tgt := 48) dX11_drift_138 (by decide) ?_
      have q := ih (d + 1) I2 (some (vI (nI (gotN t)))) (some (vI (nI c))) (some (vI (nI j))) (by omega) (by rw [hds]; exact g3) (hf.tr (g2.r.tr g4.r))
      rw [hds] at q
      exact q

theorem p_drift_0 {I : xF4 Int32} {L : xF4 Int64} {a : aA} (hc : CourtIs I 0 a) (hw : WF a) {n : Nat} (h1n : 1 ≤ n) (hn : n ≤ 60) (hd9 : dY a ≤ 999) (hj0 : 0 < nJ a) (hc0 : 0 < nC a) {s : Int32} : Tri 19 109 m_X10_drift [vR 0 0 0, vI (s), vI (nI n), vI (0)] (rM I L) (pCq (vI (nI (cR (drC a s n).1))) I) := by
  refine ⟨k_X10_drift, Nat.le_of_ble_eq_true rfl, ?_⟩
  show Wp _ _ _ 0 [some (vR 0 0 0), some (vI (s)), some (vI (nI n)), some (vI (0)), none, none, none] [] (rM I L) _
  obtain ⟨hJ, hC, hG, hD, hR, -⟩ := id hw
  refine w_iload_n dX10_drift_0 rfl ?_
  refine w_iconst (v := 1) dX10_drift_1 (by decide) ?_
  refine w_bipush (v := 60) dX10_drift_2 (by decide) ?_
  refine w_callS (as := [vI (nI n), vI (1), vI (60)]) (st := []) (Tri.mono (c_X10_within (nI n) (1) (60)) (Nat.le_of_ble_eq_true rfl)) tg_X10_within lk_X10_158 sa_X10_within rfl dX10_drift_4 rfl (Nat.le_of_ble_eq_true rfl) (Nat.le_refl _) (Nat.le_refl _) ?_
  rintro _ _ ⟨rfl, rfl⟩ -
  refine w_top (y := bI (1 ≤ ((n : Nat) : Int) ∧ ((n : Nat) : Int) ≤ 60)) (show (bI ((1 : Int32) ≤ (nI n) ∧ (nI n) ≤ (60 : Int32)) : Int32) = bI (1 ≤ ((n : Nat) : Int) ∧ ((n : Nat) : Int) ≤ 60) from wiZ (X := ((n : Nat) : Int)) (A := 1) (B := 60) (z_nI (by omega)) (by decide) (by decide)) ?_
  refine w_ifeq_b (tgt := 19) dX10_drift_7 (by decide) (fun h1 => ?_) (fun h1 => ?_)
  · skip
    first
    | (exfalso; omega)
    | skip
      refine w_iconst (v := (-1)) dX10_drift_19 (by decide) ?_
      exact w_ireturn dX10_drift_20 rfl (rfl) rfl (⟨rfl, _, _, rfl, FrQ.rf⟩)
  · skip
    first
    | (exfalso; omega)
    | skip
      refine w_iload_n dX10_drift_10 rfl ?_
      refine w_iconst (v := 0) dX10_drift_11 (by decide) ?_
      refine w_iconst (v := 1) dX10_drift_12 (by decide) ?_
      refine w_callS (as := [vI (0), vI (0), vI (1)]) (st := []) (Tri.mono (c_X10_within (0) (0) (1)) (Nat.le_of_ble_eq_true rfl)) tg_X10_within lk_X10_158 sa_X10_within rfl dX10_drift_13 rfl (Nat.le_of_ble_eq_true rfl) (Nat.le_refl _) (Nat.le_refl _) ?_
      rintro _ _ ⟨rfl, rfl⟩ -
      refine w_top (y := 1) (show (bI ((0 : Int32) ≤ ((0 : Int32)) ∧ ((0 : Int32)) ≤ (1 : Int32)) : Int32) = 1 from bI_t (by decide)) ?_
      refine w_if_ne (tgt := 21) dX10_drift_16 (by decide) (fun _ => ?_) (fun h => absurd h (by decide))
      refine w_aload_n dX10_drift_21 rfl ?_
      refine w_getR (w := some (1, 0, 0)) ff_X10_10 rfl rfl dX10_drift_22 rfl ?_
      refine w_getI ff_X10_89 rfl rfl dX10_drift_25 ?_
      rw [show (I 1 0 0 3 : Int32) = nI (nJ a) from hc.1]
      refine w_if_le (tgt := 41) dX10_drift_28 (by decide) (fun h2 => ?_) (fun h2 => ?_)
      · skip
        replace h2 : ((nJ a : Nat) : Int) ≤ 0 := (zle (z_nI (by omega)) (by decide)).mp h2
        first
        | (exfalso; omega)
        | skip
          refine w_bipush (v := (-2)) dX10_drift_41 (by decide) ?_
          exact w_ireturn dX10_drift_43 rfl (rfl) rfl (⟨rfl, _, _, rfl, FrQ.rf⟩)
      · skip
        replace h2 : ¬ (((nJ a : Nat) : Int) ≤ 0) := fun q => h2 ((zle (z_nI (by omega)) (by decide)).mpr q)
        first
        | (exfalso; omega)
        | skip
          refine w_aload_n dX10_drift_31 rfl ?_
          refine w_getR (w := some (1, 0, 0)) ff_X10_10 rfl rfl dX10_drift_32 rfl ?_
          refine w_getI ff_X10_92 rfl rfl dX10_drift_35 ?_
          rw [show (I 1 0 0 4 : Int32) = nI (nC a) from hc.2.1]
          refine w_if_gt (tgt := 44) dX10_drift_38 (by decide) (fun h3 => ?_) (fun h3 => ?_)
          · skip
            replace h3 : 0 < ((nC a : Nat) : Int) := (zlt (by decide) (z_nI (by omega))).mp h3
            first
            | (exfalso; omega)
            | skip
              refine w_aload_n dX10_drift_44 rfl ?_
              refine w_getR (w := some (1, 1, 0)) ff_X10_16 rfl rfl dX10_drift_45 rfl ?_
              refine w_aload_n dX10_drift_48 rfl ?_
              refine w_getR (w := some (1, 0, 0)) ff_X10_10 rfl rfl dX10_drift_49 rfl ?_
              refine w_callV (as := [vR 1 0 0]) (st := []) (Tri.mono (c_copy (k := 1) (k2 := 0) (by decide) hw hc) (Nat.le_of_ble_eq_true rfl)) rfl rfl tg_X1_copy lk_X10_82 in_X1_copy se_X1_copy rfl dX10_drift_52 rfl (Nat.le_of_ble_eq_true rfl) (Nat.le_refl _) (Nat.le_refl _) ?_
              rintro v M9 ⟨rfl, I1, rfl, g1, g2⟩ -
              refine w_iload_n dX10_drift_55 rfl ?_
              refine w_istore (ls' := [some (vR 0 0 0), some (vI (s)), some (vI (nI n)), some (vI (0)), some (vI (s)), none, none]) dX10_drift_56 rfl ?_
              refine w_iconst (v := 0) dX10_drift_58 (by decide) ?_
              refine w_istore (ls' := [some (vR 0 0 0), some (vI (s)), some (vI (nI n)), some (vI (0)), some (vI (s)), some (vI (0)), none]) dX10_drift_59 rfl ?_
              refine l_driftC hw h1n hn hd9 hj0 hc0 (fun I9 o6 h0 h1 hf9 => ?_) n 0 I1 none (Nat.zero_add _) (g2.court (by decide) hc) g1 g2.q
              obtain ⟨k1, k2, k3, k4⟩ := drC_k hw hj0 hc0 s n (by omega)
              refine w_iload_n dX10_drift_134 rfl ?_
              refine w_if_ne (tgt := 148) dX10_drift_135 (by decide) (fun h => absurd (by decide) h) (fun _ => ?_)
              refine w_aload_n dX10_drift_138 rfl ?_
              refine w_getR (w := some (1, 1, 0)) ff_X10_16 rfl rfl dX10_drift_139 rfl ?_
              refine w_getI ff_X10_98 rfl rfl dX10_drift_142 ?_
              rw [show (I9 1 1 0 7 : Int32) = nI (cR (drC a s n).1) from h1.2.2.2.2.1]
              refine w_goto (tgt := 155) dX10_drift_145 (by decide) ?_
              exact w_ireturn dX10_drift_155 rfl (rfl) rfl (⟨rfl, _, _, rfl, hf9⟩)
          · skip
            replace h3 : ¬ (0 < ((nC a : Nat) : Int)) := fun q => h3 ((zlt (by decide) (z_nI (by omega))).mpr q)
            first
            | (exfalso; omega)
            | skip
              refine w_bipush (v := (-2)) dX10_drift_41 (by decide) ?_
              exact w_ireturn dX10_drift_43 rfl (rfl) rfl (⟨rfl, _, _, rfl, FrQ.rf⟩)

theorem q_drift_0 {I : xF4 Int32} {L : xF4 Int64} {a : aA} (hs : SI I a) (hw : WF a) {n : Nat} (h1n : 1 ≤ n) (hn : n ≤ 60) (hd9 : dY a ≤ 999) (hj0 : 0 < nJ a) (hc0 : 0 < nC a) {s : Int32} : Tri 19 109 m_X11_drift [vR 30 0 0, vI (s), vI (nI n), vI (0)] (rM I L) (pMq (vI (nI (cR (drC a s n).1))) I) := by
  refine ⟨k_X11_drift, Nat.le_of_ble_eq_true rfl, ?_⟩
  show Wp _ _ _ 0 [some (vR 30 0 0), some (vI (s)), some (vI (nI n)), some (vI (0)), none, none, none, none, none] [] (rM I L) _
  obtain ⟨hJ, hC, hG, hD, hR, -⟩ := id hw
  refine w_iload_n dX11_drift_0 rfl ?_
  refine w_i2l dX11_drift_1 ?_
  refine w_lconst (v := 1) dX11_drift_2 (by decide) ?_
  refine w_ldc2 dX11_drift_3 cq_X11_207 ?_
  refine w_callS (as := [vL ((nI n : Int32).toInt64), vL (1), vL (60)]) (st := []) (Tri.mono (d_in ((nI n : Int32).toInt64) (1) (60)) (Nat.le_of_ble_eq_true rfl)) tg_X11_in lk_X11_66 sa_X11_in rfl dX11_drift_6 rfl (Nat.le_of_ble_eq_true rfl) (Nat.le_refl _) (Nat.le_refl _) ?_
  rintro _ _ ⟨rfl, rfl⟩ -
  refine w_top (y := bI (1 ≤ ((n : Nat) : Int) ∧ ((n : Nat) : Int) ≤ 60)) (show (bI ((1 : Int64) ≤ ((nI n : Int32).toInt64) ∧ ((nI n : Int32).toInt64) ≤ (60 : Int64)) : Int32) = bI (1 ≤ ((n : Nat) : Int) ∧ ((n : Nat) : Int) ≤ 60) from inZ (x := nI n) (l := 1) (h := 60) (X := ((n : Nat) : Int)) (A := 1) (B := 60) rfl (by decide) (by decide) (z_nI (by omega)) (by decide) (by decide)) ?_
  refine w_ifeq_b (tgt := 19) dX11_drift_9 (by decide) (fun h1 => ?_) (fun h1 => ?_)
  · skip
    first
    | (exfalso; omega)
    | skip
      refine w_iconst (v := (-1)) dX11_drift_19 (by decide) ?_
      exact w_ireturn dX11_drift_20 rfl (rfl) rfl (⟨rfl, _, _, rfl, FrR.rf⟩)
  · skip
    first
    | (exfalso; omega)
    | skip
      refine w_iload_n dX11_drift_12 rfl ?_
      refine w_callS (as := [vI (0)]) (st := []) (Tri.mono (d_isPart (x := 0) (X := (0 : Int)) (by decide)) (Nat.le_of_ble_eq_true rfl)) tg_X11_isPart lk_X11_245 sa_X11_isPart rfl dX11_drift_13 rfl (Nat.le_of_ble_eq_true rfl) (Nat.le_refl _) (Nat.le_refl _) ?_
      rintro _ _ ⟨rfl, rfl⟩ -
      refine w_top (y := 1) (show (bI ((0 : Int) ≤ 0 ∧ (0 : Int) ≤ 1) : Int32) = 1 from bI_t (by decide)) ?_
      refine w_if_ne (tgt := 21) dX11_drift_16 (by decide) (fun _ => ?_) (fun h => absurd h (by decide))
      refine w_aload_n dX11_drift_21 rfl ?_
      refine w_getI ff_X11_58 rfl rfl dX11_drift_22 ?_
      rw [show (I 30 0 0 3 : Int32) = nI (nJ a) from hs.1]
      refine w_if_eq (tgt := 35) dX11_drift_25 (by decide) (fun h2 => ?_) (fun h2 => ?_)
      · skip
        replace h2 : ((nJ a : Nat) : Int) = 0 := (zeq (z_nI (by omega)) (by decide)).mp h2
        first
        | (exfalso; omega)
        | skip
          refine w_bipush (v := (-2)) dX11_drift_35 (by decide) ?_
          exact w_ireturn dX11_drift_37 rfl (rfl) rfl (⟨rfl, _, _, rfl, FrR.rf⟩)
      · skip
        replace h2 : ¬ (((nJ a : Nat) : Int) = 0) := fun q => h2 ((zeq (z_nI (by omega)) (by decide)).mpr q)
        first
        | (exfalso; omega)
        | skip
          refine w_aload_n dX11_drift_28 rfl ?_
          refine w_getI ff_X11_61 rfl rfl dX11_drift_29 ?_
          rw [show (I 30 0 0 4 : Int32) = nI (nC a) from hs.2.1]
          refine w_if_ne (tgt := 38) dX11_drift_32 (by decide) (fun h3 => ?_) (fun h3 => ?_)
          · skip
            replace h3 : ¬ (((nC a : Nat) : Int) = 0) := fun q => h3 ((zeq (z_nI (by omega)) (by decide)).mpr q)
            first
            | (exfalso; omega)
            | skip
              refine w_iload_n dX11_drift_38 rfl ?_
              refine w_istore (ls' := [some (vR 30 0 0), some (vI (s)), some (vI (nI n)), some (vI (0)), some (vI (s)), none, none, none, none]) dX11_drift_39 rfl ?_
              refine w_aload_n dX11_drift_41 rfl ?_
              refine w_callV (as := []) (st := []) (Tri.mono (d_starts hs hw) (Nat.le_of_ble_eq_true rfl)) rfl rfl tg_X11_starts lk_X11_192 in_X11_starts se_X11_starts rfl dX11_drift_42 rfl (Nat.le_of_ble_eq_true rfl) (Nat.le_refl _) (Nat.le_refl _) ?_
              rintro v M9 ⟨rfl, I1, rfl, hm1, hi1, hf1⟩ -
              have hs1 := hf1.r.si hs
              refine w_iconst (v := 0) dX11_drift_45 (by decide) ?_
              refine w_istore (ls' := [some (vR 30 0 0), some (vI (s)), some (vI (nI n)), some (vI (0)), some (vI (s)), some (vI (0)), none, none, none]) dX11_drift_46 rfl ?_
              refine l_driftM hw h1n hn hd9 hj0 hc0 (fun I9 o6 o7 o8 h1 hf9 => ?_) n 0 I1 none none none (Nat.zero_add _) hm1 FrR.rf
              obtain ⟨k1, k2, k3, k4⟩ := drC_k hw hj0 hc0 s n (by omega)
              refine w_iload_n dX11_drift_141 rfl ?_
              refine w_if_ne (tgt := 155) dX11_drift_142 (by decide) (fun h => absurd (by decide) h) (fun _ => ?_)
              refine w_aload_n dX11_drift_145 rfl ?_
              refine w_getR (w := some (32, 0, 0)) ff_X11_13 rfl rfl dX11_drift_146 rfl ?_
              refine w_bipush (v := 56) dX11_drift_149 (by decide) ?_
              refine w_iaload (a := 56) rfl (vp_in_nI (n := 56) (by omega) (by omega)) (nI_clamp (n := 56) (by omega)) dX11_drift_151 ?_
              rw [show (I9 32 0 0 (56) : Int32) = nI (cR (drC a s n).1) from h1.2.2.cr rfl]
              refine w_goto (tgt := 159) dX11_drift_152 (by decide) ?_
              exact w_ireturn dX11_drift_159 rfl (rfl) rfl (⟨rfl, _, _, rfl, (hf1.r.tr hf9)⟩)
          · skip
            replace h3 : ((nC a : Nat) : Int) = 0 := (zeq (z_nI (by omega)) (by decide)).mp h3
            first
            | (exfalso; omega)
            | skip
              refine w_bipush (v := (-2)) dX11_drift_35 (by decide) ?_
              exact w_ireturn dX11_drift_37 rfl (rfl) rfl (⟨rfl, _, _, rfl, FrR.rf⟩)

theorem p_drift_1 {I : xF4 Int32} {L : xF4 Int64} {a : aA} (hc : CourtIs I 0 a) (hw : WF a) {n : Nat} (h1n : 1 ≤ n) (hn : n ≤ 60) (hd9 : dY a ≤ 999) (hj0 : 0 < nJ a) (hc0 : 0 < nC a) {s : Int32} : Tri 19 109 m_X10_drift [vR 0 0 0, vI (s), vI (nI n), vI (1)] (rM I L) (pCq (vI (nI (heardN (drC a s n).1))) I) := by
  refine ⟨k_X10_drift, Nat.le_of_ble_eq_true rfl, ?_⟩
  show Wp _ _ _ 0 [some (vR 0 0 0), some (vI (s)), some (vI (nI n)), some (vI (1)), none, none, none] [] (rM I L) _
  obtain ⟨hJ, hC, hG, hD, hR, -⟩ := id hw
  refine w_iload_n dX10_drift_0 rfl ?_
  refine w_iconst (v := 1) dX10_drift_1 (by decide) ?_
  refine w_bipush (v := 60) dX10_drift_2 (by decide) ?_
  refine w_callS (as := [vI (nI n), vI (1), vI (60)]) (st := []) (Tri.mono (c_X10_within (nI n) (1) (60)) (Nat.le_of_ble_eq_true rfl)) tg_X10_within lk_X10_158 sa_X10_within rfl dX10_drift_4 rfl (Nat.le_of_ble_eq_true rfl) (Nat.le_refl _) (Nat.le_refl _) ?_
  rintro _ _ ⟨rfl, rfl⟩ -
  refine w_top (y := bI (1 ≤ ((n : Nat) : Int) ∧ ((n : Nat) : Int) ≤ 60)) (show (bI ((1 : Int32) ≤ (nI n) ∧ (nI n) ≤ (60 : Int32)) : Int32) = bI (1 ≤ ((n : Nat) : Int) ∧ ((n : Nat) : Int) ≤ 60) from wiZ (X := ((n : Nat) : Int)) (A := 1) (B := 60) (z_nI (by omega)) (by decide) (by decide)) ?_
  refine w_ifeq_b (tgt := 19) dX10_drift_7 (by decide) (fun h1 => ?_) (fun h1 => ?_)
  · skip
    first
    | (exfalso; omega)
    | skip
      refine w_iconst (v := (-1)) dX10_drift_19 (by decide) ?_
      exact w_ireturn dX10_drift_20 rfl (rfl) rfl (⟨rfl, _, _, rfl, FrQ.rf⟩)
  · skip
    first
    | (exfalso; omega)
    | skip
      refine w_iload_n dX10_drift_10 rfl ?_
      refine w_iconst (v := 0) dX10_drift_11 (by decide) ?_
      refine w_iconst (v := 1) dX10_drift_12 (by decide) ?_
      refine w_callS (as := [vI (1), vI (0), vI (1)]) (st := []) (Tri.mono (c_X10_within (1) (0) (1)) (Nat.le_of_ble_eq_true rfl)) tg_X10_within lk_X10_158 sa_X10_within rfl dX10_drift_13 rfl (Nat.le_of_ble_eq_true rfl) (Nat.le_refl _) (Nat.le_refl _) ?_
      rintro _ _ ⟨rfl, rfl⟩ -
      refine w_top (y := 1) (show (bI ((0 : Int32) ≤ ((1 : Int32)) ∧ ((1 : Int32)) ≤ (1 : Int32)) : Int32) = 1 from bI_t (by decide)) ?_
      refine w_if_ne (tgt := 21) dX10_drift_16 (by decide) (fun _ => ?_) (fun h => absurd h (by decide))
      refine w_aload_n dX10_drift_21 rfl ?_
      refine w_getR (w := some (1, 0, 0)) ff_X10_10 rfl rfl dX10_drift_22 rfl ?_
      refine w_getI ff_X10_89 rfl rfl dX10_drift_25 ?_
      rw [show (I 1 0 0 3 : Int32) = nI (nJ a) from hc.1]
      refine w_if_le (tgt := 41) dX10_drift_28 (by decide) (fun h2 => ?_) (fun h2 => ?_)
      · skip
        replace h2 : ((nJ a : Nat) : Int) ≤ 0 := (zle (z_nI (by omega)) (by decide)).mp h2
        first
        | (exfalso; omega)
        | skip
          refine w_bipush (v := (-2)) dX10_drift_41 (by decide) ?_
          exact w_ireturn dX10_drift_43 rfl (rfl) rfl (⟨rfl, _, _, rfl, FrQ.rf⟩)
      · skip
        replace h2 : ¬ (((nJ a : Nat) : Int) ≤ 0) := fun q => h2 ((zle (z_nI (by omega)) (by decide)).mpr q)
        first
        | (exfalso; omega)
        | skip
          refine w_aload_n dX10_drift_31 rfl ?_
          refine w_getR (w := some (1, 0, 0)) ff_X10_10 rfl rfl dX10_drift_32 rfl ?_
          refine w_getI ff_X10_92 rfl rfl dX10_drift_35 ?_
          rw [show (I 1 0 0 4 : Int32) = nI (nC a) from hc.2.1]
          refine w_if_gt (tgt := 44) dX10_drift_38 (by decide) (fun h3 => ?_) (fun h3 => ?_)
          · skip
            replace h3 : 0 < ((nC a : Nat) : Int) := (zlt (by decide) (z_nI (by omega))).mp h3
            first
            | (exfalso; omega)
            | skip
              refine w_aload_n dX10_drift_44 rfl ?_
              refine w_getR (w := some (1, 1, 0)) ff_X10_16 rfl rfl dX10_drift_45 rfl ?_
              refine w_aload_n dX10_drift_48 rfl ?_
              refine w_getR (w := some (1, 0, 0)) ff_X10_10 rfl rfl dX10_drift_49 rfl ?_
              refine w_callV (as := [vR 1 0 0]) (st := []) (Tri.mono (c_copy (k := 1) (k2 := 0) (by decide) hw hc) (Nat.le_of_ble_eq_true rfl)) rfl rfl tg_X1_copy lk_X10_82 in_X1_copy se_X1_copy rfl dX10_drift_52 rfl (Nat.le_of_ble_eq_true rfl) (Nat.le_refl _) (Nat.le_refl _) ?_
              rintro v M9 ⟨rfl, I1, rfl, g1, g2⟩ -
              refine w_iload_n dX10_drift_55 rfl ?_
              refine w_istore (ls' := [some (vR 0 0 0), some (vI (s)), some (vI (nI n)), some (vI (1)), some (vI (s)), none, none]) dX10_drift_56 rfl ?_
              refine w_iconst (v := 0) dX10_drift_58 (by decide) ?_
              refine w_istore (ls' := [some (vR 0 0 0), some (vI (s)), some (vI (nI n)), some (vI (1)), some (vI (s)), some (vI (0)), none]) dX10_drift_59 rfl ?_
              refine l_driftC hw h1n hn hd9 hj0 hc0 (fun I9 o6 h0 h1 hf9 => ?_) n 0 I1 none (Nat.zero_add _) (g2.court (by decide) hc) g1 g2.q
              obtain ⟨k1, k2, k3, k4⟩ := drC_k hw hj0 hc0 s n (by omega)
              refine w_iload_n dX10_drift_134 rfl ?_
              refine w_if_ne (tgt := 148) dX10_drift_135 (by decide) (fun _ => ?_) (fun h => absurd h (by decide))
              refine w_aload_n dX10_drift_148 rfl ?_
              refine w_getR (w := some (1, 1, 0)) ff_X10_16 rfl rfl dX10_drift_149 rfl ?_
              refine w_callV (as := []) (st := []) (Tri.mono (c_heardBits h1 k1) (Nat.le_of_ble_eq_true rfl)) rfl rfl tg_X1_heardBits lk_X10_101 in_X1_heardBits se_X1_heardBits rfl dX10_drift_152 rfl (Nat.le_of_ble_eq_true rfl) (Nat.le_refl _) (Nat.le_refl _) ?_
              rintro _ _ ⟨rfl, rfl⟩ -
              exact w_ireturn dX10_drift_155 rfl (rfl) rfl (⟨rfl, _, _, rfl, hf9⟩)
          · skip
            replace h3 : ¬ (0 < ((nC a : Nat) : Int)) := fun q => h3 ((zlt (by decide) (z_nI (by omega))).mpr q)
            first
            | (exfalso; omega)
            | skip
              refine w_bipush (v := (-2)) dX10_drift_41 (by decide) ?_
              exact w_ireturn dX10_drift_43 rfl (rfl) rfl (⟨rfl, _, _, rfl, FrQ.rf⟩)

theorem q_drift_1 {I : xF4 Int32} {L : xF4 Int64} {a : aA} (hs : SI I a) (hw : WF a) {n : Nat} (h1n : 1 ≤ n) (hn : n ≤ 60) (hd9 : dY a ≤ 999) (hj0 : 0 < nJ a) (hc0 : 0 < nC a) {s : Int32} : Tri 19 109 m_X11_drift [vR 30 0 0, vI (s), vI (nI n), vI (1)] (rM I L) (pMq (vI (nI (heardN (drC a s n).1))) I) := by
  refine ⟨k_X11_drift, Nat.le_of_ble_eq_true rfl, ?_⟩
  show Wp _ _ _ 0 [some (vR 30 0 0), some (vI (s)), some (vI (nI n)), some (vI (1)), none, none, none, none, none] [] (rM I L) _
  obtain ⟨hJ, hC, hG, hD, hR, -⟩ := id hw
  refine w_iload_n dX11_drift_0 rfl ?_
  refine w_i2l dX11_drift_1 ?_
  refine w_lconst (v := 1) dX11_drift_2 (by decide) ?_
  refine w_ldc2 dX11_drift_3 cq_X11_207 ?_
  refine w_callS (as := [vL ((nI n : Int32).toInt64), vL (1), vL (60)]) (st := []) (Tri.mono (d_in ((nI n : Int32).toInt64) (1) (60)) (Nat.le_of_ble_eq_true rfl)) tg_X11_in lk_X11_66 sa_X11_in rfl dX11_drift_6 rfl (Nat.le_of_ble_eq_true rfl) (Nat.le_refl _) (Nat.le_refl _) ?_
  rintro _ _ ⟨rfl, rfl⟩ -
  refine w_top (y := bI (1 ≤ ((n : Nat) : Int) ∧ ((n : Nat) : Int) ≤ 60)) (show (bI ((1 : Int64) ≤ ((nI n : Int32).toInt64) ∧ ((nI n : Int32).toInt64) ≤ (60 : Int64)) : Int32) = bI (1 ≤ ((n : Nat) : Int) ∧ ((n : Nat) : Int) ≤ 60) from inZ (x := nI n) (l := 1) (h := 60) (X := ((n : Nat) : Int)) (A := 1) (B := 60) rfl (by decide) (by decide) (z_nI (by omega)) (by decide) (by decide)) ?_
  refine w_ifeq_b (tgt := 19) dX11_drift_9 (by decide) (fun h1 => ?_) (fun h1 => ?_)
  · skip
    first
    | (exfalso; omega)
    | skip
      refine w_iconst (v := (-1)) dX11_drift_19 (by decide) ?_
      exact w_ireturn dX11_drift_20 rfl (rfl) rfl (⟨rfl, _, _, rfl, FrR.rf⟩)
  · skip
    first
    | (exfalso; omega)
    | skip
      refine w_iload_n dX11_drift_12 rfl ?_
      refine w_callS (as := [vI (1)]) (st := []) (Tri.mono (d_isPart (x := 1) (X := (1 : Int)) (by decide)) (Nat.le_of_ble_eq_true rfl)) tg_X11_isPart lk_X11_245 sa_X11_isPart rfl dX11_drift_13 rfl (Nat.le_of_ble_eq_true rfl) (Nat.le_refl _) (Nat.le_refl _) ?_
      rintro _ _ ⟨rfl, rfl⟩ -
      refine w_top (y := 1) (show (bI ((0 : Int) ≤ 1 ∧ (1 : Int) ≤ 1) : Int32) = 1 from bI_t (by decide)) ?_
      refine w_if_ne (tgt := 21) dX11_drift_16 (by decide) (fun _ => ?_) (fun h => absurd h (by decide))
      refine w_aload_n dX11_drift_21 rfl ?_
      refine w_getI ff_X11_58 rfl rfl dX11_drift_22 ?_
      rw [show (I 30 0 0 3 : Int32) = nI (nJ a) from hs.1]
      refine w_if_eq (tgt := 35) dX11_drift_25 (by decide) (fun h2 => ?_) (fun h2 => ?_)
      · skip
        replace h2 : ((nJ a : Nat) : Int) = 0 := (zeq (z_nI (by omega)) (by decide)).mp h2
        first
        | (exfalso; omega)
        | skip
          refine w_bipush (v := (-2)) dX11_drift_35 (by decide) ?_
          exact w_ireturn dX11_drift_37 rfl (rfl) rfl (⟨rfl, _, _, rfl, FrR.rf⟩)
      · skip
        replace h2 : ¬ (((nJ a : Nat) : Int) = 0) := fun q => h2 ((zeq (z_nI (by omega)) (by decide)).mpr q)
        first
        | (exfalso; omega)
        | skip
          refine w_aload_n dX11_drift_28 rfl ?_
          refine w_getI ff_X11_61 rfl rfl dX11_drift_29 ?_
          rw [show (I 30 0 0 4 : Int32) = nI (nC a) from hs.2.1]
          refine w_if_ne (tgt := 38) dX11_drift_32 (by decide) (fun h3 => ?_) (fun h3 => ?_)
          · skip
            replace h3 : ¬ (((nC a : Nat) : Int) = 0) := fun q => h3 ((zeq (z_nI (by omega)) (by decide)).mpr q)
            first
            | (exfalso; omega)
            | skip
              refine w_iload_n dX11_drift_38 rfl ?_
              refine w_istore (ls' := [some (vR 30 0 0), some (vI (s)), some (vI (nI n)), some (vI (1)), some (vI (s)), none, none, none, none]) dX11_drift_39 rfl ?_
              refine w_aload_n dX11_drift_41 rfl ?_
              refine w_callV (as := []) (st := []) (Tri.mono (d_starts hs hw) (Nat.le_of_ble_eq_true rfl)) rfl rfl tg_X11_starts lk_X11_192 in_X11_starts se_X11_starts rfl dX11_drift_42 rfl (Nat.le_of_ble_eq_true rfl) (Nat.le_refl _) (Nat.le_refl _) ?_
              rintro v M9 ⟨rfl, I1, rfl, hm1, hi1, hf1⟩ -
              have hs1 := hf1.r.si hs
              refine w_iconst (v := 0) dX11_drift_45 (by decide) ?_
              refine w_istore (ls' := [some (vR 30 0 0), some (vI (s)), some (vI (nI n)), some (vI (1)), some (vI (s)), some (vI (0)), none, none, none]) dX11_drift_46 rfl ?_
              refine l_driftM hw h1n hn hd9 hj0 hc0 (fun I9 o6 o7 o8 h1 hf9 => ?_) n 0 I1 none none none (Nat.zero_add _) hm1 FrR.rf
              obtain ⟨k1, k2, k3, k4⟩ := drC_k hw hj0 hc0 s n (by omega)
              refine w_iload_n dX11_drift_141 rfl ?_
              refine w_if_ne (tgt := 155) dX11_drift_142 (by decide) (fun _ => ?_) (fun h => absurd h (by decide))
              refine w_aload_n dX11_drift_155 rfl ?_
              refine w_callV (as := []) (st := []) (Tri.mono (d_heard h1 k1) (Nat.le_of_ble_eq_true rfl)) rfl rfl tg_X11_heard lk_X11_183 in_X11_heard se_X11_heard rfl dX11_drift_156 rfl (Nat.le_of_ble_eq_true rfl) (Nat.le_refl _) (Nat.le_refl _) ?_
              rintro _ _ ⟨rfl, rfl⟩ -
              exact w_ireturn dX11_drift_159 rfl (rfl) rfl (⟨rfl, _, _, rfl, (hf1.r.tr hf9)⟩)
          · skip
            replace h3 : ((nC a : Nat) : Int) = 0 := (zeq (z_nI (by omega)) (by decide)).mp h3
            first
            | (exfalso; omega)
            | skip
              refine w_bipush (v := (-2)) dX11_drift_35 (by decide) ?_
              exact w_ireturn dX11_drift_37 rfl (rfl) rfl (⟨rfl, _, _, rfl, FrR.rf⟩)

theorem p_drift_z0 {I : xF4 Int32} {L : xF4 Int64} {a : aA} (hc : CourtIs I 0 a) (hw : WF a) {n : Nat} (h1n : 1 ≤ n) (hn : n ≤ 60) (hz : nJ a = 0 ∨ nC a = 0) {s : Int32} : Tri 19 109 m_X10_drift [vR 0 0 0, vI (s), vI (nI n), vI (0)] (rM I L) (pCq (vI (-2)) I) := by
  refine ⟨k_X10_drift, Nat.le_of_ble_eq_true rfl, ?_⟩
  show Wp _ _ _ 0 [some (vR 0 0 0), some (vI (s)), some (vI (nI n)), some (vI (0)), none, none, none] [] (rM I L) _
  obtain ⟨hJ, hC, hG, hD, hR, -⟩ := id hw
  refine w_iload_n dX10_drift_0 rfl ?_
  refine w_iconst (v := 1) dX10_drift_1 (by decide) ?_
  refine w_bipush (v := 60) dX10_drift_2 (by decide) ?_
  refine w_callS (as := [vI (nI n), vI (1), vI (60)]) (st := []) (Tri.mono (c_X10_within (nI n) (1) (60)) (Nat.le_of_ble_eq_true rfl)) tg_X10_within lk_X10_158 sa_X10_within rfl dX10_drift_4 rfl (Nat.le_of_ble_eq_true rfl) (Nat.le_refl _) (Nat.le_refl _) ?_
  rintro _ _ ⟨rfl, rfl⟩ -
  refine w_top (y := bI (1 ≤ ((n : Nat) : Int) ∧ ((n : Nat) : Int) ≤ 60)) (show (bI ((1 : Int32) ≤ (nI n) ∧ (nI n) ≤ (60 : Int32)) : Int32) = bI (1 ≤ ((n : Nat) : Int) ∧ ((n : Nat) : Int) ≤ 60) from wiZ (X := ((n : Nat) : Int)) (A := 1) (B := 60) (z_nI (by omega)) (by decide) (by decide)) ?_
  refine w_ifeq_b (tgt := 19) dX10_drift_7 (by decide) (fun h1 => ?_) (fun h1 => ?_)
  · skip
    first
    | (exfalso; omega)
    | skip
      refine w_iconst (v := (-1)) dX10_drift_19 (by decide) ?_
      exact w_ireturn dX10_drift_20 rfl (rfl) rfl (⟨rfl, _, _, rfl, FrQ.rf⟩)
  · skip
    first
    | (exfalso; omega)
    | skip
      refine w_iload_n dX10_drift_10 rfl ?_
      refine w_iconst (v := 0) dX10_drift_11 (by decide) ?_
      refine w_iconst (v := 1) dX10_drift_12 (by decide) ?_
      refine w_callS (as := [vI (0), vI (0), vI (1)]) (st := []) (Tri.mono (c_X10_within (0) (0) (1)) (Nat.le_of_ble_eq_true rfl)) tg_X10_within lk_X10_158 sa_X10_within rfl dX10_drift_13 rfl (Nat.le_of_ble_eq_true rfl) (Nat.le_refl _) (Nat.le_refl _) ?_
      rintro _ _ ⟨rfl, rfl⟩ -
      refine w_top (y := 1) (show (bI ((0 : Int32) ≤ ((0 : Int32)) ∧ ((0 : Int32)) ≤ (1 : Int32)) : Int32) = 1 from bI_t (by decide)) ?_
      refine w_if_ne (tgt := 21) dX10_drift_16 (by decide) (fun _ => ?_) (fun h => absurd h (by decide))
      refine w_aload_n dX10_drift_21 rfl ?_
      refine w_getR (w := some (1, 0, 0)) ff_X10_10 rfl rfl dX10_drift_22 rfl ?_
      refine w_getI ff_X10_89 rfl rfl dX10_drift_25 ?_
      rw [show (I 1 0 0 3 : Int32) = nI (nJ a) from hc.1]
      refine w_if_le (tgt := 41) dX10_drift_28 (by decide) (fun h2 => ?_) (fun h2 => ?_)
      · skip
        replace h2 : ((nJ a : Nat) : Int) ≤ 0 := (zle (z_nI (by omega)) (by decide)).mp h2
        first
        | (exfalso; omega)
        | skip
          refine w_bipush (v := (-2)) dX10_drift_41 (by decide) ?_
          exact w_ireturn dX10_drift_43 rfl (rfl) rfl (⟨rfl, _, _, rfl, FrQ.rf⟩)
      · skip
        replace h2 : ¬ (((nJ a : Nat) : Int) ≤ 0) := fun q => h2 ((zle (z_nI (by omega)) (by decide)).mpr q)
        first
        | (exfalso; omega)
        | skip
          refine w_aload_n dX10_drift_31 rfl ?_
          refine w_getR (w := some (1, 0, 0)) ff_X10_10 rfl rfl dX10_drift_32 rfl ?_
          refine w_getI ff_X10_92 rfl rfl dX10_drift_35 ?_
          rw [show (I 1 0 0 4 : Int32) = nI (nC a) from hc.2.1]
          refine w_if_gt (tgt := 44) dX10_drift_38 (by decide) (fun h3 => ?_) (fun h3 => ?_)
          · skip
            replace h3 : 0 < ((nC a : Nat) : Int) := (zlt (by decide) (z_nI (by omega))).mp h3
            first
            | (exfalso; omega)
            | skip
              exfalso
              omega
          · skip
            replace h3 : ¬ (0 < ((nC a : Nat) : Int)) := fun q => h3 ((zlt (by decide) (z_nI (by omega))).mpr q)
            first
            | (exfalso; omega)
            | skip
              refine w_bipush (v := (-2)) dX10_drift_41 (by decide) ?_
              exact w_ireturn dX10_drift_43 rfl (rfl) rfl (⟨rfl, _, _, rfl, FrQ.rf⟩)

theorem q_drift_z0 {I : xF4 Int32} {L : xF4 Int64} {a : aA} (hs : SI I a) (hw : WF a) {n : Nat} (h1n : 1 ≤ n) (hn : n ≤ 60) (hz : nJ a = 0 ∨ nC a = 0) {s : Int32} : Tri 19 109 m_X11_drift [vR 30 0 0, vI (s), vI (nI n), vI (0)] (rM I L) (pMq (vI (-2)) I) := by
  refine ⟨k_X11_drift, Nat.le_of_ble_eq_true rfl, ?_⟩
  show Wp _ _ _ 0 [some (vR 30 0 0), some (vI (s)), some (vI (nI n)), some (vI (0)), none, none, none, none, none] [] (rM I L) _
  obtain ⟨hJ, hC, hG, hD, hR, -⟩ := id hw
  refine w_iload_n dX11_drift_0 rfl ?_
  refine w_i2l dX11_drift_1 ?_
  refine w_lconst (v := 1) dX11_drift_2 (by decide) ?_
  refine w_ldc2 dX11_drift_3 cq_X11_207 ?_
  refine w_callS (as := [vL ((nI n : Int32).toInt64), vL (1), vL (60)]) (st := []) (Tri.mono (d_in ((nI n : Int32).toInt64) (1) (60)) (Nat.le_of_ble_eq_true rfl)) tg_X11_in lk_X11_66 sa_X11_in rfl dX11_drift_6 rfl (Nat.le_of_ble_eq_true rfl) (Nat.le_refl _) (Nat.le_refl _) ?_
  rintro _ _ ⟨rfl, rfl⟩ -
  refine w_top (y := bI (1 ≤ ((n : Nat) : Int) ∧ ((n : Nat) : Int) ≤ 60)) (show (bI ((1 : Int64) ≤ ((nI n : Int32).toInt64) ∧ ((nI n : Int32).toInt64) ≤ (60 : Int64)) : Int32) = bI (1 ≤ ((n : Nat) : Int) ∧ ((n : Nat) : Int) ≤ 60) from inZ (x := nI n) (l := 1) (h := 60) (X := ((n : Nat) : Int)) (A := 1) (B := 60) rfl (by decide) (by decide) (z_nI (by omega)) (by decide) (by decide)) ?_
  refine w_ifeq_b (tgt := 19) dX11_drift_9 (by decide) (fun h1 => ?_) (fun h1 => ?_)
  · skip
    first
    | (exfalso; omega)
    | skip
      refine w_iconst (v := (-1)) dX11_drift_19 (by decide) ?_
      exact w_ireturn dX11_drift_20 rfl (rfl) rfl (⟨rfl, _, _, rfl, FrR.rf⟩)
  · skip
    first
    | (exfalso; omega)
    | skip
      refine w_iload_n dX11_drift_12 rfl ?_
      refine w_callS (as := [vI (0)]) (st := []) (Tri.mono (d_isPart (x := 0) (X := (0 : Int)) (by decide)) (Nat.le_of_ble_eq_true rfl)) tg_X11_isPart lk_X11_245 sa_X11_isPart rfl dX11_drift_13 rfl (Nat.le_of_ble_eq_true rfl) (Nat.le_refl _) (Nat.le_refl _) ?_
      rintro _ _ ⟨rfl, rfl⟩ -
      refine w_top (y := 1) (show (bI ((0 : Int) ≤ 0 ∧ (0 : Int) ≤ 1) : Int32) = 1 from bI_t (by decide)) ?_
      refine w_if_ne (tgt := 21) dX11_drift_16 (by decide) (fun _ => ?_) (fun h => absurd h (by decide))
      refine w_aload_n dX11_drift_21 rfl ?_
      refine w_getI ff_X11_58 rfl rfl dX11_drift_22 ?_
      rw [show (I 30 0 0 3 : Int32) = nI (nJ a) from hs.1]
      refine w_if_eq (tgt := 35) dX11_drift_25 (by decide) (fun h2 => ?_) (fun h2 => ?_)
      · skip
        replace h2 : ((nJ a : Nat) : Int) = 0 := (zeq (z_nI (by omega)) (by decide)).mp h2
        first
        | (exfalso; omega)
        | skip
          refine w_bipush (v := (-2)) dX11_drift_35 (by decide) ?_
          exact w_ireturn dX11_drift_37 rfl (rfl) rfl (⟨rfl, _, _, rfl, FrR.rf⟩)
      · skip
        replace h2 : ¬ (((nJ a : Nat) : Int) = 0) := fun q => h2 ((zeq (z_nI (by omega)) (by decide)).mpr q)
        first
        | (exfalso; omega)
        | skip
          refine w_aload_n dX11_drift_28 rfl ?_
          refine w_getI ff_X11_61 rfl rfl dX11_drift_29 ?_
          rw [show (I 30 0 0 4 : Int32) = nI (nC a) from hs.2.1]
          refine w_if_ne (tgt := 38) dX11_drift_32 (by decide) (fun h3 => ?_) (fun h3 => ?_)
          · skip
            replace h3 : ¬ (((nC a : Nat) : Int) = 0) := fun q => h3 ((zeq (z_nI (by omega)) (by decide)).mpr q)
            first
            | (exfalso; omega)
            | skip
              exfalso
              omega
          · skip
            replace h3 : ((nC a : Nat) : Int) = 0 := (zeq (z_nI (by omega)) (by decide)).mp h3
            first
            | (exfalso; omega)
            | skip
              refine w_bipush (v := (-2)) dX11_drift_35 (by decide) ?_
              exact w_ireturn dX11_drift_37 rfl (rfl) rfl (⟨rfl, _, _, rfl, FrR.rf⟩)

theorem p_drift_z1 {I : xF4 Int32} {L : xF4 Int64} {a : aA} (hc : CourtIs I 0 a) (hw : WF a) {n : Nat} (h1n : 1 ≤ n) (hn : n ≤ 60) (hz : nJ a = 0 ∨ nC a = 0) {s : Int32} : Tri 19 109 m_X10_drift [vR 0 0 0, vI (s), vI (nI n), vI (1)] (rM I L) (pCq (vI (-2)) I) := by
  refine ⟨k_X10_drift, Nat.le_of_ble_eq_true rfl, ?_⟩
  show Wp _ _ _ 0 [some (vR 0 0 0), some (vI (s)), some (vI (nI n)), some (vI (1)), none, none, none] [] (rM I L) _
  obtain ⟨hJ, hC, hG, hD, hR, -⟩ := id hw
  refine w_iload_n dX10_drift_0 rfl ?_
  refine w_iconst (v := 1) dX10_drift_1 (by decide) ?_
  refine w_bipush (v := 60) dX10_drift_2 (by decide) ?_
  refine w_callS (as := [vI (nI n), vI (1), vI (60)]) (st := []) (Tri.mono (c_X10_within (nI n) (1) (60)) (Nat.le_of_ble_eq_true rfl)) tg_X10_within lk_X10_158 sa_X10_within rfl dX10_drift_4 rfl (Nat.le_of_ble_eq_true rfl) (Nat.le_refl _) (Nat.le_refl _) ?_
  rintro _ _ ⟨rfl, rfl⟩ -
  refine w_top (y := bI (1 ≤ ((n : Nat) : Int) ∧ ((n : Nat) : Int) ≤ 60)) (show (bI ((1 : Int32) ≤ (nI n) ∧ (nI n) ≤ (60 : Int32)) : Int32) = bI (1 ≤ ((n : Nat) : Int) ∧ ((n : Nat) : Int) ≤ 60) from wiZ (X := ((n : Nat) : Int)) (A := 1) (B := 60) (z_nI (by omega)) (by decide) (by decide)) ?_
  refine w_ifeq_b (tgt := 19) dX10_drift_7 (by decide) (fun h1 => ?_) (fun h1 => ?_)
  · skip
    first
    | (exfalso; omega)
    | skip
      refine w_iconst (v := (-1)) dX10_drift_19 (by decide) ?_
      exact w_ireturn dX10_drift_20 rfl (rfl) rfl (⟨rfl, _, _, rfl, FrQ.rf⟩)
  · skip
    first
    | (exfalso; omega)
    | skip
      refine w_iload_n dX10_drift_10 rfl ?_
      refine w_iconst (v := 0) dX10_drift_11 (by decide) ?_
      refine w_iconst (v := 1) dX10_drift_12 (by decide) ?_
      refine w_callS (as := [vI (1), vI (0), vI (1)]) (st := []) (Tri.mono (c_X10_within (1) (0) (1)) (Nat.le_of_ble_eq_true rfl)) tg_X10_within lk_X10_158 sa_X10_within rfl dX10_drift_13 rfl (Nat.le_of_ble_eq_true rfl) (Nat.le_refl _) (Nat.le_refl _) ?_
      rintro _ _ ⟨rfl, rfl⟩ -
      refine w_top (y := 1) (show (bI ((0 : Int32) ≤ ((1 : Int32)) ∧ ((1 : Int32)) ≤ (1 : Int32)) : Int32) = 1 from bI_t (by decide)) ?_
      refine w_if_ne (tgt := 21) dX10_drift_16 (by decide) (fun _ => ?_) (fun h => absurd h (by decide))
      refine w_aload_n dX10_drift_21 rfl ?_
      refine w_getR (w := some (1, 0, 0)) ff_X10_10 rfl rfl dX10_drift_22 rfl ?_
      refine w_getI ff_X10_89 rfl rfl dX10_drift_25 ?_
      rw [show (I 1 0 0 3 : Int32) = nI (nJ a) from hc.1]
      refine w_if_le (tgt := 41) dX10_drift_28 (by decide) (fun h2 => ?_) (fun h2 => ?_)
      · skip
        replace h2 : ((nJ a : Nat) : Int) ≤ 0 := (zle (z_nI (by omega)) (by decide)).mp h2
        first
        | (exfalso; omega)
        | skip
          refine w_bipush (v := (-2)) dX10_drift_41 (by decide) ?_
          exact w_ireturn dX10_drift_43 rfl (rfl) rfl (⟨rfl, _, _, rfl, FrQ.rf⟩)
      · skip
        replace h2 : ¬ (((nJ a : Nat) : Int) ≤ 0) := fun q => h2 ((zle (z_nI (by omega)) (by decide)).mpr q)
        first
        | (exfalso; omega)
        | skip
          refine w_aload_n dX10_drift_31 rfl ?_
          refine w_getR (w := some (1, 0, 0)) ff_X10_10 rfl rfl dX10_drift_32 rfl ?_
          refine w_getI ff_X10_92 rfl rfl dX10_drift_35 ?_
          rw [show (I 1 0 0 4 : Int32) = nI (nC a) from hc.2.1]
          refine w_if_gt (tgt := 44) dX10_drift_38 (by decide) (fun h3 => ?_) (fun h3 => ?_)
          · skip
            replace h3 : 0 < ((nC a : Nat) : Int) := (zlt (by decide) (z_nI (by omega))).mp h3
            first
            | (exfalso; omega)
            | skip
              exfalso
              omega
          · skip
            replace h3 : ¬ (0 < ((nC a : Nat) : Int)) := fun q => h3 ((zlt (by decide) (z_nI (by omega))).mpr q)
            first
            | (exfalso; omega)
            | skip
              refine w_bipush (v := (-2)) dX10_drift_41 (by decide) ?_
              exact w_ireturn dX10_drift_43 rfl (rfl) rfl (⟨rfl, _, _, rfl, FrQ.rf⟩)

theorem q_drift_z1 {I : xF4 Int32} {L : xF4 Int64} {a : aA} (hs : SI I a) (hw : WF a) {n : Nat} (h1n : 1 ≤ n) (hn : n ≤ 60) (hz : nJ a = 0 ∨ nC a = 0) {s : Int32} : Tri 19 109 m_X11_drift [vR 30 0 0, vI (s), vI (nI n), vI (1)] (rM I L) (pMq (vI (-2)) I) := by
  refine ⟨k_X11_drift, Nat.le_of_ble_eq_true rfl, ?_⟩
  show Wp _ _ _ 0 [some (vR 30 0 0), some (vI (s)), some (vI (nI n)), some (vI (1)), none, none, none, none, none] [] (rM I L) _
  obtain ⟨hJ, hC, hG, hD, hR, -⟩ := id hw
  refine w_iload_n dX11_drift_0 rfl ?_
  refine w_i2l dX11_drift_1 ?_
  refine w_lconst (v := 1) dX11_drift_2 (by decide) ?_
  refine w_ldc2 dX11_drift_3 cq_X11_207 ?_
  refine w_callS (as := [vL ((nI n : Int32).toInt64), vL (1), vL (60)]) (st := []) (Tri.mono (d_in ((nI n : Int32).toInt64) (1) (60)) (Nat.le_of_ble_eq_true rfl)) tg_X11_in lk_X11_66 sa_X11_in rfl dX11_drift_6 rfl (Nat.le_of_ble_eq_true rfl) (Nat.le_refl _) (Nat.le_refl _) ?_
  rintro _ _ ⟨rfl, rfl⟩ -
  refine w_top (y := bI (1 ≤ ((n : Nat) : Int) ∧ ((n : Nat) : Int) ≤ 60)) (show (bI ((1 : Int64) ≤ ((nI n : Int32).toInt64) ∧ ((nI n : Int32).toInt64) ≤ (60 : Int64)) : Int32) = bI (1 ≤ ((n : Nat) : Int) ∧ ((n : Nat) : Int) ≤ 60) from inZ (x := nI n) (l := 1) (h := 60) (X := ((n : Nat) : Int)) (A := 1) (B := 60) rfl (by decide) (by decide) (z_nI (by omega)) (by decide) (by decide)) ?_
  refine w_ifeq_b (tgt := 19) dX11_drift_9 (by decide) (fun h1 => ?_) (fun h1 => ?_)
  · skip
    first
    | (exfalso; omega)
    | skip
      refine w_iconst (v := (-1)) dX11_drift_19 (by decide) ?_
      exact w_ireturn dX11_drift_20 rfl (rfl) rfl (⟨rfl, _, _, rfl, FrR.rf⟩)
  · skip
    first
    | (exfalso; omega)
    | skip
      refine w_iload_n dX11_drift_12 rfl ?_
      refine w_callS (as := [vI (1)]) (st := []) (Tri.mono (d_isPart (x := 1) (X := (1 : Int)) (by decide)) (Nat.le_of_ble_eq_true rfl)) tg_X11_isPart lk_X11_245 sa_X11_isPart rfl dX11_drift_13 rfl (Nat.le_of_ble_eq_true rfl) (Nat.le_refl _) (Nat.le_refl _) ?_
      rintro _ _ ⟨rfl, rfl⟩ -
      refine w_top (y := 1) (show (bI ((0 : Int) ≤ 1 ∧ (1 : Int) ≤ 1) : Int32) = 1 from bI_t (by decide)) ?_
      refine w_if_ne (tgt := 21) dX11_drift_16 (by decide) (fun _ => ?_) (fun h => absurd h (by decide))
      refine w_aload_n dX11_drift_21 rfl ?_
      refine w_getI ff_X11_58 rfl rfl dX11_drift_22 ?_
      rw [show (I 30 0 0 3 : Int32) = nI (nJ a) from hs.1]
      refine w_if_eq (tgt := 35) dX11_drift_25 (by decide) (fun h2 => ?_) (fun h2 => ?_)
      · skip
        replace h2 : ((nJ a : Nat) : Int) = 0 := (zeq (z_nI (by omega)) (by decide)).mp h2
        first
        | (exfalso; omega)
        | skip
          refine w_bipush (v := (-2)) dX11_drift_35 (by decide) ?_
          exact w_ireturn dX11_drift_37 rfl (rfl) rfl (⟨rfl, _, _, rfl, FrR.rf⟩)
      · skip
        replace h2 : ¬ (((nJ a : Nat) : Int) = 0) := fun q => h2 ((zeq (z_nI (by omega)) (by decide)).mpr q)
        first
        | (exfalso; omega)
        | skip
          refine w_aload_n dX11_drift_28 rfl ?_
          refine w_getI ff_X11_61 rfl rfl dX11_drift_29 ?_
          rw [show (I 30 0 0 4 : Int32) = nI (nC a) from hs.2.1]
          refine w_if_ne (tgt := 38) dX11_drift_32 (by decide) (fun h3 => ?_) (fun h3 => ?_)
          · skip
            replace h3 : ¬ (((nC a : Nat) : Int) = 0) := fun q => h3 ((zeq (z_nI (by omega)) (by decide)).mpr q)
            first
            | (exfalso; omega)
            | skip
              exfalso
              omega
          · skip
            replace h3 : ((nC a : Nat) : Int) = 0 := (zeq (z_nI (by omega)) (by decide)).mp h3
            first
            | (exfalso; omega)
            | skip
              refine w_bipush (v := (-2)) dX11_drift_35 (by decide) ?_
              exact w_ireturn dX11_drift_37 rfl (rfl) rfl (⟨rfl, _, _, rfl, FrR.rf⟩)

theorem p_drift_w {I : xF4 Int32} {L : xF4 Int64} {a : aA} (hc : CourtIs I 0 a) (hw : WF a) {n : Nat} (h1n : 1 ≤ n) (hn : n ≤ 60) {s what : Int32} (hx : what.toInt < 0 ∨ ((2 : Nat) : Int) ≤ what.toInt) : Tri 19 109 m_X10_drift [vR 0 0 0, vI (s), vI (nI n), vI (what)] (rM I L) (pCq (vI (-1)) I) := by
  refine ⟨k_X10_drift, Nat.le_of_ble_eq_true rfl, ?_⟩
  show Wp _ _ _ 0 [some (vR 0 0 0), some (vI (s)), some (vI (nI n)), some (vI (what)), none, none, none] [] (rM I L) _
  obtain ⟨hJ, hC, hG, hD, hR, -⟩ := id hw
  refine w_iload_n dX10_drift_0 rfl ?_
  refine w_iconst (v := 1) dX10_drift_1 (by decide) ?_
  refine w_bipush (v := 60) dX10_drift_2 (by decide) ?_
  refine w_callS (as := [vI (nI n), vI (1), vI (60)]) (st := []) (Tri.mono (c_X10_within (nI n) (1) (60)) (Nat.le_of_ble_eq_true rfl)) tg_X10_within lk_X10_158 sa_X10_within rfl dX10_drift_4 rfl (Nat.le_of_ble_eq_true rfl) (Nat.le_refl _) (Nat.le_refl _) ?_
  rintro _ _ ⟨rfl, rfl⟩ -
  refine w_top (y := bI (1 ≤ ((n : Nat) : Int) ∧ ((n : Nat) : Int) ≤ 60)) (show (bI ((1 : Int32) ≤ (nI n) ∧ (nI n) ≤ (60 : Int32)) : Int32) = bI (1 ≤ ((n : Nat) : Int) ∧ ((n : Nat) : Int) ≤ 60) from wiZ (X := ((n : Nat) : Int)) (A := 1) (B := 60) (z_nI (by omega)) (by decide) (by decide)) ?_
  refine w_ifeq_b (tgt := 19) dX10_drift_7 (by decide) (fun h1 => ?_) (fun h1 => ?_)
  · skip
    first
    | (exfalso; omega)
    | skip
      refine w_iconst (v := (-1)) dX10_drift_19 (by decide) ?_
      exact w_ireturn dX10_drift_20 rfl (rfl) rfl (⟨rfl, _, _, rfl, FrQ.rf⟩)
  · skip
    first
    | (exfalso; omega)
    | skip
      refine w_iload_n dX10_drift_10 rfl ?_
      refine w_iconst (v := 0) dX10_drift_11 (by decide) ?_
      refine w_iconst (v := 1) dX10_drift_12 (by decide) ?_
      refine w_callS (as := [vI (what), vI (0), vI (1)]) (st := []) (Tri.mono (c_X10_within (what) (0) (1)) (Nat.le_of_ble_eq_true rfl)) tg_X10_within lk_X10_158 sa_X10_within rfl dX10_drift_13 rfl (Nat.le_of_ble_eq_true rfl) (Nat.le_refl _) (Nat.le_refl _) ?_
      rintro _ _ ⟨rfl, rfl⟩ -
      refine w_top (y := bI (0 ≤ what.toInt ∧ what.toInt ≤ 1)) (show (bI ((0 : Int32) ≤ (what) ∧ (what) ≤ (1 : Int32)) : Int32) = bI (0 ≤ what.toInt ∧ what.toInt ≤ 1) from wiZ (X := what.toInt) (A := 0) (B := 1) rfl (by decide) (by decide)) ?_
      refine w_ifne_b (tgt := 21) dX10_drift_16 (by decide) (fun h2 => ?_) (fun h2 => ?_)
      · skip
        first
        | (exfalso; omega)
        | skip
          exfalso
          omega
      · skip
        first
        | (exfalso; omega)
        | skip
          refine w_iconst (v := (-1)) dX10_drift_19 (by decide) ?_
          exact w_ireturn dX10_drift_20 rfl (rfl) rfl (⟨rfl, _, _, rfl, FrQ.rf⟩)

theorem q_drift_w {I : xF4 Int32} {L : xF4 Int64} {a : aA} (hs : SI I a) (hw : WF a) {n : Nat} (h1n : 1 ≤ n) (hn : n ≤ 60) {s what : Int32} (hx : what.toInt < 0 ∨ ((2 : Nat) : Int) ≤ what.toInt) : Tri 19 109 m_X11_drift [vR 30 0 0, vI (s), vI (nI n), vI (what)] (rM I L) (pMq (vI (-1)) I) := by
  refine ⟨k_X11_drift, Nat.le_of_ble_eq_true rfl, ?_⟩
  show Wp _ _ _ 0 [some (vR 30 0 0), some (vI (s)), some (vI (nI n)), some (vI (what)), none, none, none, none, none] [] (rM I L) _
  obtain ⟨hJ, hC, hG, hD, hR, -⟩ := id hw
  refine w_iload_n dX11_drift_0 rfl ?_
  refine w_i2l dX11_drift_1 ?_
  refine w_lconst (v := 1) dX11_drift_2 (by decide) ?_
  refine w_ldc2 dX11_drift_3 cq_X11_207 ?_
  refine w_callS (as := [vL ((nI n : Int32).toInt64), vL (1), vL (60)]) (st := []) (Tri.mono (d_in ((nI n : Int32).toInt64) (1) (60)) (Nat.le_of_ble_eq_true rfl)) tg_X11_in lk_X11_66 sa_X11_in rfl dX11_drift_6 rfl (Nat.le_of_ble_eq_true rfl) (Nat.le_refl _) (Nat.le_refl _) ?_
  rintro _ _ ⟨rfl, rfl⟩ -
  refine w_top (y := bI (1 ≤ ((n : Nat) : Int) ∧ ((n : Nat) : Int) ≤ 60)) (show (bI ((1 : Int64) ≤ ((nI n : Int32).toInt64) ∧ ((nI n : Int32).toInt64) ≤ (60 : Int64)) : Int32) = bI (1 ≤ ((n : Nat) : Int) ∧ ((n : Nat) : Int) ≤ 60) from inZ (x := nI n) (l := 1) (h := 60) (X := ((n : Nat) : Int)) (A := 1) (B := 60) rfl (by decide) (by decide) (z_nI (by omega)) (by decide) (by decide)) ?_
  refine w_ifeq_b (tgt := 19) dX11_drift_9 (by decide) (fun h1 => ?_) (fun h1 => ?_)
  · skip
    first
    | (exfalso; omega)
    | skip
      refine w_iconst (v := (-1)) dX11_drift_19 (by decide) ?_
      exact w_ireturn dX11_drift_20 rfl (rfl) rfl (⟨rfl, _, _, rfl, FrR.rf⟩)
  · skip
    first
    | (exfalso; omega)
    | skip
      refine w_iload_n dX11_drift_12 rfl ?_
      refine w_callS (as := [vI (what)]) (st := []) (Tri.mono (d_isPart (x := what) (X := what.toInt) rfl) (Nat.le_of_ble_eq_true rfl)) tg_X11_isPart lk_X11_245 sa_X11_isPart rfl dX11_drift_13 rfl (Nat.le_of_ble_eq_true rfl) (Nat.le_refl _) (Nat.le_refl _) ?_
      rintro _ _ ⟨rfl, rfl⟩ -
      refine w_ifne_b (tgt := 21) dX11_drift_16 (by decide) (fun h2 => ?_) (fun h2 => ?_)
      · skip
        first
        | (exfalso; omega)
        | skip
          exfalso
          omega
      · skip
        first
        | (exfalso; omega)
        | skip
          refine w_iconst (v := (-1)) dX11_drift_19 (by decide) ?_
          exact w_ireturn dX11_drift_20 rfl (rfl) rfl (⟨rfl, _, _, rfl, FrR.rf⟩)

theorem p_drift_n {I : xF4 Int32} {L : xF4 Int64} {a : aA} (hc : CourtIs I 0 a) (hw : WF a) {s n what : Int32} (hx : n.toInt < ((1 : Nat) : Int) ∨ ((60 : Nat) : Int) < n.toInt) : Tri 19 109 m_X10_drift [vR 0 0 0, vI (s), vI (n), vI (what)] (rM I L) (pCq (vI (-1)) I) := by
  refine ⟨k_X10_drift, Nat.le_of_ble_eq_true rfl, ?_⟩
  show Wp _ _ _ 0 [some (vR 0 0 0), some (vI (s)), some (vI (n)), some (vI (what)), none, none, none] [] (rM I L) _
  obtain ⟨hJ, hC, hG, hD, hR, -⟩ := id hw
  refine w_iload_n dX10_drift_0 rfl ?_
  refine w_iconst (v := 1) dX10_drift_1 (by decide) ?_
  refine w_bipush (v := 60) dX10_drift_2 (by decide) ?_
  refine w_callS (as := [vI (n), vI (1), vI (60)]) (st := []) (Tri.mono (c_X10_within (n) (1) (60)) (Nat.le_of_ble_eq_true rfl)) tg_X10_within lk_X10_158 sa_X10_within rfl dX10_drift_4 rfl (Nat.le_of_ble_eq_true rfl) (Nat.le_refl _) (Nat.le_refl _) ?_
  rintro _ _ ⟨rfl, rfl⟩ -
  refine w_top (y := bI (1 ≤ n.toInt ∧ n.toInt ≤ 60)) (show (bI ((1 : Int32) ≤ (n) ∧ (n) ≤ (60 : Int32)) : Int32) = bI (1 ≤ n.toInt ∧ n.toInt ≤ 60) from wiZ (X := n.toInt) (A := 1) (B := 60) rfl (by decide) (by decide)) ?_
  refine w_ifeq_b (tgt := 19) dX10_drift_7 (by decide) (fun h1 => ?_) (fun h1 => ?_)
  · skip
    first
    | (exfalso; omega)
    | skip
      refine w_iconst (v := (-1)) dX10_drift_19 (by decide) ?_
      exact w_ireturn dX10_drift_20 rfl (rfl) rfl (⟨rfl, _, _, rfl, FrQ.rf⟩)
  · skip
    first
    | (exfalso; omega)
    | skip
      refine w_iload_n dX10_drift_10 rfl ?_
      refine w_iconst (v := 0) dX10_drift_11 (by decide) ?_
      refine w_iconst (v := 1) dX10_drift_12 (by decide) ?_
      refine w_callS (as := [vI (what), vI (0), vI (1)]) (st := []) (Tri.mono (c_X10_within (what) (0) (1)) (Nat.le_of_ble_eq_true rfl)) tg_X10_within lk_X10_158 sa_X10_within rfl dX10_drift_13 rfl (Nat.le_of_ble_eq_true rfl) (Nat.le_refl _) (Nat.le_refl _) ?_
      rintro _ _ ⟨rfl, rfl⟩ -
      refine w_top (y := bI (0 ≤ what.toInt ∧ what.toInt ≤ 1)) (show (bI ((0 : Int32) ≤ (what) ∧ (what) ≤ (1 : Int32)) : Int32) = bI (0 ≤ what.toInt ∧ what.toInt ≤ 1) from wiZ (X := what.toInt) (A := 0) (B := 1) rfl (by decide) (by decide)) ?_
      refine w_ifne_b (tgt := 21) dX10_drift_16 (by decide) (fun h2 => ?_) (fun h2 => ?_)
      · skip
        first
        | (exfalso; omega)
        | skip
          exfalso
          omega
      · skip
        first
        | (exfalso; omega)
        | skip
          refine w_iconst (v := (-1)) dX10_drift_19 (by decide) ?_
          exact w_ireturn dX10_drift_20 rfl (rfl) rfl (⟨rfl, _, _, rfl, FrQ.rf⟩)

theorem q_drift_n {I : xF4 Int32} {L : xF4 Int64} {a : aA} (hs : SI I a) (hw : WF a) {s n what : Int32} (hx : n.toInt < ((1 : Nat) : Int) ∨ ((60 : Nat) : Int) < n.toInt) : Tri 19 109 m_X11_drift [vR 30 0 0, vI (s), vI (n), vI (what)] (rM I L) (pMq (vI (-1)) I) := by
  refine ⟨k_X11_drift, Nat.le_of_ble_eq_true rfl, ?_⟩
  show Wp _ _ _ 0 [some (vR 30 0 0), some (vI (s)), some (vI (n)), some (vI (what)), none, none, none, none, none] [] (rM I L) _
  obtain ⟨hJ, hC, hG, hD, hR, -⟩ := id hw
  refine w_iload_n dX11_drift_0 rfl ?_
  refine w_i2l dX11_drift_1 ?_
  refine w_lconst (v := 1) dX11_drift_2 (by decide) ?_
  refine w_ldc2 dX11_drift_3 cq_X11_207 ?_
  refine w_callS (as := [vL ((n : Int32).toInt64), vL (1), vL (60)]) (st := []) (Tri.mono (d_in ((n : Int32).toInt64) (1) (60)) (Nat.le_of_ble_eq_true rfl)) tg_X11_in lk_X11_66 sa_X11_in rfl dX11_drift_6 rfl (Nat.le_of_ble_eq_true rfl) (Nat.le_refl _) (Nat.le_refl _) ?_
  rintro _ _ ⟨rfl, rfl⟩ -
  refine w_top (y := bI (1 ≤ n.toInt ∧ n.toInt ≤ 60)) (show (bI ((1 : Int64) ≤ ((n : Int32).toInt64) ∧ ((n : Int32).toInt64) ≤ (60 : Int64)) : Int32) = bI (1 ≤ n.toInt ∧ n.toInt ≤ 60) from inZ (x := n) (l := 1) (h := 60) (X := n.toInt) (A := 1) (B := 60) rfl (by decide) (by decide) rfl (by decide) (by decide)) ?_
  refine w_ifeq_b (tgt := 19) dX11_drift_9 (by decide) (fun h1 => ?_) (fun h1 => ?_)
  · skip
    first
    | (exfalso; omega)
    | skip
      refine w_iconst (v := (-1)) dX11_drift_19 (by decide) ?_
      exact w_ireturn dX11_drift_20 rfl (rfl) rfl (⟨rfl, _, _, rfl, FrR.rf⟩)
  · skip
    first
    | (exfalso; omega)
    | skip
      refine w_iload_n dX11_drift_12 rfl ?_
      refine w_callS (as := [vI (what)]) (st := []) (Tri.mono (d_isPart (x := what) (X := what.toInt) rfl) (Nat.le_of_ble_eq_true rfl)) tg_X11_isPart lk_X11_245 sa_X11_isPart rfl dX11_drift_13 rfl (Nat.le_of_ble_eq_true rfl) (Nat.le_refl _) (Nat.le_refl _) ?_
      rintro _ _ ⟨rfl, rfl⟩ -
      refine w_ifne_b (tgt := 21) dX11_drift_16 (by decide) (fun h2 => ?_) (fun h2 => ?_)
      · skip
        first
        | (exfalso; omega)
        | skip
          exfalso
          omega
      · skip
        first
        | (exfalso; omega)
        | skip
          refine w_iconst (v := (-1)) dX11_drift_19 (by decide) ?_
          exact w_ireturn dX11_drift_20 rfl (rfl) rfl (⟨rfl, _, _, rfl, FrR.rf⟩)
