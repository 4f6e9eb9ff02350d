/-! what to ask next, both ways (by wip/whole/gen/g69.py) -/
theorem sum_1 {f : Nat → Nat} {y : Nat} (h : f y = 1) : nI (sumN f y) + 1 = nI (sumN f (y + 1)) := by rw [sumN, h]; exact nI_1 _
theorem sum_1n {f : Nat → Nat} {y : Nat} (h : f y = 1) : nI (sumN f y + 1) = nI (sumN f (y + 1)) := by rw [sumN, h]
theorem sum_0 {f : Nat → Nat} {y : Nat} (h : f y = 0) : nI (sumN f y) = nI (sumN f (y + 1)) := by rw [sumN, h, Nat.add_zero]
theorem sumN_le {f : Nat → Nat} (h : ∀ y, f y ≤ 1) : ∀ n, sumN f n ≤ n
  | 0 => Nat.le_refl _
  | n + 1 => by have := sumN_le h n; have := h n; rw [sumN]; omega
theorem maxF_le {f : Nat → Nat} {b : Nat} (h : ∀ x, f x ≤ b) : ∀ n, maxF f n ≤ b
  | 0 => Nat.zero_le _
  | n + 1 => by have := maxF_le h n; have := h n; rw [maxF]; omega
theorem if_le1 (p : Prop) [Decidable p] : (if p then 1 else 0) ≤ 1 := by split <;> omega

theorem l_leftC1 {I : xF4 Int32} {L : xF4 Int64} {kb n : Nat} (hkb : kb < 16) (hn : n ≤ 60) {x : Nat} (hx4 : x < 4) {mo : Int32} {Q : Option xV → xM → Prop} (hk : Wp 3 109 m_X10_mostLeft 57 [some (vI (nI kb)), some (vI (nI n)), some (vI (mo)), some (vI (nI x)), some (vI (nI (sumN (fun y => if kb.testBit x = true ∧ kb.testBit y = true ∧ tenN x n = tenN y n then 1 else 0) 4))), some (vI (nI 4))] [] (rM I L) Q) : ∀ (m y : Nat), y + m = 4 → Wp 3 109 m_X10_mostLeft 15 [some (vI (nI kb)), some (vI (nI n)), some (vI (mo)), some (vI (nI x)), some (vI (nI (sumN (fun y => if kb.testBit x = true ∧ kb.testBit y = true ∧ tenN x n = tenN y n then 1 else 0) y))), some (vI (nI y))] [] (rM I L) Q := by
  intro m
  induction m with
  | zero =>
    intro y hy
    have e : y = 4 := by omega
    subst e
    refine w_iload dX10_mostLeft_15 rfl ?_
    refine w_iconst (v := 4) dX10_mostLeft_17 (by decide) ?_
    refine w_icmp_ge (tgt := 57) dX10_mostLeft_18 (by decide) (fun _ => ?_) (fun h => absurd (by decide) h)
    exact hk
  | succ m ih =>
    intro y hy
    have hlt : y < 4 := by omega
    have t1 := tenN_le (kind := x) (n := n) hx4 hn
    have t2 := tenN_le (kind := y) (n := n) hlt hn
    refine w_iload dX10_mostLeft_15 rfl ?_
    refine w_iconst (v := 4) dX10_mostLeft_17 (by decide) ?_
    refine w_icmp_ge (tgt := 57) dX10_mostLeft_18 (by decide) (fun h => absurd h (nI_ge (b := 4) hlt (by omega))) (fun _ => ?_)
    refine w_iload_n dX10_mostLeft_21 rfl ?_
    refine w_iload_n dX10_mostLeft_22 rfl ?_
    refine w_ishr dX10_mostLeft_23 ?_
    refine w_iload_n dX10_mostLeft_24 rfl ?_
    refine w_iload dX10_mostLeft_25 rfl ?_
    refine w_ishr dX10_mostLeft_27 ?_
    refine w_iand dX10_mostLeft_28 ?_
    refine w_iconst (v := 1) dX10_mostLeft_29 (by decide) ?_
    refine w_iand dX10_mostLeft_30 ?_
    rw [show ((((nI kb) >>> ((nI x) &&& 31)) &&& ((nI kb) >>> ((nI y) &&& 31))) &&& (1) : Int32) = bI (kb.testBit x = true ∧ kb.testBit y = true) from tb2 _ hkb _ hx4 _ hlt]
    refine w_ifeq_b (tgt := 51) dX10_mostLeft_31 (by decide) (fun h1 => ?_) (fun h1 => ?_)
    · skip
      first
      | (exfalso; omega)
      | skip
        refine w_ls (congrArg (fun z9 : Int32 => [some (vI (nI kb)), some (vI (nI n)), some (vI (mo)), some (vI (nI x)), some (vI z9), some (vI (nI y))]) (show (nI (sumN (fun y => if kb.testBit x = true ∧ kb.testBit y = true ∧ tenN x n = tenN y n then 1 else 0) y) : Int32) = nI (sumN (fun y => if kb.testBit x = true ∧ kb.testBit y = true ∧ tenN x n = tenN y n then 1 else 0) (y + 1)) from sum_0 (f := (fun y => if kb.testBit x = true ∧ kb.testBit y = true ∧ tenN x n = tenN y n then 1 else 0)) (if_neg (fun q => by first | exact h1 ⟨q.1, q.2.1⟩ | exact h2 q.2.2)))) ?_
        refine w_iinc (v := nI (y + 1)) (ls' := [some (vI (nI kb)), some (vI (nI n)), some (vI (mo)), some (vI (nI x)), some (vI (nI (sumN (fun y => if kb.testBit x = true ∧ kb.testBit y = true ∧ tenN x n = tenN y n then 1 else 0) (y + 1)))), some (vI (nI (y + 1)))]) dX10_mostLeft_51 rfl (nI_1 _) rfl ?_
        refine w_goto (tgt := 15) dX10_mostLeft_54 (by decide) ?_
        exact ih (y + 1) (by omega)
    · skip
      first
      | (exfalso; omega)
      | skip
        refine w_iload_n dX10_mostLeft_34 rfl ?_
        refine w_iload_n dX10_mostLeft_35 rfl ?_
        refine w_callS (as := [vI (nI x), vI (nI n)]) (st := []) (Tri.mono (c_X10_tenthBy (nI x) (nI n)) (Nat.le_of_ble_eq_true rfl)) tg_X10_tenthBy lk_X10_162 sa_X10_tenthBy rfl dX10_mostLeft_36 rfl (Nat.le_of_ble_eq_true rfl) (Nat.le_refl _) (Nat.le_refl _) ?_
        rintro _ _ ⟨rfl, rfl⟩ -
        refine w_top (y := nI (tenN x n)) (show (tenI (nI x) (nI n) : Int32) = nI (tenN x n) from tenI_N (by omega) (by omega)) ?_
        refine w_iload dX10_mostLeft_39 rfl ?_
        refine w_iload_n dX10_mostLeft_41 rfl ?_
        refine w_callS (as := [vI (nI y), vI (nI n)]) (st := [vI (nI (tenN x n))]) (Tri.mono (c_X10_tenthBy (nI y) (nI n)) (Nat.le_of_ble_eq_true rfl)) tg_X10_tenthBy lk_X10_162 sa_X10_tenthBy rfl dX10_mostLeft_42 rfl (Nat.le_of_ble_eq_true rfl) (Nat.le_refl _) (Nat.le_refl _) ?_
        rintro _ _ ⟨rfl, rfl⟩ -
        refine w_top (y := nI (tenN y n)) (show (tenI (nI y) (nI n) : Int32) = nI (tenN y n) from tenI_N (by omega) (by omega)) ?_
        refine w_icmp_ne (tgt := 51) dX10_mostLeft_45 (by decide) (fun h2 => ?_) (fun h2 => ?_)
        · skip
          replace h2 : ¬ ((tenN x n) = (tenN y n)) := fun q => h2 ((nI_eq (a := tenN x n) (b := tenN y n) (by omega) (by omega)).mpr q)
          first
          | (exfalso; omega)
          | skip
            refine w_ls (congrArg (fun z9 : Int32 => [some (vI (nI kb)), some (vI (nI n)), some (vI (mo)), some (vI (nI x)), some (vI z9), some (vI (nI y))]) (show (nI (sumN (fun y => if kb.testBit x = true ∧ kb.testBit y = true ∧ tenN x n = tenN y n then 1 else 0) y) : Int32) = nI (sumN (fun y => if kb.testBit x = true ∧ kb.testBit y = true ∧ tenN x n = tenN y n then 1 else 0) (y + 1)) from sum_0 (f := (fun y => if kb.testBit x = true ∧ kb.testBit y = true ∧ tenN x n = tenN y n then 1 else 0)) (if_neg (fun q => by first | exact h1 ⟨q.1, q.2.1⟩ | exact h2 q.2.2)))) ?_
            refine w_iinc (v := nI (y + 1)) (ls' := [some (vI (nI kb)), some (vI (nI n)), some (vI (mo)), some (vI (nI x)), some (vI (nI (sumN (fun y => if kb.testBit x = true ∧ kb.testBit y = true ∧ tenN x n = tenN y n then 1 else 0) (y + 1)))), some (vI (nI (y + 1)))]) dX10_mostLeft_51 rfl (nI_1 _) rfl ?_
            refine w_goto (tgt := 15) dX10_mostLeft_54 (by decide) ?_
            exact ih (y + 1) (by omega)
        · skip
          replace h2 : (tenN x n) = (tenN y n) := (nI_eq (a := tenN x n) (b := tenN y n) (by omega) (by omega)).mp h2
          first
          | (exfalso; omega)
          | skip
            refine w_iinc (v := nI ((sumN (fun y => if kb.testBit x = true ∧ kb.testBit y = true ∧ tenN x n = tenN y n then 1 else 0) y) + 1)) (ls' := [some (vI (nI kb)), some (vI (nI n)), some (vI (mo)), some (vI (nI x)), some (vI (nI ((sumN (fun y => if kb.testBit x = true ∧ kb.testBit y = true ∧ tenN x n = tenN y n then 1 else 0) y) + 1))), some (vI (nI y))]) dX10_mostLeft_48 rfl (nI_1 _) rfl ?_
            refine w_ls (congrArg (fun z9 : Int32 => [some (vI (nI kb)), some (vI (nI n)), some (vI (mo)), some (vI (nI x)), some (vI z9), some (vI (nI y))]) (show (nI ((sumN (fun y => if kb.testBit x = true ∧ kb.testBit y = true ∧ tenN x n = tenN y n then 1 else 0) y) + 1) : Int32) = nI (sumN (fun y => if kb.testBit x = true ∧ kb.testBit y = true ∧ tenN x n = tenN y n then 1 else 0) (y + 1)) from sum_1n (f := (fun y => if kb.testBit x = true ∧ kb.testBit y = true ∧ tenN x n = tenN y n then 1 else 0)) (if_pos ⟨h1.1, h1.2, h2⟩))) ?_
            refine w_iinc (v := nI (y + 1)) (ls' := [some (vI (nI kb)), some (vI (nI n)), some (vI (mo)), some (vI (nI x)), some (vI (nI (sumN (fun y => if kb.testBit x = true ∧ kb.testBit y = true ∧ tenN x n = tenN y n then 1 else 0) (y + 1)))), some (vI (nI (y + 1)))]) dX10_mostLeft_51 rfl (nI_1 _) rfl ?_
            refine w_goto (tgt := 15) dX10_mostLeft_54 (by decide) ?_
            exact ih (y + 1) (by omega)

theorem l_leftM1 {I : xF4 Int32} {L : xF4 Int64} {kb n : Nat} (hkb : kb < 16) (hn : n ≤ 60) {x : Nat} (hx4 : x < 4) {mo : Int32} {j9 what f9 q9 : Int32} {Q : Option xV → xM → Prop} (hk : Wp 19 109 m_X11_ask 113 [some (vR 30 0 0), some (vI (j9)), some (vI (what)), some (vI (nI kb)), some (vI (f9)), some (vI (q9)), some (vI (nI n)), some (vI (mo)), some (vI (nI x)), some (vI (nI (sumN (fun y => if kb.testBit y = true ∧ tenN y n = tenN x n then 1 else 0) 4))), some (vI (nI 4))] [] (rM I L) Q) : ∀ (m y : Nat), y + m = 4 → Wp 19 109 m_X11_ask 61 [some (vR 30 0 0), some (vI (j9)), some (vI (what)), some (vI (nI kb)), some (vI (f9)), some (vI (q9)), some (vI (nI n)), some (vI (mo)), some (vI (nI x)), some (vI (nI (sumN (fun y => if kb.testBit y = true ∧ tenN y n = tenN x n then 1 else 0) y))), some (vI (nI y))] [] (rM I L) Q := by
  intro m
  induction m with
  | zero =>
    intro y hy
    have e : y = 4 := by omega
    subst e
    refine w_iload dX11_ask_61 rfl ?_
    refine w_iconst (v := 4) dX11_ask_63 (by decide) ?_
    refine w_icmp_ge (tgt := 113) dX11_ask_64 (by decide) (fun _ => ?_) (fun h => absurd (by decide) h)
    exact hk
  | succ m ih =>
    intro y hy
    have hlt : y < 4 := by omega
    have t1 := tenN_le (kind := x) (n := n) hx4 hn
    have t2 := tenN_le (kind := y) (n := n) hlt hn
    refine w_iload dX11_ask_61 rfl ?_
    refine w_iconst (v := 4) dX11_ask_63 (by decide) ?_
    refine w_icmp_ge (tgt := 113) dX11_ask_64 (by decide) (fun h => absurd h (nI_ge (b := 4) hlt (by omega))) (fun _ => ?_)
    refine w_iload dX11_ask_67 rfl ?_
    refine w_iload_n dX11_ask_69 rfl ?_
    refine w_iload dX11_ask_70 rfl ?_
    refine w_ishr dX11_ask_72 ?_
    refine w_iconst (v := 1) dX11_ask_73 (by decide) ?_
    refine w_iand dX11_ask_74 ?_
    rw [show (((nI kb) >>> ((nI y) &&& 31)) &&& (1) : Int32) = bI (kb.testBit y = true) from tb16 _ hkb _ hlt]
    refine w_iconst (v := 1) dX11_ask_75 (by decide) ?_
    refine w_icmp_ne (tgt := 100) dX11_ask_76 (by decide) (fun h1 => ?_) (fun h1 => ?_)
    · skip
      refine w_iconst (v := 0) dX11_ask_100 (by decide) ?_
      refine w_callS (as := [vI (0)]) (st := [vI (nI (sumN (fun y => if kb.testBit y = true ∧ tenN y n = tenN x n then 1 else 0) y))]) (Tri.mono (d_flag0) (Nat.le_of_ble_eq_true rfl)) tg_X11_flag lk_X11_161 sa_X11_flag rfl dX11_ask_101 rfl (Nat.le_of_ble_eq_true rfl) (Nat.le_refl _) (Nat.le_refl _) ?_
      rintro _ _ ⟨rfl, rfl⟩ -
      refine w_iadd dX11_ask_104 ?_
      refine w_top (y := nI (sumN (fun y => if kb.testBit y = true ∧ tenN y n = tenN x n then 1 else 0) (y + 1))) (show ((nI (sumN (fun y => if kb.testBit y = true ∧ tenN y n = tenN x n then 1 else 0) y)) + (0) : Int32) = nI (sumN (fun y => if kb.testBit y = true ∧ tenN y n = tenN x n then 1 else 0) (y + 1)) from by rw [Int32.add_zero]; exact sum_0 (f := (fun y => if kb.testBit y = true ∧ tenN y n = tenN x n then 1 else 0)) (if_neg (fun q => by first | exact h1 (bI_t q.1) | exact h2 q.2))) ?_
      refine w_istore (ls' := [some (vR 30 0 0), some (vI (j9)), some (vI (what)), some (vI (nI kb)), some (vI (f9)), some (vI (q9)), some (vI (nI n)), some (vI (mo)), some (vI (nI x)), some (vI (nI (sumN (fun y => if kb.testBit y = true ∧ tenN y n = tenN x n then 1 else 0) (y + 1)))), some (vI (nI y))]) dX11_ask_105 rfl ?_
      refine w_iinc (v := nI (y + 1)) (ls' := [some (vR 30 0 0), some (vI (j9)), some (vI (what)), some (vI (nI kb)), some (vI (f9)), some (vI (q9)), some (vI (nI n)), some (vI (mo)), some (vI (nI x)), some (vI (nI (sumN (fun y => if kb.testBit y = true ∧ tenN y n = tenN x n then 1 else 0) (y + 1)))), some (vI (nI (y + 1)))]) dX11_ask_107 rfl (nI_1 _) rfl ?_
      refine w_goto (tgt := 61) dX11_ask_110 (by decide) ?_
      exact ih (y + 1) (by omega)
    · skip
      refine w_iload dX11_ask_79 rfl ?_
      refine w_iload dX11_ask_81 rfl ?_
      refine w_callS (as := [vI (nI y), vI (nI n)]) (st := [vI (nI (sumN (fun y => if kb.testBit y = true ∧ tenN y n = tenN x n then 1 else 0) y))]) (Tri.mono (d_tenthBy (kind := y) (n := n) (by omega) (by omega)) (Nat.le_of_ble_eq_true rfl)) tg_X11_tenthBy lk_X11_142 sa_X11_tenthBy rfl dX11_ask_83 rfl (Nat.le_of_ble_eq_true rfl) (Nat.le_refl _) (Nat.le_refl _) ?_
      rintro _ _ ⟨rfl, rfl⟩ -
      refine w_iload dX11_ask_86 rfl ?_
      refine w_iload dX11_ask_88 rfl ?_
      refine w_callS (as := [vI (nI x), vI (nI n)]) (st := [vI (nI (tenN y n)), vI (nI (sumN (fun y => if kb.testBit y = true ∧ tenN y n = tenN x n then 1 else 0) y))]) (Tri.mono (d_tenthBy (kind := x) (n := n) (by omega) (by omega)) (Nat.le_of_ble_eq_true rfl)) tg_X11_tenthBy lk_X11_142 sa_X11_tenthBy rfl dX11_ask_90 rfl (Nat.le_of_ble_eq_true rfl) (Nat.le_refl _) (Nat.le_refl _) ?_
      rintro _ _ ⟨rfl, rfl⟩ -
      refine w_icmp_ne (tgt := 100) dX11_ask_93 (by decide) (fun h2 => ?_) (fun h2 => ?_)
      · skip
        replace h2 : ¬ ((tenN y n) = (tenN x n)) := fun q => h2 ((nI_eq (a := tenN y n) (b := tenN x n) (by omega) (by omega)).mpr q)
        first
        | (exfalso; omega)
        | skip
          refine w_iconst (v := 0) dX11_ask_100 (by decide) ?_
          refine w_callS (as := [vI (0)]) (st := [vI (nI (sumN (fun y => if kb.testBit y = true ∧ tenN y n = tenN x n then 1 else 0) y))]) (Tri.mono (d_flag0) (Nat.le_of_ble_eq_true rfl)) tg_X11_flag lk_X11_161 sa_X11_flag rfl dX11_ask_101 rfl (Nat.le_of_ble_eq_true rfl) (Nat.le_refl _) (Nat.le_refl _) ?_
          rintro _ _ ⟨rfl, rfl⟩ -
          refine w_iadd dX11_ask_104 ?_
          refine w_top (y := nI (sumN (fun y => if kb.testBit y = true ∧ tenN y n = tenN x n then 1 else 0) (y + 1))) (show ((nI (sumN (fun y => if kb.testBit y = true ∧ tenN y n = tenN x n then 1 else 0) y)) + (0) : Int32) = nI (sumN (fun y => if kb.testBit y = true ∧ tenN y n = tenN x n then 1 else 0) (y + 1)) from by rw [Int32.add_zero]; exact sum_0 (f := (fun y => if kb.testBit y = true ∧ tenN y n = tenN x n then 1 else 0)) (if_neg (fun q => by first | exact h1 (bI_t q.1) | exact h2 q.2))) ?_
          refine w_istore (ls' := [some (vR 30 0 0), some (vI (j9)), some (vI (what)), some (vI (nI kb)), some (vI (f9)), some (vI (q9)), some (vI (nI n)), some (vI (mo)), some (vI (nI x)), some (vI (nI (sumN (fun y => if kb.testBit y = true ∧ tenN y n = tenN x n then 1 else 0) (y + 1)))), some (vI (nI y))]) dX11_ask_105 rfl ?_
          refine w_iinc (v := nI (y + 1)) (ls' := [some (vR 30 0 0), some (vI (j9)), some (vI (what)), some (vI (nI kb)), some (vI (f9)), some (vI (q9)), some (vI (nI n)), some (vI (mo)), some (vI (nI x)), some (vI (nI (sumN (fun y => if kb.testBit y = true ∧ tenN y n = tenN x n then 1 else 0) (y + 1)))), some (vI (nI (y + 1)))]) dX11_ask_107 rfl (nI_1 _) rfl ?_
          refine w_goto (tgt := 61) dX11_ask_110 (by decide) ?_
          exact ih (y + 1) (by omega)
      · skip
        replace h2 : (tenN y n) = (tenN x n) := (nI_eq (a := tenN y n) (b := tenN x n) (by omega) (by omega)).mp h2
        first
        | (exfalso; omega)
        | skip
          refine w_iconst (v := 1) dX11_ask_96 (by decide) ?_
          refine w_goto (tgt := 101) dX11_ask_97 (by decide) ?_
          refine w_callS (as := [vI (1)]) (st := [vI (nI (sumN (fun y => if kb.testBit y = true ∧ tenN y n = tenN x n then 1 else 0) y))]) (Tri.mono (d_flag1) (Nat.le_of_ble_eq_true rfl)) tg_X11_flag lk_X11_161 sa_X11_flag rfl dX11_ask_101 rfl (Nat.le_of_ble_eq_true rfl) (Nat.le_refl _) (Nat.le_refl _) ?_
          rintro _ _ ⟨rfl, rfl⟩ -
          refine w_iadd dX11_ask_104 ?_
          refine w_top (y := nI (sumN (fun y => if kb.testBit y = true ∧ tenN y n = tenN x n then 1 else 0) (y + 1))) (show ((nI (sumN (fun y => if kb.testBit y = true ∧ tenN y n = tenN x n then 1 else 0) y)) + (1) : Int32) = nI (sumN (fun y => if kb.testBit y = true ∧ tenN y n = tenN x n then 1 else 0) (y + 1)) from sum_1 (f := (fun y => if kb.testBit y = true ∧ tenN y n = tenN x n then 1 else 0)) (if_pos ⟨bI_1.mp h1, h2⟩)) ?_
          refine w_istore (ls' := [some (vR 30 0 0), some (vI (j9)), some (vI (what)), some (vI (nI kb)), some (vI (f9)), some (vI (q9)), some (vI (nI n)), some (vI (mo)), some (vI (nI x)), some (vI (nI (sumN (fun y => if kb.testBit y = true ∧ tenN y n = tenN x n then 1 else 0) (y + 1)))), some (vI (nI y))]) dX11_ask_105 rfl ?_
          refine w_iinc (v := nI (y + 1)) (ls' := [some (vR 30 0 0), some (vI (j9)), some (vI (what)), some (vI (nI kb)), some (vI (f9)), some (vI (q9)), some (vI (nI n)), some (vI (mo)), some (vI (nI x)), some (vI (nI (sumN (fun y => if kb.testBit y = true ∧ tenN y n = tenN x n then 1 else 0) (y + 1)))), some (vI (nI (y + 1)))]) dX11_ask_107 rfl (nI_1 _) rfl ?_
          refine w_goto (tgt := 61) dX11_ask_110 (by decide) ?_
          exact ih (y + 1) (by omega)

theorem l_leftC2 {I : xF4 Int32} {L : xF4 Int64} {kb n : Nat} (hkb : kb < 16) (hn : n ≤ 60) {Q : Option xV → xM → Prop} (hk : ∀ (oa ob : Option xV), Wp 3 109 m_X10_mostLeft 70 [some (vI (nI kb)), some (vI (nI n)), some (vI (nI (maxF (fun x => sumN (fun y => if kb.testBit x = true ∧ kb.testBit y = true ∧ tenN x n = tenN y n then 1 else 0) 4) 4))), some (vI (nI 4)), oa, ob] [] (rM I L) Q) : ∀ (m x : Nat) (oa ob : Option xV), x + m = 4 → Wp 3 109 m_X10_mostLeft 4 [some (vI (nI kb)), some (vI (nI n)), some (vI (nI (maxF (fun x => sumN (fun y => if kb.testBit x = true ∧ kb.testBit y = true ∧ tenN x n = tenN y n then 1 else 0) 4) x))), some (vI (nI x)), oa, ob] [] (rM I L) Q := by
  intro m
  induction m with
  | zero =>
    intro x oa ob hx
    have e : x = 4 := by omega
    subst e
    refine w_iload_n dX10_mostLeft_4 rfl ?_
    refine w_iconst (v := 4) dX10_mostLeft_5 (by decide) ?_
    refine w_icmp_ge (tgt := 70) dX10_mostLeft_6 (by decide) (fun _ => ?_) (fun h => absurd (by decide) h)
    exact hk _ _
  | succ m ih =>
    intro x oa ob hx
    have hlt : x < 4 := by omega
    have s1 := sumN_le (f := (fun y => if kb.testBit x = true ∧ kb.testBit y = true ∧ tenN x n = tenN y n then 1 else 0)) (fun y => if_le1 _) 4
    have s2 := maxF_le (f := (fun x => sumN (fun y => if kb.testBit x = true ∧ kb.testBit y = true ∧ tenN x n = tenN y n then 1 else 0) 4)) (fun x => sumN_le (fun y => if_le1 _) 4) x
    refine w_iload_n dX10_mostLeft_4 rfl ?_
    refine w_iconst (v := 4) dX10_mostLeft_5 (by decide) ?_
    refine w_icmp_ge (tgt := 70) dX10_mostLeft_6 (by decide) (fun h => absurd h (nI_ge (b := 4) hlt (by omega))) (fun _ => ?_)
    refine w_iconst (v := 0) dX10_mostLeft_9 (by decide) ?_
    refine w_istore (ls' := [some (vI (nI kb)), some (vI (nI n)), some (vI (nI (maxF (fun x => sumN (fun y => if kb.testBit x = true ∧ kb.testBit y = true ∧ tenN x n = tenN y n then 1 else 0) 4) x))), some (vI (nI x)), some (vI (0)), ob]) dX10_mostLeft_10 rfl ?_
    refine w_iconst (v := 0) dX10_mostLeft_12 (by decide) ?_
    refine w_istore (ls' := [some (vI (nI kb)), some (vI (nI n)), some (vI (nI (maxF (fun x => sumN (fun y => if kb.testBit x = true ∧ kb.testBit y = true ∧ tenN x n = tenN y n then 1 else 0) 4) x))), some (vI (nI x)), some (vI (0)), some (vI (0))]) dX10_mostLeft_13 rfl ?_
    refine l_leftC1 hkb hn hlt ?_ 4 0 rfl
    refine w_iload_n dX10_mostLeft_57 rfl ?_
    refine w_iload dX10_mostLeft_58 rfl ?_
    refine w_max mm_X10_335 mm_max_sta mm_ini mm_max_code (by decide) (Nat.le_of_ble_eq_true rfl) dX10_mostLeft_60 ?_
    refine w_top (y := nI (maxF (fun x => sumN (fun y => if kb.testBit x = true ∧ kb.testBit y = true ∧ tenN x n = tenN y n then 1 else 0) 4) (x + 1))) (show (if (nI (maxF (fun x => sumN (fun y => if kb.testBit x = true ∧ kb.testBit y = true ∧ tenN x n = tenN y n then 1 else 0) 4) x)) < (nI (sumN (fun y => if kb.testBit x = true ∧ kb.testBit y = true ∧ tenN x n = tenN y n then 1 else 0) 4)) then (nI (sumN (fun y => if kb.testBit x = true ∧ kb.testBit y = true ∧ tenN x n = tenN y n then 1 else 0) 4)) else (nI (maxF (fun x => sumN (fun y => if kb.testBit x = true ∧ kb.testBit y = true ∧ tenN x n = tenN y n then 1 else 0) 4) x)) : Int32) = nI (maxF (fun x => sumN (fun y => if kb.testBit x = true ∧ kb.testBit y = true ∧ tenN x n = tenN y n then 1 else 0) 4) (x + 1)) from maxI_N (x := maxF (fun x => sumN (fun y => if kb.testBit x = true ∧ kb.testBit y = true ∧ tenN x n = tenN y n then 1 else 0) 4) x) (y := sumN (fun y => if kb.testBit x = true ∧ kb.testBit y = true ∧ tenN x n = tenN y n then 1 else 0) 4) (by omega) (by omega)) ?_
    refine w_istore_n (ls' := [some (vI (nI kb)), some (vI (nI n)), some (vI (nI (maxF (fun x => sumN (fun y => if kb.testBit x = true ∧ kb.testBit y = true ∧ tenN x n = tenN y n then 1 else 0) 4) (x + 1)))), some (vI (nI x)), some (vI (nI (sumN (fun y => if kb.testBit x = true ∧ kb.testBit y = true ∧ tenN x n = tenN y n then 1 else 0) 4))), some (vI (nI 4))]) dX10_mostLeft_63 rfl ?_
    refine w_iinc (v := nI (x + 1)) (ls' := [some (vI (nI kb)), some (vI (nI n)), some (vI (nI (maxF (fun x => sumN (fun y => if kb.testBit x = true ∧ kb.testBit y = true ∧ tenN x n = tenN y n then 1 else 0) 4) (x + 1)))), some (vI (nI (x + 1))), some (vI (nI (sumN (fun y => if kb.testBit x = true ∧ kb.testBit y = true ∧ tenN x n = tenN y n then 1 else 0) 4))), some (vI (nI 4))]) dX10_mostLeft_64 rfl (nI_1 _) rfl ?_
    refine w_goto (tgt := 4) dX10_mostLeft_67 (by decide) ?_
    exact ih (x + 1) _ _ (by omega)

theorem l_leftM2 {I : xF4 Int32} {L : xF4 Int64} {kb n : Nat} (hkb : kb < 16) (hn : n ≤ 60) {j9 what f9 q9 : Int32} {Q : Option xV → xM → Prop} (hk : ∀ (oa ob : Option xV), Wp 19 109 m_X11_ask 135 [some (vR 30 0 0), some (vI (j9)), some (vI (what)), some (vI (nI kb)), some (vI (f9)), some (vI (q9)), some (vI (nI n)), some (vI (nI (maxF (fun x => sumN (fun y => if kb.testBit y = true ∧ tenN y n = tenN x n then 1 else 0) 4) 4))), some (vI (nI 4)), oa, ob] [] (rM I L) Q) : ∀ (m x : Nat) (oa ob : Option xV), x + m = 4 → Wp 19 109 m_X11_ask 49 [some (vR 30 0 0), some (vI (j9)), some (vI (what)), some (vI (nI kb)), some (vI (f9)), some (vI (q9)), some (vI (nI n)), some (vI (nI (maxF (fun x => sumN (fun y => if kb.testBit y = true ∧ tenN y n = tenN x n then 1 else 0) 4) x))), some (vI (nI x)), oa, ob] [] (rM I L) Q := by
  intro m
  induction m with
  | zero =>
    intro x oa ob hx
    have e : x = 4 := by omega
    subst e
    refine w_iload dX11_ask_49 rfl ?_
    refine w_iconst (v := 4) dX11_ask_51 (by decide) ?_
    refine w_icmp_ge (tgt := 135) dX11_ask_52 (by decide) (fun _ => ?_) (fun h => absurd (by decide) h)
    exact hk _ _
  | succ m ih =>
    intro x oa ob hx
    have hlt : x < 4 := by omega
    have s1 := sumN_le (f := (fun y => if kb.testBit y = true ∧ tenN y n = tenN x n then 1 else 0)) (fun y => if_le1 _) 4
    have s2 := maxF_le (f := (fun x => sumN (fun y => if kb.testBit y = true ∧ tenN y n = tenN x n then 1 else 0) 4)) (fun x => sumN_le (fun y => if_le1 _) 4) x
    refine w_iload dX11_ask_49 rfl ?_
    refine w_iconst (v := 4) dX11_ask_51 (by decide) ?_
    refine w_icmp_ge (tgt := 135) dX11_ask_52 (by decide) (fun h => absurd h (nI_ge (b := 4) hlt (by omega))) (fun _ => ?_)
    refine w_iconst (v := 0) dX11_ask_55 (by decide) ?_
    refine w_istore (ls' := [some (vR 30 0 0), some (vI (j9)), some (vI (what)), some (vI (nI kb)), some (vI (f9)), some (vI (q9)), some (vI (nI n)), some (vI (nI (maxF (fun x => sumN (fun y => if kb.testBit y = true ∧ tenN y n = tenN x n then 1 else 0) 4) x))), some (vI (nI x)), some (vI (0)), ob]) dX11_ask_56 rfl ?_
    refine w_iconst (v := 0) dX11_ask_58 (by decide) ?_
    refine w_istore (ls' := [some (vR 30 0 0), some (vI (j9)), some (vI (what)), some (vI (nI kb)), some (vI (f9)), some (vI (q9)), some (vI (nI n)), some (vI (nI (maxF (fun x => sumN (fun y => if kb.testBit y = true ∧ tenN y n = tenN x n then 1 else 0) 4) x))), some (vI (nI x)), some (vI (0)), some (vI (0))]) dX11_ask_59 rfl ?_
    refine l_leftM1 hkb hn hlt ?_ 4 0 rfl
    refine w_iload dX11_ask_113 rfl ?_
    refine w_iload dX11_ask_115 rfl ?_
    refine w_icmp_le (tgt := 125) dX11_ask_117 (by decide) (fun h1 => ?_) (fun h1 => ?_)
    · skip
      replace h1 : (sumN (fun y => if kb.testBit y = true ∧ tenN y n = tenN x n then 1 else 0) 4) ≤ (maxF (fun x => sumN (fun y => if kb.testBit y = true ∧ tenN y n = tenN x n then 1 else 0) 4) x) := (nI_leI (a := sumN (fun y => if kb.testBit y = true ∧ tenN y n = tenN x n then 1 else 0) 4) (b := maxF (fun x => sumN (fun y => if kb.testBit y = true ∧ tenN y n = tenN x n then 1 else 0) 4) x) (by omega) (by omega)).mp h1
      first
      | (exfalso; omega)
      | skip
        refine w_iload dX11_ask_125 rfl ?_
        refine w_top (y := nI (maxF (fun x => sumN (fun y => if kb.testBit y = true ∧ tenN y n = tenN x n then 1 else 0) 4) (x + 1))) (show (nI (maxF (fun x => sumN (fun y => if kb.testBit y = true ∧ tenN y n = tenN x n then 1 else 0) 4) x) : Int32) = nI (maxF (fun x => sumN (fun y => if kb.testBit y = true ∧ tenN y n = tenN x n then 1 else 0) 4) (x + 1)) from congrArg nI (show _ = max (maxF (fun x => sumN (fun y => if kb.testBit y = true ∧ tenN y n = tenN x n then 1 else 0) 4) x) (sumN (fun y => if kb.testBit y = true ∧ tenN y n = tenN x n then 1 else 0) 4) by omega)) ?_
        refine w_istore (ls' := [some (vR 30 0 0), some (vI (j9)), some (vI (what)), some (vI (nI kb)), some (vI (f9)), some (vI (q9)), some (vI (nI n)), some (vI (nI (maxF (fun x => sumN (fun y => if kb.testBit y = true ∧ tenN y n = tenN x n then 1 else 0) 4) (x + 1)))), some (vI (nI x)), some (vI (nI (sumN (fun y => if kb.testBit y = true ∧ tenN y n = tenN x n then 1 else 0) 4))), some (vI (nI 4))]) dX11_ask_127 rfl ?_
        refine w_iinc (v := nI (x + 1)) (ls' := [some (vR 30 0 0), some (vI (j9)), some (vI (what)), some (vI (nI kb)), some (vI (f9)), some (vI (q9)), some (vI (nI n)), some (vI (nI (maxF (fun x => sumN (fun y => if kb.testBit y = true ∧ tenN y n = tenN x n then 1 else 0) 4) (x + 1)))), some (vI (nI (x + 1))), some (vI (nI (sumN (fun y => if kb.testBit y = true ∧ tenN y n = tenN x n then 1 else 0) 4))), some (vI (nI 4))]) dX11_ask_129 rfl (nI_1 _) rfl ?_
        refine w_goto (tgt := 49) dX11_ask_132 (by decide) ?_
        exact ih (x + 1) _ _ (by omega)
    · skip
      replace h1 : ¬ ((sumN (fun y => if kb.testBit y = true ∧ tenN y n = tenN x n then 1 else 0) 4) ≤ (maxF (fun x => sumN (fun y => if kb.testBit y = true ∧ tenN y n = tenN x n then 1 else 0) 4) x)) := fun q => h1 ((nI_leI (a := sumN (fun y => if kb.testBit y = true ∧ tenN y n = tenN x n then 1 else 0) 4) (b := maxF (fun x => sumN (fun y => if kb.testBit y = true ∧ tenN y n = tenN x n then 1 else 0) 4) x) (by omega) (by omega)).mpr q)
      first
      | (exfalso; omega)
      | skip
        refine w_iload dX11_ask_120 rfl ?_
        refine w_goto (tgt := 127) dX11_ask_122 (by decide) ?_
        refine w_top (y := nI (maxF (fun x => sumN (fun y => if kb.testBit y = true ∧ tenN y n = tenN x n then 1 else 0) 4) (x + 1))) (show (nI (sumN (fun y => if kb.testBit y = true ∧ tenN y n = tenN x n then 1 else 0) 4) : Int32) = nI (maxF (fun x => sumN (fun y => if kb.testBit y = true ∧ tenN y n = tenN x n then 1 else 0) 4) (x + 1)) from congrArg nI (show _ = max (maxF (fun x => sumN (fun y => if kb.testBit y = true ∧ tenN y n = tenN x n then 1 else 0) 4) x) (sumN (fun y => if kb.testBit y = true ∧ tenN y n = tenN x n then 1 else 0) 4) by omega)) ?_
        refine w_istore (ls' := [some (vR 30 0 0), some (vI (j9)), some (vI (what)), some (vI (nI kb)), some (vI (f9)), some (vI (q9)), some (vI (nI n)), some (vI (nI (maxF (fun x => sumN (fun y => if kb.testBit y = true ∧ tenN y n = tenN x n then 1 else 0) 4) (x + 1)))), some (vI (nI x)), some (vI (nI (sumN (fun y => if kb.testBit y = true ∧ tenN y n = tenN x n then 1 else 0) 4))), some (vI (nI 4))]) dX11_ask_127 rfl ?_
        refine w_iinc (v := nI (x + 1)) (ls' := [some (vR 30 0 0), some (vI (j9)), some (vI (what)), some (vI (nI kb)), some (vI (f9)), some (vI (q9)), some (vI (nI n)), some (vI (nI (maxF (fun x => sumN (fun y => if kb.testBit y = true ∧ tenN y n = tenN x n then 1 else 0) 4) (x + 1)))), some (vI (nI (x + 1))), some (vI (nI (sumN (fun y => if kb.testBit y = true ∧ tenN y n = tenN x n then 1 else 0) 4))), some (vI (nI 4))]) dX11_ask_129 rfl (nI_1 _) rfl ?_
        refine w_goto (tgt := 49) dX11_ask_132 (by decide) ?_
        exact ih (x + 1) _ _ (by omega)

theorem c_mostLeft {I : xF4 Int32} {L : xF4 Int64} {kb n : Nat} (hkb : kb < 16) (hn : n ≤ 60) : Tri 3 109 m_X10_mostLeft [vI (nI kb), vI (nI n)] (rM I L) (pI (nI (mlN kb n)) I L) := by
  refine ⟨k_X10_mostLeft, Nat.le_of_ble_eq_true rfl, ?_⟩
  show Wp _ _ _ 0 [some (vI (nI kb)), some (vI (nI n)), none, none, none, none] [] (rM I L) _
  refine w_iconst (v := 0) dX10_mostLeft_0 (by decide) ?_
  refine w_istore_n (ls' := [some (vI (nI kb)), some (vI (nI n)), some (vI (0)), none, none, none]) dX10_mostLeft_1 rfl ?_
  refine w_iconst (v := 0) dX10_mostLeft_2 (by decide) ?_
  refine w_istore_n (ls' := [some (vI (nI kb)), some (vI (nI n)), some (vI (0)), some (vI (0)), none, none]) dX10_mostLeft_3 rfl ?_
  refine l_leftC2 hkb hn (fun oa ob => ?_) 4 0 none none rfl
  refine w_iload_n dX10_mostLeft_70 rfl ?_
  exact w_ireturn dX10_mostLeft_71 rfl (rfl) rfl (⟨rfl, rfl⟩)

theorem l_askC {I : xF4 Int32} {L : xF4 Int64} {kb : Nat} (hkb : kb < 16) {j : Nat} {what : Int32} {Q : Option xV → xM → Prop} : ∀ (m n f : Nat) (q : Option Nat) (oa : Option xV), n + m = 61 → 1 ≤ n → f ≤ 8 → (∀ (oa : Option xV), Wp 19 109 m_X10_ask 80 [some (vR 0 0 0), some (vI (nI j)), some (vI (what)), some (vI (nI kb)), some (vI (nI (askF kb n m (f, q)).1)), some (vI (byI (askF kb n m (f, q)).2)), some (vI (nI 61)), oa] [] (rM I L) Q) → Wp 19 109 m_X10_ask 44 [some (vR 0 0 0), some (vI (nI j)), some (vI (what)), some (vI (nI kb)), some (vI (nI f)), some (vI (byI q)), some (vI (nI n)), oa] [] (rM I L) Q := by
  intro m
  induction m with
  | zero =>
    intro n f q oa hn h1 hf hk
    have e : n = 61 := by omega
    subst e
    refine w_iload dX10_ask_44 rfl ?_
    refine w_bipush (v := 60) dX10_ask_46 (by decide) ?_
    refine w_icmp_gt (tgt := 80) dX10_ask_48 (by decide) (fun _ => ?_) (fun h => absurd (by decide) h)
    exact hk _
  | succ m ih =>
    intro n f q oa hn h1 hf hk
    have hn60 : n ≤ 60 := by omega
    obtain ⟨w1, w2⟩ := mlN_ws kb hkb n (by omega)
    rw [askF] at hk
    refine w_iload dX10_ask_44 rfl ?_
    refine w_bipush (v := 60) dX10_ask_46 (by decide) ?_
    refine w_icmp_gt (tgt := 80) dX10_ask_48 (by decide) (fun h => absurd h ((fun q => absurd ((nI_ltI (a := 60) (by omega) (by omega)).mp q) (by omega)))) (fun _ => ?_)
    refine w_iload_n dX10_ask_51 rfl ?_
    refine w_iload dX10_ask_52 rfl ?_
    refine w_callS (as := [vI (nI kb), vI (nI n)]) (st := []) (Tri.mono (c_mostLeft (kb := kb) (n := n) hkb hn60) (Nat.le_of_ble_eq_true rfl)) tg_X10_mostLeft lk_X10_284 sa_X10_mostLeft rfl dX10_ask_54 rfl (Nat.le_of_ble_eq_true rfl) (Nat.le_refl _) (Nat.le_refl _) ?_
    rintro _ _ ⟨rfl, rfl⟩ -
    refine w_istore (ls' := [some (vR 0 0 0), some (vI (nI j)), some (vI (what)), some (vI (nI kb)), some (vI (nI f)), some (vI (byI q)), some (vI (nI n)), some (vI (nI (mlN kb n)))]) dX10_ask_57 rfl ?_
    refine w_iload dX10_ask_59 rfl ?_
    refine w_iload dX10_ask_61 rfl ?_
    refine w_icmp_ge (tgt := 74) dX10_ask_63 (by decide) (fun h2 => ?_) (fun h2 => ?_)
    · skip
      replace h2 : (f) ≤ (mlN kb n) := (nI_leI (a := f) (b := mlN kb n) (by omega) (by omega)).mp h2
      rw [if_neg (show ¬ mlN kb n < f by omega)] at hk
      refine w_iinc (v := nI (n + 1)) (ls' := [some (vR 0 0 0), some (vI (nI j)), some (vI (what)), some (vI (nI kb)), some (vI (nI f)), some (vI (byI q)), some (vI (nI (n + 1))), some (vI (nI (mlN kb n)))]) dX10_ask_74 rfl (nI_1 _) rfl ?_
      refine w_goto (tgt := 44) dX10_ask_77 (by decide) ?_
      exact ih (n + 1) f q (some (vI (nI (mlN kb n)))) (by omega) (by omega) (by omega) hk
    · skip
      replace h2 : ¬ ((f) ≤ (mlN kb n)) := fun q => h2 ((nI_leI (a := f) (b := mlN kb n) (by omega) (by omega)).mpr q)
      rw [if_pos (show mlN kb n < f by omega)] at hk
      refine w_iload dX10_ask_66 rfl ?_
      refine w_istore (ls' := [some (vR 0 0 0), some (vI (nI j)), some (vI (what)), some (vI (nI kb)), some (vI (nI (mlN kb n))), some (vI (byI q)), some (vI (nI n)), some (vI (nI (mlN kb n)))]) dX10_ask_68 rfl ?_
      refine w_iload dX10_ask_70 rfl ?_
      refine w_istore (ls' := [some (vR 0 0 0), some (vI (nI j)), some (vI (what)), some (vI (nI kb)), some (vI (nI (mlN kb n))), some (vI (nI n)), some (vI (nI n)), some (vI (nI (mlN kb n)))]) dX10_ask_72 rfl ?_
      refine w_iinc (v := nI (n + 1)) (ls' := [some (vR 0 0 0), some (vI (nI j)), some (vI (what)), some (vI (nI kb)), some (vI (nI (mlN kb n))), some (vI (nI n)), some (vI (nI (n + 1))), some (vI (nI (mlN kb n)))]) dX10_ask_74 rfl (nI_1 _) rfl ?_
      refine w_goto (tgt := 44) dX10_ask_77 (by decide) ?_
      exact ih (n + 1) (mlN kb n) (some n) (some (vI (nI (mlN kb n)))) (by omega) (by omega) (by omega) hk

theorem l_askM {I : xF4 Int32} {L : xF4 Int64} {kb : Nat} (hkb : kb < 16) {j : Nat} {what : Int32} {Q : Option xV → xM → Prop} : ∀ (m n f : Nat) (q : Option Nat) (oa ob oc od : Option xV), n + m = 61 → 1 ≤ n → f ≤ 8 → (∀ (oa ob oc od : Option xV), Wp 19 109 m_X11_ask 166 [some (vR 30 0 0), some (vI (nI j)), some (vI (what)), some (vI (nI kb)), some (vI (nI (askF kb n m (f, q)).1)), some (vI (byI (askF kb n m (f, q)).2)), some (vI (nI 61)), oa, ob, oc, od] [] (rM I L) Q) → Wp 19 109 m_X11_ask 36 [some (vR 30 0 0), some (vI (nI j)), some (vI (what)), some (vI (nI kb)), some (vI (nI f)), some (vI (byI q)), some (vI (nI n)), oa, ob, oc, od] [] (rM I L) Q := by
  intro m
  induction m with
  | zero =>
    intro n f q oa ob oc od hn h1 hf hk
    have e : n = 61 := by omega
    subst e
    refine w_iload dX11_ask_36 rfl ?_
    refine w_bipush (v := 60) dX11_ask_38 (by decide) ?_
    refine w_icmp_gt (tgt := 166) dX11_ask_40 (by decide) (fun _ => ?_) (fun h => absurd (by decide) h)
    exact hk _ _ _ _
  | succ m ih =>
    intro n f q oa ob oc od hn h1 hf hk
    have hn60 : n ≤ 60 := by omega
    obtain ⟨w1, w2⟩ := mlN_ws kb hkb n (by omega)
    rw [askF] at hk
    refine w_iload dX11_ask_36 rfl ?_
    refine w_bipush (v := 60) dX11_ask_38 (by decide) ?_
    refine w_icmp_gt (tgt := 166) dX11_ask_40 (by decide) (fun h => absurd h ((fun q => absurd ((nI_ltI (a := 60) (by omega) (by omega)).mp q) (by omega)))) (fun _ => ?_)
    refine w_iconst (v := 0) dX11_ask_43 (by decide) ?_
    refine w_istore (ls' := [some (vR 30 0 0), some (vI (nI j)), some (vI (what)), some (vI (nI kb)), some (vI (nI f)), some (vI (byI q)), some (vI (nI n)), some (vI (0)), ob, oc, od]) dX11_ask_44 rfl ?_
    refine w_iconst (v := 0) dX11_ask_46 (by decide) ?_
    refine w_istore (ls' := [some (vR 30 0 0), some (vI (nI j)), some (vI (what)), some (vI (nI kb)), some (vI (nI f)), some (vI (byI q)), some (vI (nI n)), some (vI (0)), some (vI (0)), oc, od]) dX11_ask_47 rfl ?_
    refine l_leftM2 hkb hn60 (fun oa ob => ?_) 4 0 _ _ rfl
    rw [show maxF (fun x => sumN (fun y => if kb.testBit y = true ∧ tenN y n = tenN x n then 1 else 0) 4) 4 = mlN kb n from w1.symm]
    refine w_iload dX11_ask_135 rfl ?_
    refine w_iload dX11_ask_137 rfl ?_
    refine w_icmp_ge (tgt := 147) dX11_ask_139 (by decide) (fun h2 => ?_) (fun h2 => ?_)
    · skip
      replace h2 : (f) ≤ (mlN kb n) := (nI_leI (a := f) (b := mlN kb n) (by omega) (by omega)).mp h2
      rw [if_neg (show ¬ mlN kb n < f by omega)] at hk
      refine w_iload dX11_ask_147 rfl ?_
      refine w_istore (ls' := [some (vR 30 0 0), some (vI (nI j)), some (vI (what)), some (vI (nI kb)), some (vI (nI f)), some (vI (byI q)), some (vI (nI n)), some (vI (nI (mlN kb n))), some (vI (nI 4)), oa, ob]) dX11_ask_149 rfl ?_
      refine w_iload dX11_ask_151 rfl ?_
      refine w_iload dX11_ask_153 rfl ?_
      refine w_callS (as := [vI (nI (mlN kb n)), vI (nI f)]) (st := []) (Tri.mono (d_lesser (mlN kb n) f (by omega) (by omega)) (Nat.le_of_ble_eq_true rfl)) tg_X11_lesser lk_X11_158 sa_X11_lesser rfl dX11_ask_155 rfl (Nat.le_of_ble_eq_true rfl) (Nat.le_refl _) (Nat.le_refl _) ?_
      rintro _ _ ⟨rfl, rfl⟩ -
      refine w_top (y := nI f) (show (nI (min (mlN kb n) f) : Int32) = nI f from congrArg nI (by omega)) ?_
      refine w_istore (ls' := [some (vR 30 0 0), some (vI (nI j)), some (vI (what)), some (vI (nI kb)), some (vI (nI f)), some (vI (byI q)), some (vI (nI n)), some (vI (nI (mlN kb n))), some (vI (nI 4)), oa, ob]) dX11_ask_158 rfl ?_
      refine w_iinc (v := nI (n + 1)) (ls' := [some (vR 30 0 0), some (vI (nI j)), some (vI (what)), some (vI (nI kb)), some (vI (nI f)), some (vI (byI q)), some (vI (nI (n + 1))), some (vI (nI (mlN kb n))), some (vI (nI 4)), oa, ob]) dX11_ask_160 rfl (nI_1 _) rfl ?_
      refine w_goto (tgt := 36) dX11_ask_163 (by decide) ?_
      exact ih (n + 1) f q (some (vI (nI (mlN kb n)))) (some (vI (nI 4))) (oa) (ob) (by omega) (by omega) (by omega) hk
    · skip
      replace h2 : ¬ ((f) ≤ (mlN kb n)) := fun q => h2 ((nI_leI (a := f) (b := mlN kb n) (by omega) (by omega)).mpr q)
      rw [if_pos (show mlN kb n < f by omega)] at hk
      refine w_iload dX11_ask_142 rfl ?_
      refine w_goto (tgt := 149) dX11_ask_144 (by decide) ?_
      refine w_top (y := byI (some n)) (show (nI n : Int32) = byI (some n) from rfl) ?_
      refine w_istore (ls' := [some (vR 30 0 0), some (vI (nI j)), some (vI (what)), some (vI (nI kb)), some (vI (nI f)), some (vI (byI (some n))), some (vI (nI n)), some (vI (nI (mlN kb n))), some (vI (nI 4)), oa, ob]) dX11_ask_149 rfl ?_
      refine w_iload dX11_ask_151 rfl ?_
      refine w_iload dX11_ask_153 rfl ?_
      refine w_callS (as := [vI (nI (mlN kb n)), vI (nI f)]) (st := []) (Tri.mono (d_lesser (mlN kb n) f (by omega) (by omega)) (Nat.le_of_ble_eq_true rfl)) tg_X11_lesser lk_X11_158 sa_X11_lesser rfl dX11_ask_155 rfl (Nat.le_of_ble_eq_true rfl) (Nat.le_refl _) (Nat.le_refl _) ?_
      rintro _ _ ⟨rfl, rfl⟩ -
      refine w_top (y := nI (mlN kb n)) (show (nI (min (mlN kb n) f) : Int32) = nI (mlN kb n) from congrArg nI (by omega)) ?_
      refine w_istore (ls' := [some (vR 30 0 0), some (vI (nI j)), some (vI (what)), some (vI (nI kb)), some (vI (nI (mlN kb n))), some (vI (byI (some n))), some (vI (nI n)), some (vI (nI (mlN kb n))), some (vI (nI 4)), oa, ob]) dX11_ask_158 rfl ?_
      refine w_iinc (v := nI (n + 1)) (ls' := [some (vR 30 0 0), some (vI (nI j)), some (vI (what)), some (vI (nI kb)), some (vI (nI (mlN kb n))), some (vI (byI (some n))), some (vI (nI (n + 1))), some (vI (nI (mlN kb n))), some (vI (nI 4)), oa, ob]) dX11_ask_160 rfl (nI_1 _) rfl ?_
      refine w_goto (tgt := 36) dX11_ask_163 (by decide) ?_
      exact ih (n + 1) (mlN kb n) (some n) (some (vI (nI (mlN kb n)))) (some (vI (nI 4))) (oa) (ob) (by omega) (by omega) (by omega) hk

theorem askF_le {kb : Nat} : ∀ (m n : Nat) (s : Nat × Option Nat), n + m = 61 → (∀ x, s.2 = some x → x ≤ 60) → ∀ x, (askF kb n m s).2 = some x → x ≤ 60
  | 0, _, s, _, h => h
  | m + 1, n, s, hn, h => by
    rw [askF]
    refine askF_le m (n + 1) _ (by omega) (fun x hx => ?_)
    split at hx
    · cases hx; omega
    · exact h x hx
/-- the answer of ask: the question, or how many are left -/
def askA (s : Nat × Option Nat) (what : Nat) : Int32 := match s.2 with
  | none => -4
  | some q => if what = 0 then nI q else nI s.1
theorem pop16 : ∀ v, v < 16 → popN v ≤ 4 := by decide +kernel

theorem p_ask_0 {I : xF4 Int32} {L : xF4 Int64} {a : aA} (hc : CourtIs I 0 a) (hw : WF a) {j : Nat} (hj : j < nJ a) : Tri 19 109 m_X10_ask [vR 0 0 0, vI (nI j), vI (0)] (rM I L) (pCq (vI (askA (askF (kindsN a j) 1 60 (popN (kindsN a j), none)) 0)) I) := by
  refine ⟨k_X10_ask, Nat.le_of_ble_eq_true rfl, ?_⟩
  show Wp _ _ _ 0 [some (vR 0 0 0), some (vI (nI j)), some (vI (0)), none, none, none, none, none] [] (rM I L) _
  obtain ⟨hJ, hC, hG, hD, hR, -⟩ := id hw
  refine w_aload_n dX10_ask_0 rfl ?_
  refine w_getR (w := some (1, 0, 0)) ff_X10_10 rfl rfl dX10_ask_1 rfl ?_
  refine w_iload_n dX10_ask_4 rfl ?_
  refine w_callV (as := [vI (nI j)]) (st := []) (Tri.mono (c_jAt hc hw hj) (Nat.le_of_ble_eq_true rfl)) rfl rfl tg_X1_judgeAt lk_X10_111 in_X1_judgeAt se_X1_judgeAt rfl dX10_ask_5 rfl (Nat.le_of_ble_eq_true rfl) (Nat.le_refl _) (Nat.le_refl _) ?_
  rintro _ _ ⟨rfl, rfl⟩ -
  refine w_ifnull (tgt := 20) dX10_ask_8 (by decide) (fun h => by cases h) (fun _ _ => ?_)
  refine w_iload_n dX10_ask_11 rfl ?_
  refine w_iconst (v := 0) dX10_ask_12 (by decide) ?_
  refine w_iconst (v := 1) dX10_ask_13 (by decide) ?_
  refine w_callS (as := [vI (0), vI (0), vI (1)]) (st := []) (Tri.mono (c_X10_within (0) (0) (1)) (Nat.le_of_ble_eq_true rfl)) tg_X10_within lk_X10_158 sa_X10_within rfl dX10_ask_14 rfl (Nat.le_of_ble_eq_true rfl) (Nat.le_refl _) (Nat.le_refl _) ?_
  rintro _ _ ⟨rfl, rfl⟩ -
  refine w_top (y := 1) (show (bI ((0 : Int32) ≤ ((0 : Int32)) ∧ ((0 : Int32)) ≤ (1 : Int32)) : Int32) = 1 from bI_t (by decide)) ?_
  refine w_if_ne (tgt := 22) dX10_ask_17 (by decide) (fun _ => ?_) (fun h => absurd h (by decide))
  refine w_aload_n dX10_ask_22 rfl ?_
  refine w_getR (w := some (1, 0, 0)) ff_X10_10 rfl rfl dX10_ask_23 rfl ?_
  refine w_iload_n dX10_ask_26 rfl ?_
  refine w_callS (as := [vR 1 0 0, vI (nI j)]) (st := []) (Tri.mono (c_kindsOf hc hw (j := j) (by omega)) (Nat.le_of_ble_eq_true rfl)) tg_X0_kindsOf lk_X10_273 sa_X0_kindsOf rfl dX10_ask_27 rfl (Nat.le_of_ble_eq_true rfl) (Nat.le_refl _) (Nat.le_refl _) ?_
  rintro _ _ ⟨rfl, rfl⟩ -
  refine w_istore_n (ls' := [some (vR 0 0 0), some (vI (nI j)), some (vI (0)), some (vI (nI (kindsN a j))), none, none, none, none]) dX10_ask_30 rfl ?_
  refine w_iload_n dX10_ask_31 rfl ?_
  refine w_callS (as := [vI (nI (kindsN a j))]) (st := []) (Tri.mono (c_bitCount (nI (kindsN a j))) (Nat.le_of_ble_eq_true rfl)) tg_J6_bitCount_0f7a4 lk_X10_208 sa_J6_bitCount_0f7a4 rfl dX10_ask_32 rfl (Nat.le_of_ble_eq_true rfl) (Nat.le_refl _) (Nat.le_refl _) ?_
  rintro _ _ ⟨rfl, rfl⟩ -
  refine w_top (y := nI (popN (kindsN a j))) (show (bcI (nI (kindsN a j)) : Int32) = nI (popN (kindsN a j)) from bcI_N0 _ (Nat.lt_of_lt_of_le (kindsN_lt _ _) (by decide))) ?_
  refine w_istore (ls' := [some (vR 0 0 0), some (vI (nI j)), some (vI (0)), some (vI (nI (kindsN a j))), some (vI (nI (popN (kindsN a j)))), none, none, none]) dX10_ask_35 rfl ?_
  refine w_bipush (v := (-4)) dX10_ask_37 (by decide) ?_
  refine w_istore (ls' := [some (vR 0 0 0), some (vI (nI j)), some (vI (0)), some (vI (nI (kindsN a j))), some (vI (nI (popN (kindsN a j)))), some (vI ((-4))), none, none]) dX10_ask_39 rfl ?_
  refine w_iconst (v := 1) dX10_ask_41 (by decide) ?_
  refine w_istore (ls' := [some (vR 0 0 0), some (vI (nI j)), some (vI (0)), some (vI (nI (kindsN a j))), some (vI (nI (popN (kindsN a j)))), some (vI ((-4))), some (vI (1)), none]) dX10_ask_42 rfl ?_
  refine l_askC (kindsN_lt a j) 60 1 (popN (kindsN a j)) none none rfl (by decide) (by have := pop16 _ (kindsN_lt a j); omega) (fun oa => ?_)
  have hq60 := askF_le (kb := kindsN a j) 60 1 (popN (kindsN a j), none) rfl (fun x hx => by cases hx)
  obtain ⟨f8, hf8⟩ : ∃ f, f = (askF (kindsN a j) 1 60 (popN (kindsN a j), none)).1 := ⟨_, rfl⟩
  rw [← hf8]
  unfold askA
  cases hq : (askF (kindsN a j) 1 60 (popN (kindsN a j), none)).2 with
  | none =>
    rw [show byI (none) = (-4) from rfl]
    refine w_iload dX10_ask_80 rfl ?_
    refine w_bipush (v := (-4)) dX10_ask_82 (by decide) ?_
    refine w_icmp_eq (tgt := 91) dX10_ask_84 (by decide) (fun _ => ?_) (fun h => absurd ((rfl : (-4 : Int32) = -4)) h)
    refine w_iload dX10_ask_91 rfl ?_
    refine w_goto (tgt := 98) dX10_ask_93 (by decide) ?_
    exact w_ireturn dX10_ask_98 rfl (rfl) rfl (⟨rfl, _, _, rfl, FrQ.rf⟩)
  | some x =>
    rw [show byI (some x) = nI x from rfl]
    have hx60 := hq60 x hq
    refine w_iload dX10_ask_80 rfl ?_
    refine w_bipush (v := (-4)) dX10_ask_82 (by decide) ?_
    refine w_icmp_eq (tgt := 91) dX10_ask_84 (by decide) (fun h => absurd h (nI_m4b x (by omega))) (fun _ => ?_)
    refine w_iload_n dX10_ask_87 rfl ?_
    refine w_if_ne (tgt := 96) dX10_ask_88 (by decide) (fun h => absurd (by decide) h) (fun _ => ?_)
    refine w_iload dX10_ask_91 rfl ?_
    refine w_goto (tgt := 98) dX10_ask_93 (by decide) ?_
    exact w_ireturn dX10_ask_98 rfl (rfl) rfl (⟨rfl, _, _, rfl, FrQ.rf⟩)

theorem q_ask_0 {I : xF4 Int32} {L : xF4 Int64} {a : aA} (hs : SI I a) (hw : WF a) {j : Nat} (hj : j < nJ a) : Tri 19 109 m_X11_ask [vR 30 0 0, vI (nI j), vI (0)] (rM I L) (pMq (vI (askA (askF (kindsN a j) 1 60 (popN (kindsN a j), none)) 0)) I) := by
  refine ⟨k_X11_ask, Nat.le_of_ble_eq_true rfl, ?_⟩
  show Wp _ _ _ 0 [some (vR 30 0 0), some (vI (nI j)), some (vI (0)), none, none, none, none, none, none, none, none] [] (rM I L) _
  obtain ⟨hJ, hC, hG, hD, hR, -⟩ := id hw
  refine w_aload_n dX11_ask_0 rfl ?_
  refine w_iload_n dX11_ask_1 rfl ?_
  refine w_callV (as := [vI (nI j)]) (st := []) (Tri.mono (d_isJudge (hs.1) (by omega) (x := nI j) (X := ((j : Nat) : Int)) (z_nI (by omega))) (Nat.le_of_ble_eq_true rfl)) rfl rfl tg_X11_isJudge lk_X11_198 in_X11_isJudge se_X11_isJudge rfl dX11_ask_2 rfl (Nat.le_of_ble_eq_true rfl) (Nat.le_refl _) (Nat.le_refl _) ?_
  rintro _ _ ⟨rfl, rfl⟩ -
  refine w_ifeq_b (tgt := 15) dX11_ask_5 (by decide) (fun h1 => ?_) (fun h1 => ?_)
  · skip
    first
    | (exfalso; omega)
    | skip
      refine w_iconst (v := (-1)) dX11_ask_15 (by decide) ?_
      exact w_ireturn dX11_ask_16 rfl (rfl) rfl (⟨rfl, _, _, rfl, FrR.rf⟩)
  · skip
    first
    | (exfalso; omega)
    | skip
      refine w_iload_n dX11_ask_8 rfl ?_
      refine w_callS (as := [vI (0)]) (st := []) (Tri.mono (d_isPart (x := 0) (X := (0 : Int)) (by decide)) (Nat.le_of_ble_eq_true rfl)) tg_X11_isPart lk_X11_245 sa_X11_isPart rfl dX11_ask_9 rfl (Nat.le_of_ble_eq_true rfl) (Nat.le_refl _) (Nat.le_refl _) ?_
      rintro _ _ ⟨rfl, rfl⟩ -
      refine w_top (y := 1) (show (bI ((0 : Int) ≤ 0 ∧ (0 : Int) ≤ 1) : Int32) = 1 from bI_t (by decide)) ?_
      refine w_if_ne (tgt := 17) dX11_ask_12 (by decide) (fun _ => ?_) (fun h => absurd h (by decide))
      refine w_aload_n dX11_ask_17 rfl ?_
      refine w_iload_n dX11_ask_18 rfl ?_
      refine w_callV (as := [vI (nI j)]) (st := []) (Tri.mono (d_kindsOf hs hw (j := j) (by omega)) (Nat.le_of_ble_eq_true rfl)) rfl rfl tg_X11_kindsOf lk_X11_284 in_X11_kindsOf se_X11_kindsOf rfl dX11_ask_19 rfl (Nat.le_of_ble_eq_true rfl) (Nat.le_refl _) (Nat.le_refl _) ?_
      rintro _ _ ⟨rfl, rfl⟩ -
      refine w_istore_n (ls' := [some (vR 30 0 0), some (vI (nI j)), some (vI (0)), some (vI (nI (kindsN a j))), none, none, none, none, none, none, none]) dX11_ask_22 rfl ?_
      refine w_iload_n dX11_ask_23 rfl ?_
      refine w_callS (as := [vI (nI (kindsN a j))]) (st := []) (Tri.mono (d_bitsOf (v := kindsN a j) (Nat.lt_of_lt_of_le (kindsN_lt _ _) (by decide))) (Nat.le_of_ble_eq_true rfl)) tg_X11_bitsOf lk_X11_186 sa_X11_bitsOf rfl dX11_ask_24 rfl (Nat.le_of_ble_eq_true rfl) (Nat.le_refl _) (Nat.le_refl _) ?_
      rintro _ _ ⟨rfl, rfl⟩ -
      refine w_istore (ls' := [some (vR 30 0 0), some (vI (nI j)), some (vI (0)), some (vI (nI (kindsN a j))), some (vI (nI (popN (kindsN a j)))), none, none, none, none, none, none]) dX11_ask_27 rfl ?_
      refine w_bipush (v := (-4)) dX11_ask_29 (by decide) ?_
      refine w_istore (ls' := [some (vR 30 0 0), some (vI (nI j)), some (vI (0)), some (vI (nI (kindsN a j))), some (vI (nI (popN (kindsN a j)))), some (vI ((-4))), none, none, none, none, none]) dX11_ask_31 rfl ?_
      refine w_iconst (v := 1) dX11_ask_33 (by decide) ?_
      refine w_istore (ls' := [some (vR 30 0 0), some (vI (nI j)), some (vI (0)), some (vI (nI (kindsN a j))), some (vI (nI (popN (kindsN a j)))), some (vI ((-4))), some (vI (1)), none, none, none, none]) dX11_ask_34 rfl ?_
      refine l_askM (kindsN_lt a j) 60 1 (popN (kindsN a j)) none none none none none rfl (by decide) (by have := pop16 _ (kindsN_lt a j); omega) (fun oa ob oc od => ?_)
      have hq60 := askF_le (kb := kindsN a j) 60 1 (popN (kindsN a j), none) rfl (fun x hx => by cases hx)
      obtain ⟨f8, hf8⟩ : ∃ f, f = (askF (kindsN a j) 1 60 (popN (kindsN a j), none)).1 := ⟨_, rfl⟩
      rw [← hf8]
      unfold askA
      cases hq : (askF (kindsN a j) 1 60 (popN (kindsN a j), none)).2 with
      | none =>
        rw [show byI (none) = (-4) from rfl]
        refine w_iload dX11_ask_166 rfl ?_
        refine w_bipush (v := (-4)) dX11_ask_168 (by decide) ?_
        refine w_icmp_ne (tgt := 178) dX11_ask_170 (by decide) (fun h => absurd ((rfl : (-4 : Int32) = -4)) h) (fun _ => ?_)
        refine w_bipush (v := (-4)) dX11_ask_173 (by decide) ?_
        refine w_goto (tgt := 189) dX11_ask_175 (by decide) ?_
        exact w_ireturn dX11_ask_189 rfl (rfl) rfl (⟨rfl, _, _, rfl, FrR.rf⟩)
      | some x =>
        rw [show byI (some x) = nI x from rfl]
        have hx60 := hq60 x hq
        refine w_iload dX11_ask_166 rfl ?_
        refine w_bipush (v := (-4)) dX11_ask_168 (by decide) ?_
        refine w_icmp_ne (tgt := 178) dX11_ask_170 (by decide) (fun _ => ?_) (fun h => absurd h (nI_m4b x (by omega)))
        refine w_iload_n dX11_ask_178 rfl ?_
        refine w_if_ne (tgt := 187) dX11_ask_179 (by decide) (fun h => absurd (by decide) h) (fun _ => ?_)
        refine w_iload dX11_ask_182 rfl ?_
        refine w_goto (tgt := 189) dX11_ask_184 (by decide) ?_
        exact w_ireturn dX11_ask_189 rfl (rfl) rfl (⟨rfl, _, _, rfl, FrR.rf⟩)

theorem p_ask_1 {I : xF4 Int32} {L : xF4 Int64} {a : aA} (hc : CourtIs I 0 a) (hw : WF a) {j : Nat} (hj : j < nJ a) : Tri 19 109 m_X10_ask [vR 0 0 0, vI (nI j), vI (1)] (rM I L) (pCq (vI (askA (askF (kindsN a j) 1 60 (popN (kindsN a j), none)) 1)) I) := by
  refine ⟨k_X10_ask, Nat.le_of_ble_eq_true rfl, ?_⟩
  show Wp _ _ _ 0 [some (vR 0 0 0), some (vI (nI j)), some (vI (1)), none, none, none, none, none] [] (rM I L) _
  obtain ⟨hJ, hC, hG, hD, hR, -⟩ := id hw
  refine w_aload_n dX10_ask_0 rfl ?_
  refine w_getR (w := some (1, 0, 0)) ff_X10_10 rfl rfl dX10_ask_1 rfl ?_
  refine w_iload_n dX10_ask_4 rfl ?_
  refine w_callV (as := [vI (nI j)]) (st := []) (Tri.mono (c_jAt hc hw hj) (Nat.le_of_ble_eq_true rfl)) rfl rfl tg_X1_judgeAt lk_X10_111 in_X1_judgeAt se_X1_judgeAt rfl dX10_ask_5 rfl (Nat.le_of_ble_eq_true rfl) (Nat.le_refl _) (Nat.le_refl _) ?_
  rintro _ _ ⟨rfl, rfl⟩ -
  refine w_ifnull (tgt := 20) dX10_ask_8 (by decide) (fun h => by cases h) (fun _ _ => ?_)
  refine w_iload_n dX10_ask_11 rfl ?_
  refine w_iconst (v := 0) dX10_ask_12 (by decide) ?_
  refine w_iconst (v := 1) dX10_ask_13 (by decide) ?_
  refine w_callS (as := [vI (1), vI (0), vI (1)]) (st := []) (Tri.mono (c_X10_within (1) (0) (1)) (Nat.le_of_ble_eq_true rfl)) tg_X10_within lk_X10_158 sa_X10_within rfl dX10_ask_14 rfl (Nat.le_of_ble_eq_true rfl) (Nat.le_refl _) (Nat.le_refl _) ?_
  rintro _ _ ⟨rfl, rfl⟩ -
  refine w_top (y := 1) (show (bI ((0 : Int32) ≤ ((1 : Int32)) ∧ ((1 : Int32)) ≤ (1 : Int32)) : Int32) = 1 from bI_t (by decide)) ?_
  refine w_if_ne (tgt := 22) dX10_ask_17 (by decide) (fun _ => ?_) (fun h => absurd h (by decide))
  refine w_aload_n dX10_ask_22 rfl ?_
  refine w_getR (w := some (1, 0, 0)) ff_X10_10 rfl rfl dX10_ask_23 rfl ?_
  refine w_iload_n dX10_ask_26 rfl ?_
  refine w_callS (as := [vR 1 0 0, vI (nI j)]) (st := []) (Tri.mono (c_kindsOf hc hw (j := j) (by omega)) (Nat.le_of_ble_eq_true rfl)) tg_X0_kindsOf lk_X10_273 sa_X0_kindsOf rfl dX10_ask_27 rfl (Nat.le_of_ble_eq_true rfl) (Nat.le_refl _) (Nat.le_refl _) ?_
  rintro _ _ ⟨rfl, rfl⟩ -
  refine w_istore_n (ls' := [some (vR 0 0 0), some (vI (nI j)), some (vI (1)), some (vI (nI (kindsN a j))), none, none, none, none]) dX10_ask_30 rfl ?_
  refine w_iload_n dX10_ask_31 rfl ?_
  refine w_callS (as := [vI (nI (kindsN a j))]) (st := []) (Tri.mono (c_bitCount (nI (kindsN a j))) (Nat.le_of_ble_eq_true rfl)) tg_J6_bitCount_0f7a4 lk_X10_208 sa_J6_bitCount_0f7a4 rfl dX10_ask_32 rfl (Nat.le_of_ble_eq_true rfl) (Nat.le_refl _) (Nat.le_refl _) ?_
  rintro _ _ ⟨rfl, rfl⟩ -
  refine w_top (y := nI (popN (kindsN a j))) (show (bcI (nI (kindsN a j)) : Int32) = nI (popN (kindsN a j)) from bcI_N0 _ (Nat.lt_of_lt_of_le (kindsN_lt _ _) (by decide))) ?_
  refine w_istore (ls' := [some (vR 0 0 0), some (vI (nI j)), some (vI (1)), some (vI (nI (kindsN a j))), some (vI (nI (popN (kindsN a j)))), none, none, none]) dX10_ask_35 rfl ?_
  refine w_bipush (v := (-4)) dX10_ask_37 (by decide) ?_
  refine w_istore (ls' := [some (vR 0 0 0), some (vI (nI j)), some (vI (1)), some (vI (nI (kindsN a j))), some (vI (nI (popN (kindsN a j)))), some (vI ((-4))), none, none]) dX10_ask_39 rfl ?_
  refine w_iconst (v := 1) dX10_ask_41 (by decide) ?_
  refine w_istore (ls' := [some (vR 0 0 0), some (vI (nI j)), some (vI (1)), some (vI (nI (kindsN a j))), some (vI (nI (popN (kindsN a j)))), some (vI ((-4))), some (vI (1)), none]) dX10_ask_42 rfl ?_
  refine l_askC (kindsN_lt a j) 60 1 (popN (kindsN a j)) none none rfl (by decide) (by have := pop16 _ (kindsN_lt a j); omega) (fun oa => ?_)
  have hq60 := askF_le (kb := kindsN a j) 60 1 (popN (kindsN a j), none) rfl (fun x hx => by cases hx)
  obtain ⟨f8, hf8⟩ : ∃ f, f = (askF (kindsN a j) 1 60 (popN (kindsN a j), none)).1 := ⟨_, rfl⟩
  rw [← hf8]
  unfold askA
  cases hq : (askF (kindsN a j) 1 60 (popN (kindsN a j), none)).2 with
  | none =>
    rw [show byI (none) = (-4) from rfl]
    refine w_iload dX10_ask_80 rfl ?_
    refine w_bipush (v := (-4)) dX10_ask_82 (by decide) ?_
    refine w_icmp_eq (tgt := 91) dX10_ask_84 (by decide) (fun _ => ?_) (fun h => absurd ((rfl : (-4 : Int32) = -4)) h)
    refine w_iload dX10_ask_91 rfl ?_
    refine w_goto (tgt := 98) dX10_ask_93 (by decide) ?_
    exact w_ireturn dX10_ask_98 rfl (rfl) rfl (⟨rfl, _, _, rfl, FrQ.rf⟩)
  | some x =>
    rw [show byI (some x) = nI x from rfl]
    have hx60 := hq60 x hq
    refine w_iload dX10_ask_80 rfl ?_
    refine w_bipush (v := (-4)) dX10_ask_82 (by decide) ?_
    refine w_icmp_eq (tgt := 91) dX10_ask_84 (by decide) (fun h => absurd h (nI_m4b x (by omega))) (fun _ => ?_)
    refine w_iload_n dX10_ask_87 rfl ?_
    refine w_if_ne (tgt := 96) dX10_ask_88 (by decide) (fun _ => ?_) (fun h => absurd h (by decide))
    refine w_iload dX10_ask_96 rfl ?_
    exact w_ireturn dX10_ask_98 rfl (rfl) rfl (⟨by rw [← hf8]; rfl, _, _, rfl, FrQ.rf⟩)

theorem q_ask_1 {I : xF4 Int32} {L : xF4 Int64} {a : aA} (hs : SI I a) (hw : WF a) {j : Nat} (hj : j < nJ a) : Tri 19 109 m_X11_ask [vR 30 0 0, vI (nI j), vI (1)] (rM I L) (pMq (vI (askA (askF (kindsN a j) 1 60 (popN (kindsN a j), none)) 1)) I) := by
  refine ⟨k_X11_ask, Nat.le_of_ble_eq_true rfl, ?_⟩
  show Wp _ _ _ 0 [some (vR 30 0 0), some (vI (nI j)), some (vI (1)), none, none, none, none, none, none, none, none] [] (rM I L) _
  obtain ⟨hJ, hC, hG, hD, hR, -⟩ := id hw
  refine w_aload_n dX11_ask_0 rfl ?_
  refine w_iload_n dX11_ask_1 rfl ?_
  refine w_callV (as := [vI (nI j)]) (st := []) (Tri.mono (d_isJudge (hs.1) (by omega) (x := nI j) (X := ((j : Nat) : Int)) (z_nI (by omega))) (Nat.le_of_ble_eq_true rfl)) rfl rfl tg_X11_isJudge lk_X11_198 in_X11_isJudge se_X11_isJudge rfl dX11_ask_2 rfl (Nat.le_of_ble_eq_true rfl) (Nat.le_refl _) (Nat.le_refl _) ?_
  rintro _ _ ⟨rfl, rfl⟩ -
  refine w_ifeq_b (tgt := 15) dX11_ask_5 (by decide) (fun h1 => ?_) (fun h1 => ?_)
  · skip
    first
    | (exfalso; omega)
    | skip
      refine w_iconst (v := (-1)) dX11_ask_15 (by decide) ?_
      exact w_ireturn dX11_ask_16 rfl (rfl) rfl (⟨rfl, _, _, rfl, FrR.rf⟩)
  · skip
    first
    | (exfalso; omega)
    | skip
      refine w_iload_n dX11_ask_8 rfl ?_
      refine w_callS (as := [vI (1)]) (st := []) (Tri.mono (d_isPart (x := 1) (X := (1 : Int)) (by decide)) (Nat.le_of_ble_eq_true rfl)) tg_X11_isPart lk_X11_245 sa_X11_isPart rfl dX11_ask_9 rfl (Nat.le_of_ble_eq_true rfl) (Nat.le_refl _) (Nat.le_refl _) ?_
      rintro _ _ ⟨rfl, rfl⟩ -
      refine w_top (y := 1) (show (bI ((0 : Int) ≤ 1 ∧ (1 : Int) ≤ 1) : Int32) = 1 from bI_t (by decide)) ?_
      refine w_if_ne (tgt := 17) dX11_ask_12 (by decide) (fun _ => ?_) (fun h => absurd h (by decide))
      refine w_aload_n dX11_ask_17 rfl ?_
      refine w_iload_n dX11_ask_18 rfl ?_
      refine w_callV (as := [vI (nI j)]) (st := []) (Tri.mono (d_kindsOf hs hw (j := j) (by omega)) (Nat.le_of_ble_eq_true rfl)) rfl rfl tg_X11_kindsOf lk_X11_284 in_X11_kindsOf se_X11_kindsOf rfl dX11_ask_19 rfl (Nat.le_of_ble_eq_true rfl) (Nat.le_refl _) (Nat.le_refl _) ?_
      rintro _ _ ⟨rfl, rfl⟩ -
      refine w_istore_n (ls' := [some (vR 30 0 0), some (vI (nI j)), some (vI (1)), some (vI (nI (kindsN a j))), none, none, none, none, none, none, none]) dX11_ask_22 rfl ?_
      refine w_iload_n dX11_ask_23 rfl ?_
      refine w_callS (as := [vI (nI (kindsN a j))]) (st := []) (Tri.mono (d_bitsOf (v := kindsN a j) (Nat.lt_of_lt_of_le (kindsN_lt _ _) (by decide))) (Nat.le_of_ble_eq_true rfl)) tg_X11_bitsOf lk_X11_186 sa_X11_bitsOf rfl dX11_ask_24 rfl (Nat.le_of_ble_eq_true rfl) (Nat.le_refl _) (Nat.le_refl _) ?_
      rintro _ _ ⟨rfl, rfl⟩ -
      refine w_istore (ls' := [some (vR 30 0 0), some (vI (nI j)), some (vI (1)), some (vI (nI (kindsN a j))), some (vI (nI (popN (kindsN a j)))), none, none, none, none, none, none]) dX11_ask_27 rfl ?_
      refine w_bipush (v := (-4)) dX11_ask_29 (by decide) ?_
      refine w_istore (ls' := [some (vR 30 0 0), some (vI (nI j)), some (vI (1)), some (vI (nI (kindsN a j))), some (vI (nI (popN (kindsN a j)))), some (vI ((-4))), none, none, none, none, none]) dX11_ask_31 rfl ?_
      refine w_iconst (v := 1) dX11_ask_33 (by decide) ?_
      refine w_istore (ls' := [some (vR 30 0 0), some (vI (nI j)), some (vI (1)), some (vI (nI (kindsN a j))), some (vI (nI (popN (kindsN a j)))), some (vI ((-4))), some (vI (1)), none, none, none, none]) dX11_ask_34 rfl ?_
      refine l_askM (kindsN_lt a j) 60 1 (popN (kindsN a j)) none none none none none rfl (by decide) (by have := pop16 _ (kindsN_lt a j); omega) (fun oa ob oc od => ?_)
      have hq60 := askF_le (kb := kindsN a j) 60 1 (popN (kindsN a j), none) rfl (fun x hx => by cases hx)
      obtain ⟨f8, hf8⟩ : ∃ f, f = (askF (kindsN a j) 1 60 (popN (kindsN a j), none)).1 := ⟨_, rfl⟩
      rw [← hf8]
      unfold askA
      cases hq : (askF (kindsN a j) 1 60 (popN (kindsN a j), none)).2 with
      | none =>
        rw [show byI (none) = (-4) from rfl]
        refine w_iload dX11_ask_166 rfl ?_
        refine w_bipush (v := (-4)) dX11_ask_168 (by decide) ?_
        refine w_icmp_ne (tgt := 178) dX11_ask_170 (by decide) (fun h => absurd ((rfl : (-4 : Int32) = -4)) h) (fun _ => ?_)
        refine w_bipush (v := (-4)) dX11_ask_173 (by decide) ?_
        refine w_goto (tgt := 189) dX11_ask_175 (by decide) ?_
        exact w_ireturn dX11_ask_189 rfl (rfl) rfl (⟨rfl, _, _, rfl, FrR.rf⟩)
      | some x =>
        rw [show byI (some x) = nI x from rfl]
        have hx60 := hq60 x hq
        refine w_iload dX11_ask_166 rfl ?_
        refine w_bipush (v := (-4)) dX11_ask_168 (by decide) ?_
        refine w_icmp_ne (tgt := 178) dX11_ask_170 (by decide) (fun _ => ?_) (fun h => absurd h (nI_m4b x (by omega)))
        refine w_iload_n dX11_ask_178 rfl ?_
        refine w_if_ne (tgt := 187) dX11_ask_179 (by decide) (fun _ => ?_) (fun h => absurd h (by decide))
        refine w_iload dX11_ask_187 rfl ?_
        exact w_ireturn dX11_ask_189 rfl (rfl) rfl (⟨by rw [← hf8]; rfl, _, _, rfl, FrR.rf⟩)

theorem p_ask_w {I : xF4 Int32} {L : xF4 Int64} {a : aA} (hc : CourtIs I 0 a) (hw : WF a) {j : Nat} (hj : j < nJ a) {what : Int32} (hx : what.toInt < 0 ∨ ((2 : Nat) : Int) ≤ what.toInt) : Tri 19 109 m_X10_ask [vR 0 0 0, vI (nI j), vI (what)] (rM I L) (pCq (vI (-1)) I) := by
  refine ⟨k_X10_ask, Nat.le_of_ble_eq_true rfl, ?_⟩
  show Wp _ _ _ 0 [some (vR 0 0 0), some (vI (nI j)), some (vI (what)), none, none, none, none, none] [] (rM I L) _
  obtain ⟨hJ, hC, hG, hD, hR, -⟩ := id hw
  refine w_aload_n dX10_ask_0 rfl ?_
  refine w_getR (w := some (1, 0, 0)) ff_X10_10 rfl rfl dX10_ask_1 rfl ?_
  refine w_iload_n dX10_ask_4 rfl ?_
  refine w_callV (as := [vI (nI j)]) (st := []) (Tri.mono (c_jAt hc hw hj) (Nat.le_of_ble_eq_true rfl)) rfl rfl tg_X1_judgeAt lk_X10_111 in_X1_judgeAt se_X1_judgeAt rfl dX10_ask_5 rfl (Nat.le_of_ble_eq_true rfl) (Nat.le_refl _) (Nat.le_refl _) ?_
  rintro _ _ ⟨rfl, rfl⟩ -
  refine w_ifnull (tgt := 20) dX10_ask_8 (by decide) (fun h => by cases h) (fun _ _ => ?_)
  refine w_iload_n dX10_ask_11 rfl ?_
  refine w_iconst (v := 0) dX10_ask_12 (by decide) ?_
  refine w_iconst (v := 1) dX10_ask_13 (by decide) ?_
  refine w_callS (as := [vI (what), vI (0), vI (1)]) (st := []) (Tri.mono (c_X10_within (what) (0) (1)) (Nat.le_of_ble_eq_true rfl)) tg_X10_within lk_X10_158 sa_X10_within rfl dX10_ask_14 rfl (Nat.le_of_ble_eq_true rfl) (Nat.le_refl _) (Nat.le_refl _) ?_
  rintro _ _ ⟨rfl, rfl⟩ -
  refine w_top (y := bI (0 ≤ what.toInt ∧ what.toInt ≤ 1)) (show (bI ((0 : Int32) ≤ (what) ∧ (what) ≤ (1 : Int32)) : Int32) = bI (0 ≤ what.toInt ∧ what.toInt ≤ 1) from wiZ (X := what.toInt) (A := 0) (B := 1) rfl (by decide) (by decide)) ?_
  refine w_ifne_b (tgt := 22) dX10_ask_17 (by decide) (fun h1 => ?_) (fun h1 => ?_)
  · skip
    first
    | (exfalso; omega)
    | skip
      exfalso
      omega
  · skip
    first
    | (exfalso; omega)
    | skip
      refine w_iconst (v := (-1)) dX10_ask_20 (by decide) ?_
      exact w_ireturn dX10_ask_21 rfl (rfl) rfl (⟨rfl, _, _, rfl, FrQ.rf⟩)

theorem q_ask_w {I : xF4 Int32} {L : xF4 Int64} {a : aA} (hs : SI I a) (hw : WF a) {j : Nat} (hj : j < nJ a) {what : Int32} (hx : what.toInt < 0 ∨ ((2 : Nat) : Int) ≤ what.toInt) : Tri 19 109 m_X11_ask [vR 30 0 0, vI (nI j), vI (what)] (rM I L) (pMq (vI (-1)) I) := by
  refine ⟨k_X11_ask, Nat.le_of_ble_eq_true rfl, ?_⟩
  show Wp _ _ _ 0 [some (vR 30 0 0), some (vI (nI j)), some (vI (what)), none, none, none, none, none, none, none, none] [] (rM I L) _
  obtain ⟨hJ, hC, hG, hD, hR, -⟩ := id hw
  refine w_aload_n dX11_ask_0 rfl ?_
  refine w_iload_n dX11_ask_1 rfl ?_
  refine w_callV (as := [vI (nI j)]) (st := []) (Tri.mono (d_isJudge (hs.1) (by omega) (x := nI j) (X := ((j : Nat) : Int)) (z_nI (by omega))) (Nat.le_of_ble_eq_true rfl)) rfl rfl tg_X11_isJudge lk_X11_198 in_X11_isJudge se_X11_isJudge rfl dX11_ask_2 rfl (Nat.le_of_ble_eq_true rfl) (Nat.le_refl _) (Nat.le_refl _) ?_
  rintro _ _ ⟨rfl, rfl⟩ -
  refine w_ifeq_b (tgt := 15) dX11_ask_5 (by decide) (fun h1 => ?_) (fun h1 => ?_)
  · skip
    first
    | (exfalso; omega)
    | skip
      refine w_iconst (v := (-1)) dX11_ask_15 (by decide) ?_
      exact w_ireturn dX11_ask_16 rfl (rfl) rfl (⟨rfl, _, _, rfl, FrR.rf⟩)
  · skip
    first
    | (exfalso; omega)
    | skip
      refine w_iload_n dX11_ask_8 rfl ?_
      refine w_callS (as := [vI (what)]) (st := []) (Tri.mono (d_isPart (x := what) (X := what.toInt) rfl) (Nat.le_of_ble_eq_true rfl)) tg_X11_isPart lk_X11_245 sa_X11_isPart rfl dX11_ask_9 rfl (Nat.le_of_ble_eq_true rfl) (Nat.le_refl _) (Nat.le_refl _) ?_
      rintro _ _ ⟨rfl, rfl⟩ -
      refine w_ifne_b (tgt := 17) dX11_ask_12 (by decide) (fun h2 => ?_) (fun h2 => ?_)
      · skip
        first
        | (exfalso; omega)
        | skip
          exfalso
          omega
      · skip
        first
        | (exfalso; omega)
        | skip
          refine w_iconst (v := (-1)) dX11_ask_15 (by decide) ?_
          exact w_ireturn dX11_ask_16 rfl (rfl) rfl (⟨rfl, _, _, rfl, FrR.rf⟩)

theorem p_ask_o {I : xF4 Int32} {L : xF4 Int64} {a : aA} (hc : CourtIs I 0 a) (hw : WF a) {j what : Int32} (hx : j.toInt < 0 ∨ ((nJ a : Nat) : Int) ≤ j.toInt) : Tri 19 109 m_X10_ask [vR 0 0 0, vI (j), vI (what)] (rM I L) (pCq (vI (-1)) I) := by
  refine ⟨k_X10_ask, Nat.le_of_ble_eq_true rfl, ?_⟩
  show Wp _ _ _ 0 [some (vR 0 0 0), some (vI (j)), some (vI (what)), none, none, none, none, none] [] (rM I L) _
  obtain ⟨hJ, hC, hG, hD, hR, -⟩ := id hw
  refine w_aload_n dX10_ask_0 rfl ?_
  refine w_getR (w := some (1, 0, 0)) ff_X10_10 rfl rfl dX10_ask_1 rfl ?_
  refine w_iload_n dX10_ask_4 rfl ?_
  refine w_callV (as := [vI (j)]) (st := []) (Tri.mono (c_jAtO hc hw (z_out (by omega) hx)) (Nat.le_of_ble_eq_true rfl)) rfl rfl tg_X1_judgeAt lk_X10_111 in_X1_judgeAt se_X1_judgeAt rfl dX10_ask_5 rfl (Nat.le_of_ble_eq_true rfl) (Nat.le_refl _) (Nat.le_refl _) ?_
  rintro _ _ ⟨rfl, rfl⟩ -
  refine w_ifnull (tgt := 20) dX10_ask_8 (by decide) (fun _ => ?_) (fun _ h => by cases h)
  refine w_iconst (v := (-1)) dX10_ask_20 (by decide) ?_
  exact w_ireturn dX10_ask_21 rfl (rfl) rfl (⟨rfl, _, _, rfl, FrQ.rf⟩)

theorem q_ask_o {I : xF4 Int32} {L : xF4 Int64} {a : aA} (hs : SI I a) (hw : WF a) {j what : Int32} (hx : j.toInt < 0 ∨ ((nJ a : Nat) : Int) ≤ j.toInt) : Tri 19 109 m_X11_ask [vR 30 0 0, vI (j), vI (what)] (rM I L) (pMq (vI (-1)) I) := by
  refine ⟨k_X11_ask, Nat.le_of_ble_eq_true rfl, ?_⟩
  show Wp _ _ _ 0 [some (vR 30 0 0), some (vI (j)), some (vI (what)), none, none, none, none, none, none, none, none] [] (rM I L) _
  obtain ⟨hJ, hC, hG, hD, hR, -⟩ := id hw
  refine w_aload_n dX11_ask_0 rfl ?_
  refine w_iload_n dX11_ask_1 rfl ?_
  refine w_callV (as := [vI (j)]) (st := []) (Tri.mono (d_isJudge (hs.1) (by omega) (x := j) (X := j.toInt) rfl) (Nat.le_of_ble_eq_true rfl)) rfl rfl tg_X11_isJudge lk_X11_198 in_X11_isJudge se_X11_isJudge rfl dX11_ask_2 rfl (Nat.le_of_ble_eq_true rfl) (Nat.le_refl _) (Nat.le_refl _) ?_
  rintro _ _ ⟨rfl, rfl⟩ -
  refine w_ifeq_b (tgt := 15) dX11_ask_5 (by decide) (fun h1 => ?_) (fun h1 => ?_)
  · skip
    first
    | (exfalso; omega)
    | skip
      refine w_iconst (v := (-1)) dX11_ask_15 (by decide) ?_
      exact w_ireturn dX11_ask_16 rfl (rfl) rfl (⟨rfl, _, _, rfl, FrR.rf⟩)
  · skip
    first
    | (exfalso; omega)
    | skip
      refine w_iload_n dX11_ask_8 rfl ?_
      refine w_callS (as := [vI (what)]) (st := []) (Tri.mono (d_isPart (x := what) (X := what.toInt) rfl) (Nat.le_of_ble_eq_true rfl)) tg_X11_isPart lk_X11_245 sa_X11_isPart rfl dX11_ask_9 rfl (Nat.le_of_ble_eq_true rfl) (Nat.le_refl _) (Nat.le_refl _) ?_
      rintro _ _ ⟨rfl, rfl⟩ -
      refine w_ifne_b (tgt := 17) dX11_ask_12 (by decide) (fun h2 => ?_) (fun h2 => ?_)
      · skip
        first
        | (exfalso; omega)
        | skip
          exfalso
          omega
      · skip
        first
        | (exfalso; omega)
        | skip
          refine w_iconst (v := (-1)) dX11_ask_15 (by decide) ?_
          exact w_ireturn dX11_ask_16 rfl (rfl) rfl (⟨rfl, _, _, rfl, FrR.rf⟩)
