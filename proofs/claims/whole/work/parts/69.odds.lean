/-! guilt wrong by odds, both ways (by wip/whole/gen/g70.py) -/
theorem lz_le {a : Nat} (h : a < 2 ^ 62) : lg_cmp (lN a) 0 ≤ 0 ↔ a = 0 := by
  rw [lg_cmp_le, show (0 : Int64) = lN 0 from rfl, pk_lLE (by omega) (by omega)]
  omega
theorem lz_eq {a : Nat} (h : a < 2 ^ 62) : lg_cmp (lN a) 0 = 0 ↔ a = 0 := by
  rw [lg_cmp_eq, show (0 : Int64) = lN 0 from rfl, pk_lEQ (by omega) (by omega)]
theorem lz_gt {a : Nat} (h : a < 2 ^ 62) : 0 < lg_cmp (lN a) 0 ↔ ¬ a = 0 := by
  rw [lg_cmp_gt, show (0 : Int64) = lN 0 from rfl, pk_lLT (by omega) (by omega)]
  omega
theorem lN_nz {a : Nat} (h : a < 2 ^ 62) (h0 : ¬ a = 0) : ¬ lN a = 0 := by
  rw [show (0 : Int64) = lN 0 from rfl, pk_lEQ (by omega) (by omega)]
  exact h0
theorem lN_rem {a b : Nat} (ha : a < 2 ^ 62) (hb : b < 2 ^ 62) (h0 : ¬ b = 0) : lN a - lN a / lN b * lN b = lN (a % b) := pk_lRem (by omega) (by omega) (by omega)
theorem lN_div {a b : Nat} (ha : a < 2 ^ 62) (hb : b < 2 ^ 62) (h0 : ¬ b = 0) : lN a / lN b = lN (a / b) := pk_lDiv (by omega) (by omega) (by omega)
/-- odds of what is wrong among what is heard -/
def oddN (h v u : Nat) : Nat → Nat
  | 0 => 1
  | c + 1 => oddN h v u c * (if h.testBit c = true then (if u.testBit c = true then v else 10 - v) else 1)
theorem oddN_le {h v u : Nat} (hv : v ≤ 10) : ∀ c, oddN h v u c ≤ 10 ^ c
  | 0 => Nat.le_refl _
  | c + 1 => by
    rw [oddN, Nat.pow_succ]
    refine Nat.mul_le_mul (oddN_le hv c) ?_
    split
    · split <;> omega
    · decide
theorem oddN_0 {h v u c : Nat} (h0 : oddN h v u c = 0) : ∀ d, oddN h v u (c + d) = 0
  | 0 => h0
  | d + 1 => by rw [← Nat.add_assoc, oddN, oddN_0 h0 d, Nat.zero_mul]
theorem oddN_b {h v u : Nat} (hv : v ≤ 10) {c : Nat} (hc : c ≤ 5) : oddN h v u c ≤ 100000 := Nat.le_trans (oddN_le hv c) (Nat.le_trans (Nat.pow_le_pow_right (by decide) hc) (by decide))
def lowN (s t what : Nat) : Nat := if what = 0 then s / Nat.gcd s t else t / Nat.gcd s t
theorem pow5 : ∀ n, n < 6 → 10 ^ n ≤ 100000 ∧ ¬ 10 ^ n = 0 := by decide +kernel
theorem sumN_b {f : Nat → Nat} {b : Nat} (h : ∀ i, f i ≤ b) : ∀ n, sumN f n ≤ n * b
  | 0 => Nat.zero_le _
  | n + 1 => by have := sumN_b h n; have := h n; rw [sumN, Nat.succ_mul]; omega
theorem ten_sub {v : Nat} (hv : v ≤ 10) : (10 : Int32) - nI v = nI (10 - v) := pk_sub (a := 10) hv

theorem l_oddsOf {I : xF4 Int32} {L : xF4 Int64} {u h v : Nat} (hu : u < 32) (hh : h < 32) (hv : v ≤ 10) : ∀ (m c : Nat), c + m = 5 → Wp 0 109 m_X10_oddsOf 5 [some (vI (nI u)), some (vI (nI h)), some (vI (nI v)), some (vL (lN (oddN h v u c))), none, some (vI (nI c))] [] (rM I L) (fun v9 M => v9 = some (vL (lN (oddN h v u 5))) ∧ M = rM I L) := by
  intro m
  induction m with
  | zero =>
    intro c hc
    have e : c = 5 := by omega
    subst e
    refine w_iload dX10_oddsOf_5 rfl ?_
    refine w_iconst (v := 5) dX10_oddsOf_7 (by decide) ?_
    refine w_icmp_ge (tgt := 48) dX10_oddsOf_8 (by decide) (fun _ => ?_) (fun h => absurd (by decide) h)
    refine w_lload_n dX10_oddsOf_48 rfl ?_
    exact w_lreturn dX10_oddsOf_49 rfl rfl (⟨rfl, rfl⟩)
  | succ m ih =>
    intro c hc
    have hlt : c < 5 := by omega
    refine w_iload dX10_oddsOf_5 rfl ?_
    refine w_iconst (v := 5) dX10_oddsOf_7 (by decide) ?_
    refine w_icmp_ge (tgt := 48) dX10_oddsOf_8 (by decide) (fun h => absurd h (nI_ge (b := 5) hlt (by omega))) (fun _ => ?_)
    refine w_iload_n dX10_oddsOf_11 rfl ?_
    refine w_iload dX10_oddsOf_12 rfl ?_
    refine w_ishr dX10_oddsOf_14 ?_
    refine w_iconst (v := 1) dX10_oddsOf_15 (by decide) ?_
    refine w_iand dX10_oddsOf_16 ?_
    rw [show (((nI h) >>> ((nI c) &&& 31)) &&& (1) : Int32) = bI (h.testBit c = true) from tbit0 _ hh _ hlt]
    refine w_ifeq_b (tgt := 42) dX10_oddsOf_17 (by decide) (fun h1 => ?_) (fun h1 => ?_)
    · skip
      first
      | (exfalso; omega)
      | skip
        rw [show oddN h v u c = oddN h v u (c + 1) from by rw [oddN, if_neg h1, Nat.mul_one]]
        refine w_iinc (v := nI (c + 1)) (ls' := [some (vI (nI u)), some (vI (nI h)), some (vI (nI v)), some (vL (lN (oddN h v u (c + 1)))), none, some (vI (nI (c + 1)))]) dX10_oddsOf_42 rfl (nI_1 _) rfl ?_
        refine w_goto (tgt := 5) dX10_oddsOf_45 (by decide) ?_
        exact ih (c + 1) (by omega)
    · skip
      first
      | (exfalso; omega)
      | skip
        refine w_lload_n dX10_oddsOf_20 rfl ?_
        refine w_iload_n dX10_oddsOf_21 rfl ?_
        refine w_iload dX10_oddsOf_22 rfl ?_
        refine w_ishr dX10_oddsOf_24 ?_
        refine w_iconst (v := 1) dX10_oddsOf_25 (by decide) ?_
        refine w_iand dX10_oddsOf_26 ?_
        rw [show (((nI u) >>> ((nI c) &&& 31)) &&& (1) : Int32) = bI (u.testBit c = true) from tbit0 _ hu _ hlt]
        refine w_ifeq_b (tgt := 35) dX10_oddsOf_27 (by decide) (fun h2 => ?_) (fun h2 => ?_)
        · skip
          first
          | (exfalso; omega)
          | skip
            refine w_bipush (v := 10) dX10_oddsOf_35 (by decide) ?_
            refine w_iload_n dX10_oddsOf_37 rfl ?_
            refine w_isub dX10_oddsOf_38 ?_
            rw [show ((10) - (nI v) : Int32) = nI (10 - v) from ten_sub hv]
            refine w_i2l dX10_oddsOf_39 ?_
            refine w_topL (y := lN (10 - v)) (show ((nI (10 - v) : Int32).toInt64 : Int64) = lN (10 - v) from nI_l (by omega)) ?_
            refine w_lmul dX10_oddsOf_40 ?_
            refine w_topL (y := lN (oddN h v u (c + 1))) (show ((lN (oddN h v u c)) * (lN (10 - v)) : Int64) = lN (oddN h v u (c + 1)) from by rw [lN_mul, oddN, if_pos h1, if_neg h2]) ?_
            refine w_lstore_n (ls' := [some (vI (nI u)), some (vI (nI h)), some (vI (nI v)), some (vL (lN (oddN h v u (c + 1)))), none, some (vI (nI c))]) dX10_oddsOf_41 rfl ?_
            refine w_iinc (v := nI (c + 1)) (ls' := [some (vI (nI u)), some (vI (nI h)), some (vI (nI v)), some (vL (lN (oddN h v u (c + 1)))), none, some (vI (nI (c + 1)))]) dX10_oddsOf_42 rfl (nI_1 _) rfl ?_
            refine w_goto (tgt := 5) dX10_oddsOf_45 (by decide) ?_
            exact ih (c + 1) (by omega)
        · skip
          first
          | (exfalso; omega)
          | skip
            refine w_iload_n dX10_oddsOf_30 rfl ?_
            refine w_i2l dX10_oddsOf_31 ?_
            refine w_goto (tgt := 40) dX10_oddsOf_32 (by decide) ?_
            refine w_topL (y := lN v) (show ((nI v : Int32).toInt64 : Int64) = lN v from nI_l (by omega)) ?_
            refine w_lmul dX10_oddsOf_40 ?_
            refine w_topL (y := lN (oddN h v u (c + 1))) (show ((lN (oddN h v u c)) * (lN v) : Int64) = lN (oddN h v u (c + 1)) from by rw [lN_mul, oddN, if_pos h1, if_pos h2]) ?_
            refine w_lstore_n (ls' := [some (vI (nI u)), some (vI (nI h)), some (vI (nI v)), some (vL (lN (oddN h v u (c + 1)))), none, some (vI (nI c))]) dX10_oddsOf_41 rfl ?_
            refine w_iinc (v := nI (c + 1)) (ls' := [some (vI (nI u)), some (vI (nI h)), some (vI (nI v)), some (vL (lN (oddN h v u (c + 1)))), none, some (vI (nI (c + 1)))]) dX10_oddsOf_42 rfl (nI_1 _) rfl ?_
            refine w_goto (tgt := 5) dX10_oddsOf_45 (by decide) ?_
            exact ih (c + 1) (by omega)

theorem c_oddsOf {I : xF4 Int32} {L : xF4 Int64} {u h v : Nat} (hu : u < 32) (hh : h < 32) (hv : v ≤ 10) : Tri 0 109 m_X10_oddsOf [vI (nI u), vI (nI h), vI (nI v)] (rM I L) (fun v9 M => v9 = some (vL (lN (oddN h v u 5))) ∧ M = rM I L) := by
  refine ⟨k_X10_oddsOf, Nat.le_of_ble_eq_true rfl, ?_⟩
  show Wp _ _ _ 0 [some (vI (nI u)), some (vI (nI h)), some (vI (nI v)), none, none, none] [] (rM I L) _
  refine w_lconst (v := 1) dX10_oddsOf_0 (by decide) ?_
  refine w_lstore_n (ls' := [some (vI (nI u)), some (vI (nI h)), some (vI (nI v)), some (vL (1)), none, none]) dX10_oddsOf_1 rfl ?_
  refine w_iconst (v := 0) dX10_oddsOf_2 (by decide) ?_
  refine w_istore (ls' := [some (vI (nI u)), some (vI (nI h)), some (vI (nI v)), some (vL (1)), none, some (vI (0))]) dX10_oddsOf_3 rfl ?_
  exact l_oddsOf hu hh hv 5 0 rfl

theorem l_oddsAll {I : xF4 Int32} {L : xF4 Int64} {h : Nat} (hh : h < 32) : ∀ (m c : Nat), c + m = popN h → Wp 1 109 m_X10_oddsInAll 4 [some (vI (nI h)), some (vL (lN (10 ^ c))), none, some (vI (nI c))] [] (rM I L) (fun v9 M => v9 = some (vL (lN (10 ^ popN h))) ∧ M = rM I L) := by
  intro m
  induction m with
  | zero =>
    have hp5 := popN_lt h hh
    intro c hc
    have e : c = popN h := by omega
    subst e
    refine w_iload_n dX10_oddsInAll_4 rfl ?_
    refine w_iload_n dX10_oddsInAll_5 rfl ?_
    refine w_callS (as := [vI (nI h)]) (st := [vI (nI (popN h))]) (Tri.mono (c_bitCount (nI h)) (Nat.le_of_ble_eq_true rfl)) tg_J6_bitCount_0f7a4 lk_X10_208 sa_J6_bitCount_0f7a4 rfl dX10_oddsInAll_6 rfl (Nat.le_of_ble_eq_true rfl) (Nat.le_refl _) (Nat.le_refl _) ?_
    rintro _ _ ⟨rfl, rfl⟩ -
    refine w_top (y := nI (popN h)) (show (bcI (nI h) : Int32) = nI (popN h) from bcI_N0 _ hh) ?_
    refine w_icmp_ge (tgt := 24) dX10_oddsInAll_9 (by decide) (fun _ => ?_) (fun h => absurd (nI_le (Nat.le_refl _) (by omega)) h)
    refine w_lload_n dX10_oddsInAll_24 rfl ?_
    exact w_lreturn dX10_oddsInAll_25 rfl rfl (⟨rfl, rfl⟩)
  | succ m ih =>
    have hp5 := popN_lt h hh
    intro c hc
    have hlt : c < popN h := by omega
    refine w_iload_n dX10_oddsInAll_4 rfl ?_
    refine w_iload_n dX10_oddsInAll_5 rfl ?_
    refine w_callS (as := [vI (nI h)]) (st := [vI (nI c)]) (Tri.mono (c_bitCount (nI h)) (Nat.le_of_ble_eq_true rfl)) tg_J6_bitCount_0f7a4 lk_X10_208 sa_J6_bitCount_0f7a4 rfl dX10_oddsInAll_6 rfl (Nat.le_of_ble_eq_true rfl) (Nat.le_refl _) (Nat.le_refl _) ?_
    rintro _ _ ⟨rfl, rfl⟩ -
    refine w_top (y := nI (popN h)) (show (bcI (nI h) : Int32) = nI (popN h) from bcI_N0 _ hh) ?_
    refine w_icmp_ge (tgt := 24) dX10_oddsInAll_9 (by decide) (fun h => absurd h (nI_ge hlt (by omega))) (fun _ => ?_)
    refine w_lload_n dX10_oddsInAll_12 rfl ?_
    refine w_ldc2 dX10_oddsInAll_13 cq_X10_345 ?_
    refine w_lmul dX10_oddsInAll_16 ?_
    refine w_topL (y := lN (10 ^ (c + 1))) (show ((lN (10 ^ c)) * (10) : Int64) = lN (10 ^ (c + 1)) from by rw [show (10 : Int64) = lN 10 from rfl, lN_mul, Nat.pow_succ]) ?_
    refine w_lstore_n (ls' := [some (vI (nI h)), some (vL (lN (10 ^ (c + 1)))), none, some (vI (nI c))]) dX10_oddsInAll_17 rfl ?_
    refine w_iinc (v := nI (c + 1)) (ls' := [some (vI (nI h)), some (vL (lN (10 ^ (c + 1)))), none, some (vI (nI (c + 1)))]) dX10_oddsInAll_18 rfl (nI_1 _) rfl ?_
    refine w_goto (tgt := 4) dX10_oddsInAll_21 (by decide) ?_
    exact ih (c + 1) (by omega)

theorem c_oddsInAll {I : xF4 Int32} {L : xF4 Int64} {h : Nat} (hh : h < 32) : Tri 1 109 m_X10_oddsInAll [vI (nI h)] (rM I L) (fun v9 M => v9 = some (vL (lN (10 ^ popN h))) ∧ M = rM I L) := by
  refine ⟨k_X10_oddsInAll, Nat.le_of_ble_eq_true rfl, ?_⟩
  show Wp _ _ _ 0 [some (vI (nI h)), none, none, none] [] (rM I L) _
  refine w_lconst (v := 1) dX10_oddsInAll_0 (by decide) ?_
  refine w_lstore_n (ls' := [some (vI (nI h)), some (vL (1)), none, none]) dX10_oddsInAll_1 rfl ?_
  refine w_iconst (v := 0) dX10_oddsInAll_2 (by decide) ?_
  refine w_istore_n (ls' := [some (vI (nI h)), some (vL (1)), none, some (vI (0))]) dX10_oddsInAll_3 rfl ?_
  exact l_oddsAll hh (popN h) 0 (Nat.zero_add _)

theorem l_lowest {I : xF4 Int32} {L : xF4 Int64} {s t what : Nat} (hs62 : s < 2 ^ 31) (ht62 : t < 2 ^ 31) (hw2 : what < 2) : ∀ (k a b i : Nat) (oa ob : Option xV), a < 2 ^ k → b < 2 ^ 62 ∧ a < 2 ^ 62 → i + 2 * k ≤ 100 → Nat.gcd a b = Nat.gcd s t → ¬ Nat.gcd s t = 0 → Wp 1 109 m_X10_lowest 9 [some (vL (lN s)), none, some (vL (lN t)), none, some (vI (nI what)), some (vL (lN a)), none, some (vL (lN b)), none, some (vI (nI i)), oa, ob] [] (rM I L) (fun v9 M => v9 = some (vL (lN (lowN s t what))) ∧ M = rM I L) := by
  intro k
  induction k with
  | zero =>
    intro a b i oa ob ha hb hi hg hg0
    have e : a = 0 := by omega
    subst e
    rw [Nat.gcd_zero_left] at hg
    refine w_iload dX10_lowest_9 rfl ?_
    refine w_bipush (v := 100) dX10_lowest_11 (by decide) ?_
    refine w_icmp_ge (tgt := 44) dX10_lowest_13 (by decide) (fun h1 => ?_) (fun h1 => ?_)
    · skip
      have hb0 : ¬ b = 0 := by rw [hg]; exact hg0
      refine w_lload dX10_lowest_44 rfl ?_
      refine w_lconst (v := 0) dX10_lowest_46 (by decide) ?_
      refine w_lcmp dX10_lowest_47 ?_
      refine w_if_gt (tgt := 53) dX10_lowest_48 (by decide) (fun h8 => ?_) (fun h8 => ?_)
      · skip
        refine w_iload dX10_lowest_53 rfl ?_
        refine w_if_ne (tgt := 65) dX10_lowest_55 (by decide) (fun h9 => ?_) (fun h9 => ?_)
        · skip
          replace h9 : ¬ (((what : Nat) : Int) = 0) := fun q => h9 ((zeq (z_nI (by omega)) (by decide)).mpr q)
          refine w_lload_n dX10_lowest_65 rfl ?_
          refine w_lload dX10_lowest_66 rfl ?_
          refine w_ldiv dX10_lowest_68 (lN_nz (by omega) hb0) ?_
          refine w_topL (y := lN (lowN s t what)) (show ((lN t) / (lN b) : Int64) = lN (lowN s t what) from by rw [lN_div (by omega) (by omega) hb0, hg]; unfold lowN; rw [if_neg (by omega)]) ?_
          exact w_lreturn dX10_lowest_69 rfl rfl (⟨rfl, rfl⟩)
        · skip
          replace h9 : ((what : Nat) : Int) = 0 := (zeq (z_nI (by omega)) (by decide)).mp h9
          refine w_lload_n dX10_lowest_58 rfl ?_
          refine w_lload dX10_lowest_59 rfl ?_
          refine w_ldiv dX10_lowest_61 (lN_nz (by omega) hb0) ?_
          refine w_topL (y := lN (lowN s t what)) (show ((lN s) / (lN b) : Int64) = lN (lowN s t what) from by rw [lN_div (by omega) (by omega) hb0, hg]; unfold lowN; rw [if_pos (by omega)]) ?_
          refine w_goto (tgt := 69) dX10_lowest_62 (by decide) ?_
          exact w_lreturn dX10_lowest_69 rfl rfl (⟨rfl, rfl⟩)
      · skip
        exact absurd ((lz_gt (by omega)).mpr hb0) h8
    · skip
      refine w_lload dX10_lowest_16 rfl ?_
      refine w_lconst (v := 0) dX10_lowest_18 (by decide) ?_
      refine w_lcmp dX10_lowest_19 ?_
      refine w_if_le (tgt := 44) dX10_lowest_20 (by decide) (fun h2 => ?_) (fun h2 => ?_)
      · skip
        have hb0 : ¬ b = 0 := by rw [hg]; exact hg0
        refine w_lload dX10_lowest_44 rfl ?_
        refine w_lconst (v := 0) dX10_lowest_46 (by decide) ?_
        refine w_lcmp dX10_lowest_47 ?_
        refine w_if_gt (tgt := 53) dX10_lowest_48 (by decide) (fun h8 => ?_) (fun h8 => ?_)
        · skip
          refine w_iload dX10_lowest_53 rfl ?_
          refine w_if_ne (tgt := 65) dX10_lowest_55 (by decide) (fun h9 => ?_) (fun h9 => ?_)
          · skip
            replace h9 : ¬ (((what : Nat) : Int) = 0) := fun q => h9 ((zeq (z_nI (by omega)) (by decide)).mpr q)
            refine w_lload_n dX10_lowest_65 rfl ?_
            refine w_lload dX10_lowest_66 rfl ?_
            refine w_ldiv dX10_lowest_68 (lN_nz (by omega) hb0) ?_
            refine w_topL (y := lN (lowN s t what)) (show ((lN t) / (lN b) : Int64) = lN (lowN s t what) from by rw [lN_div (by omega) (by omega) hb0, hg]; unfold lowN; rw [if_neg (by omega)]) ?_
            exact w_lreturn dX10_lowest_69 rfl rfl (⟨rfl, rfl⟩)
          · skip
            replace h9 : ((what : Nat) : Int) = 0 := (zeq (z_nI (by omega)) (by decide)).mp h9
            refine w_lload_n dX10_lowest_58 rfl ?_
            refine w_lload dX10_lowest_59 rfl ?_
            refine w_ldiv dX10_lowest_61 (lN_nz (by omega) hb0) ?_
            refine w_topL (y := lN (lowN s t what)) (show ((lN s) / (lN b) : Int64) = lN (lowN s t what) from by rw [lN_div (by omega) (by omega) hb0, hg]; unfold lowN; rw [if_pos (by omega)]) ?_
            refine w_goto (tgt := 69) dX10_lowest_62 (by decide) ?_
            exact w_lreturn dX10_lowest_69 rfl rfl (⟨rfl, rfl⟩)
        · skip
          exact absurd ((lz_gt (by omega)).mpr hb0) h8
      · skip
        exact absurd ((lz_le (a := 0) (by decide)).mpr rfl) h2
  | succ k ih =>
    intro a b i oa ob ha hb hi hg hg0
    rw [Nat.pow_succ] at ha
    refine w_iload dX10_lowest_9 rfl ?_
    refine w_bipush (v := 100) dX10_lowest_11 (by decide) ?_
    refine w_icmp_ge (tgt := 44) dX10_lowest_13 (by decide) (fun h => absurd h (nI_ge (b := 100) (by omega) (by omega))) (fun _ => ?_)
    refine w_lload dX10_lowest_16 rfl ?_
    refine w_lconst (v := 0) dX10_lowest_18 (by decide) ?_
    refine w_lcmp dX10_lowest_19 ?_
    refine w_if_le (tgt := 44) dX10_lowest_20 (by decide) (fun h1 => ?_) (fun h1 => ?_)
    · skip
      have e : a = 0 := (lz_le (by omega)).mp h1
      subst e
      rw [Nat.gcd_zero_left] at hg
      have hb0 : ¬ b = 0 := by rw [hg]; exact hg0
      refine w_lload dX10_lowest_44 rfl ?_
      refine w_lconst (v := 0) dX10_lowest_46 (by decide) ?_
      refine w_lcmp dX10_lowest_47 ?_
      refine w_if_gt (tgt := 53) dX10_lowest_48 (by decide) (fun h8 => ?_) (fun h8 => ?_)
      · skip
        refine w_iload dX10_lowest_53 rfl ?_
        refine w_if_ne (tgt := 65) dX10_lowest_55 (by decide) (fun h9 => ?_) (fun h9 => ?_)
        · skip
          replace h9 : ¬ (((what : Nat) : Int) = 0) := fun q => h9 ((zeq (z_nI (by omega)) (by decide)).mpr q)
          refine w_lload_n dX10_lowest_65 rfl ?_
          refine w_lload dX10_lowest_66 rfl ?_
          refine w_ldiv dX10_lowest_68 (lN_nz (by omega) hb0) ?_
          refine w_topL (y := lN (lowN s t what)) (show ((lN t) / (lN b) : Int64) = lN (lowN s t what) from by rw [lN_div (by omega) (by omega) hb0, hg]; unfold lowN; rw [if_neg (by omega)]) ?_
          exact w_lreturn dX10_lowest_69 rfl rfl (⟨rfl, rfl⟩)
        · skip
          replace h9 : ((what : Nat) : Int) = 0 := (zeq (z_nI (by omega)) (by decide)).mp h9
          refine w_lload_n dX10_lowest_58 rfl ?_
          refine w_lload dX10_lowest_59 rfl ?_
          refine w_ldiv dX10_lowest_61 (lN_nz (by omega) hb0) ?_
          refine w_topL (y := lN (lowN s t what)) (show ((lN s) / (lN b) : Int64) = lN (lowN s t what) from by rw [lN_div (by omega) (by omega) hb0, hg]; unfold lowN; rw [if_pos (by omega)]) ?_
          refine w_goto (tgt := 69) dX10_lowest_62 (by decide) ?_
          exact w_lreturn dX10_lowest_69 rfl rfl (⟨rfl, rfl⟩)
      · skip
        exact absurd ((lz_gt (by omega)).mpr hb0) h8
    · skip
      have ha0 : ¬ a = 0 := fun q => h1 ((lz_le (by omega)).mpr q)
      have hr := Nat.mod_lt b (Nat.pos_of_ne_zero ha0)
      obtain ⟨r, hrE⟩ : ∃ r, r = b % a := ⟨_, rfl⟩
      rw [← hrE] at hr
      rw [Nat.gcd_rec, ← hrE] at hg
      refine w_lload dX10_lowest_23 rfl ?_
      refine w_lload dX10_lowest_25 rfl ?_
      refine w_lrem dX10_lowest_27 (lN_nz (by omega) ha0) ?_
      refine w_topL (y := lN r) (show ((lN b) - (lN b) / (lN a) * (lN a) : Int64) = lN r from by rw [lN_rem (by omega) (by omega) ha0, ← hrE]) ?_
      refine w_lstore (ls' := [some (vL (lN s)), none, some (vL (lN t)), none, some (vI (nI what)), some (vL (lN a)), none, some (vL (lN b)), none, some (vI (nI i)), some (vL (lN r)), none]) dX10_lowest_28 rfl ?_
      refine w_lload dX10_lowest_30 rfl ?_
      refine w_lstore (ls' := [some (vL (lN s)), none, some (vL (lN t)), none, some (vI (nI what)), some (vL (lN a)), none, some (vL (lN a)), none, some (vI (nI i)), some (vL (lN r)), none]) dX10_lowest_32 rfl ?_
      refine w_lload dX10_lowest_34 rfl ?_
      refine w_lstore (ls' := [some (vL (lN s)), none, some (vL (lN t)), none, some (vI (nI what)), some (vL (lN r)), none, some (vL (lN a)), none, some (vI (nI i)), some (vL (lN r)), none]) dX10_lowest_36 rfl ?_
      refine w_iinc (v := nI (i + 1)) (ls' := [some (vL (lN s)), none, some (vL (lN t)), none, some (vI (nI what)), some (vL (lN r)), none, some (vL (lN a)), none, some (vI (nI (i + 1))), some (vL (lN r)), none]) dX10_lowest_38 rfl (nI_1 _) rfl ?_
      refine w_goto (tgt := 9) dX10_lowest_41 (by decide) ?_
      refine w_iload dX10_lowest_9 rfl ?_
      refine w_bipush (v := 100) dX10_lowest_11 (by decide) ?_
      refine w_icmp_ge (tgt := 44) dX10_lowest_13 (by decide) (fun h => absurd h (nI_ge (b := 100) (by omega) (by omega))) (fun _ => ?_)
      refine w_lload dX10_lowest_16 rfl ?_
      refine w_lconst (v := 0) dX10_lowest_18 (by decide) ?_
      refine w_lcmp dX10_lowest_19 ?_
      refine w_if_le (tgt := 44) dX10_lowest_20 (by decide) (fun h2 => ?_) (fun h2 => ?_)
      · skip
        have e : r = 0 := (lz_le (by omega)).mp h2
        subst e
        rw [Nat.gcd_zero_left] at hg
        have hb0 : ¬ a = 0 := by rw [hg]; exact hg0
        refine w_lload dX10_lowest_44 rfl ?_
        refine w_lconst (v := 0) dX10_lowest_46 (by decide) ?_
        refine w_lcmp dX10_lowest_47 ?_
        refine w_if_gt (tgt := 53) dX10_lowest_48 (by decide) (fun h8 => ?_) (fun h8 => ?_)
        · skip
          refine w_iload dX10_lowest_53 rfl ?_
          refine w_if_ne (tgt := 65) dX10_lowest_55 (by decide) (fun h9 => ?_) (fun h9 => ?_)
          · skip
            replace h9 : ¬ (((what : Nat) : Int) = 0) := fun q => h9 ((zeq (z_nI (by omega)) (by decide)).mpr q)
            refine w_lload_n dX10_lowest_65 rfl ?_
            refine w_lload dX10_lowest_66 rfl ?_
            refine w_ldiv dX10_lowest_68 (lN_nz (by omega) hb0) ?_
            refine w_topL (y := lN (lowN s t what)) (show ((lN t) / (lN a) : Int64) = lN (lowN s t what) from by rw [lN_div (by omega) (by omega) hb0, hg]; unfold lowN; rw [if_neg (by omega)]) ?_
            exact w_lreturn dX10_lowest_69 rfl rfl (⟨rfl, rfl⟩)
          · skip
            replace h9 : ((what : Nat) : Int) = 0 := (zeq (z_nI (by omega)) (by decide)).mp h9
            refine w_lload_n dX10_lowest_58 rfl ?_
            refine w_lload dX10_lowest_59 rfl ?_
            refine w_ldiv dX10_lowest_61 (lN_nz (by omega) hb0) ?_
            refine w_topL (y := lN (lowN s t what)) (show ((lN s) / (lN a) : Int64) = lN (lowN s t what) from by rw [lN_div (by omega) (by omega) hb0, hg]; unfold lowN; rw [if_pos (by omega)]) ?_
            refine w_goto (tgt := 69) dX10_lowest_62 (by decide) ?_
            exact w_lreturn dX10_lowest_69 rfl rfl (⟨rfl, rfl⟩)
        · skip
          exact absurd ((lz_gt (by omega)).mpr hb0) h8
      · skip
        have hr0 : ¬ r = 0 := fun q => h2 ((lz_le (by omega)).mpr q)
        have hq := Nat.mod_lt a (Nat.pos_of_ne_zero hr0)
        have hqd := Nat.div_add_mod a r
        have hq1 : 1 ≤ a / r := Nat.div_pos (Nat.le_of_lt hr) (Nat.pos_of_ne_zero hr0)
        have hq2 : r * 1 ≤ r * (a / r) := Nat.mul_le_mul_left r hq1
        obtain ⟨q, hqE⟩ : ∃ q, q = a % r := ⟨_, rfl⟩
        rw [← hqE] at hq hqd
        rw [Nat.gcd_rec, ← hqE] at hg
        refine w_lload dX10_lowest_23 rfl ?_
        refine w_lload dX10_lowest_25 rfl ?_
        refine w_lrem dX10_lowest_27 (lN_nz (by omega) hr0) ?_
        refine w_topL (y := lN q) (show ((lN a) - (lN a) / (lN r) * (lN r) : Int64) = lN q from by rw [lN_rem (by omega) (by omega) hr0, ← hqE]) ?_
        refine w_lstore (ls' := [some (vL (lN s)), none, some (vL (lN t)), none, some (vI (nI what)), some (vL (lN r)), none, some (vL (lN a)), none, some (vI (nI (i + 1))), some (vL (lN q)), none]) dX10_lowest_28 rfl ?_
        refine w_lload dX10_lowest_30 rfl ?_
        refine w_lstore (ls' := [some (vL (lN s)), none, some (vL (lN t)), none, some (vI (nI what)), some (vL (lN r)), none, some (vL (lN r)), none, some (vI (nI (i + 1))), some (vL (lN q)), none]) dX10_lowest_32 rfl ?_
        refine w_lload dX10_lowest_34 rfl ?_
        refine w_lstore (ls' := [some (vL (lN s)), none, some (vL (lN t)), none, some (vI (nI what)), some (vL (lN q)), none, some (vL (lN r)), none, some (vI (nI (i + 1))), some (vL (lN q)), none]) dX10_lowest_36 rfl ?_
        refine w_iinc (v := nI (i + 1 + 1)) (ls' := [some (vL (lN s)), none, some (vL (lN t)), none, some (vI (nI what)), some (vL (lN q)), none, some (vL (lN r)), none, some (vI (nI (i + 1 + 1))), some (vL (lN q)), none]) dX10_lowest_38 rfl (nI_1 _) rfl ?_
        refine w_goto (tgt := 9) dX10_lowest_41 (by decide) ?_
        exact ih q r (i + 1 + 1) _ _ (by omega) (by omega) (by omega) hg hg0

theorem c_lowest {I : xF4 Int32} {L : xF4 Int64} {s t what : Nat} (hs62 : s < 2 ^ 31) (ht62 : t < 2 ^ 31) (hw2 : what < 2) (hg0 : ¬ Nat.gcd s t = 0) : Tri 1 109 m_X10_lowest [vL (lN s), vL (lN t), vI (nI what)] (rM I L) (fun v9 M => v9 = some (vL (lN (lowN s t what))) ∧ M = rM I L) := by
  refine ⟨k_X10_lowest, Nat.le_of_ble_eq_true rfl, ?_⟩
  show Wp _ _ _ 0 [some (vL (lN s)), none, some (vL (lN t)), none, some (vI (nI what)), none, none, none, none, none, none, none] [] (rM I L) _
  refine w_lload_n dX10_lowest_0 rfl ?_
  refine w_lstore (ls' := [some (vL (lN s)), none, some (vL (lN t)), none, some (vI (nI what)), some (vL (lN s)), none, none, none, none, none, none]) dX10_lowest_1 rfl ?_
  refine w_lload_n dX10_lowest_3 rfl ?_
  refine w_lstore (ls' := [some (vL (lN s)), none, some (vL (lN t)), none, some (vI (nI what)), some (vL (lN s)), none, some (vL (lN t)), none, none, none, none]) dX10_lowest_4 rfl ?_
  refine w_iconst (v := 0) dX10_lowest_6 (by decide) ?_
  refine w_istore (ls' := [some (vL (lN s)), none, some (vL (lN t)), none, some (vI (nI what)), some (vL (lN s)), none, some (vL (lN t)), none, some (vI (0)), none, none]) dX10_lowest_7 rfl ?_
  exact l_lowest hs62 ht62 hw2 31 s t 0 none none hs62 ⟨by omega, by omega⟩ (by decide) rfl hg0
