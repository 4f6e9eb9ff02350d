/-! bits counted, copies, sentences as asked (by wip/whole/gen/g18.py) -/
def bcI (x : Int32) : Int32 := ((((((((x) - ((((x : Int32).toUInt32 >>> ((1 : Int32).toUInt32 &&& Int32.toUInt32 31)).toInt32) &&& (1431655765))) &&& (858993459)) + (((((x) - ((((x : Int32).toUInt32 >>> ((1 : Int32).toUInt32 &&& Int32.toUInt32 31)).toInt32) &&& (1431655765)) : Int32).toUInt32 >>> ((2 : Int32).toUInt32 &&& Int32.toUInt32 31)).toInt32) &&& (858993459))) + ((((((x) - ((((x : Int32).toUInt32 >>> ((1 : Int32).toUInt32 &&& Int32.toUInt32 31)).toInt32) &&& (1431655765))) &&& (858993459)) + (((((x) - ((((x : Int32).toUInt32 >>> ((1 : Int32).toUInt32 &&& Int32.toUInt32 31)).toInt32) &&& (1431655765)) : Int32).toUInt32 >>> ((2 : Int32).toUInt32 &&& Int32.toUInt32 31)).toInt32) &&& (858993459)) : Int32).toUInt32 >>> ((4 : Int32).toUInt32 &&& Int32.toUInt32 31)).toInt32)) &&& (252645135)) + ((((((((x) - ((((x : Int32).toUInt32 >>> ((1 : Int32).toUInt32 &&& Int32.toUInt32 31)).toInt32) &&& (1431655765))) &&& (858993459)) + (((((x) - ((((x : Int32).toUInt32 >>> ((1 : Int32).toUInt32 &&& Int32.toUInt32 31)).toInt32) &&& (1431655765)) : Int32).toUInt32 >>> ((2 : Int32).toUInt32 &&& Int32.toUInt32 31)).toInt32) &&& (858993459))) + ((((((x) - ((((x : Int32).toUInt32 >>> ((1 : Int32).toUInt32 &&& Int32.toUInt32 31)).toInt32) &&& (1431655765))) &&& (858993459)) + (((((x) - ((((x : Int32).toUInt32 >>> ((1 : Int32).toUInt32 &&& Int32.toUInt32 31)).toInt32) &&& (1431655765)) : Int32).toUInt32 >>> ((2 : Int32).toUInt32 &&& Int32.toUInt32 31)).toInt32) &&& (858993459)) : Int32).toUInt32 >>> ((4 : Int32).toUInt32 &&& Int32.toUInt32 31)).toInt32)) &&& (252645135) : Int32).toUInt32 >>> ((8 : Int32).toUInt32 &&& Int32.toUInt32 31)).toInt32)) + (((((((((x) - ((((x : Int32).toUInt32 >>> ((1 : Int32).toUInt32 &&& Int32.toUInt32 31)).toInt32) &&& (1431655765))) &&& (858993459)) + (((((x) - ((((x : Int32).toUInt32 >>> ((1 : Int32).toUInt32 &&& Int32.toUInt32 31)).toInt32) &&& (1431655765)) : Int32).toUInt32 >>> ((2 : Int32).toUInt32 &&& Int32.toUInt32 31)).toInt32) &&& (858993459))) + ((((((x) - ((((x : Int32).toUInt32 >>> ((1 : Int32).toUInt32 &&& Int32.toUInt32 31)).toInt32) &&& (1431655765))) &&& (858993459)) + (((((x) - ((((x : Int32).toUInt32 >>> ((1 : Int32).toUInt32 &&& Int32.toUInt32 31)).toInt32) &&& (1431655765)) : Int32).toUInt32 >>> ((2 : Int32).toUInt32 &&& Int32.toUInt32 31)).toInt32) &&& (858993459)) : Int32).toUInt32 >>> ((4 : Int32).toUInt32 &&& Int32.toUInt32 31)).toInt32)) &&& (252645135)) + ((((((((x) - ((((x : Int32).toUInt32 >>> ((1 : Int32).toUInt32 &&& Int32.toUInt32 31)).toInt32) &&& (1431655765))) &&& (858993459)) + (((((x) - ((((x : Int32).toUInt32 >>> ((1 : Int32).toUInt32 &&& Int32.toUInt32 31)).toInt32) &&& (1431655765)) : Int32).toUInt32 >>> ((2 : Int32).toUInt32 &&& Int32.toUInt32 31)).toInt32) &&& (858993459))) + ((((((x) - ((((x : Int32).toUInt32 >>> ((1 : Int32).toUInt32 &&& Int32.toUInt32 31)).toInt32) &&& (1431655765))) &&& (858993459)) + (((((x) - ((((x : Int32).toUInt32 >>> ((1 : Int32).toUInt32 &&& Int32.toUInt32 31)).toInt32) &&& (1431655765)) : Int32).toUInt32 >>> ((2 : Int32).toUInt32 &&& Int32.toUInt32 31)).toInt32) &&& (858993459)) : Int32).toUInt32 >>> ((4 : Int32).toUInt32 &&& Int32.toUInt32 31)).toInt32)) &&& (252645135) : Int32).toUInt32 >>> ((8 : Int32).toUInt32 &&& Int32.toUInt32 31)).toInt32) : Int32).toUInt32 >>> ((16 : Int32).toUInt32 &&& Int32.toUInt32 31)).toInt32)) &&& (63)
theorem c_bitCount {I : xF4 Int32} {L : xF4 Int64} (x : Int32) : Tri 0 109 m_J6_bitCount_0f7a4 [vI (x)] (rM I L) (pI (bcI x) I L) := by
  refine ⟨k_J6_bitCount_0f7a4, Nat.le_of_ble_eq_true rfl, ?_⟩
  show Wp _ _ _ 0 [some (vI (x))] [] (rM I L) _
  refine w_iload_n dJ6_bitCount_0f7a4_0 rfl ?_
  refine w_iload_n dJ6_bitCount_0f7a4_1 rfl ?_
  refine w_iconst (v := 1) dJ6_bitCount_0f7a4_2 (by decide) ?_
  refine w_iushr dJ6_bitCount_0f7a4_3 rfl ?_
  refine w_ldcw dJ6_bitCount_0f7a4_4 ct_J6_265 ?_
  refine w_iand dJ6_bitCount_0f7a4_7 ?_
  refine w_isub dJ6_bitCount_0f7a4_8 ?_
  refine w_istore_n (ls' := [some (vI ((x) - ((((x : Int32).toUInt32 >>> ((1 : Int32).toUInt32 &&& Int32.toUInt32 31)).toInt32) &&& (1431655765))))]) dJ6_bitCount_0f7a4_9 rfl ?_
  refine w_iload_n dJ6_bitCount_0f7a4_10 rfl ?_
  refine w_ldcw dJ6_bitCount_0f7a4_11 ct_J6_266 ?_
  refine w_iand dJ6_bitCount_0f7a4_14 ?_
  refine w_iload_n dJ6_bitCount_0f7a4_15 rfl ?_
  refine w_iconst (v := 2) dJ6_bitCount_0f7a4_16 (by decide) ?_
  refine w_iushr dJ6_bitCount_0f7a4_17 rfl ?_
  refine w_ldcw dJ6_bitCount_0f7a4_18 ct_J6_266 ?_
  refine w_iand dJ6_bitCount_0f7a4_21 ?_
  refine w_iadd dJ6_bitCount_0f7a4_22 ?_
  refine w_istore_n (ls' := [some (vI ((((x) - ((((x : Int32).toUInt32 >>> ((1 : Int32).toUInt32 &&& Int32.toUInt32 31)).toInt32) &&& (1431655765))) &&& (858993459)) + (((((x) - ((((x : Int32).toUInt32 >>> ((1 : Int32).toUInt32 &&& Int32.toUInt32 31)).toInt32) &&& (1431655765)) : Int32).toUInt32 >>> ((2 : Int32).toUInt32 &&& Int32.toUInt32 31)).toInt32) &&& (858993459))))]) dJ6_bitCount_0f7a4_23 rfl ?_
  refine w_iload_n dJ6_bitCount_0f7a4_24 rfl ?_
  refine w_iload_n dJ6_bitCount_0f7a4_25 rfl ?_
  refine w_iconst (v := 4) dJ6_bitCount_0f7a4_26 (by decide) ?_
  refine w_iushr dJ6_bitCount_0f7a4_27 rfl ?_
  refine w_iadd dJ6_bitCount_0f7a4_28 ?_
  refine w_ldcw dJ6_bitCount_0f7a4_29 ct_J6_267 ?_
  refine w_iand dJ6_bitCount_0f7a4_32 ?_
  refine w_istore_n (ls' := [some (vI ((((((x) - ((((x : Int32).toUInt32 >>> ((1 : Int32).toUInt32 &&& Int32.toUInt32 31)).toInt32) &&& (1431655765))) &&& (858993459)) + (((((x) - ((((x : Int32).toUInt32 >>> ((1 : Int32).toUInt32 &&& Int32.toUInt32 31)).toInt32) &&& (1431655765)) : Int32).toUInt32 >>> ((2 : Int32).toUInt32 &&& Int32.toUInt32 31)).toInt32) &&& (858993459))) + ((((((x) - ((((x : Int32).toUInt32 >>> ((1 : Int32).toUInt32 &&& Int32.toUInt32 31)).toInt32) &&& (1431655765))) &&& (858993459)) + (((((x) - ((((x : Int32).toUInt32 >>> ((1 : Int32).toUInt32 &&& Int32.toUInt32 31)).toInt32) &&& (1431655765)) : Int32).toUInt32 >>> ((2 : Int32).toUInt32 &&& Int32.toUInt32 31)).toInt32) &&& (858993459)) : Int32).toUInt32 >>> ((4 : Int32).toUInt32 &&& Int32.toUInt32 31)).toInt32)) &&& (252645135)))]) dJ6_bitCount_0f7a4_33 rfl ?_
  refine w_iload_n dJ6_bitCount_0f7a4_34 rfl ?_
  refine w_iload_n dJ6_bitCount_0f7a4_35 rfl ?_
  refine w_bipush (v := 8) dJ6_bitCount_0f7a4_36 (by decide) ?_
  refine w_iushr dJ6_bitCount_0f7a4_38 rfl ?_
  refine w_iadd dJ6_bitCount_0f7a4_39 ?_
  refine w_istore_n (ls' := [some (vI (((((((x) - ((((x : Int32).toUInt32 >>> ((1 : Int32).toUInt32 &&& Int32.toUInt32 31)).toInt32) &&& (1431655765))) &&& (858993459)) + (((((x) - ((((x : Int32).toUInt32 >>> ((1 : Int32).toUInt32 &&& Int32.toUInt32 31)).toInt32) &&& (1431655765)) : Int32).toUInt32 >>> ((2 : Int32).toUInt32 &&& Int32.toUInt32 31)).toInt32) &&& (858993459))) + ((((((x) - ((((x : Int32).toUInt32 >>> ((1 : Int32).toUInt32 &&& Int32.toUInt32 31)).toInt32) &&& (1431655765))) &&& (858993459)) + (((((x) - ((((x : Int32).toUInt32 >>> ((1 : Int32).toUInt32 &&& Int32.toUInt32 31)).toInt32) &&& (1431655765)) : Int32).toUInt32 >>> ((2 : Int32).toUInt32 &&& Int32.toUInt32 31)).toInt32) &&& (858993459)) : Int32).toUInt32 >>> ((4 : Int32).toUInt32 &&& Int32.toUInt32 31)).toInt32)) &&& (252645135)) + ((((((((x) - ((((x : Int32).toUInt32 >>> ((1 : Int32).toUInt32 &&& Int32.toUInt32 31)).toInt32) &&& (1431655765))) &&& (858993459)) + (((((x) - ((((x : Int32).toUInt32 >>> ((1 : Int32).toUInt32 &&& Int32.toUInt32 31)).toInt32) &&& (1431655765)) : Int32).toUInt32 >>> ((2 : Int32).toUInt32 &&& Int32.toUInt32 31)).toInt32) &&& (858993459))) + ((((((x) - ((((x : Int32).toUInt32 >>> ((1 : Int32).toUInt32 &&& Int32.toUInt32 31)).toInt32) &&& (1431655765))) &&& (858993459)) + (((((x) - ((((x : Int32).toUInt32 >>> ((1 : Int32).toUInt32 &&& Int32.toUInt32 31)).toInt32) &&& (1431655765)) : Int32).toUInt32 >>> ((2 : Int32).toUInt32 &&& Int32.toUInt32 31)).toInt32) &&& (858993459)) : Int32).toUInt32 >>> ((4 : Int32).toUInt32 &&& Int32.toUInt32 31)).toInt32)) &&& (252645135) : Int32).toUInt32 >>> ((8 : Int32).toUInt32 &&& Int32.toUInt32 31)).toInt32)))]) dJ6_bitCount_0f7a4_40 rfl ?_
  refine w_iload_n dJ6_bitCount_0f7a4_41 rfl ?_
  refine w_iload_n dJ6_bitCount_0f7a4_42 rfl ?_
  refine w_bipush (v := 16) dJ6_bitCount_0f7a4_43 (by decide) ?_
  refine w_iushr dJ6_bitCount_0f7a4_45 rfl ?_
  refine w_iadd dJ6_bitCount_0f7a4_46 ?_
  refine w_istore_n (ls' := [some (vI ((((((((x) - ((((x : Int32).toUInt32 >>> ((1 : Int32).toUInt32 &&& Int32.toUInt32 31)).toInt32) &&& (1431655765))) &&& (858993459)) + (((((x) - ((((x : Int32).toUInt32 >>> ((1 : Int32).toUInt32 &&& Int32.toUInt32 31)).toInt32) &&& (1431655765)) : Int32).toUInt32 >>> ((2 : Int32).toUInt32 &&& Int32.toUInt32 31)).toInt32) &&& (858993459))) + ((((((x) - ((((x : Int32).toUInt32 >>> ((1 : Int32).toUInt32 &&& Int32.toUInt32 31)).toInt32) &&& (1431655765))) &&& (858993459)) + (((((x) - ((((x : Int32).toUInt32 >>> ((1 : Int32).toUInt32 &&& Int32.toUInt32 31)).toInt32) &&& (1431655765)) : Int32).toUInt32 >>> ((2 : Int32).toUInt32 &&& Int32.toUInt32 31)).toInt32) &&& (858993459)) : Int32).toUInt32 >>> ((4 : Int32).toUInt32 &&& Int32.toUInt32 31)).toInt32)) &&& (252645135)) + ((((((((x) - ((((x : Int32).toUInt32 >>> ((1 : Int32).toUInt32 &&& Int32.toUInt32 31)).toInt32) &&& (1431655765))) &&& (858993459)) + (((((x) - ((((x : Int32).toUInt32 >>> ((1 : Int32).toUInt32 &&& Int32.toUInt32 31)).toInt32) &&& (1431655765)) : Int32).toUInt32 >>> ((2 : Int32).toUInt32 &&& Int32.toUInt32 31)).toInt32) &&& (858993459))) + ((((((x) - ((((x : Int32).toUInt32 >>> ((1 : Int32).toUInt32 &&& Int32.toUInt32 31)).toInt32) &&& (1431655765))) &&& (858993459)) + (((((x) - ((((x : Int32).toUInt32 >>> ((1 : Int32).toUInt32 &&& Int32.toUInt32 31)).toInt32) &&& (1431655765)) : Int32).toUInt32 >>> ((2 : Int32).toUInt32 &&& Int32.toUInt32 31)).toInt32) &&& (858993459)) : Int32).toUInt32 >>> ((4 : Int32).toUInt32 &&& Int32.toUInt32 31)).toInt32)) &&& (252645135) : Int32).toUInt32 >>> ((8 : Int32).toUInt32 &&& Int32.toUInt32 31)).toInt32)) + (((((((((x) - ((((x : Int32).toUInt32 >>> ((1 : Int32).toUInt32 &&& Int32.toUInt32 31)).toInt32) &&& (1431655765))) &&& (858993459)) + (((((x) - ((((x : Int32).toUInt32 >>> ((1 : Int32).toUInt32 &&& Int32.toUInt32 31)).toInt32) &&& (1431655765)) : Int32).toUInt32 >>> ((2 : Int32).toUInt32 &&& Int32.toUInt32 31)).toInt32) &&& (858993459))) + ((((((x) - ((((x : Int32).toUInt32 >>> ((1 : Int32).toUInt32 &&& Int32.toUInt32 31)).toInt32) &&& (1431655765))) &&& (858993459)) + (((((x) - ((((x : Int32).toUInt32 >>> ((1 : Int32).toUInt32 &&& Int32.toUInt32 31)).toInt32) &&& (1431655765)) : Int32).toUInt32 >>> ((2 : Int32).toUInt32 &&& Int32.toUInt32 31)).toInt32) &&& (858993459)) : Int32).toUInt32 >>> ((4 : Int32).toUInt32 &&& Int32.toUInt32 31)).toInt32)) &&& (252645135)) + ((((((((x) - ((((x : Int32).toUInt32 >>> ((1 : Int32).toUInt32 &&& Int32.toUInt32 31)).toInt32) &&& (1431655765))) &&& (858993459)) + (((((x) - ((((x : Int32).toUInt32 >>> ((1 : Int32).toUInt32 &&& Int32.toUInt32 31)).toInt32) &&& (1431655765)) : Int32).toUInt32 >>> ((2 : Int32).toUInt32 &&& Int32.toUInt32 31)).toInt32) &&& (858993459))) + ((((((x) - ((((x : Int32).toUInt32 >>> ((1 : Int32).toUInt32 &&& Int32.toUInt32 31)).toInt32) &&& (1431655765))) &&& (858993459)) + (((((x) - ((((x : Int32).toUInt32 >>> ((1 : Int32).toUInt32 &&& Int32.toUInt32 31)).toInt32) &&& (1431655765)) : Int32).toUInt32 >>> ((2 : Int32).toUInt32 &&& Int32.toUInt32 31)).toInt32) &&& (858993459)) : Int32).toUInt32 >>> ((4 : Int32).toUInt32 &&& Int32.toUInt32 31)).toInt32)) &&& (252645135) : Int32).toUInt32 >>> ((8 : Int32).toUInt32 &&& Int32.toUInt32 31)).toInt32) : Int32).toUInt32 >>> ((16 : Int32).toUInt32 &&& Int32.toUInt32 31)).toInt32)))]) dJ6_bitCount_0f7a4_47 rfl ?_
  refine w_iload_n dJ6_bitCount_0f7a4_48 rfl ?_
  refine w_bipush (v := 63) dJ6_bitCount_0f7a4_49 (by decide) ?_
  refine w_iand dJ6_bitCount_0f7a4_51 ?_
  exact w_ireturn dJ6_bitCount_0f7a4_52 rfl (rfl) rfl (⟨rfl, rfl⟩)

def popN (v : Nat) : Nat := sumN (fun i => if v.testBit i then 1 else 0) 8
theorem bcI_N0 : ∀ v, v < 32 → bcI (nI v) = nI (popN v) := by decide +kernel
def cntN (p : Nat → Bool) (n : Nat) : Nat := sumN (fun i => if p i then 1 else 0) n
theorem bitN_test (p : Nat → Bool) : ∀ n i, (bitN p n).testBit i = (decide (i < n) && p i)
  | 0, i => by simp [bitN]
  | n + 1, i => by
    have hlt := bitN_lt p n
    rw [bitN]
    by_cases hp : p n = true
    · rw [if_pos hp, Nat.add_comm]
      rcases Nat.lt_trichotomy i n with h | h | h
      · rw [Nat.testBit_two_pow_add_gt h, bitN_test p n i]; simp [h, show i < n + 1 by omega]
      · subst h; rw [Nat.testBit_two_pow_add_eq, Nat.testBit_lt_two_pow hlt]; simp [hp]
      · have : 2 ^ n + bitN p n < 2 ^ i := Nat.lt_of_lt_of_le (show 2 ^ n + bitN p n < 2 ^ (n + 1) by rw [Nat.pow_succ]; omega) (Nat.pow_le_pow_right (by decide) h)
        rw [Nat.testBit_lt_two_pow this]; simp [show ¬ i < n + 1 by omega]
    · rw [if_neg hp, Nat.add_zero, bitN_test p n i]
      rcases Nat.lt_trichotomy i n with h | h | h
      · simp [h, show i < n + 1 by omega]
      · subst h; simp [hp]
      · simp [show ¬ i < n by omega, show ¬ i < n + 1 by omega]
theorem sumN_congr {f g : Nat → Nat} : ∀ n, (∀ i, i < n → f i = g i) → sumN f n = sumN g n
  | 0, _ => rfl
  | n + 1, h => by rw [sumN, sumN, sumN_congr n (fun i hi => h i (by omega)), h n (by omega)]
theorem sumN_zero {f : Nat → Nat} (m : Nat) : ∀ n, (∀ i, m ≤ i → i < m + n → f i = 0) → sumN f (m + n) = sumN f m
  | 0, _ => rfl
  | n + 1, h => by rw [← Nat.add_assoc, sumN, sumN_zero m n (fun i h1 h2 => h i h1 (by omega)), h (m + n) (by omega) (by omega), Nat.add_zero]
theorem popN_bit (p : Nat → Bool) {n : Nat} (hn : n ≤ 8) : popN (bitN p n) = cntN p n := by
  unfold popN cntN
  have h8 := sumN_zero (f := fun i => if (bitN p n).testBit i = true then 1 else 0) n (8 - n) (fun i h1 h2 => by rw [bitN_test]; simp [show ¬ i < n by omega])
  rw [show n + (8 - n) = 8 by omega] at h8
  rw [h8]
  exact sumN_congr n fun i hi => by rw [bitN_test]; simp [hi]
theorem bcI_bit (p : Nat → Bool) {n : Nat} (hn : n ≤ 5) : bcI (nI (bitN p n)) = nI (cntN p n) := by
  rw [bcI_N0 _ (Nat.lt_of_lt_of_le (bitN_lt p n) (Nat.pow_le_pow_right (by decide) hn)), popN_bit p (by omega)]
theorem cntN_le (p : Nat → Bool) : ∀ n, cntN p n ≤ n
  | 0 => Nat.le_refl _
  | n + 1 => by
    have := cntN_le p n
    unfold cntN at *
    rw [sumN]
    split <;> omega
theorem cntN_full (p : Nat → Bool) : ∀ n, cntN p n = n ↔ ∀ i, i < n → p i = true
  | 0 => by simp [cntN, sumN]
  | n + 1 => by
    have h1 := cntN_le p n
    have h2 := cntN_full p n
    unfold cntN at *
    rw [sumN]
    refine ⟨fun h => ?_, fun h => ?_⟩
    · have hp : p n = true := Classical.byContradiction fun q => by rw [if_neg q] at h; omega
      rw [if_pos hp] at h
      intro i hi
      rcases Nat.lt_or_ge i n with q | q
      · exact h2.mp (by omega) i q
      · rw [show i = n by omega]; exact hp
    · rw [if_pos (h n (by omega)), h2.mpr (fun i hi => h i (by omega))]
def clearN (a : aA) : Prop := awayN a = 0 ∧ cntN (fun c => decide (0 < sF a c 4)) (nC a) = nC a

abbrev pB (p : Prop) (I : xF4 Int32) (L : xF4 Int64) : Option xV → xM → Prop := fun v M => (p ∧ v = some (vI 1) ∧ M = rM I L) ∨ (¬ p ∧ v = some (vI 0) ∧ M = rM I L)
theorem c_isClear {I : xF4 Int32} {L : xF4 Int64} {k : Nat} {a : aA} (hc : CourtIs I k a) (hw : WF a) : Tri 3 109 m_X1_isClear [vR 1 k 0] (rM I L) (pB (clearN a) I L) := by
  refine ⟨k_X1_isClear, Nat.le_of_ble_eq_true rfl, ?_⟩
  show Wp _ _ _ 0 [some (vR 1 k 0)] [] (rM I L) _
  obtain ⟨ft0, ft1, ft2, ft3, ft4, -⟩ := id hw
  have haw : awayN a < 2 ^ 31 := Nat.lt_of_lt_of_le (bitN_lt _ _) (Nat.pow_le_pow_right (by decide) (by omega))
  have hcn := cntN_le (fun c => decide (0 < sF a c 4)) (nC a)
  refine w_aload_n dX1_isClear_0 rfl ?_
  refine w_callV (as := []) (st := []) (Tri.mono (c_awayBits hc hw) (Nat.le_of_ble_eq_true rfl)) rfl rfl tg_X1_awayBits lk_X1_155 in_X1_awayBits se_X1_awayBits rfl dX1_isClear_1 rfl (Nat.le_of_ble_eq_true rfl) (Nat.le_refl _) (Nat.le_refl _) ?_
  rintro _ _ ⟨rfl, rfl⟩ -
  refine w_if_ne (tgt := 25) dX1_isClear_4 (by decide) (fun h1 => ?_) (fun h1 => ?_)
  · skip
    replace h1 : ¬ ((awayN a) = (0)) := fun q => h1 ((nI_eq (a := awayN a) (b := 0) (by omega) (by omega)).mpr q)
    refine w_iconst (v := 0) dX1_isClear_25 (by decide) ?_
    exact w_ireturn dX1_isClear_26 rfl (rfl) rfl (Or.inr ⟨fun q => by have q1 := q.1; have q2 := q.2; omega, rfl, rfl⟩)
  · skip
    replace h1 : (awayN a) = (0) := (nI_eq (a := awayN a) (b := 0) (by omega) (by omega)).mp h1
    refine w_aload_n dX1_isClear_7 rfl ?_
    refine w_callV (as := []) (st := []) (Tri.mono (c_heardBits hc hw) (Nat.le_of_ble_eq_true rfl)) rfl rfl tg_X1_heardBits lk_X1_159 in_X1_heardBits se_X1_heardBits rfl dX1_isClear_8 rfl (Nat.le_of_ble_eq_true rfl) (Nat.le_refl _) (Nat.le_refl _) ?_
    rintro _ _ ⟨rfl, rfl⟩ -
    refine w_callS (as := [vI (nI (heardN a))]) (st := []) (Tri.mono (c_bitCount (nI (heardN a))) (Nat.le_of_ble_eq_true rfl)) tg_J6_bitCount_0f7a4 lk_X1_162 sa_J6_bitCount_0f7a4 rfl dX1_isClear_11 rfl (Nat.le_of_ble_eq_true rfl) (Nat.le_refl _) (Nat.le_refl _) ?_
    rintro _ _ ⟨rfl, rfl⟩ -
    rw [show (bcI (nI (heardN a)) : Int32) = nI (cntN (fun c => decide (0 < sF a c 4)) (nC a)) from bcI_bit _ ft1]
    refine w_aload_n dX1_isClear_14 rfl ?_
    refine w_getI ff_X1_39 rfl rfl dX1_isClear_15 ?_
    rw [show (I 1 k 0 4 : Int32) = nI (nC a) from hc.2.1]
    refine w_icmp_ne (tgt := 25) dX1_isClear_18 (by decide) (fun h2 => ?_) (fun h2 => ?_)
    · skip
      replace h2 : ¬ ((cntN (fun c => decide (0 < sF a c 4)) (nC a)) = (nC a)) := fun q => h2 ((nI_eq (a := cntN (fun c => decide (0 < sF a c 4)) (nC a)) (b := nC a) (by omega) (by omega)).mpr q)
      refine w_iconst (v := 0) dX1_isClear_25 (by decide) ?_
      exact w_ireturn dX1_isClear_26 rfl (rfl) rfl (Or.inr ⟨fun q => by have q1 := q.1; have q2 := q.2; omega, rfl, rfl⟩)
    · skip
      replace h2 : (cntN (fun c => decide (0 < sF a c 4)) (nC a)) = (nC a) := (nI_eq (a := cntN (fun c => decide (0 < sF a c 4)) (nC a)) (b := nC a) (by omega) (by omega)).mp h2
      refine w_iconst (v := 1) dX1_isClear_21 (by decide) ?_
      refine w_goto (tgt := 26) dX1_isClear_22 (by decide) ?_
      exact w_ireturn dX1_isClear_26 rfl (rfl) rfl (Or.inl ⟨⟨h1, h2⟩, rfl, rfl⟩)

theorem c_jAtR {I : xF4 Int32} {L : xF4 Int64} {k n : Nat} (hn : I 1 k 0 3 = nI n) (hle : n ≤ 4) {i : Nat} (hi : i < n) : Tri 0 109 m_X1_judgeAt [vR 1 k 0, vI (nI i)] (rM I L) (pO (some (3, k, i)) I L) := by
  refine ⟨k_X1_judgeAt, Nat.le_of_ble_eq_true rfl, ?_⟩
  show Wp _ _ _ 0 [some (vR 1 k 0), some (vI (nI i))] [] (rM I L) _
  refine w_iload_n dX1_judgeAt_0 rfl ?_
  refine w_if_lt (tgt := 30) dX1_judgeAt_1 (by decide) (fun h => absurd h (nI_pos (by omega))) (fun _ => ?_)
  refine w_iload_n dX1_judgeAt_4 rfl ?_
  refine w_aload_n dX1_judgeAt_5 rfl ?_
  refine w_getI ff_X1_35 rfl rfl dX1_judgeAt_6 ?_
  rw [show (I 1 k 0 3 : Int32) = nI n from hn]
  refine w_icmp_ge (tgt := 30) dX1_judgeAt_9 (by decide) (fun h => absurd h (nI_ge hi (by omega))) (fun _ => ?_)
  refine w_iload_n dX1_judgeAt_12 rfl ?_
  refine w_aload_n dX1_judgeAt_13 rfl ?_
  refine w_getR (w := some (2, k, 0)) ff_X1_11 rfl rfl dX1_judgeAt_14 rfl ?_
  refine w_alen (v := 4) rfl rfl dX1_judgeAt_17 ?_
  refine w_icmp_ge (tgt := 30) dX1_judgeAt_18 (by decide) (fun h => absurd h (nI_ge (b := 4) (by omega) (by omega))) (fun _ => ?_)
  refine w_aload_n dX1_judgeAt_21 rfl ?_
  refine w_getR (w := some (2, k, 0)) ff_X1_11 rfl rfl dX1_judgeAt_22 rfl ?_
  refine w_iload_n dX1_judgeAt_25 rfl ?_
  refine w_aaload (a := i) (w := some (3, k, i)) rfl (by decide) (fun _ => rfl) (vp_in_nI (by omega) (by omega)) (nI_clamp (by omega)) (by show (if i < 4 then _ else _) = _; rw [if_pos (show i < 4 by omega)]) dX1_judgeAt_26 ?_
  refine w_goto (tgt := 31) dX1_judgeAt_27 (by decide) ?_
  exact w_areturn dX1_judgeAt_31 rfl rfl (⟨rfl, rfl⟩)

theorem c_sAtR {I : xF4 Int32} {L : xF4 Int64} {k n : Nat} (hn : I 1 k 0 4 = nI n) (hle : n ≤ 5) {i : Nat} (hi : i < n) : Tri 0 109 m_X1_suitAt [vR 1 k 0, vI (nI i)] (rM I L) (pO (some (5, k, i)) I L) := by
  refine ⟨k_X1_suitAt, Nat.le_of_ble_eq_true rfl, ?_⟩
  show Wp _ _ _ 0 [some (vR 1 k 0), some (vI (nI i))] [] (rM I L) _
  refine w_iload_n dX1_suitAt_0 rfl ?_
  refine w_if_lt (tgt := 30) dX1_suitAt_1 (by decide) (fun h => absurd h (nI_pos (by omega))) (fun _ => ?_)
  refine w_iload_n dX1_suitAt_4 rfl ?_
  refine w_aload_n dX1_suitAt_5 rfl ?_
  refine w_getI ff_X1_39 rfl rfl dX1_suitAt_6 ?_
  rw [show (I 1 k 0 4 : Int32) = nI n from hn]
  refine w_icmp_ge (tgt := 30) dX1_suitAt_9 (by decide) (fun h => absurd h (nI_ge hi (by omega))) (fun _ => ?_)
  refine w_iload_n dX1_suitAt_12 rfl ?_
  refine w_aload_n dX1_suitAt_13 rfl ?_
  refine w_getR (w := some (4, k, 0)) ff_X1_20 rfl rfl dX1_suitAt_14 rfl ?_
  refine w_alen (v := 5) rfl rfl dX1_suitAt_17 ?_
  refine w_icmp_ge (tgt := 30) dX1_suitAt_18 (by decide) (fun h => absurd h (nI_ge (b := 5) (by omega) (by omega))) (fun _ => ?_)
  refine w_aload_n dX1_suitAt_21 rfl ?_
  refine w_getR (w := some (4, k, 0)) ff_X1_20 rfl rfl dX1_suitAt_22 rfl ?_
  refine w_iload_n dX1_suitAt_25 rfl ?_
  refine w_aaload (a := i) (w := some (5, k, i)) rfl (by decide) (fun _ => rfl) (vp_in_nI (by omega) (by omega)) (nI_clamp (by omega)) (by show (if i < 5 then _ else _) = _; rw [if_pos (show i < 5 by omega)]) dX1_suitAt_26 ?_
  refine w_goto (tgt := 31) dX1_suitAt_27 (by decide) ?_
  exact w_areturn dX1_suitAt_31 rfl rfl (⟨rfl, rfl⟩)

theorem c_gAtR {I : xF4 Int32} {L : xF4 Int64} {k n : Nat} (hn : I 1 k 0 5 = nI n) (hle : n ≤ 6) {i : Nat} (hi : i < n) : Tri 0 109 m_X1_sightAt [vR 1 k 0, vI (nI i)] (rM I L) (pO (some (7, k, i)) I L) := by
  refine ⟨k_X1_sightAt, Nat.le_of_ble_eq_true rfl, ?_⟩
  show Wp _ _ _ 0 [some (vR 1 k 0), some (vI (nI i))] [] (rM I L) _
  refine w_iload_n dX1_sightAt_0 rfl ?_
  refine w_if_lt (tgt := 30) dX1_sightAt_1 (by decide) (fun h => absurd h (nI_pos (by omega))) (fun _ => ?_)
  refine w_iload_n dX1_sightAt_4 rfl ?_
  refine w_aload_n dX1_sightAt_5 rfl ?_
  refine w_getI ff_X1_42 rfl rfl dX1_sightAt_6 ?_
  rw [show (I 1 k 0 5 : Int32) = nI n from hn]
  refine w_icmp_ge (tgt := 30) dX1_sightAt_9 (by decide) (fun h => absurd h (nI_ge hi (by omega))) (fun _ => ?_)
  refine w_iload_n dX1_sightAt_12 rfl ?_
  refine w_aload_n dX1_sightAt_13 rfl ?_
  refine w_getR (w := some (6, k, 0)) ff_X1_27 rfl rfl dX1_sightAt_14 rfl ?_
  refine w_alen (v := 6) rfl rfl dX1_sightAt_17 ?_
  refine w_icmp_ge (tgt := 30) dX1_sightAt_18 (by decide) (fun h => absurd h (nI_ge (b := 6) (by omega) (by omega))) (fun _ => ?_)
  refine w_aload_n dX1_sightAt_21 rfl ?_
  refine w_getR (w := some (6, k, 0)) ff_X1_27 rfl rfl dX1_sightAt_22 rfl ?_
  refine w_iload_n dX1_sightAt_25 rfl ?_
  refine w_aaload (a := i) (w := some (7, k, i)) rfl (by decide) (fun _ => rfl) (vp_in_nI (by omega) (by omega)) (nI_clamp (by omega)) (by show (if i < 6 then _ else _) = _; rw [if_pos (show i < 6 by omega)]) dX1_sightAt_26 ?_
  refine w_goto (tgt := 31) dX1_sightAt_27 (by decide) ?_
  exact w_areturn dX1_sightAt_31 rfl rfl (⟨rfl, rfl⟩)

theorem jcp_eq {I : xF4 Int32} {k j k2 j2 f : Nat} (hk : k2 ≠ k) (hf : f < 5) : jcpI I k j k2 j2 3 k j f = I 3 k2 j2 f := by
  rcases (show f = 0 ∨ f = 1 ∨ f = 2 ∨ f = 3 ∨ f = 4 by omega) with rfl | rfl | rfl | rfl | rfl <;> simp [jcpI, xup, hk]
theorem jcp_ne {I : xF4 Int32} {k j k2 j2 t b j' s : Nat} (h : ¬ (t = 3 ∧ b = k ∧ j' = j)) : jcpI I k j k2 j2 t b j' s = I t b j' s := by
  unfold jcpI
  try dsimp only
  have e : ∀ (f : xF4 Int32) (s9 : Nat) (v : Int32), xup f 3 k j s9 v t b j' s = f t b j' s := fun f s9 v => by unfold xup; rw [if_neg (fun q => h ⟨q.1, q.2.1, q.2.2.1⟩)]
  rw [e, e, e, e, e]
theorem scp_eq {I : xF4 Int32} {k c k2 c2 f : Nat} (hk : k2 ≠ k) (hf : f < 7) : scpI I k c k2 c2 5 k c f = I 5 k2 c2 f := by
  rcases (show f = 0 ∨ f = 1 ∨ f = 2 ∨ f = 3 ∨ f = 4 ∨ f = 5 ∨ f = 6 by omega) with rfl | rfl | rfl | rfl | rfl | rfl | rfl <;> simp [scpI, scloI, xup, hk]
theorem scp_ne {I : xF4 Int32} {k c k2 c2 t b c' s : Nat} (h : ¬ (t = 5 ∧ b = k ∧ c' = c)) : scpI I k c k2 c2 t b c' s = I t b c' s := by
  unfold scpI scloI
  try dsimp only
  have e : ∀ (f : xF4 Int32) (s9 : Nat) (v : Int32), xup f 5 k c s9 v t b c' s = f t b c' s := fun f s9 v => by unfold xup; rw [if_neg (fun q => h ⟨q.1, q.2.1, q.2.2.1⟩)]
  rw [e, e, e, e, e, e, e]
def gcpI (I : xF4 Int32) (k i k2 i2 : Nat) : xF4 Int32 := xup (xup (xup I 7 k i 0 (I 7 k2 i2 0)) 7 k i 1 (I 7 k2 i2 1)) 7 k i 2 (I 7 k2 i2 2)
theorem gcp_eq {I : xF4 Int32} {k i k2 i2 f : Nat} (hk : k2 ≠ k) (hf : f < 3) : gcpI I k i k2 i2 7 k i f = I 7 k2 i2 f := by
  rcases (show f = 0 ∨ f = 1 ∨ f = 2 by omega) with rfl | rfl | rfl <;> simp [gcpI, xup]
theorem gcp_ne {I : xF4 Int32} {k i k2 i2 t b i' s : Nat} (h : ¬ (t = 7 ∧ b = k ∧ i' = i)) : gcpI I k i k2 i2 t b i' s = I t b i' s := by
  unfold gcpI
  have e : ∀ (f : xF4 Int32) (s9 : Nat) (v : Int32), xup f 7 k i s9 v t b i' s = f t b i' s := fun f s9 v => by unfold xup; rw [if_neg (fun q => h ⟨q.1, q.2.1, q.2.2.1⟩)]
  rw [e, e, e]

theorem c_copyJudge {I : xF4 Int32} {L : xF4 Int64} (k j k2 j2 : Nat) : Tri 1 109 m_X1_copyJudge [vR 3 k j, vR 3 k2 j2] (rM I L) (pV (jcpI I k j k2 j2) L) := by
  refine ⟨k_X1_copyJudge, Nat.le_of_ble_eq_true rfl, ?_⟩
  show Wp _ _ _ 0 [some (vR 3 k j), some (vR 3 k2 j2)] [] (rM I L) _
  refine w_aload_n dX1_copyJudge_0 rfl ?_
  refine w_ifnull (tgt := 13) dX1_copyJudge_1 (by decide) (fun h => by cases h) (fun _ _ => ?_)
  refine w_aload_n dX1_copyJudge_4 rfl ?_
  refine w_ifnull (tgt := 13) dX1_copyJudge_5 (by decide) (fun h => by cases h) (fun _ _ => ?_)
  refine w_aload_n dX1_copyJudge_8 rfl ?_
  refine w_aload_n dX1_copyJudge_9 rfl ?_
  refine w_callV (as := [vR 3 k2 j2]) (st := []) (Tri.mono (c_X4_copy k j k2 j2) (Nat.le_of_ble_eq_true rfl)) rfl rfl tg_X4_copy lk_X1_75 in_X4_copy se_X4_copy rfl dX1_copyJudge_10 rfl (Nat.le_of_ble_eq_true rfl) (Nat.le_refl _) (Nat.le_refl _) ?_
  rintro _ _ ⟨rfl, rfl⟩ -
  exact w_return dX1_copyJudge_13 rfl rfl (⟨rfl, rfl⟩)

theorem c_copySuit {I : xF4 Int32} {L : xF4 Int64} (k j k2 j2 : Nat) : Tri 2 109 m_X1_copySuit [vR 5 k j, vR 5 k2 j2] (rM I L) (pV (scpI I k j k2 j2) L) := by
  refine ⟨k_X1_copySuit, Nat.le_of_ble_eq_true rfl, ?_⟩
  show Wp _ _ _ 0 [some (vR 5 k j), some (vR 5 k2 j2)] [] (rM I L) _
  refine w_aload_n dX1_copySuit_0 rfl ?_
  refine w_ifnull (tgt := 13) dX1_copySuit_1 (by decide) (fun h => by cases h) (fun _ _ => ?_)
  refine w_aload_n dX1_copySuit_4 rfl ?_
  refine w_ifnull (tgt := 13) dX1_copySuit_5 (by decide) (fun h => by cases h) (fun _ _ => ?_)
  refine w_aload_n dX1_copySuit_8 rfl ?_
  refine w_aload_n dX1_copySuit_9 rfl ?_
  refine w_callV (as := [vR 5 k2 j2]) (st := []) (Tri.mono (c_X8_copy k j k2 j2) (Nat.le_of_ble_eq_true rfl)) rfl rfl tg_X8_copy lk_X1_79 in_X8_copy se_X8_copy rfl dX1_copySuit_10 rfl (Nat.le_of_ble_eq_true rfl) (Nat.le_refl _) (Nat.le_refl _) ?_
  rintro _ _ ⟨rfl, rfl⟩ -
  exact w_return dX1_copySuit_13 rfl rfl (⟨rfl, rfl⟩)

theorem c_copySight {I : xF4 Int32} {L : xF4 Int64} (k j k2 j2 : Nat) : Tri 1 109 m_X1_copySight [vR 7 k j, vR 7 k2 j2] (rM I L) (pV (gcpI I k j k2 j2) L) := by
  refine ⟨k_X1_copySight, Nat.le_of_ble_eq_true rfl, ?_⟩
  show Wp _ _ _ 0 [some (vR 7 k j), some (vR 7 k2 j2)] [] (rM I L) _
  refine w_aload_n dX1_copySight_0 rfl ?_
  refine w_ifnull (tgt := 24) dX1_copySight_1 (by decide) (fun h => by cases h) (fun _ _ => ?_)
  refine w_aload_n dX1_copySight_4 rfl ?_
  refine w_ifnull (tgt := 24) dX1_copySight_5 (by decide) (fun h => by cases h) (fun _ _ => ?_)
  refine w_aload_n dX1_copySight_8 rfl ?_
  refine w_aload_n dX1_copySight_9 rfl ?_
  refine w_getI ff_X1_82 rfl rfl dX1_copySight_10 ?_
  refine w_aload_n dX1_copySight_13 rfl ?_
  refine w_getI ff_X1_85 rfl rfl dX1_copySight_14 ?_
  refine w_aload_n dX1_copySight_17 rfl ?_
  refine w_getI ff_X1_88 rfl rfl dX1_copySight_18 ?_
  refine w_callV (as := [vI (I 7 k2 j2 0), vI (I 7 k2 j2 1), vI (I 7 k2 j2 2)]) (st := []) (Tri.mono (c_X7_begin k j _ _ _) (Nat.le_of_ble_eq_true rfl)) rfl rfl tg_X7_begin lk_X1_91 in_X7_begin se_X7_begin rfl dX1_copySight_21 rfl (Nat.le_of_ble_eq_true rfl) (Nat.le_refl _) (Nat.le_refl _) ?_
  rintro _ _ ⟨rfl, rfl⟩ -
  exact w_return dX1_copySight_24 rfl rfl (⟨rfl, rfl⟩)

/-- the court k has the counts, day, crime and the first of each of a's rows -/
def PartIs (I : xF4 Int32) (k : Nat) (a : aA) (jn cn gn : Nat) : Prop := I 1 k 0 6 = nI (dY a) ∧ I 1 k 0 7 = nI (cR a) ∧
  (∀ j, j < jn → ∀ f, f < 4 → I 3 k j f = nI (jF a j f)) ∧ (∀ j, j < jn → I 3 k j 4 = sC a j) ∧ (∀ c, c < cn → ∀ f, f < 7 → f ≠ 5 → I 5 k c f = nI (sF a c f)) ∧ (∀ c, c < cn → I 5 k c 5 = byI (bY a c)) ∧ (∀ i, i < gn → ∀ f, f < 3 → I 7 k i f = nI (gF a i f))
theorem PartIs.jstep {I : xF4 Int32} {k k2 : Nat} {a : aA} {jn cn gn : Nat} (h : PartIs I k a jn cn gn) (h2 : CourtIs I k2 a) (hk : k2 ≠ k) (hj : jn < nJ a) : PartIs (jcpI I k jn k2 jn) k a (jn + 1) cn gn := by
  obtain ⟨p1, p2, p3, p4, p5, p6, p7⟩ := h
  refine ⟨(jcp_ne (by omega)).trans p1, (jcp_ne (by omega)).trans p2, fun j hj2 f hf => ?_, fun j hj2 => ?_, fun c hc f hf h5 => (jcp_ne (by omega)).trans (p5 c hc f hf h5), fun c hc => (jcp_ne (by omega)).trans (p6 c hc), fun i hi f hf => (jcp_ne (by omega)).trans (p7 i hi f hf)⟩
  · by_cases e : j = jn
    · subst e; rw [jcp_eq hk (by omega)]; exact h2.j hj hf
    · rw [jcp_ne (by omega)]; exact p3 j (by omega) f hf
  · by_cases e : j = jn
    · subst e; rw [jcp_eq hk (by omega)]; exact h2.sc hj
    · rw [jcp_ne (by omega)]; exact p4 j (by omega)
theorem PartIs.cstep {I : xF4 Int32} {k k2 : Nat} {a : aA} {jn cn gn : Nat} (h : PartIs I k a jn cn gn) (h2 : CourtIs I k2 a) (hk : k2 ≠ k) (hj : cn < nC a) : PartIs (scpI I k cn k2 cn) k a jn (cn + 1) gn := by
  obtain ⟨p1, p2, p3, p4, p5, p6, p7⟩ := h
  refine ⟨(scp_ne (by omega)).trans p1, (scp_ne (by omega)).trans p2, fun j hj2 f hf => (scp_ne (by omega)).trans (p3 j hj2 f hf), fun j hj2 => (scp_ne (by omega)).trans (p4 j hj2), fun c hc f hf h5 => ?_, fun c hc => ?_, fun i hi f hf => (scp_ne (by omega)).trans (p7 i hi f hf)⟩
  · by_cases e : c = cn
    · subst e; rw [scp_eq hk (by omega)]; exact h2.s hj hf h5
    · rw [scp_ne (by omega)]; exact p5 c (by omega) f hf h5
  · by_cases e : c = cn
    · subst e; rw [scp_eq hk (by omega)]; exact h2.b hj
    · rw [scp_ne (by omega)]; exact p6 c (by omega)
theorem PartIs.gstep {I : xF4 Int32} {k k2 : Nat} {a : aA} {jn cn gn : Nat} (h : PartIs I k a jn cn gn) (h2 : CourtIs I k2 a) (hk : k2 ≠ k) (hj : gn < nG a) : PartIs (gcpI I k gn k2 gn) k a jn cn (gn + 1) := by
  obtain ⟨p1, p2, p3, p4, p5, p6, p7⟩ := h
  refine ⟨(gcp_ne (by omega)).trans p1, (gcp_ne (by omega)).trans p2, fun j hj2 f hf => (gcp_ne (by omega)).trans (p3 j hj2 f hf), fun j hj2 => (gcp_ne (by omega)).trans (p4 j hj2), fun c hc f hf h5 => (gcp_ne (by omega)).trans (p5 c hc f hf h5), fun c hc => (gcp_ne (by omega)).trans (p6 c hc), fun i hi f hf => ?_⟩
  by_cases e : i = gn
  · subst e; rw [gcp_eq hk (by omega)]; exact h2.g hj hf
  · rw [gcp_ne (by omega)]; exact p7 i (by omega) f hf
theorem jcp_fr {I : xF4 Int32} {k j k2 j2 : Nat} : FrC k I (jcpI I k j k2 j2) := fun t b j' s h => jcp_ne (fun q => h ⟨Or.inr (Or.inl q.1), q.2.1⟩)
theorem scp_fr {I : xF4 Int32} {k j k2 j2 : Nat} : FrC k I (scpI I k j k2 j2) := fun t b j' s h => scp_ne (fun q => h ⟨Or.inr (Or.inr (Or.inl q.1)), q.2.1⟩)
theorem gcp_fr {I : xF4 Int32} {k j k2 j2 : Nat} : FrC k I (gcpI I k j k2 j2) := fun t b j' s h => gcp_ne (fun q => h ⟨Or.inr (Or.inr (Or.inr q.1)), q.2.1⟩)

theorem l_copy3 {L : xF4 Int64} {k k2 : Nat} {a : aA} (hk : k2 ≠ k) (hw : WF a) {I0 : xF4 Int32} : ∀ (m c : Nat) (I : xF4 Int32), c + m = nG a → CourtIs I k2 a → PartIs I k a (nJ a) (nC a) c → I 1 k 0 5 = nI (nG a) → I 1 k 0 3 = nI (nJ a) → I 1 k 0 4 = nI (nC a) → FrC k I0 I → Wp 3 109 m_X1_copy 100 [some (vR 1 k 0), some (vR 1 k2 0), some (vI (nI c))] [] (rM I L) (pC k a I0 L) := by
  intro m
  induction m with
  | zero =>
    intro c I hm hc2 hp hn1 hnj hnc h0
    have e : c = nG a := by omega
    subst e
    obtain ⟨ft0, ft1, ft2, ft3, ft4, -⟩ := id hw
    refine w_iload_n dX1_copy_100 rfl ?_
    refine w_aload_n dX1_copy_101 rfl ?_
    refine w_getI ff_X1_42 rfl rfl dX1_copy_102 ?_
    rw [show (I 1 k 0 5 : Int32) = nI (nG a) from hn1]
    refine w_icmp_ge (tgt := 127) dX1_copy_105 (by decide) (fun _ => ?_) (fun h => absurd (nI_le (Nat.le_refl _) (by omega)) h)
    exact w_return dX1_copy_127 rfl rfl (⟨rfl, I, rfl, ⟨hnj, hnc, hn1, hp.1, hp.2.1, fun j hj => ⟨hp.2.2.1 j hj, hp.2.2.2.1 j hj⟩, fun c hc => ⟨hp.2.2.2.2.1 c hc, hp.2.2.2.2.2.1 c hc⟩, hp.2.2.2.2.2.2⟩, h0⟩)
  | succ m ih =>
    intro c I hm hc2 hp hn1 hnj hnc h0
    have hcc : c < nG a := by omega
    obtain ⟨ft0, ft1, ft2, ft3, ft4, -⟩ := id hw
    refine w_iload_n dX1_copy_100 rfl ?_
    refine w_aload_n dX1_copy_101 rfl ?_
    refine w_getI ff_X1_42 rfl rfl dX1_copy_102 ?_
    rw [show (I 1 k 0 5 : Int32) = nI (nG a) from hn1]
    refine w_icmp_ge (tgt := 127) dX1_copy_105 (by decide) (fun h => absurd h (nI_ge hcc (by omega))) (fun _ => ?_)
    refine w_aload_n dX1_copy_108 rfl ?_
    refine w_iload_n dX1_copy_109 rfl ?_
    refine w_callV (as := [vI (nI c)]) (st := []) (Tri.mono (c_gAtR hn1 ft2 hcc) (Nat.le_of_ble_eq_true rfl)) rfl rfl tg_X1_sightAt lk_X1_67 in_X1_sightAt se_X1_sightAt rfl dX1_copy_110 rfl (Nat.le_of_ble_eq_true rfl) (Nat.le_refl _) (Nat.le_refl _) ?_
    rintro _ _ ⟨rfl, rfl⟩ -
    refine w_aload_n dX1_copy_113 rfl ?_
    refine w_iload_n dX1_copy_114 rfl ?_
    refine w_callV (as := [vI (nI c)]) (st := [vR 7 k c]) (Tri.mono (c_gAt hc2 hw hcc) (Nat.le_of_ble_eq_true rfl)) rfl rfl tg_X1_sightAt lk_X1_67 in_X1_sightAt se_X1_sightAt rfl dX1_copy_115 rfl (Nat.le_of_ble_eq_true rfl) (Nat.le_refl _) (Nat.le_refl _) ?_
    rintro _ _ ⟨rfl, rfl⟩ -
    refine w_callS (as := [vR 7 k c, vR 7 k2 c]) (st := []) (Tri.mono (c_copySight k c k2 c) (Nat.le_of_ble_eq_true rfl)) tg_X1_copySight lk_X1_71 sa_X1_copySight rfl dX1_copy_118 rfl (Nat.le_of_ble_eq_true rfl) (Nat.le_refl _) (Nat.le_refl _) ?_
    rintro _ _ ⟨rfl, rfl⟩ -
    refine w_iinc (v := nI (c + 1)) (ls' := [some (vR 1 k 0), some (vR 1 k2 0), some (vI (nI (c + 1)))]) dX1_copy_121 rfl (nI_1 _) rfl ?_
    refine w_goto (tgt := 100) dX1_copy_124 (by decide) ?_
    exact ih (c + 1) _ (by omega) (gcp_fr.court hk hc2) (hp.gstep hc2 hk hcc) ((gcp_ne (by omega)).trans hn1) ((gcp_ne (by omega)).trans hnj) ((gcp_ne (by omega)).trans hnc) (h0.tr gcp_fr)

theorem l_copy2 {L : xF4 Int64} {k k2 : Nat} {a : aA} (hk : k2 ≠ k) (hw : WF a) {I0 : xF4 Int32} : ∀ (m c : Nat) (I : xF4 Int32), c + m = nC a → CourtIs I k2 a → PartIs I k a (nJ a) c 0 → I 1 k 0 4 = nI (nC a) → I 1 k 0 3 = nI (nJ a) → FrC k I0 I → Wp 3 109 m_X1_copy 63 [some (vR 1 k 0), some (vR 1 k2 0), some (vI (nI c))] [] (rM I L) (pC k a I0 L) := by
  intro m
  induction m with
  | zero =>
    intro c I hm hc2 hp hn1 hnj h0
    have e : c = nC a := by omega
    subst e
    obtain ⟨ft0, ft1, ft2, ft3, ft4, -⟩ := id hw
    refine w_iload_n dX1_copy_63 rfl ?_
    refine w_aload_n dX1_copy_64 rfl ?_
    refine w_getI ff_X1_39 rfl rfl dX1_copy_65 ?_
    rw [show (I 1 k 0 4 : Int32) = nI (nC a) from hn1]
    refine w_icmp_ge (tgt := 90) dX1_copy_68 (by decide) (fun _ => ?_) (fun h => absurd (nI_le (Nat.le_refl _) (by omega)) h)
    refine w_aload_n dX1_copy_90 rfl ?_
    refine w_aload_n dX1_copy_91 rfl ?_
    refine w_getI ff_X1_42 rfl rfl dX1_copy_92 ?_
    rw [show (I 1 k2 0 5 : Int32) = nI (nG a) from hc2.2.2.1]
    refine w_putI ff_X1_42 rfl rfl rfl rfl dX1_copy_95 ?_
    refine w_iconst (v := 0) dX1_copy_98 (by decide) ?_
    refine w_istore_n (ls' := [some (vR 1 k 0), some (vR 1 k2 0), some (vI (0))]) dX1_copy_99 rfl ?_
    have hf : FrC k I (xup I 1 k 0 5 (nI (nG a))) := FrC.up (by decide)
    refine l_copy3 hk hw (nG a) 0 _ (Nat.zero_add _) (hf.court hk hc2) ?_ xup_self  ((xup_slot (by decide)).trans hnj) ((xup_slot (by decide)).trans hn1) (h0.tr hf)
    obtain ⟨p1, p2, p3, p4, p5, p6, p7⟩ := hp
    exact ⟨(xup_slot (by decide)).trans p1, (xup_slot (by decide)).trans p2, fun j hj f hf => (xup_tag (by decide)).trans (p3 j hj f hf), fun j hj => (xup_tag (by decide)).trans (p4 j hj), fun c hc f hf h5 => (xup_tag (by decide)).trans (p5 c hc f hf h5), fun c hc => (xup_tag (by decide)).trans (p6 c hc), fun i hi f hf => (xup_tag (by decide)).trans (p7 i hi f hf)⟩
  | succ m ih =>
    intro c I hm hc2 hp hn1 hnj h0
    have hcc : c < nC a := by omega
    obtain ⟨ft0, ft1, ft2, ft3, ft4, -⟩ := id hw
    refine w_iload_n dX1_copy_63 rfl ?_
    refine w_aload_n dX1_copy_64 rfl ?_
    refine w_getI ff_X1_39 rfl rfl dX1_copy_65 ?_
    rw [show (I 1 k 0 4 : Int32) = nI (nC a) from hn1]
    refine w_icmp_ge (tgt := 90) dX1_copy_68 (by decide) (fun h => absurd h (nI_ge hcc (by omega))) (fun _ => ?_)
    refine w_aload_n dX1_copy_71 rfl ?_
    refine w_iload_n dX1_copy_72 rfl ?_
    refine w_callV (as := [vI (nI c)]) (st := []) (Tri.mono (c_sAtR hn1 ft1 hcc) (Nat.le_of_ble_eq_true rfl)) rfl rfl tg_X1_suitAt lk_X1_59 in_X1_suitAt se_X1_suitAt rfl dX1_copy_73 rfl (Nat.le_of_ble_eq_true rfl) (Nat.le_refl _) (Nat.le_refl _) ?_
    rintro _ _ ⟨rfl, rfl⟩ -
    refine w_aload_n dX1_copy_76 rfl ?_
    refine w_iload_n dX1_copy_77 rfl ?_
    refine w_callV (as := [vI (nI c)]) (st := [vR 5 k c]) (Tri.mono (c_sAt hc2 hw hcc) (Nat.le_of_ble_eq_true rfl)) rfl rfl tg_X1_suitAt lk_X1_59 in_X1_suitAt se_X1_suitAt rfl dX1_copy_78 rfl (Nat.le_of_ble_eq_true rfl) (Nat.le_refl _) (Nat.le_refl _) ?_
    rintro _ _ ⟨rfl, rfl⟩ -
    refine w_callS (as := [vR 5 k c, vR 5 k2 c]) (st := []) (Tri.mono (c_copySuit k c k2 c) (Nat.le_of_ble_eq_true rfl)) tg_X1_copySuit lk_X1_63 sa_X1_copySuit rfl dX1_copy_81 rfl (Nat.le_of_ble_eq_true rfl) (Nat.le_refl _) (Nat.le_refl _) ?_
    rintro _ _ ⟨rfl, rfl⟩ -
    refine w_iinc (v := nI (c + 1)) (ls' := [some (vR 1 k 0), some (vR 1 k2 0), some (vI (nI (c + 1)))]) dX1_copy_84 rfl (nI_1 _) rfl ?_
    refine w_goto (tgt := 63) dX1_copy_87 (by decide) ?_
    exact ih (c + 1) _ (by omega) (scp_fr.court hk hc2) (hp.cstep hc2 hk hcc) ((scp_ne (by omega)).trans hn1) ((scp_ne (by omega)).trans hnj) (h0.tr scp_fr)

theorem l_copy1 {L : xF4 Int64} {k k2 : Nat} {a : aA} (hk : k2 ≠ k) (hw : WF a) {I0 : xF4 Int32} : ∀ (m c : Nat) (I : xF4 Int32), c + m = nJ a → CourtIs I k2 a → PartIs I k a c 0 0 → I 1 k 0 3 = nI (nJ a) → FrC k I0 I → Wp 3 109 m_X1_copy 26 [some (vR 1 k 0), some (vR 1 k2 0), some (vI (nI c))] [] (rM I L) (pC k a I0 L) := by
  intro m
  induction m with
  | zero =>
    intro c I hm hc2 hp hn1 h0
    have e : c = nJ a := by omega
    subst e
    obtain ⟨ft0, ft1, ft2, ft3, ft4, -⟩ := id hw
    refine w_iload_n dX1_copy_26 rfl ?_
    refine w_aload_n dX1_copy_27 rfl ?_
    refine w_getI ff_X1_35 rfl rfl dX1_copy_28 ?_
    rw [show (I 1 k 0 3 : Int32) = nI (nJ a) from hn1]
    refine w_icmp_ge (tgt := 53) dX1_copy_31 (by decide) (fun _ => ?_) (fun h => absurd (nI_le (Nat.le_refl _) (by omega)) h)
    refine w_aload_n dX1_copy_53 rfl ?_
    refine w_aload_n dX1_copy_54 rfl ?_
    refine w_getI ff_X1_39 rfl rfl dX1_copy_55 ?_
    rw [show (I 1 k2 0 4 : Int32) = nI (nC a) from hc2.2.1]
    refine w_putI ff_X1_39 rfl rfl rfl rfl dX1_copy_58 ?_
    refine w_iconst (v := 0) dX1_copy_61 (by decide) ?_
    refine w_istore_n (ls' := [some (vR 1 k 0), some (vR 1 k2 0), some (vI (0))]) dX1_copy_62 rfl ?_
    have hf : FrC k I (xup I 1 k 0 4 (nI (nC a))) := FrC.up (by decide)
    refine l_copy2 hk hw (nC a) 0 _ (Nat.zero_add _) (hf.court hk hc2) ?_ xup_self  ((xup_slot (by decide)).trans hn1) (h0.tr hf)
    obtain ⟨p1, p2, p3, p4, p5, p6, p7⟩ := hp
    exact ⟨(xup_slot (by decide)).trans p1, (xup_slot (by decide)).trans p2, fun j hj f hf => (xup_tag (by decide)).trans (p3 j hj f hf), fun j hj => (xup_tag (by decide)).trans (p4 j hj), fun c hc f hf h5 => (xup_tag (by decide)).trans (p5 c hc f hf h5), fun c hc => (xup_tag (by decide)).trans (p6 c hc), fun i hi f hf => (xup_tag (by decide)).trans (p7 i hi f hf)⟩
  | succ m ih =>
    intro c I hm hc2 hp hn1 h0
    have hcc : c < nJ a := by omega
    obtain ⟨ft0, ft1, ft2, ft3, ft4, -⟩ := id hw
    refine w_iload_n dX1_copy_26 rfl ?_
    refine w_aload_n dX1_copy_27 rfl ?_
    refine w_getI ff_X1_35 rfl rfl dX1_copy_28 ?_
    rw [show (I 1 k 0 3 : Int32) = nI (nJ a) from hn1]
    refine w_icmp_ge (tgt := 53) dX1_copy_31 (by decide) (fun h => absurd h (nI_ge hcc (by omega))) (fun _ => ?_)
    refine w_aload_n dX1_copy_34 rfl ?_
    refine w_iload_n dX1_copy_35 rfl ?_
    refine w_callV (as := [vI (nI c)]) (st := []) (Tri.mono (c_jAtR hn1 ft0 hcc) (Nat.le_of_ble_eq_true rfl)) rfl rfl tg_X1_judgeAt lk_X1_51 in_X1_judgeAt se_X1_judgeAt rfl dX1_copy_36 rfl (Nat.le_of_ble_eq_true rfl) (Nat.le_refl _) (Nat.le_refl _) ?_
    rintro _ _ ⟨rfl, rfl⟩ -
    refine w_aload_n dX1_copy_39 rfl ?_
    refine w_iload_n dX1_copy_40 rfl ?_
    refine w_callV (as := [vI (nI c)]) (st := [vR 3 k c]) (Tri.mono (c_jAt hc2 hw hcc) (Nat.le_of_ble_eq_true rfl)) rfl rfl tg_X1_judgeAt lk_X1_51 in_X1_judgeAt se_X1_judgeAt rfl dX1_copy_41 rfl (Nat.le_of_ble_eq_true rfl) (Nat.le_refl _) (Nat.le_refl _) ?_
    rintro _ _ ⟨rfl, rfl⟩ -
    refine w_callS (as := [vR 3 k c, vR 3 k2 c]) (st := []) (Tri.mono (c_copyJudge k c k2 c) (Nat.le_of_ble_eq_true rfl)) tg_X1_copyJudge lk_X1_55 sa_X1_copyJudge rfl dX1_copy_44 rfl (Nat.le_of_ble_eq_true rfl) (Nat.le_refl _) (Nat.le_refl _) ?_
    rintro _ _ ⟨rfl, rfl⟩ -
    refine w_iinc (v := nI (c + 1)) (ls' := [some (vR 1 k 0), some (vR 1 k2 0), some (vI (nI (c + 1)))]) dX1_copy_47 rfl (nI_1 _) rfl ?_
    refine w_goto (tgt := 26) dX1_copy_50 (by decide) ?_
    exact ih (c + 1) _ (by omega) (jcp_fr.court hk hc2) (hp.jstep hc2 hk hcc) ((jcp_ne (by omega)).trans hn1) (h0.tr jcp_fr)

theorem c_copy {I : xF4 Int32} {L : xF4 Int64} {k k2 : Nat} {a : aA} (hk : k2 ≠ k) (hw : WF a) (hc2 : CourtIs I k2 a) : Tri 3 109 m_X1_copy [vR 1 k 0, vR 1 k2 0] (rM I L) (pC k a I L) := by
  refine ⟨k_X1_copy, Nat.le_of_ble_eq_true rfl, ?_⟩
  show Wp _ _ _ 0 [some (vR 1 k 0), some (vR 1 k2 0), none] [] (rM I L) _
  have e6 := hc2.2.2.2.1
  have e7 := hc2.2.2.2.2.1
  have e3 := hc2.1
  have hk9 : ¬ k2 = k := hk
  refine w_aload_n dX1_copy_0 rfl ?_
  refine w_aload_n dX1_copy_1 rfl ?_
  refine w_getI ff_X1_45 rfl rfl dX1_copy_2 ?_
  rw [show (I 1 k2 0 6 : Int32) = nI (dY a) from by first | exact e6 | (simp only [xup, hk9, false_and, and_false, if_false]; exact e6)]
  refine w_putI ff_X1_45 rfl rfl rfl rfl dX1_copy_5 ?_
  refine w_aload_n dX1_copy_8 rfl ?_
  refine w_aload_n dX1_copy_9 rfl ?_
  refine w_getI ff_X1_48 rfl rfl dX1_copy_10 ?_
  rw [show ((xup I 1 k 0 6 (nI (dY a))) 1 k2 0 7 : Int32) = nI (cR a) from by first | exact e7 | (simp only [xup, hk9, false_and, and_false, if_false]; exact e7)]
  refine w_putI ff_X1_48 rfl rfl rfl rfl dX1_copy_13 ?_
  refine w_aload_n dX1_copy_16 rfl ?_
  refine w_aload_n dX1_copy_17 rfl ?_
  refine w_getI ff_X1_35 rfl rfl dX1_copy_18 ?_
  rw [show ((xup (xup I 1 k 0 6 (nI (dY a))) 1 k 0 7 (nI (cR a))) 1 k2 0 3 : Int32) = nI (nJ a) from by first | exact e3 | (simp only [xup, hk9, false_and, and_false, if_false]; exact e3)]
  refine w_putI ff_X1_35 rfl rfl rfl rfl dX1_copy_21 ?_
  refine w_iconst (v := 0) dX1_copy_24 (by decide) ?_
  refine w_istore_n (ls' := [some (vR 1 k 0), some (vR 1 k2 0), some (vI (0))]) dX1_copy_25 rfl ?_
  have hf : FrC k I (xup (xup (xup I 1 k 0 6 (nI (dY a))) 1 k 0 7 (nI (cR a))) 1 k 0 3 (nI (nJ a))) := ((FrC.up (by decide)).tr (FrC.up (by decide))).tr (FrC.up (by decide))
  refine l_copy1 hk hw (nJ a) 0 _ (Nat.zero_add _) (hf.court hk hc2) ?_ xup_self hf
  exact ⟨(xup_slot (by decide)).trans ((xup_slot (by decide)).trans xup_self), (xup_slot (by decide)).trans xup_self, fun j hj => absurd hj (Nat.not_lt_zero _), fun j hj => absurd hj (Nat.not_lt_zero _), fun j hj => absurd hj (Nat.not_lt_zero _), fun j hj => absurd hj (Nat.not_lt_zero _), fun j hj => absurd hj (Nat.not_lt_zero _)⟩

def begI (I : xF4 Int32) (k : Nat) : xF4 Int32 := xup (xup (xup (xup (xup I 1 k 0 3 0) 1 k 0 4 0) 1 k 0 5 0) 1 k 0 6 0) 1 k 0 7 20
theorem beg_fr {I : xF4 Int32} {k : Nat} : FrC k I (begI I k) := ((((FrC.up (by decide)).tr (FrC.up (by decide))).tr (FrC.up (by decide))).tr (FrC.up (by decide))).tr (FrC.up (by decide))

theorem c_begin {I : xF4 Int32} {L : xF4 Int64} (k : Nat) : Tri 0 109 m_X1_begin [vR 1 k 0] (rM I L) (pV (begI I k) L) := by
  refine ⟨k_X1_begin, Nat.le_of_ble_eq_true rfl, ?_⟩
  show Wp _ _ _ 0 [some (vR 1 k 0)] [] (rM I L) _
  refine w_aload_n dX1_begin_0 rfl ?_
  refine w_iconst (v := 0) dX1_begin_1 (by decide) ?_
  refine w_putI ff_X1_35 rfl rfl rfl rfl dX1_begin_2 ?_
  refine w_aload_n dX1_begin_5 rfl ?_
  refine w_iconst (v := 0) dX1_begin_6 (by decide) ?_
  refine w_putI ff_X1_39 rfl rfl rfl rfl dX1_begin_7 ?_
  refine w_aload_n dX1_begin_10 rfl ?_
  refine w_iconst (v := 0) dX1_begin_11 (by decide) ?_
  refine w_putI ff_X1_42 rfl rfl rfl rfl dX1_begin_12 ?_
  refine w_aload_n dX1_begin_15 rfl ?_
  refine w_iconst (v := 0) dX1_begin_16 (by decide) ?_
  refine w_putI ff_X1_45 rfl rfl rfl rfl dX1_begin_17 ?_
  refine w_aload_n dX1_begin_20 rfl ?_
  refine w_bipush (v := 20) dX1_begin_21 (by decide) ?_
  refine w_putI ff_X1_48 rfl rfl rfl rfl dX1_begin_23 ?_
  exact w_return dX1_begin_26 rfl rfl (⟨rfl, rfl⟩)
