theorem c_X10_within {I : xF4 Int32} {L : xF4 Int64} (x lo hi : Int32) : Tri 0 109 m_X10_within [vI (x), vI (lo), vI (hi)] (rM I L) (pI (bI (lo ≤ x ∧ x ≤ hi)) I L) := by
  refine ⟨k_X10_within, Nat.le_of_ble_eq_true rfl, ?_⟩
  show Wp _ _ _ 0 [some (vI (x)), some (vI (lo)), some (vI (hi))] [] (rM I L) _
  refine w_iload_n dX10_within_0 rfl ?_
  refine w_iload_n dX10_within_1 rfl ?_
  refine w_icmp_lt (tgt := 14) dX10_within_2 (by decide) (fun h1 => ?_) (fun h1 => ?_)
  · skip
    refine w_iconst (v := 0) dX10_within_14 (by decide) ?_
    exact w_ireturn dX10_within_15 rfl (rfl) rfl (⟨by rw [bI_f (fun q => by first | exact i32_nle.mpr h1 q.1 | exact i32_nle.mpr h2 q.2)], rfl⟩)
  · skip
    refine w_iload_n dX10_within_5 rfl ?_
    refine w_iload_n dX10_within_6 rfl ?_
    refine w_icmp_gt (tgt := 14) dX10_within_7 (by decide) (fun h2 => ?_) (fun h2 => ?_)
    · skip
      refine w_iconst (v := 0) dX10_within_14 (by decide) ?_
      exact w_ireturn dX10_within_15 rfl (rfl) rfl (⟨by rw [bI_f (fun q => by first | exact i32_nle.mpr h1 q.1 | exact i32_nle.mpr h2 q.2)], rfl⟩)
    · skip
      refine w_iconst (v := 1) dX10_within_10 (by decide) ?_
      refine w_goto (tgt := 15) dX10_within_11 (by decide) ?_
      exact w_ireturn dX10_within_15 rfl (rfl) rfl (⟨by rw [bI_t ⟨i32_nlt.mp h1, i32_nlt.mp h2⟩], rfl⟩)

/-- a tenth, as the class reckons it -/
def tenI (kind n : Int32) : Int32 := if kind = 0 then (n + 9) / 10 else if kind = 1 then (if (n + 9) / 10 ≤ (1 : Int32) then 1 else (n + 9) / 10 - 1) else if kind = 2 then ((n + 9) / 10 + 1) / 2 else 2 * (((n + 9) / 10 + 1) / 2)

theorem c_X10_tenthBy {I : xF4 Int32} {L : xF4 Int64} (kind n : Int32) : Tri 1 109 m_X10_tenthBy [vI (kind), vI (n)] (rM I L) (pI (tenI kind n) I L) := by
  refine ⟨k_X10_tenthBy, Nat.le_of_ble_eq_true rfl, ?_⟩
  show Wp _ _ _ 0 [some (vI (kind)), some (vI (n)), none, none] [] (rM I L) _
  refine w_iload_n dX10_tenthBy_0 rfl ?_
  refine w_bipush (v := 9) dX10_tenthBy_1 (by decide) ?_
  refine w_iadd dX10_tenthBy_3 ?_
  refine w_bipush (v := 10) dX10_tenthBy_4 (by decide) ?_
  refine w_idiv dX10_tenthBy_6 (by decide) ?_
  refine w_istore_n (ls' := [some (vI (kind)), some (vI (n)), some (vI (((n) + (9)) / (10))), none]) dX10_tenthBy_7 rfl ?_
  refine w_iload_n dX10_tenthBy_8 rfl ?_
  refine w_iconst (v := 1) dX10_tenthBy_9 (by decide) ?_
  refine w_iadd dX10_tenthBy_10 ?_
  refine w_iconst (v := 2) dX10_tenthBy_11 (by decide) ?_
  refine w_idiv dX10_tenthBy_12 (by decide) ?_
  refine w_istore_n (ls' := [some (vI (kind)), some (vI (n)), some (vI (((n) + (9)) / (10))), some (vI (((((n) + (9)) / (10)) + (1)) / (2)))]) dX10_tenthBy_13 rfl ?_
  refine w_iload_n dX10_tenthBy_14 rfl ?_
  by_cases h1_0 : kind = 0
  · skip
    refine w_tabIn (off := 25) (tgt := 40) dX10_tenthBy_15 (by rw [h1_0]; decide) (by rw [h1_0]; decide) (by rw [h1_0]; rfl) (by decide) ?_
    refine w_iload_n dX10_tenthBy_40 rfl ?_
    exact w_ireturn dX10_tenthBy_41 rfl (rfl) rfl (⟨by unfold tenI; simp only [*, if_true, if_false]; try rfl, rfl⟩)
  by_cases h1_1 : kind = 1
  · skip
    refine w_tabIn (off := 27) (tgt := 42) dX10_tenthBy_15 (by rw [h1_1]; decide) (by rw [h1_1]; decide) (by rw [h1_1]; rfl) (by decide) ?_
    refine w_iload_n dX10_tenthBy_42 rfl ?_
    refine w_iconst (v := 1) dX10_tenthBy_43 (by decide) ?_
    refine w_icmp_le (tgt := 53) dX10_tenthBy_44 (by decide) (fun h2 => ?_) (fun h2 => ?_)
    · skip
      refine w_iconst (v := 1) dX10_tenthBy_53 (by decide) ?_
      exact w_ireturn dX10_tenthBy_54 rfl (rfl) rfl (⟨by unfold tenI; simp only [*, if_true, if_false]; try rfl, rfl⟩)
    · skip
      refine w_iload_n dX10_tenthBy_47 rfl ?_
      refine w_iconst (v := 1) dX10_tenthBy_48 (by decide) ?_
      refine w_isub dX10_tenthBy_49 ?_
      refine w_goto (tgt := 54) dX10_tenthBy_50 (by decide) ?_
      exact w_ireturn dX10_tenthBy_54 rfl (rfl) rfl (⟨by unfold tenI; simp only [*, if_true, if_false]; try rfl, rfl⟩)
  by_cases h1_2 : kind = 2
  · skip
    refine w_tabIn (off := 40) (tgt := 55) dX10_tenthBy_15 (by rw [h1_2]; decide) (by rw [h1_2]; decide) (by rw [h1_2]; rfl) (by decide) ?_
    refine w_iload_n dX10_tenthBy_55 rfl ?_
    exact w_ireturn dX10_tenthBy_56 rfl (rfl) rfl (⟨by unfold tenI; simp only [*, if_true, if_false]; try rfl, rfl⟩)
  refine w_tabOut (tgt := 57) dX10_tenthBy_15 (i32_out (lo := 0) (hi := 2) (fun k h1 h2 e => ?_)) (by decide) ?_
  · skip
    rcases (show k = 0 ∨ k = 1 ∨ k = 2 by omega) with rfl | rfl | rfl
    · exact h1_0 (i32_ofT e (by decide))
    · exact h1_1 (i32_ofT e (by decide))
    · exact h1_2 (i32_ofT e (by decide))
  refine w_iconst (v := 2) dX10_tenthBy_57 (by decide) ?_
  refine w_iload_n dX10_tenthBy_58 rfl ?_
  refine w_imul dX10_tenthBy_59 ?_
  exact w_ireturn dX10_tenthBy_60 rfl (rfl) rfl (⟨by unfold tenI; simp only [*, if_true, if_false]; try rfl, rfl⟩)

def lessI (cr n : Int32) : Int32 := if (0 : Int32) < cr - n / 5 then cr - n / 5 else 0
def moreI (cr n : Int32) : Int32 := if cr + n / 5 < 99 then cr + n / 5 else 99

theorem c_X10_lessCrime {I : xF4 Int32} {L : xF4 Int64} (cr n : Int32) : Tri 1 109 m_X10_lessCrime [vI (cr), vI (n)] (rM I L) (pI (lessI cr n) I L) := by
  refine ⟨k_X10_lessCrime, Nat.le_of_ble_eq_true rfl, ?_⟩
  show Wp _ _ _ 0 [some (vI (cr)), some (vI (n))] [] (rM I L) _
  refine w_iconst (v := 0) dX10_lessCrime_0 (by decide) ?_
  refine w_iload_n dX10_lessCrime_1 rfl ?_
  refine w_iload_n dX10_lessCrime_2 rfl ?_
  refine w_iconst (v := 5) dX10_lessCrime_3 (by decide) ?_
  refine w_idiv dX10_lessCrime_4 (by decide) ?_
  refine w_isub dX10_lessCrime_5 ?_
  refine w_max mm_X10_335 mm_max_sta mm_ini mm_max_code (by decide) (Nat.le_of_ble_eq_true rfl) dX10_lessCrime_6 ?_
  exact w_ireturn dX10_lessCrime_9 rfl (rfl) rfl (⟨rfl, rfl⟩)

theorem c_X10_moreCrime {I : xF4 Int32} {L : xF4 Int64} (cr n : Int32) : Tri 1 109 m_X10_moreCrime [vI (cr), vI (n)] (rM I L) (pI (moreI cr n) I L) := by
  refine ⟨k_X10_moreCrime, Nat.le_of_ble_eq_true rfl, ?_⟩
  show Wp _ _ _ 0 [some (vI (cr)), some (vI (n))] [] (rM I L) _
  refine w_bipush (v := 99) dX10_moreCrime_0 (by decide) ?_
  refine w_iload_n dX10_moreCrime_2 rfl ?_
  refine w_iload_n dX10_moreCrime_3 rfl ?_
  refine w_iconst (v := 5) dX10_moreCrime_4 (by decide) ?_
  refine w_idiv dX10_moreCrime_5 (by decide) ?_
  refine w_iadd dX10_moreCrime_6 ?_
  refine w_min mm_X10_340 mm_min_sta mm_ini mm_min_code (by decide) (Nat.le_of_ble_eq_true rfl) dX10_moreCrime_7 ?_
  exact w_ireturn dX10_moreCrime_10 rfl (rfl) rfl (⟨rfl, rfl⟩)

def seatI (code places place : Int32) : Int32 := code >>> ((2 * (places - 1 - place)) &&& 31) &&& 3

theorem c_X10_seatIn {I : xF4 Int32} {L : xF4 Int64} (code places place : Int32) : Tri 0 109 m_X10_seatIn [vI (code), vI (places), vI (place)] (rM I L) (pI (seatI code places place) I L) := by
  refine ⟨k_X10_seatIn, Nat.le_of_ble_eq_true rfl, ?_⟩
  show Wp _ _ _ 0 [some (vI (code)), some (vI (places)), some (vI (place))] [] (rM I L) _
  refine w_iload_n dX10_seatIn_0 rfl ?_
  refine w_iconst (v := 2) dX10_seatIn_1 (by decide) ?_
  refine w_iload_n dX10_seatIn_2 rfl ?_
  refine w_iconst (v := 1) dX10_seatIn_3 (by decide) ?_
  refine w_isub dX10_seatIn_4 ?_
  refine w_iload_n dX10_seatIn_5 rfl ?_
  refine w_isub dX10_seatIn_6 ?_
  refine w_imul dX10_seatIn_7 ?_
  refine w_ishr dX10_seatIn_8 ?_
  refine w_iconst (v := 3) dX10_seatIn_9 (by decide) ?_
  refine w_iand dX10_seatIn_10 ?_
  exact w_ireturn dX10_seatIn_11 rfl (rfl) rfl (⟨rfl, rfl⟩)

def jbegI (I : xF4 Int32) (k j : Nat) (a b c : Int32) : xF4 Int32 := xup (xup (xup (xup (xup I 3 k j 0 a) 3 k j 1 b) 3 k j 2 c) 3 k j 3 0) 3 k j 4 0
def jcpI (I : xF4 Int32) (k j k2 j2 : Nat) : xF4 Int32 := let I1 := xup I 3 k j 0 (I 3 k2 j2 0); let I2 := xup I1 3 k j 1 (I1 3 k2 j2 1); let I3 := xup I2 3 k j 2 (I2 3 k2 j2 2); let I4 := xup I3 3 k j 3 (I3 3 k2 j2 3); xup I4 3 k j 4 (I4 3 k2 j2 4)
abbrev bearP (sort t pur hea : Int32) : Prop := (sort = 1 ∧ t ≤ pur) ∨ (¬ sort = 1 ∧ (¬ sort = 2 ∨ t < hea))
def servI (I : xF4 Int32) (k j : Nat) (sort t day : Int32) : xF4 Int32 := if sort = 0 then xup I 3 k j 3 (day + t) else if sort = 1 then xup I 3 k j 2 (I 3 k j 2 - t) else if sort = 2 then xup (xup I 3 k j 1 (I 3 k j 1 - t)) 3 k j 4 ((xup I 3 k j 1 (I 3 k j 1 - t)) 3 k j 4 + t) else xup (xup I 3 k j 3 (day + 1)) 3 k j 4 ((xup I 3 k j 3 (day + 1)) 3 k j 4 + 1)
def minI (x y : Int32) : Int32 := if y < x then y else x
def maxI (x y : Int32) : Int32 := if x < y then y else x
def regI (I : xF4 Int32) (k j : Nat) (sort t day : Int32) : xF4 Int32 := if sort = 0 then xup I 3 k j 3 (minI (I 3 k j 3) day) else if sort = 1 then xup I 3 k j 2 (minI 99 (I 3 k j 2 + t)) else if sort = 2 then xup (xup I 3 k j 1 (minI 20 (I 3 k j 1 + t))) 3 k j 4 ((xup I 3 k j 1 (minI 20 (I 3 k j 1 + t))) 3 k j 4 - t) else xup (xup I 3 k j 3 (minI (I 3 k j 3) day)) 3 k j 4 ((xup I 3 k j 3 (minI (I 3 k j 3) day)) 3 k j 4 - 1)

theorem c_X4_begin {I : xF4 Int32} {L : xF4 Int64} (k j : Nat) (a b c : Int32) : Tri 0 109 m_X4_begin [vR 3 k j, vI (a), vI (b), vI (c)] (rM I L) (pV (jbegI I k j a b c) L) := by
  refine ⟨k_X4_begin, Nat.le_of_ble_eq_true rfl, ?_⟩
  show Wp _ _ _ 0 [some (vR 3 k j), some (vI (a)), some (vI (b)), some (vI (c))] [] (rM I L) _
  refine w_aload_n dX4_begin_0 rfl ?_
  refine w_iload_n dX4_begin_1 rfl ?_
  refine w_putI ff_X4_9 rfl rfl rfl rfl dX4_begin_2 ?_
  refine w_aload_n dX4_begin_5 rfl ?_
  refine w_iload_n dX4_begin_6 rfl ?_
  refine w_putI ff_X4_15 rfl rfl rfl rfl dX4_begin_7 ?_
  refine w_aload_n dX4_begin_10 rfl ?_
  refine w_iload_n dX4_begin_11 rfl ?_
  refine w_putI ff_X4_18 rfl rfl rfl rfl dX4_begin_12 ?_
  refine w_aload_n dX4_begin_15 rfl ?_
  refine w_iconst (v := 0) dX4_begin_16 (by decide) ?_
  refine w_putI ff_X4_21 rfl rfl rfl rfl dX4_begin_17 ?_
  refine w_aload_n dX4_begin_20 rfl ?_
  refine w_iconst (v := 0) dX4_begin_21 (by decide) ?_
  refine w_putI ff_X4_24 rfl rfl rfl rfl dX4_begin_22 ?_
  exact w_return dX4_begin_25 rfl rfl (⟨rfl, rfl⟩)

theorem c_X4_copy {I : xF4 Int32} {L : xF4 Int64} (k j : Nat) (k2 j2 : Nat) : Tri 0 109 m_X4_copy [vR 3 k j, vR 3 k2 j2] (rM I L) (pV (jcpI I k j k2 j2) L) := by
  refine ⟨k_X4_copy, Nat.le_of_ble_eq_true rfl, ?_⟩
  show Wp _ _ _ 0 [some (vR 3 k j), some (vR 3 k2 j2)] [] (rM I L) _
  refine w_aload_n dX4_copy_0 rfl ?_
  refine w_aload_n dX4_copy_1 rfl ?_
  refine w_getI ff_X4_9 rfl rfl dX4_copy_2 ?_
  refine w_putI ff_X4_9 rfl rfl rfl rfl dX4_copy_5 ?_
  refine w_aload_n dX4_copy_8 rfl ?_
  refine w_aload_n dX4_copy_9 rfl ?_
  refine w_getI ff_X4_15 rfl rfl dX4_copy_10 ?_
  refine w_putI ff_X4_15 rfl rfl rfl rfl dX4_copy_13 ?_
  refine w_aload_n dX4_copy_16 rfl ?_
  refine w_aload_n dX4_copy_17 rfl ?_
  refine w_getI ff_X4_18 rfl rfl dX4_copy_18 ?_
  refine w_putI ff_X4_18 rfl rfl rfl rfl dX4_copy_21 ?_
  refine w_aload_n dX4_copy_24 rfl ?_
  refine w_aload_n dX4_copy_25 rfl ?_
  refine w_getI ff_X4_21 rfl rfl dX4_copy_26 ?_
  refine w_putI ff_X4_21 rfl rfl rfl rfl dX4_copy_29 ?_
  refine w_aload_n dX4_copy_32 rfl ?_
  refine w_aload_n dX4_copy_33 rfl ?_
  refine w_getI ff_X4_24 rfl rfl dX4_copy_34 ?_
  refine w_putI ff_X4_24 rfl rfl rfl rfl dX4_copy_37 ?_
  exact w_return dX4_copy_40 rfl rfl (⟨rfl, rfl⟩)

theorem c_X4_bears {I : xF4 Int32} {L : xF4 Int64} (k j : Nat) (sort t : Int32) : Tri 0 109 m_X4_bears [vR 3 k j, vI (sort), vI (t)] (rM I L) (pI (bI (bearP sort t (I 3 k j 2) (I 3 k j 1))) I L) := by
  refine ⟨k_X4_bears, Nat.le_of_ble_eq_true rfl, ?_⟩
  show Wp _ _ _ 0 [some (vR 3 k j), some (vI (sort)), some (vI (t))] [] (rM I L) _
  refine w_iload_n dX4_bears_0 rfl ?_
  refine w_iconst (v := 1) dX4_bears_1 (by decide) ?_
  refine w_icmp_ne (tgt := 19) dX4_bears_2 (by decide) (fun h1 => ?_) (fun h1 => ?_)
  · skip
    refine w_iload_n dX4_bears_19 rfl ?_
    refine w_iconst (v := 2) dX4_bears_20 (by decide) ?_
    refine w_icmp_ne (tgt := 32) dX4_bears_21 (by decide) (fun h2 => ?_) (fun h2 => ?_)
    · skip
      refine w_iconst (v := 1) dX4_bears_32 (by decide) ?_
      refine w_goto (tgt := 37) dX4_bears_33 (by decide) ?_
      exact w_ireturn dX4_bears_37 rfl (rfl) rfl (⟨by unfold bI; simp_all [i32_nlt, i32_nle, Int32.not_le, Int32.not_lt], rfl⟩)
    · skip
      refine w_aload_n dX4_bears_24 rfl ?_
      refine w_getI ff_X4_15 rfl rfl dX4_bears_25 ?_
      refine w_iload_n dX4_bears_28 rfl ?_
      refine w_icmp_le (tgt := 36) dX4_bears_29 (by decide) (fun h3 => ?_) (fun h3 => ?_)
      · skip
        refine w_iconst (v := 0) dX4_bears_36 (by decide) ?_
        exact w_ireturn dX4_bears_37 rfl (rfl) rfl (⟨by unfold bI; simp_all [i32_nlt, i32_nle, Int32.not_le, Int32.not_lt], rfl⟩)
      · skip
        refine w_iconst (v := 1) dX4_bears_32 (by decide) ?_
        refine w_goto (tgt := 37) dX4_bears_33 (by decide) ?_
        exact w_ireturn dX4_bears_37 rfl (rfl) rfl (⟨by unfold bI; simp_all [i32_nlt, i32_nle, Int32.not_le, Int32.not_lt], rfl⟩)
  · skip
    refine w_aload_n dX4_bears_5 rfl ?_
    refine w_getI ff_X4_18 rfl rfl dX4_bears_6 ?_
    refine w_iload_n dX4_bears_9 rfl ?_
    refine w_icmp_lt (tgt := 17) dX4_bears_10 (by decide) (fun h2 => ?_) (fun h2 => ?_)
    · skip
      refine w_iconst (v := 0) dX4_bears_17 (by decide) ?_
      exact w_ireturn dX4_bears_18 rfl (rfl) rfl (⟨by unfold bI; simp_all [i32_nlt, i32_nle, Int32.not_le, Int32.not_lt], rfl⟩)
    · skip
      refine w_iconst (v := 1) dX4_bears_13 (by decide) ?_
      refine w_goto (tgt := 18) dX4_bears_14 (by decide) ?_
      exact w_ireturn dX4_bears_18 rfl (rfl) rfl (⟨by unfold bI; simp_all [i32_nlt, i32_nle, Int32.not_le, Int32.not_lt], rfl⟩)

theorem c_X4_serve {I : xF4 Int32} {L : xF4 Int64} (k j : Nat) (sort t day : Int32) : Tri 0 109 m_X4_serve [vR 3 k j, vI (sort), vI (t), vI (day)] (rM I L) (pV (servI I k j sort t day) L) := by
  refine ⟨k_X4_serve, Nat.le_of_ble_eq_true rfl, ?_⟩
  show Wp _ _ _ 0 [some (vR 3 k j), some (vI (sort)), some (vI (t)), some (vI (day))] [] (rM I L) _
  refine w_iload_n dX4_serve_0 rfl ?_
  by_cases h1_0 : sort = 0
  · skip
    refine w_tabIn (off := 27) (tgt := 28) dX4_serve_1 (by rw [h1_0]; decide) (by rw [h1_0]; decide) (by rw [h1_0]; rfl) (by decide) ?_
    refine w_aload_n dX4_serve_28 rfl ?_
    refine w_iload_n dX4_serve_29 rfl ?_
    refine w_iload_n dX4_serve_30 rfl ?_
    refine w_iadd dX4_serve_31 ?_
    refine w_putI ff_X4_21 rfl rfl rfl rfl dX4_serve_32 ?_
    refine w_goto (tgt := 91) dX4_serve_35 (by decide) ?_
    exact w_return dX4_serve_91 rfl rfl (⟨rfl, by unfold servI; simp only [*, if_true, if_false]; try rfl⟩)
  by_cases h1_1 : sort = 1
  · skip
    refine w_tabIn (off := 37) (tgt := 38) dX4_serve_1 (by rw [h1_1]; decide) (by rw [h1_1]; decide) (by rw [h1_1]; rfl) (by decide) ?_
    refine w_aload_n dX4_serve_38 rfl ?_
    refine w_dup dX4_serve_39 rfl ?_
    refine w_getI ff_X4_18 rfl rfl dX4_serve_40 ?_
    refine w_iload_n dX4_serve_43 rfl ?_
    refine w_isub dX4_serve_44 ?_
    refine w_putI ff_X4_18 rfl rfl rfl rfl dX4_serve_45 ?_
    refine w_goto (tgt := 91) dX4_serve_48 (by decide) ?_
    exact w_return dX4_serve_91 rfl rfl (⟨rfl, by unfold servI; simp only [*, if_true, if_false]; try rfl⟩)
  by_cases h1_2 : sort = 2
  · skip
    refine w_tabIn (off := 50) (tgt := 51) dX4_serve_1 (by rw [h1_2]; decide) (by rw [h1_2]; decide) (by rw [h1_2]; rfl) (by decide) ?_
    refine w_aload_n dX4_serve_51 rfl ?_
    refine w_dup dX4_serve_52 rfl ?_
    refine w_getI ff_X4_15 rfl rfl dX4_serve_53 ?_
    refine w_iload_n dX4_serve_56 rfl ?_
    refine w_isub dX4_serve_57 ?_
    refine w_putI ff_X4_15 rfl rfl rfl rfl dX4_serve_58 ?_
    refine w_aload_n dX4_serve_61 rfl ?_
    refine w_dup dX4_serve_62 rfl ?_
    refine w_getI ff_X4_24 rfl rfl dX4_serve_63 ?_
    refine w_iload_n dX4_serve_66 rfl ?_
    refine w_iadd dX4_serve_67 ?_
    refine w_putI ff_X4_24 rfl rfl rfl rfl dX4_serve_68 ?_
    refine w_goto (tgt := 91) dX4_serve_71 (by decide) ?_
    exact w_return dX4_serve_91 rfl rfl (⟨rfl, by unfold servI; simp only [*, if_true, if_false]; try rfl⟩)
  refine w_tabOut (tgt := 74) dX4_serve_1 (i32_out (lo := 0) (hi := 2) (fun k h1 h2 e => ?_)) (by decide) ?_
  · skip
    rcases (show k = 0 ∨ k = 1 ∨ k = 2 by omega) with rfl | rfl | rfl
    · exact h1_0 (i32_ofT e (by decide))
    · exact h1_1 (i32_ofT e (by decide))
    · exact h1_2 (i32_ofT e (by decide))
  refine w_aload_n dX4_serve_74 rfl ?_
  refine w_iload_n dX4_serve_75 rfl ?_
  refine w_iconst (v := 1) dX4_serve_76 (by decide) ?_
  refine w_iadd dX4_serve_77 ?_
  refine w_putI ff_X4_21 rfl rfl rfl rfl dX4_serve_78 ?_
  refine w_aload_n dX4_serve_81 rfl ?_
  refine w_dup dX4_serve_82 rfl ?_
  refine w_getI ff_X4_24 rfl rfl dX4_serve_83 ?_
  refine w_iconst (v := 1) dX4_serve_86 (by decide) ?_
  refine w_iadd dX4_serve_87 ?_
  refine w_putI ff_X4_24 rfl rfl rfl rfl dX4_serve_88 ?_
  exact w_return dX4_serve_91 rfl rfl (⟨rfl, by unfold servI; simp only [*, if_true, if_false]; try rfl⟩)

theorem c_X4_regain {I : xF4 Int32} {L : xF4 Int64} (k j : Nat) (sort t day : Int32) : Tri 1 109 m_X4_regain [vR 3 k j, vI (sort), vI (t), vI (day)] (rM I L) (pV (regI I k j sort t day) L) := by
  refine ⟨k_X4_regain, Nat.le_of_ble_eq_true rfl, ?_⟩
  show Wp _ _ _ 0 [some (vR 3 k j), some (vI (sort)), some (vI (t)), some (vI (day))] [] (rM I L) _
  refine w_iload_n dX4_regain_0 rfl ?_
  by_cases h1_0 : sort = 0
  · skip
    refine w_tabIn (off := 27) (tgt := 28) dX4_regain_1 (by rw [h1_0]; decide) (by rw [h1_0]; decide) (by rw [h1_0]; rfl) (by decide) ?_
    refine w_aload_n dX4_regain_28 rfl ?_
    refine w_aload_n dX4_regain_29 rfl ?_
    refine w_getI ff_X4_21 rfl rfl dX4_regain_30 ?_
    refine w_iload_n dX4_regain_33 rfl ?_
    refine w_min mm_X4_27 mm_min_sta mm_ini mm_min_code (by decide) (Nat.le_of_ble_eq_true rfl) dX4_regain_34 ?_
    refine w_putI ff_X4_21 rfl rfl rfl rfl dX4_regain_37 ?_
    refine w_goto (tgt := 111) dX4_regain_40 (by decide) ?_
    exact w_return dX4_regain_111 rfl rfl (⟨rfl, by unfold regI; simp only [*, if_true, if_false]; try rfl⟩)
  by_cases h1_1 : sort = 1
  · skip
    refine w_tabIn (off := 42) (tgt := 43) dX4_regain_1 (by rw [h1_1]; decide) (by rw [h1_1]; decide) (by rw [h1_1]; rfl) (by decide) ?_
    refine w_aload_n dX4_regain_43 rfl ?_
    refine w_bipush (v := 99) dX4_regain_44 (by decide) ?_
    refine w_aload_n dX4_regain_46 rfl ?_
    refine w_getI ff_X4_18 rfl rfl dX4_regain_47 ?_
    refine w_iload_n dX4_regain_50 rfl ?_
    refine w_iadd dX4_regain_51 ?_
    refine w_min mm_X4_27 mm_min_sta mm_ini mm_min_code (by decide) (Nat.le_of_ble_eq_true rfl) dX4_regain_52 ?_
    refine w_putI ff_X4_18 rfl rfl rfl rfl dX4_regain_55 ?_
    refine w_goto (tgt := 111) dX4_regain_58 (by decide) ?_
    exact w_return dX4_regain_111 rfl rfl (⟨rfl, by unfold regI; simp only [*, if_true, if_false]; try rfl⟩)
  by_cases h1_2 : sort = 2
  · skip
    refine w_tabIn (off := 60) (tgt := 61) dX4_regain_1 (by rw [h1_2]; decide) (by rw [h1_2]; decide) (by rw [h1_2]; rfl) (by decide) ?_
    refine w_aload_n dX4_regain_61 rfl ?_
    refine w_bipush (v := 20) dX4_regain_62 (by decide) ?_
    refine w_aload_n dX4_regain_64 rfl ?_
    refine w_getI ff_X4_15 rfl rfl dX4_regain_65 ?_
    refine w_iload_n dX4_regain_68 rfl ?_
    refine w_iadd dX4_regain_69 ?_
    refine w_min mm_X4_27 mm_min_sta mm_ini mm_min_code (by decide) (Nat.le_of_ble_eq_true rfl) dX4_regain_70 ?_
    refine w_putI ff_X4_15 rfl rfl rfl rfl dX4_regain_73 ?_
    refine w_aload_n dX4_regain_76 rfl ?_
    refine w_dup dX4_regain_77 rfl ?_
    refine w_getI ff_X4_24 rfl rfl dX4_regain_78 ?_
    refine w_iload_n dX4_regain_81 rfl ?_
    refine w_isub dX4_regain_82 ?_
    refine w_putI ff_X4_24 rfl rfl rfl rfl dX4_regain_83 ?_
    refine w_goto (tgt := 111) dX4_regain_86 (by decide) ?_
    exact w_return dX4_regain_111 rfl rfl (⟨rfl, by unfold regI; simp only [*, if_true, if_false]; try rfl⟩)
  refine w_tabOut (tgt := 89) dX4_regain_1 (i32_out (lo := 0) (hi := 2) (fun k h1 h2 e => ?_)) (by decide) ?_
  · skip
    rcases (show k = 0 ∨ k = 1 ∨ k = 2 by omega) with rfl | rfl | rfl
    · exact h1_0 (i32_ofT e (by decide))
    · exact h1_1 (i32_ofT e (by decide))
    · exact h1_2 (i32_ofT e (by decide))
  refine w_aload_n dX4_regain_89 rfl ?_
  refine w_aload_n dX4_regain_90 rfl ?_
  refine w_getI ff_X4_21 rfl rfl dX4_regain_91 ?_
  refine w_iload_n dX4_regain_94 rfl ?_
  refine w_min mm_X4_27 mm_min_sta mm_ini mm_min_code (by decide) (Nat.le_of_ble_eq_true rfl) dX4_regain_95 ?_
  refine w_putI ff_X4_21 rfl rfl rfl rfl dX4_regain_98 ?_
  refine w_aload_n dX4_regain_101 rfl ?_
  refine w_dup dX4_regain_102 rfl ?_
  refine w_getI ff_X4_24 rfl rfl dX4_regain_103 ?_
  refine w_iconst (v := 1) dX4_regain_106 (by decide) ?_
  refine w_isub dX4_regain_107 ?_
  refine w_putI ff_X4_24 rfl rfl rfl rfl dX4_regain_108 ?_
  exact w_return dX4_regain_111 rfl rfl (⟨rfl, by unfold regI; simp only [*, if_true, if_false]; try rfl⟩)

def scloI (I : xF4 Int32) (k c : Nat) (n b t : Int32) : xF4 Int32 := xup (xup (xup I 5 k c 4 n) 5 k c 5 b) 5 k c 6 t
def sbegI (I : xF4 Int32) (k c : Nat) (s l m f : Int32) : xF4 Int32 := scloI (xup (xup (xup (xup I 5 k c 0 s) 5 k c 1 l) 5 k c 2 m) 5 k c 3 f) k c 0 (-4) 0
def scpI (I : xF4 Int32) (k c k2 c2 : Nat) : xF4 Int32 := let I1 := xup I 5 k c 0 (I 5 k2 c2 0); let I2 := xup I1 5 k c 1 (I1 5 k2 c2 1); let I3 := xup I2 5 k c 2 (I2 5 k2 c2 2); let I4 := xup I3 5 k c 3 (I3 5 k2 c2 3); scloI I4 k c (I4 5 k2 c2 4) (I4 5 k2 c2 5) (I4 5 k2 c2 6)
abbrev admP (what v least most : Int32) : Prop := (what = 0 ∧ 0 ≤ v ∧ v ≤ 3) ∨ (what = 1 ∧ 1 ≤ v ∧ v ≤ most) ∨ (what = 2 ∧ least ≤ v ∧ v ≤ 60) ∨ (what = 3 ∧ 0 ≤ v ∧ v ≤ 20)
def replI (I : xF4 Int32) (k c : Nat) (what v : Int32) : xF4 Int32 := if what = 0 then xup I 5 k c 0 v else if what = 1 then xup I 5 k c 1 v else if what = 2 then xup I 5 k c 2 v else xup I 5 k c 3 v
def replO (I : xF4 Int32) (k c : Nat) (what : Int32) : Int32 := if what = 0 then I 5 k c 0 else if what = 1 then I 5 k c 1 else if what = 2 then I 5 k c 2 else I 5 k c 3

theorem c_X8_close {I : xF4 Int32} {L : xF4 Int64} (k c : Nat) (n b t : Int32) : Tri 0 109 m_X8_close [vR 5 k c, vI (n), vI (b), vI (t)] (rM I L) (pV (scloI I k c n b t) L) := by
  refine ⟨k_X8_close, Nat.le_of_ble_eq_true rfl, ?_⟩
  show Wp _ _ _ 0 [some (vR 5 k c), some (vI (n)), some (vI (b)), some (vI (t))] [] (rM I L) _
  refine w_aload_n dX8_close_0 rfl ?_
  refine w_iload_n dX8_close_1 rfl ?_
  refine w_putI ff_X8_28 rfl rfl rfl rfl dX8_close_2 ?_
  refine w_aload_n dX8_close_5 rfl ?_
  refine w_iload_n dX8_close_6 rfl ?_
  refine w_putI ff_X8_31 rfl rfl rfl rfl dX8_close_7 ?_
  refine w_aload_n dX8_close_10 rfl ?_
  refine w_iload_n dX8_close_11 rfl ?_
  refine w_putI ff_X8_34 rfl rfl rfl rfl dX8_close_12 ?_
  exact w_return dX8_close_15 rfl rfl (⟨rfl, rfl⟩)

theorem c_X8_begin {I : xF4 Int32} {L : xF4 Int64} (k c : Nat) (s l m f : Int32) : Tri 1 109 m_X8_begin [vR 5 k c, vI (s), vI (l), vI (m), vI (f)] (rM I L) (pV (sbegI I k c s l m f) L) := by
  refine ⟨k_X8_begin, Nat.le_of_ble_eq_true rfl, ?_⟩
  show Wp _ _ _ 0 [some (vR 5 k c), some (vI (s)), some (vI (l)), some (vI (m)), some (vI (f))] [] (rM I L) _
  refine w_aload_n dX8_begin_0 rfl ?_
  refine w_iload_n dX8_begin_1 rfl ?_
  refine w_putI ff_X8_9 rfl rfl rfl rfl dX8_begin_2 ?_
  refine w_aload_n dX8_begin_5 rfl ?_
  refine w_iload_n dX8_begin_6 rfl ?_
  refine w_putI ff_X8_15 rfl rfl rfl rfl dX8_begin_7 ?_
  refine w_aload_n dX8_begin_10 rfl ?_
  refine w_iload_n dX8_begin_11 rfl ?_
  refine w_putI ff_X8_18 rfl rfl rfl rfl dX8_begin_12 ?_
  refine w_aload_n dX8_begin_15 rfl ?_
  refine w_iload dX8_begin_16 rfl ?_
  refine w_putI ff_X8_21 rfl rfl rfl rfl dX8_begin_18 ?_
  refine w_aload_n dX8_begin_21 rfl ?_
  refine w_iconst (v := 0) dX8_begin_22 (by decide) ?_
  refine w_bipush (v := (-4)) dX8_begin_23 (by decide) ?_
  refine w_iconst (v := 0) dX8_begin_25 (by decide) ?_
  refine w_callV (as := [vI (0), vI ((-4)), vI (0)]) (st := []) (Tri.mono (c_X8_close k c (0) ((-4)) (0)) (Nat.le_of_ble_eq_true rfl)) rfl rfl tg_X8_close lk_X8_24 in_X8_close se_X8_close rfl dX8_begin_26 rfl (Nat.le_of_ble_eq_true rfl) (Nat.le_refl _) (Nat.le_refl _) ?_
  rintro _ _ ⟨rfl, rfl⟩ -
  exact w_return dX8_begin_29 rfl rfl (⟨rfl, rfl⟩)

theorem c_X8_copy {I : xF4 Int32} {L : xF4 Int64} (k c : Nat) (k2 c2 : Nat) : Tri 1 109 m_X8_copy [vR 5 k c, vR 5 k2 c2] (rM I L) (pV (scpI I k c k2 c2) L) := by
  refine ⟨k_X8_copy, Nat.le_of_ble_eq_true rfl, ?_⟩
  show Wp _ _ _ 0 [some (vR 5 k c), some (vR 5 k2 c2)] [] (rM I L) _
  refine w_aload_n dX8_copy_0 rfl ?_
  refine w_aload_n dX8_copy_1 rfl ?_
  refine w_getI ff_X8_9 rfl rfl dX8_copy_2 ?_
  refine w_putI ff_X8_9 rfl rfl rfl rfl dX8_copy_5 ?_
  refine w_aload_n dX8_copy_8 rfl ?_
  refine w_aload_n dX8_copy_9 rfl ?_
  refine w_getI ff_X8_15 rfl rfl dX8_copy_10 ?_
  refine w_putI ff_X8_15 rfl rfl rfl rfl dX8_copy_13 ?_
  refine w_aload_n dX8_copy_16 rfl ?_
  refine w_aload_n dX8_copy_17 rfl ?_
  refine w_getI ff_X8_18 rfl rfl dX8_copy_18 ?_
  refine w_putI ff_X8_18 rfl rfl rfl rfl dX8_copy_21 ?_
  refine w_aload_n dX8_copy_24 rfl ?_
  refine w_aload_n dX8_copy_25 rfl ?_
  refine w_getI ff_X8_21 rfl rfl dX8_copy_26 ?_
  refine w_putI ff_X8_21 rfl rfl rfl rfl dX8_copy_29 ?_
  refine w_aload_n dX8_copy_32 rfl ?_
  refine w_aload_n dX8_copy_33 rfl ?_
  refine w_getI ff_X8_28 rfl rfl dX8_copy_34 ?_
  refine w_aload_n dX8_copy_37 rfl ?_
  refine w_getI ff_X8_31 rfl rfl dX8_copy_38 ?_
  refine w_aload_n dX8_copy_41 rfl ?_
  refine w_getI ff_X8_34 rfl rfl dX8_copy_42 ?_
  refine w_callV (as := [vI ((xup (xup (xup (xup I 5 k c 0 (I 5 k2 c2 0)) 5 k c 1 ((xup I 5 k c 0 (I 5 k2 c2 0)) 5 k2 c2 1)) 5 k c 2 ((xup (xup I 5 k c 0 (I 5 k2 c2 0)) 5 k c 1 ((xup I 5 k c 0 (I 5 k2 c2 0)) 5 k2 c2 1)) 5 k2 c2 2)) 5 k c 3 ((xup (xup (xup I 5 k c 0 (I 5 k2 c2 0)) 5 k c 1 ((xup I 5 k c 0 (I 5 k2 c2 0)) 5 k2 c2 1)) 5 k c 2 ((xup (xup I 5 k c 0 (I 5 k2 c2 0)) 5 k c 1 ((xup I 5 k c 0 (I 5 k2 c2 0)) 5 k2 c2 1)) 5 k2 c2 2)) 5 k2 c2 3)) 5 k2 c2 4), vI ((xup (xup (xup (xup I 5 k c 0 (I 5 k2 c2 0)) 5 k c 1 ((xup I 5 k c 0 (I 5 k2 c2 0)) 5 k2 c2 1)) 5 k c 2 ((xup (xup I 5 k c 0 (I 5 k2 c2 0)) 5 k c 1 ((xup I 5 k c 0 (I 5 k2 c2 0)) 5 k2 c2 1)) 5 k2 c2 2)) 5 k c 3 ((xup (xup (xup I 5 k c 0 (I 5 k2 c2 0)) 5 k c 1 ((xup I 5 k c 0 (I 5 k2 c2 0)) 5 k2 c2 1)) 5 k c 2 ((xup (xup I 5 k c 0 (I 5 k2 c2 0)) 5 k c 1 ((xup I 5 k c 0 (I 5 k2 c2 0)) 5 k2 c2 1)) 5 k2 c2 2)) 5 k2 c2 3)) 5 k2 c2 5), vI ((xup (xup (xup (xup I 5 k c 0 (I 5 k2 c2 0)) 5 k c 1 ((xup I 5 k c 0 (I 5 k2 c2 0)) 5 k2 c2 1)) 5 k c 2 ((xup (xup I 5 k c 0 (I 5 k2 c2 0)) 5 k c 1 ((xup I 5 k c 0 (I 5 k2 c2 0)) 5 k2 c2 1)) 5 k2 c2 2)) 5 k c 3 ((xup (xup (xup I 5 k c 0 (I 5 k2 c2 0)) 5 k c 1 ((xup I 5 k c 0 (I 5 k2 c2 0)) 5 k2 c2 1)) 5 k c 2 ((xup (xup I 5 k c 0 (I 5 k2 c2 0)) 5 k c 1 ((xup I 5 k c 0 (I 5 k2 c2 0)) 5 k2 c2 1)) 5 k2 c2 2)) 5 k2 c2 3)) 5 k2 c2 6)]) (st := []) (Tri.mono (c_X8_close k c ((xup (xup (xup (xup I 5 k c 0 (I 5 k2 c2 0)) 5 k c 1 ((xup I 5 k c 0 (I 5 k2 c2 0)) 5 k2 c2 1)) 5 k c 2 ((xup (xup I 5 k c 0 (I 5 k2 c2 0)) 5 k c 1 ((xup I 5 k c 0 (I 5 k2 c2 0)) 5 k2 c2 1)) 5 k2 c2 2)) 5 k c 3 ((xup (xup (xup I 5 k c 0 (I 5 k2 c2 0)) 5 k c 1 ((xup I 5 k c 0 (I 5 k2 c2 0)) 5 k2 c2 1)) 5 k c 2 ((xup (xup I 5 k c 0 (I 5 k2 c2 0)) 5 k c 1 ((xup I 5 k c 0 (I 5 k2 c2 0)) 5 k2 c2 1)) 5 k2 c2 2)) 5 k2 c2 3)) 5 k2 c2 4) ((xup (xup (xup (xup I 5 k c 0 (I 5 k2 c2 0)) 5 k c 1 ((xup I 5 k c 0 (I 5 k2 c2 0)) 5 k2 c2 1)) 5 k c 2 ((xup (xup I 5 k c 0 (I 5 k2 c2 0)) 5 k c 1 ((xup I 5 k c 0 (I 5 k2 c2 0)) 5 k2 c2 1)) 5 k2 c2 2)) 5 k c 3 ((xup (xup (xup I 5 k c 0 (I 5 k2 c2 0)) 5 k c 1 ((xup I 5 k c 0 (I 5 k2 c2 0)) 5 k2 c2 1)) 5 k c 2 ((xup (xup I 5 k c 0 (I 5 k2 c2 0)) 5 k c 1 ((xup I 5 k c 0 (I 5 k2 c2 0)) 5 k2 c2 1)) 5 k2 c2 2)) 5 k2 c2 3)) 5 k2 c2 5) ((xup (xup (xup (xup I 5 k c 0 (I 5 k2 c2 0)) 5 k c 1 ((xup I 5 k c 0 (I 5 k2 c2 0)) 5 k2 c2 1)) 5 k c 2 ((xup (xup I 5 k c 0 (I 5 k2 c2 0)) 5 k c 1 ((xup I 5 k c 0 (I 5 k2 c2 0)) 5 k2 c2 1)) 5 k2 c2 2)) 5 k c 3 ((xup (xup (xup I 5 k c 0 (I 5 k2 c2 0)) 5 k c 1 ((xup I 5 k c 0 (I 5 k2 c2 0)) 5 k2 c2 1)) 5 k c 2 ((xup (xup I 5 k c 0 (I 5 k2 c2 0)) 5 k c 1 ((xup I 5 k c 0 (I 5 k2 c2 0)) 5 k2 c2 1)) 5 k2 c2 2)) 5 k2 c2 3)) 5 k2 c2 6)) (Nat.le_of_ble_eq_true rfl)) rfl rfl tg_X8_close lk_X8_24 in_X8_close se_X8_close rfl dX8_copy_45 rfl (Nat.le_of_ble_eq_true rfl) (Nat.le_refl _) (Nat.le_refl _) ?_
  rintro _ _ ⟨rfl, rfl⟩ -
  exact w_return dX8_copy_48 rfl rfl (⟨rfl, rfl⟩)

theorem c_X8_isHeard {I : xF4 Int32} {L : xF4 Int64} (k c : Nat) : Tri 0 109 m_X8_isHeard [vR 5 k c] (rM I L) (pI (bI (0 < I 5 k c 4)) I L) := by
  refine ⟨k_X8_isHeard, Nat.le_of_ble_eq_true rfl, ?_⟩
  show Wp _ _ _ 0 [some (vR 5 k c)] [] (rM I L) _
  refine w_aload_n dX8_isHeard_0 rfl ?_
  refine w_getI ff_X8_28 rfl rfl dX8_isHeard_1 ?_
  refine w_if_le (tgt := 11) dX8_isHeard_4 (by decide) (fun h1 => ?_) (fun h1 => ?_)
  · skip
    refine w_iconst (v := 0) dX8_isHeard_11 (by decide) ?_
    exact w_ireturn dX8_isHeard_12 rfl (rfl) rfl (⟨by unfold bI; simp_all [i32_nlt, i32_nle, Int32.not_le, Int32.not_lt], rfl⟩)
  · skip
    refine w_iconst (v := 1) dX8_isHeard_7 (by decide) ?_
    refine w_goto (tgt := 12) dX8_isHeard_8 (by decide) ?_
    exact w_ireturn dX8_isHeard_12 rfl (rfl) rfl (⟨by unfold bI; simp_all [i32_nlt, i32_nle, Int32.not_le, Int32.not_lt], rfl⟩)

theorem c_X8_admits {I : xF4 Int32} {L : xF4 Int64} (k c : Nat) (what v : Int32) : Tri 1 109 m_X8_admits [vR 5 k c, vI (what), vI (v)] (rM I L) (pI (bI (admP what v (I 5 k c 1) (I 5 k c 2))) I L) := by
  refine ⟨k_X8_admits, Nat.le_of_ble_eq_true rfl, ?_⟩
  show Wp _ _ _ 0 [some (vR 5 k c), some (vI (what)), some (vI (v))] [] (rM I L) _
  refine w_iload_n dX8_admits_0 rfl ?_
  by_cases h1_0 : what = 0
  · skip
    refine w_tabIn (off := 31) (tgt := 32) dX8_admits_1 (by rw [h1_0]; decide) (by rw [h1_0]; decide) (by rw [h1_0]; rfl) (by decide) ?_
    refine w_iload_n dX8_admits_32 rfl ?_
    refine w_iconst (v := 0) dX8_admits_33 (by decide) ?_
    refine w_iconst (v := 3) dX8_admits_34 (by decide) ?_
    refine w_callSN (as := [vI (v), vI (0), vI (3)]) (st := []) (Tri.mono (c_X10_within (v) (0) (3)) (Nat.le_of_ble_eq_true rfl)) tg_X10_within ln_X8_37 sa_X10_within rfl dX8_admits_35 rfl (Nat.le_of_ble_eq_true rfl) (Nat.le_refl _) (Nat.le_refl _) ?_
    rintro _ _ ⟨rfl, rfl⟩ -
    exact w_ireturn dX8_admits_38 rfl (bI_nar _) rfl (⟨by first | exact congrArg (fun z => some (vI z)) (bI_congr (by simp_all [admP])) | (unfold bI; simp_all [admP]), rfl⟩)
  by_cases h1_1 : what = 1
  · skip
    refine w_tabIn (off := 38) (tgt := 39) dX8_admits_1 (by rw [h1_1]; decide) (by rw [h1_1]; decide) (by rw [h1_1]; rfl) (by decide) ?_
    refine w_iload_n dX8_admits_39 rfl ?_
    refine w_iconst (v := 1) dX8_admits_40 (by decide) ?_
    refine w_aload_n dX8_admits_41 rfl ?_
    refine w_getI ff_X8_18 rfl rfl dX8_admits_42 ?_
    refine w_callSN (as := [vI (v), vI (1), vI (I 5 k c 2)]) (st := []) (Tri.mono (c_X10_within (v) (1) (I 5 k c 2)) (Nat.le_of_ble_eq_true rfl)) tg_X10_within ln_X8_37 sa_X10_within rfl dX8_admits_45 rfl (Nat.le_of_ble_eq_true rfl) (Nat.le_refl _) (Nat.le_refl _) ?_
    rintro _ _ ⟨rfl, rfl⟩ -
    exact w_ireturn dX8_admits_48 rfl (bI_nar _) rfl (⟨by first | exact congrArg (fun z => some (vI z)) (bI_congr (by simp_all [admP])) | (unfold bI; simp_all [admP]), rfl⟩)
  by_cases h1_2 : what = 2
  · skip
    refine w_tabIn (off := 48) (tgt := 49) dX8_admits_1 (by rw [h1_2]; decide) (by rw [h1_2]; decide) (by rw [h1_2]; rfl) (by decide) ?_
    refine w_iload_n dX8_admits_49 rfl ?_
    refine w_aload_n dX8_admits_50 rfl ?_
    refine w_getI ff_X8_15 rfl rfl dX8_admits_51 ?_
    refine w_bipush (v := 60) dX8_admits_54 (by decide) ?_
    refine w_callSN (as := [vI (v), vI (I 5 k c 1), vI (60)]) (st := []) (Tri.mono (c_X10_within (v) (I 5 k c 1) (60)) (Nat.le_of_ble_eq_true rfl)) tg_X10_within ln_X8_37 sa_X10_within rfl dX8_admits_56 rfl (Nat.le_of_ble_eq_true rfl) (Nat.le_refl _) (Nat.le_refl _) ?_
    rintro _ _ ⟨rfl, rfl⟩ -
    exact w_ireturn dX8_admits_59 rfl (bI_nar _) rfl (⟨by first | exact congrArg (fun z => some (vI z)) (bI_congr (by simp_all [admP])) | (unfold bI; simp_all [admP]), rfl⟩)
  by_cases h1_3 : what = 3
  · skip
    refine w_tabIn (off := 59) (tgt := 60) dX8_admits_1 (by rw [h1_3]; decide) (by rw [h1_3]; decide) (by rw [h1_3]; rfl) (by decide) ?_
    refine w_iload_n dX8_admits_60 rfl ?_
    refine w_iconst (v := 0) dX8_admits_61 (by decide) ?_
    refine w_bipush (v := 20) dX8_admits_62 (by decide) ?_
    refine w_callSN (as := [vI (v), vI (0), vI (20)]) (st := []) (Tri.mono (c_X10_within (v) (0) (20)) (Nat.le_of_ble_eq_true rfl)) tg_X10_within ln_X8_37 sa_X10_within rfl dX8_admits_64 rfl (Nat.le_of_ble_eq_true rfl) (Nat.le_refl _) (Nat.le_refl _) ?_
    rintro _ _ ⟨rfl, rfl⟩ -
    exact w_ireturn dX8_admits_67 rfl (bI_nar _) rfl (⟨by first | exact congrArg (fun z => some (vI z)) (bI_congr (by simp_all [admP])) | (unfold bI; simp_all [admP]), rfl⟩)
  refine w_tabOut (tgt := 68) dX8_admits_1 (i32_out (lo := 0) (hi := 3) (fun k h1 h2 e => ?_)) (by decide) ?_
  · skip
    rcases (show k = 0 ∨ k = 1 ∨ k = 2 ∨ k = 3 by omega) with rfl | rfl | rfl | rfl
    · exact h1_0 (i32_ofT e (by decide))
    · exact h1_1 (i32_ofT e (by decide))
    · exact h1_2 (i32_ofT e (by decide))
    · exact h1_3 (i32_ofT e (by decide))
  refine w_iconst (v := 0) dX8_admits_68 (by decide) ?_
  exact w_ireturn dX8_admits_69 rfl (rfl) rfl (⟨by first | exact congrArg (fun z => some (vI z)) (bI_congr (by simp_all [admP])) | (unfold bI; simp_all [admP]), rfl⟩)

theorem c_X8_replace {I : xF4 Int32} {L : xF4 Int64} (k c : Nat) (what v : Int32) : Tri 0 109 m_X8_replace [vR 5 k c, vI (what), vI (v)] (rM I L) (fun v9 M => v9 = some (vI (replO I k c what)) ∧ M = rM (replI I k c what v) L) := by
  refine ⟨k_X8_replace, Nat.le_of_ble_eq_true rfl, ?_⟩
  show Wp _ _ _ 0 [some (vR 5 k c), some (vI (what)), some (vI (v)), none] [] (rM I L) _
  refine w_iload_n dX8_replace_0 rfl ?_
  by_cases h1_0 : what = 0
  · skip
    refine w_tabIn (off := 27) (tgt := 28) dX8_replace_1 (by rw [h1_0]; decide) (by rw [h1_0]; decide) (by rw [h1_0]; rfl) (by decide) ?_
    refine w_aload_n dX8_replace_28 rfl ?_
    refine w_getI ff_X8_9 rfl rfl dX8_replace_29 ?_
    refine w_istore_n (ls' := [some (vR 5 k c), some (vI (what)), some (vI (v)), some (vI (I 5 k c 0))]) dX8_replace_32 rfl ?_
    refine w_aload_n dX8_replace_33 rfl ?_
    refine w_iload_n dX8_replace_34 rfl ?_
    refine w_putI ff_X8_9 rfl rfl rfl rfl dX8_replace_35 ?_
    refine w_goto (tgt := 77) dX8_replace_38 (by decide) ?_
    refine w_iload_n dX8_replace_77 rfl ?_
    exact w_ireturn dX8_replace_78 rfl (rfl) rfl (⟨by unfold replO; simp only [*, if_true, if_false]; try rfl, by unfold replI; simp only [*, if_true, if_false]; try rfl⟩)
  by_cases h1_1 : what = 1
  · skip
    refine w_tabIn (off := 40) (tgt := 41) dX8_replace_1 (by rw [h1_1]; decide) (by rw [h1_1]; decide) (by rw [h1_1]; rfl) (by decide) ?_
    refine w_aload_n dX8_replace_41 rfl ?_
    refine w_getI ff_X8_15 rfl rfl dX8_replace_42 ?_
    refine w_istore_n (ls' := [some (vR 5 k c), some (vI (what)), some (vI (v)), some (vI (I 5 k c 1))]) dX8_replace_45 rfl ?_
    refine w_aload_n dX8_replace_46 rfl ?_
    refine w_iload_n dX8_replace_47 rfl ?_
    refine w_putI ff_X8_15 rfl rfl rfl rfl dX8_replace_48 ?_
    refine w_goto (tgt := 77) dX8_replace_51 (by decide) ?_
    refine w_iload_n dX8_replace_77 rfl ?_
    exact w_ireturn dX8_replace_78 rfl (rfl) rfl (⟨by unfold replO; simp only [*, if_true, if_false]; try rfl, by unfold replI; simp only [*, if_true, if_false]; try rfl⟩)
  by_cases h1_2 : what = 2
  · skip
    refine w_tabIn (off := 53) (tgt := 54) dX8_replace_1 (by rw [h1_2]; decide) (by rw [h1_2]; decide) (by rw [h1_2]; rfl) (by decide) ?_
    refine w_aload_n dX8_replace_54 rfl ?_
    refine w_getI ff_X8_18 rfl rfl dX8_replace_55 ?_
    refine w_istore_n (ls' := [some (vR 5 k c), some (vI (what)), some (vI (v)), some (vI (I 5 k c 2))]) dX8_replace_58 rfl ?_
    refine w_aload_n dX8_replace_59 rfl ?_
    refine w_iload_n dX8_replace_60 rfl ?_
    refine w_putI ff_X8_18 rfl rfl rfl rfl dX8_replace_61 ?_
    refine w_goto (tgt := 77) dX8_replace_64 (by decide) ?_
    refine w_iload_n dX8_replace_77 rfl ?_
    exact w_ireturn dX8_replace_78 rfl (rfl) rfl (⟨by unfold replO; simp only [*, if_true, if_false]; try rfl, by unfold replI; simp only [*, if_true, if_false]; try rfl⟩)
  refine w_tabOut (tgt := 67) dX8_replace_1 (i32_out (lo := 0) (hi := 2) (fun k h1 h2 e => ?_)) (by decide) ?_
  · skip
    rcases (show k = 0 ∨ k = 1 ∨ k = 2 by omega) with rfl | rfl | rfl
    · exact h1_0 (i32_ofT e (by decide))
    · exact h1_1 (i32_ofT e (by decide))
    · exact h1_2 (i32_ofT e (by decide))
  refine w_aload_n dX8_replace_67 rfl ?_
  refine w_getI ff_X8_21 rfl rfl dX8_replace_68 ?_
  refine w_istore_n (ls' := [some (vR 5 k c), some (vI (what)), some (vI (v)), some (vI (I 5 k c 3))]) dX8_replace_71 rfl ?_
  refine w_aload_n dX8_replace_72 rfl ?_
  refine w_iload_n dX8_replace_73 rfl ?_
  refine w_putI ff_X8_21 rfl rfl rfl rfl dX8_replace_74 ?_
  refine w_iload_n dX8_replace_77 rfl ?_
  exact w_ireturn dX8_replace_78 rfl (rfl) rfl (⟨by unfold replO; simp only [*, if_true, if_false]; try rfl, by unfold replI; simp only [*, if_true, if_false]; try rfl⟩)

theorem c_X7_begin {I : xF4 Int32} {L : xF4 Int64} (k i : Nat) (a b c : Int32) : Tri 0 109 m_X7_begin [vR 7 k i, vI (a), vI (b), vI (c)] (rM I L) (pV (xup (xup (xup I 7 k i 0 a) 7 k i 1 b) 7 k i 2 c) L) := by
  refine ⟨k_X7_begin, Nat.le_of_ble_eq_true rfl, ?_⟩
  show Wp _ _ _ 0 [some (vR 7 k i), some (vI (a)), some (vI (b)), some (vI (c))] [] (rM I L) _
  refine w_aload_n dX7_begin_0 rfl ?_
  refine w_iload_n dX7_begin_1 rfl ?_
  refine w_putI ff_X7_7 rfl rfl rfl rfl dX7_begin_2 ?_
  refine w_aload_n dX7_begin_5 rfl ?_
  refine w_iload_n dX7_begin_6 rfl ?_
  refine w_putI ff_X7_13 rfl rfl rfl rfl dX7_begin_7 ?_
  refine w_aload_n dX7_begin_10 rfl ?_
  refine w_iload_n dX7_begin_11 rfl ?_
  refine w_putI ff_X7_16 rfl rfl rfl rfl dX7_begin_12 ?_
  exact w_return dX7_begin_15 rfl rfl (⟨rfl, rfl⟩)
