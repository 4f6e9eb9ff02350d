/-! the best order, both ways (by wip/whole/gen/g64.py) -/
def dgC (m code i : Nat) : Nat := code / 4 ^ (m - 1 - i) % 4
theorem dgC_0 : ∀ m, m < 5 → ∀ i, i < m → ∀ code, code < 256 → seatI (nI code) (nI m) (nI i) = nI (dgC m code i) := by decide +kernel
theorem dgC_lt (m code i : Nat) : dgC m code i < 4 := Nat.mod_lt _ (by decide)
/-- who is seated by a code, and who was met -/
def stS (m code : Nat) : Nat → List Nat × Nat
  | 0 => ([], 0)
  | i + 1 => (if dgC m code i < m ∧ ¬ (stS m code i).2.testBit (dgC m code i) = true then (stS m code i).1 ++ [dgC m code i] else (stS m code i).1, (stS m code i).2 ||| 2 ^ dgC m code i)
theorem stS_l (m code : Nat) : ∀ i, (stS m code i).1.length ≤ i ∧ (stS m code i).2 < 16 ∧ ∀ j ∈ (stS m code i).1, j < m
  | 0 => ⟨Nat.le_refl _, (by decide : 0 < 16), fun j h => by cases h⟩
  | i + 1 => by
    obtain ⟨h1, h2, h3⟩ := stS_l m code i
    have hd := dgC_lt m code i
    refine ⟨?_, ?_, ?_⟩
    · rw [stS]; dsimp only
      split
      · rw [List.length_append]; exact Nat.succ_le_succ h1
      · omega
    · rw [stS]; dsimp only
      exact Nat.or_lt_two_pow (n := 4) h2 (Nat.pow_lt_pow_right (by decide) hd)
    · intro j hj
      rw [stS] at hj; dsimp only at hj
      split at hj
      next hc =>
        rcases List.mem_append.mp hj with h | h
        · exact h3 j h
        · rw [List.mem_singleton.mp h]; exact hc.1
      · exact h3 j hj
theorem stS_t {m code i : Nat} (h : dgC m code i < m ∧ ¬ (stS m code i).2.testBit (dgC m code i) = true) : (stS m code (i + 1)).1 = (stS m code i).1 ++ [dgC m code i] := by rw [stS]; exact if_pos h
theorem stS_f {m code i : Nat} (h : ¬ (dgC m code i < m ∧ ¬ (stS m code i).2.testBit (dgC m code i) = true)) : (stS m code (i + 1)).1 = (stS m code i).1 := by rw [stS]; exact if_neg h
theorem or_pow : ∀ v, v < 16 → ∀ d, d < 4 → nI v ||| ((1 : Int32) <<< (nI d &&& 31)) = nI (v ||| 2 ^ d) := by decide +kernel
theorem tb16 : ∀ v, v < 16 → ∀ d, d < 4 → (nI v >>> (nI d &&& 31)) &&& 1 = bI (v.testBit d = true) := by decide +kernel
/-- only who is seated -/
def FrE (I I' : xF4 Int32) : Prop := ∀ t b j s, ¬ (t = 12 ∧ s = 1) → t ≠ 13 → I' t b j s = I t b j s
theorem FrE.rf {I : xF4 Int32} : FrE I I := fun _ _ _ _ _ _ => rfl
theorem FrE.tr {I I1 I2 : xF4 Int32} (h1 : FrE I I1) (h2 : FrE I1 I2) : FrE I I2 := fun t b j s p q => (h2 t b j s p q).trans (h1 t b j s p q)
theorem FrE.d {I I1 : xF4 Int32} (h : FrE I I1) : FrD I I1 := fun t b j s p q => h t b j s (fun z => p z.1) q
theorem FrE.up {I : xF4 Int32} {k j : Nat} {v : Int32} : FrE I (xup I 12 k j 1 v) := fun t b j' s h1 h2 => by
  unfold xup
  rw [if_neg]
  rintro ⟨rfl, -, -, rfl⟩
  exact h1 ⟨rfl, rfl⟩
theorem FrE.up3 {I : xF4 Int32} {k j s : Nat} {v : Int32} : FrE I (xup I 13 k j s v) := fun t b j' s h1 h2 => xup_tag h2
theorem seatX_fe (I : xF4 Int32) (n j : Nat) : FrE I (seatX I n j) := FrE.up3.tr FrE.up
abbrev pSb (m code : Nat) (I : xF4 Int32) (L : xF4 Int64) : Option xV → xM → Prop := fun v M => v = some (vI (bI ((stS m code m).1.length = m))) ∧ ∃ I', M = rM I' L ∧ SeatsIs I' (stS m code m).1 ∧ FrE I I'

theorem l_seatBy {L : xF4 Int64} {m code : Nat} (hm : m ≤ 4) (hc8 : code < 256) {I0 : xF4 Int32} : ∀ (r i : Nat) (I : xF4 Int32) (o5 : Option xV), i + r = m → SeatsIs I (stS m code i).1 → FrE I0 I → Wp 1 109 m_X2_seatBy 10 [some (vR 12 0 0), some (vI (nI code)), some (vI (nI m)), some (vI (nI (stS m code i).2)), some (vI (nI i)), o5] [] (rM I L) (pSb m code I0 L) := by
  intro r
  induction r with
  | zero =>
    intro i I o5 hi hs hf
    have e : i = m := by omega
    subst e
    obtain ⟨l1, l2, l3⟩ := stS_l i code i
    refine w_iload dX2_seatBy_10 rfl ?_
    refine w_iload_n dX2_seatBy_12 rfl ?_
    refine w_icmp_ge (tgt := 59) dX2_seatBy_13 (by decide) (fun _ => ?_) (fun h => absurd (nI_le (Nat.le_refl _) (by omega)) h)
    refine w_aload_n dX2_seatBy_59 rfl ?_
    refine w_getI ff_X2_15 rfl rfl dX2_seatBy_60 ?_
    rw [show (I 12 0 0 1 : Int32) = nI (stS i code i).1.length from hs.1]
    refine w_iload_n dX2_seatBy_63 rfl ?_
    refine w_icmp_ne (tgt := 71) dX2_seatBy_64 (by decide) (fun h1 => ?_) (fun h1 => ?_)
    · skip
      replace h1 : ¬ ((((stS i code i).1.length : Nat) : Int) = ((i : Nat) : Int)) := fun q => h1 ((zeq (z_nI (by omega)) (z_nI (by omega))).mpr q)
      first
      | (exfalso; omega)
      | skip
        refine w_iconst (v := 0) dX2_seatBy_71 (by decide) ?_
        exact w_ireturn dX2_seatBy_72 rfl (rfl) rfl (⟨by rw [bI_f (by omega)], I, rfl, hs, hf⟩)
    · skip
      replace h1 : (((stS i code i).1.length : Nat) : Int) = ((i : Nat) : Int) := (zeq (z_nI (by omega)) (z_nI (by omega))).mp h1
      first
      | (exfalso; omega)
      | skip
        refine w_iconst (v := 1) dX2_seatBy_67 (by decide) ?_
        refine w_goto (tgt := 72) dX2_seatBy_68 (by decide) ?_
        exact w_ireturn dX2_seatBy_72 rfl (rfl) rfl (⟨by rw [bI_t (by omega)], I, rfl, hs, hf⟩)
  | succ r ih =>
    intro i I o5 hi hs hf
    have hlt : i < m := by omega
    obtain ⟨l1, l2, l3⟩ := stS_l m code i
    have hd4 := dgC_lt m code i
    refine w_iload dX2_seatBy_10 rfl ?_
    refine w_iload_n dX2_seatBy_12 rfl ?_
    refine w_icmp_ge (tgt := 59) dX2_seatBy_13 (by decide) (fun h => absurd h (nI_ge hlt (by omega))) (fun _ => ?_)
    refine w_iload_n dX2_seatBy_16 rfl ?_
    refine w_iload_n dX2_seatBy_17 rfl ?_
    refine w_iload dX2_seatBy_18 rfl ?_
    refine w_callSN (as := [vI (nI code), vI (nI m), vI (nI i)]) (st := []) (Tri.mono (c_X10_seatIn (nI code) (nI m) (nI i)) (Nat.le_of_ble_eq_true rfl)) tg_X10_seatIn ln_X2_32 sa_X10_seatIn rfl dX2_seatBy_20 rfl (Nat.le_of_ble_eq_true rfl) (Nat.le_refl _) (Nat.le_refl _) ?_
    rintro _ _ ⟨rfl, rfl⟩ -
    refine w_top (y := nI (dgC m code i)) (show (seatI (nI code) (nI m) (nI i) : Int32) = nI (dgC m code i) from dgC_0 m (by omega) i hlt code hc8) ?_
    refine w_istore (ls' := [some (vR 12 0 0), some (vI (nI code)), some (vI (nI m)), some (vI (nI (stS m code i).2)), some (vI (nI i)), some (vI (nI (dgC m code i)))]) dX2_seatBy_23 rfl ?_
    refine w_iload dX2_seatBy_25 rfl ?_
    refine w_iload_n dX2_seatBy_27 rfl ?_
    refine w_icmp_ge (tgt := 46) dX2_seatBy_28 (by decide) (fun h1 => ?_) (fun h1 => ?_)
    · skip
      replace h1 : ((m : Nat) : Int) ≤ ((dgC m code i : Nat) : Int) := (zle (z_nI (by omega)) (z_nI (by omega))).mp h1
      first
      | (exfalso; omega)
      | skip
        refine w_iload_n dX2_seatBy_46 rfl ?_
        refine w_iconst (v := 1) dX2_seatBy_47 (by decide) ?_
        refine w_iload dX2_seatBy_48 rfl ?_
        refine w_ishl dX2_seatBy_50 ?_
        refine w_ior dX2_seatBy_51 ?_
        refine w_top (y := nI (stS m code (i + 1)).2) (show ((nI (stS m code i).2) ||| ((1) <<< ((nI (dgC m code i)) &&& 31)) : Int32) = nI (stS m code (i + 1)).2 from or_pow _ l2 _ hd4) ?_
        refine w_istore_n (ls' := [some (vR 12 0 0), some (vI (nI code)), some (vI (nI m)), some (vI (nI (stS m code (i + 1)).2)), some (vI (nI i)), some (vI (nI (dgC m code i)))]) dX2_seatBy_52 rfl ?_
        refine w_iinc (v := nI (i + 1)) (ls' := [some (vR 12 0 0), some (vI (nI code)), some (vI (nI m)), some (vI (nI (stS m code (i + 1)).2)), some (vI (nI (i + 1))), some (vI (nI (dgC m code i)))]) dX2_seatBy_53 rfl (nI_1 _) rfl ?_
        refine w_goto (tgt := 10) dX2_seatBy_56 (by decide) ?_
        exact ih (i + 1) _ _ (by omega) (by rw [stS_f (fun q => by have q1 := q.1; have q2 := q.2; first | omega | exact q2 h2)]; exact hs) hf
    · skip
      replace h1 : ¬ (((m : Nat) : Int) ≤ ((dgC m code i : Nat) : Int)) := fun q => h1 ((zle (z_nI (by omega)) (z_nI (by omega))).mpr q)
      first
      | (exfalso; omega)
      | skip
        refine w_iload_n dX2_seatBy_31 rfl ?_
        refine w_iload dX2_seatBy_32 rfl ?_
        refine w_ishr dX2_seatBy_34 ?_
        refine w_iconst (v := 1) dX2_seatBy_35 (by decide) ?_
        refine w_iand dX2_seatBy_36 ?_
        rw [show (((nI (stS m code i).2) >>> ((nI (dgC m code i)) &&& 31)) &&& (1) : Int32) = bI ((stS m code i).2.testBit (dgC m code i) = true) from tb16 _ l2 _ hd4]
        refine w_ifne_b (tgt := 46) dX2_seatBy_37 (by decide) (fun h2 => ?_) (fun h2 => ?_)
        · skip
          first
          | (exfalso; omega)
          | skip
            refine w_iload_n dX2_seatBy_46 rfl ?_
            refine w_iconst (v := 1) dX2_seatBy_47 (by decide) ?_
            refine w_iload dX2_seatBy_48 rfl ?_
            refine w_ishl dX2_seatBy_50 ?_
            refine w_ior dX2_seatBy_51 ?_
            refine w_top (y := nI (stS m code (i + 1)).2) (show ((nI (stS m code i).2) ||| ((1) <<< ((nI (dgC m code i)) &&& 31)) : Int32) = nI (stS m code (i + 1)).2 from or_pow _ l2 _ hd4) ?_
            refine w_istore_n (ls' := [some (vR 12 0 0), some (vI (nI code)), some (vI (nI m)), some (vI (nI (stS m code (i + 1)).2)), some (vI (nI i)), some (vI (nI (dgC m code i)))]) dX2_seatBy_52 rfl ?_
            refine w_iinc (v := nI (i + 1)) (ls' := [some (vR 12 0 0), some (vI (nI code)), some (vI (nI m)), some (vI (nI (stS m code (i + 1)).2)), some (vI (nI (i + 1))), some (vI (nI (dgC m code i)))]) dX2_seatBy_53 rfl (nI_1 _) rfl ?_
            refine w_goto (tgt := 10) dX2_seatBy_56 (by decide) ?_
            exact ih (i + 1) _ _ (by omega) (by rw [stS_f (fun q => by have q1 := q.1; have q2 := q.2; first | omega | exact q2 h2)]; exact hs) hf
        · skip
          first
          | (exfalso; omega)
          | skip
            refine w_aload_n dX2_seatBy_40 rfl ?_
            refine w_iload dX2_seatBy_41 rfl ?_
            refine w_callV (as := [vI (nI (dgC m code i))]) (st := []) (Tri.mono (c_seat hs (by omega) (dgC m code i)) (Nat.le_of_ble_eq_true rfl)) rfl rfl tg_X2_seat lk_X2_28 in_X2_seat se_X2_seat rfl dX2_seatBy_43 rfl (Nat.le_of_ble_eq_true rfl) (Nat.le_refl _) (Nat.le_refl _) ?_
            rintro _ _ ⟨rfl, rfl⟩ -
            refine w_iload_n dX2_seatBy_46 rfl ?_
            refine w_iconst (v := 1) dX2_seatBy_47 (by decide) ?_
            refine w_iload dX2_seatBy_48 rfl ?_
            refine w_ishl dX2_seatBy_50 ?_
            refine w_ior dX2_seatBy_51 ?_
            refine w_top (y := nI (stS m code (i + 1)).2) (show ((nI (stS m code i).2) ||| ((1) <<< ((nI (dgC m code i)) &&& 31)) : Int32) = nI (stS m code (i + 1)).2 from or_pow _ l2 _ hd4) ?_
            refine w_istore_n (ls' := [some (vR 12 0 0), some (vI (nI code)), some (vI (nI m)), some (vI (nI (stS m code (i + 1)).2)), some (vI (nI i)), some (vI (nI (dgC m code i)))]) dX2_seatBy_52 rfl ?_
            refine w_iinc (v := nI (i + 1)) (ls' := [some (vR 12 0 0), some (vI (nI code)), some (vI (nI m)), some (vI (nI (stS m code (i + 1)).2)), some (vI (nI (i + 1))), some (vI (nI (dgC m code i)))]) dX2_seatBy_53 rfl (nI_1 _) rfl ?_
            refine w_goto (tgt := 10) dX2_seatBy_56 (by decide) ?_
            exact ih (i + 1) _ _ (by omega) (by rw [stS_t ⟨by omega, h2⟩]; exact seatX_is hs (by omega) _) (hf.tr (seatX_fe _ _ _))

theorem c_seatBy {I : xF4 Int32} {L : xF4 Int64} {m code : Nat} (hm : m ≤ 4) (hc8 : code < 256) : Tri 1 109 m_X2_seatBy [vR 12 0 0, vI (nI code), vI (nI m)] (rM I L) (pSb m code I L) := by
  refine ⟨k_X2_seatBy, Nat.le_of_ble_eq_true rfl, ?_⟩
  show Wp _ _ _ 0 [some (vR 12 0 0), some (vI (nI code)), some (vI (nI m)), none, none, none] [] (rM I L) _
  refine w_aload_n dX2_seatBy_0 rfl ?_
  refine w_iconst (v := 0) dX2_seatBy_1 (by decide) ?_
  refine w_putI ff_X2_15 rfl rfl rfl rfl dX2_seatBy_2 ?_
  refine w_iconst (v := 0) dX2_seatBy_5 (by decide) ?_
  refine w_istore_n (ls' := [some (vR 12 0 0), some (vI (nI code)), some (vI (nI m)), some (vI (0)), none, none]) dX2_seatBy_6 rfl ?_
  refine w_iconst (v := 0) dX2_seatBy_7 (by decide) ?_
  refine w_istore (ls' := [some (vR 12 0 0), some (vI (nI code)), some (vI (nI m)), some (vI (0)), some (vI (0)), none]) dX2_seatBy_8 rfl ?_
  exact l_seatBy hm hc8 m 0 _ none (Nat.zero_add _) ⟨xup_self, Nat.zero_le _, fun i j h => by cases h⟩ FrE.up

theorem l_powerOf {I : xF4 Int32} {L : xF4 Int64} {b n : Nat} (hn : n ≤ 8) : ∀ (r i : Nat), i + r = n → Wp 0 109 m_X11_powerOf 5 [some (vR 30 0 0), some (vI (nI b)), some (vI (nI n)), some (vI (nI (b ^ i))), some (vI (nI i))] [] (rM I L) (pI (nI (b ^ n)) I L) := by
  intro r
  induction r with
  | zero =>
    intro i hi
    have e : i = n := by omega
    subst e
    refine w_iload dX11_powerOf_5 rfl ?_
    refine w_iload_n dX11_powerOf_7 rfl ?_
    refine w_icmp_ge (tgt := 21) dX11_powerOf_8 (by decide) (fun _ => ?_) (fun h => absurd (nI_le (Nat.le_refl _) (by omega)) h)
    refine w_iload_n dX11_powerOf_21 rfl ?_
    exact w_ireturn dX11_powerOf_22 rfl (rfl) rfl (⟨rfl, rfl⟩)
  | succ r ih =>
    intro i hi
    have hlt : i < n := by omega
    refine w_iload dX11_powerOf_5 rfl ?_
    refine w_iload_n dX11_powerOf_7 rfl ?_
    refine w_icmp_ge (tgt := 21) dX11_powerOf_8 (by decide) (fun h => absurd h (nI_ge hlt (by omega))) (fun _ => ?_)
    refine w_iload_n dX11_powerOf_11 rfl ?_
    refine w_iload_n dX11_powerOf_12 rfl ?_
    refine w_imul dX11_powerOf_13 ?_
    rw [show ((nI (b ^ i)) * (nI b) : Int32) = nI (b ^ (i + 1)) from by rw [pk_mul, Nat.pow_succ]]
    refine w_istore_n (ls' := [some (vR 30 0 0), some (vI (nI b)), some (vI (nI n)), some (vI (nI (b ^ (i + 1)))), some (vI (nI i))]) dX11_powerOf_14 rfl ?_
    refine w_iinc (v := nI (i + 1)) (ls' := [some (vR 30 0 0), some (vI (nI b)), some (vI (nI n)), some (vI (nI (b ^ (i + 1)))), some (vI (nI (i + 1)))]) dX11_powerOf_15 rfl (nI_1 _) rfl ?_
    refine w_goto (tgt := 5) dX11_powerOf_18 (by decide) ?_
    exact ih (i + 1) (by omega)

theorem d_powerOf {I : xF4 Int32} {L : xF4 Int64} {b n : Nat} (hn : n ≤ 8) : Tri 0 109 m_X11_powerOf [vR 30 0 0, vI (nI b), vI (nI n)] (rM I L) (pI (nI (b ^ n)) I L) := by
  refine ⟨k_X11_powerOf, Nat.le_of_ble_eq_true rfl, ?_⟩
  show Wp _ _ _ 0 [some (vR 30 0 0), some (vI (nI b)), some (vI (nI n)), none, none] [] (rM I L) _
  refine w_iconst (v := 1) dX11_powerOf_0 (by decide) ?_
  refine w_istore_n (ls' := [some (vR 30 0 0), some (vI (nI b)), some (vI (nI n)), some (vI (1)), none]) dX11_powerOf_1 rfl ?_
  refine w_iconst (v := 0) dX11_powerOf_2 (by decide) ?_
  refine w_istore (ls' := [some (vR 30 0 0), some (vI (nI b)), some (vI (nI n)), some (vI (1)), some (vI (0))]) dX11_powerOf_3 rfl ?_
  exact l_powerOf hn n 0 (Nat.zero_add _)

def lfM (m k : Nat) : Nat → Nat
  | 0 => k
  | p + 1 => lfM m k p / m
theorem lfM_le (m k : Nat) : ∀ p, lfM m k p ≤ k
  | 0 => Nat.le_refl _
  | p + 1 => Nat.le_trans (Nat.div_le_self _ _) (lfM_le m k p)
def dgM (m k i : Nat) : Nat := lfM m k (m - 1 - i) % m
def orM (m k : Nat) : Nat → Nat
  | 0 => 0
  | p + 1 => orM m k p ||| 2 ^ (lfM m k p % m)
theorem orM_lt {m : Nat} (hm : m ≤ 4) (k : Nat) : ∀ p, p ≤ m → orM m k p < 16
  | 0, _ => (by decide : 0 < 16)
  | p + 1, h => Nat.or_lt_two_pow (n := 4) (orM_lt hm k p (by omega)) (Nat.pow_lt_pow_right (by decide) (Nat.lt_of_lt_of_le (Nat.mod_lt _ (by omega)) hm))
theorem full_M : ∀ m, m < 5 → ∀ v, v < 16 → (nI v = ((1 : Int32) <<< (nI m &&& 31)) - 1 ↔ v = 2 ^ m - 1) := by decide +kernel
abbrev pOr (m k : Nat) (I : xF4 Int32) (L : xF4 Int64) : Option xV → xM → Prop := fun v M => v = some (vI (bI (orM m k m = 2 ^ m - 1))) ∧ ∃ I', M = rM I' L ∧ (∀ i, i < m → I' 36 0 0 i = nI (dgM m k i)) ∧ FrT 36 I I'
theorem nI_nz {m : Nat} (h : 0 < m) (h2 : m < 2 ^ 31) : ¬ nI m = 0 := fun q => absurd ((nI_eq (b := 0) h2 (by decide)).mp q) (by omega)

theorem l_isOrder {L : xF4 Int64} {m k : Nat} (hm : m ≤ 4) (hk8 : k < 256) {I0 : xF4 Int32} : ∀ (r p : Nat) (I : xF4 Int32), p + r = m → I 30 0 0 3 = nI m → (∀ i, r ≤ i → i < m → I 36 0 0 i = nI (dgM m k i)) → FrT 36 I0 I → Wp 0 109 m_X11_isOrder 12 [some (vR 30 0 0), some (vI (nI k)), some (vI (nI (lfM m k p))), some (vI (nI (orM m k p))), some (vI (nI r - 1))] [] (rM I L) (pOr m k I0 L) := by
  intro r
  induction r with
  | zero =>
    intro p I hp hn hd hf
    have e : p = m := by omega
    subst e
    have hor := orM_lt hm k p (Nat.le_refl _)
    refine w_iload dX11_isOrder_12 rfl ?_
    refine w_if_lt (tgt := 55) dX11_isOrder_14 (by decide) (fun _ => ?_) (fun h => absurd (by decide) h)
    refine w_iload_n dX11_isOrder_55 rfl ?_
    refine w_iconst (v := 1) dX11_isOrder_56 (by decide) ?_
    refine w_aload_n dX11_isOrder_57 rfl ?_
    refine w_getI ff_X11_58 rfl rfl dX11_isOrder_58 ?_
    rw [show (I 30 0 0 3 : Int32) = nI p from hn]
    refine w_ishl dX11_isOrder_61 ?_
    refine w_iconst (v := 1) dX11_isOrder_62 (by decide) ?_
    refine w_isub dX11_isOrder_63 ?_
    refine w_icmp_ne (tgt := 71) dX11_isOrder_64 (by decide) (fun h1 => ?_) (fun h1 => ?_)
    · skip
      refine w_iconst (v := 0) dX11_isOrder_71 (by decide) ?_
      exact w_ireturn dX11_isOrder_72 rfl (rfl) rfl (⟨by rw [bI_f (fun q => h1 ((full_M p (by omega) _ hor).mpr q))], I, rfl, fun i hi => hd i (by omega) hi, hf⟩)
    · skip
      refine w_iconst (v := 1) dX11_isOrder_67 (by decide) ?_
      refine w_goto (tgt := 72) dX11_isOrder_68 (by decide) ?_
      exact w_ireturn dX11_isOrder_72 rfl (rfl) rfl (⟨by rw [bI_t ((full_M p (by omega) _ hor).mp h1)], I, rfl, fun i hi => hd i (by omega) hi, hf⟩)
  | succ r ih =>
    intro p I hp hn hd hf
    have hlt : p < m := by omega
    have hor := orM_lt hm k p (by omega)
    have hlf := lfM_le m k p
    have hdm : lfM m k p % m < m := Nat.mod_lt _ (by omega)
    have hnz := nI_nz (m := m) (by omega) (by omega)
    refine w_ls (congrArg (fun z9 : Int32 => [some (vR 30 0 0), some (vI (nI k)), some (vI (nI (lfM m k p))), some (vI (nI (orM m k p))), some (vI z9)]) (show (nI (r + 1) - 1 : Int32) = nI r from nI_p1 r)) ?_
    refine w_iload dX11_isOrder_12 rfl ?_
    refine w_if_lt (tgt := 55) dX11_isOrder_14 (by decide) (fun h => absurd h (nI_pos (by omega))) (fun _ => ?_)
    refine w_aload_n dX11_isOrder_17 rfl ?_
    refine w_getR (w := some (36, 0, 0)) ff_X11_26 rfl rfl dX11_isOrder_18 rfl ?_
    refine w_iload dX11_isOrder_21 rfl ?_
    refine w_iload_n dX11_isOrder_23 rfl ?_
    refine w_aload_n dX11_isOrder_24 rfl ?_
    refine w_getI ff_X11_58 rfl rfl dX11_isOrder_25 ?_
    rw [show (I 30 0 0 3 : Int32) = nI m from hn]
    refine w_irem dX11_isOrder_28 hnz ?_
    refine w_top (y := nI (lfM m k p % m)) (show ((nI (lfM m k p)) - (nI (lfM m k p)) / (nI m) * (nI m) : Int32) = nI (lfM m k p % m) from ar_rem (p := lfM m k p) (q := m) rfl rfl (by omega) (by omega) (by omega) rfl) ?_
    refine w_iastore (a := r) rfl (vp_in_nI (n := r) (by omega) (by omega)) (nI_clamp (n := r) (by omega)) dX11_isOrder_29 ?_
    refine w_iload_n dX11_isOrder_30 rfl ?_
    refine w_aload_n dX11_isOrder_31 rfl ?_
    refine w_getI ff_X11_58 rfl rfl dX11_isOrder_32 ?_
    rw [show ((xup I 36 0 0 (r) (nI (lfM m k p % m))) 30 0 0 3 : Int32) = nI m from (xup_tag (by decide)).trans hn]
    refine w_idiv dX11_isOrder_35 hnz ?_
    refine w_top (y := nI (lfM m k (p + 1))) (show ((nI (lfM m k p)) / (nI m) : Int32) = nI (lfM m k (p + 1)) from ar_div (p := lfM m k p) (q := m) rfl rfl (by omega) (by omega) (by omega) rfl) ?_
    refine w_istore_n (ls' := [some (vR 30 0 0), some (vI (nI k)), some (vI (nI (lfM m k (p + 1)))), some (vI (nI (orM m k p))), some (vI (nI r))]) dX11_isOrder_36 rfl ?_
    refine w_iload_n dX11_isOrder_37 rfl ?_
    refine w_iconst (v := 1) dX11_isOrder_38 (by decide) ?_
    refine w_aload_n dX11_isOrder_39 rfl ?_
    refine w_getR (w := some (36, 0, 0)) ff_X11_26 rfl rfl dX11_isOrder_40 rfl ?_
    refine w_iload dX11_isOrder_43 rfl ?_
    refine w_iaload (a := r) rfl (vp_in_nI (n := r) (by omega) (by omega)) (nI_clamp (n := r) (by omega)) dX11_isOrder_45 ?_
    rw [show ((xup I 36 0 0 (r) (nI (lfM m k p % m))) 36 0 0 (r) : Int32) = nI (lfM m k p % m) from xup_self]
    refine w_ishl dX11_isOrder_46 ?_
    refine w_ior dX11_isOrder_47 ?_
    refine w_top (y := nI (orM m k (p + 1))) (show ((nI (orM m k p)) ||| ((1) <<< ((nI (lfM m k p % m)) &&& 31)) : Int32) = nI (orM m k (p + 1)) from or_pow _ hor _ (by omega)) ?_
    refine w_istore_n (ls' := [some (vR 30 0 0), some (vI (nI k)), some (vI (nI (lfM m k (p + 1)))), some (vI (nI (orM m k (p + 1)))), some (vI (nI r))]) dX11_isOrder_48 rfl ?_
    refine w_iinc (v := nI r - 1) (ls' := [some (vR 30 0 0), some (vI (nI k)), some (vI (nI (lfM m k (p + 1)))), some (vI (nI (orM m k (p + 1)))), some (vI (nI r - 1))]) dX11_isOrder_49 rfl (nI_d1 r) rfl ?_
    refine w_goto (tgt := 12) dX11_isOrder_52 (by decide) ?_
    refine ih (p + 1) _ (by omega) ((xup_tag (by decide)).trans hn) (fun i h1 h2 => ?_) (hf.tr FrT.up)
    by_cases e : i = r
    · rw [e, xup_self]; unfold dgM; rw [show m - 1 - r = p by omega]
    · rw [xup_slot e]; exact hd i (by omega) h2

theorem d_isOrder {I : xF4 Int32} {L : xF4 Int64} {m k : Nat} (hm : m ≤ 4) (hk8 : k < 256) (hn : I 30 0 0 3 = nI m) : Tri 0 109 m_X11_isOrder [vR 30 0 0, vI (nI k)] (rM I L) (pOr m k I L) := by
  refine ⟨k_X11_isOrder, Nat.le_of_ble_eq_true rfl, ?_⟩
  show Wp _ _ _ 0 [some (vR 30 0 0), some (vI (nI k)), none, none, none] [] (rM I L) _
  refine w_iload_n dX11_isOrder_0 rfl ?_
  refine w_istore_n (ls' := [some (vR 30 0 0), some (vI (nI k)), some (vI (nI k)), none, none]) dX11_isOrder_1 rfl ?_
  refine w_iconst (v := 0) dX11_isOrder_2 (by decide) ?_
  refine w_istore_n (ls' := [some (vR 30 0 0), some (vI (nI k)), some (vI (nI k)), some (vI (0)), none]) dX11_isOrder_3 rfl ?_
  refine w_aload_n dX11_isOrder_4 rfl ?_
  refine w_getI ff_X11_58 rfl rfl dX11_isOrder_5 ?_
  rw [show (I 30 0 0 3 : Int32) = nI m from hn]
  refine w_iconst (v := 1) dX11_isOrder_8 (by decide) ?_
  refine w_isub dX11_isOrder_9 ?_
  refine w_istore (ls' := [some (vR 30 0 0), some (vI (nI k)), some (vI (nI k)), some (vI (0)), some (vI ((nI m) - (1)))]) dX11_isOrder_10 rfl ?_
  exact l_isOrder hm hk8 m 0 I (Nat.zero_add _) hn (fun i h1 h2 => absurd h2 (by omega)) FrT.rf

def bstS (g : List Nat → Nat) (k : Nat) : Option (List Nat) → Option (Nat × Nat) → Option (Nat × Nat)
  | none, b => b
  | some ss, none => some (g ss, k)
  | some ss, some q => if q.1 < g ss then some (g ss, k) else some q
def bst (f : Nat → Option (List Nat)) (g : List Nat → Nat) : Nat → Option (Nat × Nat)
  | 0 => none
  | k + 1 => bstS g k (f k) (bst f g k)
def stepL (g : List Nat → Nat) : Option (Nat × List Nat) → List Nat → Option (Nat × List Nat)
  | none, ss => some (g ss, ss)
  | some q, ss => if q.1 < g ss then some (g ss, ss) else some q
theorem bst_fold (f : Nat → Option (List Nat)) (g : List Nat → Nat) : ∀ K, (bst f g K).map (fun q => (q.1, f q.2)) = (((List.range K).filterMap f).foldl (stepL g) none).map (fun q => (q.1, some q.2))
  | 0 => rfl
  | K + 1 => by
    have ih := bst_fold f g K
    rw [List.range_succ, List.filterMap_append, List.foldl_append, bst]
    cases hf : f K with
    | none =>
      rw [show List.filterMap f [K] = [] by simp [hf]]
      exact ih
    | some ss =>
      rw [show List.filterMap f [K] = [ss] by simp [hf]]
      show (bstS g K (some ss) (bst f g K)).map _ = (stepL g _ ss).map _
      cases hb : bst f g K with
      | none =>
        rw [hb] at ih
        cases hx : ((List.range K).filterMap f).foldl (stepL g) none with
        | none => simp [bstS, stepL, hf]
        | some q => rw [hx] at ih; cases ih
      | some b =>
        rw [hb] at ih
        cases hx : ((List.range K).filterMap f).foldl (stepL g) none with
        | none => rw [hx] at ih; cases ih
        | some q =>
          rw [hx] at ih
          obtain ⟨e1, e2⟩ : b.1 = q.1 ∧ f b.2 = some q.2 := by simpa using ih
          simp only [bstS, stepL, e1]
          by_cases hlt : q.1 < g ss
          · rw [if_pos hlt, if_pos hlt]; simp [hf]
          · rw [if_neg hlt, if_neg hlt]; simp [e1, e2]
theorem foldL_some (g : List Nat → Nat) : ∀ (l : List (List Nat)) (b : Option (Nat × List Nat)), (l ≠ [] ∨ b ≠ none) → ∃ q, l.foldl (stepL g) b = some q
  | [], none, h => absurd h (by simp)
  | [], some q, _ => ⟨q, rfl⟩
  | s :: l, b, _ => foldL_some g l (stepL g b s) (Or.inr (by cases b with | none => simp [stepL] | some q => show ¬ (if q.1 < g s then some (g s, s) else some q) = none; split <;> simp))
theorem bst_le {f : Nat → Option (List Nat)} {g : List Nat → Nat} {u : Nat} (hu : ∀ k ss, f k = some ss → g ss ≤ u) : ∀ K q, bst f g K = some q → q.1 ≤ u ∧ q.2 < K
  | 0, q, h => by cases h
  | K + 1, q, h => by
    rw [bst] at h
    cases hf : f K with
    | none => rw [hf] at h; have := bst_le hu K q h; omega
    | some ss =>
      rw [hf] at h
      have hg := hu K ss hf
      cases hb : bst f g K with
      | none => rw [hb] at h; cases h; exact ⟨hg, Nat.lt_succ_self _⟩
      | some b =>
        rw [hb] at h
        have hx := bst_le hu K b hb
        have h' : (if b.1 < g ss then some (g ss, K) else some b) = some q := h
        split at h'
        · cases h'; exact ⟨hg, Nat.lt_succ_self _⟩
        · cases h'; omega
theorem bst_stop {f : Nat → Option (List Nat)} {g : List Nat → Nat} {u : Nat} (hu : ∀ k ss, f k = some ss → g ss ≤ u) {K : Nat} {q : Nat × Nat} (h : bst f g K = some q) (hq : u ≤ q.1) : ∀ r, bst f g (K + r) = some q
  | 0 => h
  | r + 1 => by
    rw [← Nat.add_assoc, bst, bst_stop hu h hq r]
    cases hf : f (K + r) with
    | none => rfl
    | some ss =>
      have hg := hu _ ss hf
      show (if q.1 < g ss then _ else _) = _
      rw [if_neg (by omega)]
def fC (m k : Nat) : Option (List Nat) := if (stS m k m).1.length = m then some (stS m k m).1 else none
def sitL (m k : Nat) : List Nat := (List.range m).map (dgM m k)
def fM (m k : Nat) : Option (List Nat) := if orM m k m = 2 ^ m - 1 then some (sitL m k) else none
theorem fC_fM : ∀ m, m < 5 → (List.range (4 ^ m)).filterMap (fC m) = (List.range (m ^ m)).filterMap (fM m) ∧ (List.range (4 ^ m)).filterMap (fC m) ≠ [] := by decide +kernel
theorem fC_at : ∀ m, m < 5 → ∀ c, c < 4 ^ m → (stS m c m).1.length = m → ∀ p, p < m → (stS m c m).1[p]? = some (dgC m c p) := by decide +kernel
theorem sitL_in {m k j : Nat} (h : j ∈ sitL m k) : j < m := by
  unfold sitL at h
  obtain ⟨i, hi, rfl⟩ := List.mem_map.mp h
  exact Nat.mod_lt _ (by have := List.mem_range.mp hi; omega)
theorem sitL_is {I : xF4 Int32} {m k : Nat} (h : ∀ i, i < m → I 36 0 0 i = nI (dgM m k i)) : SitsIs I (sitL m k) := fun i j hij => by
  have hi := (List.getElem?_eq_some_iff.mp hij).1
  unfold sitL at hi hij
  rw [List.length_map, List.length_range] at hi
  rw [List.getElem?_map, List.getElem?_range hi] at hij
  cases hij
  exact h i hi
/-- how many are newly heard in n days -/
def gvN (a : aA) (n : Nat) (ss : List Nat) : Nat := popN (newN (heardN (itN ss a n)) (heardN a))
def unhN (a : aA) : Nat := nC a - popN (heardN a)
theorem gvN_le {a : aA} (hw : WF a) {n : Nat} (hd : dY a + n ≤ 2000) {ss : List Nat} (hs : ∀ j ∈ ss, j < nJ a) : gvN a n ss ≤ unhN a := by
  obtain ⟨q1, q2, q3⟩ := it_new hw hs hd
  have h1 := popN_heard (hw.it hs n hd)
  have h2 := cntN_le (fun c => decide (0 < sF (itN ss a n) c 4)) (nC (itN ss a n))
  have h3 := (itN_k ss a n).2.1
  unfold gvN unhN
  omega
theorem fC_le {a : aA} (hw : WF a) {n : Nat} (hd : dY a + n ≤ 2000) : ∀ k ss, fC (nJ a) k = some ss → gvN a n ss ≤ unhN a := fun k ss h => by
  unfold fC at h
  split at h
  · cases h; exact gvN_le hw hd (stS_l _ _ _).2.2
  · cases h
def permL (m : Nat) : List (List Nat) := (List.range (4 ^ m)).filterMap (fC m)
def bestO (a : aA) (n : Nat) : Option (Nat × List Nat) := (permL (nJ a)).foldl (stepL (gvN a n)) none
theorem bestO_some {a : aA} (hw : WF a) (n : Nat) : ∃ q, bestO a n = some q := foldL_some _ _ _ (Or.inl (fC_fM _ (by have := hw.1; omega)).2)
theorem bestC {a : aA} (hw : WF a) {n : Nat} {v : Nat} {ss : List Nat} (h : bestO a n = some (v, ss)) : ∃ c, bst (fC (nJ a)) (gvN a n) (4 ^ nJ a) = some (v, c) ∧ fC (nJ a) c = some ss := by
  have hf := bst_fold (fC (nJ a)) (gvN a n) (4 ^ nJ a)
  rw [show ((List.range (4 ^ nJ a)).filterMap (fC (nJ a))).foldl (stepL (gvN a n)) none = some (v, ss) from h] at hf
  cases hb : bst (fC (nJ a)) (gvN a n) (4 ^ nJ a) with
  | none => rw [hb] at hf; cases hf
  | some q =>
    rw [hb] at hf
    obtain ⟨e1, e2⟩ : q.1 = v ∧ fC (nJ a) q.2 = some ss := by simpa using hf
    exact ⟨q.2, by rw [← e1], e2⟩
theorem bestM {a : aA} (hw : WF a) {n : Nat} {v : Nat} {ss : List Nat} (h : bestO a n = some (v, ss)) : ∃ c, bst (fM (nJ a)) (gvN a n) (nJ a ^ nJ a) = some (v, c) ∧ fM (nJ a) c = some ss := by
  have hf := bst_fold (fM (nJ a)) (gvN a n) (nJ a ^ nJ a)
  rw [← (fC_fM _ (by have := hw.1; omega)).1, show ((List.range (4 ^ nJ a)).filterMap (fC (nJ a))).foldl (stepL (gvN a n)) none = some (v, ss) from h] at hf
  cases hb : bst (fM (nJ a)) (gvN a n) (nJ a ^ nJ a) with
  | none => rw [hb] at hf; cases hf
  | some q =>
    rw [hb] at hf
    obtain ⟨e1, e2⟩ : q.1 = v ∧ fM (nJ a) q.2 = some ss := by simpa using hf
    exact ⟨q.2, by rw [← e1], e2⟩
def cI : Option (Nat × Nat) → Int32
  | none => -4
  | some q => nI q.1
def mI : Option (Nat × Nat) → Int32
  | none => -1
  | some q => nI q.1
def fI : Option (Nat × Nat) → Int32
  | none => 0
  | some q => nI q.2
theorem pow4 : ∀ m, m < 5 → (1 : Int32) <<< (nI (2 * m) &&& 31) = nI (4 ^ m) ∧ 4 ^ m ≤ 256 ∧ m ^ m ≤ 256 := by decide +kernel
theorem ten_p : ∀ p, p < 4 → nI (10 + p) - 10 = nI p := by decide +kernel
/-- the place p of the best order -/
def atO (ss : List Nat) (m p : Nat) : Int32 := if p < m then nI (ss.getD p 0) else -4
theorem sub10 {x : Int32} (h : x.toInt < 10 ∨ 13 < x.toInt) : (x - 10).toInt < 0 ∨ 3 < (x - 10).toInt := by
  have e := Int32.toInt_sub x 10
  rw [show (10 : Int32).toInt = 10 from by decide] at e
  have r1 := Int32.le_toInt x
  have r2 := Int32.toInt_lt x
  rw [e, Int.bmod_def]
  split <;> omega

abbrev pSo (a : aA) (n : Nat) (I : xF4 Int32) (L : xF4 Int64) : Option xV → xM → Prop := fun v M => v = none ∧ ∃ I', M = rM I' L ∧ CourtIs I' 0 a ∧ I' 12 0 0 4 = cI (bst (fC (nJ a)) (gvN a n) (4 ^ nJ a)) ∧ I' 12 0 0 5 = fI (bst (fC (nJ a)) (gvN a n) (4 ^ nJ a)) ∧ FrQ I I'

set_option maxHeartbeats 1000000 in
theorem l_searchOrder {L : xF4 Int64} {a : aA} (hw : WF a) {n : Nat} (hn : n ≤ 30) (hd9 : dY a ≤ 999) {I0 : xF4 Int32} : ∀ (r k : Nat) (I : xF4 Int32) (o6 : Option xV), k + r = 4 ^ nJ a → CourtIs I 0 a → I 12 0 0 4 = cI (bst (fC (nJ a)) (gvN a n) k) → I 12 0 0 5 = fI (bst (fC (nJ a)) (gvN a n) k) → FrQ I0 I → Wp 8 109 m_X2_searchOrder 34 [some (vR 12 0 0), some (vR 1 1 0), some (vR 1 0 0), some (vI (nI n)), some (vI (nI (nJ a))), some (vI (nI (unhN a))), some (vI (nI k)), o6] [] (rM I L) (pSo a n I0 L) := by
  intro r
  induction r with
  | zero =>
    intro k I o6 hr hc hmo hbe hf
    have e : k = 4 ^ nJ a := by omega
    obtain ⟨hJ, hC, hG, hD, hR, -⟩ := id hw
    obtain ⟨p1, p2, p3⟩ := pow4 (nJ a) (by omega)
    subst e
    refine w_iload dX2_searchOrder_34 rfl ?_
    refine w_iconst (v := 1) dX2_searchOrder_36 (by decide) ?_
    refine w_iconst (v := 2) dX2_searchOrder_37 (by decide) ?_
    refine w_iload dX2_searchOrder_38 rfl ?_
    refine w_imul dX2_searchOrder_40 ?_
    rw [show ((2) * (nI (nJ a)) : Int32) = nI (2 * (nJ a)) from ar_mul (p := 2) (q := nJ a) rfl rfl (by first | rfl | omega)]
    refine w_ishl dX2_searchOrder_41 ?_
    rw [show ((1) <<< ((nI (2 * (nJ a))) &&& 31) : Int32) = nI (4 ^ nJ a) from p1]
    refine w_icmp_ge (tgt := 108) dX2_searchOrder_42 (by decide) (fun _ => ?_) (fun h => absurd (nI_le (Nat.le_refl _) (by omega)) h)
    exact w_return dX2_searchOrder_108 rfl rfl (⟨rfl, I, rfl, hc, hmo, hbe, hf⟩)
  | succ r ih =>
    intro k I o6 hr hc hmo hbe hf
    obtain ⟨hJ, hC, hG, hD, hR, -⟩ := id hw
    obtain ⟨p1, p2, p3⟩ := pow4 (nJ a) (by omega)
    have hlt : k < 4 ^ nJ a := by omega
    have hu9 := fC_le hw (n := n) (by omega)
    have hu5 : unhN a ≤ 5 := Nat.le_trans (Nat.sub_le _ _) hC
    cases hb : (bst (fC (nJ a)) (gvN a n) k) with
    | none =>
      rw [hb] at hmo hbe
      refine w_iload dX2_searchOrder_34 rfl ?_
      refine w_iconst (v := 1) dX2_searchOrder_36 (by decide) ?_
      refine w_iconst (v := 2) dX2_searchOrder_37 (by decide) ?_
      refine w_iload dX2_searchOrder_38 rfl ?_
      refine w_imul dX2_searchOrder_40 ?_
      rw [show ((2) * (nI (nJ a)) : Int32) = nI (2 * (nJ a)) from ar_mul (p := 2) (q := nJ a) rfl rfl (by first | rfl | omega)]
      refine w_ishl dX2_searchOrder_41 ?_
      rw [show ((1) <<< ((nI (2 * (nJ a))) &&& 31) : Int32) = nI (4 ^ nJ a) from p1]
      refine w_icmp_ge (tgt := 108) dX2_searchOrder_42 (by decide) (fun h => absurd h (nI_ge hlt (by omega))) (fun _ => ?_)
      refine w_aload_n dX2_searchOrder_45 rfl ?_
      refine w_getI ff_X2_49 rfl rfl dX2_searchOrder_46 ?_
      rw [show (I 12 0 0 4 : Int32) = (-4) from hmo]
      refine w_iload dX2_searchOrder_49 rfl ?_
      refine w_icmp_ge (tgt := 108) dX2_searchOrder_51 (by decide) (fun h1 => ?_) (fun h1 => ?_)
      · skip
        replace h1 : ((unhN a : Nat) : Int) ≤ (-4) := (zle (z_nI (by omega)) (by decide)).mp h1
        exfalso
        omega
      · skip
        refine w_aload_n dX2_searchOrder_54 rfl ?_
        refine w_iload dX2_searchOrder_55 rfl ?_
        refine w_iload dX2_searchOrder_57 rfl ?_
        refine w_callV (as := [vI (nI k), vI (nI (nJ a))]) (st := []) (Tri.mono (c_seatBy (code := k) hJ (by omega)) (Nat.le_of_ble_eq_true rfl)) rfl rfl tg_X2_seatBy lk_X2_55 in_X2_seatBy se_X2_seatBy rfl dX2_searchOrder_59 rfl (Nat.le_of_ble_eq_true rfl) (Nat.le_refl _) (Nat.le_refl _) ?_
        rintro v M9 ⟨rfl, I1, rfl, hse1, hfe1⟩ -
        have hc0_1 := hfe1.d.q.court (by decide) hc
        have hmo1 : I1 12 0 0 4 = (-4) := (hfe1 12 0 0 4 (by decide) (by decide)).trans hmo
        have hbe1 : I1 12 0 0 5 = fI none := (hfe1 12 0 0 5 (by decide) (by decide)).trans hbe
        refine w_ifeq_b (tgt := 102) dX2_searchOrder_62 (by decide) (fun h2 => ?_) (fun h2 => ?_)
        · skip
          refine w_iinc (v := nI (k + 1)) (ls' := [some (vR 12 0 0), some (vR 1 1 0), some (vR 1 0 0), some (vI (nI n)), some (vI (nI (nJ a))), some (vI (nI (unhN a))), some (vI (nI (k + 1))), o6]) dX2_searchOrder_102 rfl (nI_1 _) rfl ?_
          refine w_goto (tgt := 34) dX2_searchOrder_105 (by decide) ?_
          have hfk : fC (nJ a) k = none := if_neg h2
          have hbn : (bst (fC (nJ a)) (gvN a n) (k + 1)) = none := by rw [bst, hfk, hb]; rfl
          exact ih (k + 1) _ _ (by omega) hc0_1 (by rw [hbn]; exact hmo1) (by rw [hbn]; exact hbe1) (hf.tr hfe1.d.q)
        · skip
          refine w_aload_n dX2_searchOrder_65 rfl ?_
          refine w_aload_n dX2_searchOrder_66 rfl ?_
          refine w_aload_n dX2_searchOrder_67 rfl ?_
          refine w_iload_n dX2_searchOrder_68 rfl ?_
          refine w_callV (as := [vR 1 1 0, vR 1 0 0, vI (nI n)]) (st := []) (Tri.mono (c_play (by decide) hw hc0_1 hse1 (stS_l _ _ _).2.2 (n := n) (by omega) (by omega)) (Nat.le_of_ble_eq_true rfl)) rfl rfl tg_X2_play lk_X2_59 in_X2_play se_X2_play rfl dX2_searchOrder_69 rfl (Nat.le_of_ble_eq_true rfl) (Nat.le_refl _) (Nat.le_refl _) ?_
          rintro v M9 ⟨rfl, I2, rfl, hp1_2, hp2_2, hp3_2, hfp2⟩ -
          have hwp2 := WF.it (ss := (stS (nJ a) k (nJ a)).1) hw (stS_l _ _ _).2.2 n (by omega)
          have hc0_2 := hfp2.q.court (by decide) hc0_1
          have hmo2 : I2 12 0 0 4 = (-4) := (hfp2 12 0 0 4 (by omega) (by omega)).trans hmo1
          have hbe2 : I2 12 0 0 5 = fI none := (hfp2 12 0 0 5 (by omega) (by omega)).trans hbe1
          refine w_aload_n dX2_searchOrder_72 rfl ?_
          refine w_getI ff_X2_63 rfl rfl dX2_searchOrder_73 ?_
          rw [show (I2 12 0 0 2 : Int32) = nI (newN (heardN (itN (stS (nJ a) k (nJ a)).1 a n)) (heardN a)) from hp2_2.trans (newN_0 _ (heardN_lt hwp2) _ (heardN_lt hw))]
          refine w_callS (as := [vI (nI (newN (heardN (itN (stS (nJ a) k (nJ a)).1 a n)) (heardN a)))]) (st := []) (Tri.mono (c_bitCount (nI (newN (heardN (itN (stS (nJ a) k (nJ a)).1 a n)) (heardN a)))) (Nat.le_of_ble_eq_true rfl)) tg_J6_bitCount_0f7a4 lk_X2_43 sa_J6_bitCount_0f7a4 rfl dX2_searchOrder_76 rfl (Nat.le_of_ble_eq_true rfl) (Nat.le_refl _) (Nat.le_refl _) ?_
          rintro _ _ ⟨rfl, rfl⟩ -
          refine w_top (y := nI (popN (newN (heardN (itN (stS (nJ a) k (nJ a)).1 a n)) (heardN a)))) (show (bcI (nI (newN (heardN (itN (stS (nJ a) k (nJ a)).1 a n)) (heardN a))) : Int32) = nI (popN (newN (heardN (itN (stS (nJ a) k (nJ a)).1 a n)) (heardN a))) from bcI_N0 _ (Nat.lt_of_lt_of_le (bitN_lt _ _) (by decide))) ?_
          have hg5 := popN_lt _ (newN_lt (heardN (itN (stS (nJ a) k (nJ a)).1 a n)) (heardN a))
          have hfk : fC (nJ a) k = some (stS (nJ a) k (nJ a)).1 := if_pos h2
          refine w_top (y := nI (gvN a n (stS (nJ a) k (nJ a)).1)) (show (nI (popN (newN (heardN (itN (stS (nJ a) k (nJ a)).1 a n)) (heardN a))) : Int32) = nI (gvN a n (stS (nJ a) k (nJ a)).1) from rfl) ?_
          have hg5 : gvN a n (stS (nJ a) k (nJ a)).1 ≤ 5 := hg5
          refine w_istore (ls' := [some (vR 12 0 0), some (vR 1 1 0), some (vR 1 0 0), some (vI (nI n)), some (vI (nI (nJ a))), some (vI (nI (unhN a))), some (vI (nI k)), some (vI (nI (gvN a n (stS (nJ a) k (nJ a)).1)))]) dX2_searchOrder_79 rfl ?_
          refine w_iload dX2_searchOrder_81 rfl ?_
          refine w_aload_n dX2_searchOrder_83 rfl ?_
          refine w_getI ff_X2_49 rfl rfl dX2_searchOrder_84 ?_
          rw [show (I2 12 0 0 4 : Int32) = (-4) from hmo2]
          refine w_icmp_le (tgt := 102) dX2_searchOrder_87 (by decide) (fun h3 => ?_) (fun h3 => ?_)
          · skip
            replace h3 : ((gvN a n (stS (nJ a) k (nJ a)).1 : Nat) : Int) ≤ (-4) := (zle (z_nI (by omega)) (by decide)).mp h3
            exfalso
            omega
          · skip
            replace h3 : ¬ (((gvN a n (stS (nJ a) k (nJ a)).1 : Nat) : Int) ≤ (-4)) := fun q => h3 ((zle (z_nI (by omega)) (by decide)).mpr q)
            have hbn : (bst (fC (nJ a)) (gvN a n) (k + 1)) = some (gvN a n (stS (nJ a) k (nJ a)).1, k) := by rw [bst, hfk, hb]; rfl
            refine w_aload_n dX2_searchOrder_90 rfl ?_
            refine w_iload dX2_searchOrder_91 rfl ?_
            refine w_putI ff_X2_49 rfl rfl rfl rfl dX2_searchOrder_93 ?_
            refine w_aload_n dX2_searchOrder_96 rfl ?_
            refine w_iload dX2_searchOrder_97 rfl ?_
            refine w_putI ff_X2_52 rfl rfl rfl rfl dX2_searchOrder_99 ?_
            refine w_iinc (v := nI (k + 1)) (ls' := [some (vR 12 0 0), some (vR 1 1 0), some (vR 1 0 0), some (vI (nI n)), some (vI (nI (nJ a))), some (vI (nI (unhN a))), some (vI (nI (k + 1))), some (vI (nI (gvN a n (stS (nJ a) k (nJ a)).1)))]) dX2_searchOrder_102 rfl (nI_1 _) rfl ?_
            refine w_goto (tgt := 34) dX2_searchOrder_105 (by decide) ?_
            exact ih (k + 1) _ _ (by omega) hc0_2.up12.up12 (by rw [hbn]; exact (xup_slot (by decide)).trans xup_self) (by rw [hbn]; exact xup_self) ((hf.tr (hfe1.d.q.tr hfp2.q)).tr ((FrQ.up (by decide)).tr (FrQ.up (by decide))))
    | some q =>
      rw [hb] at hmo hbe
      obtain ⟨hq1, hq2⟩ := bst_le hu9 k q hb
      refine w_iload dX2_searchOrder_34 rfl ?_
      refine w_iconst (v := 1) dX2_searchOrder_36 (by decide) ?_
      refine w_iconst (v := 2) dX2_searchOrder_37 (by decide) ?_
      refine w_iload dX2_searchOrder_38 rfl ?_
      refine w_imul dX2_searchOrder_40 ?_
      rw [show ((2) * (nI (nJ a)) : Int32) = nI (2 * (nJ a)) from ar_mul (p := 2) (q := nJ a) rfl rfl (by first | rfl | omega)]
      refine w_ishl dX2_searchOrder_41 ?_
      rw [show ((1) <<< ((nI (2 * (nJ a))) &&& 31) : Int32) = nI (4 ^ nJ a) from p1]
      refine w_icmp_ge (tgt := 108) dX2_searchOrder_42 (by decide) (fun h => absurd h (nI_ge hlt (by omega))) (fun _ => ?_)
      refine w_aload_n dX2_searchOrder_45 rfl ?_
      refine w_getI ff_X2_49 rfl rfl dX2_searchOrder_46 ?_
      rw [show (I 12 0 0 4 : Int32) = nI q.1 from hmo]
      refine w_iload dX2_searchOrder_49 rfl ?_
      refine w_icmp_ge (tgt := 108) dX2_searchOrder_51 (by decide) (fun h1 => ?_) (fun h1 => ?_)
      · skip
        replace h1 : ((unhN a : Nat) : Int) ≤ ((q.1 : Nat) : Int) := (zle (z_nI (by omega)) (z_nI (by omega))).mp h1
        exact w_return dX2_searchOrder_108 rfl rfl (⟨rfl, I, rfl, hc, by rw [show 4 ^ nJ a = k + (r + 1) by omega, bst_stop hu9 hb (by omega)]; exact hmo, by rw [show 4 ^ nJ a = k + (r + 1) by omega, bst_stop hu9 hb (by omega)]; exact hbe, hf⟩)
      · skip
        refine w_aload_n dX2_searchOrder_54 rfl ?_
        refine w_iload dX2_searchOrder_55 rfl ?_
        refine w_iload dX2_searchOrder_57 rfl ?_
        refine w_callV (as := [vI (nI k), vI (nI (nJ a))]) (st := []) (Tri.mono (c_seatBy (code := k) hJ (by omega)) (Nat.le_of_ble_eq_true rfl)) rfl rfl tg_X2_seatBy lk_X2_55 in_X2_seatBy se_X2_seatBy rfl dX2_searchOrder_59 rfl (Nat.le_of_ble_eq_true rfl) (Nat.le_refl _) (Nat.le_refl _) ?_
        rintro v M9 ⟨rfl, I1, rfl, hse1, hfe1⟩ -
        have hc0_1 := hfe1.d.q.court (by decide) hc
        have hmo1 : I1 12 0 0 4 = nI q.1 := (hfe1 12 0 0 4 (by decide) (by decide)).trans hmo
        have hbe1 : I1 12 0 0 5 = fI (some q) := (hfe1 12 0 0 5 (by decide) (by decide)).trans hbe
        refine w_ifeq_b (tgt := 102) dX2_searchOrder_62 (by decide) (fun h2 => ?_) (fun h2 => ?_)
        · skip
          refine w_iinc (v := nI (k + 1)) (ls' := [some (vR 12 0 0), some (vR 1 1 0), some (vR 1 0 0), some (vI (nI n)), some (vI (nI (nJ a))), some (vI (nI (unhN a))), some (vI (nI (k + 1))), o6]) dX2_searchOrder_102 rfl (nI_1 _) rfl ?_
          refine w_goto (tgt := 34) dX2_searchOrder_105 (by decide) ?_
          have hfk : fC (nJ a) k = none := if_neg h2
          have hbn : (bst (fC (nJ a)) (gvN a n) (k + 1)) = some q := by rw [bst, hfk, hb]; rfl
          exact ih (k + 1) _ _ (by omega) hc0_1 (by rw [hbn]; exact hmo1) (by rw [hbn]; exact hbe1) (hf.tr hfe1.d.q)
        · skip
          refine w_aload_n dX2_searchOrder_65 rfl ?_
          refine w_aload_n dX2_searchOrder_66 rfl ?_
          refine w_aload_n dX2_searchOrder_67 rfl ?_
          refine w_iload_n dX2_searchOrder_68 rfl ?_
          refine w_callV (as := [vR 1 1 0, vR 1 0 0, vI (nI n)]) (st := []) (Tri.mono (c_play (by decide) hw hc0_1 hse1 (stS_l _ _ _).2.2 (n := n) (by omega) (by omega)) (Nat.le_of_ble_eq_true rfl)) rfl rfl tg_X2_play lk_X2_59 in_X2_play se_X2_play rfl dX2_searchOrder_69 rfl (Nat.le_of_ble_eq_true rfl) (Nat.le_refl _) (Nat.le_refl _) ?_
          rintro v M9 ⟨rfl, I2, rfl, hp1_2, hp2_2, hp3_2, hfp2⟩ -
          have hwp2 := WF.it (ss := (stS (nJ a) k (nJ a)).1) hw (stS_l _ _ _).2.2 n (by omega)
          have hc0_2 := hfp2.q.court (by decide) hc0_1
          have hmo2 : I2 12 0 0 4 = nI q.1 := (hfp2 12 0 0 4 (by omega) (by omega)).trans hmo1
          have hbe2 : I2 12 0 0 5 = fI (some q) := (hfp2 12 0 0 5 (by omega) (by omega)).trans hbe1
          refine w_aload_n dX2_searchOrder_72 rfl ?_
          refine w_getI ff_X2_63 rfl rfl dX2_searchOrder_73 ?_
          rw [show (I2 12 0 0 2 : Int32) = nI (newN (heardN (itN (stS (nJ a) k (nJ a)).1 a n)) (heardN a)) from hp2_2.trans (newN_0 _ (heardN_lt hwp2) _ (heardN_lt hw))]
          refine w_callS (as := [vI (nI (newN (heardN (itN (stS (nJ a) k (nJ a)).1 a n)) (heardN a)))]) (st := []) (Tri.mono (c_bitCount (nI (newN (heardN (itN (stS (nJ a) k (nJ a)).1 a n)) (heardN a)))) (Nat.le_of_ble_eq_true rfl)) tg_J6_bitCount_0f7a4 lk_X2_43 sa_J6_bitCount_0f7a4 rfl dX2_searchOrder_76 rfl (Nat.le_of_ble_eq_true rfl) (Nat.le_refl _) (Nat.le_refl _) ?_
          rintro _ _ ⟨rfl, rfl⟩ -
          refine w_top (y := nI (popN (newN (heardN (itN (stS (nJ a) k (nJ a)).1 a n)) (heardN a)))) (show (bcI (nI (newN (heardN (itN (stS (nJ a) k (nJ a)).1 a n)) (heardN a))) : Int32) = nI (popN (newN (heardN (itN (stS (nJ a) k (nJ a)).1 a n)) (heardN a))) from bcI_N0 _ (Nat.lt_of_lt_of_le (bitN_lt _ _) (by decide))) ?_
          have hg5 := popN_lt _ (newN_lt (heardN (itN (stS (nJ a) k (nJ a)).1 a n)) (heardN a))
          have hfk : fC (nJ a) k = some (stS (nJ a) k (nJ a)).1 := if_pos h2
          refine w_top (y := nI (gvN a n (stS (nJ a) k (nJ a)).1)) (show (nI (popN (newN (heardN (itN (stS (nJ a) k (nJ a)).1 a n)) (heardN a))) : Int32) = nI (gvN a n (stS (nJ a) k (nJ a)).1) from rfl) ?_
          have hg5 : gvN a n (stS (nJ a) k (nJ a)).1 ≤ 5 := hg5
          refine w_istore (ls' := [some (vR 12 0 0), some (vR 1 1 0), some (vR 1 0 0), some (vI (nI n)), some (vI (nI (nJ a))), some (vI (nI (unhN a))), some (vI (nI k)), some (vI (nI (gvN a n (stS (nJ a) k (nJ a)).1)))]) dX2_searchOrder_79 rfl ?_
          refine w_iload dX2_searchOrder_81 rfl ?_
          refine w_aload_n dX2_searchOrder_83 rfl ?_
          refine w_getI ff_X2_49 rfl rfl dX2_searchOrder_84 ?_
          rw [show (I2 12 0 0 4 : Int32) = nI q.1 from hmo2]
          refine w_icmp_le (tgt := 102) dX2_searchOrder_87 (by decide) (fun h3 => ?_) (fun h3 => ?_)
          · skip
            replace h3 : ((gvN a n (stS (nJ a) k (nJ a)).1 : Nat) : Int) ≤ ((q.1 : Nat) : Int) := (zle (z_nI (by omega)) (z_nI (by omega))).mp h3
            have hbn : (bst (fC (nJ a)) (gvN a n) (k + 1)) = some q := by rw [bst, hfk, hb]; exact if_neg (by omega)
            refine w_iinc (v := nI (k + 1)) (ls' := [some (vR 12 0 0), some (vR 1 1 0), some (vR 1 0 0), some (vI (nI n)), some (vI (nI (nJ a))), some (vI (nI (unhN a))), some (vI (nI (k + 1))), some (vI (nI (gvN a n (stS (nJ a) k (nJ a)).1)))]) dX2_searchOrder_102 rfl (nI_1 _) rfl ?_
            refine w_goto (tgt := 34) dX2_searchOrder_105 (by decide) ?_
            exact ih (k + 1) _ _ (by omega) hc0_2 (by rw [hbn]; exact hmo2) (by rw [hbn]; exact hbe2) (hf.tr (hfe1.d.q.tr hfp2.q))
          · skip
            replace h3 : ¬ (((gvN a n (stS (nJ a) k (nJ a)).1 : Nat) : Int) ≤ ((q.1 : Nat) : Int)) := fun q => h3 ((zle (z_nI (by omega)) (z_nI (by omega))).mpr q)
            have hbn : (bst (fC (nJ a)) (gvN a n) (k + 1)) = some (gvN a n (stS (nJ a) k (nJ a)).1, k) := by rw [bst, hfk, hb]; exact if_pos (by omega)
            refine w_aload_n dX2_searchOrder_90 rfl ?_
            refine w_iload dX2_searchOrder_91 rfl ?_
            refine w_putI ff_X2_49 rfl rfl rfl rfl dX2_searchOrder_93 ?_
            refine w_aload_n dX2_searchOrder_96 rfl ?_
            refine w_iload dX2_searchOrder_97 rfl ?_
            refine w_putI ff_X2_52 rfl rfl rfl rfl dX2_searchOrder_99 ?_
            refine w_iinc (v := nI (k + 1)) (ls' := [some (vR 12 0 0), some (vR 1 1 0), some (vR 1 0 0), some (vI (nI n)), some (vI (nI (nJ a))), some (vI (nI (unhN a))), some (vI (nI (k + 1))), some (vI (nI (gvN a n (stS (nJ a) k (nJ a)).1)))]) dX2_searchOrder_102 rfl (nI_1 _) rfl ?_
            refine w_goto (tgt := 34) dX2_searchOrder_105 (by decide) ?_
            exact ih (k + 1) _ _ (by omega) hc0_2.up12.up12 (by rw [hbn]; exact (xup_slot (by decide)).trans xup_self) (by rw [hbn]; exact xup_self) ((hf.tr (hfe1.d.q.tr hfp2.q)).tr ((FrQ.up (by decide)).tr (FrQ.up (by decide))))

theorem c_searchOrder {I : xF4 Int32} {L : xF4 Int64} {a : aA} (hc : CourtIs I 0 a) (hw : WF a) {n : Nat} (hn : n ≤ 30) (hd9 : dY a ≤ 999) : Tri 8 109 m_X2_searchOrder [vR 12 0 0, vR 1 1 0, vR 1 0 0, vI (nI n)] (rM I L) (pSo a n I L) := by
  refine ⟨k_X2_searchOrder, Nat.le_of_ble_eq_true rfl, ?_⟩
  show Wp _ _ _ 0 [some (vR 12 0 0), some (vR 1 1 0), some (vR 1 0 0), some (vI (nI n)), none, none, none, none] [] (rM I L) _
  obtain ⟨hJ, hC, hG, hD, hR, -⟩ := id hw
  refine w_aload_n dX2_searchOrder_0 rfl ?_
  refine w_getI ff_X2_23 rfl rfl dX2_searchOrder_1 ?_
  rw [show (I 1 0 0 3 : Int32) = nI (nJ a) from hc.1]
  refine w_istore (ls' := [some (vR 12 0 0), some (vR 1 1 0), some (vR 1 0 0), some (vI (nI n)), some (vI (nI (nJ a))), none, none, none]) dX2_searchOrder_4 rfl ?_
  refine w_aload_n dX2_searchOrder_6 rfl ?_
  refine w_getI ff_X2_36 rfl rfl dX2_searchOrder_7 ?_
  rw [show (I 1 0 0 4 : Int32) = nI (nC a) from hc.2.1]
  refine w_aload_n dX2_searchOrder_10 rfl ?_
  refine w_callV (as := []) (st := [vI (nI (nC a))]) (Tri.mono (c_heardBits hc hw) (Nat.le_of_ble_eq_true rfl)) rfl rfl tg_X1_heardBits lk_X2_39 in_X1_heardBits se_X1_heardBits rfl dX2_searchOrder_11 rfl (Nat.le_of_ble_eq_true rfl) (Nat.le_refl _) (Nat.le_refl _) ?_
  rintro _ _ ⟨rfl, rfl⟩ -
  refine w_callS (as := [vI (nI (heardN a))]) (st := [vI (nI (nC a))]) (Tri.mono (c_bitCount (nI (heardN a))) (Nat.le_of_ble_eq_true rfl)) tg_J6_bitCount_0f7a4 lk_X2_43 sa_J6_bitCount_0f7a4 rfl dX2_searchOrder_14 rfl (Nat.le_of_ble_eq_true rfl) (Nat.le_refl _) (Nat.le_refl _) ?_
  rintro _ _ ⟨rfl, rfl⟩ -
  refine w_top (y := nI (popN (heardN a))) (show (bcI (nI (heardN a)) : Int32) = nI (popN (heardN a)) from bcI_N0 _ (heardN_lt hw)) ?_
  have hph := popN_heard hw
  have hcn := cntN_le (fun c => decide (0 < sF a c 4)) (nC a)
  refine w_isub dX2_searchOrder_17 ?_
  refine w_top (y := nI (unhN a)) (show ((nI (nC a)) - (nI (popN (heardN a))) : Int32) = nI (unhN a) from pk_sub (by omega)) ?_
  refine w_istore (ls' := [some (vR 12 0 0), some (vR 1 1 0), some (vR 1 0 0), some (vI (nI n)), some (vI (nI (nJ a))), some (vI (nI (unhN a))), none, none]) dX2_searchOrder_18 rfl ?_
  refine w_aload_n dX2_searchOrder_20 rfl ?_
  refine w_bipush (v := (-4)) dX2_searchOrder_21 (by decide) ?_
  refine w_putI ff_X2_49 rfl rfl rfl rfl dX2_searchOrder_23 ?_
  refine w_aload_n dX2_searchOrder_26 rfl ?_
  refine w_iconst (v := 0) dX2_searchOrder_27 (by decide) ?_
  refine w_putI ff_X2_52 rfl rfl rfl rfl dX2_searchOrder_28 ?_
  refine w_iconst (v := 0) dX2_searchOrder_31 (by decide) ?_
  refine w_istore (ls' := [some (vR 12 0 0), some (vR 1 1 0), some (vR 1 0 0), some (vI (nI n)), some (vI (nI (nJ a))), some (vI (nI (unhN a))), some (vI (0)), none]) dX2_searchOrder_32 rfl ?_
  exact l_searchOrder hw hn hd9 (4 ^ nJ a) 0 _ none (Nat.zero_add _) hc.up12.up12 ((xup_slot (by decide)).trans xup_self) xup_self ((FrQ.up (by decide)).tr (FrQ.up (by decide)))

set_option maxHeartbeats 1000000 in
theorem l_orderM {L : xF4 Int64} {a : aA} (hw : WF a) {n : Nat} (hn : n ≤ 30) (hd9 : dY a ≤ 999) {what : Int32} {I0 : xF4 Int32} {Q : Option xV → xM → Prop} (hk : ∀ (I : xF4 Int32) (o6 : Option xV), SI I a → FrR I0 I → Wp 19 109 m_X11_order 117 [some (vR 30 0 0), some (vI (nI n)), some (vI what), some (vI (mI (bst (fM (nJ a)) (gvN a n) (nJ a ^ nJ a)))), some (vI (fI (bst (fM (nJ a)) (gvN a n) (nJ a ^ nJ a)))), some (vI (nI (nJ a ^ nJ a))), o6] [] (rM I L) Q) : ∀ (r k : Nat) (I : xF4 Int32) (o6 : Option xV), k + r = nJ a ^ nJ a → SI I a → I 30 0 0 18 = 0 → FrR I0 I → Wp 19 109 m_X11_order 46 [some (vR 30 0 0), some (vI (nI n)), some (vI what), some (vI (mI (bst (fM (nJ a)) (gvN a n) k))), some (vI (fI (bst (fM (nJ a)) (gvN a n) k))), some (vI (nI k)), o6] [] (rM I L) Q := by
  intro r
  induction r with
  | zero =>
    intro k I o6 hr hs hab hf
    have e : k = nJ a ^ nJ a := by omega
    obtain ⟨hJ, hC, hG, hD, hR, -⟩ := id hw
    obtain ⟨p1, p2, p3⟩ := pow4 (nJ a) (by omega)
    subst e
    refine w_iload dX11_order_46 rfl ?_
    refine w_aload_n dX11_order_48 rfl ?_
    refine w_aload_n dX11_order_49 rfl ?_
    refine w_getI ff_X11_58 rfl rfl dX11_order_50 ?_
    rw [show (I 30 0 0 3 : Int32) = nI (nJ a) from hs.1]
    refine w_aload_n dX11_order_53 rfl ?_
    refine w_getI ff_X11_58 rfl rfl dX11_order_54 ?_
    rw [show (I 30 0 0 3 : Int32) = nI (nJ a) from hs.1]
    refine w_callV (as := [vI (nI (nJ a)), vI (nI (nJ a))]) (st := [vI (nI (nJ a ^ nJ a))]) (Tri.mono (d_powerOf (b := nJ a) (n := nJ a) (by omega)) (Nat.le_of_ble_eq_true rfl)) rfl rfl tg_X11_powerOf lk_X11_239 in_X11_powerOf se_X11_powerOf rfl dX11_order_57 rfl (Nat.le_of_ble_eq_true rfl) (Nat.le_refl _) (Nat.le_refl _) ?_
    rintro _ _ ⟨rfl, rfl⟩ -
    refine w_icmp_ge (tgt := 117) dX11_order_60 (by decide) (fun _ => ?_) (fun h => absurd (nI_le (Nat.le_refl _) (by omega)) h)
    exact hk _ _ hs hf
  | succ r ih =>
    intro k I o6 hr hs hab hf
    obtain ⟨hJ, hC, hG, hD, hR, -⟩ := id hw
    obtain ⟨p1, p2, p3⟩ := pow4 (nJ a) (by omega)
    have hlt : k < nJ a ^ nJ a := by omega
    have hu9 : ∀ k ss, fM (nJ a) k = some ss → gvN a n ss ≤ unhN a := fun k ss h => by
      unfold fM at h
      split at h
      · cases h; exact gvN_le hw (by omega) (fun j hj => sitL_in hj)
      · cases h
    have hu5 : unhN a ≤ 5 := Nat.le_trans (Nat.sub_le _ _) hC
    cases hb : (bst (fM (nJ a)) (gvN a n) k) with
    | none =>
      rw [show mI (none) = (-1) from rfl, show fI (none) = 0 from rfl]
      refine w_iload dX11_order_46 rfl ?_
      refine w_aload_n dX11_order_48 rfl ?_
      refine w_aload_n dX11_order_49 rfl ?_
      refine w_getI ff_X11_58 rfl rfl dX11_order_50 ?_
      rw [show (I 30 0 0 3 : Int32) = nI (nJ a) from hs.1]
      refine w_aload_n dX11_order_53 rfl ?_
      refine w_getI ff_X11_58 rfl rfl dX11_order_54 ?_
      rw [show (I 30 0 0 3 : Int32) = nI (nJ a) from hs.1]
      refine w_callV (as := [vI (nI (nJ a)), vI (nI (nJ a))]) (st := [vI (nI k)]) (Tri.mono (d_powerOf (b := nJ a) (n := nJ a) (by omega)) (Nat.le_of_ble_eq_true rfl)) rfl rfl tg_X11_powerOf lk_X11_239 in_X11_powerOf se_X11_powerOf rfl dX11_order_57 rfl (Nat.le_of_ble_eq_true rfl) (Nat.le_refl _) (Nat.le_refl _) ?_
      rintro _ _ ⟨rfl, rfl⟩ -
      refine w_icmp_ge (tgt := 117) dX11_order_60 (by decide) (fun h => absurd h (nI_ge hlt (by omega))) (fun _ => ?_)
      refine w_aload_n dX11_order_63 rfl ?_
      refine w_callV (as := []) (st := []) (Tri.mono (d_starts hs hw) (Nat.le_of_ble_eq_true rfl)) rfl rfl tg_X11_starts lk_X11_192 in_X11_starts se_X11_starts rfl dX11_order_64 rfl (Nat.le_of_ble_eq_true rfl) (Nat.le_refl _) (Nat.le_refl _) ?_
      rintro v M9 ⟨rfl, I1, rfl, hm1, hi1, hf1⟩ -
      have hv18_1 : I1 30 0 0 18 = 0 := (hf1 30 0 0 18 (by decide) (by decide)).trans hab
      have hs1 := hf1.r.si hs
      refine w_aload_n dX11_order_67 rfl ?_
      refine w_iload dX11_order_68 rfl ?_
      refine w_callV (as := [vI (nI k)]) (st := []) (Tri.mono (d_isOrder (m := nJ a) (k := k) hJ (by omega) hs1.1) (Nat.le_of_ble_eq_true rfl)) rfl rfl tg_X11_isOrder lk_X11_252 in_X11_isOrder se_X11_isOrder rfl dX11_order_70 rfl (Nat.le_of_ble_eq_true rfl) (Nat.le_refl _) (Nat.le_refl _) ?_
      rintro v M9 ⟨rfl, I2, rfl, hd2, hf2⟩ -
      have hg2 : FrR I1 I2 := fun t b j s p q => hf2 t b j s (fun z => p (by omega))
      have hm2 : MI I2 a := ⟨(hf2 30 0 0 3 (by decide)).trans hm1.1, (hf2 30 0 0 4 (by decide)).trans hm1.2.1, hm1.2.2.fr (fun x => hf2 32 0 0 x (by decide))⟩
      have hv18_2 : I2 30 0 0 18 = 0 := (hf2 30 0 0 18 (by decide)).trans hv18_1
      have hs2 := hg2.si hs1
      refine w_ifeq_b (tgt := 111) dX11_order_73 (by decide) (fun h1 => ?_) (fun h1 => ?_)
      · skip
        refine w_iinc (v := nI (k + 1)) (ls' := [some (vR 30 0 0), some (vI (nI n)), some (vI (what)), some (vI ((-1))), some (vI (0)), some (vI (nI (k + 1))), o6]) dX11_order_111 rfl (nI_1 _) rfl ?_
        refine w_goto (tgt := 46) dX11_order_114 (by decide) ?_
        have hfk : fM (nJ a) k = none := if_neg h1
        have hbn : (bst (fM (nJ a)) (gvN a n) (k + 1)) = none := by rw [bst, hfk, hb]; rfl
        have z := ih (k + 1) _ o6 (by omega) hs2 hv18_2 (hf.tr (hf1.r.tr hg2))
        rw [hbn] at z
        exact z
      · skip
        refine w_aload_n dX11_order_76 rfl ?_
        refine w_iload_n dX11_order_77 rfl ?_
        have hfk : fM (nJ a) k = some (sitL (nJ a) k) := if_pos h1
        refine w_callV (as := [vI (nI n)]) (st := []) (Tri.mono (d_dh0 hm2 hw (ss := sitL (nJ a) k) (n := n) (by unfold sitL; rw [List.length_map, List.length_range]) (fun j h => sitL_in h) (by omega) (sitL_is hd2) hv18_2) (Nat.le_of_ble_eq_true rfl)) rfl rfl tg_X11_docketHears lk_X11_236 in_X11_docketHears se_X11_docketHears rfl dX11_order_78 rfl (Nat.le_of_ble_eq_true rfl) (Nat.le_refl _) (Nat.le_refl _) ?_
        rintro v M9 ⟨rfl, I3, rfl, hm3, hf3⟩ -
        have hv18_3 : I3 30 0 0 18 = 0 := (hf3 30 0 0 18 (by decide) (by decide)).trans hv18_2
        have hs3 := hf3.r.si hs2
        have hg5 : gvN a n (sitL (nJ a) k) ≤ 5 := popN_lt _ (newN_lt _ _)
        refine w_top (y := nI (gvN a n (sitL (nJ a) k))) (show (nI (popN (newN (heardN (itN (sitL (nJ a) k) a n)) (heardN a))) : Int32) = nI (gvN a n (sitL (nJ a) k)) from rfl) ?_
        refine w_istore (ls' := [some (vR 30 0 0), some (vI (nI n)), some (vI (what)), some (vI ((-1))), some (vI (0)), some (vI (nI k)), some (vI (nI (gvN a n (sitL (nJ a) k))))]) dX11_order_81 rfl ?_
        refine w_iload dX11_order_83 rfl ?_
        refine w_iload_n dX11_order_85 rfl ?_
        refine w_icmp_le (tgt := 94) dX11_order_86 (by decide) (fun h2 => ?_) (fun h2 => ?_)
        · skip
          replace h2 : ((gvN a n (sitL (nJ a) k) : Nat) : Int) ≤ (-1) := (zle (z_nI (by omega)) (by decide)).mp h2
          first
          | (exfalso; omega)
          | skip
            refine w_iload dX11_order_94 rfl ?_
            refine w_istore (ls' := [some (vR 30 0 0), some (vI (nI n)), some (vI (what)), some (vI ((-1))), some (vI (0)), some (vI (nI k)), some (vI (nI (gvN a n (sitL (nJ a) k))))]) dX11_order_96 rfl ?_
            refine w_iload dX11_order_98 rfl ?_
            refine w_iload_n dX11_order_100 rfl ?_
            refine w_icmp_le (tgt := 109) dX11_order_101 (by decide) (fun h3 => ?_) (fun h3 => ?_)
            · skip
              replace h3 : ((gvN a n (sitL (nJ a) k) : Nat) : Int) ≤ (-1) := (zle (z_nI (by omega)) (by decide)).mp h3
              first
              | (exfalso; omega)
              | skip
                refine w_iload_n dX11_order_109 rfl ?_
                refine w_istore_n (ls' := [some (vR 30 0 0), some (vI (nI n)), some (vI (what)), some (vI ((-1))), some (vI (0)), some (vI (nI k)), some (vI (nI (gvN a n (sitL (nJ a) k))))]) dX11_order_110 rfl ?_
                have hbn : (bst (fM (nJ a)) (gvN a n) (k + 1)) = some q := by rw [bst, hfk, hb]; rfl
                refine w_iinc (v := nI (k + 1)) (ls' := [some (vR 30 0 0), some (vI (nI n)), some (vI (what)), some (vI ((-1))), some (vI (0)), some (vI (nI (k + 1))), some (vI (nI (gvN a n (sitL (nJ a) k))))]) dX11_order_111 rfl (nI_1 _) rfl ?_
                refine w_goto (tgt := 46) dX11_order_114 (by decide) ?_
                have z := ih (k + 1) _ (some (vI (nI (gvN a n (sitL (nJ a) k))))) (by omega) hs3 hv18_3 (hf.tr ((hf1.r.tr hg2).tr hf3.r))
                rw [hbn] at z
                exact z
            · skip
              replace h3 : ¬ (((gvN a n (sitL (nJ a) k) : Nat) : Int) ≤ (-1)) := fun q => h3 ((zle (z_nI (by omega)) (by decide)).mpr q)
              first
              | (exfalso; omega)
              | skip
                refine w_iload dX11_order_104 rfl ?_
                refine w_goto (tgt := 110) dX11_order_106 (by decide) ?_
                refine w_istore_n (ls' := [some (vR 30 0 0), some (vI (nI n)), some (vI (what)), some (vI (nI (gvN a n (sitL (nJ a) k)))), some (vI (0)), some (vI (nI k)), some (vI (nI (gvN a n (sitL (nJ a) k))))]) dX11_order_110 rfl ?_
                have hbn : (bst (fM (nJ a)) (gvN a n) (k + 1)) = some (gvN a n (sitL (nJ a) k), k) := by rw [bst, hfk, hb]; rfl
                refine w_iinc (v := nI (k + 1)) (ls' := [some (vR 30 0 0), some (vI (nI n)), some (vI (what)), some (vI (nI (gvN a n (sitL (nJ a) k)))), some (vI (0)), some (vI (nI (k + 1))), some (vI (nI (gvN a n (sitL (nJ a) k))))]) dX11_order_111 rfl (nI_1 _) rfl ?_
                refine w_goto (tgt := 46) dX11_order_114 (by decide) ?_
                have z := ih (k + 1) _ (some (vI (nI (gvN a n (sitL (nJ a) k))))) (by omega) hs3 hv18_3 (hf.tr ((hf1.r.tr hg2).tr hf3.r))
                rw [hbn] at z
                exact z
        · skip
          replace h2 : ¬ (((gvN a n (sitL (nJ a) k) : Nat) : Int) ≤ (-1)) := fun q => h2 ((zle (z_nI (by omega)) (by decide)).mpr q)
          first
          | (exfalso; omega)
          | skip
            refine w_iload dX11_order_89 rfl ?_
            refine w_goto (tgt := 96) dX11_order_91 (by decide) ?_
            refine w_istore (ls' := [some (vR 30 0 0), some (vI (nI n)), some (vI (what)), some (vI ((-1))), some (vI (nI k)), some (vI (nI k)), some (vI (nI (gvN a n (sitL (nJ a) k))))]) dX11_order_96 rfl ?_
            refine w_iload dX11_order_98 rfl ?_
            refine w_iload_n dX11_order_100 rfl ?_
            refine w_icmp_le (tgt := 109) dX11_order_101 (by decide) (fun h3 => ?_) (fun h3 => ?_)
            · skip
              replace h3 : ((gvN a n (sitL (nJ a) k) : Nat) : Int) ≤ (-1) := (zle (z_nI (by omega)) (by decide)).mp h3
              first
              | (exfalso; omega)
              | skip
                refine w_iload_n dX11_order_109 rfl ?_
                refine w_istore_n (ls' := [some (vR 30 0 0), some (vI (nI n)), some (vI (what)), some (vI ((-1))), some (vI (nI k)), some (vI (nI k)), some (vI (nI (gvN a n (sitL (nJ a) k))))]) dX11_order_110 rfl ?_
                have hbn : (bst (fM (nJ a)) (gvN a n) (k + 1)) = some q := by rw [bst, hfk, hb]; rfl
                refine w_iinc (v := nI (k + 1)) (ls' := [some (vR 30 0 0), some (vI (nI n)), some (vI (what)), some (vI ((-1))), some (vI (nI k)), some (vI (nI (k + 1))), some (vI (nI (gvN a n (sitL (nJ a) k))))]) dX11_order_111 rfl (nI_1 _) rfl ?_
                refine w_goto (tgt := 46) dX11_order_114 (by decide) ?_
                have z := ih (k + 1) _ (some (vI (nI (gvN a n (sitL (nJ a) k))))) (by omega) hs3 hv18_3 (hf.tr ((hf1.r.tr hg2).tr hf3.r))
                rw [hbn] at z
                exact z
            · skip
              replace h3 : ¬ (((gvN a n (sitL (nJ a) k) : Nat) : Int) ≤ (-1)) := fun q => h3 ((zle (z_nI (by omega)) (by decide)).mpr q)
              first
              | (exfalso; omega)
              | skip
                refine w_iload dX11_order_104 rfl ?_
                refine w_goto (tgt := 110) dX11_order_106 (by decide) ?_
                refine w_istore_n (ls' := [some (vR 30 0 0), some (vI (nI n)), some (vI (what)), some (vI (nI (gvN a n (sitL (nJ a) k)))), some (vI (nI k)), some (vI (nI k)), some (vI (nI (gvN a n (sitL (nJ a) k))))]) dX11_order_110 rfl ?_
                have hbn : (bst (fM (nJ a)) (gvN a n) (k + 1)) = some (gvN a n (sitL (nJ a) k), k) := by rw [bst, hfk, hb]; rfl
                refine w_iinc (v := nI (k + 1)) (ls' := [some (vR 30 0 0), some (vI (nI n)), some (vI (what)), some (vI (nI (gvN a n (sitL (nJ a) k)))), some (vI (nI k)), some (vI (nI (k + 1))), some (vI (nI (gvN a n (sitL (nJ a) k))))]) dX11_order_111 rfl (nI_1 _) rfl ?_
                refine w_goto (tgt := 46) dX11_order_114 (by decide) ?_
                have z := ih (k + 1) _ (some (vI (nI (gvN a n (sitL (nJ a) k))))) (by omega) hs3 hv18_3 (hf.tr ((hf1.r.tr hg2).tr hf3.r))
                rw [hbn] at z
                exact z
    | some q =>
      obtain ⟨hq1, hq2⟩ := bst_le hu9 k q hb
      rw [show mI (some q) = nI q.1 from rfl, show fI (some q) = nI q.2 from rfl]
      refine w_iload dX11_order_46 rfl ?_
      refine w_aload_n dX11_order_48 rfl ?_
      refine w_aload_n dX11_order_49 rfl ?_
      refine w_getI ff_X11_58 rfl rfl dX11_order_50 ?_
      rw [show (I 30 0 0 3 : Int32) = nI (nJ a) from hs.1]
      refine w_aload_n dX11_order_53 rfl ?_
      refine w_getI ff_X11_58 rfl rfl dX11_order_54 ?_
      rw [show (I 30 0 0 3 : Int32) = nI (nJ a) from hs.1]
      refine w_callV (as := [vI (nI (nJ a)), vI (nI (nJ a))]) (st := [vI (nI k)]) (Tri.mono (d_powerOf (b := nJ a) (n := nJ a) (by omega)) (Nat.le_of_ble_eq_true rfl)) rfl rfl tg_X11_powerOf lk_X11_239 in_X11_powerOf se_X11_powerOf rfl dX11_order_57 rfl (Nat.le_of_ble_eq_true rfl) (Nat.le_refl _) (Nat.le_refl _) ?_
      rintro _ _ ⟨rfl, rfl⟩ -
      refine w_icmp_ge (tgt := 117) dX11_order_60 (by decide) (fun h => absurd h (nI_ge hlt (by omega))) (fun _ => ?_)
      refine w_aload_n dX11_order_63 rfl ?_
      refine w_callV (as := []) (st := []) (Tri.mono (d_starts hs hw) (Nat.le_of_ble_eq_true rfl)) rfl rfl tg_X11_starts lk_X11_192 in_X11_starts se_X11_starts rfl dX11_order_64 rfl (Nat.le_of_ble_eq_true rfl) (Nat.le_refl _) (Nat.le_refl _) ?_
      rintro v M9 ⟨rfl, I1, rfl, hm1, hi1, hf1⟩ -
      have hv18_1 : I1 30 0 0 18 = 0 := (hf1 30 0 0 18 (by decide) (by decide)).trans hab
      have hs1 := hf1.r.si hs
      refine w_aload_n dX11_order_67 rfl ?_
      refine w_iload dX11_order_68 rfl ?_
      refine w_callV (as := [vI (nI k)]) (st := []) (Tri.mono (d_isOrder (m := nJ a) (k := k) hJ (by omega) hs1.1) (Nat.le_of_ble_eq_true rfl)) rfl rfl tg_X11_isOrder lk_X11_252 in_X11_isOrder se_X11_isOrder rfl dX11_order_70 rfl (Nat.le_of_ble_eq_true rfl) (Nat.le_refl _) (Nat.le_refl _) ?_
      rintro v M9 ⟨rfl, I2, rfl, hd2, hf2⟩ -
      have hg2 : FrR I1 I2 := fun t b j s p q => hf2 t b j s (fun z => p (by omega))
      have hm2 : MI I2 a := ⟨(hf2 30 0 0 3 (by decide)).trans hm1.1, (hf2 30 0 0 4 (by decide)).trans hm1.2.1, hm1.2.2.fr (fun x => hf2 32 0 0 x (by decide))⟩
      have hv18_2 : I2 30 0 0 18 = 0 := (hf2 30 0 0 18 (by decide)).trans hv18_1
      have hs2 := hg2.si hs1
      refine w_ifeq_b (tgt := 111) dX11_order_73 (by decide) (fun h1 => ?_) (fun h1 => ?_)
      · skip
        refine w_iinc (v := nI (k + 1)) (ls' := [some (vR 30 0 0), some (vI (nI n)), some (vI (what)), some (vI (nI q.1)), some (vI (nI q.2)), some (vI (nI (k + 1))), o6]) dX11_order_111 rfl (nI_1 _) rfl ?_
        refine w_goto (tgt := 46) dX11_order_114 (by decide) ?_
        have hfk : fM (nJ a) k = none := if_neg h1
        have hbn : (bst (fM (nJ a)) (gvN a n) (k + 1)) = some q := by rw [bst, hfk, hb]; rfl
        have z := ih (k + 1) _ o6 (by omega) hs2 hv18_2 (hf.tr (hf1.r.tr hg2))
        rw [hbn] at z
        exact z
      · skip
        refine w_aload_n dX11_order_76 rfl ?_
        refine w_iload_n dX11_order_77 rfl ?_
        have hfk : fM (nJ a) k = some (sitL (nJ a) k) := if_pos h1
        refine w_callV (as := [vI (nI n)]) (st := []) (Tri.mono (d_dh0 hm2 hw (ss := sitL (nJ a) k) (n := n) (by unfold sitL; rw [List.length_map, List.length_range]) (fun j h => sitL_in h) (by omega) (sitL_is hd2) hv18_2) (Nat.le_of_ble_eq_true rfl)) rfl rfl tg_X11_docketHears lk_X11_236 in_X11_docketHears se_X11_docketHears rfl dX11_order_78 rfl (Nat.le_of_ble_eq_true rfl) (Nat.le_refl _) (Nat.le_refl _) ?_
        rintro v M9 ⟨rfl, I3, rfl, hm3, hf3⟩ -
        have hv18_3 : I3 30 0 0 18 = 0 := (hf3 30 0 0 18 (by decide) (by decide)).trans hv18_2
        have hs3 := hf3.r.si hs2
        have hg5 : gvN a n (sitL (nJ a) k) ≤ 5 := popN_lt _ (newN_lt _ _)
        refine w_top (y := nI (gvN a n (sitL (nJ a) k))) (show (nI (popN (newN (heardN (itN (sitL (nJ a) k) a n)) (heardN a))) : Int32) = nI (gvN a n (sitL (nJ a) k)) from rfl) ?_
        refine w_istore (ls' := [some (vR 30 0 0), some (vI (nI n)), some (vI (what)), some (vI (nI q.1)), some (vI (nI q.2)), some (vI (nI k)), some (vI (nI (gvN a n (sitL (nJ a) k))))]) dX11_order_81 rfl ?_
        refine w_iload dX11_order_83 rfl ?_
        refine w_iload_n dX11_order_85 rfl ?_
        refine w_icmp_le (tgt := 94) dX11_order_86 (by decide) (fun h2 => ?_) (fun h2 => ?_)
        · skip
          replace h2 : ((gvN a n (sitL (nJ a) k) : Nat) : Int) ≤ ((q.1 : Nat) : Int) := (zle (z_nI (by omega)) (z_nI (by omega))).mp h2
          first
          | (exfalso; omega)
          | skip
            refine w_iload dX11_order_94 rfl ?_
            refine w_istore (ls' := [some (vR 30 0 0), some (vI (nI n)), some (vI (what)), some (vI (nI q.1)), some (vI (nI q.2)), some (vI (nI k)), some (vI (nI (gvN a n (sitL (nJ a) k))))]) dX11_order_96 rfl ?_
            refine w_iload dX11_order_98 rfl ?_
            refine w_iload_n dX11_order_100 rfl ?_
            refine w_icmp_le (tgt := 109) dX11_order_101 (by decide) (fun h3 => ?_) (fun h3 => ?_)
            · skip
              replace h3 : ((gvN a n (sitL (nJ a) k) : Nat) : Int) ≤ ((q.1 : Nat) : Int) := (zle (z_nI (by omega)) (z_nI (by omega))).mp h3
              first
              | (exfalso; omega)
              | skip
                refine w_iload_n dX11_order_109 rfl ?_
                refine w_istore_n (ls' := [some (vR 30 0 0), some (vI (nI n)), some (vI (what)), some (vI (nI q.1)), some (vI (nI q.2)), some (vI (nI k)), some (vI (nI (gvN a n (sitL (nJ a) k))))]) dX11_order_110 rfl ?_
                have hbn : (bst (fM (nJ a)) (gvN a n) (k + 1)) = some q := by rw [bst, hfk, hb]; exact if_neg (by omega)
                refine w_iinc (v := nI (k + 1)) (ls' := [some (vR 30 0 0), some (vI (nI n)), some (vI (what)), some (vI (nI q.1)), some (vI (nI q.2)), some (vI (nI (k + 1))), some (vI (nI (gvN a n (sitL (nJ a) k))))]) dX11_order_111 rfl (nI_1 _) rfl ?_
                refine w_goto (tgt := 46) dX11_order_114 (by decide) ?_
                have z := ih (k + 1) _ (some (vI (nI (gvN a n (sitL (nJ a) k))))) (by omega) hs3 hv18_3 (hf.tr ((hf1.r.tr hg2).tr hf3.r))
                rw [hbn] at z
                exact z
            · skip
              replace h3 : ¬ (((gvN a n (sitL (nJ a) k) : Nat) : Int) ≤ ((q.1 : Nat) : Int)) := fun q => h3 ((zle (z_nI (by omega)) (z_nI (by omega))).mpr q)
              first
              | (exfalso; omega)
              | skip
                refine w_iload dX11_order_104 rfl ?_
                refine w_goto (tgt := 110) dX11_order_106 (by decide) ?_
                refine w_istore_n (ls' := [some (vR 30 0 0), some (vI (nI n)), some (vI (what)), some (vI (nI (gvN a n (sitL (nJ a) k)))), some (vI (nI q.2)), some (vI (nI k)), some (vI (nI (gvN a n (sitL (nJ a) k))))]) dX11_order_110 rfl ?_
                have hbn : (bst (fM (nJ a)) (gvN a n) (k + 1)) = some (gvN a n (sitL (nJ a) k), k) := by rw [bst, hfk, hb]; exact if_pos (by omega)
                refine w_iinc (v := nI (k + 1)) (ls' := [some (vR 30 0 0), some (vI (nI n)), some (vI (what)), some (vI (nI (gvN a n (sitL (nJ a) k)))), some (vI (nI q.2)), some (vI (nI (k + 1))), some (vI (nI (gvN a n (sitL (nJ a) k))))]) dX11_order_111 rfl (nI_1 _) rfl ?_
                refine w_goto (tgt := 46) dX11_order_114 (by decide) ?_
                have z := ih (k + 1) _ (some (vI (nI (gvN a n (sitL (nJ a) k))))) (by omega) hs3 hv18_3 (hf.tr ((hf1.r.tr hg2).tr hf3.r))
                rw [hbn] at z
                exact z
        · skip
          replace h2 : ¬ (((gvN a n (sitL (nJ a) k) : Nat) : Int) ≤ ((q.1 : Nat) : Int)) := fun q => h2 ((zle (z_nI (by omega)) (z_nI (by omega))).mpr q)
          first
          | (exfalso; omega)
          | skip
            refine w_iload dX11_order_89 rfl ?_
            refine w_goto (tgt := 96) dX11_order_91 (by decide) ?_
            refine w_istore (ls' := [some (vR 30 0 0), some (vI (nI n)), some (vI (what)), some (vI (nI q.1)), some (vI (nI k)), some (vI (nI k)), some (vI (nI (gvN a n (sitL (nJ a) k))))]) dX11_order_96 rfl ?_
            refine w_iload dX11_order_98 rfl ?_
            refine w_iload_n dX11_order_100 rfl ?_
            refine w_icmp_le (tgt := 109) dX11_order_101 (by decide) (fun h3 => ?_) (fun h3 => ?_)
            · skip
              replace h3 : ((gvN a n (sitL (nJ a) k) : Nat) : Int) ≤ ((q.1 : Nat) : Int) := (zle (z_nI (by omega)) (z_nI (by omega))).mp h3
              first
              | (exfalso; omega)
              | skip
                refine w_iload_n dX11_order_109 rfl ?_
                refine w_istore_n (ls' := [some (vR 30 0 0), some (vI (nI n)), some (vI (what)), some (vI (nI q.1)), some (vI (nI k)), some (vI (nI k)), some (vI (nI (gvN a n (sitL (nJ a) k))))]) dX11_order_110 rfl ?_
                have hbn : (bst (fM (nJ a)) (gvN a n) (k + 1)) = some q := by rw [bst, hfk, hb]; exact if_neg (by omega)
                refine w_iinc (v := nI (k + 1)) (ls' := [some (vR 30 0 0), some (vI (nI n)), some (vI (what)), some (vI (nI q.1)), some (vI (nI k)), some (vI (nI (k + 1))), some (vI (nI (gvN a n (sitL (nJ a) k))))]) dX11_order_111 rfl (nI_1 _) rfl ?_
                refine w_goto (tgt := 46) dX11_order_114 (by decide) ?_
                have z := ih (k + 1) _ (some (vI (nI (gvN a n (sitL (nJ a) k))))) (by omega) hs3 hv18_3 (hf.tr ((hf1.r.tr hg2).tr hf3.r))
                rw [hbn] at z
                exact z
            · skip
              replace h3 : ¬ (((gvN a n (sitL (nJ a) k) : Nat) : Int) ≤ ((q.1 : Nat) : Int)) := fun q => h3 ((zle (z_nI (by omega)) (z_nI (by omega))).mpr q)
              first
              | (exfalso; omega)
              | skip
                refine w_iload dX11_order_104 rfl ?_
                refine w_goto (tgt := 110) dX11_order_106 (by decide) ?_
                refine w_istore_n (ls' := [some (vR 30 0 0), some (vI (nI n)), some (vI (what)), some (vI (nI (gvN a n (sitL (nJ a) k)))), some (vI (nI k)), some (vI (nI k)), some (vI (nI (gvN a n (sitL (nJ a) k))))]) dX11_order_110 rfl ?_
                have hbn : (bst (fM (nJ a)) (gvN a n) (k + 1)) = some (gvN a n (sitL (nJ a) k), k) := by rw [bst, hfk, hb]; exact if_pos (by omega)
                refine w_iinc (v := nI (k + 1)) (ls' := [some (vR 30 0 0), some (vI (nI n)), some (vI (what)), some (vI (nI (gvN a n (sitL (nJ a) k)))), some (vI (nI k)), some (vI (nI (k + 1))), some (vI (nI (gvN a n (sitL (nJ a) k))))]) dX11_order_111 rfl (nI_1 _) rfl ?_
                refine w_goto (tgt := 46) dX11_order_114 (by decide) ?_
                have z := ih (k + 1) _ (some (vI (nI (gvN a n (sitL (nJ a) k))))) (by omega) hs3 hv18_3 (hf.tr ((hf1.r.tr hg2).tr hf3.r))
                rw [hbn] at z
                exact z

theorem p_order_0 {I : xF4 Int32} {L : xF4 Int64} {a : aA} (hc : CourtIs I 0 a) (hw : WF a) {n : Nat} (hn : n ≤ 30) (hd9 : dY a ≤ 999) {v : Nat} {ss : List Nat} (hbo : bestO a n = some (v, ss))  : Tri 19 109 m_X10_order [vR 0 0 0, vI (nI n), vI (0)] (rM I L) (pCq (vI (nI v)) I) := by
  refine ⟨k_X10_order, Nat.le_of_ble_eq_true rfl, ?_⟩
  show Wp _ _ _ 0 [some (vR 0 0 0), some (vI (nI n)), some (vI (0)), none, none] [] (rM I L) _
  obtain ⟨hJ, hC, hG, hD, hR, -⟩ := id hw
  refine w_iload_n dX10_order_0 rfl ?_
  refine w_bipush (v := 10) dX10_order_1 (by decide) ?_
  refine w_bipush (v := 13) dX10_order_3 (by decide) ?_
  refine w_callS (as := [vI (0), vI (10), vI (13)]) (st := []) (Tri.mono (c_X10_within (0) (10) (13)) (Nat.le_of_ble_eq_true rfl)) tg_X10_within lk_X10_158 sa_X10_within rfl dX10_order_5 rfl (Nat.le_of_ble_eq_true rfl) (Nat.le_refl _) (Nat.le_refl _) ?_
  rintro _ _ ⟨rfl, rfl⟩ -
  refine w_top (y := 0) (show (bI ((10 : Int32) ≤ ((0 : Int32)) ∧ ((0 : Int32)) ≤ (13 : Int32)) : Int32) = 0 from bI_f (by decide)) ?_
  refine w_istore_n (ls' := [some (vR 0 0 0), some (vI (nI n)), some (vI (0)), some (vI (0)), none]) dX10_order_8 rfl ?_
  refine w_iload_n dX10_order_9 rfl ?_
  refine w_iconst (v := 0) dX10_order_10 (by decide) ?_
  refine w_bipush (v := 30) dX10_order_11 (by decide) ?_
  refine w_callS (as := [vI (nI n), vI (0), vI (30)]) (st := []) (Tri.mono (c_X10_within (nI n) (0) (30)) (Nat.le_of_ble_eq_true rfl)) tg_X10_within lk_X10_158 sa_X10_within rfl dX10_order_13 rfl (Nat.le_of_ble_eq_true rfl) (Nat.le_refl _) (Nat.le_refl _) ?_
  rintro _ _ ⟨rfl, rfl⟩ -
  refine w_top (y := bI (0 ≤ ((n : Nat) : Int) ∧ ((n : Nat) : Int) ≤ 30)) (show (bI ((0 : Int32) ≤ (nI n) ∧ (nI n) ≤ (30 : Int32)) : Int32) = bI (0 ≤ ((n : Nat) : Int) ∧ ((n : Nat) : Int) ≤ 30) from wiZ (X := ((n : Nat) : Int)) (A := 0) (B := 30) (z_nI (by omega)) (by decide) (by decide)) ?_
  refine w_ifeq_b (tgt := 27) dX10_order_16 (by decide) (fun h1 => ?_) (fun h1 => ?_)
  · skip
    first
    | (exfalso; omega)
    | skip
      refine w_iconst (v := (-1)) dX10_order_27 (by decide) ?_
      exact w_ireturn dX10_order_28 rfl (rfl) rfl (⟨rfl, _, _, rfl, FrQ.rf⟩)
  · skip
    first
    | (exfalso; omega)
    | skip
      refine w_iload_n dX10_order_19 rfl ?_
      refine w_if_eq (tgt := 29) dX10_order_20 (by decide) (fun _ => ?_) (fun h => absurd (by decide) h)
      refine w_aload_n dX10_order_29 rfl ?_
      refine w_getR (w := some (12, 0, 0)) ff_X10_36 rfl rfl dX10_order_30 rfl ?_
      refine w_aload_n dX10_order_33 rfl ?_
      refine w_getR (w := some (1, 1, 0)) ff_X10_16 rfl rfl dX10_order_34 rfl ?_
      refine w_aload_n dX10_order_37 rfl ?_
      refine w_getR (w := some (1, 0, 0)) ff_X10_10 rfl rfl dX10_order_38 rfl ?_
      refine w_iload_n dX10_order_41 rfl ?_
      refine w_callV (as := [vR 1 1 0, vR 1 0 0, vI (nI n)]) (st := []) (Tri.mono (c_searchOrder hc hw hn hd9) (Nat.le_of_ble_eq_true rfl)) rfl rfl tg_X2_searchOrder lk_X10_231 in_X2_searchOrder se_X2_searchOrder rfl dX10_order_42 rfl (Nat.le_of_ble_eq_true rfl) (Nat.le_refl _) (Nat.le_refl _) ?_
      rintro v M9 ⟨rfl, I1, rfl, hc1, hmo, hbe, hf1⟩ -
      obtain ⟨c9, hb9, hf9⟩ := bestC hw hbo
      rw [hb9] at hmo hbe
      refine w_iload_n dX10_order_45 rfl ?_
      refine w_if_ne (tgt := 57) dX10_order_46 (by decide) (fun h => absurd (by decide) h) (fun _ => ?_)
      refine w_aload_n dX10_order_49 rfl ?_
      refine w_getR (w := some (12, 0, 0)) ff_X10_36 rfl rfl dX10_order_50 rfl ?_
      refine w_getI ff_X10_234 rfl rfl dX10_order_53 ?_
      rw [show (I1 12 0 0 4 : Int32) = nI v from hmo]
      exact w_ireturn dX10_order_56 rfl (rfl) rfl (⟨rfl, _, _, rfl, hf1⟩)

theorem q_order_0 {I : xF4 Int32} {L : xF4 Int64} {a : aA} (hs : SI I a) (hw : WF a) {n : Nat} (hn : n ≤ 30) (hd9 : dY a ≤ 999) {v : Nat} {ss : List Nat} (hbo : bestO a n = some (v, ss))  : Tri 19 109 m_X11_order [vR 30 0 0, vI (nI n), vI (0)] (rM I L) (pMq (vI (nI v)) I) := by
  refine ⟨k_X11_order, Nat.le_of_ble_eq_true rfl, ?_⟩
  show Wp _ _ _ 0 [some (vR 30 0 0), some (vI (nI n)), some (vI (0)), none, none, none, none] [] (rM I L) _
  obtain ⟨hJ, hC, hG, hD, hR, -⟩ := id hw
  refine w_iload_n dX11_order_0 rfl ?_
  refine w_i2l dX11_order_1 ?_
  refine w_lconst (v := 0) dX11_order_2 (by decide) ?_
  refine w_ldc2 dX11_order_3 cq_X11_231 ?_
  refine w_callS (as := [vL ((nI n : Int32).toInt64), vL (0), vL (30)]) (st := []) (Tri.mono (d_in ((nI n : Int32).toInt64) (0) (30)) (Nat.le_of_ble_eq_true rfl)) tg_X11_in lk_X11_66 sa_X11_in rfl dX11_order_6 rfl (Nat.le_of_ble_eq_true rfl) (Nat.le_refl _) (Nat.le_refl _) ?_
  rintro _ _ ⟨rfl, rfl⟩ -
  refine w_top (y := bI (0 ≤ ((n : Nat) : Int) ∧ ((n : Nat) : Int) ≤ 30)) (show (bI ((0 : Int64) ≤ ((nI n : Int32).toInt64) ∧ ((nI n : Int32).toInt64) ≤ (30 : Int64)) : Int32) = bI (0 ≤ ((n : Nat) : Int) ∧ ((n : Nat) : Int) ≤ 30) from inZ (x := nI n) (l := 0) (h := 30) (X := ((n : Nat) : Int)) (A := 0) (B := 30) rfl (by decide) (by decide) (z_nI (by omega)) (by decide) (by decide)) ?_
  refine w_ifeq_b (tgt := 31) dX11_order_9 (by decide) (fun h1 => ?_) (fun h1 => ?_)
  · skip
    first
    | (exfalso; omega)
    | skip
      refine w_iconst (v := (-1)) dX11_order_31 (by decide) ?_
      exact w_ireturn dX11_order_32 rfl (rfl) rfl (⟨rfl, _, _, rfl, FrR.rf⟩)
  · skip
    first
    | (exfalso; omega)
    | skip
      refine w_iload_n dX11_order_12 rfl ?_
      refine w_if_eq (tgt := 33) dX11_order_13 (by decide) (fun _ => ?_) (fun h => absurd (by decide) h)
      refine w_iconst (v := (-1)) dX11_order_33 (by decide) ?_
      refine w_istore_n (ls' := [some (vR 30 0 0), some (vI (nI n)), some (vI (0)), some (vI ((-1))), none, none, none]) dX11_order_34 rfl ?_
      refine w_iconst (v := 0) dX11_order_35 (by decide) ?_
      refine w_istore (ls' := [some (vR 30 0 0), some (vI (nI n)), some (vI (0)), some (vI ((-1))), some (vI (0)), none, none]) dX11_order_36 rfl ?_
      refine w_aload_n dX11_order_38 rfl ?_
      refine w_iconst (v := 0) dX11_order_39 (by decide) ?_
      refine w_putI ff_X11_168 rfl rfl rfl rfl dX11_order_40 ?_
      obtain ⟨I1, hI1⟩ : ∃ z, z = xup I 30 0 0 18 (0) := ⟨_, rfl⟩
      rw [← hI1]
      have hf1 : FrR I I1 := by rw [hI1]; exact FrR.up (by omega)
      have hv18_1 : I1 30 0 0 18 = 0 := by rw [hI1]; exact xup_self
      have hs1 := hf1.si hs
      refine w_iconst (v := 0) dX11_order_43 (by decide) ?_
      refine w_istore (ls' := [some (vR 30 0 0), some (vI (nI n)), some (vI (0)), some (vI ((-1))), some (vI (0)), some (vI (0)), none]) dX11_order_44 rfl ?_
      refine l_orderM hw hn hd9 (fun I8 o6 hs8 hf8 => ?_) (nJ a ^ nJ a) 0 I1 none (Nat.zero_add _) hs1 hv18_1 FrR.rf
      obtain ⟨c9, hb9, hf9⟩ := bestM hw hbo
      obtain ⟨p1, p2, p3⟩ := pow4 (nJ a) (by omega)
      have hc9 : c9 < nJ a ^ nJ a := (bst_le (u := 99) (fun k ss h => Nat.le_trans (popN_lt _ (newN_lt _ _)) (by decide)) _ _ hb9).2
      rw [hb9, show mI (some (v, c9)) = nI v from rfl, show fI (some (v, c9)) = nI c9 from rfl]
      refine w_aload_n dX11_order_117 rfl ?_
      refine w_iload dX11_order_118 rfl ?_
      refine w_callV (as := [vI (nI c9)]) (st := []) (Tri.mono (d_isOrder (m := nJ a) (k := c9) hJ (by omega) hs8.1) (Nat.le_of_ble_eq_true rfl)) rfl rfl tg_X11_isOrder lk_X11_252 in_X11_isOrder se_X11_isOrder rfl dX11_order_120 rfl (Nat.le_of_ble_eq_true rfl) (Nat.le_refl _) (Nat.le_refl _) ?_
      rintro v M9 ⟨rfl, I9, rfl, hd9_, hf7⟩ -
      have hs9 : SI I9 a := ⟨(hf7 30 0 0 3 (by decide)).trans hs8.1, (hf7 30 0 0 4 (by decide)).trans hs8.2.1, hs8.2.2.fr (fun x => hf7 31 0 0 x (by decide))⟩
      have hg9 : FrR I8 I9 := fun t b j s p q => hf7 t b j s (fun z => p (by omega))
      refine w_pop dX11_order_123 rfl ?_
      refine w_iload_n dX11_order_124 rfl ?_
      refine w_if_ne (tgt := 132) dX11_order_125 (by decide) (fun h => absurd (by decide) h) (fun _ => ?_)
      refine w_iload_n dX11_order_128 rfl ?_
      refine w_goto (tgt := 157) dX11_order_129 (by decide) ?_
      exact w_ireturn dX11_order_157 rfl (rfl) rfl (⟨rfl, _, _, rfl, ((hf1.tr hf8).tr hg9)⟩)

theorem p_order_p {I : xF4 Int32} {L : xF4 Int64} {a : aA} (hc : CourtIs I 0 a) (hw : WF a) {n : Nat} (hn : n ≤ 30) (hd9 : dY a ≤ 999) {v : Nat} {ss : List Nat} (hbo : bestO a n = some (v, ss)) {p : Nat} (hp : p < 4) : Tri 19 109 m_X10_order [vR 0 0 0, vI (nI n), vI (nI (10 + p))] (rM I L) (pCq (vI (atO ss (nJ a) p)) I) := by
  refine ⟨k_X10_order, Nat.le_of_ble_eq_true rfl, ?_⟩
  show Wp _ _ _ 0 [some (vR 0 0 0), some (vI (nI n)), some (vI (nI (10 + p))), none, none] [] (rM I L) _
  obtain ⟨hJ, hC, hG, hD, hR, -⟩ := id hw
  refine w_iload_n dX10_order_0 rfl ?_
  refine w_bipush (v := 10) dX10_order_1 (by decide) ?_
  refine w_bipush (v := 13) dX10_order_3 (by decide) ?_
  refine w_callS (as := [vI (nI (10 + p)), vI (10), vI (13)]) (st := []) (Tri.mono (c_X10_within (nI (10 + p)) (10) (13)) (Nat.le_of_ble_eq_true rfl)) tg_X10_within lk_X10_158 sa_X10_within rfl dX10_order_5 rfl (Nat.le_of_ble_eq_true rfl) (Nat.le_refl _) (Nat.le_refl _) ?_
  rintro _ _ ⟨rfl, rfl⟩ -
  refine w_top (y := bI (10 ≤ ((10 + p : Nat) : Int) ∧ ((10 + p : Nat) : Int) ≤ 13)) (show (bI ((10 : Int32) ≤ (nI (10 + p)) ∧ (nI (10 + p)) ≤ (13 : Int32)) : Int32) = bI (10 ≤ ((10 + p : Nat) : Int) ∧ ((10 + p : Nat) : Int) ≤ 13) from wiZ (X := ((10 + p : Nat) : Int)) (A := 10) (B := 13) (z_nI (by omega)) (by decide) (by decide)) ?_
  refine w_istore_n (ls' := [some (vR 0 0 0), some (vI (nI n)), some (vI (nI (10 + p))), some (vI (bI (10 ≤ ((10 + p : Nat) : Int) ∧ ((10 + p : Nat) : Int) ≤ 13))), none]) dX10_order_8 rfl ?_
  refine w_iload_n dX10_order_9 rfl ?_
  refine w_iconst (v := 0) dX10_order_10 (by decide) ?_
  refine w_bipush (v := 30) dX10_order_11 (by decide) ?_
  refine w_callS (as := [vI (nI n), vI (0), vI (30)]) (st := []) (Tri.mono (c_X10_within (nI n) (0) (30)) (Nat.le_of_ble_eq_true rfl)) tg_X10_within lk_X10_158 sa_X10_within rfl dX10_order_13 rfl (Nat.le_of_ble_eq_true rfl) (Nat.le_refl _) (Nat.le_refl _) ?_
  rintro _ _ ⟨rfl, rfl⟩ -
  refine w_top (y := bI (0 ≤ ((n : Nat) : Int) ∧ ((n : Nat) : Int) ≤ 30)) (show (bI ((0 : Int32) ≤ (nI n) ∧ (nI n) ≤ (30 : Int32)) : Int32) = bI (0 ≤ ((n : Nat) : Int) ∧ ((n : Nat) : Int) ≤ 30) from wiZ (X := ((n : Nat) : Int)) (A := 0) (B := 30) (z_nI (by omega)) (by decide) (by decide)) ?_
  refine w_ifeq_b (tgt := 27) dX10_order_16 (by decide) (fun h1 => ?_) (fun h1 => ?_)
  · skip
    first
    | (exfalso; omega)
    | skip
      refine w_iconst (v := (-1)) dX10_order_27 (by decide) ?_
      exact w_ireturn dX10_order_28 rfl (rfl) rfl (⟨rfl, _, _, rfl, FrQ.rf⟩)
  · skip
    first
    | (exfalso; omega)
    | skip
      refine w_iload_n dX10_order_19 rfl ?_
      refine w_if_eq (tgt := 29) dX10_order_20 (by decide) (fun h2 => ?_) (fun h2 => ?_)
      · skip
        replace h2 : ((10 + p : Nat) : Int) = 0 := (zeq (z_nI (by omega)) (by decide)).mp h2
        first
        | (exfalso; omega)
        | skip
          refine w_aload_n dX10_order_29 rfl ?_
          refine w_getR (w := some (12, 0, 0)) ff_X10_36 rfl rfl dX10_order_30 rfl ?_
          refine w_aload_n dX10_order_33 rfl ?_
          refine w_getR (w := some (1, 1, 0)) ff_X10_16 rfl rfl dX10_order_34 rfl ?_
          refine w_aload_n dX10_order_37 rfl ?_
          refine w_getR (w := some (1, 0, 0)) ff_X10_10 rfl rfl dX10_order_38 rfl ?_
          refine w_iload_n dX10_order_41 rfl ?_
          refine w_callV (as := [vR 1 1 0, vR 1 0 0, vI (nI n)]) (st := []) (Tri.mono (c_searchOrder hc hw hn hd9) (Nat.le_of_ble_eq_true rfl)) rfl rfl tg_X2_searchOrder lk_X10_231 in_X2_searchOrder se_X2_searchOrder rfl dX10_order_42 rfl (Nat.le_of_ble_eq_true rfl) (Nat.le_refl _) (Nat.le_refl _) ?_
          rintro v M9 ⟨rfl, I1, rfl, hc1, hmo, hbe, hf1⟩ -
          obtain ⟨c9, hb9, hf9⟩ := bestC hw hbo
          rw [hb9] at hmo hbe
          refine w_iload_n dX10_order_45 rfl ?_
          refine w_if_ne (tgt := 57) dX10_order_46 (by decide) (fun h1 => ?_) (fun h1 => ?_)
          · skip
            replace h1 : ¬ (((10 + p : Nat) : Int) = 0) := fun q => h1 ((zeq (z_nI (by omega)) (by decide)).mpr q)
            first
            | (exfalso; omega)
            | skip
              refine w_iload_n dX10_order_57 rfl ?_
              refine w_bipush (v := 10) dX10_order_58 (by decide) ?_
              refine w_isub dX10_order_60 ?_
              rw [show ((nI (10 + p)) - (10) : Int32) = nI p from ten_p p hp]
              refine w_istore (ls' := [some (vR 0 0 0), some (vI (nI n)), some (vI (nI (10 + p))), some (vI (bI (10 ≤ ((10 + p : Nat) : Int) ∧ ((10 + p : Nat) : Int) ≤ 13))), some (vI (nI p))]) dX10_order_61 rfl ?_
              refine w_iload dX10_order_63 rfl ?_
              refine w_aload_n dX10_order_65 rfl ?_
              refine w_getR (w := some (1, 0, 0)) ff_X10_10 rfl rfl dX10_order_66 rfl ?_
              refine w_getI ff_X10_89 rfl rfl dX10_order_69 ?_
              rw [show (I1 1 0 0 3 : Int32) = nI (nJ a) from hc1.1]
              refine w_icmp_ge (tgt := 97) dX10_order_72 (by decide) (fun h2 => ?_) (fun h2 => ?_)
              · skip
                replace h2 : ((nJ a : Nat) : Int) ≤ ((p : Nat) : Int) := (zle (z_nI (by omega)) (z_nI (by omega))).mp h2
                first
                | (exfalso; omega)
                | skip
                  refine w_bipush (v := (-4)) dX10_order_97 (by decide) ?_
                  refine w_top (y := atO ss (nJ a) p) (show ((-4) : Int32) = atO ss (nJ a) p from by unfold atO; rw [if_neg (by omega)]) ?_
                  exact w_ireturn dX10_order_99 rfl (rfl) rfl (⟨rfl, _, _, rfl, hf1⟩)
              · skip
                replace h2 : ¬ (((nJ a : Nat) : Int) ≤ ((p : Nat) : Int)) := fun q => h2 ((zle (z_nI (by omega)) (z_nI (by omega))).mpr q)
                first
                | (exfalso; omega)
                | skip
                  refine w_aload_n dX10_order_75 rfl ?_
                  refine w_getR (w := some (12, 0, 0)) ff_X10_36 rfl rfl dX10_order_76 rfl ?_
                  refine w_getI ff_X10_235 rfl rfl dX10_order_79 ?_
                  rw [show (I1 12 0 0 5 : Int32) = nI c9 from hbe]
                  refine w_aload_n dX10_order_82 rfl ?_
                  refine w_getR (w := some (1, 0, 0)) ff_X10_10 rfl rfl dX10_order_83 rfl ?_
                  refine w_getI ff_X10_89 rfl rfl dX10_order_86 ?_
                  rw [show (I1 1 0 0 3 : Int32) = nI (nJ a) from hc1.1]
                  refine w_iload dX10_order_89 rfl ?_
                  have hc4 : c9 < 4 ^ nJ a := (bst_le (fC_le hw (n := n) (by omega)) _ _ hb9).2
                  obtain ⟨p1, p2, p3⟩ := pow4 (nJ a) (by omega)
                  refine w_callS (as := [vI (nI c9), vI (nI (nJ a)), vI (nI p)]) (st := []) (Tri.mono (c_X10_seatIn (nI c9) (nI (nJ a)) (nI p)) (Nat.le_of_ble_eq_true rfl)) tg_X10_seatIn lk_X10_238 sa_X10_seatIn rfl dX10_order_91 rfl (Nat.le_of_ble_eq_true rfl) (Nat.le_refl _) (Nat.le_refl _) ?_
                  rintro _ _ ⟨rfl, rfl⟩ -
                  have hl9 : (stS (nJ a) c9 (nJ a)).1.length = nJ a ∧ (stS (nJ a) c9 (nJ a)).1 = ss := by
                    unfold fC at hf9
                    split at hf9
                    next hl => exact ⟨hl, Option.some.inj hf9⟩
                    · cases hf9
                  refine w_top (y := atO ss (nJ a) p) (show (seatI (nI c9) (nI (nJ a)) (nI p) : Int32) = atO ss (nJ a) p from by unfold atO; rw [if_pos (by omega), dgC_0 _ (by omega) p (by omega) _ (by omega), ← hl9.2, List.getD_eq_getElem?_getD, fC_at _ (by omega) _ hc4 hl9.1 p (by omega)]; rfl) ?_
                  refine w_goto (tgt := 99) dX10_order_94 (by decide) ?_
                  exact w_ireturn dX10_order_99 rfl (rfl) rfl (⟨rfl, _, _, rfl, hf1⟩)
          · skip
            replace h1 : ((10 + p : Nat) : Int) = 0 := (zeq (z_nI (by omega)) (by decide)).mp h1
            first
            | (exfalso; omega)
            | skip
              refine w_aload_n dX10_order_49 rfl ?_
              refine w_getR (w := some (12, 0, 0)) ff_X10_36 rfl rfl dX10_order_50 rfl ?_
              refine w_getI ff_X10_234 rfl rfl dX10_order_53 ?_
              rw [show (I1 12 0 0 4 : Int32) = nI v from hmo]
              exact w_ireturn dX10_order_56 rfl (rfl) rfl (⟨rfl, _, _, rfl, hf1⟩)
      · skip
        replace h2 : ¬ (((10 + p : Nat) : Int) = 0) := fun q => h2 ((zeq (z_nI (by omega)) (by decide)).mpr q)
        first
        | (exfalso; omega)
        | skip
          refine w_iload_n dX10_order_23 rfl ?_
          refine w_ifne_b (tgt := 29) dX10_order_24 (by decide) (fun h3 => ?_) (fun h3 => ?_)
          · skip
            first
            | (exfalso; omega)
            | skip
              refine w_aload_n dX10_order_29 rfl ?_
              refine w_getR (w := some (12, 0, 0)) ff_X10_36 rfl rfl dX10_order_30 rfl ?_
              refine w_aload_n dX10_order_33 rfl ?_
              refine w_getR (w := some (1, 1, 0)) ff_X10_16 rfl rfl dX10_order_34 rfl ?_
              refine w_aload_n dX10_order_37 rfl ?_
              refine w_getR (w := some (1, 0, 0)) ff_X10_10 rfl rfl dX10_order_38 rfl ?_
              refine w_iload_n dX10_order_41 rfl ?_
              refine w_callV (as := [vR 1 1 0, vR 1 0 0, vI (nI n)]) (st := []) (Tri.mono (c_searchOrder hc hw hn hd9) (Nat.le_of_ble_eq_true rfl)) rfl rfl tg_X2_searchOrder lk_X10_231 in_X2_searchOrder se_X2_searchOrder rfl dX10_order_42 rfl (Nat.le_of_ble_eq_true rfl) (Nat.le_refl _) (Nat.le_refl _) ?_
              rintro v M9 ⟨rfl, I1, rfl, hc1, hmo, hbe, hf1⟩ -
              obtain ⟨c9, hb9, hf9⟩ := bestC hw hbo
              rw [hb9] at hmo hbe
              refine w_iload_n dX10_order_45 rfl ?_
              refine w_if_ne (tgt := 57) dX10_order_46 (by decide) (fun h1 => ?_) (fun h1 => ?_)
              · skip
                replace h1 : ¬ (((10 + p : Nat) : Int) = 0) := fun q => h1 ((zeq (z_nI (by omega)) (by decide)).mpr q)
                first
                | (exfalso; omega)
                | skip
                  refine w_iload_n dX10_order_57 rfl ?_
                  refine w_bipush (v := 10) dX10_order_58 (by decide) ?_
                  refine w_isub dX10_order_60 ?_
                  rw [show ((nI (10 + p)) - (10) : Int32) = nI p from ten_p p hp]
                  refine w_istore (ls' := [some (vR 0 0 0), some (vI (nI n)), some (vI (nI (10 + p))), some (vI (bI (10 ≤ ((10 + p : Nat) : Int) ∧ ((10 + p : Nat) : Int) ≤ 13))), some (vI (nI p))]) dX10_order_61 rfl ?_
                  refine w_iload dX10_order_63 rfl ?_
                  refine w_aload_n dX10_order_65 rfl ?_
                  refine w_getR (w := some (1, 0, 0)) ff_X10_10 rfl rfl dX10_order_66 rfl ?_
                  refine w_getI ff_X10_89 rfl rfl dX10_order_69 ?_
                  rw [show (I1 1 0 0 3 : Int32) = nI (nJ a) from hc1.1]
                  refine w_icmp_ge (tgt := 97) dX10_order_72 (by decide) (fun h2 => ?_) (fun h2 => ?_)
                  · skip
                    replace h2 : ((nJ a : Nat) : Int) ≤ ((p : Nat) : Int) := (zle (z_nI (by omega)) (z_nI (by omega))).mp h2
                    first
                    | (exfalso; omega)
                    | skip
                      refine w_bipush (v := (-4)) dX10_order_97 (by decide) ?_
                      refine w_top (y := atO ss (nJ a) p) (show ((-4) : Int32) = atO ss (nJ a) p from by unfold atO; rw [if_neg (by omega)]) ?_
                      exact w_ireturn dX10_order_99 rfl (rfl) rfl (⟨rfl, _, _, rfl, hf1⟩)
                  · skip
                    replace h2 : ¬ (((nJ a : Nat) : Int) ≤ ((p : Nat) : Int)) := fun q => h2 ((zle (z_nI (by omega)) (z_nI (by omega))).mpr q)
                    first
                    | (exfalso; omega)
                    | skip
                      refine w_aload_n dX10_order_75 rfl ?_
                      refine w_getR (w := some (12, 0, 0)) ff_X10_36 rfl rfl dX10_order_76 rfl ?_
                      refine w_getI ff_X10_235 rfl rfl dX10_order_79 ?_
                      rw [show (I1 12 0 0 5 : Int32) = nI c9 from hbe]
                      refine w_aload_n dX10_order_82 rfl ?_
                      refine w_getR (w := some (1, 0, 0)) ff_X10_10 rfl rfl dX10_order_83 rfl ?_
                      refine w_getI ff_X10_89 rfl rfl dX10_order_86 ?_
                      rw [show (I1 1 0 0 3 : Int32) = nI (nJ a) from hc1.1]
                      refine w_iload dX10_order_89 rfl ?_
                      have hc4 : c9 < 4 ^ nJ a := (bst_le (fC_le hw (n := n) (by omega)) _ _ hb9).2
                      obtain ⟨p1, p2, p3⟩ := pow4 (nJ a) (by omega)
                      refine w_callS (as := [vI (nI c9), vI (nI (nJ a)), vI (nI p)]) (st := []) (Tri.mono (c_X10_seatIn (nI c9) (nI (nJ a)) (nI p)) (Nat.le_of_ble_eq_true rfl)) tg_X10_seatIn lk_X10_238 sa_X10_seatIn rfl dX10_order_91 rfl (Nat.le_of_ble_eq_true rfl) (Nat.le_refl _) (Nat.le_refl _) ?_
                      rintro _ _ ⟨rfl, rfl⟩ -
                      have hl9 : (stS (nJ a) c9 (nJ a)).1.length = nJ a ∧ (stS (nJ a) c9 (nJ a)).1 = ss := by
                        unfold fC at hf9
                        split at hf9
                        next hl => exact ⟨hl, Option.some.inj hf9⟩
                        · cases hf9
                      refine w_top (y := atO ss (nJ a) p) (show (seatI (nI c9) (nI (nJ a)) (nI p) : Int32) = atO ss (nJ a) p from by unfold atO; rw [if_pos (by omega), dgC_0 _ (by omega) p (by omega) _ (by omega), ← hl9.2, List.getD_eq_getElem?_getD, fC_at _ (by omega) _ hc4 hl9.1 p (by omega)]; rfl) ?_
                      refine w_goto (tgt := 99) dX10_order_94 (by decide) ?_
                      exact w_ireturn dX10_order_99 rfl (rfl) rfl (⟨rfl, _, _, rfl, hf1⟩)
              · skip
                replace h1 : ((10 + p : Nat) : Int) = 0 := (zeq (z_nI (by omega)) (by decide)).mp h1
                first
                | (exfalso; omega)
                | skip
                  refine w_aload_n dX10_order_49 rfl ?_
                  refine w_getR (w := some (12, 0, 0)) ff_X10_36 rfl rfl dX10_order_50 rfl ?_
                  refine w_getI ff_X10_234 rfl rfl dX10_order_53 ?_
                  rw [show (I1 12 0 0 4 : Int32) = nI v from hmo]
                  exact w_ireturn dX10_order_56 rfl (rfl) rfl (⟨rfl, _, _, rfl, hf1⟩)
          · skip
            first
            | (exfalso; omega)
            | skip
              refine w_iconst (v := (-1)) dX10_order_27 (by decide) ?_
              exact w_ireturn dX10_order_28 rfl (rfl) rfl (⟨rfl, _, _, rfl, FrQ.rf⟩)

theorem q_order_p {I : xF4 Int32} {L : xF4 Int64} {a : aA} (hs : SI I a) (hw : WF a) {n : Nat} (hn : n ≤ 30) (hd9 : dY a ≤ 999) {v : Nat} {ss : List Nat} (hbo : bestO a n = some (v, ss)) {p : Nat} (hp : p < 4) : Tri 19 109 m_X11_order [vR 30 0 0, vI (nI n), vI (nI (10 + p))] (rM I L) (pMq (vI (atO ss (nJ a) p)) I) := by
  refine ⟨k_X11_order, Nat.le_of_ble_eq_true rfl, ?_⟩
  show Wp _ _ _ 0 [some (vR 30 0 0), some (vI (nI n)), some (vI (nI (10 + p))), none, none, none, none] [] (rM I L) _
  obtain ⟨hJ, hC, hG, hD, hR, -⟩ := id hw
  refine w_iload_n dX11_order_0 rfl ?_
  refine w_i2l dX11_order_1 ?_
  refine w_lconst (v := 0) dX11_order_2 (by decide) ?_
  refine w_ldc2 dX11_order_3 cq_X11_231 ?_
  refine w_callS (as := [vL ((nI n : Int32).toInt64), vL (0), vL (30)]) (st := []) (Tri.mono (d_in ((nI n : Int32).toInt64) (0) (30)) (Nat.le_of_ble_eq_true rfl)) tg_X11_in lk_X11_66 sa_X11_in rfl dX11_order_6 rfl (Nat.le_of_ble_eq_true rfl) (Nat.le_refl _) (Nat.le_refl _) ?_
  rintro _ _ ⟨rfl, rfl⟩ -
  refine w_top (y := bI (0 ≤ ((n : Nat) : Int) ∧ ((n : Nat) : Int) ≤ 30)) (show (bI ((0 : Int64) ≤ ((nI n : Int32).toInt64) ∧ ((nI n : Int32).toInt64) ≤ (30 : Int64)) : Int32) = bI (0 ≤ ((n : Nat) : Int) ∧ ((n : Nat) : Int) ≤ 30) from inZ (x := nI n) (l := 0) (h := 30) (X := ((n : Nat) : Int)) (A := 0) (B := 30) rfl (by decide) (by decide) (z_nI (by omega)) (by decide) (by decide)) ?_
  refine w_ifeq_b (tgt := 31) dX11_order_9 (by decide) (fun h1 => ?_) (fun h1 => ?_)
  · skip
    first
    | (exfalso; omega)
    | skip
      refine w_iconst (v := (-1)) dX11_order_31 (by decide) ?_
      exact w_ireturn dX11_order_32 rfl (rfl) rfl (⟨rfl, _, _, rfl, FrR.rf⟩)
  · skip
    first
    | (exfalso; omega)
    | skip
      refine w_iload_n dX11_order_12 rfl ?_
      refine w_if_eq (tgt := 33) dX11_order_13 (by decide) (fun h2 => ?_) (fun h2 => ?_)
      · skip
        replace h2 : ((10 + p : Nat) : Int) = 0 := (zeq (z_nI (by omega)) (by decide)).mp h2
        first
        | (exfalso; omega)
        | skip
          refine w_iconst (v := (-1)) dX11_order_33 (by decide) ?_
          refine w_istore_n (ls' := [some (vR 30 0 0), some (vI (nI n)), some (vI (nI (10 + p))), some (vI ((-1))), none, none, none]) dX11_order_34 rfl ?_
          refine w_iconst (v := 0) dX11_order_35 (by decide) ?_
          refine w_istore (ls' := [some (vR 30 0 0), some (vI (nI n)), some (vI (nI (10 + p))), some (vI ((-1))), some (vI (0)), none, none]) dX11_order_36 rfl ?_
          refine w_aload_n dX11_order_38 rfl ?_
          refine w_iconst (v := 0) dX11_order_39 (by decide) ?_
          refine w_putI ff_X11_168 rfl rfl rfl rfl dX11_order_40 ?_
          obtain ⟨I1, hI1⟩ : ∃ z, z = xup I 30 0 0 18 (0) := ⟨_, rfl⟩
          rw [← hI1]
          have hf1 : FrR I I1 := by rw [hI1]; exact FrR.up (by omega)
          have hv18_1 : I1 30 0 0 18 = 0 := by rw [hI1]; exact xup_self
          have hs1 := hf1.si hs
          refine w_iconst (v := 0) dX11_order_43 (by decide) ?_
          refine w_istore (ls' := [some (vR 30 0 0), some (vI (nI n)), some (vI (nI (10 + p))), some (vI ((-1))), some (vI (0)), some (vI (0)), none]) dX11_order_44 rfl ?_
          refine l_orderM hw hn hd9 (fun I8 o6 hs8 hf8 => ?_) (nJ a ^ nJ a) 0 I1 none (Nat.zero_add _) hs1 hv18_1 FrR.rf
          obtain ⟨c9, hb9, hf9⟩ := bestM hw hbo
          obtain ⟨p1, p2, p3⟩ := pow4 (nJ a) (by omega)
          have hc9 : c9 < nJ a ^ nJ a := (bst_le (u := 99) (fun k ss h => Nat.le_trans (popN_lt _ (newN_lt _ _)) (by decide)) _ _ hb9).2
          rw [hb9, show mI (some (v, c9)) = nI v from rfl, show fI (some (v, c9)) = nI c9 from rfl]
          refine w_aload_n dX11_order_117 rfl ?_
          refine w_iload dX11_order_118 rfl ?_
          refine w_callV (as := [vI (nI c9)]) (st := []) (Tri.mono (d_isOrder (m := nJ a) (k := c9) hJ (by omega) hs8.1) (Nat.le_of_ble_eq_true rfl)) rfl rfl tg_X11_isOrder lk_X11_252 in_X11_isOrder se_X11_isOrder rfl dX11_order_120 rfl (Nat.le_of_ble_eq_true rfl) (Nat.le_refl _) (Nat.le_refl _) ?_
          rintro v M9 ⟨rfl, I9, rfl, hd9_, hf7⟩ -
          have hs9 : SI I9 a := ⟨(hf7 30 0 0 3 (by decide)).trans hs8.1, (hf7 30 0 0 4 (by decide)).trans hs8.2.1, hs8.2.2.fr (fun x => hf7 31 0 0 x (by decide))⟩
          have hg9 : FrR I8 I9 := fun t b j s p q => hf7 t b j s (fun z => p (by omega))
          refine w_pop dX11_order_123 rfl ?_
          refine w_iload_n dX11_order_124 rfl ?_
          refine w_if_ne (tgt := 132) dX11_order_125 (by decide) (fun h1 => ?_) (fun h1 => ?_)
          · skip
            replace h1 : ¬ (((10 + p : Nat) : Int) = 0) := fun q => h1 ((zeq (z_nI (by omega)) (by decide)).mpr q)
            first
            | (exfalso; omega)
            | skip
              refine w_iload_n dX11_order_132 rfl ?_
              refine w_bipush (v := 10) dX11_order_133 (by decide) ?_
              refine w_isub dX11_order_135 ?_
              rw [show ((nI (10 + p)) - (10) : Int32) = nI p from ten_p p hp]
              refine w_aload_n dX11_order_136 rfl ?_
              refine w_getI ff_X11_58 rfl rfl dX11_order_137 ?_
              rw [show (I9 30 0 0 3 : Int32) = nI (nJ a) from hs9.1]
              refine w_icmp_ge (tgt := 155) dX11_order_140 (by decide) (fun h2 => ?_) (fun h2 => ?_)
              · skip
                replace h2 : ((nJ a : Nat) : Int) ≤ ((p : Nat) : Int) := (zle (z_nI (by omega)) (z_nI (by omega))).mp h2
                first
                | (exfalso; omega)
                | skip
                  refine w_bipush (v := (-4)) dX11_order_155 (by decide) ?_
                  refine w_top (y := atO ss (nJ a) p) (show ((-4) : Int32) = atO ss (nJ a) p from by unfold atO; rw [if_neg (by omega)]) ?_
                  exact w_ireturn dX11_order_157 rfl (rfl) rfl (⟨rfl, _, _, rfl, ((hf1.tr hf8).tr hg9)⟩)
              · skip
                replace h2 : ¬ (((nJ a : Nat) : Int) ≤ ((p : Nat) : Int)) := fun q => h2 ((zle (z_nI (by omega)) (z_nI (by omega))).mpr q)
                first
                | (exfalso; omega)
                | skip
                  refine w_aload_n dX11_order_143 rfl ?_
                  refine w_getR (w := some (36, 0, 0)) ff_X11_26 rfl rfl dX11_order_144 rfl ?_
                  refine w_iload_n dX11_order_147 rfl ?_
                  refine w_bipush (v := 10) dX11_order_148 (by decide) ?_
                  refine w_isub dX11_order_150 ?_
                  rw [show ((nI (10 + p)) - (10) : Int32) = nI p from ten_p p hp]
                  refine w_iaload (a := p) rfl (vp_in_nI (n := p) (by omega) (by omega)) (nI_clamp (n := p) (by omega)) dX11_order_151 ?_
                  have hl9 : sitL (nJ a) c9 = ss := by
                    unfold fM at hf9
                    split at hf9
                    · exact Option.some.inj hf9
                    · cases hf9
                  refine w_top (y := atO ss (nJ a) p) (show (I9 36 0 0 (p) : Int32) = atO ss (nJ a) p from by unfold atO; rw [if_pos (by omega), hd9_ p (by omega), ← hl9]; unfold sitL; rw [List.getD_eq_getElem?_getD, List.getElem?_map, List.getElem?_range (by omega)]; rfl) ?_
                  refine w_goto (tgt := 157) dX11_order_152 (by decide) ?_
                  exact w_ireturn dX11_order_157 rfl (rfl) rfl (⟨rfl, _, _, rfl, ((hf1.tr hf8).tr hg9)⟩)
          · skip
            replace h1 : ((10 + p : Nat) : Int) = 0 := (zeq (z_nI (by omega)) (by decide)).mp h1
            first
            | (exfalso; omega)
            | skip
              refine w_iload_n dX11_order_128 rfl ?_
              refine w_goto (tgt := 157) dX11_order_129 (by decide) ?_
              exact w_ireturn dX11_order_157 rfl (rfl) rfl (⟨rfl, _, _, rfl, ((hf1.tr hf8).tr hg9)⟩)
      · skip
        replace h2 : ¬ (((10 + p : Nat) : Int) = 0) := fun q => h2 ((zeq (z_nI (by omega)) (by decide)).mpr q)
        first
        | (exfalso; omega)
        | skip
          refine w_iload_n dX11_order_16 rfl ?_
          refine w_bipush (v := 10) dX11_order_17 (by decide) ?_
          refine w_isub dX11_order_19 ?_
          rw [show ((nI (10 + p)) - (10) : Int32) = nI p from ten_p p hp]
          refine w_i2l dX11_order_20 ?_
          refine w_lconst (v := 0) dX11_order_21 (by decide) ?_
          refine w_ldc2 dX11_order_22 cq_X11_209 ?_
          refine w_callS (as := [vL ((nI p : Int32).toInt64), vL (0), vL (3)]) (st := []) (Tri.mono (d_in ((nI p : Int32).toInt64) (0) (3)) (Nat.le_of_ble_eq_true rfl)) tg_X11_in lk_X11_66 sa_X11_in rfl dX11_order_25 rfl (Nat.le_of_ble_eq_true rfl) (Nat.le_refl _) (Nat.le_refl _) ?_
          rintro _ _ ⟨rfl, rfl⟩ -
          refine w_top (y := bI (0 ≤ ((p : Nat) : Int) ∧ ((p : Nat) : Int) ≤ 3)) (show (bI ((0 : Int64) ≤ ((nI p : Int32).toInt64) ∧ ((nI p : Int32).toInt64) ≤ (3 : Int64)) : Int32) = bI (0 ≤ ((p : Nat) : Int) ∧ ((p : Nat) : Int) ≤ 3) from inZ (x := nI p) (l := 0) (h := 3) (X := ((p : Nat) : Int)) (A := 0) (B := 3) rfl (by decide) (by decide) (z_nI (by omega)) (by decide) (by decide)) ?_
          refine w_ifne_b (tgt := 33) dX11_order_28 (by decide) (fun h3 => ?_) (fun h3 => ?_)
          · skip
            first
            | (exfalso; omega)
            | skip
              refine w_iconst (v := (-1)) dX11_order_33 (by decide) ?_
              refine w_istore_n (ls' := [some (vR 30 0 0), some (vI (nI n)), some (vI (nI (10 + p))), some (vI ((-1))), none, none, none]) dX11_order_34 rfl ?_
              refine w_iconst (v := 0) dX11_order_35 (by decide) ?_
              refine w_istore (ls' := [some (vR 30 0 0), some (vI (nI n)), some (vI (nI (10 + p))), some (vI ((-1))), some (vI (0)), none, none]) dX11_order_36 rfl ?_
              refine w_aload_n dX11_order_38 rfl ?_
              refine w_iconst (v := 0) dX11_order_39 (by decide) ?_
              refine w_putI ff_X11_168 rfl rfl rfl rfl dX11_order_40 ?_
              obtain ⟨I2, hI2⟩ : ∃ z, z = xup I 30 0 0 18 (0) := ⟨_, rfl⟩
              rw [← hI2]
              have hf2 : FrR I I2 := by rw [hI2]; exact FrR.up (by omega)
              have hv18_2 : I2 30 0 0 18 = 0 := by rw [hI2]; exact xup_self
              have hs2 := hf2.si hs
              refine w_iconst (v := 0) dX11_order_43 (by decide) ?_
              refine w_istore (ls' := [some (vR 30 0 0), some (vI (nI n)), some (vI (nI (10 + p))), some (vI ((-1))), some (vI (0)), some (vI (0)), none]) dX11_order_44 rfl ?_
              refine l_orderM hw hn hd9 (fun I8 o6 hs8 hf8 => ?_) (nJ a ^ nJ a) 0 I2 none (Nat.zero_add _) hs2 hv18_2 FrR.rf
              obtain ⟨c9, hb9, hf9⟩ := bestM hw hbo
              obtain ⟨p1, p2, p3⟩ := pow4 (nJ a) (by omega)
              have hc9 : c9 < nJ a ^ nJ a := (bst_le (u := 99) (fun k ss h => Nat.le_trans (popN_lt _ (newN_lt _ _)) (by decide)) _ _ hb9).2
              rw [hb9, show mI (some (v, c9)) = nI v from rfl, show fI (some (v, c9)) = nI c9 from rfl]
              refine w_aload_n dX11_order_117 rfl ?_
              refine w_iload dX11_order_118 rfl ?_
              refine w_callV (as := [vI (nI c9)]) (st := []) (Tri.mono (d_isOrder (m := nJ a) (k := c9) hJ (by omega) hs8.1) (Nat.le_of_ble_eq_true rfl)) rfl rfl tg_X11_isOrder lk_X11_252 in_X11_isOrder se_X11_isOrder rfl dX11_order_120 rfl (Nat.le_of_ble_eq_true rfl) (Nat.le_refl _) (Nat.le_refl _) ?_
              rintro v M9 ⟨rfl, I9, rfl, hd9_, hf7⟩ -
              have hs9 : SI I9 a := ⟨(hf7 30 0 0 3 (by decide)).trans hs8.1, (hf7 30 0 0 4 (by decide)).trans hs8.2.1, hs8.2.2.fr (fun x => hf7 31 0 0 x (by decide))⟩
              have hg9 : FrR I8 I9 := fun t b j s p q => hf7 t b j s (fun z => p (by omega))
              refine w_pop dX11_order_123 rfl ?_
              refine w_iload_n dX11_order_124 rfl ?_
              refine w_if_ne (tgt := 132) dX11_order_125 (by decide) (fun h1 => ?_) (fun h1 => ?_)
              · skip
                replace h1 : ¬ (((10 + p : Nat) : Int) = 0) := fun q => h1 ((zeq (z_nI (by omega)) (by decide)).mpr q)
                first
                | (exfalso; omega)
                | skip
                  refine w_iload_n dX11_order_132 rfl ?_
                  refine w_bipush (v := 10) dX11_order_133 (by decide) ?_
                  refine w_isub dX11_order_135 ?_
                  rw [show ((nI (10 + p)) - (10) : Int32) = nI p from ten_p p hp]
                  refine w_aload_n dX11_order_136 rfl ?_
                  refine w_getI ff_X11_58 rfl rfl dX11_order_137 ?_
                  rw [show (I9 30 0 0 3 : Int32) = nI (nJ a) from hs9.1]
                  refine w_icmp_ge (tgt := 155) dX11_order_140 (by decide) (fun h2 => ?_) (fun h2 => ?_)
                  · skip
                    replace h2 : ((nJ a : Nat) : Int) ≤ ((p : Nat) : Int) := (zle (z_nI (by omega)) (z_nI (by omega))).mp h2
                    first
                    | (exfalso; omega)
                    | skip
                      refine w_bipush (v := (-4)) dX11_order_155 (by decide) ?_
                      refine w_top (y := atO ss (nJ a) p) (show ((-4) : Int32) = atO ss (nJ a) p from by unfold atO; rw [if_neg (by omega)]) ?_
                      exact w_ireturn dX11_order_157 rfl (rfl) rfl (⟨rfl, _, _, rfl, ((hf2.tr hf8).tr hg9)⟩)
                  · skip
                    replace h2 : ¬ (((nJ a : Nat) : Int) ≤ ((p : Nat) : Int)) := fun q => h2 ((zle (z_nI (by omega)) (z_nI (by omega))).mpr q)
                    first
                    | (exfalso; omega)
                    | skip
                      refine w_aload_n dX11_order_143 rfl ?_
                      refine w_getR (w := some (36, 0, 0)) ff_X11_26 rfl rfl dX11_order_144 rfl ?_
                      refine w_iload_n dX11_order_147 rfl ?_
                      refine w_bipush (v := 10) dX11_order_148 (by decide) ?_
                      refine w_isub dX11_order_150 ?_
                      rw [show ((nI (10 + p)) - (10) : Int32) = nI p from ten_p p hp]
                      refine w_iaload (a := p) rfl (vp_in_nI (n := p) (by omega) (by omega)) (nI_clamp (n := p) (by omega)) dX11_order_151 ?_
                      have hl9 : sitL (nJ a) c9 = ss := by
                        unfold fM at hf9
                        split at hf9
                        · exact Option.some.inj hf9
                        · cases hf9
                      refine w_top (y := atO ss (nJ a) p) (show (I9 36 0 0 (p) : Int32) = atO ss (nJ a) p from by unfold atO; rw [if_pos (by omega), hd9_ p (by omega), ← hl9]; unfold sitL; rw [List.getD_eq_getElem?_getD, List.getElem?_map, List.getElem?_range (by omega)]; rfl) ?_
                      refine w_goto (tgt := 157) dX11_order_152 (by decide) ?_
                      exact w_ireturn dX11_order_157 rfl (rfl) rfl (⟨rfl, _, _, rfl, ((hf2.tr hf8).tr hg9)⟩)
              · skip
                replace h1 : ((10 + p : Nat) : Int) = 0 := (zeq (z_nI (by omega)) (by decide)).mp h1
                first
                | (exfalso; omega)
                | skip
                  refine w_iload_n dX11_order_128 rfl ?_
                  refine w_goto (tgt := 157) dX11_order_129 (by decide) ?_
                  exact w_ireturn dX11_order_157 rfl (rfl) rfl (⟨rfl, _, _, rfl, ((hf2.tr hf8).tr hg9)⟩)
          · skip
            first
            | (exfalso; omega)
            | skip
              refine w_iconst (v := (-1)) dX11_order_31 (by decide) ?_
              exact w_ireturn dX11_order_32 rfl (rfl) rfl (⟨rfl, _, _, rfl, FrR.rf⟩)

theorem p_order_n {I : xF4 Int32} {L : xF4 Int64} {a : aA} (hc : CourtIs I 0 a) (hw : WF a) {n what : Int32} (hx : n.toInt < ((0 : Nat) : Int) ∨ ((30 : Nat) : Int) < n.toInt) : Tri 19 109 m_X10_order [vR 0 0 0, vI (n), vI (what)] (rM I L) (pCq (vI (-1)) I) := by
  refine ⟨k_X10_order, Nat.le_of_ble_eq_true rfl, ?_⟩
  show Wp _ _ _ 0 [some (vR 0 0 0), some (vI (n)), some (vI (what)), none, none] [] (rM I L) _
  obtain ⟨hJ, hC, hG, hD, hR, -⟩ := id hw
  refine w_iload_n dX10_order_0 rfl ?_
  refine w_bipush (v := 10) dX10_order_1 (by decide) ?_
  refine w_bipush (v := 13) dX10_order_3 (by decide) ?_
  refine w_callS (as := [vI (what), vI (10), vI (13)]) (st := []) (Tri.mono (c_X10_within (what) (10) (13)) (Nat.le_of_ble_eq_true rfl)) tg_X10_within lk_X10_158 sa_X10_within rfl dX10_order_5 rfl (Nat.le_of_ble_eq_true rfl) (Nat.le_refl _) (Nat.le_refl _) ?_
  rintro _ _ ⟨rfl, rfl⟩ -
  refine w_top (y := bI (10 ≤ what.toInt ∧ what.toInt ≤ 13)) (show (bI ((10 : Int32) ≤ (what) ∧ (what) ≤ (13 : Int32)) : Int32) = bI (10 ≤ what.toInt ∧ what.toInt ≤ 13) from wiZ (X := what.toInt) (A := 10) (B := 13) rfl (by decide) (by decide)) ?_
  refine w_istore_n (ls' := [some (vR 0 0 0), some (vI (n)), some (vI (what)), some (vI (bI (10 ≤ what.toInt ∧ what.toInt ≤ 13))), none]) dX10_order_8 rfl ?_
  refine w_iload_n dX10_order_9 rfl ?_
  refine w_iconst (v := 0) dX10_order_10 (by decide) ?_
  refine w_bipush (v := 30) dX10_order_11 (by decide) ?_
  refine w_callS (as := [vI (n), vI (0), vI (30)]) (st := []) (Tri.mono (c_X10_within (n) (0) (30)) (Nat.le_of_ble_eq_true rfl)) tg_X10_within lk_X10_158 sa_X10_within rfl dX10_order_13 rfl (Nat.le_of_ble_eq_true rfl) (Nat.le_refl _) (Nat.le_refl _) ?_
  rintro _ _ ⟨rfl, rfl⟩ -
  refine w_top (y := bI (0 ≤ n.toInt ∧ n.toInt ≤ 30)) (show (bI ((0 : Int32) ≤ (n) ∧ (n) ≤ (30 : Int32)) : Int32) = bI (0 ≤ n.toInt ∧ n.toInt ≤ 30) from wiZ (X := n.toInt) (A := 0) (B := 30) rfl (by decide) (by decide)) ?_
  refine w_ifeq_b (tgt := 27) dX10_order_16 (by decide) (fun h1 => ?_) (fun h1 => ?_)
  · skip
    first
    | (exfalso; omega)
    | skip
      refine w_iconst (v := (-1)) dX10_order_27 (by decide) ?_
      exact w_ireturn dX10_order_28 rfl (rfl) rfl (⟨rfl, _, _, rfl, FrQ.rf⟩)
  · skip
    first
    | (exfalso; omega)
    | skip
      refine w_iload_n dX10_order_19 rfl ?_
      refine w_if_eq (tgt := 29) dX10_order_20 (by decide) (fun h2 => ?_) (fun h2 => ?_)
      · skip
        replace h2 : what.toInt = 0 := (zeq rfl (by decide)).mp h2
        first
        | (exfalso; omega)
        | skip
          exfalso
          omega
      · skip
        replace h2 : ¬ (what.toInt = 0) := fun q => h2 ((zeq rfl (by decide)).mpr q)
        first
        | (exfalso; omega)
        | skip
          refine w_iload_n dX10_order_23 rfl ?_
          refine w_ifne_b (tgt := 29) dX10_order_24 (by decide) (fun h3 => ?_) (fun h3 => ?_)
          · skip
            first
            | (exfalso; omega)
            | skip
              exfalso
              omega
          · skip
            first
            | (exfalso; omega)
            | skip
              refine w_iconst (v := (-1)) dX10_order_27 (by decide) ?_
              exact w_ireturn dX10_order_28 rfl (rfl) rfl (⟨rfl, _, _, rfl, FrQ.rf⟩)

theorem q_order_n {I : xF4 Int32} {L : xF4 Int64} {a : aA} (hs : SI I a) (hw : WF a) {n what : Int32} (hx : n.toInt < ((0 : Nat) : Int) ∨ ((30 : Nat) : Int) < n.toInt) : Tri 19 109 m_X11_order [vR 30 0 0, vI (n), vI (what)] (rM I L) (pMq (vI (-1)) I) := by
  refine ⟨k_X11_order, Nat.le_of_ble_eq_true rfl, ?_⟩
  show Wp _ _ _ 0 [some (vR 30 0 0), some (vI (n)), some (vI (what)), none, none, none, none] [] (rM I L) _
  obtain ⟨hJ, hC, hG, hD, hR, -⟩ := id hw
  refine w_iload_n dX11_order_0 rfl ?_
  refine w_i2l dX11_order_1 ?_
  refine w_lconst (v := 0) dX11_order_2 (by decide) ?_
  refine w_ldc2 dX11_order_3 cq_X11_231 ?_
  refine w_callS (as := [vL ((n : Int32).toInt64), vL (0), vL (30)]) (st := []) (Tri.mono (d_in ((n : Int32).toInt64) (0) (30)) (Nat.le_of_ble_eq_true rfl)) tg_X11_in lk_X11_66 sa_X11_in rfl dX11_order_6 rfl (Nat.le_of_ble_eq_true rfl) (Nat.le_refl _) (Nat.le_refl _) ?_
  rintro _ _ ⟨rfl, rfl⟩ -
  refine w_top (y := bI (0 ≤ n.toInt ∧ n.toInt ≤ 30)) (show (bI ((0 : Int64) ≤ ((n : Int32).toInt64) ∧ ((n : Int32).toInt64) ≤ (30 : Int64)) : Int32) = bI (0 ≤ n.toInt ∧ n.toInt ≤ 30) from inZ (x := n) (l := 0) (h := 30) (X := n.toInt) (A := 0) (B := 30) rfl (by decide) (by decide) rfl (by decide) (by decide)) ?_
  refine w_ifeq_b (tgt := 31) dX11_order_9 (by decide) (fun h1 => ?_) (fun h1 => ?_)
  · skip
    first
    | (exfalso; omega)
    | skip
      refine w_iconst (v := (-1)) dX11_order_31 (by decide) ?_
      exact w_ireturn dX11_order_32 rfl (rfl) rfl (⟨rfl, _, _, rfl, FrR.rf⟩)
  · skip
    first
    | (exfalso; omega)
    | skip
      refine w_iload_n dX11_order_12 rfl ?_
      refine w_if_eq (tgt := 33) dX11_order_13 (by decide) (fun h2 => ?_) (fun h2 => ?_)
      · skip
        replace h2 : what.toInt = 0 := (zeq rfl (by decide)).mp h2
        first
        | (exfalso; omega)
        | skip
          exfalso
          omega
      · skip
        replace h2 : ¬ (what.toInt = 0) := fun q => h2 ((zeq rfl (by decide)).mpr q)
        first
        | (exfalso; omega)
        | skip
          refine w_iload_n dX11_order_16 rfl ?_
          refine w_bipush (v := 10) dX11_order_17 (by decide) ?_
          refine w_isub dX11_order_19 ?_
          refine w_i2l dX11_order_20 ?_
          refine w_lconst (v := 0) dX11_order_21 (by decide) ?_
          refine w_ldc2 dX11_order_22 cq_X11_209 ?_
          exfalso
          omega

theorem p_order_w {I : xF4 Int32} {L : xF4 Int64} {a : aA} (hc : CourtIs I 0 a) (hw : WF a) {n : Nat} (hn : n ≤ 30) {what : Int32} (hx0 : ¬ what.toInt = 0) (hx : what.toInt < ((10 : Nat) : Int) ∨ ((13 : Nat) : Int) < what.toInt) : Tri 19 109 m_X10_order [vR 0 0 0, vI (nI n), vI (what)] (rM I L) (pCq (vI (-1)) I) := by
  refine ⟨k_X10_order, Nat.le_of_ble_eq_true rfl, ?_⟩
  show Wp _ _ _ 0 [some (vR 0 0 0), some (vI (nI n)), some (vI (what)), none, none] [] (rM I L) _
  obtain ⟨hJ, hC, hG, hD, hR, -⟩ := id hw
  refine w_iload_n dX10_order_0 rfl ?_
  refine w_bipush (v := 10) dX10_order_1 (by decide) ?_
  refine w_bipush (v := 13) dX10_order_3 (by decide) ?_
  refine w_callS (as := [vI (what), vI (10), vI (13)]) (st := []) (Tri.mono (c_X10_within (what) (10) (13)) (Nat.le_of_ble_eq_true rfl)) tg_X10_within lk_X10_158 sa_X10_within rfl dX10_order_5 rfl (Nat.le_of_ble_eq_true rfl) (Nat.le_refl _) (Nat.le_refl _) ?_
  rintro _ _ ⟨rfl, rfl⟩ -
  refine w_top (y := bI (10 ≤ what.toInt ∧ what.toInt ≤ 13)) (show (bI ((10 : Int32) ≤ (what) ∧ (what) ≤ (13 : Int32)) : Int32) = bI (10 ≤ what.toInt ∧ what.toInt ≤ 13) from wiZ (X := what.toInt) (A := 10) (B := 13) rfl (by decide) (by decide)) ?_
  refine w_istore_n (ls' := [some (vR 0 0 0), some (vI (nI n)), some (vI (what)), some (vI (bI (10 ≤ what.toInt ∧ what.toInt ≤ 13))), none]) dX10_order_8 rfl ?_
  refine w_iload_n dX10_order_9 rfl ?_
  refine w_iconst (v := 0) dX10_order_10 (by decide) ?_
  refine w_bipush (v := 30) dX10_order_11 (by decide) ?_
  refine w_callS (as := [vI (nI n), vI (0), vI (30)]) (st := []) (Tri.mono (c_X10_within (nI n) (0) (30)) (Nat.le_of_ble_eq_true rfl)) tg_X10_within lk_X10_158 sa_X10_within rfl dX10_order_13 rfl (Nat.le_of_ble_eq_true rfl) (Nat.le_refl _) (Nat.le_refl _) ?_
  rintro _ _ ⟨rfl, rfl⟩ -
  refine w_top (y := bI (0 ≤ ((n : Nat) : Int) ∧ ((n : Nat) : Int) ≤ 30)) (show (bI ((0 : Int32) ≤ (nI n) ∧ (nI n) ≤ (30 : Int32)) : Int32) = bI (0 ≤ ((n : Nat) : Int) ∧ ((n : Nat) : Int) ≤ 30) from wiZ (X := ((n : Nat) : Int)) (A := 0) (B := 30) (z_nI (by omega)) (by decide) (by decide)) ?_
  refine w_ifeq_b (tgt := 27) dX10_order_16 (by decide) (fun h1 => ?_) (fun h1 => ?_)
  · skip
    first
    | (exfalso; omega)
    | skip
      refine w_iconst (v := (-1)) dX10_order_27 (by decide) ?_
      exact w_ireturn dX10_order_28 rfl (rfl) rfl (⟨rfl, _, _, rfl, FrQ.rf⟩)
  · skip
    first
    | (exfalso; omega)
    | skip
      refine w_iload_n dX10_order_19 rfl ?_
      refine w_if_eq (tgt := 29) dX10_order_20 (by decide) (fun h2 => ?_) (fun h2 => ?_)
      · skip
        replace h2 : what.toInt = 0 := (zeq rfl (by decide)).mp h2
        first
        | (exfalso; omega)
        | skip
          exfalso
          omega
      · skip
        replace h2 : ¬ (what.toInt = 0) := fun q => h2 ((zeq rfl (by decide)).mpr q)
        first
        | (exfalso; omega)
        | skip
          refine w_iload_n dX10_order_23 rfl ?_
          refine w_ifne_b (tgt := 29) dX10_order_24 (by decide) (fun h3 => ?_) (fun h3 => ?_)
          · skip
            first
            | (exfalso; omega)
            | skip
              exfalso
              omega
          · skip
            first
            | (exfalso; omega)
            | skip
              refine w_iconst (v := (-1)) dX10_order_27 (by decide) ?_
              exact w_ireturn dX10_order_28 rfl (rfl) rfl (⟨rfl, _, _, rfl, FrQ.rf⟩)

theorem q_order_w {I : xF4 Int32} {L : xF4 Int64} {a : aA} (hs : SI I a) (hw : WF a) {n : Nat} (hn : n ≤ 30) {what : Int32} (hx0 : ¬ what.toInt = 0) (hx : what.toInt < ((10 : Nat) : Int) ∨ ((13 : Nat) : Int) < what.toInt) : Tri 19 109 m_X11_order [vR 30 0 0, vI (nI n), vI (what)] (rM I L) (pMq (vI (-1)) I) := by
  refine ⟨k_X11_order, Nat.le_of_ble_eq_true rfl, ?_⟩
  show Wp _ _ _ 0 [some (vR 30 0 0), some (vI (nI n)), some (vI (what)), none, none, none, none] [] (rM I L) _
  obtain ⟨hJ, hC, hG, hD, hR, -⟩ := id hw
  have h10 := sub10 (x := what) (by omega)
  obtain ⟨y, hy⟩ : ∃ y, y = what - 10 := ⟨_, rfl⟩
  rw [← hy] at h10
  refine w_iload_n dX11_order_0 rfl ?_
  refine w_i2l dX11_order_1 ?_
  refine w_lconst (v := 0) dX11_order_2 (by decide) ?_
  refine w_ldc2 dX11_order_3 cq_X11_231 ?_
  refine w_callS (as := [vL ((nI n : Int32).toInt64), vL (0), vL (30)]) (st := []) (Tri.mono (d_in ((nI n : Int32).toInt64) (0) (30)) (Nat.le_of_ble_eq_true rfl)) tg_X11_in lk_X11_66 sa_X11_in rfl dX11_order_6 rfl (Nat.le_of_ble_eq_true rfl) (Nat.le_refl _) (Nat.le_refl _) ?_
  rintro _ _ ⟨rfl, rfl⟩ -
  refine w_top (y := bI (0 ≤ ((n : Nat) : Int) ∧ ((n : Nat) : Int) ≤ 30)) (show (bI ((0 : Int64) ≤ ((nI n : Int32).toInt64) ∧ ((nI n : Int32).toInt64) ≤ (30 : Int64)) : Int32) = bI (0 ≤ ((n : Nat) : Int) ∧ ((n : Nat) : Int) ≤ 30) from inZ (x := nI n) (l := 0) (h := 30) (X := ((n : Nat) : Int)) (A := 0) (B := 30) rfl (by decide) (by decide) (z_nI (by omega)) (by decide) (by decide)) ?_
  refine w_ifeq_b (tgt := 31) dX11_order_9 (by decide) (fun h1 => ?_) (fun h1 => ?_)
  · skip
    first
    | (exfalso; omega)
    | skip
      refine w_iconst (v := (-1)) dX11_order_31 (by decide) ?_
      exact w_ireturn dX11_order_32 rfl (rfl) rfl (⟨rfl, _, _, rfl, FrR.rf⟩)
  · skip
    first
    | (exfalso; omega)
    | skip
      refine w_iload_n dX11_order_12 rfl ?_
      refine w_if_eq (tgt := 33) dX11_order_13 (by decide) (fun h2 => ?_) (fun h2 => ?_)
      · skip
        replace h2 : what.toInt = 0 := (zeq rfl (by decide)).mp h2
        first
        | (exfalso; omega)
        | skip
          exfalso
          omega
      · skip
        replace h2 : ¬ (what.toInt = 0) := fun q => h2 ((zeq rfl (by decide)).mpr q)
        first
        | (exfalso; omega)
        | skip
          refine w_iload_n dX11_order_16 rfl ?_
          refine w_bipush (v := 10) dX11_order_17 (by decide) ?_
          refine w_isub dX11_order_19 ?_
          rw [show ((what) - (10) : Int32) = y from hy.symm]
          refine w_i2l dX11_order_20 ?_
          refine w_lconst (v := 0) dX11_order_21 (by decide) ?_
          refine w_ldc2 dX11_order_22 cq_X11_209 ?_
          refine w_callS (as := [vL ((y : Int32).toInt64), vL (0), vL (3)]) (st := []) (Tri.mono (d_in ((y : Int32).toInt64) (0) (3)) (Nat.le_of_ble_eq_true rfl)) tg_X11_in lk_X11_66 sa_X11_in rfl dX11_order_25 rfl (Nat.le_of_ble_eq_true rfl) (Nat.le_refl _) (Nat.le_refl _) ?_
          rintro _ _ ⟨rfl, rfl⟩ -
          refine w_top (y := bI (0 ≤ y.toInt ∧ y.toInt ≤ 3)) (show (bI ((0 : Int64) ≤ ((y : Int32).toInt64) ∧ ((y : Int32).toInt64) ≤ (3 : Int64)) : Int32) = bI (0 ≤ y.toInt ∧ y.toInt ≤ 3) from inZ (x := y) (l := 0) (h := 3) (X := y.toInt) (A := 0) (B := 3) rfl (by decide) (by decide) rfl (by decide) (by decide)) ?_
          refine w_ifne_b (tgt := 33) dX11_order_28 (by decide) (fun h3 => ?_) (fun h3 => ?_)
          · skip
            first
            | (exfalso; omega)
            | skip
              exfalso
              omega
          · skip
            first
            | (exfalso; omega)
            | skip
              refine w_iconst (v := (-1)) dX11_order_31 (by decide) ?_
              exact w_ireturn dX11_order_32 rfl (rfl) rfl (⟨rfl, _, _, rfl, FrR.rf⟩)
