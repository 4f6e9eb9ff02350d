/-! who is to hear what, both ways (by wip/whole/gen/g73.py) -/
def okR (a : aA) (t c j : Nat) : Prop := ¬ t.testBit c = true ∧ canN a c j (sF a c 1)
def okB (a : aA) (t c j : Nat) : Bool := !t.testBit c && decide (canN a c j (sF a c 1))
theorem okB_iff {a : aA} {t c j : Nat} : okB a t c j = true ↔ ¬ t.testBit c = true ∧ canN a c j (sF a c 1) := by unfold okB; simp
/-- a roster by its number, from the judge on behind whom m are -/
def evN (a : aA) (num : Nat) : Nat → Nat → Nat → Option (Nat × Nat)
  | 0, t, r => some (t, r)
  | m + 1, t, r => if num / (nC a + 1) ^ m % (nC a + 1) < nC a then
      (if okB a t (num / (nC a + 1) ^ m % (nC a + 1)) (nJ a - (m + 1)) = true then evN a num m (t ||| 2 ^ (num / (nC a + 1) ^ m % (nC a + 1))) (r - sF a (num / (nC a + 1) ^ m % (nC a + 1)) 1 / 5) else none)
      else evN a num m t r
def upB1 (t r k : Nat) : Option (Nat × (Nat × Nat)) → Option (Nat × (Nat × Nat))
  | none => some (popN t, (r, k))
  | some b => if b.1 < popN t ∨ (popN t = b.1 ∧ r < b.2.1) then some (popN t, (r, k)) else some b
def upB (x : Option (Nat × Nat)) (k : Nat) (B : Option (Nat × (Nat × Nat))) : Option (Nat × (Nat × Nat)) := match x with
  | none => B
  | some q => upB1 q.1 q.2 k B
def fldG (a : aA) (m t r lo : Nat) : Nat → Option (Nat × (Nat × Nat)) → Option (Nat × (Nat × Nat))
  | 0, B => B
  | n + 1, B => upB (evN a (lo + n) m t r) (lo + n) (fldG a m t r lo n B)
theorem dgK {P c m i K : Nat} (hc : c < K) (hi : i < K ^ m) : ((P * K + c) * K ^ m + i) / K ^ m % K = c := by
  have hN : 0 < K ^ m := by omega
  rw [Nat.mul_comm (P * K + c) (K ^ m), Nat.mul_add_div hN, Nat.div_eq_of_lt hi, Nat.add_zero, Nat.mul_comm P K, Nat.mul_add_mod, Nat.mod_eq_of_lt hc]
theorem fld_step {a : aA} {m t r P c : Nat} (hc : c < nC a + 1) : ∀ i, i ≤ (nC a + 1) ^ m → ∀ B, fldG a (m + 1) t r (P * (nC a + 1) * (nC a + 1) ^ m) (c * (nC a + 1) ^ m + i) B =
    (if c < nC a then (if okB a t c (nJ a - (m + 1)) = true then fldG a m (t ||| 2 ^ c) (r - sF a c 1 / 5) ((P * (nC a + 1) + c) * (nC a + 1) ^ m) i (fldG a (m + 1) t r (P * (nC a + 1) * (nC a + 1) ^ m) (c * (nC a + 1) ^ m) B) else fldG a (m + 1) t r (P * (nC a + 1) * (nC a + 1) ^ m) (c * (nC a + 1) ^ m) B)
      else fldG a m t r ((P * (nC a + 1) + c) * (nC a + 1) ^ m) i (fldG a (m + 1) t r (P * (nC a + 1) * (nC a + 1) ^ m) (c * (nC a + 1) ^ m) B))
  | 0, _, B => by
    rw [Nat.add_zero]
    split
    · split <;> rfl
    · rfl
  | i + 1, hi, B => by
    have ih := fld_step (m := m) hc i (by omega) B (t := t) (r := r) (P := P)
    have hnum : P * (nC a + 1) * (nC a + 1) ^ m + (c * (nC a + 1) ^ m + i) = (P * (nC a + 1) + c) * (nC a + 1) ^ m + i := by rw [Nat.add_mul]; omega
    rw [← Nat.add_assoc, fldG, ih, hnum, evN, dgK hc (by omega)]
    split
    · split
      · rfl
      · rfl
    · rfl
theorem fld_some {a : aA} : ∀ (m t r P : Nat) (B : Option (Nat × (Nat × Nat))), ∃ q, fldG a m t r (P * (nC a + 1) ^ m) ((nC a + 1) ^ m) B = some q
  | 0, t, r, P, B => by
    show ∃ q, upB1 t r (P * (nC a + 1) ^ 0 + 0) B = some q
    cases B with
    | none => exact ⟨_, rfl⟩
    | some b =>
      by_cases hb : b.1 < popN t ∨ (popN t = b.1 ∧ r < b.2.1)
      · exact ⟨_, if_pos hb⟩
      · exact ⟨_, if_neg hb⟩
  | m + 1, t, r, P, B => by
    have h := fld_step (a := a) (m := m) (t := t) (r := r) (P := P) (c := nC a) (Nat.lt_succ_self _) ((nC a + 1) ^ m) (Nat.le_refl _) B
    rw [if_neg (Nat.lt_irrefl _), show nC a * (nC a + 1) ^ m + (nC a + 1) ^ m = (nC a + 1) ^ (m + 1) by rw [Nat.pow_succ, Nat.mul_comm ((nC a + 1) ^ m), Nat.succ_mul], show P * (nC a + 1) * (nC a + 1) ^ m = P * (nC a + 1) ^ (m + 1) by rw [Nat.pow_succ, Nat.mul_comm ((nC a + 1) ^ m), Nat.mul_assoc]] at h
    rw [h]
    exact fld_some m t r _ _
def pkI (a : aA) (c : Nat) : Int32 := if c < nC a then nI c else -4
/-- the roster's best -/
def RosIs (a : aA) (I : xF4 Int32) : Option (Nat × (Nat × Nat)) → Prop
  | none => I 14 0 0 2 = -4
  | some b => I 14 0 0 2 = nI b.1 ∧ I 14 0 0 3 = nI b.2.1 ∧ b.1 ≤ 5 ∧ b.2.1 ≤ 99 ∧ ∀ i, i < nJ a → I 16 0 0 i = pkI a (b.2.2 / (nC a + 1) ^ (nJ a - 1 - i) % (nC a + 1))
def PkIs (a : aA) (I : xF4 Int32) (P j : Nat) : Prop := ∀ i, i < j → I 15 0 0 i = pkI a (P / (nC a + 1) ^ (j - 1 - i) % (nC a + 1))
def FrRo (I I' : xF4 Int32) : Prop := ∀ t b j s, t ≠ 14 → t ≠ 15 → t ≠ 16 → I' t b j s = I t b j s
theorem FrRo.rf {I : xF4 Int32} : FrRo I I := fun _ _ _ _ _ _ _ => rfl
theorem FrRo.tr {I I1 I2 : xF4 Int32} (h1 : FrRo I I1) (h2 : FrRo I1 I2) : FrRo I I2 := fun t b j s p q r => (h2 t b j s p q r).trans (h1 t b j s p q r)
theorem FrRo.q {I I1 : xF4 Int32} (h : FrRo I I1) : FrQ I I1 := fun t b j s _ _ r => h t b j s (by omega) (by omega) (by omega)
theorem FrRo.court {I I1 : xF4 Int32} {k : Nat} {a : aA} (h : FrRo I I1) (hc : CourtIs I k a) : CourtIs I1 k a := hc.eqv (fun t j s ht => h t k j s (by omega) (by omega) (by omega))
theorem FrRo.up {I : xF4 Int32} {t k j s : Nat} {v : Int32} (h : t = 14 ∨ t = 15 ∨ t = 16) : FrRo I (xup I t k j s v) := fun t' b' j' s' p q r => xup_tag (by omega)
theorem RosIs.eqv {a : aA} {I I' : xF4 Int32} (e4 : ∀ s, I' 14 0 0 s = I 14 0 0 s) (e6 : ∀ s, I' 16 0 0 s = I 16 0 0 s) : ∀ {B : Option (Nat × (Nat × Nat))}, RosIs a I B → RosIs a I' B
  | none, h => (e4 2).trans h
  | some _, h => ⟨(e4 2).trans h.1, (e4 3).trans h.2.1, h.2.2.1, h.2.2.2.1, fun i hi => (e6 i).trans (h.2.2.2.2 i hi)⟩
theorem PkIs.child {a : aA} {I I' : xF4 Int32} {P j c : Nat} (h : PkIs a I P j) (hc : c < nC a + 1) (e : ∀ i, i < j → I' 15 0 0 i = I 15 0 0 i) (ej : I' 15 0 0 j = pkI a c) : PkIs a I' (P * (nC a + 1) + c) (j + 1) := fun i hi => by
  by_cases e1 : i = j
  · rw [e1, ej, show j + 1 - 1 - j = 0 by omega, Nat.pow_zero, Nat.div_one, Nat.mul_comm P, Nat.mul_add_mod, Nat.mod_eq_of_lt hc]
  · rw [e i (by omega), h i (by omega), show j + 1 - 1 - i = 1 + (j - 1 - i) by omega, Nat.pow_add, Nat.pow_one, ← Nat.div_div_eq_div_mul, Nat.mul_comm P, Nat.mul_add_div (by omega), Nat.div_eq_of_lt hc]
    simp only [Nat.add_zero]
theorem popN_or : ∀ t, t < 32 → ∀ c, c < 5 → t ||| 2 ^ c < 32 ∧ (¬ t.testBit c = true → popN (t ||| 2 ^ c) = popN t + 1) := by decide +kernel
theorem or_pow5 : ∀ v, v < 32 → ∀ d, d < 5 → nI v ||| ((1 : Int32) <<< (nI d &&& 31)) = nI (v ||| 2 ^ d) := by decide +kernel
def rosI : Option (Nat × (Nat × Nat)) → Int32
  | none => -4
  | some b => nI b.1
theorem RosIs.h {a : aA} {I : xF4 Int32} : ∀ {B : Option (Nat × (Nat × Nat))}, RosIs a I B → I 14 0 0 2 = rosI B
  | none, h => h
  | some _, h => h.1

theorem l_weigh {L : xF4 Int64} {h9 r9 : Int32} {I0 : xF4 Int32} : ∀ (m i : Nat) (I : xF4 Int32), i + m = 4 → (∀ x, x < i → I 16 0 0 x = I0 15 0 0 x) → FrT 16 I0 I → Wp 0 109 m_X5_weigh 36 [some (vR 14 0 0), some (vI h9), some (vI r9), some (vI (nI i))] [] (rM I L) (fun v M => v = none ∧ ∃ I', M = rM I' L ∧ (∀ x, x < 4 → I' 16 0 0 x = I0 15 0 0 x) ∧ FrT 16 I0 I') := by
  intro m
  induction m with
  | zero =>
    intro i I hi hc hf
    have e : i = 4 := by omega
    subst e
    refine w_iload_n dX5_weigh_36 rfl ?_
    refine w_aload_n dX5_weigh_37 rfl ?_
    refine w_getR (w := some (15, 0, 0)) ff_X5_9 rfl rfl dX5_weigh_38 rfl ?_
    refine w_alen (v := 4) rfl rfl dX5_weigh_41 ?_
    refine w_icmp_ge (tgt := 72) dX5_weigh_42 (by decide) (fun _ => ?_) (fun h => absurd (by decide) h)
    exact w_return dX5_weigh_72 rfl rfl (⟨rfl, I, rfl, hc, hf⟩)
  | succ m ih =>
    intro i I hi hc hf
    have hlt : i < 4 := by omega
    refine w_iload_n dX5_weigh_36 rfl ?_
    refine w_aload_n dX5_weigh_37 rfl ?_
    refine w_getR (w := some (15, 0, 0)) ff_X5_9 rfl rfl dX5_weigh_38 rfl ?_
    refine w_alen (v := 4) rfl rfl dX5_weigh_41 ?_
    refine w_icmp_ge (tgt := 72) dX5_weigh_42 (by decide) (fun h => absurd h (nI_ge (b := 4) hlt (by omega))) (fun _ => ?_)
    refine w_iload_n dX5_weigh_45 rfl ?_
    refine w_aload_n dX5_weigh_46 rfl ?_
    refine w_getR (w := some (16, 0, 0)) ff_X5_15 rfl rfl dX5_weigh_47 rfl ?_
    refine w_alen (v := 4) rfl rfl dX5_weigh_50 ?_
    refine w_icmp_ge (tgt := 72) dX5_weigh_51 (by decide) (fun h => absurd h (nI_ge (b := 4) hlt (by omega))) (fun _ => ?_)
    refine w_aload_n dX5_weigh_54 rfl ?_
    refine w_getR (w := some (16, 0, 0)) ff_X5_15 rfl rfl dX5_weigh_55 rfl ?_
    refine w_iload_n dX5_weigh_58 rfl ?_
    refine w_aload_n dX5_weigh_59 rfl ?_
    refine w_getR (w := some (15, 0, 0)) ff_X5_9 rfl rfl dX5_weigh_60 rfl ?_
    refine w_iload_n dX5_weigh_63 rfl ?_
    refine w_iaload (a := i) rfl (vp_in_nI (n := i) (by omega) (by omega)) (nI_clamp (n := i) (by omega)) dX5_weigh_64 ?_
    refine w_top (y := I0 15 0 0 i) (show (I 15 0 0 (i) : Int32) = I0 15 0 0 i from hf 15 0 0 i (by decide)) ?_
    refine w_iastore (a := i) rfl (vp_in_nI (n := i) (by omega) (by omega)) (nI_clamp (n := i) (by omega)) dX5_weigh_65 ?_
    refine w_iinc (v := nI (i + 1)) (ls' := [some (vR 14 0 0), some (vI (h9)), some (vI (r9)), some (vI (nI (i + 1)))]) dX5_weigh_66 rfl (nI_1 _) rfl ?_
    refine w_goto (tgt := 36) dX5_weigh_69 (by decide) ?_
    exact ih (i + 1) _ (by omega) (fun x hx => by
      by_cases e : x = i
      · rw [e, xup_self]
      · rw [xup_slot e]; exact hc x (by omega)) (hf.tr FrT.up)

theorem c_weigh {I : xF4 Int32} {L : xF4 Int64} {a : aA} (hw : WF a) {t r P : Nat} {B : Option (Nat × (Nat × Nat))} (ht32 : t < 32) (hr99 : r ≤ 99) (hro : RosIs a I B) (hpk : PkIs a I P (nJ a)) : Tri 0 109 m_X5_weigh [vR 14 0 0, vI (nI (popN t)), vI (nI r)] (rM I L) (fun v M => v = none ∧ ∃ I', M = rM I' L ∧ RosIs a I' (upB1 t r P B) ∧ (∀ i, I' 15 0 0 i = I 15 0 0 i) ∧ FrRo I I') := by
  refine ⟨k_X5_weigh, Nat.le_of_ble_eq_true rfl, ?_⟩
  show Wp _ _ _ 0 [some (vR 14 0 0), some (vI (nI (popN t))), some (vI (nI r)), none] [] (rM I L) _
  obtain ⟨hJ, hC, hG, hD, hR, -⟩ := id hw
  have hp5 := popN_lt t ht32
  cases B with
  | none =>
    refine w_iload_n dX5_weigh_0 rfl ?_
    refine w_aload_n dX5_weigh_1 rfl ?_
    refine w_getI ff_X5_18 rfl rfl dX5_weigh_2 ?_
    rw [show (I 14 0 0 2 : Int32) = (-4) from hro]
    refine w_icmp_gt (tgt := 24) dX5_weigh_5 (by decide) (fun h1 => ?_) (fun h1 => ?_)
    · skip
      replace h1 : (-4) < ((popN t : Nat) : Int) := (zlt (by decide) (z_nI (by omega))).mp h1
      first
      | (exfalso; omega)
      | skip
        refine w_aload_n dX5_weigh_24 rfl ?_
        refine w_iload_n dX5_weigh_25 rfl ?_
        refine w_putI ff_X5_18 rfl rfl rfl rfl dX5_weigh_26 ?_
        refine w_aload_n dX5_weigh_29 rfl ?_
        refine w_iload_n dX5_weigh_30 rfl ?_
        refine w_putI ff_X5_27 rfl rfl rfl rfl dX5_weigh_31 ?_
        refine w_iconst (v := 0) dX5_weigh_34 (by decide) ?_
        refine w_istore_n (ls' := [some (vR 14 0 0), some (vI (nI (popN t))), some (vI (nI r)), some (vI (0))]) dX5_weigh_35 rfl ?_
        refine (l_weigh (L := L) (h9 := nI (popN t)) (r9 := nI r) 4 0 _ rfl (fun x hx => absurd hx (Nat.not_lt_zero _)) FrT.rf).post ?_
        rintro v M - ⟨rfl, I2, rfl, g1, g2⟩
        refine ⟨rfl, I2, rfl, ?_, fun i => (g2 15 0 0 i (by decide)).trans ((xup_tag (by decide)).trans (xup_tag (by decide))), fun t' b' j' s' p q r9 => (g2 t' b' j' s' r9).trans ((xup_tag p).trans (xup_tag p))⟩
        rw [show upB1 t r P (none) = some (popN t, (r, P)) from rfl]
        refine ⟨(g2 14 0 0 2 (by decide)).trans ((xup_slot (by decide)).trans xup_self), (g2 14 0 0 3 (by decide)).trans xup_self, hp5, hr99, fun i hi => ?_⟩
        rw [g1 i (by omega), xup_tag (by decide), xup_tag (by decide)]
        exact hpk i hi
    · skip
      replace h1 : ¬ ((-4) < ((popN t : Nat) : Int)) := fun q => h1 ((zlt (by decide) (z_nI (by omega))).mpr q)
      first
      | (exfalso; omega)
      | skip
        refine w_iload_n dX5_weigh_8 rfl ?_
        refine w_aload_n dX5_weigh_9 rfl ?_
        refine w_getI ff_X5_18 rfl rfl dX5_weigh_10 ?_
        rw [show (I 14 0 0 2 : Int32) = (-4) from hro]
        refine w_icmp_ne (tgt := 72) dX5_weigh_13 (by decide) (fun h2 => ?_) (fun h2 => ?_)
        · skip
          replace h2 : ¬ (((popN t : Nat) : Int) = (-4)) := fun q => h2 ((zeq (z_nI (by omega)) (by decide)).mpr q)
          first
          | (exfalso; omega)
          | skip
            exfalso
            omega
        · skip
          replace h2 : ((popN t : Nat) : Int) = (-4) := (zeq (z_nI (by omega)) (by decide)).mp h2
          first
          | (exfalso; omega)
          | skip
            refine w_iload_n dX5_weigh_16 rfl ?_
            refine w_aload_n dX5_weigh_17 rfl ?_
            refine w_getI ff_X5_27 rfl rfl dX5_weigh_18 ?_
            refine w_icmp_ge (tgt := 72) dX5_weigh_21 (by decide) (fun h3 => ?_) (fun h3 => ?_)
            · skip
              first
              | (exfalso; omega)
              | skip
                exfalso
                omega
            · skip
              first
              | (exfalso; omega)
              | skip
                refine w_aload_n dX5_weigh_24 rfl ?_
                refine w_iload_n dX5_weigh_25 rfl ?_
                refine w_putI ff_X5_18 rfl rfl rfl rfl dX5_weigh_26 ?_
                refine w_aload_n dX5_weigh_29 rfl ?_
                refine w_iload_n dX5_weigh_30 rfl ?_
                refine w_putI ff_X5_27 rfl rfl rfl rfl dX5_weigh_31 ?_
                refine w_iconst (v := 0) dX5_weigh_34 (by decide) ?_
                refine w_istore_n (ls' := [some (vR 14 0 0), some (vI (nI (popN t))), some (vI (nI r)), some (vI (0))]) dX5_weigh_35 rfl ?_
                refine (l_weigh (L := L) (h9 := nI (popN t)) (r9 := nI r) 4 0 _ rfl (fun x hx => absurd hx (Nat.not_lt_zero _)) FrT.rf).post ?_
                rintro v M - ⟨rfl, I2, rfl, g1, g2⟩
                refine ⟨rfl, I2, rfl, ?_, fun i => (g2 15 0 0 i (by decide)).trans ((xup_tag (by decide)).trans (xup_tag (by decide))), fun t' b' j' s' p q r9 => (g2 t' b' j' s' r9).trans ((xup_tag p).trans (xup_tag p))⟩
                rw [show upB1 t r P (none) = some (popN t, (r, P)) from rfl]
                refine ⟨(g2 14 0 0 2 (by decide)).trans ((xup_slot (by decide)).trans xup_self), (g2 14 0 0 3 (by decide)).trans xup_self, hp5, hr99, fun i hi => ?_⟩
                rw [g1 i (by omega), xup_tag (by decide), xup_tag (by decide)]
                exact hpk i hi
  | some b =>
    obtain ⟨q1, q2, q3, q4, q5⟩ := hro
    refine w_iload_n dX5_weigh_0 rfl ?_
    refine w_aload_n dX5_weigh_1 rfl ?_
    refine w_getI ff_X5_18 rfl rfl dX5_weigh_2 ?_
    rw [show (I 14 0 0 2 : Int32) = nI b.1 from q1]
    refine w_icmp_gt (tgt := 24) dX5_weigh_5 (by decide) (fun h1 => ?_) (fun h1 => ?_)
    · skip
      replace h1 : ((b.1 : Nat) : Int) < ((popN t : Nat) : Int) := (zlt (z_nI (by omega)) (z_nI (by omega))).mp h1
      first
      | (exfalso; omega)
      | skip
        refine w_aload_n dX5_weigh_24 rfl ?_
        refine w_iload_n dX5_weigh_25 rfl ?_
        refine w_putI ff_X5_18 rfl rfl rfl rfl dX5_weigh_26 ?_
        refine w_aload_n dX5_weigh_29 rfl ?_
        refine w_iload_n dX5_weigh_30 rfl ?_
        refine w_putI ff_X5_27 rfl rfl rfl rfl dX5_weigh_31 ?_
        refine w_iconst (v := 0) dX5_weigh_34 (by decide) ?_
        refine w_istore_n (ls' := [some (vR 14 0 0), some (vI (nI (popN t))), some (vI (nI r)), some (vI (0))]) dX5_weigh_35 rfl ?_
        refine (l_weigh (L := L) (h9 := nI (popN t)) (r9 := nI r) 4 0 _ rfl (fun x hx => absurd hx (Nat.not_lt_zero _)) FrT.rf).post ?_
        rintro v M - ⟨rfl, I2, rfl, g1, g2⟩
        refine ⟨rfl, I2, rfl, ?_, fun i => (g2 15 0 0 i (by decide)).trans ((xup_tag (by decide)).trans (xup_tag (by decide))), fun t' b' j' s' p q r9 => (g2 t' b' j' s' r9).trans ((xup_tag p).trans (xup_tag p))⟩
        rw [show upB1 t r P (some b) = some (popN t, (r, P)) from if_pos (by omega)]
        refine ⟨(g2 14 0 0 2 (by decide)).trans ((xup_slot (by decide)).trans xup_self), (g2 14 0 0 3 (by decide)).trans xup_self, hp5, hr99, fun i hi => ?_⟩
        rw [g1 i (by omega), xup_tag (by decide), xup_tag (by decide)]
        exact hpk i hi
    · skip
      replace h1 : ¬ (((b.1 : Nat) : Int) < ((popN t : Nat) : Int)) := fun q => h1 ((zlt (z_nI (by omega)) (z_nI (by omega))).mpr q)
      first
      | (exfalso; omega)
      | skip
        refine w_iload_n dX5_weigh_8 rfl ?_
        refine w_aload_n dX5_weigh_9 rfl ?_
        refine w_getI ff_X5_18 rfl rfl dX5_weigh_10 ?_
        rw [show (I 14 0 0 2 : Int32) = nI b.1 from q1]
        refine w_icmp_ne (tgt := 72) dX5_weigh_13 (by decide) (fun h2 => ?_) (fun h2 => ?_)
        · skip
          replace h2 : ¬ (((popN t : Nat) : Int) = ((b.1 : Nat) : Int)) := fun q => h2 ((zeq (z_nI (by omega)) (z_nI (by omega))).mpr q)
          first
          | (exfalso; omega)
          | skip
            rw [show upB1 t r P (some b) = some b from if_neg (by omega)]
            exact w_return dX5_weigh_72 rfl rfl (⟨rfl, I, rfl, ⟨q1, q2, q3, q4, q5⟩, fun _ => rfl, FrRo.rf⟩)
        · skip
          replace h2 : ((popN t : Nat) : Int) = ((b.1 : Nat) : Int) := (zeq (z_nI (by omega)) (z_nI (by omega))).mp h2
          first
          | (exfalso; omega)
          | skip
            refine w_iload_n dX5_weigh_16 rfl ?_
            refine w_aload_n dX5_weigh_17 rfl ?_
            refine w_getI ff_X5_27 rfl rfl dX5_weigh_18 ?_
            rw [show (I 14 0 0 3 : Int32) = nI b.2.1 from q2]
            refine w_icmp_ge (tgt := 72) dX5_weigh_21 (by decide) (fun h3 => ?_) (fun h3 => ?_)
            · skip
              replace h3 : ((b.2.1 : Nat) : Int) ≤ ((r : Nat) : Int) := (zle (z_nI (by omega)) (z_nI (by omega))).mp h3
              first
              | (exfalso; omega)
              | skip
                rw [show upB1 t r P (some b) = some b from if_neg (by omega)]
                exact w_return dX5_weigh_72 rfl rfl (⟨rfl, I, rfl, ⟨q1, q2, q3, q4, q5⟩, fun _ => rfl, FrRo.rf⟩)
            · skip
              replace h3 : ¬ (((b.2.1 : Nat) : Int) ≤ ((r : Nat) : Int)) := fun q => h3 ((zle (z_nI (by omega)) (z_nI (by omega))).mpr q)
              first
              | (exfalso; omega)
              | skip
                refine w_aload_n dX5_weigh_24 rfl ?_
                refine w_iload_n dX5_weigh_25 rfl ?_
                refine w_putI ff_X5_18 rfl rfl rfl rfl dX5_weigh_26 ?_
                refine w_aload_n dX5_weigh_29 rfl ?_
                refine w_iload_n dX5_weigh_30 rfl ?_
                refine w_putI ff_X5_27 rfl rfl rfl rfl dX5_weigh_31 ?_
                refine w_iconst (v := 0) dX5_weigh_34 (by decide) ?_
                refine w_istore_n (ls' := [some (vR 14 0 0), some (vI (nI (popN t))), some (vI (nI r)), some (vI (0))]) dX5_weigh_35 rfl ?_
                refine (l_weigh (L := L) (h9 := nI (popN t)) (r9 := nI r) 4 0 _ rfl (fun x hx => absurd hx (Nat.not_lt_zero _)) FrT.rf).post ?_
                rintro v M - ⟨rfl, I2, rfl, g1, g2⟩
                refine ⟨rfl, I2, rfl, ?_, fun i => (g2 15 0 0 i (by decide)).trans ((xup_tag (by decide)).trans (xup_tag (by decide))), fun t' b' j' s' p q r9 => (g2 t' b' j' s' r9).trans ((xup_tag p).trans (xup_tag p))⟩
                rw [show upB1 t r P (some b) = some (popN t, (r, P)) from if_pos (by omega)]
                refine ⟨(g2 14 0 0 2 (by decide)).trans ((xup_slot (by decide)).trans xup_self), (g2 14 0 0 3 (by decide)).trans xup_self, hp5, hr99, fun i hi => ?_⟩
                rw [g1 i (by omega), xup_tag (by decide), xup_tag (by decide)]
                exact hpk i hi

set_option maxHeartbeats 1000000 in
theorem l_choose {L : xF4 Int64} {a : aA} (hw : WF a) {m t P r j : Nat} {B : Option (Nat × (Nat × Nat))} (ih : ∀ (t P r j : Nat) (B : Option (Nat × (Nat × Nat))) (I : xF4 Int32), j + m = nJ a → t < 32 → r ≤ 99 → CourtIs I 0 a → RosIs a I B → PkIs a I P j → Tri (m + 3) 109 m_X5_choose [vR 14 0 0, vR 1 0 0, vI (nI j), vI (nI t), vI (nI r)] (rM I L) (fun v M => v = none ∧ ∃ I', M = rM I' L ∧ RosIs a I' (fldG a m t r (P * (nC a + 1) ^ m) ((nC a + 1) ^ m) B) ∧ (∀ i, i < j → I' 15 0 0 i = I 15 0 0 i) ∧ FrRo I I')) (hjn : j + (m + 1) = nJ a) (hj : j < nJ a) (hjm : nJ a - (m + 1) = j) (ht32 : t < 32) (hr99 : r ≤ 99) (hlo : P * (nC a + 1) ^ (m + 1) = (P * (nC a + 1) * (nC a + 1) ^ m)) {I0 : xF4 Int32} : ∀ (k c : Nat) (I : xF4 Int32) (o7 : Option xV), c + k = nC a → CourtIs I 0 a → RosIs a I (fldG a (m + 1) t r (P * (nC a + 1) * (nC a + 1) ^ m) (c * (nC a + 1) ^ m) B) → PkIs a I P j → (∀ i, i < j → I 15 0 0 i = I0 15 0 0 i) → FrRo I0 I → Wp (m + 4) 109 m_X5_choose 39 [some (vR 14 0 0), some (vR 1 0 0), some (vI (nI j)), some (vI (nI t)), some (vI (nI r)), some (vR 3 0 j), some (vI (nI c)), o7] [] (rM I L) (fun v M => v = none ∧ ∃ I', M = rM I' L ∧ RosIs a I' (fldG a (m + 1) t r (P * (nC a + 1) ^ (m + 1)) ((nC a + 1) ^ (m + 1)) B) ∧ (∀ i, i < j → I' 15 0 0 i = I0 15 0 0 i) ∧ FrRo I0 I') := by
  intro k
  induction k with
  | zero =>
    intro c I o7 hk hc hro hpk hsm hf
    have e : c = nC a := by omega
    obtain ⟨hJ, hC, hG, hD, hR, -⟩ := id hw
    subst e
    refine w_iload dX5_choose_39 rfl ?_
    refine w_aload_n dX5_choose_41 rfl ?_
    refine w_getI ff_X5_48 rfl rfl dX5_choose_42 ?_
    rw [show (I 1 0 0 4 : Int32) = nI (nC a) from hc.2.1]
    refine w_icmp_ge (tgt := 124) dX5_choose_45 (by decide) (fun _ => ?_) (fun h => absurd (nI_le (Nat.le_refl _) (by omega)) h)
    refine w_aload_n dX5_choose_124 rfl ?_
    refine w_getR (w := some (15, 0, 0)) ff_X5_9 rfl rfl dX5_choose_125 rfl ?_
    refine w_iload_n dX5_choose_128 rfl ?_
    refine w_bipush (v := (-4)) dX5_choose_129 (by decide) ?_
    refine w_iastore (a := j) rfl (vp_in_nI (n := j) (by omega) (by omega)) (nI_clamp (n := j) (by omega)) dX5_choose_131 ?_
    obtain ⟨I1, hI1⟩ : ∃ z, z = xup I 15 0 0 (j) ((-4)) := ⟨_, rfl⟩
    rw [← hI1]
    have hf1 : FrRo I I1 := by rw [hI1]; exact FrRo.up (by decide)
    have hs1 : ∀ i, i < j → I1 15 0 0 i = I 15 0 0 i := fun i hi => by rw [hI1]; exact xup_slot (by omega)
    have hj1 : I1 15 0 0 j = pkI a (nC a) := by rw [hI1, xup_self]; exact (if_neg (Nat.lt_irrefl _)).symm
    have hr1 := hro.eqv (I' := I1) (fun s => by rw [hI1]; exact xup_tag (by decide)) (fun s => by rw [hI1]; exact xup_tag (by decide))
    refine w_aload_n dX5_choose_132 rfl ?_
    refine w_aload_n dX5_choose_133 rfl ?_
    refine w_iload_n dX5_choose_134 rfl ?_
    refine w_iconst (v := 1) dX5_choose_135 (by decide) ?_
    refine w_iadd dX5_choose_136 ?_
    refine w_top (y := nI (j + 1)) (show ((nI j) + (1) : Int32) = nI (j + 1) from nI_1 j) ?_
    refine w_iload_n dX5_choose_137 rfl ?_
    refine w_iload dX5_choose_138 rfl ?_
    refine w_callS (as := [vR 14 0 0, vR 1 0 0, vI (nI (j + 1)), vI (nI t), vI (nI r)]) (st := []) (Tri.mono (ih t (P * (nC a + 1) + nC a) r (j + 1) _ I1 (by omega) ht32 hr99 (hf1.court hc) hr1 (hpk.child (Nat.lt_succ_self _) hs1 hj1)) (Nat.le_refl _)) tg_X5_choose lk_X5_30 sa_X5_choose rfl dX5_choose_140 rfl (Nat.le_of_ble_eq_true rfl) (Nat.le_refl _) (Nat.le_refl _) ?_
    rintro v M9 ⟨rfl, I2, rfl, g1, g2, g3⟩ -
    have hst := fld_step (a := a) (m := m) (t := t) (r := r) (P := P) (c := nC a) (Nat.lt_succ_self _) ((nC a + 1) ^ m) (Nat.le_refl _) B
    rw [if_neg (Nat.lt_irrefl _)] at hst
    exact w_return dX5_choose_143 rfl rfl (⟨rfl, I2, rfl, by rw [hlo, show (nC a + 1) ^ (m + 1) = nC a * (nC a + 1) ^ m + (nC a + 1) ^ m by rw [Nat.pow_succ, Nat.mul_comm ((nC a + 1) ^ m), Nat.succ_mul], hst]; exact g1, fun i hi => ((g2 i (by omega)).trans (hs1 i hi)).trans (hsm i hi), (hf.tr hf1).tr g3⟩)
  | succ k ihk =>
    intro c I o7 hk hc hro hpk hsm hf
    have hcc : c < nC a := by omega
    obtain ⟨hJ, hC, hG, hD, hR, -⟩ := id hw
    obtain ⟨fc0, fc1, fc2, fc3, fc4, fc5, fc6, fc7, fc8⟩ := hw.2.2.2.2.2.2.1 c hcc
    have hst := fld_step (a := a) (m := m) (t := t) (r := r) (P := P) (c := c) (by omega) ((nC a + 1) ^ m) (Nat.le_refl _) B
    rw [if_pos hcc, show c * (nC a + 1) ^ m + (nC a + 1) ^ m = (c + 1) * (nC a + 1) ^ m from (Nat.succ_mul _ _).symm] at hst
    obtain ⟨pt1, pt2⟩ := popN_or t ht32 c (by omega)
    refine w_iload dX5_choose_39 rfl ?_
    refine w_aload_n dX5_choose_41 rfl ?_
    refine w_getI ff_X5_48 rfl rfl dX5_choose_42 ?_
    rw [show (I 1 0 0 4 : Int32) = nI (nC a) from hc.2.1]
    refine w_icmp_ge (tgt := 124) dX5_choose_45 (by decide) (fun h => absurd h (nI_ge hcc (by omega))) (fun _ => ?_)
    refine w_aload_n dX5_choose_48 rfl ?_
    refine w_iload dX5_choose_49 rfl ?_
    refine w_callV (as := [vI (nI c)]) (st := []) (Tri.mono (c_sAt hc hw hcc) (Nat.le_of_ble_eq_true rfl)) rfl rfl tg_X1_suitAt lk_X5_51 in_X1_suitAt se_X1_suitAt rfl dX5_choose_51 rfl (Nat.le_of_ble_eq_true rfl) (Nat.le_refl _) (Nat.le_refl _) ?_
    rintro _ _ ⟨rfl, rfl⟩ -
    refine w_astore (ls' := [some (vR 14 0 0), some (vR 1 0 0), some (vI (nI j)), some (vI (nI t)), some (vI (nI r)), some (vR 3 0 j), some (vI (nI c)), some (vR 5 0 c)]) dX5_choose_54 rfl ?_
    refine w_aload dX5_choose_56 rfl ?_
    refine w_ifnull (tgt := 118) dX5_choose_58 (by decide) (fun h => by cases h) (fun _ _ => ?_)
    refine w_iload_n dX5_choose_61 rfl ?_
    refine w_iload dX5_choose_62 rfl ?_
    refine w_ishr dX5_choose_64 ?_
    refine w_iconst (v := 1) dX5_choose_65 (by decide) ?_
    refine w_iand dX5_choose_66 ?_
    rw [show (((nI t) >>> ((nI c) &&& 31)) &&& (1) : Int32) = bI (t.testBit c = true) from tbit0 _ ht32 _ (by omega)]
    refine w_ifne_b (tgt := 118) dX5_choose_67 (by decide) (fun h1 => ?_) (fun h1 => ?_)
    · skip
      have hno : ¬ okB a t c (nJ a - (m + 1)) = true := fun q => by
        have q2 := okB_iff.mp q
        rw [hjm] at q2
        first | exact q2.1 h1 | exact h2 q2.2
      rw [if_neg hno] at hst
      refine w_iinc (v := nI (c + 1)) (ls' := [some (vR 14 0 0), some (vR 1 0 0), some (vI (nI j)), some (vI (nI t)), some (vI (nI r)), some (vR 3 0 j), some (vI (nI (c + 1))), some (vR 5 0 c)]) dX5_choose_118 rfl (nI_1 _) rfl ?_
      refine w_goto (tgt := 39) dX5_choose_121 (by decide) ?_
      exact ihk (c + 1) I (some (vR 5 0 c)) (by omega) hc (by rw [hst]; exact hro) hpk hsm hf
    · skip
      refine w_aload_n dX5_choose_70 rfl ?_
      refine w_aload dX5_choose_71 rfl ?_
      refine w_aload dX5_choose_73 rfl ?_
      refine w_aload dX5_choose_75 rfl ?_
      refine w_getI ff_X5_55 rfl rfl dX5_choose_77 ?_
      rw [show (I 5 0 c 1 : Int32) = nI (sF a c 1) from hc.s hcc (by decide) (by decide)]
      refine w_callV (as := [vR 5 0 c, vR 3 0 j, vI (nI (sF a c 1))]) (st := []) (Tri.mono (c_canHear hc hw (n := sF a c 1) hcc hj (by omega)) (Nat.le_of_ble_eq_true rfl)) rfl rfl tg_X1_canHear lk_X5_60 in_X1_canHear se_X1_canHear rfl dX5_choose_80 rfl (Nat.le_of_ble_eq_true rfl) (Nat.le_refl _) (Nat.le_refl _) ?_
      rintro _ _ ⟨rfl, rfl⟩ -
      refine w_ifeq_b (tgt := 118) dX5_choose_83 (by decide) (fun h2 => ?_) (fun h2 => ?_)
      · skip
        have hno : ¬ okB a t c (nJ a - (m + 1)) = true := fun q => by
          have q2 := okB_iff.mp q
          rw [hjm] at q2
          first | exact q2.1 h1 | exact h2 q2.2
        rw [if_neg hno] at hst
        refine w_iinc (v := nI (c + 1)) (ls' := [some (vR 14 0 0), some (vR 1 0 0), some (vI (nI j)), some (vI (nI t)), some (vI (nI r)), some (vR 3 0 j), some (vI (nI (c + 1))), some (vR 5 0 c)]) dX5_choose_118 rfl (nI_1 _) rfl ?_
        refine w_goto (tgt := 39) dX5_choose_121 (by decide) ?_
        exact ihk (c + 1) I (some (vR 5 0 c)) (by omega) hc (by rw [hst]; exact hro) hpk hsm hf
      · skip
        have hyes : okB a t c (nJ a - (m + 1)) = true := okB_iff.mpr (by rw [hjm]; exact ⟨h1, h2⟩)
        rw [if_pos hyes] at hst
        refine w_aload_n dX5_choose_86 rfl ?_
        refine w_getR (w := some (15, 0, 0)) ff_X5_9 rfl rfl dX5_choose_87 rfl ?_
        refine w_iload_n dX5_choose_90 rfl ?_
        refine w_iload dX5_choose_91 rfl ?_
        refine w_iastore (a := j) rfl (vp_in_nI (n := j) (by omega) (by omega)) (nI_clamp (n := j) (by omega)) dX5_choose_93 ?_
        obtain ⟨I1, hI1⟩ : ∃ z, z = xup I 15 0 0 (j) (nI c) := ⟨_, rfl⟩
        rw [← hI1]
        have hf1 : FrRo I I1 := by rw [hI1]; exact FrRo.up (by decide)
        have hs1 : ∀ i, i < j → I1 15 0 0 i = I 15 0 0 i := fun i hi => by rw [hI1]; exact xup_slot (by omega)
        have hj1 : I1 15 0 0 j = pkI a c := by rw [hI1, xup_self]; exact (if_pos hcc).symm
        have hr1 := hro.eqv (I' := I1) (fun s => by rw [hI1]; exact xup_tag (by decide)) (fun s => by rw [hI1]; exact xup_tag (by decide))
        have hc1 := hf1.court hc
        refine w_aload_n dX5_choose_94 rfl ?_
        refine w_aload_n dX5_choose_95 rfl ?_
        refine w_iload_n dX5_choose_96 rfl ?_
        refine w_iconst (v := 1) dX5_choose_97 (by decide) ?_
        refine w_iadd dX5_choose_98 ?_
        refine w_top (y := nI (j + 1)) (show ((nI j) + (1) : Int32) = nI (j + 1) from nI_1 j) ?_
        refine w_iload_n dX5_choose_99 rfl ?_
        refine w_iconst (v := 1) dX5_choose_100 (by decide) ?_
        refine w_iload dX5_choose_101 rfl ?_
        refine w_ishl dX5_choose_103 ?_
        refine w_ior dX5_choose_104 ?_
        refine w_top (y := nI (t ||| 2 ^ c)) (show ((nI t) ||| ((1) <<< ((nI c) &&& 31)) : Int32) = nI (t ||| 2 ^ c) from or_pow5 _ ht32 _ (by omega)) ?_
        refine w_iload dX5_choose_105 rfl ?_
        refine w_aload dX5_choose_107 rfl ?_
        refine w_getI ff_X5_55 rfl rfl dX5_choose_109 ?_
        rw [show (I1 5 0 c 1 : Int32) = nI (sF a c 1) from hc1.s hcc (by decide) (by decide)]
        refine w_callSN (as := [vI (nI r), vI (nI (sF a c 1))]) (st := [vI (nI (t ||| 2 ^ c)), vI (nI (j + 1)), vR 1 0 0, vR 14 0 0]) (Tri.mono (c_X10_lessCrime (nI r) (nI (sF a c 1))) (Nat.le_of_ble_eq_true rfl)) tg_X10_lessCrime ln_X5_64 sa_X10_lessCrime rfl dX5_choose_112 rfl (Nat.le_of_ble_eq_true rfl) (Nat.le_refl _) (Nat.le_refl _) ?_
        rintro _ _ ⟨rfl, rfl⟩ -
        refine w_top (y := nI (r - sF a c 1 / 5)) (show (lessI (nI r) (nI (sF a c 1)) : Int32) = nI (r - sF a c 1 / 5) from lessI_N (by omega) (by omega)) ?_
        refine w_callS (as := [vR 14 0 0, vR 1 0 0, vI (nI (j + 1)), vI (nI (t ||| 2 ^ c)), vI (nI (r - sF a c 1 / 5))]) (st := []) (Tri.mono (ih (t ||| 2 ^ c) (P * (nC a + 1) + c) (r - sF a c 1 / 5) (j + 1) _ I1 (by omega) pt1 (by omega) hc1 hr1 (hpk.child (by omega) hs1 hj1)) (Nat.le_refl _)) tg_X5_choose lk_X5_30 sa_X5_choose rfl dX5_choose_115 rfl (Nat.le_of_ble_eq_true rfl) (Nat.le_refl _) (Nat.le_refl _) ?_
        rintro v M9 ⟨rfl, I2, rfl, g1, g2, g3⟩ -
        refine w_iinc (v := nI (c + 1)) (ls' := [some (vR 14 0 0), some (vR 1 0 0), some (vI (nI j)), some (vI (nI t)), some (vI (nI r)), some (vR 3 0 j), some (vI (nI (c + 1))), some (vR 5 0 c)]) dX5_choose_118 rfl (nI_1 _) rfl ?_
        refine w_goto (tgt := 39) dX5_choose_121 (by decide) ?_
        exact ihk (c + 1) I2 (some (vR 5 0 c)) (by omega) (g3.court hc1) (by rw [hst]; exact g1) (fun i hi => ((g2 i (by omega)).trans (hs1 i hi)).trans (hpk i hi)) (fun i hi => ((g2 i (by omega)).trans (hs1 i hi)).trans (hsm i hi)) ((hf.tr hf1).tr g3)

theorem c_choose {L : xF4 Int64} {a : aA} (hw : WF a) : ∀ (m t P r j : Nat) (B : Option (Nat × (Nat × Nat))) (I : xF4 Int32), j + m = nJ a → t < 32 → r ≤ 99 → CourtIs I 0 a → RosIs a I B → PkIs a I P j → Tri (m + 3) 109 m_X5_choose [vR 14 0 0, vR 1 0 0, vI (nI j), vI (nI t), vI (nI r)] (rM I L) (fun v M => v = none ∧ ∃ I', M = rM I' L ∧ RosIs a I' (fldG a m t r (P * (nC a + 1) ^ m) ((nC a + 1) ^ m) B) ∧ (∀ i, i < j → I' 15 0 0 i = I 15 0 0 i) ∧ FrRo I I') := by
  intro m
  induction m with
  | zero =>
    intro t P r j B I hj ht32 hr99 hc hro hpk
    have e : j = nJ a := by omega
    subst e
    obtain ⟨hJ, hC, hG, hD, hR, -⟩ := id hw
    refine ⟨k_X5_choose, Nat.le_of_ble_eq_true rfl, ?_⟩
    show Wp _ _ _ 0 [some (vR 14 0 0), some (vR 1 0 0), some (vI (nI (nJ a))), some (vI (nI t)), some (vI (nI r)), none, none, none] [] (rM I L) _
    refine w_aload_n dX5_choose_0 rfl ?_
    refine w_iload_n dX5_choose_1 rfl ?_
    refine w_callV (as := [vI (nI (nJ a))]) (st := []) (Tri.mono (c_jAtO hc hw (Or.inr (nI_le (Nat.le_refl _) (by omega)))) (Nat.le_of_ble_eq_true rfl)) rfl rfl tg_X1_judgeAt lk_X5_34 in_X1_judgeAt se_X1_judgeAt rfl dX5_choose_2 rfl (Nat.le_of_ble_eq_true rfl) (Nat.le_refl _) (Nat.le_refl _) ?_
    rintro _ _ ⟨rfl, rfl⟩ -
    refine w_astore (ls' := [some (vR 14 0 0), some (vR 1 0 0), some (vI (nI (nJ a))), some (vI (nI t)), some (vI (nI r)), some (vN), none, none]) dX5_choose_5 rfl ?_
    refine w_aload dX5_choose_7 rfl ?_
    refine w_ifnull (tgt := 25) dX5_choose_9 (by decide) (fun _ => ?_) (fun _ h => by cases h)
    refine w_aload_n dX5_choose_25 rfl ?_
    refine w_iload_n dX5_choose_26 rfl ?_
    refine w_callS (as := [vI (nI t)]) (st := [vR 14 0 0]) (Tri.mono (c_bitCount (nI t)) (Nat.le_of_ble_eq_true rfl)) tg_J6_bitCount_0f7a4 lk_X5_38 sa_J6_bitCount_0f7a4 rfl dX5_choose_27 rfl (Nat.le_of_ble_eq_true rfl) (Nat.le_refl _) (Nat.le_refl _) ?_
    rintro _ _ ⟨rfl, rfl⟩ -
    refine w_top (y := nI (popN t)) (show (bcI (nI t) : Int32) = nI (popN t) from bcI_N0 _ ht32) ?_
    refine w_iload dX5_choose_30 rfl ?_
    refine w_callV (as := [vI (nI (popN t)), vI (nI r)]) (st := []) (Tri.mono (c_weigh hw (t := t) (r := r) (P := P) ht32 hr99 hro hpk) (Nat.le_of_ble_eq_true rfl)) rfl rfl tg_X5_weigh lk_X5_44 in_X5_weigh se_X5_weigh rfl dX5_choose_32 rfl (Nat.le_of_ble_eq_true rfl) (Nat.le_refl _) (Nat.le_refl _) ?_
    rintro v M9 ⟨rfl, I1, rfl, g1, g2, g3⟩ -
    exact w_return dX5_choose_35 rfl rfl (⟨rfl, I1, rfl, by rw [Nat.pow_zero, Nat.mul_one]; exact g1, fun i _ => g2 i, g3⟩)
  | succ m ih =>
    intro t P r j B I hj ht32 hr99 hc hro hpk
    have hjl : j < nJ a := by omega
    obtain ⟨hJ, hC, hG, hD, hR, -⟩ := id hw
    refine ⟨k_X5_choose, Nat.le_of_ble_eq_true rfl, ?_⟩
    show Wp _ _ _ 0 [some (vR 14 0 0), some (vR 1 0 0), some (vI (nI j)), some (vI (nI t)), some (vI (nI r)), none, none, none] [] (rM I L) _
    refine w_aload_n dX5_choose_0 rfl ?_
    refine w_iload_n dX5_choose_1 rfl ?_
    refine w_callV (as := [vI (nI j)]) (st := []) (Tri.mono (c_jAt hc hw hjl) (Nat.le_of_ble_eq_true rfl)) rfl rfl tg_X1_judgeAt lk_X5_34 in_X1_judgeAt se_X1_judgeAt rfl dX5_choose_2 rfl (Nat.le_of_ble_eq_true rfl) (Nat.le_refl _) (Nat.le_refl _) ?_
    rintro _ _ ⟨rfl, rfl⟩ -
    refine w_astore (ls' := [some (vR 14 0 0), some (vR 1 0 0), some (vI (nI j)), some (vI (nI t)), some (vI (nI r)), some (vR 3 0 j), none, none]) dX5_choose_5 rfl ?_
    refine w_aload dX5_choose_7 rfl ?_
    refine w_ifnull (tgt := 25) dX5_choose_9 (by decide) (fun h => by cases h) (fun _ _ => ?_)
    refine w_iload_n dX5_choose_12 rfl ?_
    refine w_if_lt (tgt := 25) dX5_choose_13 (by decide) (fun h => absurd h (nI_pos (by omega))) (fun _ => ?_)
    refine w_iload_n dX5_choose_16 rfl ?_
    refine w_aload_n dX5_choose_17 rfl ?_
    refine w_getR (w := some (15, 0, 0)) ff_X5_9 rfl rfl dX5_choose_18 rfl ?_
    refine w_alen (v := 4) rfl rfl dX5_choose_21 ?_
    refine w_icmp_lt (tgt := 36) dX5_choose_22 (by decide) (fun _ => ?_) (fun h => absurd (nI_lt (b := 4) (by omega) (by omega)) h)
    refine w_iconst (v := 0) dX5_choose_36 (by decide) ?_
    refine w_istore (ls' := [some (vR 14 0 0), some (vR 1 0 0), some (vI (nI j)), some (vI (nI t)), some (vI (nI r)), some (vR 3 0 j), some (vI (0)), none]) dX5_choose_37 rfl ?_
    refine Wp.mono (l_choose hw ih (by omega) hjl (by omega) ht32 hr99 (by rw [Nat.pow_succ, Nat.mul_comm ((nC a + 1) ^ m), Nat.mul_assoc]) (nC a) 0 I none (Nat.zero_add _) hc (by rw [Nat.zero_mul]; exact hro) hpk (fun _ _ => rfl) FrRo.rf) (by omega)

def bestR (a : aA) : Option (Nat × (Nat × Nat)) := fldG a (nJ a) 0 (cR a) 0 ((nC a + 1) ^ nJ a) none
theorem bestR_some (a : aA) : ∃ b, bestR a = some b := by
  obtain ⟨q, hq⟩ := fld_some (a := a) (nJ a) 0 (cR a) 0 none
  rw [Nat.zero_mul] at hq
  exact ⟨q, hq⟩

theorem c_search {I : xF4 Int32} {L : xF4 Int64} {a : aA} (hc : CourtIs I 0 a) (hw : WF a) : Tri 8 109 m_X5_search [vR 14 0 0, vR 1 0 0] (rM I L) (fun v M => v = none ∧ ∃ I', M = rM I' L ∧ RosIs a I' (bestR a) ∧ FrRo I I') := by
  refine ⟨k_X5_search, Nat.le_of_ble_eq_true rfl, ?_⟩
  show Wp _ _ _ 0 [some (vR 14 0 0), some (vR 1 0 0)] [] (rM I L) _
  obtain ⟨hJ, hC, hG, hD, hR, -⟩ := id hw
  refine w_aload_n dX5_search_0 rfl ?_
  refine w_bipush (v := (-4)) dX5_search_1 (by decide) ?_
  refine w_putI ff_X5_18 rfl rfl rfl rfl dX5_search_3 ?_
  refine w_aload_n dX5_search_6 rfl ?_
  refine w_aload_n dX5_search_7 rfl ?_
  refine w_getI ff_X5_22 rfl rfl dX5_search_8 ?_
  rw [show ((xup I 14 0 0 2 ((-4))) 1 0 0 7 : Int32) = nI (cR a) from (xup_tag (by decide)).trans hc.2.2.2.2.1]
  refine w_putI ff_X5_27 rfl rfl rfl rfl dX5_search_11 ?_
  refine w_aload_n dX5_search_14 rfl ?_
  refine w_aload_n dX5_search_15 rfl ?_
  refine w_iconst (v := 0) dX5_search_16 (by decide) ?_
  refine w_iconst (v := 0) dX5_search_17 (by decide) ?_
  refine w_aload_n dX5_search_18 rfl ?_
  refine w_getI ff_X5_22 rfl rfl dX5_search_19 ?_
  rw [show ((xup (xup I 14 0 0 2 ((-4))) 14 0 0 3 (nI (cR a))) 1 0 0 7 : Int32) = nI (cR a) from (xup_tag (by decide)).trans ((xup_tag (by decide)).trans hc.2.2.2.2.1)]
  have hf0 : FrRo I (xup (xup I 14 0 0 2 ((-4))) 14 0 0 3 (nI (cR a))) := (FrRo.up (by decide)).tr (FrRo.up (by decide))
  have hro0 : RosIs a (xup (xup I 14 0 0 2 ((-4))) 14 0 0 3 (nI (cR a))) none := (xup_slot (by decide)).trans xup_self
  refine w_callS (as := [vR 14 0 0, vR 1 0 0, vI (0), vI (0), vI (nI (cR a))]) (st := []) (Tri.mono (c_choose hw (nJ a) 0 0 (cR a) 0 none _ (Nat.zero_add _) (by decide) hR (hf0.court hc) hro0 (fun i hi => absurd hi (Nat.not_lt_zero _))) (show nJ a + 3 ≤ 7 by omega)) tg_X5_choose lk_X5_30 sa_X5_choose rfl dX5_search_22 rfl (Nat.le_of_ble_eq_true rfl) (Nat.le_refl _) (Nat.le_refl _) ?_
  rintro v M9 ⟨rfl, I2, rfl, g1, g2, g3⟩ -
  exact w_return dX5_search_25 rfl rfl (⟨rfl, I2, rfl, by rw [Nat.zero_mul] at g1; exact g1, hf0.tr g3⟩)

theorem sub10b {x : Int32} {n : Nat} (hn : n ≤ 4) (h : x.toInt < 10 ∨ 10 + (n : Int) ≤ x.toInt) : (x - 10).toInt < 0 ∨ (n : Int) ≤ (x - 10).toInt := by
  have e := Int32.toInt_sub x 10
  rw [show (10 : Int32).toInt = 10 from by decide] at e
  have r1 := Int32.le_toInt x
  have r2 := Int32.toInt_lt x
  rw [e, Int.bmod_def]
  split <;> omega

theorem c_suitOf {I : xF4 Int32} {L : xF4 Int64} {i : Nat} (hi : i < 4) : Tri 0 109 m_X5_suitOf [vR 14 0 0, vI (nI i)] (rM I L) (pI (I 16 0 0 i) I L) := by
  refine ⟨k_X5_suitOf, Nat.le_of_ble_eq_true rfl, ?_⟩
  show Wp _ _ _ 0 [some (vR 14 0 0), some (vI (nI i))] [] (rM I L) _
  refine w_iload_n dX5_suitOf_0 rfl ?_
  refine w_if_lt (tgt := 22) dX5_suitOf_1 (by decide) (fun h => absurd h (nI_pos (by omega))) (fun _ => ?_)
  refine w_iload_n dX5_suitOf_4 rfl ?_
  refine w_aload_n dX5_suitOf_5 rfl ?_
  refine w_getR (w := some (16, 0, 0)) ff_X5_15 rfl rfl dX5_suitOf_6 rfl ?_
  refine w_alen (v := 4) rfl rfl dX5_suitOf_9 ?_
  refine w_icmp_ge (tgt := 22) dX5_suitOf_10 (by decide) (fun h => absurd h (nI_ge (b := 4) hi (by omega))) (fun _ => ?_)
  refine w_aload_n dX5_suitOf_13 rfl ?_
  refine w_getR (w := some (16, 0, 0)) ff_X5_15 rfl rfl dX5_suitOf_14 rfl ?_
  refine w_iload_n dX5_suitOf_17 rfl ?_
  refine w_iaload (a := i) rfl (vp_in_nI (n := i) (by omega) (by omega)) (nI_clamp (n := i) (by omega)) dX5_suitOf_18 ?_
  refine w_goto (tgt := 24) dX5_suitOf_19 (by decide) ?_
  exact w_ireturn dX5_suitOf_24 rfl (rfl) rfl (⟨rfl, rfl⟩)

theorem powK {a : aA} (hw : WF a) : ∀ m, m ≤ 4 → (nC a + 1) ^ m ≤ 1296 := fun m hm => Nat.le_trans (Nat.pow_le_pow_left (show nC a + 1 ≤ 6 by have := hw.2.1; omega) m) (Nat.le_trans (Nat.pow_le_pow_right (by decide) hm) (by decide))
theorem powK_pos (a : aA) (m : Nat) : 0 < (nC a + 1) ^ m := Nat.pow_pos (Nat.succ_pos _)

theorem d_caseIn {I : xF4 Int32} {L : xF4 Int64} {a : aA} (hm : MI I a) (hw : WF a) {num j : Nat} (hnum : num ≤ 10000) (hj : j < nJ a) : Tri 1 109 m_X11_caseIn [vR 30 0 0, vI (nI num), vI (nI j)] (rM I L) (pI (nI (num / (nC a + 1) ^ (nJ a - 1 - j) % (nC a + 1))) I L) := by
  refine ⟨k_X11_caseIn, Nat.le_of_ble_eq_true rfl, ?_⟩
  show Wp _ _ _ 0 [some (vR 30 0 0), some (vI (nI num)), some (vI (nI j))] [] (rM I L) _
  obtain ⟨hJ, hC, hG, hD, hR, -⟩ := id hw
  have hpk := powK hw (nJ a - 1 - j) (by omega)
  have hpp := powK_pos a (nJ a - 1 - j)
  have hdv := Nat.div_le_self num ((nC a + 1) ^ (nJ a - 1 - j))
  refine w_iload_n dX11_caseIn_0 rfl ?_
  refine w_aload_n dX11_caseIn_1 rfl ?_
  refine w_aload_n dX11_caseIn_2 rfl ?_
  refine w_getI ff_X11_61 rfl rfl dX11_caseIn_3 ?_
  rw [show (I 30 0 0 4 : Int32) = nI (nC a) from hm.2.1]
  refine w_iconst (v := 1) dX11_caseIn_6 (by decide) ?_
  refine w_iadd dX11_caseIn_7 ?_
  rw [show ((nI (nC a)) + (1) : Int32) = nI ((nC a) + 1) from ar_add (p := nC a) (q := 1) rfl rfl (by omega)]
  refine w_aload_n dX11_caseIn_8 rfl ?_
  refine w_getI ff_X11_58 rfl rfl dX11_caseIn_9 ?_
  rw [show (I 30 0 0 3 : Int32) = nI (nJ a) from hm.1]
  refine w_iconst (v := 1) dX11_caseIn_12 (by decide) ?_
  refine w_isub dX11_caseIn_13 ?_
  rw [show ((nI (nJ a)) - (1) : Int32) = nI ((nJ a) - 1) from ar_sub (p := nJ a) (q := 1) rfl rfl (by omega) rfl]
  refine w_iload_n dX11_caseIn_14 rfl ?_
  refine w_isub dX11_caseIn_15 ?_
  rw [show ((nI ((nJ a) - 1)) - (nI j) : Int32) = nI (((nJ a) - 1) - j) from ar_sub (p := (nJ a) - 1) (q := j) rfl rfl (by omega) rfl]
  refine w_callV (as := [vI (nI ((nC a) + 1)), vI (nI (((nJ a) - 1) - j))]) (st := [vI (nI num)]) (Tri.mono (d_powerOf (b := nC a + 1) (n := nJ a - 1 - j) (by omega)) (Nat.le_of_ble_eq_true rfl)) rfl rfl tg_X11_powerOf lk_X11_239 in_X11_powerOf se_X11_powerOf rfl dX11_caseIn_16 rfl (Nat.le_of_ble_eq_true rfl) (Nat.le_refl _) (Nat.le_refl _) ?_
  rintro _ _ ⟨rfl, rfl⟩ -
  refine w_idiv dX11_caseIn_19 (nI_nz (by omega) (by omega)) ?_
  refine w_top (y := nI (num / (nC a + 1) ^ (nJ a - 1 - j))) (show ((nI num) / (nI ((nC a + 1) ^ (nJ a - 1 - j))) : Int32) = nI (num / (nC a + 1) ^ (nJ a - 1 - j)) from ar_div (p := num) (q := (nC a + 1) ^ (nJ a - 1 - j)) rfl rfl (by omega) (by omega) (by omega) rfl) ?_
  refine w_aload_n dX11_caseIn_20 rfl ?_
  refine w_getI ff_X11_61 rfl rfl dX11_caseIn_21 ?_
  rw [show (I 30 0 0 4 : Int32) = nI (nC a) from hm.2.1]
  refine w_iconst (v := 1) dX11_caseIn_24 (by decide) ?_
  refine w_iadd dX11_caseIn_25 ?_
  rw [show ((nI (nC a)) + (1) : Int32) = nI ((nC a) + 1) from ar_add (p := nC a) (q := 1) rfl rfl (by omega)]
  refine w_irem dX11_caseIn_26 (nI_nz (by omega) (by omega)) ?_
  refine w_top (y := nI ((num / (nC a + 1) ^ (nJ a - 1 - j)) % (nC a + 1))) (show ((nI (num / (nC a + 1) ^ (nJ a - 1 - j))) - (nI (num / (nC a + 1) ^ (nJ a - 1 - j))) / (nI ((nC a) + 1)) * (nI ((nC a) + 1)) : Int32) = nI ((num / (nC a + 1) ^ (nJ a - 1 - j)) % (nC a + 1)) from ar_rem (p := num / (nC a + 1) ^ (nJ a - 1 - j)) (q := nC a + 1) rfl rfl (by omega) (by omega) (by omega) rfl) ?_
  exact w_ireturn dX11_caseIn_27 rfl (rfl) rfl (⟨rfl, rfl⟩)

/-- the court as the roster has gone so far -/
def RosB (a b : aA) (t r j : Nat) : Prop := WF b ∧ nJ b = nJ a ∧ nC b = nC a ∧ dY b = dY a ∧ cR b = r ∧ (∀ i, j ≤ i → ∀ f, jF b i f = jF a i f) ∧ (∀ c, c < nC a → ∀ f, f ≠ 4 → f ≠ 6 → sF b c f = sF a c f) ∧ ∀ c, c < nC a → (t.testBit c = true → 0 < sF b c 4) ∧ (¬ t.testBit c = true → sF b c 4 = sF a c 4)
theorem RosB.can {a b : aA} {t r j c : Nat} (h : RosB a b t r j) (hc : c < nC a) : canN b c j (sF b c 1) ↔ okB a t c j = true := by
  obtain ⟨h1, h2, h3, h4, h5, h6, h7, h8⟩ := h
  obtain ⟨g1, g2⟩ := h8 c hc
  rw [okB_iff]
  unfold canN
  rw [h7 c hc 1 (by decide) (by decide), h7 c hc 3 (by decide) (by decide), h7 c hc 0 (by decide) (by decide), h4, h6 j (Nat.le_refl _) 3, h6 j (Nat.le_refl _) 0, h6 j (Nat.le_refl _) 2, h6 j (Nat.le_refl _) 1]
  by_cases ht : t.testBit c = true
  · have := g1 ht
    exact ⟨fun q => absurd q.1 (by omega), fun q => absurd ht q.1⟩
  · rw [g2 ht]
    exact ⟨fun q => ⟨ht, q⟩, fun q => q.2⟩
theorem RosB.sent {a b : aA} {t r j c : Nat} (hw : WF a) (h : RosB a b t r j) (hc : c < nC a) (hj : j < nJ a) : RosB a (sentN b c j (sF b c 1)) (t ||| 2 ^ c) (r - sF a c 1 / 5) (j + 1) := by
  obtain ⟨h1, h2, h3, h4, h5, h6, h7, h8⟩ := h
  obtain ⟨k1, k2, k3, k4, k5, k6⟩ := sentN_k b c j (sF b c 1)
  obtain ⟨b1, b2, b3, b4, b5, b6, b7, b8, b9⟩ := h1.2.2.2.2.2.2.1 c (by omega)
  have e1 := h7 c hc 1 (by decide) (by decide)
  refine ⟨h1.sent (by omega) (by omega) b2 (by omega), k1.trans h2, k2.trans h3, k4.trans h4, by rw [k5, h5, e1], fun i hi f => ?_, fun c' hc' f f4 f6 => ?_, fun c' hc' => ?_⟩
  · rw [sentN_j, serv_o (by omega)]; exact h6 i (by omega) f
  · rw [sentN_s, up2_ns f6, up2_ns f4]; exact h7 c' hc' f f4 f6
  · have e4 : sF (sentN b c j (sF b c 1)) c' 4 = if c' = c then sF b c 1 else sF b c' 4 := by
      rw [sentN_s, up2_ns (by decide)]; unfold up2; by_cases e : c' = c <;> simp [e, SF]
    rw [e4, Nat.testBit_or, Nat.testBit_two_pow]
    by_cases e : c' = c
    · subst e
      rw [if_pos rfl]
      exact ⟨fun _ => b2, fun q => absurd (by simp) q⟩
    · rw [if_neg e]
      have hne : ¬ c = c' := fun q => e q.symm
      simp only [hne, decide_false, Bool.or_false]
      exact h8 c' hc'
theorem RosB.skip {a b : aA} {t r j : Nat} (h : RosB a b t r j) : RosB a b t r (j + 1) := ⟨h.1, h.2.1, h.2.2.1, h.2.2.2.1, h.2.2.2.2.1, fun i hi f => h.2.2.2.2.2.1 i (by omega) f, h.2.2.2.2.2.2⟩
abbrev pHb (a : aA) (e : Option (Nat × Nat)) (I : xF4 Int32) (L : xF4 Int64) : Option xV → xM → Prop := fun v M => (e = none ∧ v = some (vI (-4)) ∧ ∃ I', M = rM I' L ∧ FrR I I' ∧ SI I' a) ∨ ∃ q b, e = some q ∧ v = some (vI (nI (popN q.1))) ∧ q.1 < 32 ∧ q.2 ≤ 99 ∧ ∃ I', M = rM I' L ∧ FrR I I' ∧ SI I' a ∧ MI I' b ∧ cR b = q.2

theorem d_caseInS {I : xF4 Int32} {L : xF4 Int64} {a : aA} (hs : SI I a) (hw : WF a) {num j : Nat} (hnum : num ≤ 10000) (hj : j < nJ a) : Tri 1 109 m_X11_caseIn [vR 30 0 0, vI (nI num), vI (nI j)] (rM I L) (pI (nI (num / (nC a + 1) ^ (nJ a - 1 - j) % (nC a + 1))) I L) := by
  refine ⟨k_X11_caseIn, Nat.le_of_ble_eq_true rfl, ?_⟩
  show Wp _ _ _ 0 [some (vR 30 0 0), some (vI (nI num)), some (vI (nI j))] [] (rM I L) _
  obtain ⟨hJ, hC, hG, hD, hR, -⟩ := id hw
  have hpk := powK hw (nJ a - 1 - j) (by omega)
  have hpp := powK_pos a (nJ a - 1 - j)
  have hdv := Nat.div_le_self num ((nC a + 1) ^ (nJ a - 1 - j))
  refine w_iload_n dX11_caseIn_0 rfl ?_
  refine w_aload_n dX11_caseIn_1 rfl ?_
  refine w_aload_n dX11_caseIn_2 rfl ?_
  refine w_getI ff_X11_61 rfl rfl dX11_caseIn_3 ?_
  rw [show (I 30 0 0 4 : Int32) = nI (nC a) from hs.2.1]
  refine w_iconst (v := 1) dX11_caseIn_6 (by decide) ?_
  refine w_iadd dX11_caseIn_7 ?_
  rw [show ((nI (nC a)) + (1) : Int32) = nI ((nC a) + 1) from ar_add (p := nC a) (q := 1) rfl rfl (by omega)]
  refine w_aload_n dX11_caseIn_8 rfl ?_
  refine w_getI ff_X11_58 rfl rfl dX11_caseIn_9 ?_
  rw [show (I 30 0 0 3 : Int32) = nI (nJ a) from hs.1]
  refine w_iconst (v := 1) dX11_caseIn_12 (by decide) ?_
  refine w_isub dX11_caseIn_13 ?_
  rw [show ((nI (nJ a)) - (1) : Int32) = nI ((nJ a) - 1) from ar_sub (p := nJ a) (q := 1) rfl rfl (by omega) rfl]
  refine w_iload_n dX11_caseIn_14 rfl ?_
  refine w_isub dX11_caseIn_15 ?_
  rw [show ((nI ((nJ a) - 1)) - (nI j) : Int32) = nI (((nJ a) - 1) - j) from ar_sub (p := (nJ a) - 1) (q := j) rfl rfl (by omega) rfl]
  refine w_callV (as := [vI (nI ((nC a) + 1)), vI (nI (((nJ a) - 1) - j))]) (st := [vI (nI num)]) (Tri.mono (d_powerOf (b := nC a + 1) (n := nJ a - 1 - j) (by omega)) (Nat.le_of_ble_eq_true rfl)) rfl rfl tg_X11_powerOf lk_X11_239 in_X11_powerOf se_X11_powerOf rfl dX11_caseIn_16 rfl (Nat.le_of_ble_eq_true rfl) (Nat.le_refl _) (Nat.le_refl _) ?_
  rintro _ _ ⟨rfl, rfl⟩ -
  refine w_idiv dX11_caseIn_19 (nI_nz (by omega) (by omega)) ?_
  refine w_top (y := nI (num / (nC a + 1) ^ (nJ a - 1 - j))) (show ((nI num) / (nI ((nC a + 1) ^ (nJ a - 1 - j))) : Int32) = nI (num / (nC a + 1) ^ (nJ a - 1 - j)) from ar_div (p := num) (q := (nC a + 1) ^ (nJ a - 1 - j)) rfl rfl (by omega) (by omega) (by omega) rfl) ?_
  refine w_aload_n dX11_caseIn_20 rfl ?_
  refine w_getI ff_X11_61 rfl rfl dX11_caseIn_21 ?_
  rw [show (I 30 0 0 4 : Int32) = nI (nC a) from hs.2.1]
  refine w_iconst (v := 1) dX11_caseIn_24 (by decide) ?_
  refine w_iadd dX11_caseIn_25 ?_
  rw [show ((nI (nC a)) + (1) : Int32) = nI ((nC a) + 1) from ar_add (p := nC a) (q := 1) rfl rfl (by omega)]
  refine w_irem dX11_caseIn_26 (nI_nz (by omega) (by omega)) ?_
  refine w_top (y := nI ((num / (nC a + 1) ^ (nJ a - 1 - j)) % (nC a + 1))) (show ((nI (num / (nC a + 1) ^ (nJ a - 1 - j))) - (nI (num / (nC a + 1) ^ (nJ a - 1 - j))) / (nI ((nC a) + 1)) * (nI ((nC a) + 1)) : Int32) = nI ((num / (nC a + 1) ^ (nJ a - 1 - j)) % (nC a + 1)) from ar_rem (p := num / (nC a + 1) ^ (nJ a - 1 - j)) (q := nC a + 1) rfl rfl (by omega) (by omega) (by omega) rfl) ?_
  exact w_ireturn dX11_caseIn_27 rfl (rfl) rfl (⟨rfl, rfl⟩)

theorem l_hearsBy {L : xF4 Int64} {a : aA} (hw : WF a) {num : Nat} (hnum : num ≤ 10000) {I0 : xF4 Int32} : ∀ (m j t r : Nat) (b : aA) (I : xF4 Int32) (o4 : Option xV), j + m = nJ a → t < 32 → RosB a b t r j → MI I b → SI I a → FrR I0 I → Wp 3 109 m_X11_hearsBy 8 [some (vR 30 0 0), some (vI (nI num)), some (vI (nI (popN t))), some (vI (nI j)), o4] [] (rM I L) (pHb a (evN a num m t r) I0 L) := by
  intro m
  induction m with
  | zero =>
    intro j t r b I o4 hj ht hR8 hm hs hf
    have e : j = nJ a := by omega
    subst e
    obtain ⟨r1, r2, r3, r4, r5, r6, r7, r8⟩ := id hR8
    have hb99 := r1.2.2.2.2.1
    obtain ⟨hJ, hC, hG, hD, hR, -⟩ := id hw
    refine w_iload_n dX11_hearsBy_8 rfl ?_
    refine w_aload_n dX11_hearsBy_9 rfl ?_
    refine w_getI ff_X11_58 rfl rfl dX11_hearsBy_10 ?_
    rw [show (I 30 0 0 3 : Int32) = nI (nJ a) from hs.1]
    refine w_icmp_ge (tgt := 76) dX11_hearsBy_13 (by decide) (fun _ => ?_) (fun h => absurd (nI_le (Nat.le_refl _) (by omega)) h)
    refine w_iload_n dX11_hearsBy_76 rfl ?_
    exact w_ireturn dX11_hearsBy_77 rfl (rfl) rfl (Or.inr ⟨(t, r), b, rfl, rfl, ht, (by omega : r ≤ 99), I, rfl, hf, hs, hm, r5⟩)
  | succ m ih =>
    intro j t r b I o4 hj ht hR8 hm hs hf
    have hlt : j < nJ a := by omega
    obtain ⟨r1, r2, r3, r4, r5, r6, r7, r8⟩ := id hR8
    obtain ⟨hJ, hC, hG, hD, hR, -⟩ := id hw
    obtain ⟨c, hcE⟩ : ∃ c, c = num / (nC a + 1) ^ (nJ a - 1 - j) % (nC a + 1) := ⟨_, rfl⟩
    have hcK : c < nC a + 1 := by rw [hcE]; exact Nat.mod_lt _ (by omega)
    have hmj : nJ a - 1 - j = m := by omega
    have hjm : nJ a - (m + 1) = j := by omega
    rw [evN, ← hmj, ← hcE, hmj, hjm]
    refine w_iload_n dX11_hearsBy_8 rfl ?_
    refine w_aload_n dX11_hearsBy_9 rfl ?_
    refine w_getI ff_X11_58 rfl rfl dX11_hearsBy_10 ?_
    rw [show (I 30 0 0 3 : Int32) = nI (nJ a) from hs.1]
    refine w_icmp_ge (tgt := 76) dX11_hearsBy_13 (by decide) (fun h => absurd h (nI_ge hlt (by omega))) (fun _ => ?_)
    refine w_aload_n dX11_hearsBy_16 rfl ?_
    refine w_iload_n dX11_hearsBy_17 rfl ?_
    refine w_iload_n dX11_hearsBy_18 rfl ?_
    have hmI : MI I b := hm
    refine w_callV (as := [vI (nI num), vI (nI j)]) (st := []) (Tri.mono (d_caseInS hs hw (num := num) (j := j) hnum hlt) (Nat.le_of_ble_eq_true rfl)) rfl rfl tg_X11_caseIn lk_X11_242 in_X11_caseIn se_X11_caseIn rfl dX11_hearsBy_19 rfl (Nat.le_of_ble_eq_true rfl) (Nat.le_refl _) (Nat.le_refl _) ?_
    rintro _ _ ⟨rfl, rfl⟩ -
    refine w_top (y := nI c) (show (nI (num / (nC a + 1) ^ (nJ a - 1 - j) % (nC a + 1)) : Int32) = nI c from congrArg nI hcE.symm) ?_
    refine w_istore (ls' := [some (vR 30 0 0), some (vI (nI num)), some (vI (nI (popN t))), some (vI (nI j)), some (vI (nI c))]) dX11_hearsBy_22 rfl ?_
    refine w_iload dX11_hearsBy_24 rfl ?_
    refine w_aload_n dX11_hearsBy_26 rfl ?_
    refine w_getI ff_X11_61 rfl rfl dX11_hearsBy_27 ?_
    rw [show (I 30 0 0 4 : Int32) = nI (nC a) from hs.2.1]
    refine w_icmp_ge (tgt := 70) dX11_hearsBy_30 (by decide) (fun h1 => ?_) (fun h1 => ?_)
    · skip
      replace h1 : (nC a) ≤ (c) := (nI_leI (a := nC a) (b := c) (by omega) (by omega)).mp h1
      rw [if_neg (by omega)]
      refine w_iinc (v := nI (j + 1)) (ls' := [some (vR 30 0 0), some (vI (nI num)), some (vI (nI (popN t))), some (vI (nI (j + 1))), some (vI (nI c))]) dX11_hearsBy_70 rfl (nI_1 _) rfl ?_
      refine w_goto (tgt := 8) dX11_hearsBy_73 (by decide) ?_
      exact ih (j + 1) t r b I (some (vI (nI c))) (by omega) ht hR8.skip hm hs hf
    · skip
      replace h1 : ¬ ((nC a) ≤ (c)) := fun q => h1 ((nI_leI (a := nC a) (b := c) (by omega) (by omega)).mpr q)
      have hcc : c < nC a := by omega
      have hcb : c < nC b := by omega
      have hjb : j < nJ b := by omega
      obtain ⟨b1, b2, b3, b4, b5, b6, b7, b8, b9⟩ := r1.2.2.2.2.2.2.1 c hcb
      have hcan := hR8.can hcc
      rw [if_pos hcc]
      obtain ⟨pt1, pt2⟩ := popN_or t ht c (by omega)
      refine w_aload_n dX11_hearsBy_33 rfl ?_
      refine w_iload_n dX11_hearsBy_34 rfl ?_
      refine w_iload dX11_hearsBy_35 rfl ?_
      refine w_aload_n dX11_hearsBy_37 rfl ?_
      refine w_iload dX11_hearsBy_38 rfl ?_
      refine w_iconst (v := 1) dX11_hearsBy_40 (by decide) ?_
      refine w_callV (as := [vI (nI c), vI (1)]) (st := [vI (nI c), vI (nI j), vR 30 0 0]) (Tri.mono (d_ofCase hm (by omega) hcb (f := 1) (by decide) (by decide)) (Nat.le_of_ble_eq_true rfl)) rfl rfl tg_X11_ofCase lk_X11_145 in_X11_ofCase se_X11_ofCase rfl dX11_hearsBy_41 rfl (Nat.le_of_ble_eq_true rfl) (Nat.le_refl _) (Nat.le_refl _) ?_
      rintro _ _ ⟨rfl, rfl⟩ -
      refine w_callV (as := [vI (nI j), vI (nI c), vI (nI (sF b c 1))]) (st := []) (Tri.mono (d_canHear hm r1 (c := c) (j := j) (n := sF b c 1) hcb hjb (by omega)) (Nat.le_of_ble_eq_true rfl)) rfl rfl tg_X11_canHear lk_X11_165 in_X11_canHear se_X11_canHear rfl dX11_hearsBy_44 rfl (Nat.le_of_ble_eq_true rfl) (Nat.le_refl _) (Nat.le_refl _) ?_
      rintro _ _ ⟨rfl, rfl⟩ -
      refine w_ifne_b (tgt := 53) dX11_hearsBy_47 (by decide) (fun h2 => ?_) (fun h2 => ?_)
      · skip
        rw [if_pos (hcan.mp h2)]
        refine w_aload_n dX11_hearsBy_53 rfl ?_
        refine w_iload_n dX11_hearsBy_54 rfl ?_
        refine w_iload dX11_hearsBy_55 rfl ?_
        refine w_aload_n dX11_hearsBy_57 rfl ?_
        refine w_iload dX11_hearsBy_58 rfl ?_
        refine w_iconst (v := 1) dX11_hearsBy_60 (by decide) ?_
        refine w_callV (as := [vI (nI c), vI (1)]) (st := [vI (nI c), vI (nI j), vR 30 0 0]) (Tri.mono (d_ofCase hm (by omega) hcb (f := 1) (by decide) (by decide)) (Nat.le_of_ble_eq_true rfl)) rfl rfl tg_X11_ofCase lk_X11_145 in_X11_ofCase se_X11_ofCase rfl dX11_hearsBy_61 rfl (Nat.le_of_ble_eq_true rfl) (Nat.le_refl _) (Nat.le_refl _) ?_
        rintro _ _ ⟨rfl, rfl⟩ -
        refine w_callV (as := [vI (nI j), vI (nI c), vI (nI (sF b c 1))]) (st := []) (Tri.mono (d_sentences hm r1 (c := c) (j := j) (n := sF b c 1) hcb hjb (by omega) h2) (Nat.le_of_ble_eq_true rfl)) rfl rfl tg_X11_sentences lk_X11_174 in_X11_sentences se_X11_sentences rfl dX11_hearsBy_64 rfl (Nat.le_of_ble_eq_true rfl) (Nat.le_refl _) (Nat.le_refl _) ?_
        rintro v M9 ⟨rfl, I1, rfl, g1, g2⟩ -
        refine w_iinc (v := nI (popN (t ||| 2 ^ c))) (ls' := [some (vR 30 0 0), some (vI (nI num)), some (vI (nI (popN (t ||| 2 ^ c)))), some (vI (nI j)), some (vI (nI c))]) dX11_hearsBy_67 rfl (by rw [pt2 (okB_iff.mp (hcan.mp h2)).1]; exact nI_1 _) rfl ?_
        refine w_iinc (v := nI (j + 1)) (ls' := [some (vR 30 0 0), some (vI (nI num)), some (vI (nI (popN (t ||| 2 ^ c)))), some (vI (nI (j + 1))), some (vI (nI c))]) dX11_hearsBy_70 rfl (nI_1 _) rfl ?_
        refine w_goto (tgt := 8) dX11_hearsBy_73 (by decide) ?_
        exact ih (j + 1) (t ||| 2 ^ c) (r - sF a c 1 / 5) _ I1 (some (vI (nI c))) (by omega) pt1 (hR8.sent hw hcc hlt) g1 (g2.r.si hs) (hf.tr g2.r)
      · skip
        refine w_bipush (v := (-4)) dX11_hearsBy_50 (by decide) ?_
        rw [if_neg (fun q => h2 (hcan.mpr q))]
        exact w_ireturn dX11_hearsBy_52 rfl (rfl) rfl (Or.inl ⟨rfl, rfl, I, rfl, hf, hs⟩)

theorem d_hearsBy {I : xF4 Int32} {L : xF4 Int64} {a : aA} (hs : SI I a) (hw : WF a) {num : Nat} (hnum : num ≤ 10000) : Tri 3 109 m_X11_hearsBy [vR 30 0 0, vI (nI num)] (rM I L) (pHb a (evN a num (nJ a) 0 (cR a)) I L) := by
  refine ⟨k_X11_hearsBy, Nat.le_of_ble_eq_true rfl, ?_⟩
  show Wp _ _ _ 0 [some (vR 30 0 0), some (vI (nI num)), none, none, none] [] (rM I L) _
  obtain ⟨hJ, hC, hG, hD, hR, -⟩ := id hw
  refine w_iconst (v := 0) dX11_hearsBy_0 (by decide) ?_
  refine w_istore_n (ls' := [some (vR 30 0 0), some (vI (nI num)), some (vI (0)), none, none]) dX11_hearsBy_1 rfl ?_
  refine w_aload_n dX11_hearsBy_2 rfl ?_
  refine w_callV (as := []) (st := []) (Tri.mono (d_starts hs hw) (Nat.le_of_ble_eq_true rfl)) rfl rfl tg_X11_starts lk_X11_192 in_X11_starts se_X11_starts rfl dX11_hearsBy_3 rfl (Nat.le_of_ble_eq_true rfl) (Nat.le_refl _) (Nat.le_refl _) ?_
  rintro v M9 ⟨rfl, I1, rfl, hm1, hi1, hf1⟩ -
  have hs1 := hf1.r.si hs
  refine w_iconst (v := 0) dX11_hearsBy_6 (by decide) ?_
  refine w_istore_n (ls' := [some (vR 30 0 0), some (vI (nI num)), some (vI (0)), some (vI (0)), none]) dX11_hearsBy_7 rfl ?_
  exact l_hearsBy hw hnum (nJ a) 0 0 (cR a) a I1 none (Nat.zero_add _) (by decide) ⟨hw, rfl, rfl, rfl, rfl, fun _ _ _ => rfl, fun _ _ _ _ _ => rfl, fun c hc => ⟨fun q => (by rw [Nat.zero_testBit] at q; cases q), fun _ => rfl⟩⟩ hm1 hs1 hf1.r

def bmI : Option (Nat × (Nat × Nat)) → Int32
  | none => -1
  | some b => nI b.1
def blI : Option (Nat × (Nat × Nat)) → Int32
  | none => 1000000
  | some b => nI b.2.1
def bkI : Option (Nat × (Nat × Nat)) → Int32
  | none => 0
  | some b => nI b.2.2
def BOk (K : Nat) (B : Option (Nat × (Nat × Nat))) : Prop := ∀ b, B = some b → b.1 ≤ 5 ∧ b.2.1 ≤ 99 ∧ b.2.2 < K

set_option maxHeartbeats 1000000 in
theorem l_bestM {L : xF4 Int64} {a : aA} (hw : WF a) {what : Int32} {I0 : xF4 Int32} {Q : Option xV → xM → Prop} : ∀ (n k : Nat) (I : xF4 Int32) (o6 o7 : Option xV), k + n = ((nC a + 1) ^ nJ a) → SI I a → FrR I0 I → BOk k (fldG a (nJ a) 0 (cR a) 0 k none) → (∀ (I : xF4 Int32) (o6 o7 : Option xV), SI I a → FrR I0 I → BOk ((nC a + 1) ^ nJ a) (fldG a (nJ a) 0 (cR a) 0 ((nC a + 1) ^ nJ a) none) → Wp 18 109 m_X11_best 137 [some (vR 30 0 0), some (vI what), some (vI (bmI (fldG a (nJ a) 0 (cR a) 0 ((nC a + 1) ^ nJ a) none))), some (vI (blI (fldG a (nJ a) 0 (cR a) 0 ((nC a + 1) ^ nJ a) none))), some (vI (bkI (fldG a (nJ a) 0 (cR a) 0 ((nC a + 1) ^ nJ a) none))), some (vI (nI ((nC a + 1) ^ nJ a))), o6, o7] [] (rM I L) Q) → Wp 18 109 m_X11_best 31 [some (vR 30 0 0), some (vI what), some (vI (bmI (fldG a (nJ a) 0 (cR a) 0 k none))), some (vI (blI (fldG a (nJ a) 0 (cR a) 0 k none))), some (vI (bkI (fldG a (nJ a) 0 (cR a) 0 k none))), some (vI (nI k)), o6, o7] [] (rM I L) Q := by
  intro n
  induction n with
  | zero =>
    intro k I o6 o7 hk9 hs hf hB hq
    have e : k = (nC a + 1) ^ nJ a := by omega
    have hpk := powK hw (nJ a) hw.1
    obtain ⟨hJ, hC, hG, hD, hR, -⟩ := id hw
    subst e
    refine w_iload dX11_best_31 rfl ?_
    refine w_aload_n dX11_best_33 rfl ?_
    refine w_aload_n dX11_best_34 rfl ?_
    refine w_getI ff_X11_61 rfl rfl dX11_best_35 ?_
    rw [show (I 30 0 0 4 : Int32) = nI (nC a) from hs.2.1]
    refine w_iconst (v := 1) dX11_best_38 (by decide) ?_
    refine w_iadd dX11_best_39 ?_
    rw [show ((nI (nC a)) + (1) : Int32) = nI ((nC a) + 1) from ar_add (p := nC a) (q := 1) rfl rfl (by omega)]
    refine w_aload_n dX11_best_40 rfl ?_
    refine w_getI ff_X11_58 rfl rfl dX11_best_41 ?_
    rw [show (I 30 0 0 3 : Int32) = nI (nJ a) from hs.1]
    refine w_callV (as := [vI (nI ((nC a) + 1)), vI (nI (nJ a))]) (st := [vI (nI ((nC a + 1) ^ nJ a))]) (Tri.mono (d_powerOf (b := nC a + 1) (n := nJ a) (by omega)) (Nat.le_of_ble_eq_true rfl)) rfl rfl tg_X11_powerOf lk_X11_239 in_X11_powerOf se_X11_powerOf rfl dX11_best_44 rfl (Nat.le_of_ble_eq_true rfl) (Nat.le_refl _) (Nat.le_refl _) ?_
    rintro _ _ ⟨rfl, rfl⟩ -
    refine w_icmp_ge (tgt := 137) dX11_best_47 (by decide) (fun _ => ?_) (fun h => absurd (nI_le (Nat.le_refl _) (by omega)) h)
    exact hq I _ _ hs hf hB
  | succ n ih =>
    intro k I o6 o7 hk9 hs hf hB hq
    have hlt : k < ((nC a + 1) ^ nJ a) := by omega
    have hpk := powK hw (nJ a) hw.1
    obtain ⟨hJ, hC, hG, hD, hR, -⟩ := id hw
    have hstep : fldG a (nJ a) 0 (cR a) 0 (k + 1) none = upB (evN a k (nJ a) 0 (cR a)) k (fldG a (nJ a) 0 (cR a) 0 k none) := by rw [fldG, Nat.zero_add]
    obtain ⟨B, hBE⟩ : ∃ B, B = (fldG a (nJ a) 0 (cR a) 0 k none) := ⟨_, rfl⟩
    rw [← hBE] at hstep hB ⊢
    refine w_iload dX11_best_31 rfl ?_
    refine w_aload_n dX11_best_33 rfl ?_
    refine w_aload_n dX11_best_34 rfl ?_
    refine w_getI ff_X11_61 rfl rfl dX11_best_35 ?_
    rw [show (I 30 0 0 4 : Int32) = nI (nC a) from hs.2.1]
    refine w_iconst (v := 1) dX11_best_38 (by decide) ?_
    refine w_iadd dX11_best_39 ?_
    rw [show ((nI (nC a)) + (1) : Int32) = nI ((nC a) + 1) from ar_add (p := nC a) (q := 1) rfl rfl (by omega)]
    refine w_aload_n dX11_best_40 rfl ?_
    refine w_getI ff_X11_58 rfl rfl dX11_best_41 ?_
    rw [show (I 30 0 0 3 : Int32) = nI (nJ a) from hs.1]
    refine w_callV (as := [vI (nI ((nC a) + 1)), vI (nI (nJ a))]) (st := [vI (nI k)]) (Tri.mono (d_powerOf (b := nC a + 1) (n := nJ a) (by omega)) (Nat.le_of_ble_eq_true rfl)) rfl rfl tg_X11_powerOf lk_X11_239 in_X11_powerOf se_X11_powerOf rfl dX11_best_44 rfl (Nat.le_of_ble_eq_true rfl) (Nat.le_refl _) (Nat.le_refl _) ?_
    rintro _ _ ⟨rfl, rfl⟩ -
    refine w_icmp_ge (tgt := 137) dX11_best_47 (by decide) (fun h => absurd h (nI_ge hlt (by omega))) (fun _ => ?_)
    refine w_aload_n dX11_best_50 rfl ?_
    refine w_iload dX11_best_51 rfl ?_
    refine w_callV (as := [vI (nI k)]) (st := []) (Tri.mono (d_hearsBy hs hw (num := k) (by omega)) (Nat.le_of_ble_eq_true rfl)) rfl rfl tg_X11_hearsBy lk_X11_249 in_X11_hearsBy se_X11_hearsBy rfl dX11_best_53 rfl (Nat.le_of_ble_eq_true rfl) (Nat.le_refl _) (Nat.le_refl _) ?_
    rintro v M9 (⟨he, rfl, I1, rfl, f1, hs1⟩ | ⟨q, b, he, rfl, hq1, hq2, I1, rfl, f1, hs1, hm1, hcb⟩) -
    · skip
      rw [he] at hstep
      have hstep2 : (fldG a (nJ a) 0 (cR a) 0 (k + 1) none) = B := hstep
      cases B with
      | none =>
        rw [show bmI (none) = (-1) from rfl]
        refine w_istore (ls' := [some (vR 30 0 0), some (vI (what)), some (vI ((-1))), some (vI (blI none)), some (vI (bkI none)), some (vI (nI k)), some (vI ((-4))), o7]) dX11_best_56 rfl ?_
        refine w_iload dX11_best_58 rfl ?_
        refine w_iload_n dX11_best_60 rfl ?_
        refine w_icmp_gt (tgt := 81) dX11_best_61 (by decide) (fun h => absurd h (by decide)) (fun _ => ?_)
        refine w_iload dX11_best_64 rfl ?_
        refine w_iload_n dX11_best_66 rfl ?_
        refine w_icmp_ne (tgt := 85) dX11_best_67 (by decide) (fun _ => ?_) (fun h => absurd h (by decide))
        refine w_iconst (v := 0) dX11_best_85 (by decide) ?_
        refine w_istore (ls' := [some (vR 30 0 0), some (vI (what)), some (vI ((-1))), some (vI (blI none)), some (vI (bkI none)), some (vI (nI k)), some (vI ((-4))), some (vI (0))]) dX11_best_86 rfl ?_
        refine w_iload dX11_best_88 rfl ?_
        refine w_if_eq (tgt := 98) dX11_best_90 (by decide) (fun _ => ?_) (fun h => absurd (by decide) h)
        refine w_iload dX11_best_98 rfl ?_
        refine w_istore (ls' := [some (vR 30 0 0), some (vI (what)), some (vI ((-1))), some (vI (blI none)), some (vI (bkI none)), some (vI (nI k)), some (vI ((-4))), some (vI (0))]) dX11_best_100 rfl ?_
        refine w_iload dX11_best_102 rfl ?_
        refine w_if_eq (tgt := 117) dX11_best_104 (by decide) (fun _ => ?_) (fun h => absurd (by decide) h)
        refine w_iload_n dX11_best_117 rfl ?_
        refine w_istore_n (ls' := [some (vR 30 0 0), some (vI (what)), some (vI ((-1))), some (vI (blI none)), some (vI (bkI none)), some (vI (nI k)), some (vI ((-4))), some (vI (0))]) dX11_best_118 rfl ?_
        refine w_iload dX11_best_119 rfl ?_
        refine w_if_eq (tgt := 129) dX11_best_121 (by decide) (fun _ => ?_) (fun h => absurd (by decide) h)
        refine w_iload_n dX11_best_129 rfl ?_
        refine w_istore_n (ls' := [some (vR 30 0 0), some (vI (what)), some (vI ((-1))), some (vI (blI none)), some (vI (bkI none)), some (vI (nI k)), some (vI ((-4))), some (vI (0))]) dX11_best_130 rfl ?_
        refine w_iinc (v := nI (k + 1)) (ls' := [some (vR 30 0 0), some (vI (what)), some (vI ((-1))), some (vI (blI none)), some (vI (bkI none)), some (vI (nI (k + 1))), some (vI ((-4))), some (vI (0))]) dX11_best_131 rfl (nI_1 _) rfl ?_
        refine w_goto (tgt := 31) dX11_best_134 (by decide) ?_
        have hx := ih (k + 1) I1 (some (vI ((-4)))) (some (vI (0))) (by omega) hs1 (hf.tr f1) (by rw [hstep2]; exact fun b9 h9 => by have := hB b9 h9; omega) hq
        rw [hstep2] at hx
        exact hx
      | some b =>
        obtain ⟨y1, y2, y3⟩ := hB b rfl
        rw [show bmI (some b) = nI b.1 from rfl]
        refine w_istore (ls' := [some (vR 30 0 0), some (vI (what)), some (vI (nI b.1)), some (vI (blI (some b))), some (vI (bkI (some b))), some (vI (nI k)), some (vI ((-4))), o7]) dX11_best_56 rfl ?_
        refine w_iload dX11_best_58 rfl ?_
        refine w_iload_n dX11_best_60 rfl ?_
        refine w_icmp_gt (tgt := 81) dX11_best_61 (by decide) (fun h1 => ?_) (fun h1 => ?_)
        · skip
          replace h1 : ((b.1 : Nat) : Int) < (-4) := (zlt (z_nI (by omega)) (by decide)).mp h1
          first
          | (exfalso; omega)
          | skip
            refine w_iconst (v := 1) dX11_best_81 (by decide) ?_
            refine w_goto (tgt := 86) dX11_best_82 (by decide) ?_
            refine w_istore (ls' := [some (vR 30 0 0), some (vI (what)), some (vI (nI b.1)), some (vI (blI (some b))), some (vI (bkI (some b))), some (vI (nI k)), some (vI ((-4))), some (vI (1))]) dX11_best_86 rfl ?_
            refine w_iload dX11_best_88 rfl ?_
            refine w_if_eq (tgt := 98) dX11_best_90 (by decide) (fun h => absurd h (by decide)) (fun _ => ?_)
            refine w_iload dX11_best_93 rfl ?_
            refine w_goto (tgt := 100) dX11_best_95 (by decide) ?_
            refine w_istore (ls' := [some (vR 30 0 0), some (vI (what)), some (vI (nI b.1)), some (vI (blI (some b))), some (vI (nI k)), some (vI (nI k)), some (vI ((-4))), some (vI (1))]) dX11_best_100 rfl ?_
            refine w_iload dX11_best_102 rfl ?_
            refine w_if_eq (tgt := 117) dX11_best_104 (by decide) (fun h => absurd h (by decide)) (fun _ => ?_)
            refine w_aload_n dX11_best_107 rfl ?_
            refine w_getR (w := some (32, 0, 0)) ff_X11_13 rfl rfl dX11_best_108 rfl ?_
            refine w_bipush (v := 56) dX11_best_111 (by decide) ?_
            refine w_iaload (a := 56) rfl (vp_in_nI (n := 56) (by omega) (by omega)) (nI_clamp (n := 56) (by omega)) dX11_best_113 ?_
            refine w_goto (tgt := 118) dX11_best_114 (by decide) ?_
            refine w_istore_n (ls' := [some (vR 30 0 0), some (vI (what)), some (vI (nI b.1)), some (vI (I1 32 0 0 (56))), some (vI (nI k)), some (vI (nI k)), some (vI ((-4))), some (vI (1))]) dX11_best_118 rfl ?_
            refine w_iload dX11_best_119 rfl ?_
            refine w_if_eq (tgt := 129) dX11_best_121 (by decide) (fun h => absurd h (by decide)) (fun _ => ?_)
            refine w_iload dX11_best_124 rfl ?_
            refine w_goto (tgt := 130) dX11_best_126 (by decide) ?_
            refine w_istore_n (ls' := [some (vR 30 0 0), some (vI (what)), some (vI ((-4))), some (vI (I1 32 0 0 (56))), some (vI (nI k)), some (vI (nI k)), some (vI ((-4))), some (vI (1))]) dX11_best_130 rfl ?_
            refine w_iinc (v := nI (k + 1)) (ls' := [some (vR 30 0 0), some (vI (what)), some (vI ((-4))), some (vI (I1 32 0 0 (56))), some (vI (nI k)), some (vI (nI (k + 1))), some (vI ((-4))), some (vI (1))]) dX11_best_131 rfl (nI_1 _) rfl ?_
            refine w_goto (tgt := 31) dX11_best_134 (by decide) ?_
            have hx := ih (k + 1) I1 (some (vI ((-4)))) (some (vI (1))) (by omega) hs1 (hf.tr f1) (by rw [hstep2]; exact fun b9 h9 => by have := hB b9 h9; omega) hq
            rw [hstep2] at hx
            exact hx
        · skip
          replace h1 : ¬ (((b.1 : Nat) : Int) < (-4)) := fun q => h1 ((zlt (z_nI (by omega)) (by decide)).mpr q)
          first
          | (exfalso; omega)
          | skip
            refine w_iload dX11_best_64 rfl ?_
            refine w_iload_n dX11_best_66 rfl ?_
            refine w_icmp_ne (tgt := 85) dX11_best_67 (by decide) (fun h2 => ?_) (fun h2 => ?_)
            · skip
              replace h2 : ¬ ((-4) = ((b.1 : Nat) : Int)) := fun q => h2 ((zeq (by decide) (z_nI (by omega))).mpr q)
              first
              | (exfalso; omega)
              | skip
                refine w_iconst (v := 0) dX11_best_85 (by decide) ?_
                refine w_istore (ls' := [some (vR 30 0 0), some (vI (what)), some (vI (nI b.1)), some (vI (blI (some b))), some (vI (bkI (some b))), some (vI (nI k)), some (vI ((-4))), some (vI (0))]) dX11_best_86 rfl ?_
                refine w_iload dX11_best_88 rfl ?_
                refine w_if_eq (tgt := 98) dX11_best_90 (by decide) (fun _ => ?_) (fun h => absurd (by decide) h)
                refine w_iload dX11_best_98 rfl ?_
                refine w_istore (ls' := [some (vR 30 0 0), some (vI (what)), some (vI (nI b.1)), some (vI (blI (some b))), some (vI (bkI (some b))), some (vI (nI k)), some (vI ((-4))), some (vI (0))]) dX11_best_100 rfl ?_
                refine w_iload dX11_best_102 rfl ?_
                refine w_if_eq (tgt := 117) dX11_best_104 (by decide) (fun _ => ?_) (fun h => absurd (by decide) h)
                refine w_iload_n dX11_best_117 rfl ?_
                refine w_istore_n (ls' := [some (vR 30 0 0), some (vI (what)), some (vI (nI b.1)), some (vI (blI (some b))), some (vI (bkI (some b))), some (vI (nI k)), some (vI ((-4))), some (vI (0))]) dX11_best_118 rfl ?_
                refine w_iload dX11_best_119 rfl ?_
                refine w_if_eq (tgt := 129) dX11_best_121 (by decide) (fun _ => ?_) (fun h => absurd (by decide) h)
                refine w_iload_n dX11_best_129 rfl ?_
                refine w_istore_n (ls' := [some (vR 30 0 0), some (vI (what)), some (vI (nI b.1)), some (vI (blI (some b))), some (vI (bkI (some b))), some (vI (nI k)), some (vI ((-4))), some (vI (0))]) dX11_best_130 rfl ?_
                refine w_iinc (v := nI (k + 1)) (ls' := [some (vR 30 0 0), some (vI (what)), some (vI (nI b.1)), some (vI (blI (some b))), some (vI (bkI (some b))), some (vI (nI (k + 1))), some (vI ((-4))), some (vI (0))]) dX11_best_131 rfl (nI_1 _) rfl ?_
                refine w_goto (tgt := 31) dX11_best_134 (by decide) ?_
                have hx := ih (k + 1) I1 (some (vI ((-4)))) (some (vI (0))) (by omega) hs1 (hf.tr f1) (by rw [hstep2]; exact fun b9 h9 => by have := hB b9 h9; omega) hq
                rw [hstep2] at hx
                exact hx
            · skip
              replace h2 : (-4) = ((b.1 : Nat) : Int) := (zeq (by decide) (z_nI (by omega))).mp h2
              first
              | (exfalso; omega)
              | skip
                refine w_aload_n dX11_best_70 rfl ?_
                refine w_getR (w := some (32, 0, 0)) ff_X11_13 rfl rfl dX11_best_71 rfl ?_
                refine w_bipush (v := 56) dX11_best_74 (by decide) ?_
                refine w_iaload (a := 56) rfl (vp_in_nI (n := 56) (by omega) (by omega)) (nI_clamp (n := 56) (by omega)) dX11_best_76 ?_
                refine w_iload_n dX11_best_77 rfl ?_
                refine w_icmp_ge (tgt := 85) dX11_best_78 (by decide) (fun h3 => ?_) (fun h3 => ?_)
                · skip
                  first
                  | (exfalso; omega)
                  | skip
                    refine w_iconst (v := 0) dX11_best_85 (by decide) ?_
                    refine w_istore (ls' := [some (vR 30 0 0), some (vI (what)), some (vI (nI b.1)), some (vI (blI (some b))), some (vI (bkI (some b))), some (vI (nI k)), some (vI ((-4))), some (vI (0))]) dX11_best_86 rfl ?_
                    refine w_iload dX11_best_88 rfl ?_
                    refine w_if_eq (tgt := 98) dX11_best_90 (by decide) (fun _ => ?_) (fun h => absurd (by decide) h)
                    refine w_iload dX11_best_98 rfl ?_
                    refine w_istore (ls' := [some (vR 30 0 0), some (vI (what)), some (vI (nI b.1)), some (vI (blI (some b))), some (vI (bkI (some b))), some (vI (nI k)), some (vI ((-4))), some (vI (0))]) dX11_best_100 rfl ?_
                    refine w_iload dX11_best_102 rfl ?_
                    refine w_if_eq (tgt := 117) dX11_best_104 (by decide) (fun _ => ?_) (fun h => absurd (by decide) h)
                    refine w_iload_n dX11_best_117 rfl ?_
                    refine w_istore_n (ls' := [some (vR 30 0 0), some (vI (what)), some (vI (nI b.1)), some (vI (blI (some b))), some (vI (bkI (some b))), some (vI (nI k)), some (vI ((-4))), some (vI (0))]) dX11_best_118 rfl ?_
                    refine w_iload dX11_best_119 rfl ?_
                    refine w_if_eq (tgt := 129) dX11_best_121 (by decide) (fun _ => ?_) (fun h => absurd (by decide) h)
                    refine w_iload_n dX11_best_129 rfl ?_
                    refine w_istore_n (ls' := [some (vR 30 0 0), some (vI (what)), some (vI (nI b.1)), some (vI (blI (some b))), some (vI (bkI (some b))), some (vI (nI k)), some (vI ((-4))), some (vI (0))]) dX11_best_130 rfl ?_
                    refine w_iinc (v := nI (k + 1)) (ls' := [some (vR 30 0 0), some (vI (what)), some (vI (nI b.1)), some (vI (blI (some b))), some (vI (bkI (some b))), some (vI (nI (k + 1))), some (vI ((-4))), some (vI (0))]) dX11_best_131 rfl (nI_1 _) rfl ?_
                    refine w_goto (tgt := 31) dX11_best_134 (by decide) ?_
                    have hx := ih (k + 1) I1 (some (vI ((-4)))) (some (vI (0))) (by omega) hs1 (hf.tr f1) (by rw [hstep2]; exact fun b9 h9 => by have := hB b9 h9; omega) hq
                    rw [hstep2] at hx
                    exact hx
                · skip
                  first
                  | (exfalso; omega)
                  | skip
                    refine w_iconst (v := 1) dX11_best_81 (by decide) ?_
                    refine w_goto (tgt := 86) dX11_best_82 (by decide) ?_
                    refine w_istore (ls' := [some (vR 30 0 0), some (vI (what)), some (vI (nI b.1)), some (vI (blI (some b))), some (vI (bkI (some b))), some (vI (nI k)), some (vI ((-4))), some (vI (1))]) dX11_best_86 rfl ?_
                    refine w_iload dX11_best_88 rfl ?_
                    refine w_if_eq (tgt := 98) dX11_best_90 (by decide) (fun h => absurd h (by decide)) (fun _ => ?_)
                    refine w_iload dX11_best_93 rfl ?_
                    refine w_goto (tgt := 100) dX11_best_95 (by decide) ?_
                    refine w_istore (ls' := [some (vR 30 0 0), some (vI (what)), some (vI (nI b.1)), some (vI (blI (some b))), some (vI (nI k)), some (vI (nI k)), some (vI ((-4))), some (vI (1))]) dX11_best_100 rfl ?_
                    refine w_iload dX11_best_102 rfl ?_
                    refine w_if_eq (tgt := 117) dX11_best_104 (by decide) (fun h => absurd h (by decide)) (fun _ => ?_)
                    refine w_aload_n dX11_best_107 rfl ?_
                    refine w_getR (w := some (32, 0, 0)) ff_X11_13 rfl rfl dX11_best_108 rfl ?_
                    refine w_bipush (v := 56) dX11_best_111 (by decide) ?_
                    refine w_iaload (a := 56) rfl (vp_in_nI (n := 56) (by omega) (by omega)) (nI_clamp (n := 56) (by omega)) dX11_best_113 ?_
                    refine w_goto (tgt := 118) dX11_best_114 (by decide) ?_
                    refine w_istore_n (ls' := [some (vR 30 0 0), some (vI (what)), some (vI (nI b.1)), some (vI (I1 32 0 0 (56))), some (vI (nI k)), some (vI (nI k)), some (vI ((-4))), some (vI (1))]) dX11_best_118 rfl ?_
                    refine w_iload dX11_best_119 rfl ?_
                    refine w_if_eq (tgt := 129) dX11_best_121 (by decide) (fun h => absurd h (by decide)) (fun _ => ?_)
                    refine w_iload dX11_best_124 rfl ?_
                    refine w_goto (tgt := 130) dX11_best_126 (by decide) ?_
                    refine w_istore_n (ls' := [some (vR 30 0 0), some (vI (what)), some (vI ((-4))), some (vI (I1 32 0 0 (56))), some (vI (nI k)), some (vI (nI k)), some (vI ((-4))), some (vI (1))]) dX11_best_130 rfl ?_
                    refine w_iinc (v := nI (k + 1)) (ls' := [some (vR 30 0 0), some (vI (what)), some (vI ((-4))), some (vI (I1 32 0 0 (56))), some (vI (nI k)), some (vI (nI (k + 1))), some (vI ((-4))), some (vI (1))]) dX11_best_131 rfl (nI_1 _) rfl ?_
                    refine w_goto (tgt := 31) dX11_best_134 (by decide) ?_
                    have hx := ih (k + 1) I1 (some (vI ((-4)))) (some (vI (1))) (by omega) hs1 (hf.tr f1) (by rw [hstep2]; exact fun b9 h9 => by have := hB b9 h9; omega) hq
                    rw [hstep2] at hx
                    exact hx
    · skip
      have hp5 := popN_lt q.1 hq1
      rw [he] at hstep
      have hstep2 : (fldG a (nJ a) 0 (cR a) 0 (k + 1) none) = upB1 q.1 q.2 k B := hstep
      cases B with
      | none =>
        rw [show bmI none = (-1) from rfl, show blI none = 1000000 from rfl, show bkI none = 0 from rfl]
        refine w_istore (ls' := [some (vR 30 0 0), some (vI (what)), some (vI ((-1))), some (vI (1000000)), some (vI (0)), some (vI (nI k)), some (vI (nI (popN q.1))), o7]) dX11_best_56 rfl ?_
        refine w_iload dX11_best_58 rfl ?_
        refine w_iload_n dX11_best_60 rfl ?_
        refine w_icmp_gt (tgt := 81) dX11_best_61 (by decide) (fun h1 => ?_) (fun h1 => ?_)
        · skip
          replace h1 : (-1) < ((popN q.1 : Nat) : Int) := (zlt (by decide) (z_nI (by omega))).mp h1
          first
          | (exfalso; omega)
          | skip
            refine w_iconst (v := 1) dX11_best_81 (by decide) ?_
            refine w_goto (tgt := 86) dX11_best_82 (by decide) ?_
            refine w_istore (ls' := [some (vR 30 0 0), some (vI (what)), some (vI ((-1))), some (vI (1000000)), some (vI (0)), some (vI (nI k)), some (vI (nI (popN q.1))), some (vI (1))]) dX11_best_86 rfl ?_
            refine w_iload dX11_best_88 rfl ?_
            refine w_if_eq (tgt := 98) dX11_best_90 (by decide) (fun h => absurd h (by decide)) (fun _ => ?_)
            refine w_iload dX11_best_93 rfl ?_
            refine w_goto (tgt := 100) dX11_best_95 (by decide) ?_
            refine w_istore (ls' := [some (vR 30 0 0), some (vI (what)), some (vI ((-1))), some (vI (1000000)), some (vI (nI k)), some (vI (nI k)), some (vI (nI (popN q.1))), some (vI (1))]) dX11_best_100 rfl ?_
            refine w_iload dX11_best_102 rfl ?_
            refine w_if_eq (tgt := 117) dX11_best_104 (by decide) (fun h => absurd h (by decide)) (fun _ => ?_)
            refine w_aload_n dX11_best_107 rfl ?_
            refine w_getR (w := some (32, 0, 0)) ff_X11_13 rfl rfl dX11_best_108 rfl ?_
            refine w_bipush (v := 56) dX11_best_111 (by decide) ?_
            refine w_iaload (a := 56) rfl (vp_in_nI (n := 56) (by omega) (by omega)) (nI_clamp (n := 56) (by omega)) dX11_best_113 ?_
            rw [show (I1 32 0 0 (56) : Int32) = nI q.2 from (hm1.2.2.cr rfl).trans (congrArg nI hcb)]
            refine w_goto (tgt := 118) dX11_best_114 (by decide) ?_
            refine w_istore_n (ls' := [some (vR 30 0 0), some (vI (what)), some (vI ((-1))), some (vI (nI q.2)), some (vI (nI k)), some (vI (nI k)), some (vI (nI (popN q.1))), some (vI (1))]) dX11_best_118 rfl ?_
            refine w_iload dX11_best_119 rfl ?_
            refine w_if_eq (tgt := 129) dX11_best_121 (by decide) (fun h => absurd h (by decide)) (fun _ => ?_)
            refine w_iload dX11_best_124 rfl ?_
            refine w_goto (tgt := 130) dX11_best_126 (by decide) ?_
            refine w_istore_n (ls' := [some (vR 30 0 0), some (vI (what)), some (vI (nI (popN q.1))), some (vI (nI q.2)), some (vI (nI k)), some (vI (nI k)), some (vI (nI (popN q.1))), some (vI (1))]) dX11_best_130 rfl ?_
            have hstep3 : (fldG a (nJ a) 0 (cR a) 0 (k + 1) none) = some (popN q.1, (q.2, k)) := by rw [hstep2]; rfl
            refine w_iinc (v := nI (k + 1)) (ls' := [some (vR 30 0 0), some (vI (what)), some (vI (nI (popN q.1))), some (vI (nI q.2)), some (vI (nI k)), some (vI (nI (k + 1))), some (vI (nI (popN q.1))), some (vI (1))]) dX11_best_131 rfl (nI_1 _) rfl ?_
            refine w_goto (tgt := 31) dX11_best_134 (by decide) ?_
            have hx := ih (k + 1) I1 (some (vI (nI (popN q.1)))) (some (vI (1))) (by omega) hs1 (hf.tr f1) (by rw [hstep3]; exact fun b8 h8 => by cases h8; exact ⟨hp5, hq2, Nat.lt_succ_self _⟩) hq
            rw [hstep3] at hx
            exact hx
        · skip
          replace h1 : ¬ ((-1) < ((popN q.1 : Nat) : Int)) := fun q => h1 ((zlt (by decide) (z_nI (by omega))).mpr q)
          first
          | (exfalso; omega)
          | skip
            refine w_iload dX11_best_64 rfl ?_
            refine w_iload_n dX11_best_66 rfl ?_
            refine w_icmp_ne (tgt := 85) dX11_best_67 (by decide) (fun h2 => ?_) (fun h2 => ?_)
            · skip
              replace h2 : ¬ (((popN q.1 : Nat) : Int) = (-1)) := fun q => h2 ((zeq (z_nI (by omega)) (by decide)).mpr q)
              first
              | (exfalso; omega)
              | skip
                refine w_iconst (v := 0) dX11_best_85 (by decide) ?_
                refine w_istore (ls' := [some (vR 30 0 0), some (vI (what)), some (vI ((-1))), some (vI (1000000)), some (vI (0)), some (vI (nI k)), some (vI (nI (popN q.1))), some (vI (0))]) dX11_best_86 rfl ?_
                refine w_iload dX11_best_88 rfl ?_
                refine w_if_eq (tgt := 98) dX11_best_90 (by decide) (fun _ => ?_) (fun h => absurd (by decide) h)
                refine w_iload dX11_best_98 rfl ?_
                refine w_istore (ls' := [some (vR 30 0 0), some (vI (what)), some (vI ((-1))), some (vI (1000000)), some (vI (0)), some (vI (nI k)), some (vI (nI (popN q.1))), some (vI (0))]) dX11_best_100 rfl ?_
                refine w_iload dX11_best_102 rfl ?_
                refine w_if_eq (tgt := 117) dX11_best_104 (by decide) (fun _ => ?_) (fun h => absurd (by decide) h)
                refine w_iload_n dX11_best_117 rfl ?_
                refine w_istore_n (ls' := [some (vR 30 0 0), some (vI (what)), some (vI ((-1))), some (vI (1000000)), some (vI (0)), some (vI (nI k)), some (vI (nI (popN q.1))), some (vI (0))]) dX11_best_118 rfl ?_
                refine w_iload dX11_best_119 rfl ?_
                refine w_if_eq (tgt := 129) dX11_best_121 (by decide) (fun _ => ?_) (fun h => absurd (by decide) h)
                refine w_iload_n dX11_best_129 rfl ?_
                refine w_istore_n (ls' := [some (vR 30 0 0), some (vI (what)), some (vI ((-1))), some (vI (1000000)), some (vI (0)), some (vI (nI k)), some (vI (nI (popN q.1))), some (vI (0))]) dX11_best_130 rfl ?_
                have hstep3 : (fldG a (nJ a) 0 (cR a) 0 (k + 1) none) = some b9 := by rw [hstep2]; rfl
                refine w_iinc (v := nI (k + 1)) (ls' := [some (vR 30 0 0), some (vI (what)), some (vI ((-1))), some (vI (1000000)), some (vI (0)), some (vI (nI (k + 1))), some (vI (nI (popN q.1))), some (vI (0))]) dX11_best_131 rfl (nI_1 _) rfl ?_
                refine w_goto (tgt := 31) dX11_best_134 (by decide) ?_
                have hx := ih (k + 1) I1 (some (vI (nI (popN q.1)))) (some (vI (0))) (by omega) hs1 (hf.tr f1) (by rw [hstep3]; exact fun b8 h8 => by cases h8; exact ⟨y1, y2, by omega⟩) hq
                rw [hstep3] at hx
                exact hx
            · skip
              replace h2 : ((popN q.1 : Nat) : Int) = (-1) := (zeq (z_nI (by omega)) (by decide)).mp h2
              first
              | (exfalso; omega)
              | skip
                refine w_aload_n dX11_best_70 rfl ?_
                refine w_getR (w := some (32, 0, 0)) ff_X11_13 rfl rfl dX11_best_71 rfl ?_
                refine w_bipush (v := 56) dX11_best_74 (by decide) ?_
                refine w_iaload (a := 56) rfl (vp_in_nI (n := 56) (by omega) (by omega)) (nI_clamp (n := 56) (by omega)) dX11_best_76 ?_
                rw [show (I1 32 0 0 (56) : Int32) = nI q.2 from (hm1.2.2.cr rfl).trans (congrArg nI hcb)]
                refine w_iload_n dX11_best_77 rfl ?_
                refine w_icmp_ge (tgt := 85) dX11_best_78 (by decide) (fun h3 => ?_) (fun h3 => ?_)
                · skip
                  replace h3 : 1000000 ≤ ((q.2 : Nat) : Int) := (zle (by decide) (z_nI (by omega))).mp h3
                  first
                  | (exfalso; omega)
                  | skip
                    refine w_iconst (v := 0) dX11_best_85 (by decide) ?_
                    refine w_istore (ls' := [some (vR 30 0 0), some (vI (what)), some (vI ((-1))), some (vI (1000000)), some (vI (0)), some (vI (nI k)), some (vI (nI (popN q.1))), some (vI (0))]) dX11_best_86 rfl ?_
                    refine w_iload dX11_best_88 rfl ?_
                    refine w_if_eq (tgt := 98) dX11_best_90 (by decide) (fun _ => ?_) (fun h => absurd (by decide) h)
                    refine w_iload dX11_best_98 rfl ?_
                    refine w_istore (ls' := [some (vR 30 0 0), some (vI (what)), some (vI ((-1))), some (vI (1000000)), some (vI (0)), some (vI (nI k)), some (vI (nI (popN q.1))), some (vI (0))]) dX11_best_100 rfl ?_
                    refine w_iload dX11_best_102 rfl ?_
                    refine w_if_eq (tgt := 117) dX11_best_104 (by decide) (fun _ => ?_) (fun h => absurd (by decide) h)
                    refine w_iload_n dX11_best_117 rfl ?_
                    refine w_istore_n (ls' := [some (vR 30 0 0), some (vI (what)), some (vI ((-1))), some (vI (1000000)), some (vI (0)), some (vI (nI k)), some (vI (nI (popN q.1))), some (vI (0))]) dX11_best_118 rfl ?_
                    refine w_iload dX11_best_119 rfl ?_
                    refine w_if_eq (tgt := 129) dX11_best_121 (by decide) (fun _ => ?_) (fun h => absurd (by decide) h)
                    refine w_iload_n dX11_best_129 rfl ?_
                    refine w_istore_n (ls' := [some (vR 30 0 0), some (vI (what)), some (vI ((-1))), some (vI (1000000)), some (vI (0)), some (vI (nI k)), some (vI (nI (popN q.1))), some (vI (0))]) dX11_best_130 rfl ?_
                    have hstep3 : (fldG a (nJ a) 0 (cR a) 0 (k + 1) none) = some b9 := by rw [hstep2]; rfl
                    refine w_iinc (v := nI (k + 1)) (ls' := [some (vR 30 0 0), some (vI (what)), some (vI ((-1))), some (vI (1000000)), some (vI (0)), some (vI (nI (k + 1))), some (vI (nI (popN q.1))), some (vI (0))]) dX11_best_131 rfl (nI_1 _) rfl ?_
                    refine w_goto (tgt := 31) dX11_best_134 (by decide) ?_
                    have hx := ih (k + 1) I1 (some (vI (nI (popN q.1)))) (some (vI (0))) (by omega) hs1 (hf.tr f1) (by rw [hstep3]; exact fun b8 h8 => by cases h8; exact ⟨y1, y2, by omega⟩) hq
                    rw [hstep3] at hx
                    exact hx
                · skip
                  replace h3 : ¬ (1000000 ≤ ((q.2 : Nat) : Int)) := fun q => h3 ((zle (by decide) (z_nI (by omega))).mpr q)
                  first
                  | (exfalso; omega)
                  | skip
                    refine w_iconst (v := 1) dX11_best_81 (by decide) ?_
                    refine w_goto (tgt := 86) dX11_best_82 (by decide) ?_
                    refine w_istore (ls' := [some (vR 30 0 0), some (vI (what)), some (vI ((-1))), some (vI (1000000)), some (vI (0)), some (vI (nI k)), some (vI (nI (popN q.1))), some (vI (1))]) dX11_best_86 rfl ?_
                    refine w_iload dX11_best_88 rfl ?_
                    refine w_if_eq (tgt := 98) dX11_best_90 (by decide) (fun h => absurd h (by decide)) (fun _ => ?_)
                    refine w_iload dX11_best_93 rfl ?_
                    refine w_goto (tgt := 100) dX11_best_95 (by decide) ?_
                    refine w_istore (ls' := [some (vR 30 0 0), some (vI (what)), some (vI ((-1))), some (vI (1000000)), some (vI (nI k)), some (vI (nI k)), some (vI (nI (popN q.1))), some (vI (1))]) dX11_best_100 rfl ?_
                    refine w_iload dX11_best_102 rfl ?_
                    refine w_if_eq (tgt := 117) dX11_best_104 (by decide) (fun h => absurd h (by decide)) (fun _ => ?_)
                    refine w_aload_n dX11_best_107 rfl ?_
                    refine w_getR (w := some (32, 0, 0)) ff_X11_13 rfl rfl dX11_best_108 rfl ?_
                    refine w_bipush (v := 56) dX11_best_111 (by decide) ?_
                    refine w_iaload (a := 56) rfl (vp_in_nI (n := 56) (by omega) (by omega)) (nI_clamp (n := 56) (by omega)) dX11_best_113 ?_
                    rw [show (I1 32 0 0 (56) : Int32) = nI q.2 from (hm1.2.2.cr rfl).trans (congrArg nI hcb)]
                    refine w_goto (tgt := 118) dX11_best_114 (by decide) ?_
                    refine w_istore_n (ls' := [some (vR 30 0 0), some (vI (what)), some (vI ((-1))), some (vI (nI q.2)), some (vI (nI k)), some (vI (nI k)), some (vI (nI (popN q.1))), some (vI (1))]) dX11_best_118 rfl ?_
                    refine w_iload dX11_best_119 rfl ?_
                    refine w_if_eq (tgt := 129) dX11_best_121 (by decide) (fun h => absurd h (by decide)) (fun _ => ?_)
                    refine w_iload dX11_best_124 rfl ?_
                    refine w_goto (tgt := 130) dX11_best_126 (by decide) ?_
                    refine w_istore_n (ls' := [some (vR 30 0 0), some (vI (what)), some (vI (nI (popN q.1))), some (vI (nI q.2)), some (vI (nI k)), some (vI (nI k)), some (vI (nI (popN q.1))), some (vI (1))]) dX11_best_130 rfl ?_
                    have hstep3 : (fldG a (nJ a) 0 (cR a) 0 (k + 1) none) = some (popN q.1, (q.2, k)) := by rw [hstep2]; rfl
                    refine w_iinc (v := nI (k + 1)) (ls' := [some (vR 30 0 0), some (vI (what)), some (vI (nI (popN q.1))), some (vI (nI q.2)), some (vI (nI k)), some (vI (nI (k + 1))), some (vI (nI (popN q.1))), some (vI (1))]) dX11_best_131 rfl (nI_1 _) rfl ?_
                    refine w_goto (tgt := 31) dX11_best_134 (by decide) ?_
                    have hx := ih (k + 1) I1 (some (vI (nI (popN q.1)))) (some (vI (1))) (by omega) hs1 (hf.tr f1) (by rw [hstep3]; exact fun b8 h8 => by cases h8; exact ⟨hp5, hq2, Nat.lt_succ_self _⟩) hq
                    rw [hstep3] at hx
                    exact hx
      | some b9 =>
        obtain ⟨y1, y2, y3⟩ := hB b9 rfl
        rw [show bmI (some b9) = nI b9.1 from rfl, show blI (some b9) = nI b9.2.1 from rfl, show bkI (some b9) = nI b9.2.2 from rfl]
        refine w_istore (ls' := [some (vR 30 0 0), some (vI (what)), some (vI (nI b9.1)), some (vI (nI b9.2.1)), some (vI (nI b9.2.2)), some (vI (nI k)), some (vI (nI (popN q.1))), o7]) dX11_best_56 rfl ?_
        refine w_iload dX11_best_58 rfl ?_
        refine w_iload_n dX11_best_60 rfl ?_
        refine w_icmp_gt (tgt := 81) dX11_best_61 (by decide) (fun h1 => ?_) (fun h1 => ?_)
        · skip
          replace h1 : ((b9.1 : Nat) : Int) < ((popN q.1 : Nat) : Int) := (zlt (z_nI (by omega)) (z_nI (by omega))).mp h1
          first
          | (exfalso; omega)
          | skip
            refine w_iconst (v := 1) dX11_best_81 (by decide) ?_
            refine w_goto (tgt := 86) dX11_best_82 (by decide) ?_
            refine w_istore (ls' := [some (vR 30 0 0), some (vI (what)), some (vI (nI b9.1)), some (vI (nI b9.2.1)), some (vI (nI b9.2.2)), some (vI (nI k)), some (vI (nI (popN q.1))), some (vI (1))]) dX11_best_86 rfl ?_
            refine w_iload dX11_best_88 rfl ?_
            refine w_if_eq (tgt := 98) dX11_best_90 (by decide) (fun h => absurd h (by decide)) (fun _ => ?_)
            refine w_iload dX11_best_93 rfl ?_
            refine w_goto (tgt := 100) dX11_best_95 (by decide) ?_
            refine w_istore (ls' := [some (vR 30 0 0), some (vI (what)), some (vI (nI b9.1)), some (vI (nI b9.2.1)), some (vI (nI k)), some (vI (nI k)), some (vI (nI (popN q.1))), some (vI (1))]) dX11_best_100 rfl ?_
            refine w_iload dX11_best_102 rfl ?_
            refine w_if_eq (tgt := 117) dX11_best_104 (by decide) (fun h => absurd h (by decide)) (fun _ => ?_)
            refine w_aload_n dX11_best_107 rfl ?_
            refine w_getR (w := some (32, 0, 0)) ff_X11_13 rfl rfl dX11_best_108 rfl ?_
            refine w_bipush (v := 56) dX11_best_111 (by decide) ?_
            refine w_iaload (a := 56) rfl (vp_in_nI (n := 56) (by omega) (by omega)) (nI_clamp (n := 56) (by omega)) dX11_best_113 ?_
            rw [show (I1 32 0 0 (56) : Int32) = nI q.2 from (hm1.2.2.cr rfl).trans (congrArg nI hcb)]
            refine w_goto (tgt := 118) dX11_best_114 (by decide) ?_
            refine w_istore_n (ls' := [some (vR 30 0 0), some (vI (what)), some (vI (nI b9.1)), some (vI (nI q.2)), some (vI (nI k)), some (vI (nI k)), some (vI (nI (popN q.1))), some (vI (1))]) dX11_best_118 rfl ?_
            refine w_iload dX11_best_119 rfl ?_
            refine w_if_eq (tgt := 129) dX11_best_121 (by decide) (fun h => absurd h (by decide)) (fun _ => ?_)
            refine w_iload dX11_best_124 rfl ?_
            refine w_goto (tgt := 130) dX11_best_126 (by decide) ?_
            refine w_istore_n (ls' := [some (vR 30 0 0), some (vI (what)), some (vI (nI (popN q.1))), some (vI (nI q.2)), some (vI (nI k)), some (vI (nI k)), some (vI (nI (popN q.1))), some (vI (1))]) dX11_best_130 rfl ?_
            have hstep3 : (fldG a (nJ a) 0 (cR a) 0 (k + 1) none) = some (popN q.1, (q.2, k)) := by rw [hstep2]; exact if_pos (by omega)
            refine w_iinc (v := nI (k + 1)) (ls' := [some (vR 30 0 0), some (vI (what)), some (vI (nI (popN q.1))), some (vI (nI q.2)), some (vI (nI k)), some (vI (nI (k + 1))), some (vI (nI (popN q.1))), some (vI (1))]) dX11_best_131 rfl (nI_1 _) rfl ?_
            refine w_goto (tgt := 31) dX11_best_134 (by decide) ?_
            have hx := ih (k + 1) I1 (some (vI (nI (popN q.1)))) (some (vI (1))) (by omega) hs1 (hf.tr f1) (by rw [hstep3]; exact fun b8 h8 => by cases h8; exact ⟨hp5, hq2, Nat.lt_succ_self _⟩) hq
            rw [hstep3] at hx
            exact hx
        · skip
          replace h1 : ¬ (((b9.1 : Nat) : Int) < ((popN q.1 : Nat) : Int)) := fun q => h1 ((zlt (z_nI (by omega)) (z_nI (by omega))).mpr q)
          first
          | (exfalso; omega)
          | skip
            refine w_iload dX11_best_64 rfl ?_
            refine w_iload_n dX11_best_66 rfl ?_
            refine w_icmp_ne (tgt := 85) dX11_best_67 (by decide) (fun h2 => ?_) (fun h2 => ?_)
            · skip
              replace h2 : ¬ (((popN q.1 : Nat) : Int) = ((b9.1 : Nat) : Int)) := fun q => h2 ((zeq (z_nI (by omega)) (z_nI (by omega))).mpr q)
              first
              | (exfalso; omega)
              | skip
                refine w_iconst (v := 0) dX11_best_85 (by decide) ?_
                refine w_istore (ls' := [some (vR 30 0 0), some (vI (what)), some (vI (nI b9.1)), some (vI (nI b9.2.1)), some (vI (nI b9.2.2)), some (vI (nI k)), some (vI (nI (popN q.1))), some (vI (0))]) dX11_best_86 rfl ?_
                refine w_iload dX11_best_88 rfl ?_
                refine w_if_eq (tgt := 98) dX11_best_90 (by decide) (fun _ => ?_) (fun h => absurd (by decide) h)
                refine w_iload dX11_best_98 rfl ?_
                refine w_istore (ls' := [some (vR 30 0 0), some (vI (what)), some (vI (nI b9.1)), some (vI (nI b9.2.1)), some (vI (nI b9.2.2)), some (vI (nI k)), some (vI (nI (popN q.1))), some (vI (0))]) dX11_best_100 rfl ?_
                refine w_iload dX11_best_102 rfl ?_
                refine w_if_eq (tgt := 117) dX11_best_104 (by decide) (fun _ => ?_) (fun h => absurd (by decide) h)
                refine w_iload_n dX11_best_117 rfl ?_
                refine w_istore_n (ls' := [some (vR 30 0 0), some (vI (what)), some (vI (nI b9.1)), some (vI (nI b9.2.1)), some (vI (nI b9.2.2)), some (vI (nI k)), some (vI (nI (popN q.1))), some (vI (0))]) dX11_best_118 rfl ?_
                refine w_iload dX11_best_119 rfl ?_
                refine w_if_eq (tgt := 129) dX11_best_121 (by decide) (fun _ => ?_) (fun h => absurd (by decide) h)
                refine w_iload_n dX11_best_129 rfl ?_
                refine w_istore_n (ls' := [some (vR 30 0 0), some (vI (what)), some (vI (nI b9.1)), some (vI (nI b9.2.1)), some (vI (nI b9.2.2)), some (vI (nI k)), some (vI (nI (popN q.1))), some (vI (0))]) dX11_best_130 rfl ?_
                have hstep3 : (fldG a (nJ a) 0 (cR a) 0 (k + 1) none) = some b9 := by rw [hstep2]; exact if_neg (by omega)
                refine w_iinc (v := nI (k + 1)) (ls' := [some (vR 30 0 0), some (vI (what)), some (vI (nI b9.1)), some (vI (nI b9.2.1)), some (vI (nI b9.2.2)), some (vI (nI (k + 1))), some (vI (nI (popN q.1))), some (vI (0))]) dX11_best_131 rfl (nI_1 _) rfl ?_
                refine w_goto (tgt := 31) dX11_best_134 (by decide) ?_
                have hx := ih (k + 1) I1 (some (vI (nI (popN q.1)))) (some (vI (0))) (by omega) hs1 (hf.tr f1) (by rw [hstep3]; exact fun b8 h8 => by cases h8; exact ⟨y1, y2, by omega⟩) hq
                rw [hstep3] at hx
                exact hx
            · skip
              replace h2 : ((popN q.1 : Nat) : Int) = ((b9.1 : Nat) : Int) := (zeq (z_nI (by omega)) (z_nI (by omega))).mp h2
              first
              | (exfalso; omega)
              | skip
                refine w_aload_n dX11_best_70 rfl ?_
                refine w_getR (w := some (32, 0, 0)) ff_X11_13 rfl rfl dX11_best_71 rfl ?_
                refine w_bipush (v := 56) dX11_best_74 (by decide) ?_
                refine w_iaload (a := 56) rfl (vp_in_nI (n := 56) (by omega) (by omega)) (nI_clamp (n := 56) (by omega)) dX11_best_76 ?_
                rw [show (I1 32 0 0 (56) : Int32) = nI q.2 from (hm1.2.2.cr rfl).trans (congrArg nI hcb)]
                refine w_iload_n dX11_best_77 rfl ?_
                refine w_icmp_ge (tgt := 85) dX11_best_78 (by decide) (fun h3 => ?_) (fun h3 => ?_)
                · skip
                  replace h3 : ((b9.2.1 : Nat) : Int) ≤ ((q.2 : Nat) : Int) := (zle (z_nI (by omega)) (z_nI (by omega))).mp h3
                  first
                  | (exfalso; omega)
                  | skip
                    refine w_iconst (v := 0) dX11_best_85 (by decide) ?_
                    refine w_istore (ls' := [some (vR 30 0 0), some (vI (what)), some (vI (nI b9.1)), some (vI (nI b9.2.1)), some (vI (nI b9.2.2)), some (vI (nI k)), some (vI (nI (popN q.1))), some (vI (0))]) dX11_best_86 rfl ?_
                    refine w_iload dX11_best_88 rfl ?_
                    refine w_if_eq (tgt := 98) dX11_best_90 (by decide) (fun _ => ?_) (fun h => absurd (by decide) h)
                    refine w_iload dX11_best_98 rfl ?_
                    refine w_istore (ls' := [some (vR 30 0 0), some (vI (what)), some (vI (nI b9.1)), some (vI (nI b9.2.1)), some (vI (nI b9.2.2)), some (vI (nI k)), some (vI (nI (popN q.1))), some (vI (0))]) dX11_best_100 rfl ?_
                    refine w_iload dX11_best_102 rfl ?_
                    refine w_if_eq (tgt := 117) dX11_best_104 (by decide) (fun _ => ?_) (fun h => absurd (by decide) h)
                    refine w_iload_n dX11_best_117 rfl ?_
                    refine w_istore_n (ls' := [some (vR 30 0 0), some (vI (what)), some (vI (nI b9.1)), some (vI (nI b9.2.1)), some (vI (nI b9.2.2)), some (vI (nI k)), some (vI (nI (popN q.1))), some (vI (0))]) dX11_best_118 rfl ?_
                    refine w_iload dX11_best_119 rfl ?_
                    refine w_if_eq (tgt := 129) dX11_best_121 (by decide) (fun _ => ?_) (fun h => absurd (by decide) h)
                    refine w_iload_n dX11_best_129 rfl ?_
                    refine w_istore_n (ls' := [some (vR 30 0 0), some (vI (what)), some (vI (nI b9.1)), some (vI (nI b9.2.1)), some (vI (nI b9.2.2)), some (vI (nI k)), some (vI (nI (popN q.1))), some (vI (0))]) dX11_best_130 rfl ?_
                    have hstep3 : (fldG a (nJ a) 0 (cR a) 0 (k + 1) none) = some b9 := by rw [hstep2]; exact if_neg (by omega)
                    refine w_iinc (v := nI (k + 1)) (ls' := [some (vR 30 0 0), some (vI (what)), some (vI (nI b9.1)), some (vI (nI b9.2.1)), some (vI (nI b9.2.2)), some (vI (nI (k + 1))), some (vI (nI (popN q.1))), some (vI (0))]) dX11_best_131 rfl (nI_1 _) rfl ?_
                    refine w_goto (tgt := 31) dX11_best_134 (by decide) ?_
                    have hx := ih (k + 1) I1 (some (vI (nI (popN q.1)))) (some (vI (0))) (by omega) hs1 (hf.tr f1) (by rw [hstep3]; exact fun b8 h8 => by cases h8; exact ⟨y1, y2, by omega⟩) hq
                    rw [hstep3] at hx
                    exact hx
                · skip
                  replace h3 : ¬ (((b9.2.1 : Nat) : Int) ≤ ((q.2 : Nat) : Int)) := fun q => h3 ((zle (z_nI (by omega)) (z_nI (by omega))).mpr q)
                  first
                  | (exfalso; omega)
                  | skip
                    refine w_iconst (v := 1) dX11_best_81 (by decide) ?_
                    refine w_goto (tgt := 86) dX11_best_82 (by decide) ?_
                    refine w_istore (ls' := [some (vR 30 0 0), some (vI (what)), some (vI (nI b9.1)), some (vI (nI b9.2.1)), some (vI (nI b9.2.2)), some (vI (nI k)), some (vI (nI (popN q.1))), some (vI (1))]) dX11_best_86 rfl ?_
                    refine w_iload dX11_best_88 rfl ?_
                    refine w_if_eq (tgt := 98) dX11_best_90 (by decide) (fun h => absurd h (by decide)) (fun _ => ?_)
                    refine w_iload dX11_best_93 rfl ?_
                    refine w_goto (tgt := 100) dX11_best_95 (by decide) ?_
                    refine w_istore (ls' := [some (vR 30 0 0), some (vI (what)), some (vI (nI b9.1)), some (vI (nI b9.2.1)), some (vI (nI k)), some (vI (nI k)), some (vI (nI (popN q.1))), some (vI (1))]) dX11_best_100 rfl ?_
                    refine w_iload dX11_best_102 rfl ?_
                    refine w_if_eq (tgt := 117) dX11_best_104 (by decide) (fun h => absurd h (by decide)) (fun _ => ?_)
                    refine w_aload_n dX11_best_107 rfl ?_
                    refine w_getR (w := some (32, 0, 0)) ff_X11_13 rfl rfl dX11_best_108 rfl ?_
                    refine w_bipush (v := 56) dX11_best_111 (by decide) ?_
                    refine w_iaload (a := 56) rfl (vp_in_nI (n := 56) (by omega) (by omega)) (nI_clamp (n := 56) (by omega)) dX11_best_113 ?_
                    rw [show (I1 32 0 0 (56) : Int32) = nI q.2 from (hm1.2.2.cr rfl).trans (congrArg nI hcb)]
                    refine w_goto (tgt := 118) dX11_best_114 (by decide) ?_
                    refine w_istore_n (ls' := [some (vR 30 0 0), some (vI (what)), some (vI (nI b9.1)), some (vI (nI q.2)), some (vI (nI k)), some (vI (nI k)), some (vI (nI (popN q.1))), some (vI (1))]) dX11_best_118 rfl ?_
                    refine w_iload dX11_best_119 rfl ?_
                    refine w_if_eq (tgt := 129) dX11_best_121 (by decide) (fun h => absurd h (by decide)) (fun _ => ?_)
                    refine w_iload dX11_best_124 rfl ?_
                    refine w_goto (tgt := 130) dX11_best_126 (by decide) ?_
                    refine w_istore_n (ls' := [some (vR 30 0 0), some (vI (what)), some (vI (nI (popN q.1))), some (vI (nI q.2)), some (vI (nI k)), some (vI (nI k)), some (vI (nI (popN q.1))), some (vI (1))]) dX11_best_130 rfl ?_
                    have hstep3 : (fldG a (nJ a) 0 (cR a) 0 (k + 1) none) = some (popN q.1, (q.2, k)) := by rw [hstep2]; exact if_pos (by omega)
                    refine w_iinc (v := nI (k + 1)) (ls' := [some (vR 30 0 0), some (vI (what)), some (vI (nI (popN q.1))), some (vI (nI q.2)), some (vI (nI k)), some (vI (nI (k + 1))), some (vI (nI (popN q.1))), some (vI (1))]) dX11_best_131 rfl (nI_1 _) rfl ?_
                    refine w_goto (tgt := 31) dX11_best_134 (by decide) ?_
                    have hx := ih (k + 1) I1 (some (vI (nI (popN q.1)))) (some (vI (1))) (by omega) hs1 (hf.tr f1) (by rw [hstep3]; exact fun b8 h8 => by cases h8; exact ⟨hp5, hq2, Nat.lt_succ_self _⟩) hq
                    rw [hstep3] at hx
                    exact hx

theorem p_best_0 {I : xF4 Int32} {L : xF4 Int64} {a : aA} (hc : CourtIs I 0 a) (hw : WF a) {b : Nat × (Nat × Nat)} (hbr : bestR a = some b) : Tri 19 109 m_X10_best [vR 0 0 0, vI (0)] (rM I L) (pCq (vI (nI b.1)) I) := by
  refine ⟨k_X10_best, Nat.le_of_ble_eq_true rfl, ?_⟩
  show Wp _ _ _ 0 [some (vR 0 0 0), some (vI (0)), none] [] (rM I L) _
  obtain ⟨hJ, hC, hG, hD, hR, -⟩ := id hw
  refine w_iload_n dX10_best_0 rfl ?_
  refine w_bipush (v := 10) dX10_best_1 (by decide) ?_
  refine w_icmp_lt (tgt := 24) dX10_best_3 (by decide) (fun _ => ?_) (fun h => absurd (by decide) h)
  refine w_iconst (v := 0) dX10_best_24 (by decide) ?_
  refine w_istore_n (ls' := [some (vR 0 0 0), some (vI (0)), some (vI (0))]) dX10_best_25 rfl ?_
  refine w_iload_n dX10_best_26 rfl ?_
  refine w_if_eq (tgt := 41) dX10_best_27 (by decide) (fun _ => ?_) (fun h => absurd (by decide) h)
  refine w_aload_n dX10_best_41 rfl ?_
  refine w_getR (w := some (14, 0, 0)) ff_X10_43 rfl rfl dX10_best_42 rfl ?_
  refine w_aload_n dX10_best_45 rfl ?_
  refine w_getR (w := some (1, 0, 0)) ff_X10_10 rfl rfl dX10_best_46 rfl ?_
  refine w_callV (as := [vR 1 0 0]) (st := []) (Tri.mono (c_search hc hw) (Nat.le_of_ble_eq_true rfl)) rfl rfl tg_X5_search lk_X10_216 in_X5_search se_X5_search rfl dX10_best_49 rfl (Nat.le_of_ble_eq_true rfl) (Nat.le_refl _) (Nat.le_refl _) ?_
  rintro v M9 ⟨rfl, I1, rfl, hro, hf1⟩ -
  rw [hbr] at hro
  obtain ⟨q1, q2, q3, q4, q5⟩ := hro
  refine w_iload_n dX10_best_52 rfl ?_
  refine w_if_ne (tgt := 64) dX10_best_53 (by decide) (fun h => absurd (by decide) h) (fun _ => ?_)
  refine w_aload_n dX10_best_56 rfl ?_
  refine w_getR (w := some (14, 0, 0)) ff_X10_43 rfl rfl dX10_best_57 rfl ?_
  refine w_getI ff_X10_219 rfl rfl dX10_best_60 ?_
  rw [show (I1 14 0 0 2 : Int32) = nI b.1 from q1]
  exact w_ireturn dX10_best_63 rfl (rfl) rfl (⟨rfl, _, _, rfl, hf1.q⟩)

theorem q_best_0 {I : xF4 Int32} {L : xF4 Int64} {a : aA} (hs : SI I a) (hw : WF a) {b : Nat × (Nat × Nat)} (hbr : bestR a = some b) : Tri 19 109 m_X11_best [vR 30 0 0, vI (0)] (rM I L) (pMq (vI (nI b.1)) I) := by
  refine ⟨k_X11_best, Nat.le_of_ble_eq_true rfl, ?_⟩
  show Wp _ _ _ 0 [some (vR 30 0 0), some (vI (0)), none, none, none, none, none, none] [] (rM I L) _
  obtain ⟨hJ, hC, hG, hD, hR, -⟩ := id hw
  refine w_iload_n dX11_best_0 rfl ?_
  refine w_callS (as := [vI (0)]) (st := []) (Tri.mono (d_isPart (x := 0) (X := (0 : Int)) (by decide)) (Nat.le_of_ble_eq_true rfl)) tg_X11_isPart lk_X11_245 sa_X11_isPart rfl dX11_best_1 rfl (Nat.le_of_ble_eq_true rfl) (Nat.le_refl _) (Nat.le_refl _) ?_
  rintro _ _ ⟨rfl, rfl⟩ -
  refine w_top (y := 1) (show (bI ((0 : Int) ≤ 0 ∧ (0 : Int) ≤ 1) : Int32) = 1 from bI_t (by decide)) ?_
  refine w_if_ne (tgt := 20) dX11_best_4 (by decide) (fun _ => ?_) (fun h => absurd h (by decide))
  refine w_iconst (v := (-1)) dX11_best_20 (by decide) ?_
  refine w_istore_n (ls' := [some (vR 30 0 0), some (vI (0)), some (vI ((-1))), none, none, none, none, none]) dX11_best_21 rfl ?_
  refine w_ldc dX11_best_22 ct_X11_248 ?_
  refine w_istore_n (ls' := [some (vR 30 0 0), some (vI (0)), some (vI ((-1))), some (vI (1000000)), none, none, none, none]) dX11_best_24 rfl ?_
  refine w_iconst (v := 0) dX11_best_25 (by decide) ?_
  refine w_istore (ls' := [some (vR 30 0 0), some (vI (0)), some (vI ((-1))), some (vI (1000000)), some (vI (0)), none, none, none]) dX11_best_26 rfl ?_
  refine w_iconst (v := 0) dX11_best_28 (by decide) ?_
  refine w_istore (ls' := [some (vR 30 0 0), some (vI (0)), some (vI ((-1))), some (vI (1000000)), some (vI (0)), some (vI (0)), none, none]) dX11_best_29 rfl ?_
  refine Wp.mono (d := 18) ?_ (by omega)
  refine l_bestM hw ((nC a + 1) ^ nJ a) 0 I _ _ (Nat.zero_add _) hs FrR.rf (fun b h => by cases h) (fun I9 o6 o7 hs9 hf9 hB9 => ?_)
  rw [show (fldG a (nJ a) 0 (cR a) 0 ((nC a + 1) ^ nJ a) none) = some b from hbr] at hB9 ⊢
  rw [show bmI (some b) = nI b.1 from rfl, show blI (some b) = nI b.2.1 from rfl, show bkI (some b) = nI b.2.2 from rfl]
  obtain ⟨y1, y2, y3⟩ := hB9 b rfl
  have hpk := powK hw (nJ a) hw.1
  refine w_iload_n dX11_best_137 rfl ?_
  refine w_callS (as := [vI (0)]) (st := []) (Tri.mono (d_isPart (x := 0) (X := (0 : Int)) (by decide)) (Nat.le_of_ble_eq_true rfl)) tg_X11_isPart lk_X11_245 sa_X11_isPart rfl dX11_best_138 rfl (Nat.le_of_ble_eq_true rfl) (Nat.le_refl _) (Nat.le_refl _) ?_
  rintro _ _ ⟨rfl, rfl⟩ -
  refine w_top (y := 1) (show (bI ((0 : Int) ≤ 0 ∧ (0 : Int) ≤ 1) : Int32) = 1 from bI_t (by decide)) ?_
  refine w_if_eq (tgt := 154) dX11_best_141 (by decide) (fun h => absurd h (by decide)) (fun _ => ?_)
  refine w_iload_n dX11_best_144 rfl ?_
  refine w_if_ne (tgt := 152) dX11_best_145 (by decide) (fun h => absurd (by decide) h) (fun _ => ?_)
  refine w_iload_n dX11_best_148 rfl ?_
  refine w_goto (tgt := 153) dX11_best_149 (by decide) ?_
  exact w_ireturn dX11_best_153 rfl (rfl) rfl (⟨rfl, _, _, rfl, hf9⟩)

theorem p_best_1 {I : xF4 Int32} {L : xF4 Int64} {a : aA} (hc : CourtIs I 0 a) (hw : WF a) {b : Nat × (Nat × Nat)} (hbr : bestR a = some b) : Tri 19 109 m_X10_best [vR 0 0 0, vI (1)] (rM I L) (pCq (vI (nI b.2.1)) I) := by
  refine ⟨k_X10_best, Nat.le_of_ble_eq_true rfl, ?_⟩
  show Wp _ _ _ 0 [some (vR 0 0 0), some (vI (1)), none] [] (rM I L) _
  obtain ⟨hJ, hC, hG, hD, hR, -⟩ := id hw
  refine w_iload_n dX10_best_0 rfl ?_
  refine w_bipush (v := 10) dX10_best_1 (by decide) ?_
  refine w_icmp_lt (tgt := 24) dX10_best_3 (by decide) (fun _ => ?_) (fun h => absurd (by decide) h)
  refine w_iconst (v := 0) dX10_best_24 (by decide) ?_
  refine w_istore_n (ls' := [some (vR 0 0 0), some (vI (1)), some (vI (0))]) dX10_best_25 rfl ?_
  refine w_iload_n dX10_best_26 rfl ?_
  refine w_if_eq (tgt := 41) dX10_best_27 (by decide) (fun h => absurd h (by decide)) (fun _ => ?_)
  refine w_iload_n dX10_best_30 rfl ?_
  refine w_iconst (v := 1) dX10_best_31 (by decide) ?_
  refine w_icmp_eq (tgt := 41) dX10_best_32 (by decide) (fun _ => ?_) (fun h => absurd (by decide) h)
  refine w_aload_n dX10_best_41 rfl ?_
  refine w_getR (w := some (14, 0, 0)) ff_X10_43 rfl rfl dX10_best_42 rfl ?_
  refine w_aload_n dX10_best_45 rfl ?_
  refine w_getR (w := some (1, 0, 0)) ff_X10_10 rfl rfl dX10_best_46 rfl ?_
  refine w_callV (as := [vR 1 0 0]) (st := []) (Tri.mono (c_search hc hw) (Nat.le_of_ble_eq_true rfl)) rfl rfl tg_X5_search lk_X10_216 in_X5_search se_X5_search rfl dX10_best_49 rfl (Nat.le_of_ble_eq_true rfl) (Nat.le_refl _) (Nat.le_refl _) ?_
  rintro v M9 ⟨rfl, I1, rfl, hro, hf1⟩ -
  rw [hbr] at hro
  obtain ⟨q1, q2, q3, q4, q5⟩ := hro
  refine w_iload_n dX10_best_52 rfl ?_
  refine w_if_ne (tgt := 64) dX10_best_53 (by decide) (fun _ => ?_) (fun h => absurd h (by decide))
  refine w_iload_n dX10_best_64 rfl ?_
  refine w_iconst (v := 1) dX10_best_65 (by decide) ?_
  refine w_icmp_ne (tgt := 79) dX10_best_66 (by decide) (fun h => absurd (by decide) h) (fun _ => ?_)
  refine w_aload_n dX10_best_69 rfl ?_
  refine w_getR (w := some (14, 0, 0)) ff_X10_43 rfl rfl dX10_best_70 rfl ?_
  refine w_getI ff_X10_222 rfl rfl dX10_best_73 ?_
  rw [show (I1 14 0 0 3 : Int32) = nI b.2.1 from q2]
  refine w_goto (tgt := 90) dX10_best_76 (by decide) ?_
  exact w_ireturn dX10_best_90 rfl (rfl) rfl (⟨rfl, _, _, rfl, hf1.q⟩)

theorem q_best_1 {I : xF4 Int32} {L : xF4 Int64} {a : aA} (hs : SI I a) (hw : WF a) {b : Nat × (Nat × Nat)} (hbr : bestR a = some b) : Tri 19 109 m_X11_best [vR 30 0 0, vI (1)] (rM I L) (pMq (vI (nI b.2.1)) I) := by
  refine ⟨k_X11_best, Nat.le_of_ble_eq_true rfl, ?_⟩
  show Wp _ _ _ 0 [some (vR 30 0 0), some (vI (1)), none, none, none, none, none, none] [] (rM I L) _
  obtain ⟨hJ, hC, hG, hD, hR, -⟩ := id hw
  refine w_iload_n dX11_best_0 rfl ?_
  refine w_callS (as := [vI (1)]) (st := []) (Tri.mono (d_isPart (x := 1) (X := (1 : Int)) (by decide)) (Nat.le_of_ble_eq_true rfl)) tg_X11_isPart lk_X11_245 sa_X11_isPart rfl dX11_best_1 rfl (Nat.le_of_ble_eq_true rfl) (Nat.le_refl _) (Nat.le_refl _) ?_
  rintro _ _ ⟨rfl, rfl⟩ -
  refine w_top (y := 1) (show (bI ((0 : Int) ≤ 1 ∧ (1 : Int) ≤ 1) : Int32) = 1 from bI_t (by decide)) ?_
  refine w_if_ne (tgt := 20) dX11_best_4 (by decide) (fun _ => ?_) (fun h => absurd h (by decide))
  refine w_iconst (v := (-1)) dX11_best_20 (by decide) ?_
  refine w_istore_n (ls' := [some (vR 30 0 0), some (vI (1)), some (vI ((-1))), none, none, none, none, none]) dX11_best_21 rfl ?_
  refine w_ldc dX11_best_22 ct_X11_248 ?_
  refine w_istore_n (ls' := [some (vR 30 0 0), some (vI (1)), some (vI ((-1))), some (vI (1000000)), none, none, none, none]) dX11_best_24 rfl ?_
  refine w_iconst (v := 0) dX11_best_25 (by decide) ?_
  refine w_istore (ls' := [some (vR 30 0 0), some (vI (1)), some (vI ((-1))), some (vI (1000000)), some (vI (0)), none, none, none]) dX11_best_26 rfl ?_
  refine w_iconst (v := 0) dX11_best_28 (by decide) ?_
  refine w_istore (ls' := [some (vR 30 0 0), some (vI (1)), some (vI ((-1))), some (vI (1000000)), some (vI (0)), some (vI (0)), none, none]) dX11_best_29 rfl ?_
  refine Wp.mono (d := 18) ?_ (by omega)
  refine l_bestM hw ((nC a + 1) ^ nJ a) 0 I _ _ (Nat.zero_add _) hs FrR.rf (fun b h => by cases h) (fun I9 o6 o7 hs9 hf9 hB9 => ?_)
  rw [show (fldG a (nJ a) 0 (cR a) 0 ((nC a + 1) ^ nJ a) none) = some b from hbr] at hB9 ⊢
  rw [show bmI (some b) = nI b.1 from rfl, show blI (some b) = nI b.2.1 from rfl, show bkI (some b) = nI b.2.2 from rfl]
  obtain ⟨y1, y2, y3⟩ := hB9 b rfl
  have hpk := powK hw (nJ a) hw.1
  refine w_iload_n dX11_best_137 rfl ?_
  refine w_callS (as := [vI (1)]) (st := []) (Tri.mono (d_isPart (x := 1) (X := (1 : Int)) (by decide)) (Nat.le_of_ble_eq_true rfl)) tg_X11_isPart lk_X11_245 sa_X11_isPart rfl dX11_best_138 rfl (Nat.le_of_ble_eq_true rfl) (Nat.le_refl _) (Nat.le_refl _) ?_
  rintro _ _ ⟨rfl, rfl⟩ -
  refine w_top (y := 1) (show (bI ((0 : Int) ≤ 1 ∧ (1 : Int) ≤ 1) : Int32) = 1 from bI_t (by decide)) ?_
  refine w_if_eq (tgt := 154) dX11_best_141 (by decide) (fun h => absurd h (by decide)) (fun _ => ?_)
  refine w_iload_n dX11_best_144 rfl ?_
  refine w_if_ne (tgt := 152) dX11_best_145 (by decide) (fun _ => ?_) (fun h => absurd h (by decide))
  refine w_iload_n dX11_best_152 rfl ?_
  exact w_ireturn dX11_best_153 rfl (rfl) rfl (⟨rfl, _, _, rfl, hf9⟩)

theorem p_best_p {I : xF4 Int32} {L : xF4 Int64} {a : aA} (hc : CourtIs I 0 a) (hw : WF a) {b : Nat × (Nat × Nat)} (hbr : bestR a = some b) {p : Nat} (hp : p < nJ a) : Tri 19 109 m_X10_best [vR 0 0 0, vI (nI (10 + p))] (rM I L) (pCq (vI (pkI a (b.2.2 / (nC a + 1) ^ (nJ a - 1 - p) % (nC a + 1)))) I) := by
  refine ⟨k_X10_best, Nat.le_of_ble_eq_true rfl, ?_⟩
  show Wp _ _ _ 0 [some (vR 0 0 0), some (vI (nI (10 + p))), none] [] (rM I L) _
  obtain ⟨hJ, hC, hG, hD, hR, -⟩ := id hw
  refine w_iload_n dX10_best_0 rfl ?_
  refine w_bipush (v := 10) dX10_best_1 (by decide) ?_
  refine w_icmp_lt (tgt := 24) dX10_best_3 (by decide) (fun h1 => ?_) (fun h1 => ?_)
  · skip
    replace h1 : ((10 + p : Nat) : Int) < 10 := (zlt (z_nI (by omega)) (by decide)).mp h1
    first
    | (exfalso; omega)
    | skip
      refine w_iconst (v := 0) dX10_best_24 (by decide) ?_
      refine w_istore_n (ls' := [some (vR 0 0 0), some (vI (nI (10 + p))), some (vI (0))]) dX10_best_25 rfl ?_
      refine w_iload_n dX10_best_26 rfl ?_
      refine w_if_eq (tgt := 41) dX10_best_27 (by decide) (fun h2 => ?_) (fun h2 => ?_)
      · skip
        replace h2 : ((10 + p : Nat) : Int) = 0 := (zeq (z_nI (by omega)) (by decide)).mp h2
        first
        | (exfalso; omega)
        | skip
          refine w_aload_n dX10_best_41 rfl ?_
          refine w_getR (w := some (14, 0, 0)) ff_X10_43 rfl rfl dX10_best_42 rfl ?_
          refine w_aload_n dX10_best_45 rfl ?_
          refine w_getR (w := some (1, 0, 0)) ff_X10_10 rfl rfl dX10_best_46 rfl ?_
          refine w_callV (as := [vR 1 0 0]) (st := []) (Tri.mono (c_search hc hw) (Nat.le_of_ble_eq_true rfl)) rfl rfl tg_X5_search lk_X10_216 in_X5_search se_X5_search rfl dX10_best_49 rfl (Nat.le_of_ble_eq_true rfl) (Nat.le_refl _) (Nat.le_refl _) ?_
          rintro v M9 ⟨rfl, I1, rfl, hro, hf1⟩ -
          rw [hbr] at hro
          obtain ⟨q1, q2, q3, q4, q5⟩ := hro
          refine w_iload_n dX10_best_52 rfl ?_
          refine w_if_ne (tgt := 64) dX10_best_53 (by decide) (fun h3 => ?_) (fun h3 => ?_)
          · skip
            replace h3 : ¬ (((10 + p : Nat) : Int) = 0) := fun q => h3 ((zeq (z_nI (by omega)) (by decide)).mpr q)
            first
            | (exfalso; omega)
            | skip
              refine w_iload_n dX10_best_64 rfl ?_
              refine w_iconst (v := 1) dX10_best_65 (by decide) ?_
              refine w_icmp_ne (tgt := 79) dX10_best_66 (by decide) (fun h4 => ?_) (fun h4 => ?_)
              · skip
                replace h4 : ¬ (((10 + p : Nat) : Int) = 1) := fun q => h4 ((zeq (z_nI (by omega)) (by decide)).mpr q)
                first
                | (exfalso; omega)
                | skip
                  refine w_aload_n dX10_best_79 rfl ?_
                  refine w_getR (w := some (14, 0, 0)) ff_X10_43 rfl rfl dX10_best_80 rfl ?_
                  refine w_iload_n dX10_best_83 rfl ?_
                  refine w_bipush (v := 10) dX10_best_84 (by decide) ?_
                  refine w_isub dX10_best_86 ?_
                  rw [show ((nI (10 + p)) - (10) : Int32) = nI p from ten_p p (by omega)]
                  refine w_callV (as := [vI (nI p)]) (st := []) (Tri.mono (c_suitOf (i := p) (by omega)) (Nat.le_of_ble_eq_true rfl)) rfl rfl tg_X5_suitOf lk_X10_225 in_X5_suitOf se_X5_suitOf rfl dX10_best_87 rfl (Nat.le_of_ble_eq_true rfl) (Nat.le_refl _) (Nat.le_refl _) ?_
                  rintro _ _ ⟨rfl, rfl⟩ -
                  refine w_top (y := pkI a (b.2.2 / (nC a + 1) ^ (nJ a - 1 - p) % (nC a + 1))) (show (I1 16 0 0 p : Int32) = pkI a (b.2.2 / (nC a + 1) ^ (nJ a - 1 - p) % (nC a + 1)) from q5 p hp) ?_
                  exact w_ireturn dX10_best_90 rfl (rfl) rfl (⟨rfl, _, _, rfl, hf1.q⟩)
              · skip
                replace h4 : ((10 + p : Nat) : Int) = 1 := (zeq (z_nI (by omega)) (by decide)).mp h4
                first
                | (exfalso; omega)
                | skip
                  refine w_aload_n dX10_best_69 rfl ?_
                  refine w_getR (w := some (14, 0, 0)) ff_X10_43 rfl rfl dX10_best_70 rfl ?_
                  refine w_getI ff_X10_222 rfl rfl dX10_best_73 ?_
                  rw [show (I1 14 0 0 3 : Int32) = nI b.2.1 from q2]
                  refine w_goto (tgt := 90) dX10_best_76 (by decide) ?_
                  exact w_ireturn dX10_best_90 rfl (rfl) rfl (⟨rfl, _, _, rfl, hf1.q⟩)
          · skip
            replace h3 : ((10 + p : Nat) : Int) = 0 := (zeq (z_nI (by omega)) (by decide)).mp h3
            first
            | (exfalso; omega)
            | skip
              refine w_aload_n dX10_best_56 rfl ?_
              refine w_getR (w := some (14, 0, 0)) ff_X10_43 rfl rfl dX10_best_57 rfl ?_
              refine w_getI ff_X10_219 rfl rfl dX10_best_60 ?_
              rw [show (I1 14 0 0 2 : Int32) = nI b.1 from q1]
              exact w_ireturn dX10_best_63 rfl (rfl) rfl (⟨rfl, _, _, rfl, hf1.q⟩)
      · skip
        replace h2 : ¬ (((10 + p : Nat) : Int) = 0) := fun q => h2 ((zeq (z_nI (by omega)) (by decide)).mpr q)
        first
        | (exfalso; omega)
        | skip
          refine w_iload_n dX10_best_30 rfl ?_
          refine w_iconst (v := 1) dX10_best_31 (by decide) ?_
          refine w_icmp_eq (tgt := 41) dX10_best_32 (by decide) (fun h3 => ?_) (fun h3 => ?_)
          · skip
            replace h3 : ((10 + p : Nat) : Int) = 1 := (zeq (z_nI (by omega)) (by decide)).mp h3
            first
            | (exfalso; omega)
            | skip
              refine w_aload_n dX10_best_41 rfl ?_
              refine w_getR (w := some (14, 0, 0)) ff_X10_43 rfl rfl dX10_best_42 rfl ?_
              refine w_aload_n dX10_best_45 rfl ?_
              refine w_getR (w := some (1, 0, 0)) ff_X10_10 rfl rfl dX10_best_46 rfl ?_
              refine w_callV (as := [vR 1 0 0]) (st := []) (Tri.mono (c_search hc hw) (Nat.le_of_ble_eq_true rfl)) rfl rfl tg_X5_search lk_X10_216 in_X5_search se_X5_search rfl dX10_best_49 rfl (Nat.le_of_ble_eq_true rfl) (Nat.le_refl _) (Nat.le_refl _) ?_
              rintro v M9 ⟨rfl, I1, rfl, hro, hf1⟩ -
              rw [hbr] at hro
              obtain ⟨q1, q2, q3, q4, q5⟩ := hro
              refine w_iload_n dX10_best_52 rfl ?_
              refine w_if_ne (tgt := 64) dX10_best_53 (by decide) (fun h4 => ?_) (fun h4 => ?_)
              · skip
                replace h4 : ¬ (((10 + p : Nat) : Int) = 0) := fun q => h4 ((zeq (z_nI (by omega)) (by decide)).mpr q)
                first
                | (exfalso; omega)
                | skip
                  refine w_iload_n dX10_best_64 rfl ?_
                  refine w_iconst (v := 1) dX10_best_65 (by decide) ?_
                  refine w_icmp_ne (tgt := 79) dX10_best_66 (by decide) (fun h5 => ?_) (fun h5 => ?_)
                  · skip
                    replace h5 : ¬ (((10 + p : Nat) : Int) = 1) := fun q => h5 ((zeq (z_nI (by omega)) (by decide)).mpr q)
                    first
                    | (exfalso; omega)
                    | skip
                      refine w_aload_n dX10_best_79 rfl ?_
                      refine w_getR (w := some (14, 0, 0)) ff_X10_43 rfl rfl dX10_best_80 rfl ?_
                      refine w_iload_n dX10_best_83 rfl ?_
                      refine w_bipush (v := 10) dX10_best_84 (by decide) ?_
                      refine w_isub dX10_best_86 ?_
                      rw [show ((nI (10 + p)) - (10) : Int32) = nI p from ten_p p (by omega)]
                      refine w_callV (as := [vI (nI p)]) (st := []) (Tri.mono (c_suitOf (i := p) (by omega)) (Nat.le_of_ble_eq_true rfl)) rfl rfl tg_X5_suitOf lk_X10_225 in_X5_suitOf se_X5_suitOf rfl dX10_best_87 rfl (Nat.le_of_ble_eq_true rfl) (Nat.le_refl _) (Nat.le_refl _) ?_
                      rintro _ _ ⟨rfl, rfl⟩ -
                      refine w_top (y := pkI a (b.2.2 / (nC a + 1) ^ (nJ a - 1 - p) % (nC a + 1))) (show (I1 16 0 0 p : Int32) = pkI a (b.2.2 / (nC a + 1) ^ (nJ a - 1 - p) % (nC a + 1)) from q5 p hp) ?_
                      exact w_ireturn dX10_best_90 rfl (rfl) rfl (⟨rfl, _, _, rfl, hf1.q⟩)
                  · skip
                    replace h5 : ((10 + p : Nat) : Int) = 1 := (zeq (z_nI (by omega)) (by decide)).mp h5
                    first
                    | (exfalso; omega)
                    | skip
                      refine w_aload_n dX10_best_69 rfl ?_
                      refine w_getR (w := some (14, 0, 0)) ff_X10_43 rfl rfl dX10_best_70 rfl ?_
                      refine w_getI ff_X10_222 rfl rfl dX10_best_73 ?_
                      rw [show (I1 14 0 0 3 : Int32) = nI b.2.1 from q2]
                      refine w_goto (tgt := 90) dX10_best_76 (by decide) ?_
                      exact w_ireturn dX10_best_90 rfl (rfl) rfl (⟨rfl, _, _, rfl, hf1.q⟩)
              · skip
                replace h4 : ((10 + p : Nat) : Int) = 0 := (zeq (z_nI (by omega)) (by decide)).mp h4
                first
                | (exfalso; omega)
                | skip
                  refine w_aload_n dX10_best_56 rfl ?_
                  refine w_getR (w := some (14, 0, 0)) ff_X10_43 rfl rfl dX10_best_57 rfl ?_
                  refine w_getI ff_X10_219 rfl rfl dX10_best_60 ?_
                  rw [show (I1 14 0 0 2 : Int32) = nI b.1 from q1]
                  exact w_ireturn dX10_best_63 rfl (rfl) rfl (⟨rfl, _, _, rfl, hf1.q⟩)
          · skip
            replace h3 : ¬ (((10 + p : Nat) : Int) = 1) := fun q => h3 ((zeq (z_nI (by omega)) (by decide)).mpr q)
            first
            | (exfalso; omega)
            | skip
              refine w_iload_n dX10_best_35 rfl ?_
              refine w_if_ne (tgt := 41) dX10_best_36 (by decide) (fun h => absurd (by decide) h) (fun _ => ?_)
              refine w_iconst (v := (-1)) dX10_best_39 (by decide) ?_
              exact w_ireturn dX10_best_40 rfl (rfl) rfl (⟨rfl, _, _, rfl, FrQ.rf⟩)
  · skip
    replace h1 : ¬ (((10 + p : Nat) : Int) < 10) := fun q => h1 ((zlt (z_nI (by omega)) (by decide)).mpr q)
    first
    | (exfalso; omega)
    | skip
      refine w_aload_n dX10_best_6 rfl ?_
      refine w_getR (w := some (1, 0, 0)) ff_X10_10 rfl rfl dX10_best_7 rfl ?_
      refine w_iload_n dX10_best_10 rfl ?_
      refine w_bipush (v := 10) dX10_best_11 (by decide) ?_
      refine w_isub dX10_best_13 ?_
      rw [show ((nI (10 + p)) - (10) : Int32) = nI p from ten_p p (by omega)]
      refine w_callV (as := [vI (nI p)]) (st := []) (Tri.mono (c_jAt hc hw hp) (Nat.le_of_ble_eq_true rfl)) rfl rfl tg_X1_judgeAt lk_X10_111 in_X1_judgeAt se_X1_judgeAt rfl dX10_best_14 rfl (Nat.le_of_ble_eq_true rfl) (Nat.le_refl _) (Nat.le_refl _) ?_
      rintro _ _ ⟨rfl, rfl⟩ -
      refine w_ifnull (tgt := 24) dX10_best_17 (by decide) (fun h => by cases h) (fun _ _ => ?_)
      refine w_iconst (v := 1) dX10_best_20 (by decide) ?_
      refine w_goto (tgt := 25) dX10_best_21 (by decide) ?_
      refine w_istore_n (ls' := [some (vR 0 0 0), some (vI (nI (10 + p))), some (vI (1))]) dX10_best_25 rfl ?_
      refine w_iload_n dX10_best_26 rfl ?_
      refine w_if_eq (tgt := 41) dX10_best_27 (by decide) (fun h2 => ?_) (fun h2 => ?_)
      · skip
        replace h2 : ((10 + p : Nat) : Int) = 0 := (zeq (z_nI (by omega)) (by decide)).mp h2
        first
        | (exfalso; omega)
        | skip
          refine w_aload_n dX10_best_41 rfl ?_
          refine w_getR (w := some (14, 0, 0)) ff_X10_43 rfl rfl dX10_best_42 rfl ?_
          refine w_aload_n dX10_best_45 rfl ?_
          refine w_getR (w := some (1, 0, 0)) ff_X10_10 rfl rfl dX10_best_46 rfl ?_
          refine w_callV (as := [vR 1 0 0]) (st := []) (Tri.mono (c_search hc hw) (Nat.le_of_ble_eq_true rfl)) rfl rfl tg_X5_search lk_X10_216 in_X5_search se_X5_search rfl dX10_best_49 rfl (Nat.le_of_ble_eq_true rfl) (Nat.le_refl _) (Nat.le_refl _) ?_
          rintro v M9 ⟨rfl, I1, rfl, hro, hf1⟩ -
          rw [hbr] at hro
          obtain ⟨q1, q2, q3, q4, q5⟩ := hro
          refine w_iload_n dX10_best_52 rfl ?_
          refine w_if_ne (tgt := 64) dX10_best_53 (by decide) (fun h3 => ?_) (fun h3 => ?_)
          · skip
            replace h3 : ¬ (((10 + p : Nat) : Int) = 0) := fun q => h3 ((zeq (z_nI (by omega)) (by decide)).mpr q)
            first
            | (exfalso; omega)
            | skip
              refine w_iload_n dX10_best_64 rfl ?_
              refine w_iconst (v := 1) dX10_best_65 (by decide) ?_
              refine w_icmp_ne (tgt := 79) dX10_best_66 (by decide) (fun h4 => ?_) (fun h4 => ?_)
              · skip
                replace h4 : ¬ (((10 + p : Nat) : Int) = 1) := fun q => h4 ((zeq (z_nI (by omega)) (by decide)).mpr q)
                first
                | (exfalso; omega)
                | skip
                  refine w_aload_n dX10_best_79 rfl ?_
                  refine w_getR (w := some (14, 0, 0)) ff_X10_43 rfl rfl dX10_best_80 rfl ?_
                  refine w_iload_n dX10_best_83 rfl ?_
                  refine w_bipush (v := 10) dX10_best_84 (by decide) ?_
                  refine w_isub dX10_best_86 ?_
                  rw [show ((nI (10 + p)) - (10) : Int32) = nI p from ten_p p (by omega)]
                  refine w_callV (as := [vI (nI p)]) (st := []) (Tri.mono (c_suitOf (i := p) (by omega)) (Nat.le_of_ble_eq_true rfl)) rfl rfl tg_X5_suitOf lk_X10_225 in_X5_suitOf se_X5_suitOf rfl dX10_best_87 rfl (Nat.le_of_ble_eq_true rfl) (Nat.le_refl _) (Nat.le_refl _) ?_
                  rintro _ _ ⟨rfl, rfl⟩ -
                  refine w_top (y := pkI a (b.2.2 / (nC a + 1) ^ (nJ a - 1 - p) % (nC a + 1))) (show (I1 16 0 0 p : Int32) = pkI a (b.2.2 / (nC a + 1) ^ (nJ a - 1 - p) % (nC a + 1)) from q5 p hp) ?_
                  exact w_ireturn dX10_best_90 rfl (rfl) rfl (⟨rfl, _, _, rfl, hf1.q⟩)
              · skip
                replace h4 : ((10 + p : Nat) : Int) = 1 := (zeq (z_nI (by omega)) (by decide)).mp h4
                first
                | (exfalso; omega)
                | skip
                  refine w_aload_n dX10_best_69 rfl ?_
                  refine w_getR (w := some (14, 0, 0)) ff_X10_43 rfl rfl dX10_best_70 rfl ?_
                  refine w_getI ff_X10_222 rfl rfl dX10_best_73 ?_
                  rw [show (I1 14 0 0 3 : Int32) = nI b.2.1 from q2]
                  refine w_goto (tgt := 90) dX10_best_76 (by decide) ?_
                  exact w_ireturn dX10_best_90 rfl (rfl) rfl (⟨rfl, _, _, rfl, hf1.q⟩)
          · skip
            replace h3 : ((10 + p : Nat) : Int) = 0 := (zeq (z_nI (by omega)) (by decide)).mp h3
            first
            | (exfalso; omega)
            | skip
              refine w_aload_n dX10_best_56 rfl ?_
              refine w_getR (w := some (14, 0, 0)) ff_X10_43 rfl rfl dX10_best_57 rfl ?_
              refine w_getI ff_X10_219 rfl rfl dX10_best_60 ?_
              rw [show (I1 14 0 0 2 : Int32) = nI b.1 from q1]
              exact w_ireturn dX10_best_63 rfl (rfl) rfl (⟨rfl, _, _, rfl, hf1.q⟩)
      · skip
        replace h2 : ¬ (((10 + p : Nat) : Int) = 0) := fun q => h2 ((zeq (z_nI (by omega)) (by decide)).mpr q)
        first
        | (exfalso; omega)
        | skip
          refine w_iload_n dX10_best_30 rfl ?_
          refine w_iconst (v := 1) dX10_best_31 (by decide) ?_
          refine w_icmp_eq (tgt := 41) dX10_best_32 (by decide) (fun h3 => ?_) (fun h3 => ?_)
          · skip
            replace h3 : ((10 + p : Nat) : Int) = 1 := (zeq (z_nI (by omega)) (by decide)).mp h3
            first
            | (exfalso; omega)
            | skip
              refine w_aload_n dX10_best_41 rfl ?_
              refine w_getR (w := some (14, 0, 0)) ff_X10_43 rfl rfl dX10_best_42 rfl ?_
              refine w_aload_n dX10_best_45 rfl ?_
              refine w_getR (w := some (1, 0, 0)) ff_X10_10 rfl rfl dX10_best_46 rfl ?_
              refine w_callV (as := [vR 1 0 0]) (st := []) (Tri.mono (c_search hc hw) (Nat.le_of_ble_eq_true rfl)) rfl rfl tg_X5_search lk_X10_216 in_X5_search se_X5_search rfl dX10_best_49 rfl (Nat.le_of_ble_eq_true rfl) (Nat.le_refl _) (Nat.le_refl _) ?_
              rintro v M9 ⟨rfl, I1, rfl, hro, hf1⟩ -
              rw [hbr] at hro
              obtain ⟨q1, q2, q3, q4, q5⟩ := hro
              refine w_iload_n dX10_best_52 rfl ?_
              refine w_if_ne (tgt := 64) dX10_best_53 (by decide) (fun h4 => ?_) (fun h4 => ?_)
              · skip
                replace h4 : ¬ (((10 + p : Nat) : Int) = 0) := fun q => h4 ((zeq (z_nI (by omega)) (by decide)).mpr q)
                first
                | (exfalso; omega)
                | skip
                  refine w_iload_n dX10_best_64 rfl ?_
                  refine w_iconst (v := 1) dX10_best_65 (by decide) ?_
                  refine w_icmp_ne (tgt := 79) dX10_best_66 (by decide) (fun h5 => ?_) (fun h5 => ?_)
                  · skip
                    replace h5 : ¬ (((10 + p : Nat) : Int) = 1) := fun q => h5 ((zeq (z_nI (by omega)) (by decide)).mpr q)
                    first
                    | (exfalso; omega)
                    | skip
                      refine w_aload_n dX10_best_79 rfl ?_
                      refine w_getR (w := some (14, 0, 0)) ff_X10_43 rfl rfl dX10_best_80 rfl ?_
                      refine w_iload_n dX10_best_83 rfl ?_
                      refine w_bipush (v := 10) dX10_best_84 (by decide) ?_
                      refine w_isub dX10_best_86 ?_
                      rw [show ((nI (10 + p)) - (10) : Int32) = nI p from ten_p p (by omega)]
                      refine w_callV (as := [vI (nI p)]) (st := []) (Tri.mono (c_suitOf (i := p) (by omega)) (Nat.le_of_ble_eq_true rfl)) rfl rfl tg_X5_suitOf lk_X10_225 in_X5_suitOf se_X5_suitOf rfl dX10_best_87 rfl (Nat.le_of_ble_eq_true rfl) (Nat.le_refl _) (Nat.le_refl _) ?_
                      rintro _ _ ⟨rfl, rfl⟩ -
                      refine w_top (y := pkI a (b.2.2 / (nC a + 1) ^ (nJ a - 1 - p) % (nC a + 1))) (show (I1 16 0 0 p : Int32) = pkI a (b.2.2 / (nC a + 1) ^ (nJ a - 1 - p) % (nC a + 1)) from q5 p hp) ?_
                      exact w_ireturn dX10_best_90 rfl (rfl) rfl (⟨rfl, _, _, rfl, hf1.q⟩)
                  · skip
                    replace h5 : ((10 + p : Nat) : Int) = 1 := (zeq (z_nI (by omega)) (by decide)).mp h5
                    first
                    | (exfalso; omega)
                    | skip
                      refine w_aload_n dX10_best_69 rfl ?_
                      refine w_getR (w := some (14, 0, 0)) ff_X10_43 rfl rfl dX10_best_70 rfl ?_
                      refine w_getI ff_X10_222 rfl rfl dX10_best_73 ?_
                      rw [show (I1 14 0 0 3 : Int32) = nI b.2.1 from q2]
                      refine w_goto (tgt := 90) dX10_best_76 (by decide) ?_
                      exact w_ireturn dX10_best_90 rfl (rfl) rfl (⟨rfl, _, _, rfl, hf1.q⟩)
              · skip
                replace h4 : ((10 + p : Nat) : Int) = 0 := (zeq (z_nI (by omega)) (by decide)).mp h4
                first
                | (exfalso; omega)
                | skip
                  refine w_aload_n dX10_best_56 rfl ?_
                  refine w_getR (w := some (14, 0, 0)) ff_X10_43 rfl rfl dX10_best_57 rfl ?_
                  refine w_getI ff_X10_219 rfl rfl dX10_best_60 ?_
                  rw [show (I1 14 0 0 2 : Int32) = nI b.1 from q1]
                  exact w_ireturn dX10_best_63 rfl (rfl) rfl (⟨rfl, _, _, rfl, hf1.q⟩)
          · skip
            replace h3 : ¬ (((10 + p : Nat) : Int) = 1) := fun q => h3 ((zeq (z_nI (by omega)) (by decide)).mpr q)
            first
            | (exfalso; omega)
            | skip
              refine w_iload_n dX10_best_35 rfl ?_
              refine w_if_ne (tgt := 41) dX10_best_36 (by decide) (fun _ => ?_) (fun h => absurd h (by decide))
              refine w_aload_n dX10_best_41 rfl ?_
              refine w_getR (w := some (14, 0, 0)) ff_X10_43 rfl rfl dX10_best_42 rfl ?_
              refine w_aload_n dX10_best_45 rfl ?_
              refine w_getR (w := some (1, 0, 0)) ff_X10_10 rfl rfl dX10_best_46 rfl ?_
              refine w_callV (as := [vR 1 0 0]) (st := []) (Tri.mono (c_search hc hw) (Nat.le_of_ble_eq_true rfl)) rfl rfl tg_X5_search lk_X10_216 in_X5_search se_X5_search rfl dX10_best_49 rfl (Nat.le_of_ble_eq_true rfl) (Nat.le_refl _) (Nat.le_refl _) ?_
              rintro v M9 ⟨rfl, I1, rfl, hro, hf1⟩ -
              rw [hbr] at hro
              obtain ⟨q1, q2, q3, q4, q5⟩ := hro
              refine w_iload_n dX10_best_52 rfl ?_
              refine w_if_ne (tgt := 64) dX10_best_53 (by decide) (fun h4 => ?_) (fun h4 => ?_)
              · skip
                replace h4 : ¬ (((10 + p : Nat) : Int) = 0) := fun q => h4 ((zeq (z_nI (by omega)) (by decide)).mpr q)
                first
                | (exfalso; omega)
                | skip
                  refine w_iload_n dX10_best_64 rfl ?_
                  refine w_iconst (v := 1) dX10_best_65 (by decide) ?_
                  refine w_icmp_ne (tgt := 79) dX10_best_66 (by decide) (fun h5 => ?_) (fun h5 => ?_)
                  · skip
                    replace h5 : ¬ (((10 + p : Nat) : Int) = 1) := fun q => h5 ((zeq (z_nI (by omega)) (by decide)).mpr q)
                    first
                    | (exfalso; omega)
                    | skip
                      refine w_aload_n dX10_best_79 rfl ?_
                      refine w_getR (w := some (14, 0, 0)) ff_X10_43 rfl rfl dX10_best_80 rfl ?_
                      refine w_iload_n dX10_best_83 rfl ?_
                      refine w_bipush (v := 10) dX10_best_84 (by decide) ?_
                      refine w_isub dX10_best_86 ?_
                      rw [show ((nI (10 + p)) - (10) : Int32) = nI p from ten_p p (by omega)]
                      refine w_callV (as := [vI (nI p)]) (st := []) (Tri.mono (c_suitOf (i := p) (by omega)) (Nat.le_of_ble_eq_true rfl)) rfl rfl tg_X5_suitOf lk_X10_225 in_X5_suitOf se_X5_suitOf rfl dX10_best_87 rfl (Nat.le_of_ble_eq_true rfl) (Nat.le_refl _) (Nat.le_refl _) ?_
                      rintro _ _ ⟨rfl, rfl⟩ -
                      refine w_top (y := pkI a (b.2.2 / (nC a + 1) ^ (nJ a - 1 - p) % (nC a + 1))) (show (I1 16 0 0 p : Int32) = pkI a (b.2.2 / (nC a + 1) ^ (nJ a - 1 - p) % (nC a + 1)) from q5 p hp) ?_
                      exact w_ireturn dX10_best_90 rfl (rfl) rfl (⟨rfl, _, _, rfl, hf1.q⟩)
                  · skip
                    replace h5 : ((10 + p : Nat) : Int) = 1 := (zeq (z_nI (by omega)) (by decide)).mp h5
                    first
                    | (exfalso; omega)
                    | skip
                      refine w_aload_n dX10_best_69 rfl ?_
                      refine w_getR (w := some (14, 0, 0)) ff_X10_43 rfl rfl dX10_best_70 rfl ?_
                      refine w_getI ff_X10_222 rfl rfl dX10_best_73 ?_
                      rw [show (I1 14 0 0 3 : Int32) = nI b.2.1 from q2]
                      refine w_goto (tgt := 90) dX10_best_76 (by decide) ?_
                      exact w_ireturn dX10_best_90 rfl (rfl) rfl (⟨rfl, _, _, rfl, hf1.q⟩)
              · skip
                replace h4 : ((10 + p : Nat) : Int) = 0 := (zeq (z_nI (by omega)) (by decide)).mp h4
                first
                | (exfalso; omega)
                | skip
                  refine w_aload_n dX10_best_56 rfl ?_
                  refine w_getR (w := some (14, 0, 0)) ff_X10_43 rfl rfl dX10_best_57 rfl ?_
                  refine w_getI ff_X10_219 rfl rfl dX10_best_60 ?_
                  rw [show (I1 14 0 0 2 : Int32) = nI b.1 from q1]
                  exact w_ireturn dX10_best_63 rfl (rfl) rfl (⟨rfl, _, _, rfl, hf1.q⟩)

theorem q_best_p {I : xF4 Int32} {L : xF4 Int64} {a : aA} (hs : SI I a) (hw : WF a) {b : Nat × (Nat × Nat)} (hbr : bestR a = some b) {p : Nat} (hp : p < nJ a) : Tri 19 109 m_X11_best [vR 30 0 0, vI (nI (10 + p))] (rM I L) (pMq (vI (pkI a (b.2.2 / (nC a + 1) ^ (nJ a - 1 - p) % (nC a + 1)))) I) := by
  refine ⟨k_X11_best, Nat.le_of_ble_eq_true rfl, ?_⟩
  show Wp _ _ _ 0 [some (vR 30 0 0), some (vI (nI (10 + p))), none, none, none, none, none, none] [] (rM I L) _
  obtain ⟨hJ, hC, hG, hD, hR, -⟩ := id hw
  refine w_iload_n dX11_best_0 rfl ?_
  refine w_callS (as := [vI (nI (10 + p))]) (st := []) (Tri.mono (d_isPart (x := nI (10 + p)) (X := ((10 + p : Nat) : Int)) (z_nI (by omega))) (Nat.le_of_ble_eq_true rfl)) tg_X11_isPart lk_X11_245 sa_X11_isPart rfl dX11_best_1 rfl (Nat.le_of_ble_eq_true rfl) (Nat.le_refl _) (Nat.le_refl _) ?_
  rintro _ _ ⟨rfl, rfl⟩ -
  refine w_ifne_b (tgt := 20) dX11_best_4 (by decide) (fun h1 => ?_) (fun h1 => ?_)
  · skip
    first
    | (exfalso; omega)
    | skip
      refine w_iconst (v := (-1)) dX11_best_20 (by decide) ?_
      refine w_istore_n (ls' := [some (vR 30 0 0), some (vI (nI (10 + p))), some (vI ((-1))), none, none, none, none, none]) dX11_best_21 rfl ?_
      refine w_ldc dX11_best_22 ct_X11_248 ?_
      refine w_istore_n (ls' := [some (vR 30 0 0), some (vI (nI (10 + p))), some (vI ((-1))), some (vI (1000000)), none, none, none, none]) dX11_best_24 rfl ?_
      refine w_iconst (v := 0) dX11_best_25 (by decide) ?_
      refine w_istore (ls' := [some (vR 30 0 0), some (vI (nI (10 + p))), some (vI ((-1))), some (vI (1000000)), some (vI (0)), none, none, none]) dX11_best_26 rfl ?_
      refine w_iconst (v := 0) dX11_best_28 (by decide) ?_
      refine w_istore (ls' := [some (vR 30 0 0), some (vI (nI (10 + p))), some (vI ((-1))), some (vI (1000000)), some (vI (0)), some (vI (0)), none, none]) dX11_best_29 rfl ?_
      refine Wp.mono (d := 18) ?_ (by omega)
      refine l_bestM hw ((nC a + 1) ^ nJ a) 0 I _ _ (Nat.zero_add _) hs FrR.rf (fun b h => by cases h) (fun I9 o6 o7 hs9 hf9 hB9 => ?_)
      rw [show (fldG a (nJ a) 0 (cR a) 0 ((nC a + 1) ^ nJ a) none) = some b from hbr] at hB9 ⊢
      rw [show bmI (some b) = nI b.1 from rfl, show blI (some b) = nI b.2.1 from rfl, show bkI (some b) = nI b.2.2 from rfl]
      obtain ⟨y1, y2, y3⟩ := hB9 b rfl
      have hpk := powK hw (nJ a) hw.1
      refine w_iload_n dX11_best_137 rfl ?_
      refine w_callS (as := [vI (nI (10 + p))]) (st := []) (Tri.mono (d_isPart (x := nI (10 + p)) (X := ((10 + p : Nat) : Int)) (z_nI (by omega))) (Nat.le_of_ble_eq_true rfl)) tg_X11_isPart lk_X11_245 sa_X11_isPart rfl dX11_best_138 rfl (Nat.le_of_ble_eq_true rfl) (Nat.le_refl _) (Nat.le_refl _) ?_
      rintro _ _ ⟨rfl, rfl⟩ -
      refine w_ifeq_b (tgt := 154) dX11_best_141 (by decide) (fun h1 => ?_) (fun h1 => ?_)
      · skip
        first
        | (exfalso; omega)
        | skip
          refine w_aload_n dX11_best_154 rfl ?_
          refine w_iload dX11_best_155 rfl ?_
          refine w_iload_n dX11_best_157 rfl ?_
          refine w_bipush (v := 10) dX11_best_158 (by decide) ?_
          refine w_isub dX11_best_160 ?_
          rw [show ((nI (10 + p)) - (10) : Int32) = nI p from ten_p p (by omega)]
          obtain ⟨c9, hc9⟩ : ∃ c, c = b.2.2 / (nC a + 1) ^ (nJ a - 1 - p) % (nC a + 1) := ⟨_, rfl⟩
          rw [← hc9]
          have hcK : c9 < nC a + 1 := by rw [hc9]; exact Nat.mod_lt _ (by omega)
          refine w_callV (as := [vI (nI b.2.2), vI (nI p)]) (st := []) (Tri.mono (d_caseInS hs9 hw (num := b.2.2) (j := p) (by omega) hp) (Nat.le_of_ble_eq_true rfl)) rfl rfl tg_X11_caseIn lk_X11_242 in_X11_caseIn se_X11_caseIn rfl dX11_best_161 rfl (Nat.le_of_ble_eq_true rfl) (Nat.le_refl _) (Nat.le_refl _) ?_
          rintro _ _ ⟨rfl, rfl⟩ -
          refine w_top (y := nI c9) (show (nI (b.2.2 / (nC a + 1) ^ (nJ a - 1 - p) % (nC a + 1)) : Int32) = nI c9 from congrArg nI hc9.symm) ?_
          refine w_istore (ls' := [some (vR 30 0 0), some (vI (nI (10 + p))), some (vI (nI b.1)), some (vI (nI b.2.1)), some (vI (nI b.2.2)), some (vI (nI c9)), o6, o7]) dX11_best_164 rfl ?_
          refine w_iload dX11_best_166 rfl ?_
          refine w_aload_n dX11_best_168 rfl ?_
          refine w_getI ff_X11_61 rfl rfl dX11_best_169 ?_
          rw [show (I9 30 0 0 4 : Int32) = nI (nC a) from hs9.2.1]
          refine w_icmp_ge (tgt := 180) dX11_best_172 (by decide) (fun h2 => ?_) (fun h2 => ?_)
          · skip
            replace h2 : (nC a) ≤ (c9) := (nI_leI (a := nC a) (b := c9) (by omega) (by omega)).mp h2
            first
            | (exfalso; omega)
            | skip
              refine w_bipush (v := (-4)) dX11_best_180 (by decide) ?_
              refine w_top (y := pkI a c9) (show ((-4) : Int32) = pkI a c9 from by unfold pkI; rw [if_neg (by omega)]) ?_
              exact w_ireturn dX11_best_182 rfl (rfl) rfl (⟨rfl, _, _, rfl, hf9⟩)
          · skip
            replace h2 : ¬ ((nC a) ≤ (c9)) := fun q => h2 ((nI_leI (a := nC a) (b := c9) (by omega) (by omega)).mpr q)
            first
            | (exfalso; omega)
            | skip
              refine w_iload dX11_best_175 rfl ?_
              refine w_goto (tgt := 182) dX11_best_177 (by decide) ?_
              refine w_top (y := pkI a c9) (show (nI c9 : Int32) = pkI a c9 from by unfold pkI; rw [if_pos (by omega)]) ?_
              exact w_ireturn dX11_best_182 rfl (rfl) rfl (⟨rfl, _, _, rfl, hf9⟩)
      · skip
        first
        | (exfalso; omega)
        | skip
          refine w_iload_n dX11_best_144 rfl ?_
          refine w_if_ne (tgt := 152) dX11_best_145 (by decide) (fun h2 => ?_) (fun h2 => ?_)
          · skip
            replace h2 : ¬ ((10 + p) = (0)) := fun q => h2 ((nI_eq (a := 10 + p) (b := 0) (by omega) (by omega)).mpr q)
            first
            | (exfalso; omega)
            | skip
              refine w_iload_n dX11_best_152 rfl ?_
              refine w_top (y := pkI a c9) (show (nI b.2.1 : Int32) = pkI a c9 from by unfold pkI; rw [if_pos (by omega)]) ?_
              exact w_ireturn dX11_best_153 rfl (rfl) rfl (⟨rfl, _, _, rfl, hf9⟩)
          · skip
            replace h2 : (10 + p) = (0) := (nI_eq (a := 10 + p) (b := 0) (by omega) (by omega)).mp h2
            first
            | (exfalso; omega)
            | skip
              refine w_iload_n dX11_best_148 rfl ?_
              refine w_goto (tgt := 153) dX11_best_149 (by decide) ?_
              refine w_top (y := pkI a c9) (show (nI b.1 : Int32) = pkI a c9 from by unfold pkI; rw [if_pos (by omega)]) ?_
              exact w_ireturn dX11_best_153 rfl (rfl) rfl (⟨rfl, _, _, rfl, hf9⟩)
  · skip
    first
    | (exfalso; omega)
    | skip
      refine w_aload_n dX11_best_7 rfl ?_
      refine w_iload_n dX11_best_8 rfl ?_
      refine w_bipush (v := 10) dX11_best_9 (by decide) ?_
      refine w_isub dX11_best_11 ?_
      rw [show ((nI (10 + p)) - (10) : Int32) = nI p from ten_p p (by omega)]
      refine w_callV (as := [vI (nI p)]) (st := []) (Tri.mono (d_isJudge (hs.1) (by omega) (x := nI p) (X := ((p : Nat) : Int)) (z_nI (by omega))) (Nat.le_of_ble_eq_true rfl)) rfl rfl tg_X11_isJudge lk_X11_198 in_X11_isJudge se_X11_isJudge rfl dX11_best_12 rfl (Nat.le_of_ble_eq_true rfl) (Nat.le_refl _) (Nat.le_refl _) ?_
      rintro _ _ ⟨rfl, rfl⟩ -
      refine w_ifne_b (tgt := 20) dX11_best_15 (by decide) (fun h2 => ?_) (fun h2 => ?_)
      · skip
        first
        | (exfalso; omega)
        | skip
          refine w_iconst (v := (-1)) dX11_best_20 (by decide) ?_
          refine w_istore_n (ls' := [some (vR 30 0 0), some (vI (nI (10 + p))), some (vI ((-1))), none, none, none, none, none]) dX11_best_21 rfl ?_
          refine w_ldc dX11_best_22 ct_X11_248 ?_
          refine w_istore_n (ls' := [some (vR 30 0 0), some (vI (nI (10 + p))), some (vI ((-1))), some (vI (1000000)), none, none, none, none]) dX11_best_24 rfl ?_
          refine w_iconst (v := 0) dX11_best_25 (by decide) ?_
          refine w_istore (ls' := [some (vR 30 0 0), some (vI (nI (10 + p))), some (vI ((-1))), some (vI (1000000)), some (vI (0)), none, none, none]) dX11_best_26 rfl ?_
          refine w_iconst (v := 0) dX11_best_28 (by decide) ?_
          refine w_istore (ls' := [some (vR 30 0 0), some (vI (nI (10 + p))), some (vI ((-1))), some (vI (1000000)), some (vI (0)), some (vI (0)), none, none]) dX11_best_29 rfl ?_
          refine Wp.mono (d := 18) ?_ (by omega)
          refine l_bestM hw ((nC a + 1) ^ nJ a) 0 I _ _ (Nat.zero_add _) hs FrR.rf (fun b h => by cases h) (fun I9 o6 o7 hs9 hf9 hB9 => ?_)
          rw [show (fldG a (nJ a) 0 (cR a) 0 ((nC a + 1) ^ nJ a) none) = some b from hbr] at hB9 ⊢
          rw [show bmI (some b) = nI b.1 from rfl, show blI (some b) = nI b.2.1 from rfl, show bkI (some b) = nI b.2.2 from rfl]
          obtain ⟨y1, y2, y3⟩ := hB9 b rfl
          have hpk := powK hw (nJ a) hw.1
          refine w_iload_n dX11_best_137 rfl ?_
          refine w_callS (as := [vI (nI (10 + p))]) (st := []) (Tri.mono (d_isPart (x := nI (10 + p)) (X := ((10 + p : Nat) : Int)) (z_nI (by omega))) (Nat.le_of_ble_eq_true rfl)) tg_X11_isPart lk_X11_245 sa_X11_isPart rfl dX11_best_138 rfl (Nat.le_of_ble_eq_true rfl) (Nat.le_refl _) (Nat.le_refl _) ?_
          rintro _ _ ⟨rfl, rfl⟩ -
          refine w_ifeq_b (tgt := 154) dX11_best_141 (by decide) (fun h1 => ?_) (fun h1 => ?_)
          · skip
            first
            | (exfalso; omega)
            | skip
              refine w_aload_n dX11_best_154 rfl ?_
              refine w_iload dX11_best_155 rfl ?_
              refine w_iload_n dX11_best_157 rfl ?_
              refine w_bipush (v := 10) dX11_best_158 (by decide) ?_
              refine w_isub dX11_best_160 ?_
              rw [show ((nI (10 + p)) - (10) : Int32) = nI p from ten_p p (by omega)]
              obtain ⟨c9, hc9⟩ : ∃ c, c = b.2.2 / (nC a + 1) ^ (nJ a - 1 - p) % (nC a + 1) := ⟨_, rfl⟩
              rw [← hc9]
              have hcK : c9 < nC a + 1 := by rw [hc9]; exact Nat.mod_lt _ (by omega)
              refine w_callV (as := [vI (nI b.2.2), vI (nI p)]) (st := []) (Tri.mono (d_caseInS hs9 hw (num := b.2.2) (j := p) (by omega) hp) (Nat.le_of_ble_eq_true rfl)) rfl rfl tg_X11_caseIn lk_X11_242 in_X11_caseIn se_X11_caseIn rfl dX11_best_161 rfl (Nat.le_of_ble_eq_true rfl) (Nat.le_refl _) (Nat.le_refl _) ?_
              rintro _ _ ⟨rfl, rfl⟩ -
              refine w_top (y := nI c9) (show (nI (b.2.2 / (nC a + 1) ^ (nJ a - 1 - p) % (nC a + 1)) : Int32) = nI c9 from congrArg nI hc9.symm) ?_
              refine w_istore (ls' := [some (vR 30 0 0), some (vI (nI (10 + p))), some (vI (nI b.1)), some (vI (nI b.2.1)), some (vI (nI b.2.2)), some (vI (nI c9)), o6, o7]) dX11_best_164 rfl ?_
              refine w_iload dX11_best_166 rfl ?_
              refine w_aload_n dX11_best_168 rfl ?_
              refine w_getI ff_X11_61 rfl rfl dX11_best_169 ?_
              rw [show (I9 30 0 0 4 : Int32) = nI (nC a) from hs9.2.1]
              refine w_icmp_ge (tgt := 180) dX11_best_172 (by decide) (fun h2 => ?_) (fun h2 => ?_)
              · skip
                replace h2 : (nC a) ≤ (c9) := (nI_leI (a := nC a) (b := c9) (by omega) (by omega)).mp h2
                first
                | (exfalso; omega)
                | skip
                  refine w_bipush (v := (-4)) dX11_best_180 (by decide) ?_
                  refine w_top (y := pkI a c9) (show ((-4) : Int32) = pkI a c9 from by unfold pkI; rw [if_neg (by omega)]) ?_
                  exact w_ireturn dX11_best_182 rfl (rfl) rfl (⟨rfl, _, _, rfl, hf9⟩)
              · skip
                replace h2 : ¬ ((nC a) ≤ (c9)) := fun q => h2 ((nI_leI (a := nC a) (b := c9) (by omega) (by omega)).mpr q)
                first
                | (exfalso; omega)
                | skip
                  refine w_iload dX11_best_175 rfl ?_
                  refine w_goto (tgt := 182) dX11_best_177 (by decide) ?_
                  refine w_top (y := pkI a c9) (show (nI c9 : Int32) = pkI a c9 from by unfold pkI; rw [if_pos (by omega)]) ?_
                  exact w_ireturn dX11_best_182 rfl (rfl) rfl (⟨rfl, _, _, rfl, hf9⟩)
          · skip
            first
            | (exfalso; omega)
            | skip
              refine w_iload_n dX11_best_144 rfl ?_
              refine w_if_ne (tgt := 152) dX11_best_145 (by decide) (fun h2 => ?_) (fun h2 => ?_)
              · skip
                replace h2 : ¬ ((10 + p) = (0)) := fun q => h2 ((nI_eq (a := 10 + p) (b := 0) (by omega) (by omega)).mpr q)
                first
                | (exfalso; omega)
                | skip
                  refine w_iload_n dX11_best_152 rfl ?_
                  refine w_top (y := pkI a c9) (show (nI b.2.1 : Int32) = pkI a c9 from by unfold pkI; rw [if_pos (by omega)]) ?_
                  exact w_ireturn dX11_best_153 rfl (rfl) rfl (⟨rfl, _, _, rfl, hf9⟩)
              · skip
                replace h2 : (10 + p) = (0) := (nI_eq (a := 10 + p) (b := 0) (by omega) (by omega)).mp h2
                first
                | (exfalso; omega)
                | skip
                  refine w_iload_n dX11_best_148 rfl ?_
                  refine w_goto (tgt := 153) dX11_best_149 (by decide) ?_
                  refine w_top (y := pkI a c9) (show (nI b.1 : Int32) = pkI a c9 from by unfold pkI; rw [if_pos (by omega)]) ?_
                  exact w_ireturn dX11_best_153 rfl (rfl) rfl (⟨rfl, _, _, rfl, hf9⟩)
      · skip
        first
        | (exfalso; omega)
        | skip
          refine w_iconst (v := (-1)) dX11_best_18 (by decide) ?_
          exact w_ireturn dX11_best_19 rfl (rfl) rfl (⟨rfl, _, _, rfl, FrR.rf⟩)

theorem p_best_w {I : xF4 Int32} {L : xF4 Int64} {a : aA} (hc : CourtIs I 0 a) (hw : WF a) {what : Int32} (hx0 : ¬ what.toInt = 0) (hx1 : ¬ what.toInt = 1) (hx : what.toInt < 10 ∨ 10 + ((nJ a : Nat) : Int) ≤ what.toInt) : Tri 19 109 m_X10_best [vR 0 0 0, vI (what)] (rM I L) (pCq (vI (-1)) I) := by
  refine ⟨k_X10_best, Nat.le_of_ble_eq_true rfl, ?_⟩
  show Wp _ _ _ 0 [some (vR 0 0 0), some (vI (what)), none] [] (rM I L) _
  obtain ⟨hJ, hC, hG, hD, hR, -⟩ := id hw
  have h10 := sub10b (x := what) hJ (by omega)
  obtain ⟨y, hy⟩ : ∃ y, y = what - 10 := ⟨_, rfl⟩
  rw [← hy] at h10
  refine w_iload_n dX10_best_0 rfl ?_
  refine w_bipush (v := 10) dX10_best_1 (by decide) ?_
  refine w_icmp_lt (tgt := 24) dX10_best_3 (by decide) (fun h1 => ?_) (fun h1 => ?_)
  · skip
    replace h1 : what.toInt < 10 := (zlt rfl (by decide)).mp h1
    first
    | (exfalso; omega)
    | skip
      refine w_iconst (v := 0) dX10_best_24 (by decide) ?_
      refine w_istore_n (ls' := [some (vR 0 0 0), some (vI (what)), some (vI (0))]) dX10_best_25 rfl ?_
      refine w_iload_n dX10_best_26 rfl ?_
      refine w_if_eq (tgt := 41) dX10_best_27 (by decide) (fun h2 => ?_) (fun h2 => ?_)
      · skip
        replace h2 : what.toInt = 0 := (zeq rfl (by decide)).mp h2
        first
        | (exfalso; omega)
        | skip
          exfalso
          omega
      · skip
        replace h2 : ¬ (what.toInt = 0) := fun q => h2 ((zeq rfl (by decide)).mpr q)
        first
        | (exfalso; omega)
        | skip
          refine w_iload_n dX10_best_30 rfl ?_
          refine w_iconst (v := 1) dX10_best_31 (by decide) ?_
          refine w_icmp_eq (tgt := 41) dX10_best_32 (by decide) (fun h3 => ?_) (fun h3 => ?_)
          · skip
            replace h3 : what.toInt = 1 := (zeq rfl (by decide)).mp h3
            first
            | (exfalso; omega)
            | skip
              exfalso
              omega
          · skip
            replace h3 : ¬ (what.toInt = 1) := fun q => h3 ((zeq rfl (by decide)).mpr q)
            first
            | (exfalso; omega)
            | skip
              refine w_iload_n dX10_best_35 rfl ?_
              refine w_if_ne (tgt := 41) dX10_best_36 (by decide) (fun h => absurd (by decide) h) (fun _ => ?_)
              refine w_iconst (v := (-1)) dX10_best_39 (by decide) ?_
              exact w_ireturn dX10_best_40 rfl (rfl) rfl (⟨rfl, _, _, rfl, FrQ.rf⟩)
  · skip
    replace h1 : ¬ (what.toInt < 10) := fun q => h1 ((zlt rfl (by decide)).mpr q)
    first
    | (exfalso; omega)
    | skip
      refine w_aload_n dX10_best_6 rfl ?_
      refine w_getR (w := some (1, 0, 0)) ff_X10_10 rfl rfl dX10_best_7 rfl ?_
      refine w_iload_n dX10_best_10 rfl ?_
      refine w_bipush (v := 10) dX10_best_11 (by decide) ?_
      refine w_isub dX10_best_13 ?_
      rw [show ((what) - (10) : Int32) = y from hy.symm]
      refine w_callV (as := [vI (y)]) (st := []) (Tri.mono (c_jAtO hc hw (z_out (by omega) h10)) (Nat.le_of_ble_eq_true rfl)) rfl rfl tg_X1_judgeAt lk_X10_111 in_X1_judgeAt se_X1_judgeAt rfl dX10_best_14 rfl (Nat.le_of_ble_eq_true rfl) (Nat.le_refl _) (Nat.le_refl _) ?_
      rintro _ _ ⟨rfl, rfl⟩ -
      refine w_ifnull (tgt := 24) dX10_best_17 (by decide) (fun _ => ?_) (fun _ h => by cases h)
      refine w_iconst (v := 0) dX10_best_24 (by decide) ?_
      refine w_istore_n (ls' := [some (vR 0 0 0), some (vI (what)), some (vI (0))]) dX10_best_25 rfl ?_
      refine w_iload_n dX10_best_26 rfl ?_
      refine w_if_eq (tgt := 41) dX10_best_27 (by decide) (fun h2 => ?_) (fun h2 => ?_)
      · skip
        replace h2 : what.toInt = 0 := (zeq rfl (by decide)).mp h2
        first
        | (exfalso; omega)
        | skip
          exfalso
          omega
      · skip
        replace h2 : ¬ (what.toInt = 0) := fun q => h2 ((zeq rfl (by decide)).mpr q)
        first
        | (exfalso; omega)
        | skip
          refine w_iload_n dX10_best_30 rfl ?_
          refine w_iconst (v := 1) dX10_best_31 (by decide) ?_
          refine w_icmp_eq (tgt := 41) dX10_best_32 (by decide) (fun h3 => ?_) (fun h3 => ?_)
          · skip
            replace h3 : what.toInt = 1 := (zeq rfl (by decide)).mp h3
            first
            | (exfalso; omega)
            | skip
              exfalso
              omega
          · skip
            replace h3 : ¬ (what.toInt = 1) := fun q => h3 ((zeq rfl (by decide)).mpr q)
            first
            | (exfalso; omega)
            | skip
              refine w_iload_n dX10_best_35 rfl ?_
              refine w_if_ne (tgt := 41) dX10_best_36 (by decide) (fun h => absurd (by decide) h) (fun _ => ?_)
              refine w_iconst (v := (-1)) dX10_best_39 (by decide) ?_
              exact w_ireturn dX10_best_40 rfl (rfl) rfl (⟨rfl, _, _, rfl, FrQ.rf⟩)

theorem q_best_w {I : xF4 Int32} {L : xF4 Int64} {a : aA} (hs : SI I a) (hw : WF a) {what : Int32} (hx0 : ¬ what.toInt = 0) (hx1 : ¬ what.toInt = 1) (hx : what.toInt < 10 ∨ 10 + ((nJ a : Nat) : Int) ≤ what.toInt) : Tri 19 109 m_X11_best [vR 30 0 0, vI (what)] (rM I L) (pMq (vI (-1)) I) := by
  refine ⟨k_X11_best, Nat.le_of_ble_eq_true rfl, ?_⟩
  show Wp _ _ _ 0 [some (vR 30 0 0), some (vI (what)), none, none, none, none, none, none] [] (rM I L) _
  obtain ⟨hJ, hC, hG, hD, hR, -⟩ := id hw
  have h10 := sub10b (x := what) hJ (by omega)
  obtain ⟨y, hy⟩ : ∃ y, y = what - 10 := ⟨_, rfl⟩
  rw [← hy] at h10
  refine w_iload_n dX11_best_0 rfl ?_
  refine w_callS (as := [vI (what)]) (st := []) (Tri.mono (d_isPart (x := what) (X := what.toInt) rfl) (Nat.le_of_ble_eq_true rfl)) tg_X11_isPart lk_X11_245 sa_X11_isPart rfl dX11_best_1 rfl (Nat.le_of_ble_eq_true rfl) (Nat.le_refl _) (Nat.le_refl _) ?_
  rintro _ _ ⟨rfl, rfl⟩ -
  refine w_ifne_b (tgt := 20) dX11_best_4 (by decide) (fun h1 => ?_) (fun h1 => ?_)
  · skip
    first
    | (exfalso; omega)
    | skip
      exfalso
      omega
  · skip
    first
    | (exfalso; omega)
    | skip
      refine w_aload_n dX11_best_7 rfl ?_
      refine w_iload_n dX11_best_8 rfl ?_
      refine w_bipush (v := 10) dX11_best_9 (by decide) ?_
      refine w_isub dX11_best_11 ?_
      rw [show ((what) - (10) : Int32) = y from hy.symm]
      refine w_callV (as := [vI (y)]) (st := []) (Tri.mono (d_isJudge (hs.1) (by omega) (x := y) (X := y.toInt) rfl) (Nat.le_of_ble_eq_true rfl)) rfl rfl tg_X11_isJudge lk_X11_198 in_X11_isJudge se_X11_isJudge rfl dX11_best_12 rfl (Nat.le_of_ble_eq_true rfl) (Nat.le_refl _) (Nat.le_refl _) ?_
      rintro _ _ ⟨rfl, rfl⟩ -
      refine w_ifne_b (tgt := 20) dX11_best_15 (by decide) (fun h2 => ?_) (fun h2 => ?_)
      · skip
        first
        | (exfalso; omega)
        | skip
          exfalso
          omega
      · skip
        first
        | (exfalso; omega)
        | skip
          refine w_iconst (v := (-1)) dX11_best_18 (by decide) ?_
          exact w_ireturn dX11_best_19 rfl (rfl) rfl (⟨rfl, _, _, rfl, FrR.rf⟩)
