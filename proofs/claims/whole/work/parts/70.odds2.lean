/-! odds of the reference; mean, luck (by wip/whole/gen/g71.py) -/
theorem regN_j {a : aA} {j s t : Nat} (j' : Nat) : jF (regN a j s t) j' 0 = jF a j' 0 := by
  unfold regN
  split
  · exact up2_ns (by decide)
  · split
    · exact up2_ns (by decide)
    · split
      · exact up2_ns (by decide)
      · exact up2_ns (by decide)
theorem regN_k (a : aA) (j s t : Nat) : nJ (regN a j s t) = nJ a ∧ nC (regN a j s t) = nC a ∧ nG (regN a j s t) = nG a ∧ dY (regN a j s t) = dY a ∧ SF (regN a j s t) = SF a ∧ BY (regN a j s t) = BY a ∧ GF (regN a j s t) = GF a := by
  unfold regN
  split
  · exact ⟨rfl, rfl, rfl, rfl, rfl, rfl, rfl⟩
  · split
    · exact ⟨rfl, rfl, rfl, rfl, rfl, rfl, rfl⟩
    · split
      · exact ⟨rfl, rfl, rfl, rfl, rfl, rfl, rfl⟩
      · exact ⟨rfl, rfl, rfl, rfl, rfl, rfl, rfl⟩
theorem up2_le {f : Nat → Nat → Nat} {i s v i' s' B : Nat} (hf : f i' s' ≤ B) (hv : v ≤ B) : up2 f i s v i' s' ≤ B := by
  unfold up2
  split
  · exact hv
  · exact hf
theorem regN_b {a : aA} {j s t : Nat} {j' : Nat} (hd : dY a ≤ 2000) (h : jF a j' 1 ≤ 20 ∧ jF a j' 2 ≤ 99 ∧ jF a j' 3 ≤ 5000) : jF (regN a j s t) j' 1 ≤ 20 ∧ jF (regN a j s t) j' 2 ≤ 99 ∧ jF (regN a j s t) j' 3 ≤ 5000 := by
  unfold regN
  split
  · refine ⟨?_, ?_, ?_⟩
    · show up2 (JF a) j 3 _ j' 1 ≤ _; rw [up2_ns (by decide)]; exact h.1
    · show up2 (JF a) j 3 _ j' 2 ≤ _; rw [up2_ns (by decide)]; exact h.2.1
    · exact up2_le h.2.2 (by omega)
  · split
    · refine ⟨?_, ?_, ?_⟩
      · show up2 (JF a) j 2 _ j' 1 ≤ _; rw [up2_ns (by decide)]; exact h.1
      · exact up2_le h.2.1 (by omega)
      · show up2 (JF a) j 2 _ j' 3 ≤ _; rw [up2_ns (by decide)]; exact h.2.2
    · split
      · refine ⟨?_, ?_, ?_⟩
        · exact up2_le h.1 (by omega)
        · show up2 (JF a) j 1 _ j' 2 ≤ _; rw [up2_ns (by decide)]; exact h.2.1
        · show up2 (JF a) j 1 _ j' 3 ≤ _; rw [up2_ns (by decide)]; exact h.2.2
      · refine ⟨?_, ?_, ?_⟩
        · show up2 (JF a) j 3 _ j' 1 ≤ _; rw [up2_ns (by decide)]; exact h.1
        · show up2 (JF a) j 3 _ j' 2 ≤ _; rw [up2_ns (by decide)]; exact h.2.1
        · exact up2_le h.2.2 (by omega)
theorem undoN_s {a : aA} {c c' f : Nat} : sF (undoN a c) c' f = up2 (up2 (SF a) c 4 0) c 6 0 c' f := by
  show up2 (up2 (SF (regN a _ _ _)) c 4 0) c 6 0 c' f = _
  rw [(regN_k a _ _ _).2.2.2.2.1]
theorem undoN_b {a : aA} {c c' : Nat} : bY (undoN a c) c' = up1 (BY a) c none c' := by
  show up1 (BY (regN a _ _ _)) c none c' = _
  rw [(regN_k a _ _ _).2.2.2.2.2.1]
theorem undoN_k (a : aA) (c : Nat) : nJ (undoN a c) = nJ a ∧ nC (undoN a c) = nC a ∧ nG (undoN a c) = nG a ∧ dY (undoN a c) = dY a ∧ cR (undoN a c) = min 99 (cR a + sF a c 4 / 5) ∧ GF (undoN a c) = GF a := by
  obtain ⟨k1, k2, k3, k4, k5, k6, k7⟩ := regN_k a ((bY a c).getD 0) (sF a c 0) (sF a c 6)
  exact ⟨k1, k2, k3, k4, rfl, k7⟩
theorem WF.undo {a : aA} (hw : WF a) {c : Nat} : WF (undoN a c) := by
  obtain ⟨k1, k2, k3, k4, k5, k6⟩ := undoN_k a c
  refine hw.of k1 k2 k3 (by rw [k4]; exact hw.2.2.2.1) (by rw [k5]; exact Nat.min_le_left _ _) (fun j' hj' => ?_) (fun c' hc' => ?_) (fun i f => congrFun (congrFun k6 i) f)
  · obtain ⟨g0, g1, g2, g3⟩ := hw.2.2.2.2.2.1 j' hj'
    exact ⟨regN_j j', regN_b hw.2.2.2.1 ⟨g1, g2, g3⟩⟩
  · obtain ⟨b1, b2, b3, b4, b5, b6, b7, b8, b9⟩ := hw.2.2.2.2.2.2.1 c' hc'
    have e4 : sF (undoN a c) c' 4 = if c' = c then 0 else sF a c' 4 := by
      rw [undoN_s, up2_ns (by decide)]; unfold up2; by_cases e : c' = c <;> simp [e, SF]
    have e6 : sF (undoN a c) c' 6 = if c' = c then 0 else sF a c' 6 := by
      rw [undoN_s]; unfold up2; by_cases e : c' = c <;> simp [e, SF]
    have eb : bY (undoN a c) c' = if c' = c then none else bY a c' := by rw [undoN_b]; rfl
    have en : ∀ f, f ≠ 4 → f ≠ 6 → sF (undoN a c) c' f = sF a c' f := fun f h4 h6 => by rw [undoN_s, up2_ns h6, up2_ns h4]; rfl
    refine ⟨en 0 (by decide) (by decide), en 1 (by decide) (by decide), en 2 (by decide) (by decide), en 3 (by decide) (by decide), ?_, ?_, ?_, ?_⟩
    · rw [e4]; split <;> omega
    · rw [e6]; split <;> omega
    · rw [e4, eb]
      by_cases e : c' = c
      · rw [if_pos e, if_pos e]; exact ⟨fun _ => rfl, fun _ => rfl⟩
      · rw [if_neg e, if_neg e]; exact b8
    · intro x hx
      rw [eb] at hx
      by_cases e : c' = c
      · rw [if_pos e] at hx; cases hx
      · rw [if_neg e] at hx; exact b9 x hx
/-- the court without what is wrong, case by case -/
def unF (a : aA) (u : Nat) : Nat → aA
  | 0 => a
  | c + 1 => if u.testBit c = true then undoN (unF a u c) c else unF a u c
theorem unF_k {a : aA} (hw : WF a) (u : Nat) : ∀ c, WF (unF a u c) ∧ nJ (unF a u c) = nJ a ∧ nC (unF a u c) = nC a ∧ cR (unF a u c) = cwN a u c ∧ ∀ x, c ≤ x → bY (unF a u c) x = bY a x ∧ sF (unF a u c) x 4 = sF a x 4
  | 0 => ⟨hw, rfl, rfl, rfl, fun _ _ => ⟨rfl, rfl⟩⟩
  | c + 1 => by
    obtain ⟨h1, h2, h3, h4, h5⟩ := unF_k hw u c
    rw [unF, cwN]
    split
    · obtain ⟨k1, k2, k3, k4, k5, k6⟩ := undoN_k (unF a u c) c
      refine ⟨h1.undo, k1.trans h2, k2.trans h3, by rw [k5, h4, (h5 c (Nat.le_refl _)).2], fun x hx => ?_⟩
      obtain ⟨g1, g2⟩ := h5 x (by omega)
      refine ⟨?_, ?_⟩
      · rw [undoN_b, up1_ne (by omega)]; exact g1
      · rw [undoN_s, up2_ns (by decide), up2_ne (by omega)]; exact g2
    · exact ⟨h1, h2, h3, h4, fun x hx => h5 x (by omega)⟩
theorem newN_bit : ∀ u, u < 32 → ∀ h, h < 32 → newN u h = 0 → ∀ c, c < 5 → u.testBit c = true → h.testBit c = true := by decide +kernel
theorem newN_hi : ∀ n, n < 6 → ∀ h, h < 2 ^ n → ∀ u, u < 32 → 2 ^ n ≤ u → ¬ newN u h = 0 := by decide +kernel
def alwN (h : Nat) : Nat → Nat
  | 0 => 1
  | c + 1 => alwN h c * (if h.testBit c = true then 10 else 1)
theorem alwN_pow : ∀ n, n < 6 → ∀ h, h < 2 ^ n → alwN h n = 10 ^ popN h := by decide +kernel
theorem alwN_le : ∀ h, h < 32 → ∀ c, c < 6 → alwN h c ≤ 100000 := by decide +kernel
/-- what a set of wrong cases adds to the sum of crimes, of odds -/
def fA (a : aA) (v u : Nat) : Nat := if newN u (heardN a) = 0 then oddN (heardN a) v u 5 * cwN a u (nC a) else 0
def fB (a : aA) (v w u : Nat) : Nat := if newN u (heardN a) = 0 ∧ cwN a u (nC a) ≤ w then oddN (heardN a) v u 5 else 0
theorem fA_le {a : aA} (hw : WF a) {v : Nat} (hv : v ≤ 10) (u : Nat) : fA a v u ≤ 9900000 := by
  unfold fA
  split
  · exact Nat.mul_le_mul (oddN_b (h := heardN a) (u := u) hv (Nat.le_refl 5)) (cwN_le hw.2.2.2.2.1 u (nC a))
  · omega
theorem fB_le {a : aA} {v w : Nat} (hv : v ≤ 10) (u : Nat) : fB a v w u ≤ 100000 := by
  unfold fB
  split
  · exact oddN_b hv (Nat.le_refl 5)
  · omega
theorem fA_hi {a : aA} (hw : WF a) (v : Nat) : sumN (fA a v) 32 = sumN (fA a v) (2 ^ nC a) := by
  have h5 := hw.2.1
  have hp : 2 ^ nC a ≤ 32 := Nat.pow_le_pow_right (n := 2) (j := 5) (by decide) h5
  have := sumN_zero (f := fA a v) (2 ^ nC a) (32 - 2 ^ nC a) (fun i h1 h2 => if_neg (newN_hi (nC a) (by omega) (heardN a) (bitN_lt _ _) i (by omega) h1))
  rwa [show 2 ^ nC a + (32 - 2 ^ nC a) = 32 by omega] at this
theorem fB_hi {a : aA} (hw : WF a) (v w : Nat) : sumN (fB a v w) 32 = sumN (fB a v w) (2 ^ nC a) := by
  have h5 := hw.2.1
  have hp : 2 ^ nC a ≤ 32 := Nat.pow_le_pow_right (n := 2) (j := 5) (by decide) h5
  have := sumN_zero (f := fB a v w) (2 ^ nC a) (32 - 2 ^ nC a) (fun i h1 h2 => if_neg (fun q => newN_hi (nC a) (by omega) (heardN a) (bitN_lt _ _) i (by omega) h1 q.1))
  rwa [show 2 ^ nC a + (32 - 2 ^ nC a) = 32 by omega] at this
theorem gcd_nz {s t : Nat} (h : ¬ t = 0) : ¬ Nat.gcd s t = 0 := fun q => h (Nat.eq_zero_of_gcd_eq_zero_right q)
theorem newI {u h : Nat} (hu : u < 32) (hh : h < 32) : nI u &&& (nI h ^^^ (-1)) = nI (newN u h) := newN_0 u hu h hh

theorem l_common {I : xF4 Int32} {L : xF4 Int64} {s t g : Nat} : ∀ (n x : Nat) (oa ob : Option xV), x < 2 ^ 62 → n < 2 ^ 62 → Nat.gcd n x = g → Wp 0 109 m_X11_common 6 [some (vL (lN s)), none, some (vL (lN t)), none, some (vL (lN x)), none, some (vL (lN n)), none, oa, ob] [] (rM I L) (fun v9 M => v9 = some (vL (lN g)) ∧ M = rM I L) := by
  intro n
  induction n using Nat.strongRecOn with
  | ind n ih =>
    intro x oa ob hx hn hg
    refine w_lload dX11_common_6 rfl ?_
    refine w_lconst (v := 0) dX11_common_8 (by decide) ?_
    refine w_lcmp dX11_common_9 ?_
    refine w_if_eq (tgt := 31) dX11_common_10 (by decide) (fun h1 => ?_) (fun h1 => ?_)
    · skip
      have e : n = 0 := (lz_eq (by omega)).mp h1
      rw [e, Nat.gcd_zero_left] at hg
      refine w_lload dX11_common_31 rfl ?_
      rw [hg]
      exact w_lreturn dX11_common_33 rfl rfl (⟨rfl, rfl⟩)
    · skip
      have hn0 : ¬ n = 0 := fun q => h1 ((lz_eq (by omega)).mpr q)
      have hr := Nat.mod_lt x (Nat.pos_of_ne_zero hn0)
      rw [Nat.gcd_rec] at hg
      refine w_lload dX11_common_13 rfl ?_
      refine w_lload dX11_common_15 rfl ?_
      refine w_lrem dX11_common_17 (lN_nz (by omega) hn0) ?_
      refine w_topL (y := lN (x % n)) (show ((lN x) - (lN x) / (lN n) * (lN n) : Int64) = lN (x % n) from lN_rem (by omega) (by omega) hn0) ?_
      refine w_lstore (ls' := [some (vL (lN s)), none, some (vL (lN t)), none, some (vL (lN x)), none, some (vL (lN n)), none, some (vL (lN (x % n))), none]) dX11_common_18 rfl ?_
      refine w_lload dX11_common_20 rfl ?_
      refine w_lstore (ls' := [some (vL (lN s)), none, some (vL (lN t)), none, some (vL (lN n)), none, some (vL (lN n)), none, some (vL (lN (x % n))), none]) dX11_common_22 rfl ?_
      refine w_lload dX11_common_24 rfl ?_
      refine w_lstore (ls' := [some (vL (lN s)), none, some (vL (lN t)), none, some (vL (lN n)), none, some (vL (lN (x % n))), none, some (vL (lN (x % n))), none]) dX11_common_26 rfl ?_
      refine w_goto (tgt := 6) dX11_common_28 (by decide) ?_
      exact ih (x % n) hr n _ _ (by omega) (by omega) hg

theorem d_common {I : xF4 Int32} {L : xF4 Int64} {s t : Nat} (hs : s < 2 ^ 62) (ht : t < 2 ^ 62) : Tri 0 109 m_X11_common [vL (lN t), vL (lN s)] (rM I L) (fun v9 M => v9 = some (vL (lN (Nat.gcd s t))) ∧ M = rM I L) := by
  refine ⟨k_X11_common, Nat.le_of_ble_eq_true rfl, ?_⟩
  show Wp _ _ _ 0 [some (vL (lN t)), none, some (vL (lN s)), none, none, none, none, none, none, none] [] (rM I L) _
  refine w_lload_n dX11_common_0 rfl ?_
  refine w_lstore (ls' := [some (vL (lN t)), none, some (vL (lN s)), none, some (vL (lN t)), none, none, none, none, none]) dX11_common_1 rfl ?_
  refine w_lload_n dX11_common_3 rfl ?_
  refine w_lstore (ls' := [some (vL (lN t)), none, some (vL (lN s)), none, some (vL (lN t)), none, some (vL (lN s)), none, none, none]) dX11_common_4 rfl ?_
  exact l_common s t none none ht hs rfl

theorem d_told {I : xF4 Int32} {L : xF4 Int64} {s t what : Nat} (hs : s < 2 ^ 31) (ht : t < 2 ^ 31) (hw2 : what < 2) (hg0 : ¬ Nat.gcd s t = 0) (hg1 : Nat.gcd s t < 2 ^ 31) : Tri 1 109 m_X11_told [vL (lN s), vL (lN t), vI (nI what)] (rM I L) (fun v9 M => v9 = some (vL (lN (lowN s t what))) ∧ M = rM I L) := by
  refine ⟨k_X11_told, Nat.le_of_ble_eq_true rfl, ?_⟩
  show Wp _ _ _ 0 [some (vL (lN s)), none, some (vL (lN t)), none, some (vI (nI what)), none, none] [] (rM I L) _
  refine w_lload_n dX11_told_0 rfl ?_
  refine w_lload_n dX11_told_1 rfl ?_
  refine w_callS (as := [vL (lN t), vL (lN s)]) (st := []) (Tri.mono (d_common (s := s) (t := t) (by omega) (by omega)) (Nat.le_of_ble_eq_true rfl)) tg_X11_common lk_X11_255 sa_X11_common rfl dX11_told_2 rfl (Nat.le_of_ble_eq_true rfl) (Nat.le_refl _) (Nat.le_refl _) ?_
  rintro _ _ ⟨rfl, rfl⟩ -
  refine w_lstore (ls' := [some (vL (lN s)), none, some (vL (lN t)), none, some (vI (nI what)), some (vL (lN (Nat.gcd s t))), none]) dX11_told_5 rfl ?_
  refine w_iload dX11_told_7 rfl ?_
  refine w_if_ne (tgt := 19) dX11_told_9 (by decide) (fun h1 => ?_) (fun h1 => ?_)
  · skip
    replace h1 : ¬ (((what : Nat) : Int) = 0) := fun q => h1 ((zeq (z_nI (by omega)) (by decide)).mpr q)
    refine w_lload_n dX11_told_19 rfl ?_
    refine w_lload dX11_told_20 rfl ?_
    refine w_ldiv dX11_told_22 (lN_nz (by omega) hg0) ?_
    refine w_topL (y := lN (lowN s t what)) (show ((lN t) / (lN (Nat.gcd s t)) : Int64) = lN (lowN s t what) from by rw [lN_div (by omega) (by omega) hg0]; unfold lowN; rw [if_neg (by omega)]) ?_
    exact w_lreturn dX11_told_23 rfl rfl (⟨rfl, rfl⟩)
  · skip
    replace h1 : ((what : Nat) : Int) = 0 := (zeq (z_nI (by omega)) (by decide)).mp h1
    refine w_lload_n dX11_told_12 rfl ?_
    refine w_lload dX11_told_13 rfl ?_
    refine w_ldiv dX11_told_15 (lN_nz (by omega) hg0) ?_
    refine w_topL (y := lN (lowN s t what)) (show ((lN s) / (lN (Nat.gcd s t)) : Int64) = lN (lowN s t what) from by rw [lN_div (by omega) (by omega) hg0]; unfold lowN; rw [if_pos (by omega)]) ?_
    refine w_goto (tgt := 23) dX11_told_16 (by decide) ?_
    exact w_lreturn dX11_told_23 rfl rfl (⟨rfl, rfl⟩)

theorem l_odds1 {I : xF4 Int32} {a : aA} (hm : MI I a) (hw : WF a) {v : Nat} {w9 : Int32} {Q : Option xV → xM → Prop} : ∀ (m c : Nat) (L : xF4 Int64), c + m = nC a → L 30 0 0 20 = lN 0 → L 30 0 0 21 = lN 0 → L 30 0 0 22 = lN (alwN (heardN a) c) → (∀ L : xF4 Int64, L 30 0 0 20 = lN 0 → L 30 0 0 21 = lN 0 → L 30 0 0 22 = lN (alwN (heardN a) (nC a)) → Wp 18 109 m_X11_findOdds 68 [some (vR 30 0 0), some (vI (nI v)), some (vI w9), some (vI (nI (heardN a))), some (vI (nI (nC a))), none, none, none, none] [] (rM I L) Q) → Wp 18 109 m_X11_findOdds 27 [some (vR 30 0 0), some (vI (nI v)), some (vI w9), some (vI (nI (heardN a))), some (vI (nI c)), none, none, none, none] [] (rM I L) Q := by
  intro m
  induction m with
  | zero =>
    intro c L hc h0 h1 h2 hk
    have e : c = nC a := by omega
    subst e
    obtain ⟨hJ, hC, hG, hD, hR, -⟩ := id hw
    refine w_iload dX11_findOdds_27 rfl ?_
    refine w_aload_n dX11_findOdds_29 rfl ?_
    refine w_getI ff_X11_61 rfl rfl dX11_findOdds_30 ?_
    rw [show (I 30 0 0 4 : Int32) = nI (nC a) from hm.2.1]
    refine w_icmp_ge (tgt := 68) dX11_findOdds_33 (by decide) (fun _ => ?_) (fun h => absurd (nI_le (Nat.le_refl _) (by omega)) h)
    exact hk L h0 h1 h2
  | succ m ih =>
    intro c L hc h0 h1 h2 hk
    have hlt : c < nC a := by omega
    have hh := heardN_lt hw
    obtain ⟨hJ, hC, hG, hD, hR, -⟩ := id hw
    have hal := alwN_le (heardN a) hh c (by omega)
    refine w_iload dX11_findOdds_27 rfl ?_
    refine w_aload_n dX11_findOdds_29 rfl ?_
    refine w_getI ff_X11_61 rfl rfl dX11_findOdds_30 ?_
    rw [show (I 30 0 0 4 : Int32) = nI (nC a) from hm.2.1]
    refine w_icmp_ge (tgt := 68) dX11_findOdds_33 (by decide) (fun h => absurd h (nI_ge hlt (by omega))) (fun _ => ?_)
    refine w_aload_n dX11_findOdds_36 rfl ?_
    refine w_dup dX11_findOdds_37 rfl ?_
    refine w_getL ff_X11_266 rfl rfl dX11_findOdds_38 ?_
    refine w_topL (y := lN (alwN (heardN a) c)) (show (L 30 0 0 22 : Int64) = lN (alwN (heardN a) c) from h2) ?_
    refine w_iload_n dX11_findOdds_41 rfl ?_
    refine w_iload dX11_findOdds_42 rfl ?_
    refine w_ishr dX11_findOdds_44 ?_
    refine w_iconst (v := 1) dX11_findOdds_45 (by decide) ?_
    refine w_iand dX11_findOdds_46 ?_
    rw [show (((nI (heardN a)) >>> ((nI c) &&& 31)) &&& (1) : Int32) = bI ((heardN a).testBit c = true) from tbit0 _ hh _ (by omega)]
    refine w_iconst (v := 1) dX11_findOdds_47 (by decide) ?_
    refine w_icmp_ne (tgt := 57) dX11_findOdds_48 (by decide) (fun h3 => ?_) (fun h3 => ?_)
    · skip
      replace h3 : ¬ (heardN a).testBit c = true := fun q => h3 (bI_1.mpr q)
      refine w_lconst (v := 1) dX11_findOdds_57 (by decide) ?_
      refine w_lmul dX11_findOdds_58 ?_
      refine w_topL (y := lN (alwN (heardN a) (c + 1))) (show ((lN (alwN (heardN a) c)) * (1) : Int64) = lN (alwN (heardN a) (c + 1)) from by rw [show (1 : Int64) = lN 1 from rfl, lN_mul, alwN, if_neg h3]) ?_
      refine w_putL ff_X11_266 rfl rfl rfl rfl dX11_findOdds_59 ?_
      refine w_iinc (v := nI (c + 1)) (ls' := [some (vR 30 0 0), some (vI (nI v)), some (vI (w9)), some (vI (nI (heardN a))), some (vI (nI (c + 1))), none, none, none, none]) dX11_findOdds_62 rfl (nI_1 _) rfl ?_
      refine w_goto (tgt := 27) dX11_findOdds_65 (by decide) ?_
      exact ih (c + 1) _ (by omega) ((xup_slot (by decide)).trans h0) ((xup_slot (by decide)).trans h1) xup_self hk
    · skip
      replace h3 : (heardN a).testBit c = true := bI_1.mp h3
      refine w_ldc2 dX11_findOdds_51 cq_X11_269 ?_
      refine w_goto (tgt := 58) dX11_findOdds_54 (by decide) ?_
      refine w_lmul dX11_findOdds_58 ?_
      refine w_topL (y := lN (alwN (heardN a) (c + 1))) (show ((lN (alwN (heardN a) c)) * (10) : Int64) = lN (alwN (heardN a) (c + 1)) from by rw [show (10 : Int64) = lN 10 from rfl, lN_mul, alwN, if_pos h3]) ?_
      refine w_putL ff_X11_266 rfl rfl rfl rfl dX11_findOdds_59 ?_
      refine w_iinc (v := nI (c + 1)) (ls' := [some (vR 30 0 0), some (vI (nI v)), some (vI (w9)), some (vI (nI (heardN a))), some (vI (nI (c + 1))), none, none, none, none]) dX11_findOdds_62 rfl (nI_1 _) rfl ?_
      refine w_goto (tgt := 27) dX11_findOdds_65 (by decide) ?_
      exact ih (c + 1) _ (by omega) ((xup_slot (by decide)).trans h0) ((xup_slot (by decide)).trans h1) xup_self hk

set_option maxHeartbeats 1000000 in
theorem l_odds2 {L : xF4 Int64} {a : aA} (hw : WF a) {v w u : Nat} (hv : v ≤ 10) (hu : u < 32) (hun : newN u (heardN a) = 0) {I0 : xF4 Int32} {Q : Option xV → xM → Prop} (hk : ∀ (I : xF4 Int32) (b : aA) (wy c : Nat) (o8 : Option xV), MI I b → WF b → FrT 32 I0 I → wy ≤ 100000 → wy * cR b = oddN (heardN a) v u 5 * cwN a u (nC a) → (if cR b ≤ w then wy else 0) = (if cwN a u (nC a) ≤ w then oddN (heardN a) v u 5 else 0) → Wp 18 109 m_X11_findOdds 196 [some (vR 30 0 0), some (vI (nI v)), some (vI (nI w)), some (vI (nI (heardN a))), some (vI (nI u)), some (vL (lN wy)), none, some (vI (nI c)), o8] [] (rM I L) Q) : ∀ (m c : Nat) (I : xF4 Int32) (o8 : Option xV), c + m = nC a → MI I (unF a u c) → FrT 32 I0 I → Wp 18 109 m_X11_findOdds 105 [some (vR 30 0 0), some (vI (nI v)), some (vI (nI w)), some (vI (nI (heardN a))), some (vI (nI u)), some (vL (lN (oddN (heardN a) v u c))), none, some (vI (nI c)), o8] [] (rM I L) Q := by
  have hh := heardN_lt hw
  have hu0 := newN_bit u hu (heardN a) hh hun
  have hfin : ∀ c, c ≤ nC a → oddN (heardN a) v u c = 0 → oddN (heardN a) v u 5 = 0 := fun c hc h0 => by
    have := oddN_0 h0 (5 - c)
    rwa [show c + (5 - c) = 5 by have := hw.2.1; omega] at this
  have hfull : ∀ d, nC a + d ≤ 5 → oddN (heardN a) v u (nC a + d) = oddN (heardN a) v u (nC a) := fun d => by
    induction d with
    | zero => exact fun _ => rfl
    | succ d ihd =>
      intro hd
      rw [← Nat.add_assoc, oddN, ihd (by omega), if_neg (by rw [heard_bit]; simp; intro h; omega), Nat.mul_one]
  have hfull5 : oddN (heardN a) v u 5 = oddN (heardN a) v u (nC a) := by
    have := hfull (5 - nC a) (by have := hw.2.1; omega)
    rwa [show nC a + (5 - nC a) = 5 by have := hw.2.1; omega] at this
  intro m
  induction m with
  | zero =>
    intro c I o8 hc hm hf
    have e : c = nC a := by omega
    obtain ⟨w1, w2, w3, w4, w5⟩ := unF_k hw u c
    obtain ⟨hJ, hC, hG, hD, hR, -⟩ := id hw
    refine w_iload dX11_findOdds_105 rfl ?_
    refine w_aload_n dX11_findOdds_107 rfl ?_
    refine w_getI ff_X11_61 rfl rfl dX11_findOdds_108 ?_
    rw [show (I 30 0 0 4 : Int32) = nI (nC a) from hm.2.1.trans (congrArg nI w3)]
    refine w_icmp_ge (tgt := 196) dX11_findOdds_111 (by decide) (fun _ => ?_) (fun h => absurd (nI_le (by omega) (by omega)) h)
    subst e
    exact hk I _ _ _ _ hm w1 hf (oddN_b hv hC) (by rw [w4, hfull5]) (by rw [w4, hfull5])
  | succ m ih =>
    intro c I o8 hc hm hf
    have hlt : c < nC a := by omega
    obtain ⟨w1, w2, w3, w4, w5⟩ := unF_k hw u c
    obtain ⟨w6, w7⟩ := w5 c (Nat.le_refl _)
    obtain ⟨hJ, hC, hG, hD, hR, -⟩ := id hw
    have hob := oddN_b (h := heardN a) (u := u) hv (c := c) (by omega)
    have hob1 := oddN_b (h := heardN a) (u := u) hv (c := c + 1) (by omega)
    refine w_iload dX11_findOdds_105 rfl ?_
    refine w_aload_n dX11_findOdds_107 rfl ?_
    refine w_getI ff_X11_61 rfl rfl dX11_findOdds_108 ?_
    rw [show (I 30 0 0 4 : Int32) = nI (nC a) from hm.2.1.trans (congrArg nI w3)]
    refine w_icmp_ge (tgt := 196) dX11_findOdds_111 (by decide) (fun h => absurd h (nI_ge hlt (by omega))) (fun _ => ?_)
    refine w_lload dX11_findOdds_114 rfl ?_
    refine w_lconst (v := 0) dX11_findOdds_116 (by decide) ?_
    refine w_lcmp dX11_findOdds_117 ?_
    refine w_if_le (tgt := 196) dX11_findOdds_118 (by decide) (fun h1 => ?_) (fun h1 => ?_)
    · skip
      have h0 := (lz_le (by omega)).mp h1
      have h5 := hfin c (by omega) h0
      exact hk I _ _ _ _ hm w1 hf (oddN_b hv (by omega)) (by rw [h0, h5, Nat.zero_mul, Nat.zero_mul]) (by rw [h0, h5]; simp)
    · skip
      refine w_iload dX11_findOdds_121 rfl ?_
      refine w_iload dX11_findOdds_123 rfl ?_
      refine w_ishr dX11_findOdds_125 ?_
      refine w_iconst (v := 1) dX11_findOdds_126 (by decide) ?_
      refine w_iand dX11_findOdds_127 ?_
      rw [show (((nI u) >>> ((nI c) &&& 31)) &&& (1) : Int32) = bI (u.testBit c = true) from tbit0 _ hu _ (by omega)]
      refine w_iconst (v := 1) dX11_findOdds_128 (by decide) ?_
      refine w_icmp_ne (tgt := 136) dX11_findOdds_129 (by decide) (fun h2 => ?_) (fun h2 => ?_)
      · skip
        replace h2 : ¬ u.testBit c = true := fun q => h2 (bI_1.mpr q)
        refine w_iconst (v := 0) dX11_findOdds_136 (by decide) ?_
        refine w_istore (ls' := [some (vR 30 0 0), some (vI (nI v)), some (vI (nI w)), some (vI (nI (heardN a))), some (vI (nI u)), some (vL (lN (oddN (heardN a) v u c))), none, some (vI (nI c)), some (vI (0))]) dX11_findOdds_137 rfl ?_
        refine w_lload dX11_findOdds_139 rfl ?_
        refine w_iload_n dX11_findOdds_141 rfl ?_
        refine w_iload dX11_findOdds_142 rfl ?_
        refine w_ishr dX11_findOdds_144 ?_
        refine w_iconst (v := 1) dX11_findOdds_145 (by decide) ?_
        refine w_iand dX11_findOdds_146 ?_
        rw [show (((nI (heardN a)) >>> ((nI c) &&& 31)) &&& (1) : Int32) = bI ((heardN a).testBit c = true) from tbit0 _ hh _ (by omega)]
        refine w_ifne_b (tgt := 154) dX11_findOdds_147 (by decide) (fun h3 => ?_) (fun h3 => ?_)
        · skip
          refine w_iload dX11_findOdds_154 rfl ?_
          refine w_if_eq (tgt := 164) dX11_findOdds_156 (by decide) (fun _ => ?_) (fun h => absurd (rfl) h)
          refine w_bipush (v := 10) dX11_findOdds_164 (by decide) ?_
          refine w_iload_n dX11_findOdds_166 rfl ?_
          refine w_isub dX11_findOdds_167 ?_
          rw [show ((10) - (nI v) : Int32) = nI (10 - v) from ten_sub hv]
          refine w_i2l dX11_findOdds_168 ?_
          refine w_topL (y := lN (10 - v)) (show ((nI (10 - v) : Int32).toInt64 : Int64) = lN (10 - v) from nI_l (by omega)) ?_
          refine w_lmul dX11_findOdds_169 ?_
          refine w_topL (y := lN (oddN (heardN a) v u (c + 1))) (show ((lN (oddN (heardN a) v u c)) * (lN (10 - v)) : Int64) = lN (oddN (heardN a) v u (c + 1)) from by rw [lN_mul, oddN, if_pos h3, if_neg h2]) ?_
          refine w_lstore (ls' := [some (vR 30 0 0), some (vI (nI v)), some (vI (nI w)), some (vI (nI (heardN a))), some (vI (nI u)), some (vL (lN (oddN (heardN a) v u (c + 1)))), none, some (vI (nI c)), some (vI (0))]) dX11_findOdds_170 rfl ?_
          refine w_iload dX11_findOdds_172 rfl ?_
          refine w_if_eq (tgt := 190) dX11_findOdds_174 (by decide) (fun _ => ?_) (fun h => absurd (rfl) h)
          refine w_iinc (v := nI (c + 1)) (ls' := [some (vR 30 0 0), some (vI (nI v)), some (vI (nI w)), some (vI (nI (heardN a))), some (vI (nI u)), some (vL (lN (oddN (heardN a) v u (c + 1)))), none, some (vI (nI (c + 1))), some (vI (0))]) dX11_findOdds_190 rfl (nI_1 _) rfl ?_
          refine w_goto (tgt := 105) dX11_findOdds_193 (by decide) ?_
          exact ih (c + 1) I _ (by omega) (by rw [unF, if_neg h2]; exact hm) hf
        · skip
          refine w_lconst (v := 1) dX11_findOdds_150 (by decide) ?_
          refine w_goto (tgt := 169) dX11_findOdds_151 (by decide) ?_
          refine w_lmul dX11_findOdds_169 ?_
          refine w_topL (y := lN (oddN (heardN a) v u (c + 1))) (show ((lN (oddN (heardN a) v u c)) * (1) : Int64) = lN (oddN (heardN a) v u (c + 1)) from by rw [show (1 : Int64) = lN 1 from rfl, lN_mul, oddN, if_neg h3]) ?_
          refine w_lstore (ls' := [some (vR 30 0 0), some (vI (nI v)), some (vI (nI w)), some (vI (nI (heardN a))), some (vI (nI u)), some (vL (lN (oddN (heardN a) v u (c + 1)))), none, some (vI (nI c)), some (vI (0))]) dX11_findOdds_170 rfl ?_
          refine w_iload dX11_findOdds_172 rfl ?_
          refine w_if_eq (tgt := 190) dX11_findOdds_174 (by decide) (fun _ => ?_) (fun h => absurd (rfl) h)
          refine w_iinc (v := nI (c + 1)) (ls' := [some (vR 30 0 0), some (vI (nI v)), some (vI (nI w)), some (vI (nI (heardN a))), some (vI (nI u)), some (vL (lN (oddN (heardN a) v u (c + 1)))), none, some (vI (nI (c + 1))), some (vI (0))]) dX11_findOdds_190 rfl (nI_1 _) rfl ?_
          refine w_goto (tgt := 105) dX11_findOdds_193 (by decide) ?_
          exact ih (c + 1) I _ (by omega) (by rw [unF, if_neg h2]; exact hm) hf
      · skip
        replace h2 : u.testBit c = true := bI_1.mp h2
        refine w_iconst (v := 1) dX11_findOdds_132 (by decide) ?_
        refine w_goto (tgt := 137) dX11_findOdds_133 (by decide) ?_
        refine w_istore (ls' := [some (vR 30 0 0), some (vI (nI v)), some (vI (nI w)), some (vI (nI (heardN a))), some (vI (nI u)), some (vL (lN (oddN (heardN a) v u c))), none, some (vI (nI c)), some (vI (1))]) dX11_findOdds_137 rfl ?_
        refine w_lload dX11_findOdds_139 rfl ?_
        refine w_iload_n dX11_findOdds_141 rfl ?_
        refine w_iload dX11_findOdds_142 rfl ?_
        refine w_ishr dX11_findOdds_144 ?_
        refine w_iconst (v := 1) dX11_findOdds_145 (by decide) ?_
        refine w_iand dX11_findOdds_146 ?_
        rw [show (((nI (heardN a)) >>> ((nI c) &&& 31)) &&& (1) : Int32) = bI ((heardN a).testBit c = true) from tbit0 _ hh _ (by omega)]
        refine w_ifne_b (tgt := 154) dX11_findOdds_147 (by decide) (fun h3 => ?_) (fun h3 => ?_)
        · skip
          refine w_iload dX11_findOdds_154 rfl ?_
          refine w_if_eq (tgt := 164) dX11_findOdds_156 (by decide) (fun h => absurd h ((by decide : ¬ (1 : Int32) = 0))) (fun _ => ?_)
          refine w_iload_n dX11_findOdds_159 rfl ?_
          refine w_i2l dX11_findOdds_160 ?_
          refine w_goto (tgt := 169) dX11_findOdds_161 (by decide) ?_
          refine w_topL (y := lN v) (show ((nI v : Int32).toInt64 : Int64) = lN v from nI_l (by omega)) ?_
          refine w_lmul dX11_findOdds_169 ?_
          refine w_topL (y := lN (oddN (heardN a) v u (c + 1))) (show ((lN (oddN (heardN a) v u c)) * (lN v) : Int64) = lN (oddN (heardN a) v u (c + 1)) from by rw [lN_mul, oddN, if_pos h3, if_pos h2]) ?_
          refine w_lstore (ls' := [some (vR 30 0 0), some (vI (nI v)), some (vI (nI w)), some (vI (nI (heardN a))), some (vI (nI u)), some (vL (lN (oddN (heardN a) v u (c + 1)))), none, some (vI (nI c)), some (vI (1))]) dX11_findOdds_170 rfl ?_
          refine w_iload dX11_findOdds_172 rfl ?_
          refine w_if_eq (tgt := 190) dX11_findOdds_174 (by decide) (fun h => absurd h ((by decide : ¬ (1 : Int32) = 0))) (fun _ => ?_)
          refine w_lload dX11_findOdds_177 rfl ?_
          refine w_lconst (v := 0) dX11_findOdds_179 (by decide) ?_
          refine w_lcmp dX11_findOdds_180 ?_
          refine w_if_le (tgt := 190) dX11_findOdds_181 (by decide) (fun h4 => ?_) (fun h4 => ?_)
          · skip
            have h0 := (lz_le (by omega)).mp h4
            have h5 := hfin (c + 1) (by omega) h0
            refine w_iinc (v := nI (c + 1)) (ls' := [some (vR 30 0 0), some (vI (nI v)), some (vI (nI w)), some (vI (nI (heardN a))), some (vI (nI u)), some (vL (lN (oddN (heardN a) v u (c + 1)))), none, some (vI (nI (c + 1))), some (vI (1))]) dX11_findOdds_190 rfl (nI_1 _) rfl ?_
            refine w_goto (tgt := 105) dX11_findOdds_193 (by decide) ?_
            refine w_iload dX11_findOdds_105 rfl ?_
            refine w_aload_n dX11_findOdds_107 rfl ?_
            refine w_getI ff_X11_61 rfl rfl dX11_findOdds_108 ?_
            rw [show (I 30 0 0 4 : Int32) = nI (nC a) from hm.2.1.trans (congrArg nI w3)]
            refine w_icmp_ge (tgt := 196) dX11_findOdds_111 (by decide) (fun h6 => ?_) (fun h6 => ?_)
            · skip
              exact hk I _ _ _ _ hm w1 hf (oddN_b hv (by omega)) (by rw [h0, h5, Nat.zero_mul, Nat.zero_mul]) (by rw [h0, h5]; simp)
            · skip
              refine w_lload dX11_findOdds_114 rfl ?_
              refine w_lconst (v := 0) dX11_findOdds_116 (by decide) ?_
              refine w_lcmp dX11_findOdds_117 ?_
              refine w_if_le (tgt := 196) dX11_findOdds_118 (by decide) (fun h7 => ?_) (fun h7 => ?_)
              · skip
                exact hk I _ _ _ _ hm w1 hf (oddN_b hv (by omega)) (by rw [h0, h5, Nat.zero_mul, Nat.zero_mul]) (by rw [h0, h5]; simp)
              · skip
                exact absurd h4 h7
          · skip
            refine w_aload_n dX11_findOdds_184 rfl ?_
            refine w_iload dX11_findOdds_185 rfl ?_
            have hhb := hu0 c (by omega) h2
            rw [heard_bit] at hhb
            have hpos : 0 < sF a c 4 := by simp at hhb; exact hhb.2
            obtain ⟨fa0, fa1, fa2, fa3, fa4, fa5, fa6, fa7, fa8⟩ := hw.2.2.2.2.2.2.1 c hlt
            obtain ⟨b, hb⟩ : ∃ b, bY a c = some b := by
              cases hz : bY a c with
              | none => have := fa7.mpr hz; omega
              | some b => exact ⟨b, rfl⟩
            refine w_callV (as := [vI (nI c)]) (st := []) (Tri.mono (d_appeals hm w1 (c := c) (b := b) (by omega) (w6.trans hb)) (Nat.le_of_ble_eq_true rfl)) rfl rfl tg_X11_appeals lk_X11_228 in_X11_appeals se_X11_appeals rfl dX11_findOdds_187 rfl (Nat.le_of_ble_eq_true rfl) (Nat.le_refl _) (Nat.le_refl _) ?_
            rintro v M9 ⟨rfl, I1, rfl, hm1, hf1⟩ -
            refine w_iinc (v := nI (c + 1)) (ls' := [some (vR 30 0 0), some (vI (nI v)), some (vI (nI w)), some (vI (nI (heardN a))), some (vI (nI u)), some (vL (lN (oddN (heardN a) v u (c + 1)))), none, some (vI (nI (c + 1))), some (vI (1))]) dX11_findOdds_190 rfl (nI_1 _) rfl ?_
            refine w_goto (tgt := 105) dX11_findOdds_193 (by decide) ?_
            exact ih (c + 1) I1 _ (by omega) (by rw [unF, if_pos h2]; exact hm1) (hf.tr hf1)
        · skip
          refine w_lconst (v := 1) dX11_findOdds_150 (by decide) ?_
          refine w_goto (tgt := 169) dX11_findOdds_151 (by decide) ?_
          refine w_lmul dX11_findOdds_169 ?_
          refine w_topL (y := lN (oddN (heardN a) v u (c + 1))) (show ((lN (oddN (heardN a) v u c)) * (1) : Int64) = lN (oddN (heardN a) v u (c + 1)) from by rw [show (1 : Int64) = lN 1 from rfl, lN_mul, oddN, if_neg h3]) ?_
          refine w_lstore (ls' := [some (vR 30 0 0), some (vI (nI v)), some (vI (nI w)), some (vI (nI (heardN a))), some (vI (nI u)), some (vL (lN (oddN (heardN a) v u (c + 1)))), none, some (vI (nI c)), some (vI (1))]) dX11_findOdds_170 rfl ?_
          refine w_iload dX11_findOdds_172 rfl ?_
          refine w_if_eq (tgt := 190) dX11_findOdds_174 (by decide) (fun h => absurd h ((by decide : ¬ (1 : Int32) = 0))) (fun _ => ?_)
          refine w_lload dX11_findOdds_177 rfl ?_
          refine w_lconst (v := 0) dX11_findOdds_179 (by decide) ?_
          refine w_lcmp dX11_findOdds_180 ?_
          refine w_if_le (tgt := 190) dX11_findOdds_181 (by decide) (fun h4 => ?_) (fun h4 => ?_)
          · skip
            have h0 := (lz_le (by omega)).mp h4
            have h5 := hfin (c + 1) (by omega) h0
            refine w_iinc (v := nI (c + 1)) (ls' := [some (vR 30 0 0), some (vI (nI v)), some (vI (nI w)), some (vI (nI (heardN a))), some (vI (nI u)), some (vL (lN (oddN (heardN a) v u (c + 1)))), none, some (vI (nI (c + 1))), some (vI (1))]) dX11_findOdds_190 rfl (nI_1 _) rfl ?_
            refine w_goto (tgt := 105) dX11_findOdds_193 (by decide) ?_
            refine w_iload dX11_findOdds_105 rfl ?_
            refine w_aload_n dX11_findOdds_107 rfl ?_
            refine w_getI ff_X11_61 rfl rfl dX11_findOdds_108 ?_
            rw [show (I 30 0 0 4 : Int32) = nI (nC a) from hm.2.1.trans (congrArg nI w3)]
            refine w_icmp_ge (tgt := 196) dX11_findOdds_111 (by decide) (fun h6 => ?_) (fun h6 => ?_)
            · skip
              exact hk I _ _ _ _ hm w1 hf (oddN_b hv (by omega)) (by rw [h0, h5, Nat.zero_mul, Nat.zero_mul]) (by rw [h0, h5]; simp)
            · skip
              refine w_lload dX11_findOdds_114 rfl ?_
              refine w_lconst (v := 0) dX11_findOdds_116 (by decide) ?_
              refine w_lcmp dX11_findOdds_117 ?_
              refine w_if_le (tgt := 196) dX11_findOdds_118 (by decide) (fun h7 => ?_) (fun h7 => ?_)
              · skip
                exact hk I _ _ _ _ hm w1 hf (oddN_b hv (by omega)) (by rw [h0, h5, Nat.zero_mul, Nat.zero_mul]) (by rw [h0, h5]; simp)
              · skip
                exact absurd h4 h7
          · skip
            refine w_aload_n dX11_findOdds_184 rfl ?_
            refine w_iload dX11_findOdds_185 rfl ?_
            have hhb := hu0 c (by omega) h2
            rw [heard_bit] at hhb
            have hpos : 0 < sF a c 4 := by simp at hhb; exact hhb.2
            obtain ⟨fa0, fa1, fa2, fa3, fa4, fa5, fa6, fa7, fa8⟩ := hw.2.2.2.2.2.2.1 c hlt
            obtain ⟨b, hb⟩ : ∃ b, bY a c = some b := by
              cases hz : bY a c with
              | none => have := fa7.mpr hz; omega
              | some b => exact ⟨b, rfl⟩
            refine w_callV (as := [vI (nI c)]) (st := []) (Tri.mono (d_appeals hm w1 (c := c) (b := b) (by omega) (w6.trans hb)) (Nat.le_of_ble_eq_true rfl)) rfl rfl tg_X11_appeals lk_X11_228 in_X11_appeals se_X11_appeals rfl dX11_findOdds_187 rfl (Nat.le_of_ble_eq_true rfl) (Nat.le_refl _) (Nat.le_refl _) ?_
            rintro v M9 ⟨rfl, I1, rfl, hm1, hf1⟩ -
            refine w_iinc (v := nI (c + 1)) (ls' := [some (vR 30 0 0), some (vI (nI v)), some (vI (nI w)), some (vI (nI (heardN a))), some (vI (nI u)), some (vL (lN (oddN (heardN a) v u (c + 1)))), none, some (vI (nI (c + 1))), some (vI (1))]) dX11_findOdds_190 rfl (nI_1 _) rfl ?_
            refine w_goto (tgt := 105) dX11_findOdds_193 (by decide) ?_
            exact ih (c + 1) I1 _ (by omega) (by rw [unF, if_pos h2]; exact hm1) (hf.tr hf1)

theorem pow2N : ∀ n, n < 6 → (1 : Int32) <<< (nI n &&& 31) = nI (2 ^ n) ∧ 2 ^ n ≤ 32 := by decide +kernel
abbrev pFo (a : aA) (v w : Nat) (I : xF4 Int32) : Option xV → xM → Prop := fun x M => x = none ∧ ∃ I1 L1, M = rM I1 L1 ∧ L1 30 0 0 20 = lN (sumN (fA a v) (2 ^ nC a)) ∧ L1 30 0 0 21 = lN (sumN (fB a v w) (2 ^ nC a)) ∧ L1 30 0 0 22 = lN (alwN (heardN a) (nC a)) ∧ FrR I I1

set_option maxHeartbeats 2000000 in
theorem l_odds3 {a : aA} (hw : WF a) {v w : Nat} (hv : v ≤ 10) (hw99 : w ≤ 99) {I0 : xF4 Int32} : ∀ (m u : Nat) (I : xF4 Int32) (L : xF4 Int64) (o5 o6 o7 o8 : Option xV), u + m = 2 ^ nC a → True → True → SI I a → FrR I0 I → L 30 0 0 20 = lN (sumN (fA a v) u) → L 30 0 0 21 = lN (sumN (fB a v w) u) → L 30 0 0 22 = lN (alwN (heardN a) (nC a)) → Wp 18 109 m_X11_findOdds 71 [some (vR 30 0 0), some (vI (nI v)), some (vI (nI w)), some (vI (nI (heardN a))), some (vI (nI u)), o5, o6, o7, o8] [] (rM I L) (pFo a v w I0) := by
  intro m
  induction m with
  | zero =>
    intro u I L o5 o6 o7 o8 hu hm0 hs hsi hf h0 h1 h2
    obtain ⟨hJ, hC, hG, hD, hR, -⟩ := id hw
    have e : u = 2 ^ nC a := by omega
    obtain ⟨p1, p2⟩ := pow2N (nC a) (by omega)
    subst e
    refine w_iload dX11_findOdds_71 rfl ?_
    refine w_iconst (v := 1) dX11_findOdds_73 (by decide) ?_
    refine w_aload_n dX11_findOdds_74 rfl ?_
    refine w_getI ff_X11_61 rfl rfl dX11_findOdds_75 ?_
    rw [show (I 30 0 0 4 : Int32) = nI (nC a) from hsi.2.1]
    refine w_ishl dX11_findOdds_78 ?_
    rw [show ((1) <<< ((nI (nC a)) &&& 31) : Int32) = nI (2 ^ nC a) from p1]
    refine w_icmp_ge (tgt := 248) dX11_findOdds_79 (by decide) (fun _ => ?_) (fun h => absurd (nI_le (Nat.le_refl _) (by omega)) h)
    exact w_return dX11_findOdds_248 rfl rfl (⟨rfl, I, L, rfl, h0, h1, h2, hf⟩)
  | succ m ih =>
    intro u I L o5 o6 o7 o8 hu hm0 hs hsi hf h0 h1 h2
    obtain ⟨hJ, hC, hG, hD, hR, -⟩ := id hw
    obtain ⟨p1, p2⟩ := pow2N (nC a) (by omega)
    have hlt : u < 2 ^ nC a := by omega
    have hh := heardN_lt hw
    have hnn := newN_lt u (heardN a)
    have hsA := sumN_b (f := fA a v) (fun i => fA_le hw hv i) u
    have hsB := sumN_b (f := fB a v w) (fun i => fB_le hv i) u
    have hfA := fA_le hw hv u
    have hfB := fB_le (a := a) (w := w) hv u
    refine w_iload dX11_findOdds_71 rfl ?_
    refine w_iconst (v := 1) dX11_findOdds_73 (by decide) ?_
    refine w_aload_n dX11_findOdds_74 rfl ?_
    refine w_getI ff_X11_61 rfl rfl dX11_findOdds_75 ?_
    rw [show (I 30 0 0 4 : Int32) = nI (nC a) from hsi.2.1]
    refine w_ishl dX11_findOdds_78 ?_
    rw [show ((1) <<< ((nI (nC a)) &&& 31) : Int32) = nI (2 ^ nC a) from p1]
    refine w_icmp_ge (tgt := 248) dX11_findOdds_79 (by decide) (fun h => absurd h (nI_ge hlt (by omega))) (fun _ => ?_)
    refine w_iload dX11_findOdds_82 rfl ?_
    refine w_iload_n dX11_findOdds_84 rfl ?_
    refine w_iconst (v := (-1)) dX11_findOdds_85 (by decide) ?_
    refine w_ixor dX11_findOdds_86 ?_
    refine w_iand dX11_findOdds_87 ?_
    rw [show ((nI u) &&& ((nI (heardN a)) ^^^ ((-1))) : Int32) = nI (newN u (heardN a)) from newI (by omega) hh]
    refine w_if_ne (tgt := 95) dX11_findOdds_88 (by decide) (fun h3 => ?_) (fun h3 => ?_)
    · skip
      replace h3 : ¬ (((newN u (heardN a) : Nat) : Int) = 0) := fun q => h3 ((zeq (z_nI (by omega)) (by decide)).mpr q)
      refine w_lconst (v := 0) dX11_findOdds_95 (by decide) ?_
      refine w_lstore (ls' := [some (vR 30 0 0), some (vI (nI v)), some (vI (nI w)), some (vI (nI (heardN a))), some (vI (nI u)), some (vL (0)), none, o7, o8]) dX11_findOdds_96 rfl ?_
      refine w_aload_n dX11_findOdds_98 rfl ?_
      refine w_callV (as := []) (st := []) (Tri.mono (d_starts hsi hw) (Nat.le_of_ble_eq_true rfl)) rfl rfl tg_X11_starts lk_X11_192 in_X11_starts se_X11_starts rfl dX11_findOdds_99 rfl (Nat.le_of_ble_eq_true rfl) (Nat.le_refl _) (Nat.le_refl _) ?_
      rintro v M9 ⟨rfl, I1, rfl, hm1, hi1, hf1⟩ -
      have hs1 := hf1.r.si hsi
      refine w_iconst (v := 0) dX11_findOdds_102 (by decide) ?_
      refine w_istore (ls' := [some (vR 30 0 0), some (vI (nI v)), some (vI (nI w)), some (vI (nI (heardN a))), some (vI (nI u)), some (vL (0)), none, some (vI (0)), o8]) dX11_findOdds_103 rfl ?_
      have hAn : 0 * cR a = fA a v u := by unfold fA; rw [if_neg (by omega), Nat.zero_mul]
      have hBn : (if cR a ≤ w then 0 else 0) = fB a v w u := by unfold fB; rw [if_neg (show ¬ (newN u (heardN a) = 0 ∧ cwN a u (nC a) ≤ w) from fun q => by have := q.1; omega)]; split <;> rfl
      refine w_iload dX11_findOdds_105 rfl ?_
      refine w_aload_n dX11_findOdds_107 rfl ?_
      refine w_getI ff_X11_61 rfl rfl dX11_findOdds_108 ?_
      rw [show (I1 30 0 0 4 : Int32) = nI (nC a) from hs1.2.1]
      refine w_icmp_ge (tgt := 196) dX11_findOdds_111 (by decide) (fun h6 => ?_) (fun h6 => ?_)
      · skip
        change Wp _ _ _ _ [some (vR 30 0 0), some (vI (nI v)), some (vI (nI w)), some (vI (nI (heardN a))), some (vI (nI u)), some (vL (lN 0)), none, some (vI (0)), o8] _ _ _
        have hwycr : 0 * cR a ≤ 9900000 := by rw [hAn]; exact hfA
        refine w_aload_n dX11_findOdds_196 rfl ?_
        refine w_dup dX11_findOdds_197 rfl ?_
        refine w_getL ff_X11_259 rfl rfl dX11_findOdds_198 ?_
        refine w_topL (y := lN (sumN (fA a v) u)) (show (L 30 0 0 20 : Int64) = lN (sumN (fA a v) u) from h0) ?_
        refine w_lload dX11_findOdds_201 rfl ?_
        refine w_aload_n dX11_findOdds_203 rfl ?_
        refine w_getR (w := some (32, 0, 0)) ff_X11_13 rfl rfl dX11_findOdds_204 rfl ?_
        refine w_bipush (v := 56) dX11_findOdds_207 (by decide) ?_
        refine w_iaload (a := 56) rfl (vp_in_nI (n := 56) (by omega) (by omega)) (nI_clamp (n := 56) (by omega)) dX11_findOdds_209 ?_
        rw [show (I1 32 0 0 (56) : Int32) = nI (cR a) from hm1.2.2.cr rfl]
        refine w_i2l dX11_findOdds_210 ?_
        refine w_topL (y := lN (cR a)) (show ((nI (cR a) : Int32).toInt64 : Int64) = lN (cR a) from nI_l (by omega)) ?_
        refine w_lmul dX11_findOdds_211 ?_
        refine w_topL (y := lN (fA a v u)) (show ((lN 0) * (lN (cR a)) : Int64) = lN (fA a v u) from by rw [lN_mul, hAn]) ?_
        refine w_ladd dX11_findOdds_212 ?_
        refine w_topL (y := lN (sumN (fA a v) (u + 1))) (show ((lN (sumN (fA a v) u)) + (lN (fA a v u)) : Int64) = lN (sumN (fA a v) (u + 1)) from lN_add _ _) ?_
        refine w_putL ff_X11_259 rfl rfl rfl rfl dX11_findOdds_213 ?_
        refine w_aload_n dX11_findOdds_216 rfl ?_
        refine w_dup dX11_findOdds_217 rfl ?_
        refine w_getL ff_X11_263 rfl rfl dX11_findOdds_218 ?_
        refine w_topL (y := lN (sumN (fB a v w) u)) (show ((xup L 30 0 0 20 (lN (sumN (fA a v) (u + 1)))) 30 0 0 21 : Int64) = lN (sumN (fB a v w) u) from (xup_slot (by decide)).trans h1) ?_
        refine w_aload_n dX11_findOdds_221 rfl ?_
        refine w_getR (w := some (32, 0, 0)) ff_X11_13 rfl rfl dX11_findOdds_222 rfl ?_
        refine w_bipush (v := 56) dX11_findOdds_225 (by decide) ?_
        refine w_iaload (a := 56) rfl (vp_in_nI (n := 56) (by omega) (by omega)) (nI_clamp (n := 56) (by omega)) dX11_findOdds_227 ?_
        rw [show (I1 32 0 0 (56) : Int32) = nI (cR a) from hm1.2.2.cr rfl]
        refine w_iload_n dX11_findOdds_228 rfl ?_
        refine w_icmp_gt (tgt := 237) dX11_findOdds_229 (by decide) (fun h7 => ?_) (fun h7 => ?_)
        · skip
          replace h7 : ((w : Nat) : Int) < ((cR a : Nat) : Int) := (zlt (z_nI (by omega)) (z_nI (by omega))).mp h7
          refine w_lconst (v := 0) dX11_findOdds_237 (by decide) ?_
          refine w_topL (y := lN (fB a v w u)) (show (0 : Int64) = lN (fB a v w u) from by rw [← hBn, if_neg (by omega)]; rfl) ?_
          refine w_ladd dX11_findOdds_238 ?_
          refine w_topL (y := lN (sumN (fB a v w) (u + 1))) (show ((lN (sumN (fB a v w) u)) + (lN (fB a v w u)) : Int64) = lN (sumN (fB a v w) (u + 1)) from lN_add _ _) ?_
          refine w_putL ff_X11_263 rfl rfl rfl rfl dX11_findOdds_239 ?_
          refine w_iinc (v := nI (u + 1)) (ls' := [some (vR 30 0 0), some (vI (nI v)), some (vI (nI w)), some (vI (nI (heardN a))), some (vI (nI (u + 1))), some (vL (lN 0)), none, some (vI (0)), o8]) dX11_findOdds_242 rfl (nI_1 _) rfl ?_
          refine w_goto (tgt := 71) dX11_findOdds_245 (by decide) ?_
          exact ih (u + 1) _ _ _ _ _ _ (by omega) hm0 hs hs1 (hf.tr hf1.r) ((xup_slot (by decide)).trans xup_self) xup_self ((xup_slot (by decide)).trans ((xup_slot (by decide)).trans h2))
        · skip
          replace h7 : ¬ (((w : Nat) : Int) < ((cR a : Nat) : Int)) := fun q => h7 ((zlt (z_nI (by omega)) (z_nI (by omega))).mpr q)
          refine w_lload dX11_findOdds_232 rfl ?_
          refine w_goto (tgt := 238) dX11_findOdds_234 (by decide) ?_
          refine w_topL (y := lN (fB a v w u)) (show (lN 0 : Int64) = lN (fB a v w u) from by rw [← hBn, if_pos (by omega)]) ?_
          refine w_ladd dX11_findOdds_238 ?_
          refine w_topL (y := lN (sumN (fB a v w) (u + 1))) (show ((lN (sumN (fB a v w) u)) + (lN (fB a v w u)) : Int64) = lN (sumN (fB a v w) (u + 1)) from lN_add _ _) ?_
          refine w_putL ff_X11_263 rfl rfl rfl rfl dX11_findOdds_239 ?_
          refine w_iinc (v := nI (u + 1)) (ls' := [some (vR 30 0 0), some (vI (nI v)), some (vI (nI w)), some (vI (nI (heardN a))), some (vI (nI (u + 1))), some (vL (lN 0)), none, some (vI (0)), o8]) dX11_findOdds_242 rfl (nI_1 _) rfl ?_
          refine w_goto (tgt := 71) dX11_findOdds_245 (by decide) ?_
          exact ih (u + 1) _ _ _ _ _ _ (by omega) hm0 hs hs1 (hf.tr hf1.r) ((xup_slot (by decide)).trans xup_self) xup_self ((xup_slot (by decide)).trans ((xup_slot (by decide)).trans h2))
      · skip
        refine w_lload dX11_findOdds_114 rfl ?_
        refine w_lconst (v := 0) dX11_findOdds_116 (by decide) ?_
        refine w_lcmp dX11_findOdds_117 ?_
        refine w_if_le (tgt := 196) dX11_findOdds_118 (by decide) (fun h8 => ?_) (fun h8 => ?_)
        · skip
          change Wp _ _ _ _ [some (vR 30 0 0), some (vI (nI v)), some (vI (nI w)), some (vI (nI (heardN a))), some (vI (nI u)), some (vL (lN 0)), none, some (vI (0)), o8] _ _ _
          have hwycr : 0 * cR a ≤ 9900000 := by rw [hAn]; exact hfA
          refine w_aload_n dX11_findOdds_196 rfl ?_
          refine w_dup dX11_findOdds_197 rfl ?_
          refine w_getL ff_X11_259 rfl rfl dX11_findOdds_198 ?_
          refine w_topL (y := lN (sumN (fA a v) u)) (show (L 30 0 0 20 : Int64) = lN (sumN (fA a v) u) from h0) ?_
          refine w_lload dX11_findOdds_201 rfl ?_
          refine w_aload_n dX11_findOdds_203 rfl ?_
          refine w_getR (w := some (32, 0, 0)) ff_X11_13 rfl rfl dX11_findOdds_204 rfl ?_
          refine w_bipush (v := 56) dX11_findOdds_207 (by decide) ?_
          refine w_iaload (a := 56) rfl (vp_in_nI (n := 56) (by omega) (by omega)) (nI_clamp (n := 56) (by omega)) dX11_findOdds_209 ?_
          rw [show (I1 32 0 0 (56) : Int32) = nI (cR a) from hm1.2.2.cr rfl]
          refine w_i2l dX11_findOdds_210 ?_
          refine w_topL (y := lN (cR a)) (show ((nI (cR a) : Int32).toInt64 : Int64) = lN (cR a) from nI_l (by omega)) ?_
          refine w_lmul dX11_findOdds_211 ?_
          refine w_topL (y := lN (fA a v u)) (show ((lN 0) * (lN (cR a)) : Int64) = lN (fA a v u) from by rw [lN_mul, hAn]) ?_
          refine w_ladd dX11_findOdds_212 ?_
          refine w_topL (y := lN (sumN (fA a v) (u + 1))) (show ((lN (sumN (fA a v) u)) + (lN (fA a v u)) : Int64) = lN (sumN (fA a v) (u + 1)) from lN_add _ _) ?_
          refine w_putL ff_X11_259 rfl rfl rfl rfl dX11_findOdds_213 ?_
          refine w_aload_n dX11_findOdds_216 rfl ?_
          refine w_dup dX11_findOdds_217 rfl ?_
          refine w_getL ff_X11_263 rfl rfl dX11_findOdds_218 ?_
          refine w_topL (y := lN (sumN (fB a v w) u)) (show ((xup L 30 0 0 20 (lN (sumN (fA a v) (u + 1)))) 30 0 0 21 : Int64) = lN (sumN (fB a v w) u) from (xup_slot (by decide)).trans h1) ?_
          refine w_aload_n dX11_findOdds_221 rfl ?_
          refine w_getR (w := some (32, 0, 0)) ff_X11_13 rfl rfl dX11_findOdds_222 rfl ?_
          refine w_bipush (v := 56) dX11_findOdds_225 (by decide) ?_
          refine w_iaload (a := 56) rfl (vp_in_nI (n := 56) (by omega) (by omega)) (nI_clamp (n := 56) (by omega)) dX11_findOdds_227 ?_
          rw [show (I1 32 0 0 (56) : Int32) = nI (cR a) from hm1.2.2.cr rfl]
          refine w_iload_n dX11_findOdds_228 rfl ?_
          refine w_icmp_gt (tgt := 237) dX11_findOdds_229 (by decide) (fun h7 => ?_) (fun h7 => ?_)
          · skip
            replace h7 : ((w : Nat) : Int) < ((cR a : Nat) : Int) := (zlt (z_nI (by omega)) (z_nI (by omega))).mp h7
            refine w_lconst (v := 0) dX11_findOdds_237 (by decide) ?_
            refine w_topL (y := lN (fB a v w u)) (show (0 : Int64) = lN (fB a v w u) from by rw [← hBn, if_neg (by omega)]; rfl) ?_
            refine w_ladd dX11_findOdds_238 ?_
            refine w_topL (y := lN (sumN (fB a v w) (u + 1))) (show ((lN (sumN (fB a v w) u)) + (lN (fB a v w u)) : Int64) = lN (sumN (fB a v w) (u + 1)) from lN_add _ _) ?_
            refine w_putL ff_X11_263 rfl rfl rfl rfl dX11_findOdds_239 ?_
            refine w_iinc (v := nI (u + 1)) (ls' := [some (vR 30 0 0), some (vI (nI v)), some (vI (nI w)), some (vI (nI (heardN a))), some (vI (nI (u + 1))), some (vL (lN 0)), none, some (vI (0)), o8]) dX11_findOdds_242 rfl (nI_1 _) rfl ?_
            refine w_goto (tgt := 71) dX11_findOdds_245 (by decide) ?_
            exact ih (u + 1) _ _ _ _ _ _ (by omega) hm0 hs hs1 (hf.tr hf1.r) ((xup_slot (by decide)).trans xup_self) xup_self ((xup_slot (by decide)).trans ((xup_slot (by decide)).trans h2))
          · skip
            replace h7 : ¬ (((w : Nat) : Int) < ((cR a : Nat) : Int)) := fun q => h7 ((zlt (z_nI (by omega)) (z_nI (by omega))).mpr q)
            refine w_lload dX11_findOdds_232 rfl ?_
            refine w_goto (tgt := 238) dX11_findOdds_234 (by decide) ?_
            refine w_topL (y := lN (fB a v w u)) (show (lN 0 : Int64) = lN (fB a v w u) from by rw [← hBn, if_pos (by omega)]) ?_
            refine w_ladd dX11_findOdds_238 ?_
            refine w_topL (y := lN (sumN (fB a v w) (u + 1))) (show ((lN (sumN (fB a v w) u)) + (lN (fB a v w u)) : Int64) = lN (sumN (fB a v w) (u + 1)) from lN_add _ _) ?_
            refine w_putL ff_X11_263 rfl rfl rfl rfl dX11_findOdds_239 ?_
            refine w_iinc (v := nI (u + 1)) (ls' := [some (vR 30 0 0), some (vI (nI v)), some (vI (nI w)), some (vI (nI (heardN a))), some (vI (nI (u + 1))), some (vL (lN 0)), none, some (vI (0)), o8]) dX11_findOdds_242 rfl (nI_1 _) rfl ?_
            refine w_goto (tgt := 71) dX11_findOdds_245 (by decide) ?_
            exact ih (u + 1) _ _ _ _ _ _ (by omega) hm0 hs hs1 (hf.tr hf1.r) ((xup_slot (by decide)).trans xup_self) xup_self ((xup_slot (by decide)).trans ((xup_slot (by decide)).trans h2))
        · skip
          exact absurd (by decide) h8
    · skip
      replace h3 : ((newN u (heardN a) : Nat) : Int) = 0 := (zeq (z_nI (by omega)) (by decide)).mp h3
      refine w_lconst (v := 1) dX11_findOdds_91 (by decide) ?_
      refine w_goto (tgt := 96) dX11_findOdds_92 (by decide) ?_
      refine w_lstore (ls' := [some (vR 30 0 0), some (vI (nI v)), some (vI (nI w)), some (vI (nI (heardN a))), some (vI (nI u)), some (vL (1)), none, o7, o8]) dX11_findOdds_96 rfl ?_
      refine w_aload_n dX11_findOdds_98 rfl ?_
      refine w_callV (as := []) (st := []) (Tri.mono (d_starts hsi hw) (Nat.le_of_ble_eq_true rfl)) rfl rfl tg_X11_starts lk_X11_192 in_X11_starts se_X11_starts rfl dX11_findOdds_99 rfl (Nat.le_of_ble_eq_true rfl) (Nat.le_refl _) (Nat.le_refl _) ?_
      rintro v M9 ⟨rfl, I2, rfl, hm2, hi2, hf2⟩ -
      have hs2 := hf2.r.si hsi
      refine w_iconst (v := 0) dX11_findOdds_102 (by decide) ?_
      refine w_istore (ls' := [some (vR 30 0 0), some (vI (nI v)), some (vI (nI w)), some (vI (nI (heardN a))), some (vI (nI u)), some (vL (1)), none, some (vI (0)), o8]) dX11_findOdds_103 rfl ?_
      refine l_odds2 hw (w := w) hv (by omega) (by omega) (I0 := I2) (fun I9 b wy c o8 hm9 hw9 hf9 hwy e1 e2 => ?_) (nC a) 0 I2 _ (Nat.zero_add _) hm2 FrT.rf
      have hAn : wy * cR b = fA a v u := by unfold fA; rw [if_pos (by omega)]; exact e1
      have hBn : (if cR b ≤ w then wy else 0) = fB a v w u := by
        rw [e2]
        unfold fB
        by_cases q : cwN a u (nC a) ≤ w
        · rw [if_pos q, if_pos ⟨by omega, q⟩]
        · rw [if_neg q, if_neg (fun z => q z.2)]
      have hcr9 := hw9.2.2.2.2.1
      have hs9 : SI I9 a := hf9.r.si hs2
      have hwycr : wy * cR b ≤ 9900000 := by rw [hAn]; exact hfA
      refine w_aload_n dX11_findOdds_196 rfl ?_
      refine w_dup dX11_findOdds_197 rfl ?_
      refine w_getL ff_X11_259 rfl rfl dX11_findOdds_198 ?_
      refine w_topL (y := lN (sumN (fA a v) u)) (show (L 30 0 0 20 : Int64) = lN (sumN (fA a v) u) from h0) ?_
      refine w_lload dX11_findOdds_201 rfl ?_
      refine w_aload_n dX11_findOdds_203 rfl ?_
      refine w_getR (w := some (32, 0, 0)) ff_X11_13 rfl rfl dX11_findOdds_204 rfl ?_
      refine w_bipush (v := 56) dX11_findOdds_207 (by decide) ?_
      refine w_iaload (a := 56) rfl (vp_in_nI (n := 56) (by omega) (by omega)) (nI_clamp (n := 56) (by omega)) dX11_findOdds_209 ?_
      rw [show (I9 32 0 0 (56) : Int32) = nI (cR b) from hm9.2.2.cr rfl]
      refine w_i2l dX11_findOdds_210 ?_
      refine w_topL (y := lN (cR b)) (show ((nI (cR b) : Int32).toInt64 : Int64) = lN (cR b) from nI_l (by omega)) ?_
      refine w_lmul dX11_findOdds_211 ?_
      refine w_topL (y := lN (fA a v u)) (show ((lN wy) * (lN (cR b)) : Int64) = lN (fA a v u) from by rw [lN_mul, hAn]) ?_
      refine w_ladd dX11_findOdds_212 ?_
      refine w_topL (y := lN (sumN (fA a v) (u + 1))) (show ((lN (sumN (fA a v) u)) + (lN (fA a v u)) : Int64) = lN (sumN (fA a v) (u + 1)) from lN_add _ _) ?_
      refine w_putL ff_X11_259 rfl rfl rfl rfl dX11_findOdds_213 ?_
      refine w_aload_n dX11_findOdds_216 rfl ?_
      refine w_dup dX11_findOdds_217 rfl ?_
      refine w_getL ff_X11_263 rfl rfl dX11_findOdds_218 ?_
      refine w_topL (y := lN (sumN (fB a v w) u)) (show ((xup L 30 0 0 20 (lN (sumN (fA a v) (u + 1)))) 30 0 0 21 : Int64) = lN (sumN (fB a v w) u) from (xup_slot (by decide)).trans h1) ?_
      refine w_aload_n dX11_findOdds_221 rfl ?_
      refine w_getR (w := some (32, 0, 0)) ff_X11_13 rfl rfl dX11_findOdds_222 rfl ?_
      refine w_bipush (v := 56) dX11_findOdds_225 (by decide) ?_
      refine w_iaload (a := 56) rfl (vp_in_nI (n := 56) (by omega) (by omega)) (nI_clamp (n := 56) (by omega)) dX11_findOdds_227 ?_
      rw [show (I9 32 0 0 (56) : Int32) = nI (cR b) from hm9.2.2.cr rfl]
      refine w_iload_n dX11_findOdds_228 rfl ?_
      refine w_icmp_gt (tgt := 237) dX11_findOdds_229 (by decide) (fun h7 => ?_) (fun h7 => ?_)
      · skip
        replace h7 : ((w : Nat) : Int) < ((cR b : Nat) : Int) := (zlt (z_nI (by omega)) (z_nI (by omega))).mp h7
        refine w_lconst (v := 0) dX11_findOdds_237 (by decide) ?_
        refine w_topL (y := lN (fB a v w u)) (show (0 : Int64) = lN (fB a v w u) from by rw [← hBn, if_neg (by omega)]; rfl) ?_
        refine w_ladd dX11_findOdds_238 ?_
        refine w_topL (y := lN (sumN (fB a v w) (u + 1))) (show ((lN (sumN (fB a v w) u)) + (lN (fB a v w u)) : Int64) = lN (sumN (fB a v w) (u + 1)) from lN_add _ _) ?_
        refine w_putL ff_X11_263 rfl rfl rfl rfl dX11_findOdds_239 ?_
        refine w_iinc (v := nI (u + 1)) (ls' := [some (vR 30 0 0), some (vI (nI v)), some (vI (nI w)), some (vI (nI (heardN a))), some (vI (nI (u + 1))), some (vL (lN wy)), none, some (vI (nI c)), o8]) dX11_findOdds_242 rfl (nI_1 _) rfl ?_
        refine w_goto (tgt := 71) dX11_findOdds_245 (by decide) ?_
        exact ih (u + 1) _ _ _ _ _ _ (by omega) hm0 hs hs9 (hf.tr (hf2.r.tr hf9.r)) ((xup_slot (by decide)).trans xup_self) xup_self ((xup_slot (by decide)).trans ((xup_slot (by decide)).trans h2))
      · skip
        replace h7 : ¬ (((w : Nat) : Int) < ((cR b : Nat) : Int)) := fun q => h7 ((zlt (z_nI (by omega)) (z_nI (by omega))).mpr q)
        refine w_lload dX11_findOdds_232 rfl ?_
        refine w_goto (tgt := 238) dX11_findOdds_234 (by decide) ?_
        refine w_topL (y := lN (fB a v w u)) (show (lN wy : Int64) = lN (fB a v w u) from by rw [← hBn, if_pos (by omega)]) ?_
        refine w_ladd dX11_findOdds_238 ?_
        refine w_topL (y := lN (sumN (fB a v w) (u + 1))) (show ((lN (sumN (fB a v w) u)) + (lN (fB a v w u)) : Int64) = lN (sumN (fB a v w) (u + 1)) from lN_add _ _) ?_
        refine w_putL ff_X11_263 rfl rfl rfl rfl dX11_findOdds_239 ?_
        refine w_iinc (v := nI (u + 1)) (ls' := [some (vR 30 0 0), some (vI (nI v)), some (vI (nI w)), some (vI (nI (heardN a))), some (vI (nI (u + 1))), some (vL (lN wy)), none, some (vI (nI c)), o8]) dX11_findOdds_242 rfl (nI_1 _) rfl ?_
        refine w_goto (tgt := 71) dX11_findOdds_245 (by decide) ?_
        exact ih (u + 1) _ _ _ _ _ _ (by omega) hm0 hs hs9 (hf.tr (hf2.r.tr hf9.r)) ((xup_slot (by decide)).trans xup_self) xup_self ((xup_slot (by decide)).trans ((xup_slot (by decide)).trans h2))

theorem d_findOdds {I : xF4 Int32} {L : xF4 Int64} {a : aA} (hs : SI I a) (hw : WF a) {v w : Nat} (hv : v ≤ 10) (hw99 : w ≤ 99) : Tri 18 109 m_X11_findOdds [vR 30 0 0, vI (nI v), vI (nI w)] (rM I L) (pFo a v w I) := by
  refine ⟨k_X11_findOdds, Nat.le_of_ble_eq_true rfl, ?_⟩
  show Wp _ _ _ 0 [some (vR 30 0 0), some (vI (nI v)), some (vI (nI w)), none, none, none, none, none, none] [] (rM I L) _
  obtain ⟨hJ, hC, hG, hD, hR, -⟩ := id hw
  refine w_aload_n dX11_findOdds_0 rfl ?_
  refine w_callV (as := []) (st := []) (Tri.mono (d_starts hs hw) (Nat.le_of_ble_eq_true rfl)) rfl rfl tg_X11_starts lk_X11_192 in_X11_starts se_X11_starts rfl dX11_findOdds_1 rfl (Nat.le_of_ble_eq_true rfl) (Nat.le_refl _) (Nat.le_refl _) ?_
  rintro v M9 ⟨rfl, I1, rfl, hm1, hi1, hf1⟩ -
  have hs1 := hf1.r.si hs
  refine w_aload_n dX11_findOdds_4 rfl ?_
  refine w_callV (as := []) (st := []) (Tri.mono (d_heard hm1 hw) (Nat.le_of_ble_eq_true rfl)) rfl rfl tg_X11_heard lk_X11_183 in_X11_heard se_X11_heard rfl dX11_findOdds_5 rfl (Nat.le_of_ble_eq_true rfl) (Nat.le_refl _) (Nat.le_refl _) ?_
  rintro _ _ ⟨rfl, rfl⟩ -
  refine w_istore_n (ls' := [some (vR 30 0 0), some (vI (nI v)), some (vI (nI w)), some (vI (nI (heardN a))), none, none, none, none, none]) dX11_findOdds_8 rfl ?_
  refine w_aload_n dX11_findOdds_9 rfl ?_
  refine w_lconst (v := 0) dX11_findOdds_10 (by decide) ?_
  refine w_putL ff_X11_259 rfl rfl rfl rfl dX11_findOdds_11 ?_
  refine w_aload_n dX11_findOdds_14 rfl ?_
  refine w_lconst (v := 0) dX11_findOdds_15 (by decide) ?_
  refine w_putL ff_X11_263 rfl rfl rfl rfl dX11_findOdds_16 ?_
  refine w_aload_n dX11_findOdds_19 rfl ?_
  refine w_lconst (v := 1) dX11_findOdds_20 (by decide) ?_
  refine w_putL ff_X11_266 rfl rfl rfl rfl dX11_findOdds_21 ?_
  refine w_iconst (v := 0) dX11_findOdds_24 (by decide) ?_
  refine w_istore (ls' := [some (vR 30 0 0), some (vI (nI v)), some (vI (nI w)), some (vI (nI (heardN a))), some (vI (0)), none, none, none, none]) dX11_findOdds_25 rfl ?_
  refine l_odds1 hm1 hw (nC a) 0 _ (Nat.zero_add _) ((xup_slot (by decide)).trans ((xup_slot (by decide)).trans xup_self)) ((xup_slot (by decide)).trans xup_self) xup_self (fun L9 h0 h1 h2 => ?_)
  refine w_iconst (v := 0) dX11_findOdds_68 (by decide) ?_
  refine w_istore (ls' := [some (vR 30 0 0), some (vI (nI v)), some (vI (nI w)), some (vI (nI (heardN a))), some (vI (0)), none, none, none, none]) dX11_findOdds_69 rfl ?_
  exact l_odds3 hw hv hw99 (2 ^ nC a) 0 I1 L9 none none none none (Nat.zero_add _) trivial trivial hs1 hf1.r h0 h1 h2
