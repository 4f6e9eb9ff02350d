/-! THE REFERENCE'S ARRAYS as an abstract court -/
theorem ar_add {x y : Int32} {p q r : Nat} (hx : x = nI p) (hy : y = nI q) (h : p + q = r) : x + y = nI r := by subst hx hy h; exact nI_add p q
theorem ar_mul {x y : Int32} {p q r : Nat} (hx : x = nI p) (hy : y = nI q) (h : p * q = r) : x * y = nI r := by subst hx hy h; exact pk_mul p q
theorem ar_sub {x y : Int32} {p q r : Nat} (hx : x = nI p) (hy : y = nI q) (hl : q ≤ p) (h : p - q = r) : x - y = nI r := by subst hx hy h; exact pk_sub hl
theorem ar_div {x y : Int32} {p q r : Nat} (hx : x = nI p) (hy : y = nI q) (hp : p < 2 ^ 31) (h0 : 0 < q) (hq : q < 2 ^ 31) (h : p / q = r) : x / y = nI r := by subst hx hy h; exact pk_div hp h0 hq
theorem ar_rem {x y : Int32} {p q r : Nat} (hx : x = nI p) (hy : y = nI q) (hp : p < 2 ^ 31) (h0 : 0 < q) (hq : q < 2 ^ 31) (h : p % q = r) : x - x / y * y = nI r := by subst hx hy h; exact pk_rem hp h0 hq
abbrev ajF (a : aA) (j f v : Nat) : aA := mkA (nJ a) (nC a) (nG a) (dY a) (cR a) (up2 (JF a) j f v) (SC a) (SF a) (BY a) (GF a)
abbrev ascA (a : aA) (j : Nat) (v : Int32) : aA := mkA (nJ a) (nC a) (nG a) (dY a) (cR a) (JF a) (up1 (SC a) j v) (SF a) (BY a) (GF a)
abbrev asF (a : aA) (c f v : Nat) : aA := mkA (nJ a) (nC a) (nG a) (dY a) (cR a) (JF a) (SC a) (up2 (SF a) c f v) (BY a) (GF a)
abbrev abyA (a : aA) (c : Nat) (b : Option Nat) : aA := mkA (nJ a) (nC a) (nG a) (dY a) (cR a) (JF a) (SC a) (SF a) (up1 (BY a) c b) (GF a)
abbrev adyA (a : aA) (v : Nat) : aA := mkA (nJ a) (nC a) (nG a) v (cR a) (JF a) (SC a) (SF a) (BY a) (GF a)
def NowIs (I : xF4 Int32) (t b : Nat) (a : aA) : Prop := (∀ j, j < nJ a → (∀ f, f < 4 → I t 0 0 (b + (5 * j + f)) = nI (jF a j f)) ∧ I t 0 0 (b + (5 * j + 4)) = sC a j) ∧
  (∀ c, c < nC a → (∀ f, f < 7 → f ≠ 5 → I t 0 0 (b + (20 + 7 * c + f)) = nI (sF a c f)) ∧ I t 0 0 (b + (20 + 7 * c + 5)) = byI (bY a c)) ∧
  I t 0 0 (b + 55) = nI (dY a) ∧ I t 0 0 (b + 56) = nI (cR a) ∧ I t 0 0 (b + 57) = nI (nG a) ∧ ∀ i, i < nG a → ∀ f, f < 3 → I t 0 0 (b + (58 + 3 * i + f)) = nI (gF a i f)
section NOW
variable {I : xF4 Int32} {t b : Nat} {a : aA}
theorem NowIs.j (h : NowIs I t b a) {j f x : Nat} (hj : j < nJ a) (hf : f < 4) (hx : x = b + (5 * j + f)) : I t 0 0 x = nI (jF a j f) := by subst hx; exact (h.1 j hj).1 f hf
theorem NowIs.sc (h : NowIs I t b a) {j x : Nat} (hj : j < nJ a) (hx : x = b + (5 * j + 4)) : I t 0 0 x = sC a j := by subst hx; exact (h.1 j hj).2
theorem NowIs.s (h : NowIs I t b a) {c f x : Nat} (hc : c < nC a) (hf : f < 7) (h5 : f ≠ 5) (hx : x = b + (20 + 7 * c + f)) : I t 0 0 x = nI (sF a c f) := by subst hx; exact (h.2.1 c hc).1 f hf h5
theorem NowIs.who (h : NowIs I t b a) {c x : Nat} (hc : c < nC a) (hx : x = b + (20 + 7 * c + 5)) : I t 0 0 x = byI (bY a c) := by subst hx; exact (h.2.1 c hc).2
theorem NowIs.dy (h : NowIs I t b a) {x : Nat} (hx : x = b + 55) : I t 0 0 x = nI (dY a) := by subst hx; exact h.2.2.1
theorem NowIs.cr (h : NowIs I t b a) {x : Nat} (hx : x = b + 56) : I t 0 0 x = nI (cR a) := by subst hx; exact h.2.2.2.1
theorem NowIs.ng (h : NowIs I t b a) {x : Nat} (hx : x = b + 57) : I t 0 0 x = nI (nG a) := by subst hx; exact h.2.2.2.2.1
theorem NowIs.g (h : NowIs I t b a) {i f x : Nat} (hi : i < nG a) (hf : f < 3) (hx : x = b + (58 + 3 * i + f)) : I t 0 0 x = nI (gF a i f) := by subst hx; exact h.2.2.2.2.2 i hi f hf
theorem NowIs.to (h : NowIs I t b a) (hw : WF a) {I' : xF4 Int32} {t' b' : Nat} (e : ∀ x, x < 76 → I' t' 0 0 (b' + x) = I t 0 0 (b + x)) : NowIs I' t' b' a := by
  obtain ⟨w1, w2, w3, -⟩ := hw
  exact ⟨fun j hj => ⟨fun f hf => (e _ (by omega)).trans ((h.1 j hj).1 f hf), (e _ (by omega)).trans (h.1 j hj).2⟩, fun c hc => ⟨fun f hf h5 => (e _ (by omega)).trans ((h.2.1 c hc).1 f hf h5), (e _ (by omega)).trans (h.2.1 c hc).2⟩, (e _ (by omega)).trans h.2.2.1, (e _ (by omega)).trans h.2.2.2.1, (e _ (by omega)).trans h.2.2.2.2.1, fun i hi f hf => (e _ (by omega)).trans (h.2.2.2.2.2 i hi f hf)⟩
theorem NowIs.fr (h : NowIs I t b a) {I' : xF4 Int32} (e : ∀ x, I' t 0 0 x = I t 0 0 x) : NowIs I' t b a := by
  unfold NowIs
  simp only [e]
  exact h
theorem NowIs.upJ (h : NowIs I t b a) {j f x : Nat} (hj : j < 4) (hf : f < 4) (hx : x = b + (5 * j + f)) (v : Nat) : NowIs (xup I t 0 0 x (nI v)) t b (ajF a j f v) := by
  subst hx
  obtain ⟨h1, h2, h3, h4, h5, h6⟩ := h
  refine ⟨fun j' hj' => ⟨fun f' hf' => ?_, (xup_slot (by omega)).trans (h1 j' hj').2⟩, fun c hc => ⟨fun f' hf' h5' => (xup_slot (by omega)).trans ((h2 c hc).1 f' hf' h5'), (xup_slot (by omega)).trans (h2 c hc).2⟩, (xup_slot (by omega)).trans h3, (xup_slot (by omega)).trans h4, (xup_slot (by omega)).trans h5, fun i hi f' hf' => (xup_slot (by omega)).trans (h6 i hi f' hf')⟩
  by_cases e : j' = j ∧ f' = f
  · obtain ⟨rfl, rfl⟩ := e
    rw [xup_self]
    show nI v = nI (up2 (JF a) j' f' v j' f')
    rw [up2_eq]
  · rw [xup_slot (by omega)]
    show _ = nI (up2 (JF a) j f v j' f')
    rw [up2_ne e]
    exact (h1 j' hj').1 f' hf'
theorem NowIs.upSc (h : NowIs I t b a) {j x : Nat} (hj : j < 4) (hx : x = b + (5 * j + 4)) (v : Int32) : NowIs (xup I t 0 0 x v) t b (ascA a j v) := by
  subst hx
  obtain ⟨h1, h2, h3, h4, h5, h6⟩ := h
  refine ⟨fun j' hj' => ⟨fun f' hf' => (xup_slot (by omega)).trans ((h1 j' hj').1 f' hf'), ?_⟩, fun c hc => ⟨fun f' hf' h5' => (xup_slot (by omega)).trans ((h2 c hc).1 f' hf' h5'), (xup_slot (by omega)).trans (h2 c hc).2⟩, (xup_slot (by omega)).trans h3, (xup_slot (by omega)).trans h4, (xup_slot (by omega)).trans h5, fun i hi f' hf' => (xup_slot (by omega)).trans (h6 i hi f' hf')⟩
  by_cases e : j' = j
  · subst e
    rw [xup_self]
    show v = up1 (SC a) j' v j'
    rw [up1_eq]
  · rw [xup_slot (by omega)]
    show _ = up1 (SC a) j v j'
    rw [up1_ne e]
    exact (h1 j' hj').2
theorem NowIs.upS (h : NowIs I t b a) (w : nJ a ≤ 4) {c f x : Nat} (hc : c < 5) (hf : f < 7) (h5 : f ≠ 5) (hx : x = b + (20 + 7 * c + f)) (v : Nat) : NowIs (xup I t 0 0 x (nI v)) t b (asF a c f v) := by
  subst hx
  obtain ⟨h1, h2, h3, h4, h5', h6⟩ := h
  have q : ∀ j', j' < nJ (asF a c f v) → j' < 4 := fun j' hj' => Nat.lt_of_lt_of_le hj' w
  refine ⟨fun j' hj' => ⟨fun f' hf' => (xup_slot (by have := q j' hj'; omega)).trans ((h1 j' hj').1 f' hf'), (xup_slot (by have := q j' hj'; omega)).trans (h1 j' hj').2⟩, fun c' hc' => ⟨fun f' hf' g5 => ?_, (xup_slot (by omega)).trans (h2 c' hc').2⟩, (xup_slot (by omega)).trans h3, (xup_slot (by omega)).trans h4, (xup_slot (by omega)).trans h5', fun i hi f' hf' => (xup_slot (by omega)).trans (h6 i hi f' hf')⟩
  by_cases e : c' = c ∧ f' = f
  · obtain ⟨rfl, rfl⟩ := e
    rw [xup_self]
    show nI v = nI (up2 (SF a) c' f' v c' f')
    rw [up2_eq]
  · rw [xup_slot (by omega)]
    show _ = nI (up2 (SF a) c f v c' f')
    rw [up2_ne e]
    exact (h2 c' hc').1 f' hf' g5
theorem NowIs.upB (h : NowIs I t b a) (w : nJ a ≤ 4) {c x : Nat} (hc : c < 5) (hx : x = b + (20 + 7 * c + 5)) (v : Option Nat) : NowIs (xup I t 0 0 x (byI v)) t b (abyA a c v) := by
  subst hx
  obtain ⟨h1, h2, h3, h4, h5', h6⟩ := h
  have q : ∀ j', j' < nJ (abyA a c v) → j' < 4 := fun j' hj' => Nat.lt_of_lt_of_le hj' w
  refine ⟨fun j' hj' => ⟨fun f' hf' => (xup_slot (by have := q j' hj'; omega)).trans ((h1 j' hj').1 f' hf'), (xup_slot (by have := q j' hj'; omega)).trans (h1 j' hj').2⟩, fun c' hc' => ⟨fun f' hf' g5 => (xup_slot (by omega)).trans ((h2 c' hc').1 f' hf' g5), ?_⟩, (xup_slot (by omega)).trans h3, (xup_slot (by omega)).trans h4, (xup_slot (by omega)).trans h5', fun i hi f' hf' => (xup_slot (by omega)).trans (h6 i hi f' hf')⟩
  by_cases e : c' = c
  · subst e
    rw [xup_self]
    show byI v = byI (up1 (BY a) c' v c')
    rw [up1_eq]
  · rw [xup_slot (by omega)]
    show _ = byI (up1 (BY a) c v c')
    rw [up1_ne e]
    exact (h2 c' hc').2
theorem NowIs.upCr (h : NowIs I t b a) (w : WF a) {x : Nat} (hx : x = b + 56) (v : Nat) : NowIs (xup I t 0 0 x (nI v)) t b (crimN a v) := by
  subst hx
  obtain ⟨h1, h2, h3, h4, h5', h6⟩ := h
  obtain ⟨w1, w2, w3, -⟩ := w
  have q1 : ∀ j', j' < nJ (crimN a v) → j' < 4 := fun j' hj' => Nat.lt_of_lt_of_le hj' w1
  have q2 : ∀ j', j' < nC (crimN a v) → j' < 5 := fun j' hj' => Nat.lt_of_lt_of_le hj' w2
  exact ⟨fun j' hj' => ⟨fun f' hf' => (xup_slot (by have := q1 j' hj'; omega)).trans ((h1 j' hj').1 f' hf'), (xup_slot (by have := q1 j' hj'; omega)).trans (h1 j' hj').2⟩, fun c' hc' => ⟨fun f' hf' g5 => (xup_slot (by have := q2 c' hc'; omega)).trans ((h2 c' hc').1 f' hf' g5), (xup_slot (by have := q2 c' hc'; omega)).trans (h2 c' hc').2⟩, (xup_slot (by omega)).trans h3, xup_self, (xup_slot (by omega)).trans h5', fun i hi f' hf' => (xup_slot (by omega)).trans (h6 i hi f' hf')⟩
theorem NowIs.upDy (h : NowIs I t b a) (w : WF a) {x : Nat} (hx : x = b + 55) (v : Nat) : NowIs (xup I t 0 0 x (nI v)) t b (adyA a v) := by
  subst hx
  obtain ⟨h1, h2, h3, h4, h5', h6⟩ := h
  obtain ⟨w1, w2, w3, -⟩ := w
  have q1 : ∀ j', j' < nJ (adyA a v) → j' < 4 := fun j' hj' => Nat.lt_of_lt_of_le hj' w1
  have q2 : ∀ j', j' < nC (adyA a v) → j' < 5 := fun j' hj' => Nat.lt_of_lt_of_le hj' w2
  exact ⟨fun j' hj' => ⟨fun f' hf' => (xup_slot (by have := q1 j' hj'; omega)).trans ((h1 j' hj').1 f' hf'), (xup_slot (by have := q1 j' hj'; omega)).trans (h1 j' hj').2⟩, fun c' hc' => ⟨fun f' hf' g5 => (xup_slot (by have := q2 c' hc'; omega)).trans ((h2 c' hc').1 f' hf' g5), (xup_slot (by have := q2 c' hc'; omega)).trans (h2 c' hc').2⟩, xup_self, (xup_slot (by omega)).trans h4, (xup_slot (by omega)).trans h5', fun i hi f' hf' => (xup_slot (by omega)).trans (h6 i hi f' hf')⟩
end NOW
/-- the reference's playing court -/
def MI (I : xF4 Int32) (a : aA) : Prop := I 30 0 0 3 = nI (nJ a) ∧ I 30 0 0 4 = nI (nC a) ∧ NowIs I 32 0 a
/-- only what has this tag has changed -/
def FrT (T : Nat) (I I' : xF4 Int32) : Prop := ∀ t b j s, t ≠ T → I' t b j s = I t b j s
theorem FrT.rf {T : Nat} {I : xF4 Int32} : FrT T I I := fun _ _ _ _ _ => rfl
theorem FrT.tr {T : Nat} {I I1 I2 : xF4 Int32} (h1 : FrT T I I1) (h2 : FrT T I1 I2) : FrT T I I2 := fun t b j s h => (h2 t b j s h).trans (h1 t b j s h)
theorem FrT.up {T k j s : Nat} {v : Int32} {I : xF4 Int32} : FrT T I (xup I T k j s v) := fun _ _ _ _ h => xup_tag h
/-- a court's crime goes by a sentence -/
theorem lessJ {cr n : Nat} (h1 : cr ≤ 99) (h2 : n ≤ 60) {x : Int32} (h : x = if n / 5 < cr then nI (cr - n / 5) else 0) : x = nI (cr - n / 5) := by
  rw [h]
  split
  · rfl
  · rw [show cr - n / 5 = 0 by omega]; rfl
theorem long_le {x y : Int32} : x.toInt64 ≤ y.toInt64 ↔ x ≤ y := by rw [Int64.le_iff_toInt_le, Int32.le_iff_toInt_le, Int32.toInt_toInt64, Int32.toInt_toInt64]
theorem inI {v lo hi : Int64} {x l h : Int32} (e1 : v = x.toInt64) (e2 : lo = l.toInt64) (e3 : hi = h.toInt64) : bI (lo ≤ v ∧ v ≤ hi) = bI (l ≤ x ∧ x ≤ h) := by
  subst e1 e2 e3
  exact bI_congr (by rw [long_le, long_le])
theorem ltI_pred {n : Nat} (hn : n ≤ 100) {x : Int32} : (0 ≤ x ∧ x ≤ nI n - 1) ↔ (∃ j : Nat, j < n ∧ x = nI j) := by
  constructor
  · rintro ⟨h1, h2⟩
    obtain ⟨j, hj, rfl⟩ := nI_of (i32_nlt.mpr h1)
    refine ⟨j, ?_, rfl⟩
    have h3 : (nI n - nI 1).toInt = (n : Int) - (1 : Nat) := pk_sub_toInt (by omega) (by omega)
    have h4 : (nI n - 1 : Int32).toInt = (n : Int) - 1 := h3
    rw [i32_le, nI_toInt hj, h4] at h2
    omega
  · rintro ⟨j, hj, rfl⟩
    refine ⟨i32_nlt.mp (nI_pos (by omega)), ?_⟩
    have h3 : (nI n - nI 1).toInt = (n : Int) - (1 : Nat) := pk_sub_toInt (by omega) (by omega)
    have h4 : (nI n - 1 : Int32).toInt = (n : Int) - 1 := h3
    rw [i32_le, nI_toInt (by omega), h4]
    omega
theorem rangeI {lo hi : Nat} (hh : hi < 2 ^ 31) {x : Int32} : (nI lo ≤ x ∧ x ≤ nI hi) ↔ (∃ n : Nat, lo ≤ n ∧ n ≤ hi ∧ x = nI n) ∨ (2 ^ 31 ≤ lo ∧ nI lo ≤ x ∧ x ≤ nI hi) := by
  constructor
  · rintro ⟨h1, h2⟩
    by_cases hl : 2 ^ 31 ≤ lo
    · exact Or.inr ⟨hl, h1, h2⟩
    · have h0 : (0 : Int32) ≤ x := by
        rw [i32_le] at *
        rw [nI_toInt (by omega)] at h1
        show (0 : Int) ≤ _
        omega
      obtain ⟨n, hn, rfl⟩ := nI_of (i32_nlt.mpr h0)
      exact Or.inl ⟨n, (nI_leI (by omega) hn).mp h1, (nI_leI hn hh).mp h2, rfl⟩
  · rintro (⟨n, h1, h2, rfl⟩ | h)
    · exact ⟨(nI_leI (by omega) (by omega)).mpr h1, (nI_leI (by omega) hh).mpr h2⟩
    · exact h.2

theorem d_in {I : xF4 Int32} {L : xF4 Int64} (v lo hi : Int64) : Tri 0 109 m_X11_in [vL (v), vL (lo), vL (hi)] (rM I L) (pI (bI (lo ≤ v ∧ v ≤ hi)) I L) := by
  refine ⟨k_X11_in, Nat.le_of_ble_eq_true rfl, ?_⟩
  show Wp _ _ _ 0 [some (vL (v)), none, some (vL (lo)), none, some (vL (hi)), none] [] (rM I L) _
  refine w_lload_n dX11_in_0 rfl ?_
  refine w_lload_n dX11_in_1 rfl ?_
  refine w_lcmp dX11_in_2 ?_
  refine w_if_lt (tgt := 17) dX11_in_3 (by decide) (fun h1 => ?_) (fun h1 => ?_)
  · skip
    refine w_iconst (v := 0) dX11_in_17 (by decide) ?_
    exact w_ireturn dX11_in_18 rfl (rfl) rfl (⟨by rw [bI_f (fun q => by first | exact absurd q.1 (Int64.not_le.mpr ((lg_cmp_lt _ _).mp h1)) | exact absurd q.2 (Int64.not_le.mpr ((lg_cmp_gt _ _).mp h2)))], rfl⟩)
  · skip
    refine w_lload_n dX11_in_6 rfl ?_
    refine w_lload dX11_in_7 rfl ?_
    refine w_lcmp dX11_in_9 ?_
    refine w_if_gt (tgt := 17) dX11_in_10 (by decide) (fun h2 => ?_) (fun h2 => ?_)
    · skip
      refine w_iconst (v := 0) dX11_in_17 (by decide) ?_
      exact w_ireturn dX11_in_18 rfl (rfl) rfl (⟨by rw [bI_f (fun q => by first | exact absurd q.1 (Int64.not_le.mpr ((lg_cmp_lt _ _).mp h1)) | exact absurd q.2 (Int64.not_le.mpr ((lg_cmp_gt _ _).mp h2)))], rfl⟩)
    · skip
      refine w_iconst (v := 1) dX11_in_13 (by decide) ?_
      refine w_goto (tgt := 18) dX11_in_14 (by decide) ?_
      exact w_ireturn dX11_in_18 rfl (rfl) rfl (⟨by rw [bI_t ⟨Int64.not_lt.mp (fun q => h1 ((lg_cmp_lt _ _).mpr q)), Int64.not_lt.mp (fun q => h2 ((lg_cmp_gt _ _).mpr q))⟩], rfl⟩)

theorem d_flag {I : xF4 Int32} {L : xF4 Int64} (p : Prop) [Decidable p] : Tri 0 109 m_X11_flag [vI (bI p)] (rM I L) (pI (bI p) I L) := by
  refine ⟨k_X11_flag, Nat.le_of_ble_eq_true rfl, ?_⟩
  show Wp _ _ _ 0 [some (vI (bI p))] [] (rM I L) _
  refine w_iload_n dX11_flag_0 rfl ?_
  refine w_ifeq_b (tgt := 8) dX11_flag_1 (by decide) (fun h1 => ?_) (fun h1 => ?_)
  · skip
    refine w_iconst (v := 0) dX11_flag_8 (by decide) ?_
    exact w_ireturn dX11_flag_9 rfl (rfl) rfl (⟨by rw [bI_f h1], rfl⟩)
  · skip
    refine w_iconst (v := 1) dX11_flag_4 (by decide) ?_
    refine w_goto (tgt := 9) dX11_flag_5 (by decide) ?_
    exact w_ireturn dX11_flag_9 rfl (rfl) rfl (⟨by rw [bI_t h1], rfl⟩)

theorem d_flag1 {I : xF4 Int32} {L : xF4 Int64} : Tri 0 109 m_X11_flag [vI (1)] (rM I L) (pI 1 I L) := by
  refine ⟨k_X11_flag, Nat.le_of_ble_eq_true rfl, ?_⟩
  show Wp _ _ _ 0 [some (vI (1))] [] (rM I L) _
  refine w_iload_n dX11_flag_0 rfl ?_
  refine w_if_eq (tgt := 8) dX11_flag_1 (by decide) (fun h => absurd h ((by decide : ¬ (1 : Int32) = 0))) (fun _ => ?_)
  refine w_iconst (v := 1) dX11_flag_4 (by decide) ?_
  refine w_goto (tgt := 9) dX11_flag_5 (by decide) ?_
  exact w_ireturn dX11_flag_9 rfl (rfl) rfl (⟨rfl, rfl⟩)

theorem d_flag0 {I : xF4 Int32} {L : xF4 Int64} : Tri 0 109 m_X11_flag [vI (0)] (rM I L) (pI 0 I L) := by
  refine ⟨k_X11_flag, Nat.le_of_ble_eq_true rfl, ?_⟩
  show Wp _ _ _ 0 [some (vI (0))] [] (rM I L) _
  refine w_iload_n dX11_flag_0 rfl ?_
  refine w_if_eq (tgt := 8) dX11_flag_1 (by decide) (fun _ => ?_) (fun h => absurd ((rfl : (0 : Int32) = 0)) h)
  refine w_iconst (v := 0) dX11_flag_8 (by decide) ?_
  exact w_ireturn dX11_flag_9 rfl (rfl) rfl (⟨rfl, rfl⟩)

theorem d_lesser {I : xF4 Int32} {L : xF4 Int64} (x y : Nat) (hx : x < 2 ^ 31) (hy : y < 2 ^ 31) : Tri 0 109 m_X11_lesser [vI (nI x), vI (nI y)] (rM I L) (pI (nI (min x y)) I L) := by
  refine ⟨k_X11_lesser, Nat.le_of_ble_eq_true rfl, ?_⟩
  show Wp _ _ _ 0 [some (vI (nI x)), some (vI (nI y))] [] (rM I L) _
  refine w_iload_n dX11_lesser_0 rfl ?_
  refine w_iload_n dX11_lesser_1 rfl ?_
  refine w_icmp_ge (tgt := 9) dX11_lesser_2 (by decide) (fun h1 => ?_) (fun h1 => ?_)
  · skip
    replace h1 : (y) ≤ (x) := (nI_leI (a := y) (b := x) (by omega) (by omega)).mp h1
    refine w_iload_n dX11_lesser_9 rfl ?_
    exact w_ireturn dX11_lesser_10 rfl (rfl) rfl (⟨by rw [show min x y = y by omega], rfl⟩)
  · skip
    replace h1 : ¬ ((y) ≤ (x)) := fun q => h1 ((nI_leI (a := y) (b := x) (by omega) (by omega)).mpr q)
    refine w_iload_n dX11_lesser_5 rfl ?_
    refine w_goto (tgt := 10) dX11_lesser_6 (by decide) ?_
    exact w_ireturn dX11_lesser_10 rfl (rfl) rfl (⟨by rw [show min x y = x by omega], rfl⟩)

theorem tenM0 : ∀ kind, kind < 4 → ∀ n, n < 61 → (if nI kind = 1 then (if (nI n + 9) / 10 ≤ (1 : Int32) then 1 else (nI n + 9) / 10 - 1) else if nI kind = 2 then ((nI n + 9) / 10 + 1) / 2 else if nI kind = 3 then 2 * (((nI n + 9) / 10 + 1) / 2) else (nI n + 9) / 10) = nI (tenN kind n) := by decide +kernel

theorem d_tenthBy {I : xF4 Int32} {L : xF4 Int64} {kind n : Nat} (hk : kind < 4) (hn : n ≤ 60) : Tri 0 109 m_X11_tenthBy [vI (nI kind), vI (nI n)] (rM I L) (pI (nI (tenN kind n)) I L) := by
  refine ⟨k_X11_tenthBy, Nat.le_of_ble_eq_true rfl, ?_⟩
  show Wp _ _ _ 0 [some (vI (nI kind)), some (vI (nI n)), none, none] [] (rM I L) _
  have q := tenM0 kind hk n (by omega)
  refine w_iload_n dX11_tenthBy_0 rfl ?_
  refine w_bipush (v := 9) dX11_tenthBy_1 (by decide) ?_
  refine w_iadd dX11_tenthBy_3 ?_
  refine w_bipush (v := 10) dX11_tenthBy_4 (by decide) ?_
  refine w_idiv dX11_tenthBy_6 (by decide) ?_
  refine w_istore_n (ls' := [some (vI (nI kind)), some (vI (nI n)), some (vI (((nI n) + (9)) / (10))), none]) dX11_tenthBy_7 rfl ?_
  refine w_iload_n dX11_tenthBy_8 rfl ?_
  refine w_iconst (v := 1) dX11_tenthBy_9 (by decide) ?_
  refine w_iadd dX11_tenthBy_10 ?_
  refine w_iconst (v := 2) dX11_tenthBy_11 (by decide) ?_
  refine w_idiv dX11_tenthBy_12 (by decide) ?_
  refine w_istore_n (ls' := [some (vI (nI kind)), some (vI (nI n)), some (vI (((nI n) + (9)) / (10))), some (vI (((((nI n) + (9)) / (10)) + (1)) / (2)))]) dX11_tenthBy_13 rfl ?_
  refine w_iload_n dX11_tenthBy_14 rfl ?_
  refine w_iconst (v := 1) dX11_tenthBy_15 (by decide) ?_
  refine w_icmp_ne (tgt := 32) dX11_tenthBy_16 (by decide) (fun h1 => ?_) (fun h1 => ?_)
  · skip
    refine w_iload_n dX11_tenthBy_32 rfl ?_
    refine w_iconst (v := 2) dX11_tenthBy_33 (by decide) ?_
    refine w_icmp_ne (tgt := 41) dX11_tenthBy_34 (by decide) (fun h2 => ?_) (fun h2 => ?_)
    · skip
      refine w_iload_n dX11_tenthBy_41 rfl ?_
      refine w_iconst (v := 3) dX11_tenthBy_42 (by decide) ?_
      refine w_icmp_ne (tgt := 52) dX11_tenthBy_43 (by decide) (fun h3 => ?_) (fun h3 => ?_)
      · skip
        refine w_iload_n dX11_tenthBy_52 rfl ?_
        exact w_ireturn dX11_tenthBy_53 rfl (rfl) rfl (⟨by rw [← q]; simp only [*, if_true, if_false]; try rfl, rfl⟩)
      · skip
        refine w_iconst (v := 2) dX11_tenthBy_46 (by decide) ?_
        refine w_iload_n dX11_tenthBy_47 rfl ?_
        refine w_imul dX11_tenthBy_48 ?_
        refine w_goto (tgt := 53) dX11_tenthBy_49 (by decide) ?_
        exact w_ireturn dX11_tenthBy_53 rfl (rfl) rfl (⟨by rw [← q]; simp only [*, if_true, if_false]; try rfl, rfl⟩)
    · skip
      refine w_iload_n dX11_tenthBy_37 rfl ?_
      refine w_goto (tgt := 53) dX11_tenthBy_38 (by decide) ?_
      exact w_ireturn dX11_tenthBy_53 rfl (rfl) rfl (⟨by rw [← q]; simp only [*, if_true, if_false]; try rfl, rfl⟩)
  · skip
    refine w_iload_n dX11_tenthBy_19 rfl ?_
    refine w_iconst (v := 1) dX11_tenthBy_20 (by decide) ?_
    refine w_icmp_le (tgt := 30) dX11_tenthBy_21 (by decide) (fun h2 => ?_) (fun h2 => ?_)
    · skip
      refine w_iconst (v := 1) dX11_tenthBy_30 (by decide) ?_
      exact w_ireturn dX11_tenthBy_31 rfl (rfl) rfl (⟨by rw [← q]; simp only [*, if_true, if_false]; try rfl, rfl⟩)
    · skip
      refine w_iload_n dX11_tenthBy_24 rfl ?_
      refine w_iconst (v := 1) dX11_tenthBy_25 (by decide) ?_
      refine w_isub dX11_tenthBy_26 ?_
      refine w_goto (tgt := 31) dX11_tenthBy_27 (by decide) ?_
      exact w_ireturn dX11_tenthBy_31 rfl (rfl) rfl (⟨by rw [← q]; simp only [*, if_true, if_false]; try rfl, rfl⟩)
