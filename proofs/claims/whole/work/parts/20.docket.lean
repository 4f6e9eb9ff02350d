/-! the class's docket (by wip/whole/gen/g20.py) -/
def SeatsIs (I : xF4 Int32) (ss : List Nat) : Prop := I 12 0 0 1 = nI ss.length ∧ ss.length ≤ 4 ∧ ∀ (i j : Nat), ss[i]? = some j → I 13 0 0 i = nI j
/-- nothing but the docket's own rows has changed -/
def FrD (I I' : xF4 Int32) : Prop := ∀ t b j s, t ≠ 12 → t ≠ 13 → I' t b j s = I t b j s
theorem FrD.rf {I : xF4 Int32} : FrD I I := fun _ _ _ _ _ _ => rfl
theorem FrD.tr {I I1 I2 : xF4 Int32} (h1 : FrD I I1) (h2 : FrD I1 I2) : FrD I I2 := fun t b j s h h' => (h2 t b j s h h').trans (h1 t b j s h h')
theorem FrD.court {k : Nat} {I I' : xF4 Int32} {a : aA} (h : FrD I I') (hc : CourtIs I k a) : CourtIs I' k a := by
  have e1 : ∀ b j s, I' 1 b j s = I 1 b j s := fun b j s => h 1 b j s (by decide) (by decide)
  have e3 : ∀ b j s, I' 3 b j s = I 3 b j s := fun b j s => h 3 b j s (by decide) (by decide)
  have e5 : ∀ b j s, I' 5 b j s = I 5 b j s := fun b j s => h 5 b j s (by decide) (by decide)
  have e7 : ∀ b j s, I' 7 b j s = I 7 b j s := fun b j s => h 7 b j s (by decide) (by decide)
  unfold CourtIs
  simp only [e1, e3, e5, e7]
  exact hc
theorem FrC.seats {I I' : xF4 Int32} {ss : List Nat} (h : FrC 1 I I') (hs : SeatsIs I ss) : SeatsIs I' ss := ⟨(h 12 0 0 1 (by omega)).trans hs.1, hs.2.1, fun i j hij => (h 13 0 0 i (by omega)).trans (hs.2.2 i j hij)⟩
def seatX (I : xF4 Int32) (n j : Nat) : xF4 Int32 := xup (xup I 13 0 0 n (nI j)) 12 0 0 1 (nI (n + 1))
theorem seatX_fr (I : xF4 Int32) (n j : Nat) : FrD I (seatX I n j) := fun t b j' s h1 h2 => by
  unfold seatX
  rw [xup_tag h1, xup_tag h2]
theorem seatX_is {I : xF4 Int32} {ss : List Nat} (hs : SeatsIs I ss) (hl : ss.length < 4) (j : Nat) : SeatsIs (seatX I ss.length j) (ss ++ [j]) := by
  refine ⟨?_, by simp; omega, fun i j' h => ?_⟩
  · unfold seatX; rw [xup_self]; simp
  · unfold seatX
    rw [xup_tag (by decide)]
    by_cases e : i = ss.length
    · subst e
      rw [xup_self]
      simp at h
      rw [h]
    · rw [xup_slot e]
      refine hs.2.2 i j' ?_
      have hlt := (List.getElem?_eq_some_iff.mp h).1
      simp at hlt
      rwa [List.getElem?_append_left (by omega)] at h

theorem c_seat {I : xF4 Int32} {L : xF4 Int64} {ss : List Nat} (hs : SeatsIs I ss) (hl : ss.length < 4) (j : Nat) : Tri 0 109 m_X2_seat [vR 12 0 0, vI (nI j)] (rM I L) (pV (seatX I ss.length j) L) := by
  refine ⟨k_X2_seat, Nat.le_of_ble_eq_true rfl, ?_⟩
  show Wp _ _ _ 0 [some (vR 12 0 0), some (vI (nI j))] [] (rM I L) _
  obtain ⟨s1, s2, s3⟩ := id hs
  refine w_aload_n dX2_seat_0 rfl ?_
  refine w_getI ff_X2_15 rfl rfl dX2_seat_1 ?_
  rw [show (I 12 0 0 1 : Int32) = nI ss.length from s1]
  refine w_if_lt (tgt := 39) dX2_seat_4 (by decide) (fun h => absurd h (nI_pos (by omega))) (fun _ => ?_)
  refine w_aload_n dX2_seat_7 rfl ?_
  refine w_getI ff_X2_15 rfl rfl dX2_seat_8 ?_
  rw [show (I 12 0 0 1 : Int32) = nI ss.length from s1]
  refine w_aload_n dX2_seat_11 rfl ?_
  refine w_getR (w := some (13, 0, 0)) ff_X2_9 rfl rfl dX2_seat_12 rfl ?_
  refine w_alen (v := 4) rfl rfl dX2_seat_15 ?_
  refine w_icmp_ge (tgt := 39) dX2_seat_16 (by decide) (fun h => absurd h (nI_ge (b := 4) hl (by omega))) (fun _ => ?_)
  refine w_aload_n dX2_seat_19 rfl ?_
  refine w_getR (w := some (13, 0, 0)) ff_X2_9 rfl rfl dX2_seat_20 rfl ?_
  refine w_aload_n dX2_seat_23 rfl ?_
  refine w_getI ff_X2_15 rfl rfl dX2_seat_24 ?_
  rw [show (I 12 0 0 1 : Int32) = nI ss.length from s1]
  refine w_iload_n dX2_seat_27 rfl ?_
  refine w_iastore (a := ss.length) rfl (vp_in_nI hl (by omega)) (nI_clamp (by omega)) dX2_seat_28 ?_
  refine w_aload_n dX2_seat_29 rfl ?_
  refine w_dup dX2_seat_30 rfl ?_
  refine w_getI ff_X2_15 rfl rfl dX2_seat_31 ?_
  rw [show ((xup I 13 0 0 (ss.length) (nI j)) 12 0 0 1 : Int32) = nI ss.length from (xup_tag (by decide)).trans s1]
  refine w_iconst (v := 1) dX2_seat_34 (by decide) ?_
  refine w_iadd dX2_seat_35 ?_
  refine w_putI ff_X2_15 rfl rfl rfl rfl dX2_seat_36 ?_
  exact w_return dX2_seat_39 rfl rfl (⟨rfl, by rw [show (nI ss.length + 1 : Int32) = nI (ss.length + 1) from nI_1 _]; rfl⟩)

def seatL (p : Nat → Bool) (n : Nat) : List Nat := (List.range n).filter p
theorem seatL_s {p : Nat → Bool} {n : Nat} (h : p n = true) : seatL p (n + 1) = seatL p n ++ [n] := by simp [seatL, List.range_succ, h]
theorem seatL_n {p : Nat → Bool} {n : Nat} (h : ¬ p n = true) : seatL p (n + 1) = seatL p n := by simp [seatL, List.range_succ, h]
theorem seatL_le (p : Nat → Bool) (n : Nat) : (seatL p n).length ≤ n := by
  have := List.length_filter_le p (List.range n)
  rwa [List.length_range] at this
theorem seatL_lt {p : Nat → Bool} {n j : Nat} (h : j ∈ seatL p n) : j < n := List.mem_range.mp (List.mem_filter.mp h).1
abbrev pSe (ss : List Nat) (I : xF4 Int32) (L : xF4 Int64) : Option xV → xM → Prop := fun v M => v = none ∧ ∃ I', M = rM I' L ∧ SeatsIs I' ss ∧ FrD I I'

theorem l_seatWithout {L : xF4 Int64} {k : Nat} {a : aA} (hw : WF a) {x : Int32} {p : Nat → Bool} (hp : ∀ j, j < 4 → (nI j = x ↔ p j = false)) {I0 : xF4 Int32} : ∀ (m c : Nat) (I : xF4 Int32), c + m = nJ a → CourtIs I k a → SeatsIs I (seatL p c) → FrD I0 I → Wp 1 109 m_X2_seatWithout 7 [some (vR 12 0 0), some (vR 1 k 0), some (vI x), some (vI (nI c))] [] (rM I L) (pSe (seatL p (nJ a)) I0 L) := by
  intro m
  induction m with
  | zero =>
    intro c I hm hc hs hf
    have e : c = nJ a := by omega
    subst e
    obtain ⟨ft0, ft1, ft2, ft3, ft4, -⟩ := id hw
    refine w_iload_n dX2_seatWithout_7 rfl ?_
    refine w_aload_n dX2_seatWithout_8 rfl ?_
    refine w_getI ff_X2_23 rfl rfl dX2_seatWithout_9 ?_
    rw [show (I 1 k 0 3 : Int32) = nI (nJ a) from hc.1]
    refine w_icmp_ge (tgt := 31) dX2_seatWithout_12 (by decide) (fun _ => ?_) (fun h => absurd (nI_le (Nat.le_refl _) (by omega)) h)
    exact w_return dX2_seatWithout_31 rfl rfl (⟨rfl, I, rfl, hs, hf⟩)
  | succ m ih =>
    intro c I hm hc hs hf
    have hcc : c < nJ a := by omega
    have hle := seatL_le p c
    obtain ⟨ft0, ft1, ft2, ft3, ft4, -⟩ := id hw
    refine w_iload_n dX2_seatWithout_7 rfl ?_
    refine w_aload_n dX2_seatWithout_8 rfl ?_
    refine w_getI ff_X2_23 rfl rfl dX2_seatWithout_9 ?_
    rw [show (I 1 k 0 3 : Int32) = nI (nJ a) from hc.1]
    refine w_icmp_ge (tgt := 31) dX2_seatWithout_12 (by decide) (fun h => absurd h (nI_ge hcc (by omega))) (fun _ => ?_)
    refine w_iload_n dX2_seatWithout_15 rfl ?_
    refine w_iload_n dX2_seatWithout_16 rfl ?_
    refine w_icmp_eq (tgt := 25) dX2_seatWithout_17 (by decide) (fun h1 => ?_) (fun h1 => ?_)
    · skip
      refine w_iinc (v := nI (c + 1)) (ls' := [some (vR 12 0 0), some (vR 1 k 0), some (vI (x)), some (vI (nI (c + 1)))]) dX2_seatWithout_25 rfl (nI_1 _) rfl ?_
      refine w_goto (tgt := 7) dX2_seatWithout_28 (by decide) ?_
      exact ih (c + 1) _ (by omega) hc (by rw [seatL_n (fun q => by rw [(hp c (by omega)).mp h1] at q; cases q)]; exact hs) hf
    · skip
      refine w_aload_n dX2_seatWithout_20 rfl ?_
      refine w_iload_n dX2_seatWithout_21 rfl ?_
      refine w_callV (as := [vI (nI c)]) (st := []) (Tri.mono (c_seat hs (by omega) c) (Nat.le_of_ble_eq_true rfl)) rfl rfl tg_X2_seat lk_X2_28 in_X2_seat se_X2_seat rfl dX2_seatWithout_22 rfl (Nat.le_of_ble_eq_true rfl) (Nat.le_refl _) (Nat.le_refl _) ?_
      rintro _ _ ⟨rfl, rfl⟩ -
      refine w_iinc (v := nI (c + 1)) (ls' := [some (vR 12 0 0), some (vR 1 k 0), some (vI (x)), some (vI (nI (c + 1)))]) dX2_seatWithout_25 rfl (nI_1 _) rfl ?_
      refine w_goto (tgt := 7) dX2_seatWithout_28 (by decide) ?_
      have hfx := seatX_fr I (seatL p c).length c
      exact ih (c + 1) _ (by omega) (hfx.court hc) (by rw [seatL_s (Classical.byContradiction fun q => h1 ((hp c (by omega)).mpr (Bool.not_eq_true _ |>.mp q)))]; exact seatX_is hs (by omega) c) (hf.tr hfx)

theorem c_seatWithout {I : xF4 Int32} {L : xF4 Int64} {k : Nat} {a : aA} (hc : CourtIs I k a) (hw : WF a) {x : Int32} {p : Nat → Bool} (hp : ∀ j, j < 4 → (nI j = x ↔ p j = false)) : Tri 1 109 m_X2_seatWithout [vR 12 0 0, vR 1 k 0, vI (x)] (rM I L) (pSe (seatL p (nJ a)) I L) := by
  refine ⟨k_X2_seatWithout, Nat.le_of_ble_eq_true rfl, ?_⟩
  show Wp _ _ _ 0 [some (vR 12 0 0), some (vR 1 k 0), some (vI (x)), none] [] (rM I L) _
  refine w_aload_n dX2_seatWithout_0 rfl ?_
  refine w_iconst (v := 0) dX2_seatWithout_1 (by decide) ?_
  refine w_putI ff_X2_15 rfl rfl rfl rfl dX2_seatWithout_2 ?_
  refine w_iconst (v := 0) dX2_seatWithout_5 (by decide) ?_
  refine w_istore_n (ls' := [some (vR 12 0 0), some (vR 1 k 0), some (vI (x)), some (vI (0))]) dX2_seatWithout_6 rfl ?_
  have hf : FrD I (xup I 12 0 0 1 (0)) := fun t b j s h1 h2 => xup_tag h1
  exact l_seatWithout hw hp (nJ a) 0 _ (Nat.zero_add _) (hf.court hc) ⟨xup_self, Nat.zero_le _, fun i j h => by cases h⟩ hf

theorem c_seatAll {I : xF4 Int32} {L : xF4 Int64} {k : Nat} {a : aA} (hc : CourtIs I k a) (hw : WF a) : Tri 2 109 m_X2_seatAll [vR 12 0 0, vR 1 k 0] (rM I L) (pSe (seatL (fun _ => true) (nJ a)) I L) := by
  refine ⟨k_X2_seatAll, Nat.le_of_ble_eq_true rfl, ?_⟩
  show Wp _ _ _ 0 [some (vR 12 0 0), some (vR 1 k 0)] [] (rM I L) _
  refine w_aload_n dX2_seatAll_0 rfl ?_
  refine w_aload_n dX2_seatAll_1 rfl ?_
  refine w_bipush (v := (-4)) dX2_seatAll_2 (by decide) ?_
  have hp : ∀ j, j < 4 → (nI j = (-4 : Int32) ↔ (fun _ : Nat => true) j = false) := by decide +kernel
  refine w_callV (as := [vR 1 k 0, vI ((-4))]) (st := []) (Tri.mono (c_seatWithout hc hw (p := fun _ => true) hp) (Nat.le_of_ble_eq_true rfl)) rfl rfl tg_X2_seatWithout lk_X2_19 in_X2_seatWithout se_X2_seatWithout rfl dX2_seatAll_4 rfl (Nat.le_of_ble_eq_true rfl) (Nat.le_refl _) (Nat.le_refl _) ?_
  rintro v M9 ⟨rfl, I1, rfl, g1, g2⟩ -
  exact w_return dX2_seatAll_7 rfl rfl (⟨rfl, I1, rfl, g1, g2⟩)

abbrev pHe (a' : aA) (I : xF4 Int32) (L : xF4 Int64) : Option xV → xM → Prop := fun v M => v = none ∧ ∃ I', M = rM I' L ∧ CourtIs I' 1 a' ∧ FrC 1 I I'
theorem l_hearFirst {I : xF4 Int32} {L : xF4 Int64} {a : aA} (hc : CourtIs I 1 a) (hw : WF a) {j : Nat} (hj : j < nJ a) : ∀ (m c : Nat), c + m = nC a → Wp 5 109 m_X2_hearFirst 4 [some (vR 1 1 0), some (vI (nI j)), some (vI 1), some (vI (nI c))] [] (rM I L) (pHe (hearO a j (ffF a j c m)) I L) := by
  intro m
  induction m with
  | zero =>
    intro c hm
    have e : c = nC a := by omega
    subst e
    obtain ⟨ft0, ft1, ft2, ft3, ft4, -⟩ := id hw
    refine w_iload_n dX2_hearFirst_4 rfl ?_
    refine w_aload_n dX2_hearFirst_5 rfl ?_
    refine w_getI ff_X2_36 rfl rfl dX2_hearFirst_6 ?_
    rw [show (I 1 1 0 4 : Int32) = nI (nC a) from hc.2.1]
    refine w_icmp_ge (tgt := 37) dX2_hearFirst_9 (by decide) (fun _ => ?_) (fun h => absurd (nI_le (Nat.le_refl _) (by omega)) h)
    exact w_return dX2_hearFirst_37 rfl rfl (⟨rfl, I, rfl, hc, FrC.rf⟩)
  | succ m ih =>
    intro c hm
    have hcc : c < nC a := by omega
    obtain ⟨ft0, ft1, ft2, ft3, ft4, -⟩ := id hw
    refine w_iload_n dX2_hearFirst_4 rfl ?_
    refine w_aload_n dX2_hearFirst_5 rfl ?_
    refine w_getI ff_X2_36 rfl rfl dX2_hearFirst_6 ?_
    rw [show (I 1 1 0 4 : Int32) = nI (nC a) from hc.2.1]
    refine w_icmp_ge (tgt := 37) dX2_hearFirst_9 (by decide) (fun h => absurd h (nI_ge hcc (by omega))) (fun _ => ?_)
    refine w_iload_n dX2_hearFirst_12 rfl ?_
    refine w_if_eq (tgt := 37) dX2_hearFirst_13 (by decide) (fun h => absurd h ((by decide : ¬ (1 : Int32) = 0))) (fun _ => ?_)
    refine w_aload_n dX2_hearFirst_16 rfl ?_
    refine w_iload_n dX2_hearFirst_17 rfl ?_
    refine w_iload_n dX2_hearFirst_18 rfl ?_
    refine w_callV (as := [vI (nI c), vI (nI j)]) (st := []) (Tri.mono (c_sentenceToLeast hc hw hcc hj) (Nat.le_of_ble_eq_true rfl)) rfl rfl tg_X1_sentenceToLeast lk_X2_83 in_X1_sentenceToLeast se_X1_sentenceToLeast rfl dX2_hearFirst_19 rfl (Nat.le_of_ble_eq_true rfl) (Nat.le_refl _) (Nat.le_refl _) ?_
    rintro v M9 (⟨hp, rfl, I1, rfl, g1, g2⟩ | ⟨hp, rfl, rfl⟩) -
    · skip
      have hk := (sentN_k a c j (sF a c 1)).2.1
      refine w_if_ne (tgt := 29) dX2_hearFirst_22 (by decide) (fun _ => ?_) (fun h => absurd h ((by decide : ¬ (1 : Int32) = 0)))
      refine w_iconst (v := 0) dX2_hearFirst_29 (by decide) ?_
      refine w_istore_n (ls' := [some (vR 1 1 0), some (vI (nI j)), some (vI (0)), some (vI (nI c))]) dX2_hearFirst_30 rfl ?_
      refine w_iinc (v := nI (c + 1)) (ls' := [some (vR 1 1 0), some (vI (nI j)), some (vI (0)), some (vI (nI (c + 1)))]) dX2_hearFirst_31 rfl (nI_1 _) rfl ?_
      refine w_goto (tgt := 4) dX2_hearFirst_34 (by decide) ?_
      refine w_iload_n dX2_hearFirst_4 rfl ?_
      refine w_aload_n dX2_hearFirst_5 rfl ?_
      refine w_getI ff_X2_36 rfl rfl dX2_hearFirst_6 ?_
      rw [show (I1 1 1 0 4 : Int32) = nI (nC a) from by rw [g1.2.1]; exact congrArg nI hk]
      rw [ffF, if_pos hp]
      refine w_icmp_ge (tgt := 37) dX2_hearFirst_9 (by decide) (fun h2 => ?_) (fun h2 => ?_)
      · skip
        exact w_return dX2_hearFirst_37 rfl rfl (⟨rfl, I1, rfl, g1, g2⟩)
      · skip
        refine w_iload_n dX2_hearFirst_12 rfl ?_
        refine w_if_eq (tgt := 37) dX2_hearFirst_13 (by decide) (fun _ => ?_) (fun h => absurd (rfl) h)
        exact w_return dX2_hearFirst_37 rfl rfl (⟨rfl, I1, rfl, g1, g2⟩)
    · skip
      refine w_if_ne (tgt := 29) dX2_hearFirst_22 (by decide) (fun h => absurd ((rfl : (0 : Int32) = 0)) h) (fun _ => ?_)
      refine w_iconst (v := 1) dX2_hearFirst_25 (by decide) ?_
      refine w_goto (tgt := 30) dX2_hearFirst_26 (by decide) ?_
      refine w_istore_n (ls' := [some (vR 1 1 0), some (vI (nI j)), some (vI (1)), some (vI (nI c))]) dX2_hearFirst_30 rfl ?_
      refine w_iinc (v := nI (c + 1)) (ls' := [some (vR 1 1 0), some (vI (nI j)), some (vI (1)), some (vI (nI (c + 1)))]) dX2_hearFirst_31 rfl (nI_1 _) rfl ?_
      refine w_goto (tgt := 4) dX2_hearFirst_34 (by decide) ?_
      rw [ffF, if_neg hp]
      exact ih (c + 1) (by omega)

theorem c_hearFirst {I : xF4 Int32} {L : xF4 Int64} {a : aA} (hc : CourtIs I 1 a) (hw : WF a) {j : Nat} (hj : j < nJ a) : Tri 5 109 m_X2_hearFirst [vR 1 1 0, vI (nI j)] (rM I L) (pHe (hearN a j) I L) := by
  refine ⟨k_X2_hearFirst, Nat.le_of_ble_eq_true rfl, ?_⟩
  show Wp _ _ _ 0 [some (vR 1 1 0), some (vI (nI j)), none, none] [] (rM I L) _
  refine w_iconst (v := 1) dX2_hearFirst_0 (by decide) ?_
  refine w_istore_n (ls' := [some (vR 1 1 0), some (vI (nI j)), some (vI (1)), none]) dX2_hearFirst_1 rfl ?_
  refine w_iconst (v := 0) dX2_hearFirst_2 (by decide) ?_
  refine w_istore_n (ls' := [some (vR 1 1 0), some (vI (nI j)), some (vI (1)), some (vI (0))]) dX2_hearFirst_3 rfl ?_
  exact l_hearFirst hc hw hj (nC a) 0 (Nat.zero_add _)

/-- but the trial and two numbers of the docket nothing has changed -/
def FrP (I I' : xF4 Int32) : Prop := ∀ t b j s, ¬ ((t = 1 ∨ t = 3 ∨ t = 5 ∨ t = 7) ∧ b = 1) → ¬ (t = 12 ∧ (s = 2 ∨ s = 3)) → I' t b j s = I t b j s
theorem FrP.rf {I : xF4 Int32} : FrP I I := fun _ _ _ _ _ _ => rfl
theorem FrP.tr {I I1 I2 : xF4 Int32} (h1 : FrP I I1) (h2 : FrP I1 I2) : FrP I I2 := fun t b j s h h' => (h2 t b j s h h').trans (h1 t b j s h h')
theorem FrC.p {I I' : xF4 Int32} (h : FrC 1 I I') : FrP I I' := fun t b j s h1 _ => h t b j s h1
theorem FrP.up {I : xF4 Int32} {s : Nat} {v : Int32} (h : s = 2 ∨ s = 3) : FrP I (xup I 12 0 0 s v) := fun t b j s' _ h2 => by
  unfold xup
  rw [if_neg]
  rintro ⟨rfl, rfl, rfl, rfl⟩
  exact h2 ⟨rfl, h⟩
theorem FrP.court {k : Nat} {I I' : xF4 Int32} {a : aA} (h : FrP I I') (hk : k ≠ 1) (hc : CourtIs I k a) : CourtIs I' k a := by
  have e1 : ∀ j s, I' 1 k j s = I 1 k j s := fun j s => h 1 k j s (by omega) (by omega)
  have e3 : ∀ j s, I' 3 k j s = I 3 k j s := fun j s => h 3 k j s (by omega) (by omega)
  have e5 : ∀ j s, I' 5 k j s = I 5 k j s := fun j s => h 5 k j s (by omega) (by omega)
  have e7 : ∀ j s, I' 7 k j s = I 7 k j s := fun j s => h 7 k j s (by omega) (by omega)
  unfold CourtIs
  simp only [e1, e3, e5, e7]
  exact hc
theorem FrP.seats {I I' : xF4 Int32} {ss : List Nat} (h : FrP I I') (hs : SeatsIs I ss) : SeatsIs I' ss := ⟨(h 12 0 0 1 (by omega) (by omega)).trans hs.1, hs.2.1, fun i j hij => (h 13 0 0 i (by omega) (by omega)).trans (hs.2.2 i j hij)⟩
theorem CourtIs.up12 {I : xF4 Int32} {k s : Nat} {v : Int32} {a : aA} (hc : CourtIs I k a) : CourtIs (xup I 12 0 0 s v) k a := FrD.court (fun t b j s' h1 _ => xup_tag h1) hc
/-- behind a docket: the trial, who was heard, when all was clear -/
abbrev pPl (a' : aA) (hd cb : Int32) (I : xF4 Int32) (L : xF4 Int64) : Option xV → xM → Prop := fun v M => v = none ∧ ∃ I', M = rM I' L ∧ CourtIs I' 1 a' ∧ I' 12 0 0 2 = hd ∧ I' 12 0 0 3 = cb ∧ FrP I I'
theorem fold_take {ss : List Nat} {a : aA} {i j : Nat} (h : ss[i]? = some j) : (ss.take (i + 1)).foldl hearN a = hearN ((ss.take i).foldl hearN a) j := by
  rw [List.take_add_one, h, List.foldl_append]
  rfl
theorem byI_le {o : Option Nat} {d : Nat} (hd : d ≤ 100) (h : ∀ x, o = some x → x ≤ d) : byI o = (-4 : Int32) ↔ o = none := by
  cases o with
  | none => exact ⟨fun _ => rfl, fun _ => rfl⟩
  | some x =>
    have hx := h x rfl
    refine ⟨fun q => ?_, fun q => by cases q⟩
    exfalso
    have : ∀ y, y < 101 → ¬ nI y = (-4 : Int32) := by decide +kernel
    exact this x (by omega) q

theorem l_play1 {L : xF4 Int64} {k : Nat} {a : aA} (hw : WF a) {ss : List Nat} (hss : ∀ j ∈ ss, j < nJ a) {n d : Nat} {I0 : xF4 Int32} {Q : Option xV → xM → Prop} (hk9 : ∀ (I : xF4 Int32) (o4 : Option xV), CourtIs I 1 (ss.foldl hearN a) → FrC 1 I0 I → Wp 6 109 m_X2_play 70 [some (vR 12 0 0), some (vR 1 1 0), some (vR 1 k 0), some (vI (nI n)), some (vI (nI d)), o4] [] (rM I L) Q) : ∀ (m i : Nat) (I : xF4 Int32), i + m = ss.length → CourtIs I 1 ((ss.take i).foldl hearN a) → SeatsIs I ss → FrC 1 I0 I → Wp 6 109 m_X2_play 34 [some (vR 12 0 0), some (vR 1 1 0), some (vR 1 k 0), some (vI (nI n)), some (vI (nI d)), some (vI (nI i))] [] (rM I L) Q := by
  intro m
  induction m with
  | zero =>
    intro i I hm hc hs hf
    have e : i = ss.length := by omega
    subst e
    obtain ⟨s1, s2, s3⟩ := id hs
    rw [List.take_length] at hc
    refine w_iload dX2_play_34 rfl ?_
    refine w_aload_n dX2_play_36 rfl ?_
    refine w_getI ff_X2_15 rfl rfl dX2_play_37 ?_
    rw [show (I 12 0 0 1 : Int32) = nI ss.length from s1]
    refine w_icmp_ge (tgt := 70) dX2_play_40 (by decide) (fun _ => ?_) (fun h => absurd (nI_le (Nat.le_refl _) (by omega)) h)
    exact hk9 _ _ hc hf
  | succ m ih =>
    intro i I hm hc hs hf
    have hi : i < ss.length := by omega
    obtain ⟨s1, s2, s3⟩ := id hs
    obtain ⟨j, hj⟩ : ∃ j, ss[i]? = some j := ⟨ss[i], List.getElem?_eq_getElem hi⟩
    have hjm := List.mem_of_getElem? hj
    have hwi := WF.fold (ss.take i) hw (fun j hj => hss j (List.mem_of_mem_take hj))
    have hjn : j < nJ ((ss.take i).foldl hearN a) := by rw [(fold_k _ _).1]; exact hss j hjm
    refine w_iload dX2_play_34 rfl ?_
    refine w_aload_n dX2_play_36 rfl ?_
    refine w_getI ff_X2_15 rfl rfl dX2_play_37 ?_
    rw [show (I 12 0 0 1 : Int32) = nI ss.length from s1]
    refine w_icmp_ge (tgt := 70) dX2_play_40 (by decide) (fun h => absurd h (nI_ge hi (by omega))) (fun _ => ?_)
    refine w_iload dX2_play_43 rfl ?_
    refine w_aload_n dX2_play_45 rfl ?_
    refine w_getR (w := some (13, 0, 0)) ff_X2_9 rfl rfl dX2_play_46 rfl ?_
    refine w_alen (v := 4) rfl rfl dX2_play_49 ?_
    refine w_icmp_ge (tgt := 70) dX2_play_50 (by decide) (fun h => absurd h (nI_ge (b := 4) (by omega) (by omega))) (fun _ => ?_)
    refine w_aload_n dX2_play_53 rfl ?_
    refine w_aload_n dX2_play_54 rfl ?_
    refine w_getR (w := some (13, 0, 0)) ff_X2_9 rfl rfl dX2_play_55 rfl ?_
    refine w_iload dX2_play_58 rfl ?_
    refine w_iaload (a := i) rfl (vp_in_nI (by omega) (by omega)) (nI_clamp (by omega)) dX2_play_60 ?_
    rw [show (I 13 0 0 (i) : Int32) = nI j from s3 i j hj]
    refine w_callS (as := [vR 1 1 0, vI (nI j)]) (st := []) (Tri.mono (c_hearFirst hc hwi hjn) (Nat.le_of_ble_eq_true rfl)) tg_X2_hearFirst lk_X2_77 sa_X2_hearFirst rfl dX2_play_61 rfl (Nat.le_of_ble_eq_true rfl) (Nat.le_refl _) (Nat.le_refl _) ?_
    rintro v M9 ⟨rfl, I1, rfl, g1, g2⟩ -
    refine w_iinc (v := nI (i + 1)) (ls' := [some (vR 12 0 0), some (vR 1 1 0), some (vR 1 k 0), some (vI (nI n)), some (vI (nI d)), some (vI (nI (i + 1)))]) dX2_play_64 rfl (nI_1 _) rfl ?_
    refine w_goto (tgt := 34) dX2_play_67 (by decide) ?_
    exact ih (i + 1) I1 (by omega) (by rw [fold_take hj]; exact g1) (g2.seats hs) (hf.tr g2)

theorem l_play {L : xF4 Int64} {k : Nat} {a : aA} (hk : k ≠ 1) (hw : WF a) {ss : List Nat} (hss : ∀ j ∈ ss, j < nJ a) {n : Nat} (hn : n ≤ 90) (hd : dY a + n ≤ 2000) {I0 : xF4 Int32} : ∀ (m d : Nat) (I : xF4 Int32) (o4 : Option xV), d + m = n → CourtIs I 1 (itN ss a d) → CourtIs I k a → SeatsIs I ss → I 12 0 0 3 = byI (cbF ss a d) → FrP I0 I → Wp 6 109 m_X2_play 25 [some (vR 12 0 0), some (vR 1 1 0), some (vR 1 k 0), some (vI (nI n)), some (vI (nI (d + 1))), o4] [] (rM I L) (pPl (itN ss a n) (nI (heardN (itN ss a n)) &&& (nI (heardN a) ^^^ (-1))) (byI (cbF ss a n)) I0 L) := by
  intro m
  induction m with
  | zero =>
    intro d I o4 hm hc1 hck hs hcb hf
    have e : d = n := by omega
    subst e
    have hwd := hw.it hss d hd
    refine w_iload dX2_play_25 rfl ?_
    refine w_iload_n dX2_play_27 rfl ?_
    refine w_icmp_gt (tgt := 102) dX2_play_28 (by decide) (fun _ => ?_) (fun h => absurd (nI_lt (Nat.lt_succ_self _) (by omega)) h)
    refine w_aload_n dX2_play_102 rfl ?_
    refine w_aload_n dX2_play_103 rfl ?_
    refine w_callV (as := []) (st := [vR 12 0 0]) (Tri.mono (c_heardBits hc1 hwd) (Nat.le_of_ble_eq_true rfl)) rfl rfl tg_X1_heardBits lk_X2_39 in_X1_heardBits se_X1_heardBits rfl dX2_play_104 rfl (Nat.le_of_ble_eq_true rfl) (Nat.le_refl _) (Nat.le_refl _) ?_
    rintro _ _ ⟨rfl, rfl⟩ -
    refine w_aload_n dX2_play_107 rfl ?_
    refine w_callV (as := []) (st := [vI (nI (heardN (itN ss a d))), vR 12 0 0]) (Tri.mono (c_heardBits hck hw) (Nat.le_of_ble_eq_true rfl)) rfl rfl tg_X1_heardBits lk_X2_39 in_X1_heardBits se_X1_heardBits rfl dX2_play_108 rfl (Nat.le_of_ble_eq_true rfl) (Nat.le_refl _) (Nat.le_refl _) ?_
    rintro _ _ ⟨rfl, rfl⟩ -
    refine w_iconst (v := (-1)) dX2_play_111 (by decide) ?_
    refine w_ixor dX2_play_112 ?_
    refine w_iand dX2_play_113 ?_
    refine w_putI ff_X2_63 rfl rfl rfl rfl dX2_play_114 ?_
    exact w_return dX2_play_117 rfl rfl (⟨rfl, _, rfl, hc1.up12, xup_self, (xup_slot (by decide)).trans hcb, hf.tr (FrP.up (by decide))⟩)
  | succ m ih =>
    intro d I o4 hm hc1 hck hs hcb hf
    have hlt : d < n := by omega
    have hwd := hw.it hss d (by omega)
    obtain ⟨q1, q2, q3, q4⟩ := itN_k ss a d
    refine w_iload dX2_play_25 rfl ?_
    refine w_iload_n dX2_play_27 rfl ?_
    refine w_icmp_gt (tgt := 102) dX2_play_28 (by decide) (fun h => absurd h ((fun q => absurd ((nI_ltI (by omega) (by omega)).mp q) (by omega)))) (fun _ => ?_)
    refine w_iconst (v := 0) dX2_play_31 (by decide) ?_
    refine w_istore (ls' := [some (vR 12 0 0), some (vR 1 1 0), some (vR 1 k 0), some (vI (nI n)), some (vI (nI (d + 1))), some (vI (0))]) dX2_play_32 rfl ?_
    refine l_play1 hwd (fun j hj => by rw [q1]; exact hss j hj) (I0 := I) ?_ ss.length 0 I (Nat.zero_add _) hc1 hs FrC.rf
    intro I2 o5 hc2 hf2
    have hw2 := WF.fold ss hwd (fun j hj => by rw [q1]; exact hss j hj)
    have hd2 : dY (ss.foldl hearN (itN ss a d)) + 1 ≤ 2000 := by rw [(fold_k _ _).2.2.2, q4]; omega
    refine w_aload_n dX2_play_70 rfl ?_
    refine w_callV (as := []) (st := []) (Tri.mono (c_nextDay hc2 hw2 hd2) (Nat.le_of_ble_eq_true rfl)) rfl rfl tg_X1_nextDay lk_X2_80 in_X1_nextDay se_X1_nextDay rfl dX2_play_71 rfl (Nat.le_of_ble_eq_true rfl) (Nat.le_refl _) (Nat.le_refl _) ?_
    rintro v M9 ⟨rfl, I3, rfl, g1, g2⟩ -
    have hf3 : FrC 1 I I3 := hf2.tr g2
    have hcb3 : I3 12 0 0 3 = byI (cbF ss a d) := (hf3 12 0 0 3 (by omega)).trans hcb
    have hck3 : CourtIs I3 k a := hf3.court hk hck
    have hs3 := hf3.seats hs
    have hw3 : WF (itN ss a (d + 1)) := hw.it hss (d + 1) (by omega)
    have hbl := byI_le (o := cbF ss a d) (d := d) (by omega) (fun x hx => cbF_le hx)
    have g1 : CourtIs I3 1 (itN ss a (d + 1)) := g1
    refine w_aload_n dX2_play_74 rfl ?_
    refine w_getI ff_X2_74 rfl rfl dX2_play_75 ?_
    rw [show (I3 12 0 0 3 : Int32) = byI (cbF ss a d) from hcb3]
    refine w_bipush (v := (-4)) dX2_play_78 (by decide) ?_
    refine w_icmp_ne (tgt := 96) dX2_play_80 (by decide) (fun h1 => ?_) (fun h1 => ?_)
    · skip
      obtain ⟨x, hx⟩ : ∃ x, cbF ss a d = some x := by
        cases hz : cbF ss a d with
        | none => exact absurd (hbl.mpr hz) h1
        | some x => exact ⟨x, rfl⟩
      refine w_iinc (v := nI ((d + 1) + 1)) (ls' := [some (vR 12 0 0), some (vR 1 1 0), some (vR 1 k 0), some (vI (nI n)), some (vI (nI ((d + 1) + 1))), o5]) dX2_play_96 rfl (nI_1 _) rfl ?_
      refine w_goto (tgt := 25) dX2_play_99 (by decide) ?_
      exact ih (d + 1) I3 _ (by omega) g1 hck3 hs3 (hcb3.trans (by rw [cbF, hx])) (hf.tr hf3.p)
    · skip
      have hx := hbl.mp h1
      refine w_aload_n dX2_play_83 rfl ?_
      refine w_callV (as := []) (st := []) (Tri.mono (c_isClear g1 hw3) (Nat.le_of_ble_eq_true rfl)) rfl rfl tg_X1_isClear lk_X2_70 in_X1_isClear se_X1_isClear rfl dX2_play_84 rfl (Nat.le_of_ble_eq_true rfl) (Nat.le_refl _) (Nat.le_refl _) ?_
      rintro v M9 (⟨hp, rfl, rfl⟩ | ⟨hp, rfl, rfl⟩) -
      · skip
        refine w_if_eq (tgt := 96) dX2_play_87 (by decide) (fun h => absurd h ((by decide : ¬ (1 : Int32) = 0))) (fun _ => ?_)
        refine w_aload_n dX2_play_90 rfl ?_
        refine w_iload dX2_play_91 rfl ?_
        refine w_putI ff_X2_74 rfl rfl rfl rfl dX2_play_93 ?_
        refine w_iinc (v := nI ((d + 1) + 1)) (ls' := [some (vR 12 0 0), some (vR 1 1 0), some (vR 1 k 0), some (vI (nI n)), some (vI (nI ((d + 1) + 1))), o5]) dX2_play_96 rfl (nI_1 _) rfl ?_
        refine w_goto (tgt := 25) dX2_play_99 (by decide) ?_
        have hfu : FrP I3 (xup I3 12 0 0 3 (nI (d + 1))) := FrP.up (by decide)
        exact ih (d + 1) _ _ (by omega) g1.up12 hck3.up12 (hfu.seats hs3) (xup_self.trans (by rw [cbF, hx]; simp only; rw [if_pos (clearB_iff.mpr hp)]; rfl)) ((hf.tr hf3.p).tr hfu)
      · skip
        refine w_if_eq (tgt := 96) dX2_play_87 (by decide) (fun _ => ?_) (fun h => absurd ((rfl : (0 : Int32) = 0)) h)
        refine w_iinc (v := nI ((d + 1) + 1)) (ls' := [some (vR 12 0 0), some (vR 1 1 0), some (vR 1 k 0), some (vI (nI n)), some (vI (nI ((d + 1) + 1))), o5]) dX2_play_96 rfl (nI_1 _) rfl ?_
        refine w_goto (tgt := 25) dX2_play_99 (by decide) ?_
        exact ih (d + 1) _ _ (by omega) g1 hck3 hs3 (hcb3.trans (by rw [cbF, hx]; simp only; rw [if_neg (fun q => hp (clearB_iff.mp q))])) (hf.tr hf3.p)

theorem c_play {I : xF4 Int32} {L : xF4 Int64} {k : Nat} {a : aA} (hk : k ≠ 1) (hw : WF a) (hc : CourtIs I k a) {ss : List Nat} (hs : SeatsIs I ss) (hss : ∀ j ∈ ss, j < nJ a) {n : Nat} (hn : n ≤ 90) (hd : dY a + n ≤ 2000) : Tri 6 109 m_X2_play [vR 12 0 0, vR 1 1 0, vR 1 k 0, vI (nI n)] (rM I L) (pPl (itN ss a n) (nI (heardN (itN ss a n)) &&& (nI (heardN a) ^^^ (-1))) (byI (cbF ss a n)) I L) := by
  refine ⟨k_X2_play, Nat.le_of_ble_eq_true rfl, ?_⟩
  show Wp _ _ _ 0 [some (vR 12 0 0), some (vR 1 1 0), some (vR 1 k 0), some (vI (nI n)), none, none] [] (rM I L) _
  refine w_aload_n dX2_play_0 rfl ?_
  refine w_aload_n dX2_play_1 rfl ?_
  refine w_callV (as := [vR 1 k 0]) (st := []) (Tri.mono (c_copy (k := 1) (k2 := k) hk hw hc) (Nat.le_of_ble_eq_true rfl)) rfl rfl tg_X1_copy lk_X2_66 in_X1_copy se_X1_copy rfl dX2_play_2 rfl (Nat.le_of_ble_eq_true rfl) (Nat.le_refl _) (Nat.le_refl _) ?_
  rintro v M9 ⟨rfl, I1, rfl, g1, g2⟩ -
  have hck : CourtIs I1 k a := g2.court hk hc
  have hs1 := g2.seats hs
  refine w_aload_n dX2_play_5 rfl ?_
  refine w_aload_n dX2_play_6 rfl ?_
  refine w_callV (as := []) (st := [vR 12 0 0]) (Tri.mono (c_isClear g1 hw) (Nat.le_of_ble_eq_true rfl)) rfl rfl tg_X1_isClear lk_X2_70 in_X1_isClear se_X1_isClear rfl dX2_play_7 rfl (Nat.le_of_ble_eq_true rfl) (Nat.le_refl _) (Nat.le_refl _) ?_
  rintro v M9 (⟨hp, rfl, rfl⟩ | ⟨hp, rfl, rfl⟩) -
  · skip
    refine w_if_eq (tgt := 17) dX2_play_10 (by decide) (fun h => absurd h ((by decide : ¬ (1 : Int32) = 0))) (fun _ => ?_)
    refine w_iconst (v := 0) dX2_play_13 (by decide) ?_
    refine w_goto (tgt := 19) dX2_play_14 (by decide) ?_
    refine w_putI ff_X2_74 rfl rfl rfl rfl dX2_play_19 ?_
    refine w_iconst (v := 1) dX2_play_22 (by decide) ?_
    refine w_istore (ls' := [some (vR 12 0 0), some (vR 1 1 0), some (vR 1 k 0), some (vI (nI n)), some (vI (1)), none]) dX2_play_23 rfl ?_
    have hfu : FrP I1 (xup I1 12 0 0 3 (0)) := FrP.up (by decide)
    exact l_play hk hw hss hn hd n 0 _ _ (Nat.zero_add _) g1.up12 hck.up12 (hfu.seats hs1) (xup_self.trans (by rw [cbF, if_pos (clearB_iff.mpr hp)]; rfl)) (g2.p.tr hfu)
  · skip
    refine w_if_eq (tgt := 17) dX2_play_10 (by decide) (fun _ => ?_) (fun h => absurd ((rfl : (0 : Int32) = 0)) h)
    refine w_bipush (v := (-4)) dX2_play_17 (by decide) ?_
    refine w_putI ff_X2_74 rfl rfl rfl rfl dX2_play_19 ?_
    refine w_iconst (v := 1) dX2_play_22 (by decide) ?_
    refine w_istore (ls' := [some (vR 12 0 0), some (vR 1 1 0), some (vR 1 k 0), some (vI (nI n)), some (vI (1)), none]) dX2_play_23 rfl ?_
    have hfu : FrP I1 (xup I1 12 0 0 3 ((-4))) := FrP.up (by decide)
    exact l_play hk hw hss hn hd n 0 _ _ (Nat.zero_add _) g1.up12 hck.up12 (hfu.seats hs1) (xup_self.trans (by rw [cbF, if_neg (fun q => hp (clearB_iff.mp q))]; rfl)) (g2.p.tr hfu)
