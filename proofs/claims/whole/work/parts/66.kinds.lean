/-! by his scars, both ways (by wip/whole/gen/g67.py) -/
def anyT (kind t : Nat) : Nat → Nat → Bool
  | _, 0 => false
  | n, m + 1 => decide (tenN kind n = t) || anyT kind t (n + 1) m
def cbS (a : aA) (c kind t : Nat) : Bool := anyT kind t (sF a c 1) (sF a c 2 + 1 - sF a c 1)
def kdF (a : aA) (j kind : Nat) : Nat → Nat → Bool
  | _, 0 => true
  | i, m + 1 => (!decide (gF a i 0 = j) || cbS a (gF a i 1) kind (gF a i 2)) && kdF a j kind (i + 1) m
def kindsN (a : aA) (j : Nat) : Nat := bitN (fun kind => kdF a j kind 0 (nG a)) 4
def agF (a : aA) (j c t : Nat) : Nat → Nat → Bool
  | _, 0 => true
  | i, m + 1 => (!decide (gF a i 0 = j) || (!decide (gF a i 1 = c) || decide (gF a i 2 = t))) && agF a j c t (i + 1) m
def snF (a : aA) (j c : Nat) : Nat → Nat → Bool
  | _, 0 => false
  | i, m + 1 => (decide (gF a i 0 = j) && decide (gF a i 1 = c)) || snF a j c (i + 1) m
def skF (a : aA) (kb j c n : Nat) : Nat → Nat → Bool
  | _, 0 => false
  | k, m + 1 => (kb.testBit k && agF a j c (tenN k n) 0 (nG a)) || skF a kb j c n (k + 1) m
def alF (a : aA) (c n : Nat) : Nat → Nat → Bool
  | _, 0 => true
  | j, m + 1 => (!snF a j c 0 (nG a) || skF a (kindsN a j) j c n 0 4) && alF a c n (j + 1) m
theorem kindsN_lt (a : aA) (j : Nat) : kindsN a j < 16 := bitN_lt _ 4
def fstO (n : Nat) : Option Nat → Option Nat
  | none => some n
  | some x => some x
def tmF (a : aA) (c : Nat) : Nat → Nat → Nat × (Option Nat × Option Nat) → Nat × (Option Nat × Option Nat)
  | _, 0, s => s
  | n, m + 1, s => tmF a c (n + 1) m (if alF a c n 0 (nJ a) = true then (s.1 + 1, (fstO n s.2.1, some n)) else s)
def maxF (f : Nat → Nat) : Nat → Nat
  | 0 => 0
  | k + 1 => max (maxF f k) (f k)
def mlN (kb n : Nat) : Nat := maxF (fun x => sumN (fun y => if kb.testBit x = true ∧ kb.testBit y = true ∧ tenN x n = tenN y n then 1 else 0) 4) 4
def wsN (kb n : Nat) : Nat := maxF (fun x => sumN (fun y => if kb.testBit y = true ∧ tenN y n = tenN x n then 1 else 0) 4) 4
theorem mlN_ws : ∀ kb, kb < 16 → ∀ n, n < 61 → mlN kb n = wsN kb n ∧ mlN kb n ≤ 4 := by decide +kernel
theorem tb2 : ∀ v, v < 16 → ∀ d, d < 4 → ∀ e, e < 4 → ((nI v >>> (nI d &&& 31)) &&& (nI v >>> (nI e &&& 31))) &&& 1 = bI (v.testBit d = true ∧ v.testBit e = true) := by decide +kernel
def askF (kb : Nat) : Nat → Nat → Nat × Option Nat → Nat × Option Nat
  | _, 0, s => s
  | n, m + 1, s => askF kb (n + 1) m (if mlN kb n < s.1 then (mlN kb n, some n) else s)
theorem bI_b {b c : Bool} (h : b = c) : bI (b = true) = bI (c = true) := by rw [h]
theorem bI_tt {b : Bool} (h : b = true) : (1 : Int32) = bI (b = true) := (bI_t h).symm
theorem bI_ff {b : Bool} (h : b = false) : (0 : Int32) = bI (b = true) := (bI_f (by rw [h]; decide)).symm
theorem maxI_N {x y : Nat} (hx : x < 2 ^ 31) (hy : y < 2 ^ 31) : (if nI x < nI y then nI y else nI x) = nI (max x y) := by
  by_cases h : x < y
  · rw [if_pos (nI_lt h hy), show max x y = y by omega]
  · rw [if_neg (fun q => h ((nI_ltI hx hy).mp q)), show max x y = x by omega]


theorem l_someTenth {I : xF4 Int32} {L : xF4 Int64} {a : aA} (hc : CourtIs I 0 a) (hw : WF a) {i kind : Nat} (hi : i < nG a) (hk : kind < 4) {c : Nat} (hcc : c < nC a) : ∀ (m n : Nat), n + m = sF a c 2 + 1 → Wp 2 109 m_X0_someTenth 21 [some (vR 1 0 0), some (vR 7 0 i), some (vI (nI kind)), some (vR 5 0 c), some (vI (nI n))] [] (rM I L) (pI (bI (anyT kind (gF a i 2) n m = true)) I L) := by
  intro m
  induction m with
  | zero =>
    intro n hn
    obtain ⟨hJ, hC, hG, hD, hR, -⟩ := id hw
    obtain ⟨fg0, fg1, fg2⟩ := hw.2.2.2.2.2.2.2 i hi
    obtain ⟨fc0, fc1, fc2, fc3, fc4, fc5, fc6, fc7, fc8⟩ := hw.2.2.2.2.2.2.1 c hcc
    refine w_iload dX0_someTenth_21 rfl ?_
    refine w_aload_n dX0_someTenth_23 rfl ?_
    refine w_getI ff_X0_54 rfl rfl dX0_someTenth_24 ?_
    rw [show (I 5 0 c 2 : Int32) = nI (sF a c 2) from hc.s hcc (by decide) (by decide)]
    refine w_icmp_gt (tgt := 51) dX0_someTenth_27 (by decide) (fun _ => ?_) (fun h => absurd (nI_lt (by omega) (by omega)) h)
    refine w_iconst (v := 0) dX0_someTenth_51 (by decide) ?_
    exact w_ireturn dX0_someTenth_52 rfl (rfl) rfl (⟨by rw [← bI_ff (show anyT kind (gF a i 2) n 0 = false from by rw [anyT])], rfl⟩)
  | succ m ih =>
    intro n hn
    obtain ⟨hJ, hC, hG, hD, hR, -⟩ := id hw
    obtain ⟨fg0, fg1, fg2⟩ := hw.2.2.2.2.2.2.2 i hi
    obtain ⟨fc0, fc1, fc2, fc3, fc4, fc5, fc6, fc7, fc8⟩ := hw.2.2.2.2.2.2.1 c hcc
    have ht := tenN_le hk (show n ≤ 60 by omega)
    refine w_iload dX0_someTenth_21 rfl ?_
    refine w_aload_n dX0_someTenth_23 rfl ?_
    refine w_getI ff_X0_54 rfl rfl dX0_someTenth_24 ?_
    rw [show (I 5 0 c 2 : Int32) = nI (sF a c 2) from hc.s hcc (by decide) (by decide)]
    refine w_icmp_gt (tgt := 51) dX0_someTenth_27 (by decide) (fun h => absurd h ((fun q => absurd ((nI_ltI (by omega) (by omega)).mp q) (by omega)))) (fun _ => ?_)
    refine w_iload_n dX0_someTenth_30 rfl ?_
    refine w_iload dX0_someTenth_31 rfl ?_
    refine w_callSN (as := [vI (nI kind), vI (nI n)]) (st := []) (Tri.mono (c_X10_tenthBy (nI kind) (nI n)) (Nat.le_of_ble_eq_true rfl)) tg_X10_tenthBy ln_X0_57 sa_X10_tenthBy rfl dX0_someTenth_33 rfl (Nat.le_of_ble_eq_true rfl) (Nat.le_refl _) (Nat.le_refl _) ?_
    rintro _ _ ⟨rfl, rfl⟩ -
    rw [show (tenI (nI kind) (nI n) : Int32) = nI (tenN (kind) (n)) from tenI_N (by omega) (by omega)]
    refine w_aload_n dX0_someTenth_36 rfl ?_
    refine w_getI ff_X0_61 rfl rfl dX0_someTenth_37 ?_
    rw [show (I 7 0 i 2 : Int32) = nI (gF a i 2) from hc.g hi (by decide)]
    refine w_icmp_ne (tgt := 45) dX0_someTenth_40 (by decide) (fun h1 => ?_) (fun h1 => ?_)
    · skip
      replace h1 : ¬ ((tenN (kind) (n)) = (gF a i 2)) := fun q => h1 ((nI_eq (a := tenN (kind) (n)) (b := gF a i 2) (by omega) (by omega)).mpr q)
      first
      | (exfalso; omega)
      | skip
        rw [show anyT kind (gF a i 2) n (m + 1) = anyT kind (gF a i 2) (n + 1) m from by rw [anyT]; simp [h1]]
        refine w_iinc (v := nI (n + 1)) (ls' := [some (vR 1 0 0), some (vR 7 0 i), some (vI (nI kind)), some (vR 5 0 c), some (vI (nI (n + 1)))]) dX0_someTenth_45 rfl (nI_1 _) rfl ?_
        refine w_goto (tgt := 21) dX0_someTenth_48 (by decide) ?_
        exact ih (n + 1) (by omega)
    · skip
      replace h1 : (tenN (kind) (n)) = (gF a i 2) := (nI_eq (a := tenN (kind) (n)) (b := gF a i 2) (by omega) (by omega)).mp h1
      first
      | (exfalso; omega)
      | skip
        refine w_iconst (v := 1) dX0_someTenth_43 (by decide) ?_
        exact w_ireturn dX0_someTenth_44 rfl (rfl) rfl (⟨by rw [← bI_tt (show anyT kind (gF a i 2) n (m + 1) = true from by rw [anyT]; simp [h1])], rfl⟩)

theorem c_someTenth {I : xF4 Int32} {L : xF4 Int64} {a : aA} (hc : CourtIs I 0 a) (hw : WF a) {i kind : Nat} (hi : i < nG a) (hk : kind < 4) : Tri 2 109 m_X0_someTenth [vR 1 0 0, vR 7 0 i, vI (nI kind)] (rM I L) (pI (bI (cbS a (gF a i 1) kind (gF a i 2) = true)) I L) := by
  refine ⟨k_X0_someTenth, Nat.le_of_ble_eq_true rfl, ?_⟩
  show Wp _ _ _ 0 [some (vR 1 0 0), some (vR 7 0 i), some (vI (nI kind)), none, none] [] (rM I L) _
  obtain ⟨hJ, hC, hG, hD, hR, -⟩ := id hw
  obtain ⟨fg0, fg1, fg2⟩ := hw.2.2.2.2.2.2.2 i hi
  obtain ⟨c, hcE⟩ : ∃ c, c = gF a i 1 := ⟨_, rfl⟩
  have hcc : c < nC a := by omega
  have fc := (hw.2.2.2.2.2.2.1 c hcc)
  obtain ⟨fc0, fc1, fc2, fc3, fc4, fc5, fc6, fc7, fc8⟩ := hw.2.2.2.2.2.2.1 c hcc
  refine w_aload_n dX0_someTenth_0 rfl ?_
  refine w_aload_n dX0_someTenth_1 rfl ?_
  refine w_getI ff_X0_42 rfl rfl dX0_someTenth_2 ?_
  rw [show (I 7 0 i 1 : Int32) = nI (gF a i 1) from hc.g hi (by decide)]
  refine w_top (y := nI c) (show (nI (gF a i 1) : Int32) = nI c from congrArg nI hcE.symm) ?_
  refine w_callV (as := [vI (nI c)]) (st := []) (Tri.mono (c_sAt hc hw hcc) (Nat.le_of_ble_eq_true rfl)) rfl rfl tg_X1_suitAt lk_X0_45 in_X1_suitAt se_X1_suitAt rfl dX0_someTenth_5 rfl (Nat.le_of_ble_eq_true rfl) (Nat.le_refl _) (Nat.le_refl _) ?_
  rintro _ _ ⟨rfl, rfl⟩ -
  refine w_astore_n (ls' := [some (vR 1 0 0), some (vR 7 0 i), some (vI (nI kind)), some (vR 5 0 c), none]) dX0_someTenth_8 rfl ?_
  refine w_aload_n dX0_someTenth_9 rfl ?_
  refine w_ifnonnull (tgt := 15) dX0_someTenth_10 (by decide) (fun _ _ => ?_) (fun h => by cases h)
  refine w_aload_n dX0_someTenth_15 rfl ?_
  refine w_getI ff_X0_49 rfl rfl dX0_someTenth_16 ?_
  rw [show (I 5 0 c 1 : Int32) = nI (sF a c 1) from hc.s hcc (by decide) (by decide)]
  refine w_istore (ls' := [some (vR 1 0 0), some (vR 7 0 i), some (vI (nI kind)), some (vR 5 0 c), some (vI (nI (sF a c 1)))]) dX0_someTenth_19 rfl ?_
  unfold cbS
  rw [← hcE]
  exact l_someTenth hc hw hi hk hcc (sF a c 2 + 1 - sF a c 1) (sF a c 1) (by omega)

theorem l_couldBeC {I : xF4 Int32} {L : xF4 Int64} {a : aA} (hc : CourtIs I 0 a) (hw : WF a) {j kind : Nat} (hj4 : j < 4) (hk : kind < 4) : ∀ (m i : Nat) (o4 : Option xV), i + m = nG a → Wp 3 109 m_X0_couldBe 2 [some (vR 1 0 0), some (vI (nI j)), some (vI (nI kind)), some (vI (nI i)), o4] [] (rM I L) (pI (bI (kdF a j kind i m = true)) I L) := by
  intro m
  induction m with
  | zero =>
    intro i o4 hi
    have e : i = nG a := by omega
    subst e
    obtain ⟨hJ, hC, hG, hD, hR, -⟩ := id hw
    refine w_iload_n dX0_couldBe_2 rfl ?_
    refine w_aload_n dX0_couldBe_3 rfl ?_
    refine w_getI ff_X0_23 rfl rfl dX0_couldBe_4 ?_
    rw [show (I 1 0 0 5 : Int32) = nI (nG a) from hc.2.2.1]
    refine w_icmp_ge (tgt := 49) dX0_couldBe_7 (by decide) (fun _ => ?_) (fun h => absurd (nI_le (Nat.le_refl _) (by omega)) h)
    refine w_iconst (v := 1) dX0_couldBe_49 (by decide) ?_
    exact w_ireturn dX0_couldBe_50 rfl (rfl) rfl (⟨by rw [← bI_tt (show kdF a j kind (nG a) 0 = true from by rw [kdF])], rfl⟩)
  | succ m ih =>
    intro i o4 hi
    have hlt : i < nG a := by omega
    obtain ⟨hJ, hC, hG, hD, hR, -⟩ := id hw
    obtain ⟨fg0, fg1, fg2⟩ := hw.2.2.2.2.2.2.2 i hlt
    refine w_iload_n dX0_couldBe_2 rfl ?_
    refine w_aload_n dX0_couldBe_3 rfl ?_
    refine w_getI ff_X0_23 rfl rfl dX0_couldBe_4 ?_
    rw [show (I 1 0 0 5 : Int32) = nI (nG a) from hc.2.2.1]
    refine w_icmp_ge (tgt := 49) dX0_couldBe_7 (by decide) (fun h => absurd h (nI_ge (b := nG a) hlt (by omega))) (fun _ => ?_)
    refine w_aload_n dX0_couldBe_10 rfl ?_
    refine w_iload_n dX0_couldBe_11 rfl ?_
    refine w_callV (as := [vI (nI i)]) (st := []) (Tri.mono (c_gAt hc hw hlt) (Nat.le_of_ble_eq_true rfl)) rfl rfl tg_X1_sightAt lk_X0_29 in_X1_sightAt se_X1_sightAt rfl dX0_couldBe_12 rfl (Nat.le_of_ble_eq_true rfl) (Nat.le_refl _) (Nat.le_refl _) ?_
    rintro _ _ ⟨rfl, rfl⟩ -
    refine w_astore (ls' := [some (vR 1 0 0), some (vI (nI j)), some (vI (nI kind)), some (vI (nI i)), some (vR 7 0 i)]) dX0_couldBe_15 rfl ?_
    refine w_aload dX0_couldBe_17 rfl ?_
    refine w_ifnull (tgt := 43) dX0_couldBe_19 (by decide) (fun h => by cases h) (fun _ _ => ?_)
    refine w_aload dX0_couldBe_22 rfl ?_
    refine w_getI ff_X0_33 rfl rfl dX0_couldBe_24 ?_
    rw [show (I 7 0 i 0 : Int32) = nI (gF a i 0) from hc.g hlt (by decide)]
    refine w_iload_n dX0_couldBe_27 rfl ?_
    refine w_icmp_ne (tgt := 43) dX0_couldBe_28 (by decide) (fun h1 => ?_) (fun h1 => ?_)
    · skip
      replace h1 : ¬ ((gF a i 0) = (j)) := fun q => h1 ((nI_eq (a := gF a i 0) (b := j) (by omega) (by omega)).mpr q)
      first
      | (exfalso; omega)
      | skip
        rw [show kdF a j kind i (m + 1) = kdF a j kind (i + 1) m from by rw [kdF]; simp [h1]]
        refine w_iinc (v := nI (i + 1)) (ls' := [some (vR 1 0 0), some (vI (nI j)), some (vI (nI kind)), some (vI (nI (i + 1))), some (vR 7 0 i)]) dX0_couldBe_43 rfl (nI_1 _) rfl ?_
        refine w_goto (tgt := 2) dX0_couldBe_46 (by decide) ?_
        exact ih (i + 1) _ (by omega)
    · skip
      replace h1 : (gF a i 0) = (j) := (nI_eq (a := gF a i 0) (b := j) (by omega) (by omega)).mp h1
      first
      | (exfalso; omega)
      | skip
        refine w_aload_n dX0_couldBe_31 rfl ?_
        refine w_aload dX0_couldBe_32 rfl ?_
        refine w_iload_n dX0_couldBe_34 rfl ?_
        refine w_callS (as := [vR 1 0 0, vR 7 0 i, vI (nI kind)]) (st := []) (Tri.mono (c_someTenth hc hw (kind := kind) hlt hk) (Nat.le_of_ble_eq_true rfl)) tg_X0_someTenth lk_X0_38 sa_X0_someTenth rfl dX0_couldBe_35 rfl (Nat.le_of_ble_eq_true rfl) (Nat.le_refl _) (Nat.le_refl _) ?_
        rintro _ _ ⟨rfl, rfl⟩ -
        refine w_ifne_b (tgt := 43) dX0_couldBe_38 (by decide) (fun h2 => ?_) (fun h2 => ?_)
        · skip
          first
          | (exfalso; omega)
          | skip
            rw [show kdF a j kind i (m + 1) = kdF a j kind (i + 1) m from by rw [kdF]; simp [h1, h2]]
            refine w_iinc (v := nI (i + 1)) (ls' := [some (vR 1 0 0), some (vI (nI j)), some (vI (nI kind)), some (vI (nI (i + 1))), some (vR 7 0 i)]) dX0_couldBe_43 rfl (nI_1 _) rfl ?_
            refine w_goto (tgt := 2) dX0_couldBe_46 (by decide) ?_
            exact ih (i + 1) _ (by omega)
        · skip
          first
          | (exfalso; omega)
          | skip
            refine w_iconst (v := 0) dX0_couldBe_41 (by decide) ?_
            exact w_ireturn dX0_couldBe_42 rfl (rfl) rfl (⟨by rw [← bI_ff (show kdF a j kind i (m + 1) = false from by rw [kdF]; simp [h1, h2])], rfl⟩)

theorem c_couldBe {I : xF4 Int32} {L : xF4 Int64} {a : aA} (hc : CourtIs I 0 a) (hw : WF a) {j kind : Nat} (hj4 : j < 4) (hk : kind < 4) : Tri 3 109 m_X0_couldBe [vR 1 0 0, vI (nI j), vI (nI kind)] (rM I L) (pI (bI (kdF a j kind 0 (nG a) = true)) I L) := by
  refine ⟨k_X0_couldBe, Nat.le_of_ble_eq_true rfl, ?_⟩
  show Wp _ _ _ 0 [some (vR 1 0 0), some (vI (nI j)), some (vI (nI kind)), none, none] [] (rM I L) _
  refine w_iconst (v := 0) dX0_couldBe_0 (by decide) ?_
  refine w_istore_n (ls' := [some (vR 1 0 0), some (vI (nI j)), some (vI (nI kind)), some (vI (0)), none]) dX0_couldBe_1 rfl ?_
  exact l_couldBeC hc hw hj4 hk (nG a) 0 none (Nat.zero_add _)

theorem l_kindsC {I : xF4 Int32} {L : xF4 Int64} {a : aA} (hc : CourtIs I 0 a) (hw : WF a) {j : Nat} (hj4 : j < 4) : ∀ (m k : Nat), k + m = 4 → Wp 4 109 m_X0_kindsOf 4 [some (vR 1 0 0), some (vI (nI j)), some (vI (nI (bitN (fun kind => kdF a j kind 0 (nG a)) k))), some (vI (nI k))] [] (rM I L) (pI (nI (kindsN a j)) I L) := by
  intro m
  induction m with
  | zero =>
    intro k hk
    have e : k = 4 := by omega
    subst e
    refine w_iload_n dX0_kindsOf_4 rfl ?_
    refine w_iconst (v := 4) dX0_kindsOf_5 (by decide) ?_
    refine w_icmp_ge (tgt := 30) dX0_kindsOf_6 (by decide) (fun _ => ?_) (fun h => absurd (by decide) h)
    refine w_iload_n dX0_kindsOf_30 rfl ?_
    exact w_ireturn dX0_kindsOf_31 rfl (rfl) rfl (⟨rfl, rfl⟩)
  | succ m ih =>
    intro k hk
    have hlt : k < 4 := by omega
    refine w_iload_n dX0_kindsOf_4 rfl ?_
    refine w_iconst (v := 4) dX0_kindsOf_5 (by decide) ?_
    refine w_icmp_ge (tgt := 30) dX0_kindsOf_6 (by decide) (fun h => absurd h (nI_ge (b := 4) hlt (by omega))) (fun _ => ?_)
    refine w_aload_n dX0_kindsOf_9 rfl ?_
    refine w_iload_n dX0_kindsOf_10 rfl ?_
    refine w_iload_n dX0_kindsOf_11 rfl ?_
    refine w_callS (as := [vR 1 0 0, vI (nI j), vI (nI k)]) (st := []) (Tri.mono (c_couldBe hc hw hj4 hlt) (Nat.le_of_ble_eq_true rfl)) tg_X0_couldBe lk_X0_19 sa_X0_couldBe rfl dX0_kindsOf_12 rfl (Nat.le_of_ble_eq_true rfl) (Nat.le_refl _) (Nat.le_refl _) ?_
    rintro _ _ ⟨rfl, rfl⟩ -
    refine w_ifeq_b (tgt := 24) dX0_kindsOf_15 (by decide) (fun h1 => ?_) (fun h1 => ?_)
    · skip
      refine w_ls (congrArg (fun z9 : Int32 => [some (vR 1 0 0), some (vI (nI j)), some (vI z9), some (vI (nI k))]) (show (nI (bitN (fun kind => kdF a j kind 0 (nG a)) k) : Int32) = nI (bitN (fun kind => kdF a j kind 0 (nG a)) (k + 1)) from bit_no (p := (fun kind => kdF a j kind 0 (nG a))) h1)) ?_
      refine w_iinc (v := nI (k + 1)) (ls' := [some (vR 1 0 0), some (vI (nI j)), some (vI (nI (bitN (fun kind => kdF a j kind 0 (nG a)) (k + 1)))), some (vI (nI (k + 1)))]) dX0_kindsOf_24 rfl (nI_1 _) rfl ?_
      refine w_goto (tgt := 4) dX0_kindsOf_27 (by decide) ?_
      exact ih (k + 1) (by omega)
    · skip
      refine w_iload_n dX0_kindsOf_18 rfl ?_
      refine w_iconst (v := 1) dX0_kindsOf_19 (by decide) ?_
      refine w_iload_n dX0_kindsOf_20 rfl ?_
      refine w_ishl dX0_kindsOf_21 ?_
      refine w_ior dX0_kindsOf_22 ?_
      refine w_istore_n (ls' := [some (vR 1 0 0), some (vI (nI j)), some (vI ((nI (bitN (fun kind => kdF a j kind 0 (nG a)) k)) ||| ((1) <<< ((nI k) &&& 31)))), some (vI (nI k))]) dX0_kindsOf_23 rfl ?_
      refine w_ls (congrArg (fun z9 : Int32 => [some (vR 1 0 0), some (vI (nI j)), some (vI z9), some (vI (nI k))]) (show ((nI (bitN (fun kind => kdF a j kind 0 (nG a)) k)) ||| ((1) <<< ((nI k) &&& 31)) : Int32) = nI (bitN (fun kind => kdF a j kind 0 (nG a)) (k + 1)) from bit_or (p := (fun kind => kdF a j kind 0 (nG a))) (by omega) h1)) ?_
      refine w_iinc (v := nI (k + 1)) (ls' := [some (vR 1 0 0), some (vI (nI j)), some (vI (nI (bitN (fun kind => kdF a j kind 0 (nG a)) (k + 1)))), some (vI (nI (k + 1)))]) dX0_kindsOf_24 rfl (nI_1 _) rfl ?_
      refine w_goto (tgt := 4) dX0_kindsOf_27 (by decide) ?_
      exact ih (k + 1) (by omega)

theorem c_kindsOf {I : xF4 Int32} {L : xF4 Int64} {a : aA} (hc : CourtIs I 0 a) (hw : WF a) {j : Nat} (hj4 : j < 4) : Tri 4 109 m_X0_kindsOf [vR 1 0 0, vI (nI j)] (rM I L) (pI (nI (kindsN a j)) I L) := by
  refine ⟨k_X0_kindsOf, Nat.le_of_ble_eq_true rfl, ?_⟩
  show Wp _ _ _ 0 [some (vR 1 0 0), some (vI (nI j)), none, none] [] (rM I L) _
  refine w_iconst (v := 0) dX0_kindsOf_0 (by decide) ?_
  refine w_istore_n (ls' := [some (vR 1 0 0), some (vI (nI j)), some (vI (0)), none]) dX0_kindsOf_1 rfl ?_
  refine w_iconst (v := 0) dX0_kindsOf_2 (by decide) ?_
  refine w_istore_n (ls' := [some (vR 1 0 0), some (vI (nI j)), some (vI (0)), some (vI (0))]) dX0_kindsOf_3 rfl ?_
  exact l_kindsC hc hw hj4 4 0 rfl

theorem l_couldBeM {I : xF4 Int32} {L : xF4 Int64} {a : aA} (hs : SI I a) (hw : WF a) {kind c t : Nat} (hk : kind < 4) (hcc : c < nC a) (ht60 : t ≤ 60) : ∀ (m n : Nat) (b : Bool), n + m = sF a c 2 + 1 → Wp 1 109 m_X11_couldBe 19 [some (vR 30 0 0), some (vI (nI kind)), some (vI (nI c)), some (vI (nI t)), some (vI (bI (b = true))), some (vI (nI n))] [] (rM I L) (pI (bI ((b || anyT kind t n m) = true)) I L) := by
  intro m
  induction m with
  | zero =>
    intro n b hn
    obtain ⟨hJ, hC, hG, hD, hR, -⟩ := id hw
    obtain ⟨fc0, fc1, fc2, fc3, fc4, fc5, fc6, fc7, fc8⟩ := hw.2.2.2.2.2.2.1 c hcc
    refine w_iload dX11_couldBe_19 rfl ?_
    refine w_aload_n dX11_couldBe_21 rfl ?_
    refine w_getR (w := some (31, 0, 0)) ff_X11_7 rfl rfl dX11_couldBe_22 rfl ?_
    refine w_bipush (v := 20) dX11_couldBe_25 (by decide) ?_
    refine w_bipush (v := 7) dX11_couldBe_27 (by decide) ?_
    refine w_iload_n dX11_couldBe_29 rfl ?_
    refine w_imul dX11_couldBe_30 ?_
    rw [show ((7) * (nI c) : Int32) = nI (7 * c) from ar_mul (p := 7) (q := c) rfl rfl (by first | rfl | omega)]
    refine w_iadd dX11_couldBe_31 ?_
    rw [show ((20) + (nI (7 * c)) : Int32) = nI (20 + (7 * c)) from ar_add (p := 20) (q := 7 * c) rfl rfl (by omega)]
    refine w_iconst (v := 2) dX11_couldBe_32 (by decide) ?_
    refine w_iadd dX11_couldBe_33 ?_
    rw [show ((nI (20 + (7 * c))) + (2) : Int32) = nI ((20 + (7 * c)) + 2) from ar_add (p := 20 + (7 * c)) (q := 2) rfl rfl (by omega)]
    refine w_iaload (a := (20 + (7 * c)) + 2) rfl (vp_in_nI (n := (20 + (7 * c)) + 2) (by omega) (by omega)) (nI_clamp (n := (20 + (7 * c)) + 2) (by omega)) dX11_couldBe_34 ?_
    rw [show (I 31 0 0 ((20 + (7 * c)) + 2) : Int32) = nI (sF a c 2) from hs.2.2.s hcc (f := 2) (by decide) (by decide) (by omega)]
    refine w_icmp_gt (tgt := 66) dX11_couldBe_35 (by decide) (fun _ => ?_) (fun h => absurd (nI_lt (by omega) (by omega)) h)
    refine w_iload dX11_couldBe_66 rfl ?_
    rw [show (b || anyT kind t n 0) = b from by rw [anyT]; cases b <;> rfl]
    exact w_ireturn dX11_couldBe_68 rfl (bI_nar _) rfl (⟨rfl, rfl⟩)
  | succ m ih =>
    intro n b hn
    obtain ⟨hJ, hC, hG, hD, hR, -⟩ := id hw
    obtain ⟨fc0, fc1, fc2, fc3, fc4, fc5, fc6, fc7, fc8⟩ := hw.2.2.2.2.2.2.1 c hcc
    have ht := tenN_le hk (show n ≤ 60 by omega)
    refine w_iload dX11_couldBe_19 rfl ?_
    refine w_aload_n dX11_couldBe_21 rfl ?_
    refine w_getR (w := some (31, 0, 0)) ff_X11_7 rfl rfl dX11_couldBe_22 rfl ?_
    refine w_bipush (v := 20) dX11_couldBe_25 (by decide) ?_
    refine w_bipush (v := 7) dX11_couldBe_27 (by decide) ?_
    refine w_iload_n dX11_couldBe_29 rfl ?_
    refine w_imul dX11_couldBe_30 ?_
    rw [show ((7) * (nI c) : Int32) = nI (7 * c) from ar_mul (p := 7) (q := c) rfl rfl (by first | rfl | omega)]
    refine w_iadd dX11_couldBe_31 ?_
    rw [show ((20) + (nI (7 * c)) : Int32) = nI (20 + (7 * c)) from ar_add (p := 20) (q := 7 * c) rfl rfl (by omega)]
    refine w_iconst (v := 2) dX11_couldBe_32 (by decide) ?_
    refine w_iadd dX11_couldBe_33 ?_
    rw [show ((nI (20 + (7 * c))) + (2) : Int32) = nI ((20 + (7 * c)) + 2) from ar_add (p := 20 + (7 * c)) (q := 2) rfl rfl (by omega)]
    refine w_iaload (a := (20 + (7 * c)) + 2) rfl (vp_in_nI (n := (20 + (7 * c)) + 2) (by omega) (by omega)) (nI_clamp (n := (20 + (7 * c)) + 2) (by omega)) dX11_couldBe_34 ?_
    rw [show (I 31 0 0 ((20 + (7 * c)) + 2) : Int32) = nI (sF a c 2) from hs.2.2.s hcc (f := 2) (by decide) (by decide) (by omega)]
    refine w_icmp_gt (tgt := 66) dX11_couldBe_35 (by decide) (fun h => absurd h ((fun q => absurd ((nI_ltI (by omega) (by omega)).mp q) (by omega)))) (fun _ => ?_)
    refine w_iload dX11_couldBe_38 rfl ?_
    refine w_ifne_b (tgt := 53) dX11_couldBe_40 (by decide) (fun h1 => ?_) (fun h1 => ?_)
    · skip
      first
      | (exfalso; omega)
      | skip
        refine w_iconst (v := 1) dX11_couldBe_53 (by decide) ?_
        refine w_goto (tgt := 58) dX11_couldBe_54 (by decide) ?_
        refine w_top (y := bI ((b || decide (tenN kind n = t)) = true)) (show (1 : Int32) = bI ((b || decide (tenN kind n = t)) = true) from bI_tt (show (b || decide (tenN kind n = t)) = true from by simp [h1])) ?_
        rw [show (b || anyT kind t n (m + 1)) = ((b || decide (tenN kind n = t)) || anyT kind t (n + 1) m) from by rw [anyT]; rw [Bool.or_assoc]]
        refine w_istore (ls' := [some (vR 30 0 0), some (vI (nI kind)), some (vI (nI c)), some (vI (nI t)), some (vI (bI ((b || decide (tenN kind n = t)) = true))), some (vI (nI n))]) dX11_couldBe_58 rfl ?_
        refine w_iinc (v := nI (n + 1)) (ls' := [some (vR 30 0 0), some (vI (nI kind)), some (vI (nI c)), some (vI (nI t)), some (vI (bI ((b || decide (tenN kind n = t)) = true))), some (vI (nI (n + 1)))]) dX11_couldBe_60 rfl (nI_1 _) rfl ?_
        refine w_goto (tgt := 19) dX11_couldBe_63 (by decide) ?_
        exact ih (n + 1) (b || decide (tenN kind n = t)) (by omega)
    · skip
      first
      | (exfalso; omega)
      | skip
        refine w_iload_n dX11_couldBe_43 rfl ?_
        refine w_iload dX11_couldBe_44 rfl ?_
        refine w_callS (as := [vI (nI kind), vI (nI n)]) (st := []) (Tri.mono (d_tenthBy (kind := kind) (n := n) (by omega) (by omega)) (Nat.le_of_ble_eq_true rfl)) tg_X11_tenthBy lk_X11_142 sa_X11_tenthBy rfl dX11_couldBe_46 rfl (Nat.le_of_ble_eq_true rfl) (Nat.le_refl _) (Nat.le_refl _) ?_
        rintro _ _ ⟨rfl, rfl⟩ -
        refine w_iload_n dX11_couldBe_49 rfl ?_
        refine w_icmp_ne (tgt := 57) dX11_couldBe_50 (by decide) (fun h2 => ?_) (fun h2 => ?_)
        · skip
          replace h2 : ¬ ((tenN kind n) = (t)) := fun q => h2 ((nI_eq (a := tenN kind n) (b := t) (by omega) (by omega)).mpr q)
          first
          | (exfalso; omega)
          | skip
            refine w_iconst (v := 0) dX11_couldBe_57 (by decide) ?_
            refine w_top (y := bI ((b || decide (tenN kind n = t)) = true)) (show (0 : Int32) = bI ((b || decide (tenN kind n = t)) = true) from bI_ff (show (b || decide (tenN kind n = t)) = false from by simp [h1, h2])) ?_
            rw [show (b || anyT kind t n (m + 1)) = ((b || decide (tenN kind n = t)) || anyT kind t (n + 1) m) from by rw [anyT]; rw [Bool.or_assoc]]
            refine w_istore (ls' := [some (vR 30 0 0), some (vI (nI kind)), some (vI (nI c)), some (vI (nI t)), some (vI (bI ((b || decide (tenN kind n = t)) = true))), some (vI (nI n))]) dX11_couldBe_58 rfl ?_
            refine w_iinc (v := nI (n + 1)) (ls' := [some (vR 30 0 0), some (vI (nI kind)), some (vI (nI c)), some (vI (nI t)), some (vI (bI ((b || decide (tenN kind n = t)) = true))), some (vI (nI (n + 1)))]) dX11_couldBe_60 rfl (nI_1 _) rfl ?_
            refine w_goto (tgt := 19) dX11_couldBe_63 (by decide) ?_
            exact ih (n + 1) (b || decide (tenN kind n = t)) (by omega)
        · skip
          replace h2 : (tenN kind n) = (t) := (nI_eq (a := tenN kind n) (b := t) (by omega) (by omega)).mp h2
          first
          | (exfalso; omega)
          | skip
            refine w_iconst (v := 1) dX11_couldBe_53 (by decide) ?_
            refine w_goto (tgt := 58) dX11_couldBe_54 (by decide) ?_
            refine w_top (y := bI ((b || decide (tenN kind n = t)) = true)) (show (1 : Int32) = bI ((b || decide (tenN kind n = t)) = true) from bI_tt (show (b || decide (tenN kind n = t)) = true from by simp [h1, h2])) ?_
            rw [show (b || anyT kind t n (m + 1)) = ((b || decide (tenN kind n = t)) || anyT kind t (n + 1) m) from by rw [anyT]; rw [Bool.or_assoc]]
            refine w_istore (ls' := [some (vR 30 0 0), some (vI (nI kind)), some (vI (nI c)), some (vI (nI t)), some (vI (bI ((b || decide (tenN kind n = t)) = true))), some (vI (nI n))]) dX11_couldBe_58 rfl ?_
            refine w_iinc (v := nI (n + 1)) (ls' := [some (vR 30 0 0), some (vI (nI kind)), some (vI (nI c)), some (vI (nI t)), some (vI (bI ((b || decide (tenN kind n = t)) = true))), some (vI (nI (n + 1)))]) dX11_couldBe_60 rfl (nI_1 _) rfl ?_
            refine w_goto (tgt := 19) dX11_couldBe_63 (by decide) ?_
            exact ih (n + 1) (b || decide (tenN kind n = t)) (by omega)

theorem d_couldBe {I : xF4 Int32} {L : xF4 Int64} {a : aA} (hs : SI I a) (hw : WF a) {kind c t : Nat} (hk : kind < 4) (hcc : c < nC a) (ht60 : t ≤ 60) : Tri 1 109 m_X11_couldBe [vR 30 0 0, vI (nI kind), vI (nI c), vI (nI t)] (rM I L) (pI (bI (cbS a c kind t = true)) I L) := by
  refine ⟨k_X11_couldBe, Nat.le_of_ble_eq_true rfl, ?_⟩
  show Wp _ _ _ 0 [some (vR 30 0 0), some (vI (nI kind)), some (vI (nI c)), some (vI (nI t)), none, none] [] (rM I L) _
  obtain ⟨hJ, hC, hG, hD, hR, -⟩ := id hw
  obtain ⟨fc0, fc1, fc2, fc3, fc4, fc5, fc6, fc7, fc8⟩ := hw.2.2.2.2.2.2.1 c hcc
  refine w_iconst (v := 0) dX11_couldBe_0 (by decide) ?_
  refine w_istore (ls' := [some (vR 30 0 0), some (vI (nI kind)), some (vI (nI c)), some (vI (nI t)), some (vI (0)), none]) dX11_couldBe_1 rfl ?_
  refine w_aload_n dX11_couldBe_3 rfl ?_
  refine w_getR (w := some (31, 0, 0)) ff_X11_7 rfl rfl dX11_couldBe_4 rfl ?_
  refine w_bipush (v := 20) dX11_couldBe_7 (by decide) ?_
  refine w_bipush (v := 7) dX11_couldBe_9 (by decide) ?_
  refine w_iload_n dX11_couldBe_11 rfl ?_
  refine w_imul dX11_couldBe_12 ?_
  rw [show ((7) * (nI c) : Int32) = nI (7 * c) from ar_mul (p := 7) (q := c) rfl rfl (by first | rfl | omega)]
  refine w_iadd dX11_couldBe_13 ?_
  rw [show ((20) + (nI (7 * c)) : Int32) = nI (20 + (7 * c)) from ar_add (p := 20) (q := 7 * c) rfl rfl (by omega)]
  refine w_iconst (v := 1) dX11_couldBe_14 (by decide) ?_
  refine w_iadd dX11_couldBe_15 ?_
  rw [show ((nI (20 + (7 * c))) + (1) : Int32) = nI ((20 + (7 * c)) + 1) from ar_add (p := 20 + (7 * c)) (q := 1) rfl rfl (by omega)]
  refine w_iaload (a := (20 + (7 * c)) + 1) rfl (vp_in_nI (n := (20 + (7 * c)) + 1) (by omega) (by omega)) (nI_clamp (n := (20 + (7 * c)) + 1) (by omega)) dX11_couldBe_16 ?_
  rw [show (I 31 0 0 ((20 + (7 * c)) + 1) : Int32) = nI (sF a c 1) from hs.2.2.s hcc (f := 1) (by decide) (by decide) (by omega)]
  refine w_istore (ls' := [some (vR 30 0 0), some (vI (nI kind)), some (vI (nI c)), some (vI (nI t)), some (vI (0)), some (vI (nI (sF a c 1)))]) dX11_couldBe_17 rfl ?_
  have q := l_couldBeM (L := L) hs hw hk hcc ht60 (sF a c 2 + 1 - sF a c 1) (sF a c 1) false (by omega)
  rw [Bool.false_or] at q
  exact q

theorem l_kindM {I : xF4 Int32} {L : xF4 Int64} {a : aA} (hs : SI I a) (hw : WF a) {j kind : Nat} (hj4 : j < 4) (hk : kind < 4) {x : Int32} {Q : Option xV → xM → Prop} : ∀ (m i : Nat) (b : Bool) (o6 : Option xV), i + m = nG a → (∀ (o6 : Option xV), Wp 3 109 m_X11_kindsOf 91 [some (vR 30 0 0), some (vI (nI j)), some (vI x), some (vI (nI kind)), some (vI (bI ((b && kdF a j kind i m) = true))), some (vI (nI (nG a))), o6] [] (rM I L) Q) → Wp 3 109 m_X11_kindsOf 15 [some (vR 30 0 0), some (vI (nI j)), some (vI x), some (vI (nI kind)), some (vI (bI (b = true))), some (vI (nI i)), o6] [] (rM I L) Q := by
  intro m
  induction m with
  | zero =>
    intro i b o6 hi hk9
    have e : i = nG a := by omega
    subst e
    obtain ⟨hJ, hC, hG, hD, hR, -⟩ := id hw
    refine w_iload dX11_kindsOf_15 rfl ?_
    refine w_aload_n dX11_kindsOf_17 rfl ?_
    refine w_getR (w := some (31, 0, 0)) ff_X11_7 rfl rfl dX11_kindsOf_18 rfl ?_
    refine w_bipush (v := 57) dX11_kindsOf_21 (by decide) ?_
    refine w_iaload (a := 57) rfl (vp_in_nI (n := 57) (by omega) (by omega)) (nI_clamp (n := 57) (by omega)) dX11_kindsOf_23 ?_
    rw [show (I 31 0 0 (57) : Int32) = nI (nG a) from hs.2.2.ng rfl]
    refine w_icmp_ge (tgt := 91) dX11_kindsOf_24 (by decide) (fun _ => ?_) (fun h => absurd (nI_le (Nat.le_refl _) (by omega)) h)
    have e9 : (b && kdF a j kind (nG a) 0) = b := by rw [kdF]; cases b <;> rfl
    rw [e9] at hk9
    exact hk9 _ 
  | succ m ih =>
    intro i b o6 hi hk9
    have hlt : i < nG a := by omega
    obtain ⟨hJ, hC, hG, hD, hR, -⟩ := id hw
    obtain ⟨fg0, fg1, fg2⟩ := hw.2.2.2.2.2.2.2 i hlt
    refine w_iload dX11_kindsOf_15 rfl ?_
    refine w_aload_n dX11_kindsOf_17 rfl ?_
    refine w_getR (w := some (31, 0, 0)) ff_X11_7 rfl rfl dX11_kindsOf_18 rfl ?_
    refine w_bipush (v := 57) dX11_kindsOf_21 (by decide) ?_
    refine w_iaload (a := 57) rfl (vp_in_nI (n := 57) (by omega) (by omega)) (nI_clamp (n := 57) (by omega)) dX11_kindsOf_23 ?_
    rw [show (I 31 0 0 (57) : Int32) = nI (nG a) from hs.2.2.ng rfl]
    refine w_icmp_ge (tgt := 91) dX11_kindsOf_24 (by decide) (fun h => absurd h (nI_ge (b := nG a) hlt (by omega))) (fun _ => ?_)
    refine w_bipush (v := 58) dX11_kindsOf_27 (by decide) ?_
    refine w_iconst (v := 3) dX11_kindsOf_29 (by decide) ?_
    refine w_iload dX11_kindsOf_30 rfl ?_
    refine w_imul dX11_kindsOf_32 ?_
    rw [show ((3) * (nI i) : Int32) = nI (3 * i) from ar_mul (p := 3) (q := i) rfl rfl (by first | rfl | omega)]
    refine w_iadd dX11_kindsOf_33 ?_
    rw [show ((58) + (nI (3 * i)) : Int32) = nI (58 + (3 * i)) from ar_add (p := 58) (q := 3 * i) rfl rfl (by omega)]
    refine w_istore (ls' := [some (vR 30 0 0), some (vI (nI j)), some (vI (x)), some (vI (nI kind)), some (vI (bI (b = true))), some (vI (nI i)), some (vI (nI (58 + (3 * i))))]) dX11_kindsOf_34 rfl ?_
    refine w_iload dX11_kindsOf_36 rfl ?_
    refine w_ifeq_b (tgt := 82) dX11_kindsOf_38 (by decide) (fun h1 => ?_) (fun h1 => ?_)
    · skip
      first
      | (exfalso; omega)
      | skip
        refine w_iconst (v := 0) dX11_kindsOf_82 (by decide) ?_
        refine w_top (y := bI ((b && (!decide (gF a i 0 = j) || cbS a (gF a i 1) kind (gF a i 2))) = true)) (show (0 : Int32) = bI ((b && (!decide (gF a i 0 = j) || cbS a (gF a i 1) kind (gF a i 2))) = true) from bI_ff (show (b && (!decide (gF a i 0 = j) || cbS a (gF a i 1) kind (gF a i 2))) = false from by simp [h1])) ?_
        rw [show (b && kdF a j kind i (m + 1)) = ((b && (!decide (gF a i 0 = j) || cbS a (gF a i 1) kind (gF a i 2))) && kdF a j kind (i + 1) m) from by rw [kdF]; rw [Bool.and_assoc]] at hk9
        refine w_istore (ls' := [some (vR 30 0 0), some (vI (nI j)), some (vI (x)), some (vI (nI kind)), some (vI (bI ((b && (!decide (gF a i 0 = j) || cbS a (gF a i 1) kind (gF a i 2))) = true))), some (vI (nI i)), some (vI (nI (58 + (3 * i))))]) dX11_kindsOf_83 rfl ?_
        refine w_iinc (v := nI (i + 1)) (ls' := [some (vR 30 0 0), some (vI (nI j)), some (vI (x)), some (vI (nI kind)), some (vI (bI ((b && (!decide (gF a i 0 = j) || cbS a (gF a i 1) kind (gF a i 2))) = true))), some (vI (nI (i + 1))), some (vI (nI (58 + (3 * i))))]) dX11_kindsOf_85 rfl (nI_1 _) rfl ?_
        refine w_goto (tgt := 15) dX11_kindsOf_88 (by decide) ?_
        exact ih (i + 1) (b && (!decide (gF a i 0 = j) || cbS a (gF a i 1) kind (gF a i 2))) _ (by omega) hk9
    · skip
      first
      | (exfalso; omega)
      | skip
        refine w_aload_n dX11_kindsOf_41 rfl ?_
        refine w_getR (w := some (31, 0, 0)) ff_X11_7 rfl rfl dX11_kindsOf_42 rfl ?_
        refine w_iload dX11_kindsOf_45 rfl ?_
        refine w_iaload (a := 58 + (3 * i)) rfl (vp_in_nI (n := 58 + (3 * i)) (by omega) (by omega)) (nI_clamp (n := 58 + (3 * i)) (by omega)) dX11_kindsOf_47 ?_
        rw [show (I 31 0 0 (58 + (3 * i)) : Int32) = nI (gF a i 0) from hs.2.2.g hlt (f := 0) (by decide) (by omega)]
        refine w_iload_n dX11_kindsOf_48 rfl ?_
        refine w_icmp_ne (tgt := 78) dX11_kindsOf_49 (by decide) (fun h2 => ?_) (fun h2 => ?_)
        · skip
          replace h2 : ¬ ((gF a i 0) = (j)) := fun q => h2 ((nI_eq (a := gF a i 0) (b := j) (by omega) (by omega)).mpr q)
          first
          | (exfalso; omega)
          | skip
            refine w_iconst (v := 1) dX11_kindsOf_78 (by decide) ?_
            refine w_goto (tgt := 83) dX11_kindsOf_79 (by decide) ?_
            refine w_top (y := bI ((b && (!decide (gF a i 0 = j) || cbS a (gF a i 1) kind (gF a i 2))) = true)) (show (1 : Int32) = bI ((b && (!decide (gF a i 0 = j) || cbS a (gF a i 1) kind (gF a i 2))) = true) from bI_tt (show (b && (!decide (gF a i 0 = j) || cbS a (gF a i 1) kind (gF a i 2))) = true from by simp [h1, h2])) ?_
            rw [show (b && kdF a j kind i (m + 1)) = ((b && (!decide (gF a i 0 = j) || cbS a (gF a i 1) kind (gF a i 2))) && kdF a j kind (i + 1) m) from by rw [kdF]; rw [Bool.and_assoc]] at hk9
            refine w_istore (ls' := [some (vR 30 0 0), some (vI (nI j)), some (vI (x)), some (vI (nI kind)), some (vI (bI ((b && (!decide (gF a i 0 = j) || cbS a (gF a i 1) kind (gF a i 2))) = true))), some (vI (nI i)), some (vI (nI (58 + (3 * i))))]) dX11_kindsOf_83 rfl ?_
            refine w_iinc (v := nI (i + 1)) (ls' := [some (vR 30 0 0), some (vI (nI j)), some (vI (x)), some (vI (nI kind)), some (vI (bI ((b && (!decide (gF a i 0 = j) || cbS a (gF a i 1) kind (gF a i 2))) = true))), some (vI (nI (i + 1))), some (vI (nI (58 + (3 * i))))]) dX11_kindsOf_85 rfl (nI_1 _) rfl ?_
            refine w_goto (tgt := 15) dX11_kindsOf_88 (by decide) ?_
            exact ih (i + 1) (b && (!decide (gF a i 0 = j) || cbS a (gF a i 1) kind (gF a i 2))) _ (by omega) hk9
        · skip
          replace h2 : (gF a i 0) = (j) := (nI_eq (a := gF a i 0) (b := j) (by omega) (by omega)).mp h2
          first
          | (exfalso; omega)
          | skip
            refine w_aload_n dX11_kindsOf_52 rfl ?_
            refine w_iload_n dX11_kindsOf_53 rfl ?_
            refine w_aload_n dX11_kindsOf_54 rfl ?_
            refine w_getR (w := some (31, 0, 0)) ff_X11_7 rfl rfl dX11_kindsOf_55 rfl ?_
            refine w_iload dX11_kindsOf_58 rfl ?_
            refine w_iconst (v := 1) dX11_kindsOf_60 (by decide) ?_
            refine w_iadd dX11_kindsOf_61 ?_
            rw [show ((nI (58 + (3 * i))) + (1) : Int32) = nI ((58 + (3 * i)) + 1) from ar_add (p := 58 + (3 * i)) (q := 1) rfl rfl (by omega)]
            refine w_iaload (a := (58 + (3 * i)) + 1) rfl (vp_in_nI (n := (58 + (3 * i)) + 1) (by omega) (by omega)) (nI_clamp (n := (58 + (3 * i)) + 1) (by omega)) dX11_kindsOf_62 ?_
            rw [show (I 31 0 0 ((58 + (3 * i)) + 1) : Int32) = nI (gF a i 1) from hs.2.2.g hlt (f := 1) (by decide) (by omega)]
            refine w_aload_n dX11_kindsOf_63 rfl ?_
            refine w_getR (w := some (31, 0, 0)) ff_X11_7 rfl rfl dX11_kindsOf_64 rfl ?_
            refine w_iload dX11_kindsOf_67 rfl ?_
            refine w_iconst (v := 2) dX11_kindsOf_69 (by decide) ?_
            refine w_iadd dX11_kindsOf_70 ?_
            rw [show ((nI (58 + (3 * i))) + (2) : Int32) = nI ((58 + (3 * i)) + 2) from ar_add (p := 58 + (3 * i)) (q := 2) rfl rfl (by omega)]
            refine w_iaload (a := (58 + (3 * i)) + 2) rfl (vp_in_nI (n := (58 + (3 * i)) + 2) (by omega) (by omega)) (nI_clamp (n := (58 + (3 * i)) + 2) (by omega)) dX11_kindsOf_71 ?_
            rw [show (I 31 0 0 ((58 + (3 * i)) + 2) : Int32) = nI (gF a i 2) from hs.2.2.g hlt (f := 2) (by decide) (by omega)]
            refine w_callV (as := [vI (nI kind), vI (nI (gF a i 1)), vI (nI (gF a i 2))]) (st := []) (Tri.mono (d_couldBe hs hw (kind := kind) (c := gF a i 1) (t := gF a i 2) hk (by omega) (by omega)) (Nat.le_of_ble_eq_true rfl)) rfl rfl tg_X11_couldBe lk_X11_281 in_X11_couldBe se_X11_couldBe rfl dX11_kindsOf_72 rfl (Nat.le_of_ble_eq_true rfl) (Nat.le_refl _) (Nat.le_refl _) ?_
            rintro _ _ ⟨rfl, rfl⟩ -
            refine w_ifeq_b (tgt := 82) dX11_kindsOf_75 (by decide) (fun h3 => ?_) (fun h3 => ?_)
            · skip
              first
              | (exfalso; omega)
              | skip
                refine w_iconst (v := 0) dX11_kindsOf_82 (by decide) ?_
                refine w_top (y := bI ((b && (!decide (gF a i 0 = j) || cbS a (gF a i 1) kind (gF a i 2))) = true)) (show (0 : Int32) = bI ((b && (!decide (gF a i 0 = j) || cbS a (gF a i 1) kind (gF a i 2))) = true) from bI_ff (show (b && (!decide (gF a i 0 = j) || cbS a (gF a i 1) kind (gF a i 2))) = false from by simp [h1, h2, h3])) ?_
                rw [show (b && kdF a j kind i (m + 1)) = ((b && (!decide (gF a i 0 = j) || cbS a (gF a i 1) kind (gF a i 2))) && kdF a j kind (i + 1) m) from by rw [kdF]; rw [Bool.and_assoc]] at hk9
                refine w_istore (ls' := [some (vR 30 0 0), some (vI (nI j)), some (vI (x)), some (vI (nI kind)), some (vI (bI ((b && (!decide (gF a i 0 = j) || cbS a (gF a i 1) kind (gF a i 2))) = true))), some (vI (nI i)), some (vI (nI (58 + (3 * i))))]) dX11_kindsOf_83 rfl ?_
                refine w_iinc (v := nI (i + 1)) (ls' := [some (vR 30 0 0), some (vI (nI j)), some (vI (x)), some (vI (nI kind)), some (vI (bI ((b && (!decide (gF a i 0 = j) || cbS a (gF a i 1) kind (gF a i 2))) = true))), some (vI (nI (i + 1))), some (vI (nI (58 + (3 * i))))]) dX11_kindsOf_85 rfl (nI_1 _) rfl ?_
                refine w_goto (tgt := 15) dX11_kindsOf_88 (by decide) ?_
                exact ih (i + 1) (b && (!decide (gF a i 0 = j) || cbS a (gF a i 1) kind (gF a i 2))) _ (by omega) hk9
            · skip
              first
              | (exfalso; omega)
              | skip
                refine w_iconst (v := 1) dX11_kindsOf_78 (by decide) ?_
                refine w_goto (tgt := 83) dX11_kindsOf_79 (by decide) ?_
                refine w_top (y := bI ((b && (!decide (gF a i 0 = j) || cbS a (gF a i 1) kind (gF a i 2))) = true)) (show (1 : Int32) = bI ((b && (!decide (gF a i 0 = j) || cbS a (gF a i 1) kind (gF a i 2))) = true) from bI_tt (show (b && (!decide (gF a i 0 = j) || cbS a (gF a i 1) kind (gF a i 2))) = true from by simp [h1, h2, h3])) ?_
                rw [show (b && kdF a j kind i (m + 1)) = ((b && (!decide (gF a i 0 = j) || cbS a (gF a i 1) kind (gF a i 2))) && kdF a j kind (i + 1) m) from by rw [kdF]; rw [Bool.and_assoc]] at hk9
                refine w_istore (ls' := [some (vR 30 0 0), some (vI (nI j)), some (vI (x)), some (vI (nI kind)), some (vI (bI ((b && (!decide (gF a i 0 = j) || cbS a (gF a i 1) kind (gF a i 2))) = true))), some (vI (nI i)), some (vI (nI (58 + (3 * i))))]) dX11_kindsOf_83 rfl ?_
                refine w_iinc (v := nI (i + 1)) (ls' := [some (vR 30 0 0), some (vI (nI j)), some (vI (x)), some (vI (nI kind)), some (vI (bI ((b && (!decide (gF a i 0 = j) || cbS a (gF a i 1) kind (gF a i 2))) = true))), some (vI (nI (i + 1))), some (vI (nI (58 + (3 * i))))]) dX11_kindsOf_85 rfl (nI_1 _) rfl ?_
                refine w_goto (tgt := 15) dX11_kindsOf_88 (by decide) ?_
                exact ih (i + 1) (b && (!decide (gF a i 0 = j) || cbS a (gF a i 1) kind (gF a i 2))) _ (by omega) hk9

theorem l_kindsM {I : xF4 Int32} {L : xF4 Int64} {a : aA} (hs : SI I a) (hw : WF a) {j : Nat} (hj4 : j < 4) : ∀ (m k : Nat) (o4 o5 o6 : Option xV), k + m = 4 → Wp 3 109 m_X11_kindsOf 4 [some (vR 30 0 0), some (vI (nI j)), some (vI (nI (bitN (fun kind => kdF a j kind 0 (nG a)) k))), some (vI (nI k)), o4, o5, o6] [] (rM I L) (pI (nI (kindsN a j)) I L) := by
  intro m
  induction m with
  | zero =>
    intro k o4 o5 o6 hk
    have e : k = 4 := by omega
    subst e
    refine w_iload_n dX11_kindsOf_4 rfl ?_
    refine w_iconst (v := 4) dX11_kindsOf_5 (by decide) ?_
    refine w_icmp_ge (tgt := 107) dX11_kindsOf_6 (by decide) (fun _ => ?_) (fun h => absurd (by decide) h)
    refine w_iload_n dX11_kindsOf_107 rfl ?_
    exact w_ireturn dX11_kindsOf_108 rfl (rfl) rfl (⟨rfl, rfl⟩)
  | succ m ih =>
    intro k o4 o5 o6 hk
    have hlt : k < 4 := by omega
    refine w_iload_n dX11_kindsOf_4 rfl ?_
    refine w_iconst (v := 4) dX11_kindsOf_5 (by decide) ?_
    refine w_icmp_ge (tgt := 107) dX11_kindsOf_6 (by decide) (fun h => absurd h (nI_ge (b := 4) hlt (by omega))) (fun _ => ?_)
    refine w_iconst (v := 1) dX11_kindsOf_9 (by decide) ?_
    refine w_istore (ls' := [some (vR 30 0 0), some (vI (nI j)), some (vI (nI (bitN (fun kind => kdF a j kind 0 (nG a)) k))), some (vI (nI k)), some (vI (1)), o5, o6]) dX11_kindsOf_10 rfl ?_
    refine w_iconst (v := 0) dX11_kindsOf_12 (by decide) ?_
    refine w_istore (ls' := [some (vR 30 0 0), some (vI (nI j)), some (vI (nI (bitN (fun kind => kdF a j kind 0 (nG a)) k))), some (vI (nI k)), some (vI (1)), some (vI (0)), o6]) dX11_kindsOf_13 rfl ?_
    refine w_ls (congrArg (fun z9 : Int32 => [some (vR 30 0 0), some (vI (nI j)), some (vI (nI (bitN (fun kind => kdF a j kind 0 (nG a)) k))), some (vI (nI k)), some (vI z9), some (vI (0)), o6]) (show (1 : Int32) = bI (true = true) from rfl)) ?_
    refine l_kindM hs hw hj4 hlt (nG a) 0 true _ (Nat.zero_add _) (fun o9 => ?_)
    rw [Bool.true_and]
    refine w_iload_n dX11_kindsOf_91 rfl ?_
    refine w_iload dX11_kindsOf_92 rfl ?_
    refine w_callS (as := [vI (bI (kdF a j k 0 (nG a) = true))]) (st := [vI (nI (bitN (fun kind => kdF a j kind 0 (nG a)) k))]) (Tri.mono (d_flag (kdF a j k 0 (nG a) = true)) (Nat.le_of_ble_eq_true rfl)) tg_X11_flag lk_X11_161 sa_X11_flag rfl dX11_kindsOf_94 rfl (Nat.le_of_ble_eq_true rfl) (Nat.le_refl _) (Nat.le_refl _) ?_
    rintro _ _ ⟨rfl, rfl⟩ -
    refine w_iload_n dX11_kindsOf_97 rfl ?_
    refine w_ishl dX11_kindsOf_98 ?_
    refine w_ior dX11_kindsOf_99 ?_
    refine w_top (y := nI (bitN (fun kind => kdF a j kind 0 (nG a)) (k + 1))) (show ((nI (bitN (fun kind => kdF a j kind 0 (nG a)) k)) ||| ((bI (kdF a j k 0 (nG a) = true)) <<< ((nI k) &&& 31)) : Int32) = nI (bitN (fun kind => kdF a j kind 0 (nG a)) (k + 1)) from bit_bI (p := (fun kind => kdF a j kind 0 (nG a))) (by omega) Iff.rfl) ?_
    refine w_istore_n (ls' := [some (vR 30 0 0), some (vI (nI j)), some (vI (nI (bitN (fun kind => kdF a j kind 0 (nG a)) (k + 1)))), some (vI (nI k)), some (vI (bI (kdF a j k 0 (nG a) = true))), some (vI (nI (nG a))), o9]) dX11_kindsOf_100 rfl ?_
    refine w_iinc (v := nI (k + 1)) (ls' := [some (vR 30 0 0), some (vI (nI j)), some (vI (nI (bitN (fun kind => kdF a j kind 0 (nG a)) (k + 1)))), some (vI (nI (k + 1))), some (vI (bI (kdF a j k 0 (nG a) = true))), some (vI (nI (nG a))), o9]) dX11_kindsOf_101 rfl (nI_1 _) rfl ?_
    refine w_goto (tgt := 4) dX11_kindsOf_104 (by decide) ?_
    exact ih (k + 1) _ _ _ (by omega)

theorem d_kindsOf {I : xF4 Int32} {L : xF4 Int64} {a : aA} (hs : SI I a) (hw : WF a) {j : Nat} (hj4 : j < 4) : Tri 3 109 m_X11_kindsOf [vR 30 0 0, vI (nI j)] (rM I L) (pI (nI (kindsN a j)) I L) := by
  refine ⟨k_X11_kindsOf, Nat.le_of_ble_eq_true rfl, ?_⟩
  show Wp _ _ _ 0 [some (vR 30 0 0), some (vI (nI j)), none, none, none, none, none] [] (rM I L) _
  refine w_iconst (v := 0) dX11_kindsOf_0 (by decide) ?_
  refine w_istore_n (ls' := [some (vR 30 0 0), some (vI (nI j)), some (vI (0)), none, none, none, none]) dX11_kindsOf_1 rfl ?_
  refine w_iconst (v := 0) dX11_kindsOf_2 (by decide) ?_
  refine w_istore_n (ls' := [some (vR 30 0 0), some (vI (nI j)), some (vI (0)), some (vI (0)), none, none, none]) dX11_kindsOf_3 rfl ?_
  exact l_kindsM hs hw hj4 4 0 none none none rfl

theorem p_kinds {I : xF4 Int32} {L : xF4 Int64} {a : aA} (hc : CourtIs I 0 a) (hw : WF a) {j : Nat} (hj : j < nJ a)  : Tri 19 109 m_X10_kinds [vR 0 0 0, vI (nI j)] (rM I L) (pCq (vI (nI (kindsN a j))) I) := by
  refine ⟨k_X10_kinds, Nat.le_of_ble_eq_true rfl, ?_⟩
  show Wp _ _ _ 0 [some (vR 0 0 0), some (vI (nI j))] [] (rM I L) _
  obtain ⟨hJ, hC, hG, hD, hR, -⟩ := id hw
  refine w_aload_n dX10_kinds_0 rfl ?_
  refine w_getR (w := some (1, 0, 0)) ff_X10_10 rfl rfl dX10_kinds_1 rfl ?_
  refine w_iload_n dX10_kinds_4 rfl ?_
  refine w_callV (as := [vI (nI j)]) (st := []) (Tri.mono (c_jAt hc hw hj) (Nat.le_of_ble_eq_true rfl)) rfl rfl tg_X1_judgeAt lk_X10_111 in_X1_judgeAt se_X1_judgeAt rfl dX10_kinds_5 rfl (Nat.le_of_ble_eq_true rfl) (Nat.le_refl _) (Nat.le_refl _) ?_
  rintro _ _ ⟨rfl, rfl⟩ -
  refine w_ifnonnull (tgt := 15) dX10_kinds_8 (by decide) (fun _ _ => ?_) (fun h => by cases h)
  refine w_aload_n dX10_kinds_15 rfl ?_
  refine w_getR (w := some (1, 0, 0)) ff_X10_10 rfl rfl dX10_kinds_16 rfl ?_
  refine w_iload_n dX10_kinds_19 rfl ?_
  refine w_callS (as := [vR 1 0 0, vI (nI j)]) (st := []) (Tri.mono (c_kindsOf hc hw (j := j) (by omega)) (Nat.le_of_ble_eq_true rfl)) tg_X0_kindsOf lk_X10_273 sa_X0_kindsOf rfl dX10_kinds_20 rfl (Nat.le_of_ble_eq_true rfl) (Nat.le_refl _) (Nat.le_refl _) ?_
  rintro _ _ ⟨rfl, rfl⟩ -
  exact w_ireturn dX10_kinds_23 rfl (rfl) rfl (⟨rfl, _, _, rfl, FrQ.rf⟩)

theorem q_kinds {I : xF4 Int32} {L : xF4 Int64} {a : aA} (hs : SI I a) (hw : WF a) {j : Nat} (hj : j < nJ a)  : Tri 19 109 m_X11_kinds [vR 30 0 0, vI (nI j)] (rM I L) (pMq (vI (nI (kindsN a j))) I) := by
  refine ⟨k_X11_kinds, Nat.le_of_ble_eq_true rfl, ?_⟩
  show Wp _ _ _ 0 [some (vR 30 0 0), some (vI (nI j))] [] (rM I L) _
  obtain ⟨hJ, hC, hG, hD, hR, -⟩ := id hw
  refine w_aload_n dX11_kinds_0 rfl ?_
  refine w_iload_n dX11_kinds_1 rfl ?_
  refine w_callV (as := [vI (nI j)]) (st := []) (Tri.mono (d_isJudge (hs.1) (by omega) (x := nI j) (X := ((j : Nat) : Int)) (z_nI (by omega))) (Nat.le_of_ble_eq_true rfl)) rfl rfl tg_X11_isJudge lk_X11_198 in_X11_isJudge se_X11_isJudge rfl dX11_kinds_2 rfl (Nat.le_of_ble_eq_true rfl) (Nat.le_refl _) (Nat.le_refl _) ?_
  rintro _ _ ⟨rfl, rfl⟩ -
  refine w_ifeq_b (tgt := 16) dX11_kinds_5 (by decide) (fun h1 => ?_) (fun h1 => ?_)
  · skip
    first
    | (exfalso; omega)
    | skip
      refine w_iconst (v := (-1)) dX11_kinds_16 (by decide) ?_
      exact w_ireturn dX11_kinds_17 rfl (rfl) rfl (⟨rfl, _, _, rfl, FrR.rf⟩)
  · skip
    first
    | (exfalso; omega)
    | skip
      refine w_aload_n dX11_kinds_8 rfl ?_
      refine w_iload_n dX11_kinds_9 rfl ?_
      refine w_callV (as := [vI (nI j)]) (st := []) (Tri.mono (d_kindsOf hs hw (j := j) (by omega)) (Nat.le_of_ble_eq_true rfl)) rfl rfl tg_X11_kindsOf lk_X11_284 in_X11_kindsOf se_X11_kindsOf rfl dX11_kinds_10 rfl (Nat.le_of_ble_eq_true rfl) (Nat.le_refl _) (Nat.le_refl _) ?_
      rintro _ _ ⟨rfl, rfl⟩ -
      refine w_goto (tgt := 17) dX11_kinds_13 (by decide) ?_
      exact w_ireturn dX11_kinds_17 rfl (rfl) rfl (⟨rfl, _, _, rfl, FrR.rf⟩)

theorem p_kinds_o {I : xF4 Int32} {L : xF4 Int64} {a : aA} (hc : CourtIs I 0 a) (hw : WF a) {j : Int32} (hx : j.toInt < 0 ∨ ((nJ a : Nat) : Int) ≤ j.toInt) : Tri 19 109 m_X10_kinds [vR 0 0 0, vI (j)] (rM I L) (pCq (vI (-1)) I) := by
  refine ⟨k_X10_kinds, Nat.le_of_ble_eq_true rfl, ?_⟩
  show Wp _ _ _ 0 [some (vR 0 0 0), some (vI (j))] [] (rM I L) _
  obtain ⟨hJ, hC, hG, hD, hR, -⟩ := id hw
  refine w_aload_n dX10_kinds_0 rfl ?_
  refine w_getR (w := some (1, 0, 0)) ff_X10_10 rfl rfl dX10_kinds_1 rfl ?_
  refine w_iload_n dX10_kinds_4 rfl ?_
  refine w_callV (as := [vI (j)]) (st := []) (Tri.mono (c_jAtO hc hw (z_out (by omega) hx)) (Nat.le_of_ble_eq_true rfl)) rfl rfl tg_X1_judgeAt lk_X10_111 in_X1_judgeAt se_X1_judgeAt rfl dX10_kinds_5 rfl (Nat.le_of_ble_eq_true rfl) (Nat.le_refl _) (Nat.le_refl _) ?_
  rintro _ _ ⟨rfl, rfl⟩ -
  refine w_ifnonnull (tgt := 15) dX10_kinds_8 (by decide) (fun _ h => by cases h) (fun _ => ?_)
  refine w_iconst (v := (-1)) dX10_kinds_11 (by decide) ?_
  refine w_goto (tgt := 23) dX10_kinds_12 (by decide) ?_
  exact w_ireturn dX10_kinds_23 rfl (rfl) rfl (⟨rfl, _, _, rfl, FrQ.rf⟩)

theorem q_kinds_o {I : xF4 Int32} {L : xF4 Int64} {a : aA} (hs : SI I a) (hw : WF a) {j : Int32} (hx : j.toInt < 0 ∨ ((nJ a : Nat) : Int) ≤ j.toInt) : Tri 19 109 m_X11_kinds [vR 30 0 0, vI (j)] (rM I L) (pMq (vI (-1)) I) := by
  refine ⟨k_X11_kinds, Nat.le_of_ble_eq_true rfl, ?_⟩
  show Wp _ _ _ 0 [some (vR 30 0 0), some (vI (j))] [] (rM I L) _
  obtain ⟨hJ, hC, hG, hD, hR, -⟩ := id hw
  refine w_aload_n dX11_kinds_0 rfl ?_
  refine w_iload_n dX11_kinds_1 rfl ?_
  refine w_callV (as := [vI (j)]) (st := []) (Tri.mono (d_isJudge (hs.1) (by omega) (x := j) (X := j.toInt) rfl) (Nat.le_of_ble_eq_true rfl)) rfl rfl tg_X11_isJudge lk_X11_198 in_X11_isJudge se_X11_isJudge rfl dX11_kinds_2 rfl (Nat.le_of_ble_eq_true rfl) (Nat.le_refl _) (Nat.le_refl _) ?_
  rintro _ _ ⟨rfl, rfl⟩ -
  refine w_ifeq_b (tgt := 16) dX11_kinds_5 (by decide) (fun h1 => ?_) (fun h1 => ?_)
  · skip
    first
    | (exfalso; omega)
    | skip
      refine w_iconst (v := (-1)) dX11_kinds_16 (by decide) ?_
      exact w_ireturn dX11_kinds_17 rfl (rfl) rfl (⟨rfl, _, _, rfl, FrR.rf⟩)
  · skip
    first
    | (exfalso; omega)
    | skip
      refine w_aload_n dX11_kinds_8 rfl ?_
      refine w_iload_n dX11_kinds_9 rfl ?_
      exfalso
      omega
