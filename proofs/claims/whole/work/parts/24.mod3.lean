/-! the reference's docket (by wip/whole/gen/g24.py) -/
/-- the reference's own court -/
def SI (I : xF4 Int32) (a : aA) : Prop := I 30 0 0 3 = nI (nJ a) ∧ I 30 0 0 4 = nI (nC a) ∧ NowIs I 31 0 a
/-- only what the reference plays with has changed -/
def FrM (I I' : xF4 Int32) : Prop := ∀ t b j s, t ≠ 32 → t ≠ 36 → ¬ (t = 30 ∧ (s = 18 ∨ s = 19)) → I' t b j s = I t b j s
theorem FrM.rf {I : xF4 Int32} : FrM I I := fun _ _ _ _ _ _ _ => rfl
theorem FrM.tr {I I1 I2 : xF4 Int32} (h1 : FrM I I1) (h2 : FrM I1 I2) : FrM I I2 := fun t b j s p q r => (h2 t b j s p q r).trans (h1 t b j s p q r)
theorem FrT.m {I I1 : xF4 Int32} (h : FrT 32 I I1) : FrM I I1 := fun t b j s p _ _ => h t b j s p
/-- only the playing court and who is idle -/
def FrG (I I' : xF4 Int32) : Prop := ∀ t b j s, t ≠ 32 → ¬ (t = 30 ∧ s = 19) → I' t b j s = I t b j s
theorem FrG.rf {I : xF4 Int32} : FrG I I := fun _ _ _ _ _ _ => rfl
theorem FrG.tr {I I1 I2 : xF4 Int32} (h1 : FrG I I1) (h2 : FrG I1 I2) : FrG I I2 := fun t b j s p q => (h2 t b j s p q).trans (h1 t b j s p q)
theorem FrT.g {I I1 : xF4 Int32} (h : FrT 32 I I1) : FrG I I1 := fun t b j s p _ => h t b j s p
theorem FrG.m {I I1 : xF4 Int32} (h : FrG I I1) : FrM I I1 := fun t b j s p _ q => h t b j s p (fun z => q ⟨z.1, Or.inr z.2⟩)
theorem FrG.up {I : xF4 Int32} {v : Int32} : FrG I (xup I 30 0 0 19 v) := fun t b j s _ h2 => by
  unfold xup
  rw [if_neg]
  rintro ⟨rfl, rfl, rfl, rfl⟩
  exact h2 ⟨rfl, rfl⟩
theorem FrM.up {I : xF4 Int32} {s : Nat} {v : Int32} (h : s = 18 ∨ s = 19) : FrM I (xup I 30 0 0 s v) := fun t b j s' _ _ h2 => by
  unfold xup
  rw [if_neg]
  rintro ⟨rfl, rfl, rfl, rfl⟩
  exact h2 ⟨rfl, h⟩
theorem MI.at30 {I : xF4 Int32} {a : aA} (h : MI I a) {s : Nat} (h1 : s ≠ 3) (h2 : s ≠ 4) (v : Int32) : MI (xup I 30 0 0 s v) a := ⟨(xup_slot (Ne.symm h1)).trans h.1, (xup_slot (Ne.symm h2)).trans h.2.1, h.2.2.fr (fun _ => xup_tag (by decide))⟩
theorem SI.m {I I' : xF4 Int32} {a : aA} (h : SI I a) (hf : FrM I I') : SI I' a := ⟨(hf 30 0 0 3 (by decide) (by decide) (by omega)).trans h.1, (hf 30 0 0 4 (by decide) (by decide) (by omega)).trans h.2.1, h.2.2.fr (fun x => hf 31 0 0 x (by decide) (by decide) (by omega))⟩
theorem nI_m4 : ∀ c, c < 60 → ¬ nI c = (-4 : Int32) := by decide +kernel
/-- who sits where -/
def SitsIs (I : xF4 Int32) (ss : List Nat) : Prop := ∀ (i j : Nat), ss[i]? = some j → I 36 0 0 i = nI j
def stepB (ab : Nat) (a : aA) (j : Nat) : aA := if ab.testBit j = true then a else hearN a j
def foldB (ab : Nat) (ss : List Nat) (a : aA) : aA := ss.foldl (stepB ab) a
def presB (ab : Nat) (ss : List Nat) : List Nat := ss.filter (fun j => !ab.testBit j)
theorem foldB_eq (ab : Nat) : ∀ (ss : List Nat) (a : aA), foldB ab ss a = (presB ab ss).foldl hearN a
  | [], a => rfl
  | j :: ss, a => by
    show foldB ab ss (stepB ab a j) = _
    rw [foldB_eq ab ss]
    unfold presB stepB
    by_cases h : ab.testBit j = true
    · rw [if_pos h, List.filter_cons_of_neg (by simp [h])]
    · rw [if_neg h, List.filter_cons_of_pos (by simp [h])]
      rfl
def idF (ab : Nat) : List Nat → aA → Nat
  | [], _ => 0
  | j :: ss, a => (if ab.testBit j = true ∨ ffN a j = none then 1 else 0) + idF ab ss (stepB ab a j)
theorem stepB_k (ab : Nat) (a : aA) (j : Nat) : nJ (stepB ab a j) = nJ a ∧ nC (stepB ab a j) = nC a ∧ nG (stepB ab a j) = nG a ∧ dY (stepB ab a j) = dY a := by
  unfold stepB
  split
  · exact ⟨rfl, rfl, rfl, rfl⟩
  · exact hearN_k a j
theorem WF.stp {ab : Nat} {a : aA} (hw : WF a) {j : Nat} (hj : j < nJ a) : WF (stepB ab a j) := by
  unfold stepB
  split
  · exact hw
  · exact hw.hear hj
theorem foldB_c {ab j : Nat} {suf : List Nat} {a : aA} : foldB ab (j :: suf) a = foldB ab suf (stepB ab a j) := rfl
theorem idF_1 {ab j : Nat} {suf : List Nat} {a : aA} (h : ab.testBit j = true ∨ ffN a j = none) : idF ab (j :: suf) a = 1 + idF ab suf (stepB ab a j) := by rw [idF, if_pos h]
theorem idF_0 {ab j : Nat} {suf : List Nat} {a : aA} (h : ¬ (ab.testBit j = true ∨ ffN a j = none)) : idF ab (j :: suf) a = 0 + idF ab suf (stepB ab a j) := by rw [idF, if_neg h]
theorem idE_1 {x : Int32} {n : Nat} : x + 1 + nI n = x + nI (1 + n) := by rw [Int32.add_assoc, ← nI_add]; rfl
theorem idE_0 {x : Int32} {n : Nat} : x + 0 + nI n = x + nI (0 + n) := by rw [Int32.add_zero, Nat.zero_add]
theorem stepB_t {ab j : Nat} {a : aA} (h : ab.testBit j = true) : stepB ab a j = a := if_pos h
theorem stepB_f {ab j : Nat} {a : aA} (h : ¬ ab.testBit j = true) (hf : ffN a j = none) : stepB ab a j = a := (if_neg h).trans (by unfold hearN; rw [hf]; rfl)
theorem stepB_s {ab j c : Nat} {a : aA} (h : ¬ ab.testBit j = true) (hf : ffN a j = some c) : stepB ab a j = sentN a c j (sF a c 1) := (if_neg h).trans (by unfold hearN; rw [hf]; rfl)
abbrev pG (a' : aA) (x : Int32) (I : xF4 Int32) (L : xF4 Int64) : Option xV → xM → Prop := fun v M => v = none ∧ ∃ I', M = rM I' L ∧ MI I' a' ∧ I' 30 0 0 19 = x ∧ FrG I I'
theorem tbit1 {w c : Nat} (hw : w < 32) (hc : c < 5) (h : w.testBit c = true) : (nI w >>> (nI c &&& 31)) &&& 1 = 1 := by rw [tbit0 w hw c hc]; exact bI_t h
theorem tbitn {w c : Nat} (hw : w < 32) (hc : c < 5) (h : ¬ w.testBit c = true) : (nI w >>> (nI c &&& 31)) &&& 1 = 0 := by rw [tbit0 w hw c hc]; exact bI_f h

set_option maxHeartbeats 1000000 in
theorem l_docketGoes {L : xF4 Int64} {ab : Nat} (hab9 : ab < 32) {I0 : xF4 Int32} : ∀ (suf : List Nat) (i : Nat) (a : aA) (I : xF4 Int32) (x : Int32) (o2 o3 : Option xV), WF a → i + suf.length = nJ a → (∀ (n j : Nat), suf[n]? = some j → I 36 0 0 (i + n) = nI j) → (∀ j ∈ suf, j < nJ a) → MI I a → I 30 0 0 18 = nI ab → I 30 0 0 19 = x → FrG I0 I →
    Wp 4 109 m_X11_docketGoes 2 [some (vR 30 0 0), some (vI (nI i)), o2, o3] [] (rM I L) (pG (dayN (foldB ab suf a)) (x + nI (idF ab suf a)) I0 L) := by
  intro suf
  induction suf with
  | nil =>
    intro i a I x o2 o3 hw hi hs hall hm hab hx hf
    have e : i = nJ a := by simpa using hi
    subst e
    obtain ⟨hJ, hC, hG, hD, hR, -⟩ := id hw
    refine w_iload_n dX11_docketGoes_2 rfl ?_
    refine w_aload_n dX11_docketGoes_3 rfl ?_
    refine w_getI ff_X11_58 rfl rfl dX11_docketGoes_4 ?_
    rw [show (I 30 0 0 3 : Int32) = nI (nJ a) from hm.1]
    refine w_icmp_ge (tgt := 87) dX11_docketGoes_7 (by decide) (fun _ => ?_) (fun h => absurd (nI_le (Nat.le_refl _) (by omega)) h)
    refine w_aload_n dX11_docketGoes_87 rfl ?_
    refine w_callV (as := []) (st := []) (Tri.mono (d_dayGoes hm hw) (Nat.le_of_ble_eq_true rfl)) rfl rfl tg_X11_dayGoes lk_X11_180 in_X11_dayGoes se_X11_dayGoes rfl dX11_docketGoes_88 rfl (Nat.le_of_ble_eq_true rfl) (Nat.le_refl _) (Nat.le_refl _) ?_
    rintro v M9 ⟨rfl, I1, rfl, hm1, hf1⟩ -
    exact w_return dX11_docketGoes_91 rfl rfl (⟨rfl, I1, rfl, hm1, by rw [hf1 30 0 0 19 (by decide), hx]; exact (Int32.add_zero x).symm, hf.tr hf1.g⟩)
  | cons j suf ih =>
    intro i a I x o2 o3 hw hi hs hall hm hab hx hf
    have hcc : i < nJ a := by simp at hi; omega
    have hj : j < nJ a := hall j List.mem_cons_self
    have hsj := hs 0 j rfl
    rw [Nat.add_zero] at hsj
    obtain ⟨hJ, hC, hG, hD, hR, -⟩ := id hw
    obtain ⟨k1, k2, k3, k4⟩ := stepB_k ab a j
    have hws : WF (stepB ab a j) := hw.stp hj
    by_cases hb : ab.testBit j = true
    · skip
      have hid : ab.testBit j = true ∨ ffN a j = none := Or.inl hb
      rw [foldB_c, idF_1 hid]
      refine w_iload_n dX11_docketGoes_2 rfl ?_
      refine w_aload_n dX11_docketGoes_3 rfl ?_
      refine w_getI ff_X11_58 rfl rfl dX11_docketGoes_4 ?_
      rw [show (I 30 0 0 3 : Int32) = nI (nJ a) from hm.1]
      refine w_icmp_ge (tgt := 87) dX11_docketGoes_7 (by decide) (fun h => absurd h (nI_ge hcc (by omega))) (fun _ => ?_)
      refine w_aload_n dX11_docketGoes_10 rfl ?_
      refine w_getR (w := some (36, 0, 0)) ff_X11_26 rfl rfl dX11_docketGoes_11 rfl ?_
      refine w_iload_n dX11_docketGoes_14 rfl ?_
      refine w_iaload (a := i) rfl (vp_in_nI (n := i) (by omega) (by omega)) (nI_clamp (n := i) (by omega)) dX11_docketGoes_15 ?_
      rw [show (I 36 0 0 (i) : Int32) = nI j from hsj]
      refine w_istore_n (ls' := [some (vR 30 0 0), some (vI (nI i)), some (vI (nI j)), o3]) dX11_docketGoes_16 rfl ?_
      refine w_aload_n dX11_docketGoes_17 rfl ?_
      refine w_getI ff_X11_168 rfl rfl dX11_docketGoes_18 ?_
      rw [show (I 30 0 0 18 : Int32) = nI ab from hab]
      refine w_iload_n dX11_docketGoes_21 rfl ?_
      refine w_ishr dX11_docketGoes_22 ?_
      refine w_iconst (v := 1) dX11_docketGoes_23 (by decide) ?_
      refine w_iand dX11_docketGoes_24 ?_
      rw [show (((nI ab) >>> ((nI j) &&& 31)) &&& (1) : Int32) = 1 from tbit1 (by omega) (by omega) hb]
      refine w_iconst (v := 1) dX11_docketGoes_25 (by decide) ?_
      refine w_icmp_ne (tgt := 34) dX11_docketGoes_26 (by decide) (fun h => absurd (by decide) h) (fun _ => ?_)
      refine w_bipush (v := (-4)) dX11_docketGoes_29 (by decide) ?_
      refine w_goto (tgt := 39) dX11_docketGoes_31 (by decide) ?_
      refine w_istore_n (ls' := [some (vR 30 0 0), some (vI (nI i)), some (vI (nI j)), some (vI ((-4)))]) dX11_docketGoes_39 rfl ?_
      refine w_iload_n dX11_docketGoes_40 rfl ?_
      refine w_bipush (v := (-4)) dX11_docketGoes_41 (by decide) ?_
      refine w_icmp_eq (tgt := 58) dX11_docketGoes_43 (by decide) (fun _ => ?_) (fun h => absurd (by decide) h)
      refine w_aload_n dX11_docketGoes_58 rfl ?_
      refine w_dup dX11_docketGoes_59 rfl ?_
      refine w_getI ff_X11_177 rfl rfl dX11_docketGoes_60 ?_
      rw [show (I 30 0 0 19 : Int32) = x from hx]
      refine w_iload_n dX11_docketGoes_63 rfl ?_
      refine w_bipush (v := (-4)) dX11_docketGoes_64 (by decide) ?_
      refine w_icmp_ne (tgt := 73) dX11_docketGoes_66 (by decide) (fun h => absurd (by decide) h) (fun _ => ?_)
      refine w_iconst (v := 1) dX11_docketGoes_69 (by decide) ?_
      refine w_goto (tgt := 74) dX11_docketGoes_70 (by decide) ?_
      refine w_callS (as := [vI (1)]) (st := [vI (x), vR 30 0 0]) (Tri.mono (d_flag1) (Nat.le_of_ble_eq_true rfl)) tg_X11_flag lk_X11_161 sa_X11_flag rfl dX11_docketGoes_74 rfl (Nat.le_of_ble_eq_true rfl) (Nat.le_refl _) (Nat.le_refl _) ?_
      rintro _ _ ⟨rfl, rfl⟩ -
      refine w_iadd dX11_docketGoes_77 ?_
      refine w_putI ff_X11_177 rfl rfl rfl rfl dX11_docketGoes_78 ?_
      have hu : MI (xup I 30 0 0 19 ((x) + (1))) (stepB ab a j) := (by rw [stepB_t hb]; exact hm.at30 (by decide) (by decide) _)
      have hfu : FrG I (xup I 30 0 0 19 ((x) + (1))) := FrG.up
      have hs1 : ∀ (n j' : Nat), suf[n]? = some j' → (xup I 30 0 0 19 ((x) + (1))) 36 0 0 (i + 1 + n) = nI j' := fun n j' h => (hfu 36 0 0 _ (by decide) (by omega)).trans (by rw [show i + 1 + n = i + (n + 1) by omega]; exact hs (n + 1) j' h)
      refine w_iinc (v := nI (i + 1)) (ls' := [some (vR 30 0 0), some (vI (nI (i + 1))), some (vI (nI j)), some (vI ((-4)))]) dX11_docketGoes_81 rfl (nI_1 _) rfl ?_
      refine w_goto (tgt := 2) dX11_docketGoes_84 (by decide) ?_
      have q := ih (i + 1) (stepB ab a j) _ (x + 1) (some (vI (nI j))) (some (vI ((-4)))) hws (by rw [k1]; simp at hi; omega) hs1 (fun j' h => by rw [k1]; exact hall j' (List.mem_cons_of_mem _ h)) hu ((hfu 30 0 0 18 (by decide) (by omega)).trans hab) xup_self (hf.tr hfu)
      rw [idE_1] at q
      exact q
    · skip
      refine w_iload_n dX11_docketGoes_2 rfl ?_
      refine w_aload_n dX11_docketGoes_3 rfl ?_
      refine w_getI ff_X11_58 rfl rfl dX11_docketGoes_4 ?_
      rw [show (I 30 0 0 3 : Int32) = nI (nJ a) from hm.1]
      refine w_icmp_ge (tgt := 87) dX11_docketGoes_7 (by decide) (fun h => absurd h (nI_ge hcc (by omega))) (fun _ => ?_)
      refine w_aload_n dX11_docketGoes_10 rfl ?_
      refine w_getR (w := some (36, 0, 0)) ff_X11_26 rfl rfl dX11_docketGoes_11 rfl ?_
      refine w_iload_n dX11_docketGoes_14 rfl ?_
      refine w_iaload (a := i) rfl (vp_in_nI (n := i) (by omega) (by omega)) (nI_clamp (n := i) (by omega)) dX11_docketGoes_15 ?_
      rw [show (I 36 0 0 (i) : Int32) = nI j from hsj]
      refine w_istore_n (ls' := [some (vR 30 0 0), some (vI (nI i)), some (vI (nI j)), o3]) dX11_docketGoes_16 rfl ?_
      refine w_aload_n dX11_docketGoes_17 rfl ?_
      refine w_getI ff_X11_168 rfl rfl dX11_docketGoes_18 ?_
      rw [show (I 30 0 0 18 : Int32) = nI ab from hab]
      refine w_iload_n dX11_docketGoes_21 rfl ?_
      refine w_ishr dX11_docketGoes_22 ?_
      refine w_iconst (v := 1) dX11_docketGoes_23 (by decide) ?_
      refine w_iand dX11_docketGoes_24 ?_
      rw [show (((nI ab) >>> ((nI j) &&& 31)) &&& (1) : Int32) = 0 from tbitn (by omega) (by omega) hb]
      refine w_iconst (v := 1) dX11_docketGoes_25 (by decide) ?_
      refine w_icmp_ne (tgt := 34) dX11_docketGoes_26 (by decide) (fun _ => ?_) (fun h => absurd h (by decide))
      refine w_aload_n dX11_docketGoes_34 rfl ?_
      refine w_iload_n dX11_docketGoes_35 rfl ?_
      refine w_callV (as := [vI (nI j)]) (st := []) (Tri.mono (d_firstFor hm hw (j := j) hj) (Nat.le_of_ble_eq_true rfl)) rfl rfl tg_X11_firstFor lk_X11_171 in_X11_firstFor se_X11_firstFor rfl dX11_docketGoes_36 rfl (Nat.le_of_ble_eq_true rfl) (Nat.le_refl _) (Nat.le_refl _) ?_
      rintro _ _ ⟨rfl, rfl⟩ -
      cases hff : ffN a j with
      | none =>
        have hid : ab.testBit j = true ∨ ffN a j = none := Or.inr hff
        rw [foldB_c, idF_1 hid]
        rw [show (byI none : Int32) = (-4) from rfl]
        refine w_istore_n (ls' := [some (vR 30 0 0), some (vI (nI i)), some (vI (nI j)), some (vI ((-4)))]) dX11_docketGoes_39 rfl ?_
        refine w_iload_n dX11_docketGoes_40 rfl ?_
        refine w_bipush (v := (-4)) dX11_docketGoes_41 (by decide) ?_
        refine w_icmp_eq (tgt := 58) dX11_docketGoes_43 (by decide) (fun _ => ?_) (fun h => absurd (by decide) h)
        refine w_aload_n dX11_docketGoes_58 rfl ?_
        refine w_dup dX11_docketGoes_59 rfl ?_
        refine w_getI ff_X11_177 rfl rfl dX11_docketGoes_60 ?_
        rw [show (I 30 0 0 19 : Int32) = x from hx]
        refine w_iload_n dX11_docketGoes_63 rfl ?_
        refine w_bipush (v := (-4)) dX11_docketGoes_64 (by decide) ?_
        refine w_icmp_ne (tgt := 73) dX11_docketGoes_66 (by decide) (fun h => absurd (by decide) h) (fun _ => ?_)
        refine w_iconst (v := 1) dX11_docketGoes_69 (by decide) ?_
        refine w_goto (tgt := 74) dX11_docketGoes_70 (by decide) ?_
        refine w_callS (as := [vI (1)]) (st := [vI (x), vR 30 0 0]) (Tri.mono (d_flag1) (Nat.le_of_ble_eq_true rfl)) tg_X11_flag lk_X11_161 sa_X11_flag rfl dX11_docketGoes_74 rfl (Nat.le_of_ble_eq_true rfl) (Nat.le_refl _) (Nat.le_refl _) ?_
        rintro _ _ ⟨rfl, rfl⟩ -
        refine w_iadd dX11_docketGoes_77 ?_
        refine w_putI ff_X11_177 rfl rfl rfl rfl dX11_docketGoes_78 ?_
        have hu : MI (xup I 30 0 0 19 ((x) + (1))) (stepB ab a j) := (by rw [stepB_f hb hff]; exact hm.at30 (by decide) (by decide) _)
        have hfu : FrG I (xup I 30 0 0 19 ((x) + (1))) := FrG.up
        have hs1 : ∀ (n j' : Nat), suf[n]? = some j' → (xup I 30 0 0 19 ((x) + (1))) 36 0 0 (i + 1 + n) = nI j' := fun n j' h => (hfu 36 0 0 _ (by decide) (by omega)).trans (by rw [show i + 1 + n = i + (n + 1) by omega]; exact hs (n + 1) j' h)
        refine w_iinc (v := nI (i + 1)) (ls' := [some (vR 30 0 0), some (vI (nI (i + 1))), some (vI (nI j)), some (vI ((-4)))]) dX11_docketGoes_81 rfl (nI_1 _) rfl ?_
        refine w_goto (tgt := 2) dX11_docketGoes_84 (by decide) ?_
        have q := ih (i + 1) (stepB ab a j) _ (x + 1) (some (vI (nI j))) (some (vI ((-4)))) hws (by rw [k1]; simp at hi; omega) hs1 (fun j' h => by rw [k1]; exact hall j' (List.mem_cons_of_mem _ h)) hu ((hfu 30 0 0 18 (by decide) (by omega)).trans hab) xup_self (hf.tr hfu)
        rw [idE_1] at q
        exact q
      | some c =>
        have hid : ¬ (ab.testBit j = true ∨ ffN a j = none) := fun q => q.elim hb (fun q => by rw [hff] at q; cases q)
        obtain ⟨-, hc8, hcan⟩ := ffF_some hff
        have hc9 : c < nC a := by omega
        obtain ⟨fc0, fc1, fc2, fc3, fc4, fc5, fc6, fc7, fc8⟩ := hw.2.2.2.2.2.2.1 c hc9
        rw [foldB_c, idF_0 hid]
        rw [show (byI (some c) : Int32) = nI c from rfl]
        refine w_istore_n (ls' := [some (vR 30 0 0), some (vI (nI i)), some (vI (nI j)), some (vI (nI c))]) dX11_docketGoes_39 rfl ?_
        refine w_iload_n dX11_docketGoes_40 rfl ?_
        refine w_bipush (v := (-4)) dX11_docketGoes_41 (by decide) ?_
        refine w_icmp_eq (tgt := 58) dX11_docketGoes_43 (by decide) (fun h => absurd h (nI_m4 c (by omega))) (fun _ => ?_)
        refine w_aload_n dX11_docketGoes_46 rfl ?_
        refine w_iload_n dX11_docketGoes_47 rfl ?_
        refine w_iload_n dX11_docketGoes_48 rfl ?_
        refine w_aload_n dX11_docketGoes_49 rfl ?_
        refine w_iload_n dX11_docketGoes_50 rfl ?_
        refine w_iconst (v := 1) dX11_docketGoes_51 (by decide) ?_
        refine w_callV (as := [vI (nI c), vI (1)]) (st := [vI (nI c), vI (nI j), vR 30 0 0]) (Tri.mono (d_ofCase hm hC hc9 (f := 1) (by decide) (by decide)) (Nat.le_of_ble_eq_true rfl)) rfl rfl tg_X11_ofCase lk_X11_145 in_X11_ofCase se_X11_ofCase rfl dX11_docketGoes_52 rfl (Nat.le_of_ble_eq_true rfl) (Nat.le_refl _) (Nat.le_refl _) ?_
        rintro _ _ ⟨rfl, rfl⟩ -
        refine w_callV (as := [vI (nI j), vI (nI c), vI (nI (sF a c 1))]) (st := []) (Tri.mono (d_sentences hm hw (c := c) (j := j) (n := sF a c 1) hc9 hj (by omega) hcan) (Nat.le_of_ble_eq_true rfl)) rfl rfl tg_X11_sentences lk_X11_174 in_X11_sentences se_X11_sentences rfl dX11_docketGoes_55 rfl (Nat.le_of_ble_eq_true rfl) (Nat.le_refl _) (Nat.le_refl _) ?_
        rintro v M9 ⟨rfl, I1, rfl, hm1, hf1⟩ -
        refine w_aload_n dX11_docketGoes_58 rfl ?_
        refine w_dup dX11_docketGoes_59 rfl ?_
        refine w_getI ff_X11_177 rfl rfl dX11_docketGoes_60 ?_
        rw [show (I1 30 0 0 19 : Int32) = x from (hf1 30 0 0 19 (by decide)).trans hx]
        refine w_iload_n dX11_docketGoes_63 rfl ?_
        refine w_bipush (v := (-4)) dX11_docketGoes_64 (by decide) ?_
        refine w_icmp_ne (tgt := 73) dX11_docketGoes_66 (by decide) (fun _ => ?_) (fun h => absurd h (nI_m4 c (by omega)))
        refine w_iconst (v := 0) dX11_docketGoes_73 (by decide) ?_
        refine w_callS (as := [vI (0)]) (st := [vI (x), vR 30 0 0]) (Tri.mono (d_flag0) (Nat.le_of_ble_eq_true rfl)) tg_X11_flag lk_X11_161 sa_X11_flag rfl dX11_docketGoes_74 rfl (Nat.le_of_ble_eq_true rfl) (Nat.le_refl _) (Nat.le_refl _) ?_
        rintro _ _ ⟨rfl, rfl⟩ -
        refine w_iadd dX11_docketGoes_77 ?_
        refine w_putI ff_X11_177 rfl rfl rfl rfl dX11_docketGoes_78 ?_
        have hu : MI (xup I1 30 0 0 19 ((x) + (0))) (stepB ab a j) := (by rw [stepB_s hb hff]; exact hm1.at30 (by decide) (by decide) _)
        have hfu : FrG I (xup I1 30 0 0 19 ((x) + (0))) := (hf1).g.tr FrG.up
        have hs1 : ∀ (n j' : Nat), suf[n]? = some j' → (xup I1 30 0 0 19 ((x) + (0))) 36 0 0 (i + 1 + n) = nI j' := fun n j' h => (hfu 36 0 0 _ (by decide) (by omega)).trans (by rw [show i + 1 + n = i + (n + 1) by omega]; exact hs (n + 1) j' h)
        refine w_iinc (v := nI (i + 1)) (ls' := [some (vR 30 0 0), some (vI (nI (i + 1))), some (vI (nI j)), some (vI (nI c))]) dX11_docketGoes_81 rfl (nI_1 _) rfl ?_
        refine w_goto (tgt := 2) dX11_docketGoes_84 (by decide) ?_
        have q := ih (i + 1) (stepB ab a j) _ (x + 0) (some (vI (nI j))) (some (vI (nI c))) hws (by rw [k1]; simp at hi; omega) hs1 (fun j' h => by rw [k1]; exact hall j' (List.mem_cons_of_mem _ h)) hu ((hfu 30 0 0 18 (by decide) (by omega)).trans hab) xup_self (hf.tr hfu)
        rw [idE_0] at q
        exact q

theorem d_docketGoes {I : xF4 Int32} {L : xF4 Int64} {a : aA} (hm : MI I a) (hw : WF a) {ss : List Nat} {ab : Nat} {x : Int32} (hab9 : ab < 32) (hl : ss.length = nJ a) (hs : SitsIs I ss) (hall : ∀ j ∈ ss, j < nJ a) (hab : I 30 0 0 18 = nI ab) (hx : I 30 0 0 19 = x) : Tri 4 109 m_X11_docketGoes [vR 30 0 0] (rM I L) (pG (dayN (foldB ab ss a)) (x + nI (idF ab ss a)) I L) := by
  refine ⟨k_X11_docketGoes, Nat.le_of_ble_eq_true rfl, ?_⟩
  show Wp _ _ _ 0 [some (vR 30 0 0), none, none, none] [] (rM I L) _
  refine w_iconst (v := 0) dX11_docketGoes_0 (by decide) ?_
  refine w_istore_n (ls' := [some (vR 30 0 0), some (vI (0)), none, none]) dX11_docketGoes_1 rfl ?_
  exact l_docketGoes hab9 ss 0 a I x _ _ hw (by rw [hl, Nat.zero_add]) (fun n j h => by rw [Nat.zero_add]; exact hs n j h) hall hm hab hx FrG.rf
