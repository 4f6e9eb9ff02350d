/-! what a court answers, and how it changes (by wip/whole/gen/g17.py) -/
abbrev pC (k : Nat) (a' : aA) (I : xF4 Int32) (L : xF4 Int64) : Option xV → xM → Prop := fun v M => v = none ∧ ∃ I', M = rM I' L ∧ CourtIs I' k a' ∧ FrC k I I'
theorem byI_eq {o : Option Nat} {j : Nat} (hj : j < 4) (ho : ∀ b, o = some b → b < 4) : byI o = nI j ↔ o = some j := by
  cases o with
  | none =>
    refine ⟨fun h => ?_, fun h => by cases h⟩
    exfalso
    have : ∀ j, j < 4 → ¬ byI none = nI j := by decide +kernel
    exact this j hj h
  | some b =>
    have hb := ho b rfl
    refine ⟨fun h => ?_, fun h => by cases h; rfl⟩
    have : b = j := (nI_eq (by omega) (by omega)).mp h
    rw [this]
def cwN (a : aA) (w : Nat) : Nat → Nat
  | 0 => cR a
  | c + 1 => if w.testBit c then min 99 (cwN a w c + sF a c 4 / 5) else cwN a w c
theorem cwN_le {a : aA} (h : cR a ≤ 99) (w : Nat) : ∀ c, cwN a w c ≤ 99
  | 0 => h
  | c + 1 => by
    have := cwN_le h w c
    rw [cwN]
    split <;> omega
theorem tbit0 : ∀ w, w < 32 → ∀ c, c < 5 → (nI w >>> (nI c &&& 31)) &&& 1 = bI (w.testBit c = true) := by decide +kernel
theorem waitN_mk (a : aA) (nj nc ng dy cr : Nat) (J : Nat → Nat → Nat) (sc : Nat → Int32) (b : Nat → Option Nat) (G : Nat → Nat → Nat) (d : Nat) : ∀ c, waitN (mkA nj nc ng dy cr J sc (SF a) b G) d c = waitN a d c
  | 0 => rfl
  | c + 1 => by
    rw [waitN, waitN, waitN_mk a nj nc ng dy cr J sc b G d c]
    rfl
theorem waitN_le (a : aA) (d : Nat) : ∀ c, waitN a d c ≤ c
  | 0 => Nat.le_refl _
  | c + 1 => by
    have := waitN_le a d c
    rw [waitN]
    split <;> omega

theorem l_awayBits {I : xF4 Int32} {L : xF4 Int64} {k : Nat} {a : aA} (hc : CourtIs I k a) (hw : WF a)  : ∀ (m c : Nat) (o3 : Option xV), c + m = nJ a → Wp 2 109 m_X1_awayBits 4 [some (vR 1 k 0), some (vI (nI (bitN (fun j => decide (dY a < jF a j 3)) c))), some (vI (nI c)), o3] [] (rM I L) (pI (nI (awayN a)) I L) := by
  intro m
  induction m with
  | zero =>
    intro c o3 hq9
    have e : c = nJ a := by omega
    subst e
    obtain ⟨ft0, ft1, ft2, ft3, ft4, -⟩ := id hw
    refine w_iload_n dX1_awayBits_4 rfl ?_
    refine w_aload_n dX1_awayBits_5 rfl ?_
    refine w_getI ff_X1_35 rfl rfl dX1_awayBits_6 ?_
    rw [show (I 1 k 0 3 : Int32) = nI (nJ a) from hc.1]
    refine w_icmp_ge (tgt := 45) dX1_awayBits_9 (by decide) (fun _ => ?_) (fun h => absurd (nI_le (Nat.le_refl _) (by omega)) h)
    refine w_iload_n dX1_awayBits_45 rfl ?_
    exact w_ireturn dX1_awayBits_46 rfl (rfl) rfl (⟨rfl, rfl⟩)
  | succ m ih =>
    intro c o3 hq9
    have hcc : c < nJ a := by omega
    obtain ⟨ft0, ft1, ft2, ft3, ft4, -⟩ := id hw
    obtain ⟨fj0, fj1, fj2, fj3⟩ := hw.2.2.2.2.2.1 c hcc
    refine w_iload_n dX1_awayBits_4 rfl ?_
    refine w_aload_n dX1_awayBits_5 rfl ?_
    refine w_getI ff_X1_35 rfl rfl dX1_awayBits_6 ?_
    rw [show (I 1 k 0 3 : Int32) = nI (nJ a) from hc.1]
    refine w_icmp_ge (tgt := 45) dX1_awayBits_9 (by decide) (fun h => absurd h (nI_ge hcc (by omega))) (fun _ => ?_)
    refine w_aload_n dX1_awayBits_12 rfl ?_
    refine w_iload_n dX1_awayBits_13 rfl ?_
    refine w_callV (as := [vI (nI c)]) (st := []) (Tri.mono (c_jAt hc hw hcc) (Nat.le_of_ble_eq_true rfl)) rfl rfl tg_X1_judgeAt lk_X1_51 in_X1_judgeAt se_X1_judgeAt rfl dX1_awayBits_14 rfl (Nat.le_of_ble_eq_true rfl) (Nat.le_refl _) (Nat.le_refl _) ?_
    rintro _ _ ⟨rfl, rfl⟩ -
    refine w_astore_n (ls' := [some (vR 1 k 0), some (vI (nI (bitN (fun j => decide (dY a < jF a j 3)) c))), some (vI (nI c)), some (vR 3 k c)]) dX1_awayBits_17 rfl ?_
    refine w_aload_n dX1_awayBits_18 rfl ?_
    refine w_ifnull (tgt := 39) dX1_awayBits_19 (by decide) (fun h => by cases h) (fun _ _ => ?_)
    refine w_aload_n dX1_awayBits_22 rfl ?_
    refine w_getI ff_X1_99 rfl rfl dX1_awayBits_23 ?_
    rw [show (I 3 k c 3 : Int32) = nI (jF a c 3) from hc.j hcc (by decide)]
    refine w_aload_n dX1_awayBits_26 rfl ?_
    refine w_getI ff_X1_45 rfl rfl dX1_awayBits_27 ?_
    rw [show (I 1 k 0 6 : Int32) = nI (dY a) from hc.2.2.2.1]
    refine w_icmp_le (tgt := 39) dX1_awayBits_30 (by decide) (fun h1 => ?_) (fun h1 => ?_)
    · skip
      replace h1 : (jF a c 3) ≤ (dY a) := (nI_leI (a := jF a c 3) (b := dY a) (by omega) (by omega)).mp h1
      rw [show (nI (bitN (fun j => decide (dY a < jF a j 3)) c) : Int32) = nI (bitN (fun j => decide (dY a < jF a j 3)) (c + 1)) from bit_no (p := (fun j => decide (dY a < jF a j 3))) (fun q => absurd (of_decide_eq_true q) (by omega))]
      refine w_iinc (v := nI (c + 1)) (ls' := [some (vR 1 k 0), some (vI (nI (bitN (fun j => decide (dY a < jF a j 3)) (c + 1)))), some (vI (nI (c + 1))), some (vR 3 k c)]) dX1_awayBits_39 rfl (nI_1 _) rfl ?_
      refine w_goto (tgt := 4) dX1_awayBits_42 (by decide) ?_
      exact ih (c + 1) _ (by omega)
    · skip
      replace h1 : ¬ ((jF a c 3) ≤ (dY a)) := fun q => h1 ((nI_leI (a := jF a c 3) (b := dY a) (by omega) (by omega)).mpr q)
      refine w_iload_n dX1_awayBits_33 rfl ?_
      refine w_iconst (v := 1) dX1_awayBits_34 (by decide) ?_
      refine w_iload_n dX1_awayBits_35 rfl ?_
      refine w_ishl dX1_awayBits_36 ?_
      refine w_ior dX1_awayBits_37 ?_
      refine w_istore_n (ls' := [some (vR 1 k 0), some (vI ((nI (bitN (fun j => decide (dY a < jF a j 3)) c)) ||| ((1) <<< ((nI c) &&& 31)))), some (vI (nI c)), some (vR 3 k c)]) dX1_awayBits_38 rfl ?_
      rw [show ((nI (bitN (fun j => decide (dY a < jF a j 3)) c)) ||| ((1) <<< ((nI c) &&& 31)) : Int32) = nI (bitN (fun j => decide (dY a < jF a j 3)) (c + 1)) from bit_or (by omega) (decide_eq_true (show dY a < jF a c 3 by omega))]
      refine w_iinc (v := nI (c + 1)) (ls' := [some (vR 1 k 0), some (vI (nI (bitN (fun j => decide (dY a < jF a j 3)) (c + 1)))), some (vI (nI (c + 1))), some (vR 3 k c)]) dX1_awayBits_39 rfl (nI_1 _) rfl ?_
      refine w_goto (tgt := 4) dX1_awayBits_42 (by decide) ?_
      exact ih (c + 1) _ (by omega)

theorem c_awayBits {I : xF4 Int32} {L : xF4 Int64} {k : Nat} {a : aA} (hc : CourtIs I k a) (hw : WF a)  : Tri 2 109 m_X1_awayBits [vR 1 k 0] (rM I L) (pI (nI (awayN a)) I L) := by
  refine ⟨k_X1_awayBits, Nat.le_of_ble_eq_true rfl, ?_⟩
  show Wp _ _ _ 0 [some (vR 1 k 0), none, none, none] [] (rM I L) _
  refine w_iconst (v := 0) dX1_awayBits_0 (by decide) ?_
  refine w_istore_n (ls' := [some (vR 1 k 0), some (vI (0)), none, none]) dX1_awayBits_1 rfl ?_
  refine w_iconst (v := 0) dX1_awayBits_2 (by decide) ?_
  refine w_istore_n (ls' := [some (vR 1 k 0), some (vI (0)), some (vI (0)), none]) dX1_awayBits_3 rfl ?_
  exact l_awayBits hc hw (nJ a) 0 _ (Nat.zero_add _)

def byN (a : aA) (j : Nat) : Nat := bitN (fun c => decide (bY a c = some j)) (nC a)

theorem l_bitsBy {I : xF4 Int32} {L : xF4 Int64} {k : Nat} {a : aA} (hc : CourtIs I k a) (hw : WF a) {j : Nat} (hj : j < nJ a) : ∀ (m c : Nat) (o3 : Option xV), c + m = nC a → Wp 2 109 m_X1_bitsBy 4 [some (vR 1 k 0), some (vI (nI j)), some (vI (nI (bitN (fun c => decide (bY a c = some j)) c))), some (vI (nI c)), o3] [] (rM I L) (pI (nI (byN a j)) I L) := by
  intro m
  induction m with
  | zero =>
    intro c o3 hq9
    have e : c = nC a := by omega
    subst e
    obtain ⟨ft0, ft1, ft2, ft3, ft4, -⟩ := id hw
    refine w_iload_n dX1_bitsBy_4 rfl ?_
    refine w_aload_n dX1_bitsBy_5 rfl ?_
    refine w_getI ff_X1_39 rfl rfl dX1_bitsBy_6 ?_
    rw [show (I 1 k 0 4 : Int32) = nI (nC a) from hc.2.1]
    refine w_icmp_ge (tgt := 45) dX1_bitsBy_9 (by decide) (fun _ => ?_) (fun h => absurd (nI_le (Nat.le_refl _) (by omega)) h)
    refine w_iload_n dX1_bitsBy_45 rfl ?_
    exact w_ireturn dX1_bitsBy_46 rfl (rfl) rfl (⟨rfl, rfl⟩)
  | succ m ih =>
    intro c o3 hq9
    have hcc : c < nC a := by omega
    obtain ⟨ft0, ft1, ft2, ft3, ft4, -⟩ := id hw
    obtain ⟨fc0, fc1, fc2, fc3, fc4, fc5, fc6, fc7, fc8⟩ := hw.2.2.2.2.2.2.1 c hcc
    have hbj := byI_eq (o := bY a c) (j := j) (by omega) (fun b hb => Nat.lt_of_lt_of_le (fc8 b hb) ft0)
    refine w_iload_n dX1_bitsBy_4 rfl ?_
    refine w_aload_n dX1_bitsBy_5 rfl ?_
    refine w_getI ff_X1_39 rfl rfl dX1_bitsBy_6 ?_
    rw [show (I 1 k 0 4 : Int32) = nI (nC a) from hc.2.1]
    refine w_icmp_ge (tgt := 45) dX1_bitsBy_9 (by decide) (fun h => absurd h (nI_ge hcc (by omega))) (fun _ => ?_)
    refine w_aload_n dX1_bitsBy_12 rfl ?_
    refine w_iload_n dX1_bitsBy_13 rfl ?_
    refine w_callV (as := [vI (nI c)]) (st := []) (Tri.mono (c_sAt hc hw hcc) (Nat.le_of_ble_eq_true rfl)) rfl rfl tg_X1_suitAt lk_X1_59 in_X1_suitAt se_X1_suitAt rfl dX1_bitsBy_14 rfl (Nat.le_of_ble_eq_true rfl) (Nat.le_refl _) (Nat.le_refl _) ?_
    rintro _ _ ⟨rfl, rfl⟩ -
    refine w_astore (ls' := [some (vR 1 k 0), some (vI (nI j)), some (vI (nI (bitN (fun c => decide (bY a c = some j)) c))), some (vI (nI c)), some (vR 5 k c)]) dX1_bitsBy_17 rfl ?_
    refine w_aload dX1_bitsBy_19 rfl ?_
    refine w_ifnull (tgt := 39) dX1_bitsBy_21 (by decide) (fun h => by cases h) (fun _ _ => ?_)
    refine w_aload dX1_bitsBy_24 rfl ?_
    refine w_getI ff_X1_136 rfl rfl dX1_bitsBy_26 ?_
    rw [show (I 5 k c 5 : Int32) = byI (bY a c) from hc.b hcc]
    refine w_iload_n dX1_bitsBy_29 rfl ?_
    refine w_icmp_ne (tgt := 39) dX1_bitsBy_30 (by decide) (fun h1 => ?_) (fun h1 => ?_)
    · skip
      rw [show (nI (bitN (fun c => decide (bY a c = some j)) c) : Int32) = nI (bitN (fun c => decide (bY a c = some j)) (c + 1)) from bit_no (p := (fun c => decide (bY a c = some j))) (fun q => h1 (hbj.mpr (of_decide_eq_true q)))]
      refine w_iinc (v := nI (c + 1)) (ls' := [some (vR 1 k 0), some (vI (nI j)), some (vI (nI (bitN (fun c => decide (bY a c = some j)) (c + 1)))), some (vI (nI (c + 1))), some (vR 5 k c)]) dX1_bitsBy_39 rfl (nI_1 _) rfl ?_
      refine w_goto (tgt := 4) dX1_bitsBy_42 (by decide) ?_
      exact ih (c + 1) _ (by omega)
    · skip
      refine w_iload_n dX1_bitsBy_33 rfl ?_
      refine w_iconst (v := 1) dX1_bitsBy_34 (by decide) ?_
      refine w_iload_n dX1_bitsBy_35 rfl ?_
      refine w_ishl dX1_bitsBy_36 ?_
      refine w_ior dX1_bitsBy_37 ?_
      refine w_istore_n (ls' := [some (vR 1 k 0), some (vI (nI j)), some (vI ((nI (bitN (fun c => decide (bY a c = some j)) c)) ||| ((1) <<< ((nI c) &&& 31)))), some (vI (nI c)), some (vR 5 k c)]) dX1_bitsBy_38 rfl ?_
      rw [show ((nI (bitN (fun c => decide (bY a c = some j)) c)) ||| ((1) <<< ((nI c) &&& 31)) : Int32) = nI (bitN (fun c => decide (bY a c = some j)) (c + 1)) from bit_or (by omega) (decide_eq_true (hbj.mp h1))]
      refine w_iinc (v := nI (c + 1)) (ls' := [some (vR 1 k 0), some (vI (nI j)), some (vI (nI (bitN (fun c => decide (bY a c = some j)) (c + 1)))), some (vI (nI (c + 1))), some (vR 5 k c)]) dX1_bitsBy_39 rfl (nI_1 _) rfl ?_
      refine w_goto (tgt := 4) dX1_bitsBy_42 (by decide) ?_
      exact ih (c + 1) _ (by omega)

theorem c_bitsBy {I : xF4 Int32} {L : xF4 Int64} {k : Nat} {a : aA} (hc : CourtIs I k a) (hw : WF a) {j : Nat} (hj : j < nJ a) : Tri 2 109 m_X1_bitsBy [vR 1 k 0, vI (nI j)] (rM I L) (pI (nI (byN a j)) I L) := by
  refine ⟨k_X1_bitsBy, Nat.le_of_ble_eq_true rfl, ?_⟩
  show Wp _ _ _ 0 [some (vR 1 k 0), some (vI (nI j)), none, none, none] [] (rM I L) _
  refine w_iconst (v := 0) dX1_bitsBy_0 (by decide) ?_
  refine w_istore_n (ls' := [some (vR 1 k 0), some (vI (nI j)), some (vI (0)), none, none]) dX1_bitsBy_1 rfl ?_
  refine w_iconst (v := 0) dX1_bitsBy_2 (by decide) ?_
  refine w_istore_n (ls' := [some (vR 1 k 0), some (vI (nI j)), some (vI (0)), some (vI (0)), none]) dX1_bitsBy_3 rfl ?_
  exact l_bitsBy hc hw hj (nC a) 0 _ (Nat.zero_add _)

theorem l_allSentences {I : xF4 Int32} {L : xF4 Int64} {k : Nat} {a : aA} (hc : CourtIs I k a) (hw : WF a)  : ∀ (m c : Nat) (o3 : Option xV), c + m = nC a → Wp 1 109 m_X1_allSentences 4 [some (vR 1 k 0), some (vI (nI (sumN (fun c => sF a c 4) c))), some (vI (nI c)), o3] [] (rM I L) (pI (nI (sumN (fun c => sF a c 4) (nC a))) I L) := by
  intro m
  induction m with
  | zero =>
    intro c o3 hq9
    have e : c = nC a := by omega
    subst e
    obtain ⟨ft0, ft1, ft2, ft3, ft4, -⟩ := id hw
    refine w_iload_n dX1_allSentences_4 rfl ?_
    refine w_aload_n dX1_allSentences_5 rfl ?_
    refine w_getI ff_X1_39 rfl rfl dX1_allSentences_6 ?_
    rw [show (I 1 k 0 4 : Int32) = nI (nC a) from hc.2.1]
    refine w_icmp_ge (tgt := 39) dX1_allSentences_9 (by decide) (fun _ => ?_) (fun h => absurd (nI_le (Nat.le_refl _) (by omega)) h)
    refine w_iload_n dX1_allSentences_39 rfl ?_
    exact w_ireturn dX1_allSentences_40 rfl (rfl) rfl (⟨rfl, rfl⟩)
  | succ m ih =>
    intro c o3 hq9
    have hcc : c < nC a := by omega
    obtain ⟨ft0, ft1, ft2, ft3, ft4, -⟩ := id hw
    refine w_iload_n dX1_allSentences_4 rfl ?_
    refine w_aload_n dX1_allSentences_5 rfl ?_
    refine w_getI ff_X1_39 rfl rfl dX1_allSentences_6 ?_
    rw [show (I 1 k 0 4 : Int32) = nI (nC a) from hc.2.1]
    refine w_icmp_ge (tgt := 39) dX1_allSentences_9 (by decide) (fun h => absurd h (nI_ge hcc (by omega))) (fun _ => ?_)
    refine w_aload_n dX1_allSentences_12 rfl ?_
    refine w_iload_n dX1_allSentences_13 rfl ?_
    refine w_callV (as := [vI (nI c)]) (st := []) (Tri.mono (c_sAt hc hw hcc) (Nat.le_of_ble_eq_true rfl)) rfl rfl tg_X1_suitAt lk_X1_59 in_X1_suitAt se_X1_suitAt rfl dX1_allSentences_14 rfl (Nat.le_of_ble_eq_true rfl) (Nat.le_refl _) (Nat.le_refl _) ?_
    rintro _ _ ⟨rfl, rfl⟩ -
    refine w_astore_n (ls' := [some (vR 1 k 0), some (vI (nI (sumN (fun c => sF a c 4) c))), some (vI (nI c)), some (vR 5 k c)]) dX1_allSentences_17 rfl ?_
    refine w_iload_n dX1_allSentences_18 rfl ?_
    refine w_aload_n dX1_allSentences_19 rfl ?_
    refine w_ifnonnull (tgt := 27) dX1_allSentences_20 (by decide) (fun _ _ => ?_) (fun h => by cases h)
    refine w_aload_n dX1_allSentences_27 rfl ?_
    refine w_getI ff_X1_145 rfl rfl dX1_allSentences_28 ?_
    rw [show (I 5 k c 4 : Int32) = nI (sF a c 4) from hc.s hcc (by decide) (by decide)]
    refine w_iadd dX1_allSentences_31 ?_
    refine w_istore_n (ls' := [some (vR 1 k 0), some (vI ((nI (sumN (fun c => sF a c 4) c)) + (nI (sF a c 4)))), some (vI (nI c)), some (vR 5 k c)]) dX1_allSentences_32 rfl ?_
    rw [show ((nI (sumN (fun c => sF a c 4) c)) + (nI (sF a c 4)) : Int32) = nI (sumN (fun c => sF a c 4) (c + 1)) from nI_add _ _]
    refine w_iinc (v := nI (c + 1)) (ls' := [some (vR 1 k 0), some (vI (nI (sumN (fun c => sF a c 4) (c + 1)))), some (vI (nI (c + 1))), some (vR 5 k c)]) dX1_allSentences_33 rfl (nI_1 _) rfl ?_
    refine w_goto (tgt := 4) dX1_allSentences_36 (by decide) ?_
    exact ih (c + 1) _ (by omega)

theorem c_allSentences {I : xF4 Int32} {L : xF4 Int64} {k : Nat} {a : aA} (hc : CourtIs I k a) (hw : WF a)  : Tri 1 109 m_X1_allSentences [vR 1 k 0] (rM I L) (pI (nI (sumN (fun c => sF a c 4) (nC a))) I L) := by
  refine ⟨k_X1_allSentences, Nat.le_of_ble_eq_true rfl, ?_⟩
  show Wp _ _ _ 0 [some (vR 1 k 0), none, none, none] [] (rM I L) _
  refine w_iconst (v := 0) dX1_allSentences_0 (by decide) ?_
  refine w_istore_n (ls' := [some (vR 1 k 0), some (vI (0)), none, none]) dX1_allSentences_1 rfl ?_
  refine w_iconst (v := 0) dX1_allSentences_2 (by decide) ?_
  refine w_istore_n (ls' := [some (vR 1 k 0), some (vI (0)), some (vI (0)), none]) dX1_allSentences_3 rfl ?_
  exact l_allSentences hc hw (nC a) 0 _ (Nat.zero_add _)

theorem l_allPurses {I : xF4 Int32} {L : xF4 Int64} {k : Nat} {a : aA} (hc : CourtIs I k a) (hw : WF a)  : ∀ (m c : Nat) (o3 : Option xV), c + m = nJ a → Wp 1 109 m_X1_allPurses 4 [some (vR 1 k 0), some (vI (nI (sumN (fun j => jF a j 2) c))), some (vI (nI c)), o3] [] (rM I L) (pI (nI (sumN (fun j => jF a j 2) (nJ a))) I L) := by
  intro m
  induction m with
  | zero =>
    intro c o3 hq9
    have e : c = nJ a := by omega
    subst e
    obtain ⟨ft0, ft1, ft2, ft3, ft4, -⟩ := id hw
    refine w_iload_n dX1_allPurses_4 rfl ?_
    refine w_aload_n dX1_allPurses_5 rfl ?_
    refine w_getI ff_X1_35 rfl rfl dX1_allPurses_6 ?_
    rw [show (I 1 k 0 3 : Int32) = nI (nJ a) from hc.1]
    refine w_icmp_ge (tgt := 39) dX1_allPurses_9 (by decide) (fun _ => ?_) (fun h => absurd (nI_le (Nat.le_refl _) (by omega)) h)
    refine w_iload_n dX1_allPurses_39 rfl ?_
    exact w_ireturn dX1_allPurses_40 rfl (rfl) rfl (⟨rfl, rfl⟩)
  | succ m ih =>
    intro c o3 hq9
    have hcc : c < nJ a := by omega
    obtain ⟨ft0, ft1, ft2, ft3, ft4, -⟩ := id hw
    refine w_iload_n dX1_allPurses_4 rfl ?_
    refine w_aload_n dX1_allPurses_5 rfl ?_
    refine w_getI ff_X1_35 rfl rfl dX1_allPurses_6 ?_
    rw [show (I 1 k 0 3 : Int32) = nI (nJ a) from hc.1]
    refine w_icmp_ge (tgt := 39) dX1_allPurses_9 (by decide) (fun h => absurd h (nI_ge hcc (by omega))) (fun _ => ?_)
    refine w_aload_n dX1_allPurses_12 rfl ?_
    refine w_iload_n dX1_allPurses_13 rfl ?_
    refine w_callV (as := [vI (nI c)]) (st := []) (Tri.mono (c_jAt hc hw hcc) (Nat.le_of_ble_eq_true rfl)) rfl rfl tg_X1_judgeAt lk_X1_51 in_X1_judgeAt se_X1_judgeAt rfl dX1_allPurses_14 rfl (Nat.le_of_ble_eq_true rfl) (Nat.le_refl _) (Nat.le_refl _) ?_
    rintro _ _ ⟨rfl, rfl⟩ -
    refine w_astore_n (ls' := [some (vR 1 k 0), some (vI (nI (sumN (fun j => jF a j 2) c))), some (vI (nI c)), some (vR 3 k c)]) dX1_allPurses_17 rfl ?_
    refine w_iload_n dX1_allPurses_18 rfl ?_
    refine w_aload_n dX1_allPurses_19 rfl ?_
    refine w_ifnonnull (tgt := 27) dX1_allPurses_20 (by decide) (fun _ _ => ?_) (fun h => by cases h)
    refine w_aload_n dX1_allPurses_27 rfl ?_
    refine w_getI ff_X1_168 rfl rfl dX1_allPurses_28 ?_
    rw [show (I 3 k c 2 : Int32) = nI (jF a c 2) from hc.j hcc (by decide)]
    refine w_iadd dX1_allPurses_31 ?_
    refine w_istore_n (ls' := [some (vR 1 k 0), some (vI ((nI (sumN (fun j => jF a j 2) c)) + (nI (jF a c 2)))), some (vI (nI c)), some (vR 3 k c)]) dX1_allPurses_32 rfl ?_
    rw [show ((nI (sumN (fun j => jF a j 2) c)) + (nI (jF a c 2)) : Int32) = nI (sumN (fun j => jF a j 2) (c + 1)) from nI_add _ _]
    refine w_iinc (v := nI (c + 1)) (ls' := [some (vR 1 k 0), some (vI (nI (sumN (fun j => jF a j 2) (c + 1)))), some (vI (nI (c + 1))), some (vR 3 k c)]) dX1_allPurses_33 rfl (nI_1 _) rfl ?_
    refine w_goto (tgt := 4) dX1_allPurses_36 (by decide) ?_
    exact ih (c + 1) _ (by omega)

theorem c_allPurses {I : xF4 Int32} {L : xF4 Int64} {k : Nat} {a : aA} (hc : CourtIs I k a) (hw : WF a)  : Tri 1 109 m_X1_allPurses [vR 1 k 0] (rM I L) (pI (nI (sumN (fun j => jF a j 2) (nJ a))) I L) := by
  refine ⟨k_X1_allPurses, Nat.le_of_ble_eq_true rfl, ?_⟩
  show Wp _ _ _ 0 [some (vR 1 k 0), none, none, none] [] (rM I L) _
  refine w_iconst (v := 0) dX1_allPurses_0 (by decide) ?_
  refine w_istore_n (ls' := [some (vR 1 k 0), some (vI (0)), none, none]) dX1_allPurses_1 rfl ?_
  refine w_iconst (v := 0) dX1_allPurses_2 (by decide) ?_
  refine w_istore_n (ls' := [some (vR 1 k 0), some (vI (0)), some (vI (0)), none]) dX1_allPurses_3 rfl ?_
  exact l_allPurses hc hw (nJ a) 0 _ (Nat.zero_add _)

theorem l_allHealth {I : xF4 Int32} {L : xF4 Int64} {k : Nat} {a : aA} (hc : CourtIs I k a) (hw : WF a)  : ∀ (m c : Nat) (o3 : Option xV), c + m = nJ a → Wp 1 109 m_X1_allHealth 4 [some (vR 1 k 0), some (vI (nI (sumN (fun j => jF a j 1) c))), some (vI (nI c)), o3] [] (rM I L) (pI (nI (sumN (fun j => jF a j 1) (nJ a))) I L) := by
  intro m
  induction m with
  | zero =>
    intro c o3 hq9
    have e : c = nJ a := by omega
    subst e
    obtain ⟨ft0, ft1, ft2, ft3, ft4, -⟩ := id hw
    refine w_iload_n dX1_allHealth_4 rfl ?_
    refine w_aload_n dX1_allHealth_5 rfl ?_
    refine w_getI ff_X1_35 rfl rfl dX1_allHealth_6 ?_
    rw [show (I 1 k 0 3 : Int32) = nI (nJ a) from hc.1]
    refine w_icmp_ge (tgt := 39) dX1_allHealth_9 (by decide) (fun _ => ?_) (fun h => absurd (nI_le (Nat.le_refl _) (by omega)) h)
    refine w_iload_n dX1_allHealth_39 rfl ?_
    exact w_ireturn dX1_allHealth_40 rfl (rfl) rfl (⟨rfl, rfl⟩)
  | succ m ih =>
    intro c o3 hq9
    have hcc : c < nJ a := by omega
    obtain ⟨ft0, ft1, ft2, ft3, ft4, -⟩ := id hw
    refine w_iload_n dX1_allHealth_4 rfl ?_
    refine w_aload_n dX1_allHealth_5 rfl ?_
    refine w_getI ff_X1_35 rfl rfl dX1_allHealth_6 ?_
    rw [show (I 1 k 0 3 : Int32) = nI (nJ a) from hc.1]
    refine w_icmp_ge (tgt := 39) dX1_allHealth_9 (by decide) (fun h => absurd h (nI_ge hcc (by omega))) (fun _ => ?_)
    refine w_aload_n dX1_allHealth_12 rfl ?_
    refine w_iload_n dX1_allHealth_13 rfl ?_
    refine w_callV (as := [vI (nI c)]) (st := []) (Tri.mono (c_jAt hc hw hcc) (Nat.le_of_ble_eq_true rfl)) rfl rfl tg_X1_judgeAt lk_X1_51 in_X1_judgeAt se_X1_judgeAt rfl dX1_allHealth_14 rfl (Nat.le_of_ble_eq_true rfl) (Nat.le_refl _) (Nat.le_refl _) ?_
    rintro _ _ ⟨rfl, rfl⟩ -
    refine w_astore_n (ls' := [some (vR 1 k 0), some (vI (nI (sumN (fun j => jF a j 1) c))), some (vI (nI c)), some (vR 3 k c)]) dX1_allHealth_17 rfl ?_
    refine w_iload_n dX1_allHealth_18 rfl ?_
    refine w_aload_n dX1_allHealth_19 rfl ?_
    refine w_ifnonnull (tgt := 27) dX1_allHealth_20 (by decide) (fun _ _ => ?_) (fun h => by cases h)
    refine w_aload_n dX1_allHealth_27 rfl ?_
    refine w_getI ff_X1_171 rfl rfl dX1_allHealth_28 ?_
    rw [show (I 3 k c 1 : Int32) = nI (jF a c 1) from hc.j hcc (by decide)]
    refine w_iadd dX1_allHealth_31 ?_
    refine w_istore_n (ls' := [some (vR 1 k 0), some (vI ((nI (sumN (fun j => jF a j 1) c)) + (nI (jF a c 1)))), some (vI (nI c)), some (vR 3 k c)]) dX1_allHealth_32 rfl ?_
    rw [show ((nI (sumN (fun j => jF a j 1) c)) + (nI (jF a c 1)) : Int32) = nI (sumN (fun j => jF a j 1) (c + 1)) from nI_add _ _]
    refine w_iinc (v := nI (c + 1)) (ls' := [some (vR 1 k 0), some (vI (nI (sumN (fun j => jF a j 1) (c + 1)))), some (vI (nI (c + 1))), some (vR 3 k c)]) dX1_allHealth_33 rfl (nI_1 _) rfl ?_
    refine w_goto (tgt := 4) dX1_allHealth_36 (by decide) ?_
    exact ih (c + 1) _ (by omega)

theorem c_allHealth {I : xF4 Int32} {L : xF4 Int64} {k : Nat} {a : aA} (hc : CourtIs I k a) (hw : WF a)  : Tri 1 109 m_X1_allHealth [vR 1 k 0] (rM I L) (pI (nI (sumN (fun j => jF a j 1) (nJ a))) I L) := by
  refine ⟨k_X1_allHealth, Nat.le_of_ble_eq_true rfl, ?_⟩
  show Wp _ _ _ 0 [some (vR 1 k 0), none, none, none] [] (rM I L) _
  refine w_iconst (v := 0) dX1_allHealth_0 (by decide) ?_
  refine w_istore_n (ls' := [some (vR 1 k 0), some (vI (0)), none, none]) dX1_allHealth_1 rfl ?_
  refine w_iconst (v := 0) dX1_allHealth_2 (by decide) ?_
  refine w_istore_n (ls' := [some (vR 1 k 0), some (vI (0)), some (vI (0)), none]) dX1_allHealth_3 rfl ?_
  exact l_allHealth hc hw (nJ a) 0 _ (Nat.zero_add _)

theorem l_allScars {I : xF4 Int32} {L : xF4 Int64} {k : Nat} {a : aA} (hc : CourtIs I k a) (hw : WF a)  : ∀ (m c : Nat) (o3 : Option xV), c + m = nJ a → Wp 1 109 m_X1_allScars 4 [some (vR 1 k 0), some (vI (sumI (fun j => sC a j) c)), some (vI (nI c)), o3] [] (rM I L) (pI (sumI (fun j => sC a j) (nJ a)) I L) := by
  intro m
  induction m with
  | zero =>
    intro c o3 hq9
    have e : c = nJ a := by omega
    subst e
    obtain ⟨ft0, ft1, ft2, ft3, ft4, -⟩ := id hw
    refine w_iload_n dX1_allScars_4 rfl ?_
    refine w_aload_n dX1_allScars_5 rfl ?_
    refine w_getI ff_X1_35 rfl rfl dX1_allScars_6 ?_
    rw [show (I 1 k 0 3 : Int32) = nI (nJ a) from hc.1]
    refine w_icmp_ge (tgt := 39) dX1_allScars_9 (by decide) (fun _ => ?_) (fun h => absurd (nI_le (Nat.le_refl _) (by omega)) h)
    refine w_iload_n dX1_allScars_39 rfl ?_
    exact w_ireturn dX1_allScars_40 rfl (rfl) rfl (⟨rfl, rfl⟩)
  | succ m ih =>
    intro c o3 hq9
    have hcc : c < nJ a := by omega
    obtain ⟨ft0, ft1, ft2, ft3, ft4, -⟩ := id hw
    refine w_iload_n dX1_allScars_4 rfl ?_
    refine w_aload_n dX1_allScars_5 rfl ?_
    refine w_getI ff_X1_35 rfl rfl dX1_allScars_6 ?_
    rw [show (I 1 k 0 3 : Int32) = nI (nJ a) from hc.1]
    refine w_icmp_ge (tgt := 39) dX1_allScars_9 (by decide) (fun h => absurd h (nI_ge hcc (by omega))) (fun _ => ?_)
    refine w_aload_n dX1_allScars_12 rfl ?_
    refine w_iload_n dX1_allScars_13 rfl ?_
    refine w_callV (as := [vI (nI c)]) (st := []) (Tri.mono (c_jAt hc hw hcc) (Nat.le_of_ble_eq_true rfl)) rfl rfl tg_X1_judgeAt lk_X1_51 in_X1_judgeAt se_X1_judgeAt rfl dX1_allScars_14 rfl (Nat.le_of_ble_eq_true rfl) (Nat.le_refl _) (Nat.le_refl _) ?_
    rintro _ _ ⟨rfl, rfl⟩ -
    refine w_astore_n (ls' := [some (vR 1 k 0), some (vI (sumI (fun j => sC a j) c)), some (vI (nI c)), some (vR 3 k c)]) dX1_allScars_17 rfl ?_
    refine w_iload_n dX1_allScars_18 rfl ?_
    refine w_aload_n dX1_allScars_19 rfl ?_
    refine w_ifnonnull (tgt := 27) dX1_allScars_20 (by decide) (fun _ _ => ?_) (fun h => by cases h)
    refine w_aload_n dX1_allScars_27 rfl ?_
    refine w_getI ff_X1_174 rfl rfl dX1_allScars_28 ?_
    rw [show (I 3 k c 4 : Int32) = sC a c from hc.sc hcc]
    refine w_iadd dX1_allScars_31 ?_
    refine w_istore_n (ls' := [some (vR 1 k 0), some (vI ((sumI (fun j => sC a j) c) + (sC a c))), some (vI (nI c)), some (vR 3 k c)]) dX1_allScars_32 rfl ?_
    rw [show ((sumI (fun j => sC a j) c) + (sC a c) : Int32) = sumI (fun j => sC a j) (c + 1) from rfl]
    refine w_iinc (v := nI (c + 1)) (ls' := [some (vR 1 k 0), some (vI (sumI (fun j => sC a j) (c + 1))), some (vI (nI (c + 1))), some (vR 3 k c)]) dX1_allScars_33 rfl (nI_1 _) rfl ?_
    refine w_goto (tgt := 4) dX1_allScars_36 (by decide) ?_
    exact ih (c + 1) _ (by omega)

theorem c_allScars {I : xF4 Int32} {L : xF4 Int64} {k : Nat} {a : aA} (hc : CourtIs I k a) (hw : WF a)  : Tri 1 109 m_X1_allScars [vR 1 k 0] (rM I L) (pI (sumI (fun j => sC a j) (nJ a)) I L) := by
  refine ⟨k_X1_allScars, Nat.le_of_ble_eq_true rfl, ?_⟩
  show Wp _ _ _ 0 [some (vR 1 k 0), none, none, none] [] (rM I L) _
  refine w_iconst (v := 0) dX1_allScars_0 (by decide) ?_
  refine w_istore_n (ls' := [some (vR 1 k 0), some (vI (0)), none, none]) dX1_allScars_1 rfl ?_
  refine w_iconst (v := 0) dX1_allScars_2 (by decide) ?_
  refine w_istore_n (ls' := [some (vR 1 k 0), some (vI (0)), some (vI (0)), none]) dX1_allScars_3 rfl ?_
  exact l_allScars hc hw (nJ a) 0 _ (Nat.zero_add _)

theorem l_crimeWithout {I : xF4 Int32} {L : xF4 Int64} {k : Nat} {a : aA} (hc : CourtIs I k a) (hw : WF a) {u : Nat} (hu : u < 32) : ∀ (m c : Nat) (o3 : Option xV), c + m = nC a → Wp 2 109 m_X1_crimeWithout 7 [some (vR 1 k 0), some (vI (nI u)), some (vI (nI (cwN a u c))), some (vI (nI c)), o3] [] (rM I L) (pI (nI (cwN a u (nC a))) I L) := by
  intro m
  induction m with
  | zero =>
    intro c o3 hq9
    have e : c = nC a := by omega
    subst e
    obtain ⟨ft0, ft1, ft2, ft3, ft4, -⟩ := id hw
    refine w_iload_n dX1_crimeWithout_7 rfl ?_
    refine w_aload_n dX1_crimeWithout_8 rfl ?_
    refine w_getI ff_X1_39 rfl rfl dX1_crimeWithout_9 ?_
    rw [show (I 1 k 0 4 : Int32) = nI (nC a) from hc.2.1]
    refine w_icmp_ge (tgt := 51) dX1_crimeWithout_12 (by decide) (fun _ => ?_) (fun h => absurd (nI_le (Nat.le_refl _) (by omega)) h)
    refine w_iload_n dX1_crimeWithout_51 rfl ?_
    exact w_ireturn dX1_crimeWithout_52 rfl (rfl) rfl (⟨rfl, rfl⟩)
  | succ m ih =>
    intro c o3 hq9
    have hcc : c < nC a := by omega
    obtain ⟨ft0, ft1, ft2, ft3, ft4, -⟩ := id hw
    obtain ⟨fc0, fc1, fc2, fc3, fc4, fc5, fc6, fc7, fc8⟩ := hw.2.2.2.2.2.2.1 c hcc
    have hcw := cwN_le (a := a) ft4 u c
    refine w_iload_n dX1_crimeWithout_7 rfl ?_
    refine w_aload_n dX1_crimeWithout_8 rfl ?_
    refine w_getI ff_X1_39 rfl rfl dX1_crimeWithout_9 ?_
    rw [show (I 1 k 0 4 : Int32) = nI (nC a) from hc.2.1]
    refine w_icmp_ge (tgt := 51) dX1_crimeWithout_12 (by decide) (fun h => absurd h (nI_ge hcc (by omega))) (fun _ => ?_)
    refine w_aload_n dX1_crimeWithout_15 rfl ?_
    refine w_iload_n dX1_crimeWithout_16 rfl ?_
    refine w_callV (as := [vI (nI c)]) (st := []) (Tri.mono (c_sAt hc hw hcc) (Nat.le_of_ble_eq_true rfl)) rfl rfl tg_X1_suitAt lk_X1_59 in_X1_suitAt se_X1_suitAt rfl dX1_crimeWithout_17 rfl (Nat.le_of_ble_eq_true rfl) (Nat.le_refl _) (Nat.le_refl _) ?_
    rintro _ _ ⟨rfl, rfl⟩ -
    refine w_astore (ls' := [some (vR 1 k 0), some (vI (nI u)), some (vI (nI (cwN a u c))), some (vI (nI c)), some (vR 5 k c)]) dX1_crimeWithout_20 rfl ?_
    refine w_aload dX1_crimeWithout_22 rfl ?_
    refine w_ifnull (tgt := 45) dX1_crimeWithout_24 (by decide) (fun h => by cases h) (fun _ _ => ?_)
    refine w_iload_n dX1_crimeWithout_27 rfl ?_
    refine w_iload_n dX1_crimeWithout_28 rfl ?_
    refine w_ishr dX1_crimeWithout_29 ?_
    refine w_iconst (v := 1) dX1_crimeWithout_30 (by decide) ?_
    refine w_iand dX1_crimeWithout_31 ?_
    rw [show (((nI u) >>> ((nI c) &&& 31)) &&& (1) : Int32) = bI (u.testBit c = true) from tbit0 u hu c (by omega)]
    refine w_ifeq_b (tgt := 45) dX1_crimeWithout_32 (by decide) (fun h1 => ?_) (fun h1 => ?_)
    · skip
      rw [show (nI (cwN a u c) : Int32) = nI (cwN a u (c + 1)) from by rw [cwN, if_neg h1]]
      refine w_iinc (v := nI (c + 1)) (ls' := [some (vR 1 k 0), some (vI (nI u)), some (vI (nI (cwN a u (c + 1)))), some (vI (nI (c + 1))), some (vR 5 k c)]) dX1_crimeWithout_45 rfl (nI_1 _) rfl ?_
      refine w_goto (tgt := 7) dX1_crimeWithout_48 (by decide) ?_
      exact ih (c + 1) _ (by omega)
    · skip
      refine w_iload_n dX1_crimeWithout_35 rfl ?_
      refine w_aload dX1_crimeWithout_36 rfl ?_
      refine w_getI ff_X1_145 rfl rfl dX1_crimeWithout_38 ?_
      rw [show (I 5 k c 4 : Int32) = nI (sF a c 4) from hc.s hcc (by decide) (by decide)]
      refine w_callSN (as := [vI (nI (cwN a u c)), vI (nI (sF a c 4))]) (st := []) (Tri.mono (c_X10_moreCrime (nI (cwN a u c)) (nI (sF a c 4))) (Nat.le_of_ble_eq_true rfl)) tg_X10_moreCrime ln_X1_147 sa_X10_moreCrime rfl dX1_crimeWithout_41 rfl (Nat.le_of_ble_eq_true rfl) (Nat.le_refl _) (Nat.le_refl _) ?_
      rintro _ _ ⟨rfl, rfl⟩ -
      rw [show (moreI (nI (cwN a u c)) (nI (sF a c 4)) : Int32) = nI (min 99 ((cwN a u c) + (sF a c 4) / 5)) from moreI_N (by omega) (by omega)]
      refine w_istore_n (ls' := [some (vR 1 k 0), some (vI (nI u)), some (vI (nI (min 99 ((cwN a u c) + (sF a c 4) / 5)))), some (vI (nI c)), some (vR 5 k c)]) dX1_crimeWithout_44 rfl ?_
      rw [show (nI (min 99 ((cwN a u c) + (sF a c 4) / 5)) : Int32) = nI (cwN a u (c + 1)) from by rw [cwN, if_pos h1]]
      refine w_iinc (v := nI (c + 1)) (ls' := [some (vR 1 k 0), some (vI (nI u)), some (vI (nI (cwN a u (c + 1)))), some (vI (nI (c + 1))), some (vR 5 k c)]) dX1_crimeWithout_45 rfl (nI_1 _) rfl ?_
      refine w_goto (tgt := 7) dX1_crimeWithout_48 (by decide) ?_
      exact ih (c + 1) _ (by omega)

theorem c_crimeWithout {I : xF4 Int32} {L : xF4 Int64} {k : Nat} {a : aA} (hc : CourtIs I k a) (hw : WF a) {u : Nat} (hu : u < 32) : Tri 2 109 m_X1_crimeWithout [vR 1 k 0, vI (nI u)] (rM I L) (pI (nI (cwN a u (nC a))) I L) := by
  refine ⟨k_X1_crimeWithout, Nat.le_of_ble_eq_true rfl, ?_⟩
  show Wp _ _ _ 0 [some (vR 1 k 0), some (vI (nI u)), none, none, none] [] (rM I L) _
  refine w_aload_n dX1_crimeWithout_0 rfl ?_
  refine w_getI ff_X1_48 rfl rfl dX1_crimeWithout_1 ?_
  rw [show (I 1 k 0 7 : Int32) = nI (cR a) from hc.2.2.2.2.1]
  refine w_istore_n (ls' := [some (vR 1 k 0), some (vI (nI u)), some (vI (nI (cR a))), none, none]) dX1_crimeWithout_4 rfl ?_
  refine w_iconst (v := 0) dX1_crimeWithout_5 (by decide) ?_
  refine w_istore_n (ls' := [some (vR 1 k 0), some (vI (nI u)), some (vI (nI (cR a))), some (vI (0)), none]) dX1_crimeWithout_6 rfl ?_
  exact l_crimeWithout hc hw hu (nC a) 0 _ (Nat.zero_add _)

abbrev beaN (a : aA) (c j n : Nat) : Prop := bearN (sF a c 0) (tenN (jF a j 0) n) (jF a j 2) (jF a j 1)
def anyN (a : aA) (c : Nat) : Nat → Bool
  | 0 => false
  | j + 1 => anyN a c j || decide (beaN a c j (sF a c 1))
theorem anyN_t {a : aA} {c j : Nat} (hb : beaN a c j (sF a c 1)) : ∀ n, j < n → anyN a c n = true
  | 0, h => absurd h (Nat.not_lt_zero _)
  | n + 1, h => by
    rw [anyN]
    by_cases e : j = n
    · subst e; simp [hb]
    · rw [anyN_t hb n (by omega)]; rfl

theorem l_anyBears {I : xF4 Int32} {L : xF4 Int64} {k : Nat} {a : aA} (hc : CourtIs I k a) (hw : WF a) {c0 : Nat} (hc0 : c0 < nC a) : ∀ (m c : Nat) (o3 : Option xV), c + m = nJ a → anyN a c0 c = false → Wp 2 109 m_X1_anyBears 2 [some (vR 1 k 0), some (vR 5 k c0), some (vI (nI c)), o3] [] (rM I L) (pI (bI (anyN a c0 (nJ a) = true)) I L) := by
  intro m
  induction m with
  | zero =>
    intro c o3 hq9 hF
    have e : c = nJ a := by omega
    subst e
    obtain ⟨ft0, ft1, ft2, ft3, ft4, -⟩ := id hw
    refine w_iload_n dX1_anyBears_2 rfl ?_
    refine w_aload_n dX1_anyBears_3 rfl ?_
    refine w_getI ff_X1_35 rfl rfl dX1_anyBears_4 ?_
    rw [show (I 1 k 0 3 : Int32) = nI (nJ a) from hc.1]
    refine w_icmp_ge (tgt := 50) dX1_anyBears_7 (by decide) (fun _ => ?_) (fun h => absurd (nI_le (Nat.le_refl _) (by omega)) h)
    refine w_iconst (v := 0) dX1_anyBears_50 (by decide) ?_
    exact w_ireturn dX1_anyBears_51 rfl (rfl) rfl (⟨by rw [bI_f (fun q => by rw [hF] at q; cases q)], rfl⟩)
  | succ m ih =>
    intro c o3 hq9 hF
    have hcc : c < nJ a := by omega
    obtain ⟨ft0, ft1, ft2, ft3, ft4, -⟩ := id hw
    obtain ⟨fj0, fj1, fj2, fj3⟩ := hw.2.2.2.2.2.1 c hcc
    obtain ⟨fc0, fc1, fc2, fc3, fc4, fc5, fc6, fc7, fc8⟩ := hw.2.2.2.2.2.2.1 c0 hc0
    have ft := tenN_le fj0 (show sF a c0 1 ≤ 60 by omega)
    refine w_iload_n dX1_anyBears_2 rfl ?_
    refine w_aload_n dX1_anyBears_3 rfl ?_
    refine w_getI ff_X1_35 rfl rfl dX1_anyBears_4 ?_
    rw [show (I 1 k 0 3 : Int32) = nI (nJ a) from hc.1]
    refine w_icmp_ge (tgt := 50) dX1_anyBears_7 (by decide) (fun h => absurd h (nI_ge hcc (by omega))) (fun _ => ?_)
    refine w_aload_n dX1_anyBears_10 rfl ?_
    refine w_iload_n dX1_anyBears_11 rfl ?_
    refine w_callV (as := [vI (nI c)]) (st := []) (Tri.mono (c_jAt hc hw hcc) (Nat.le_of_ble_eq_true rfl)) rfl rfl tg_X1_judgeAt lk_X1_51 in_X1_judgeAt se_X1_judgeAt rfl dX1_anyBears_12 rfl (Nat.le_of_ble_eq_true rfl) (Nat.le_refl _) (Nat.le_refl _) ?_
    rintro _ _ ⟨rfl, rfl⟩ -
    refine w_astore_n (ls' := [some (vR 1 k 0), some (vR 5 k c0), some (vI (nI c)), some (vR 3 k c)]) dX1_anyBears_15 rfl ?_
    refine w_aload_n dX1_anyBears_16 rfl ?_
    refine w_ifnull (tgt := 44) dX1_anyBears_17 (by decide) (fun h => by cases h) (fun _ _ => ?_)
    refine w_aload_n dX1_anyBears_20 rfl ?_
    refine w_aload_n dX1_anyBears_21 rfl ?_
    refine w_getI ff_X1_102 rfl rfl dX1_anyBears_22 ?_
    rw [show (I 5 k c0 0 : Int32) = nI (sF a c0 0) from hc.s hc0 (by decide) (by decide)]
    refine w_aload_n dX1_anyBears_25 rfl ?_
    refine w_getI ff_X1_105 rfl rfl dX1_anyBears_26 ?_
    rw [show (I 3 k c 0 : Int32) = nI (jF a c 0) from hc.j hcc (by decide)]
    refine w_aload_n dX1_anyBears_29 rfl ?_
    refine w_getI ff_X1_116 rfl rfl dX1_anyBears_30 ?_
    rw [show (I 5 k c0 1 : Int32) = nI (sF a c0 1) from hc.s hc0 (by decide) (by decide)]
    refine w_callSN (as := [vI (nI (jF a c 0)), vI (nI (sF a c0 1))]) (st := [vI (nI (sF a c0 0)), vR 3 k c]) (Tri.mono (c_X10_tenthBy (nI (jF a c 0)) (nI (sF a c0 1))) (Nat.le_of_ble_eq_true rfl)) tg_X10_tenthBy ln_X1_108 sa_X10_tenthBy rfl dX1_anyBears_33 rfl (Nat.le_of_ble_eq_true rfl) (Nat.le_refl _) (Nat.le_refl _) ?_
    rintro _ _ ⟨rfl, rfl⟩ -
    rw [show (tenI (nI (jF a c 0)) (nI (sF a c0 1)) : Int32) = nI (tenN (jF a c 0) (sF a c0 1)) from tenI_N (by omega) (by omega)]
    refine w_callV (as := [vI (nI (sF a c0 0)), vI (nI (tenN (jF a c 0) (sF a c0 1)))]) (st := []) (Tri.mono (c_X4_bears k c (nI (sF a c0 0)) (nI (tenN (jF a c 0) (sF a c0 1)))) (Nat.le_of_ble_eq_true rfl)) rfl rfl tg_X4_bears lk_X1_112 in_X4_bears se_X4_bears rfl dX1_anyBears_36 rfl (Nat.le_of_ble_eq_true rfl) (Nat.le_refl _) (Nat.le_refl _) ?_
    rintro _ _ ⟨rfl, rfl⟩ -
    rw [show (bI (bearP (nI (sF a c0 0)) (nI (tenN (jF a c 0) (sF a c0 1))) (I 3 k c 2) (I 3 k c 1)) : Int32) = bI (bearN (sF a c0 0) (tenN (jF a c 0) (sF a c0 1)) (jF a c 2) (jF a c 1)) from bearI hc hw hcc (by omega) (by omega)]
    refine w_ifeq_b (tgt := 44) dX1_anyBears_39 (by decide) (fun h1 => ?_) (fun h1 => ?_)
    · skip
      refine w_iinc (v := nI (c + 1)) (ls' := [some (vR 1 k 0), some (vR 5 k c0), some (vI (nI (c + 1))), some (vR 3 k c)]) dX1_anyBears_44 rfl (nI_1 _) rfl ?_
      refine w_goto (tgt := 2) dX1_anyBears_47 (by decide) ?_
      exact ih (c + 1) _ (by omega) (by rw [anyN, hF, Bool.false_or]; exact decide_eq_false h1)
    · skip
      refine w_iconst (v := 1) dX1_anyBears_42 (by decide) ?_
      exact w_ireturn dX1_anyBears_43 rfl (rfl) rfl (⟨by rw [bI_t (show anyN a c0 (nJ a) = true from anyN_t h1 _ hcc)], rfl⟩)

theorem c_anyBears {I : xF4 Int32} {L : xF4 Int64} {k : Nat} {a : aA} (hc : CourtIs I k a) (hw : WF a) {c0 : Nat} (hc0 : c0 < nC a) : Tri 2 109 m_X1_anyBears [vR 1 k 0, vR 5 k c0] (rM I L) (pI (bI (anyN a c0 (nJ a) = true)) I L) := by
  refine ⟨k_X1_anyBears, Nat.le_of_ble_eq_true rfl, ?_⟩
  show Wp _ _ _ 0 [some (vR 1 k 0), some (vR 5 k c0), none, none] [] (rM I L) _
  refine w_iconst (v := 0) dX1_anyBears_0 (by decide) ?_
  refine w_istore_n (ls' := [some (vR 1 k 0), some (vR 5 k c0), some (vI (0)), none]) dX1_anyBears_1 rfl ?_
  exact l_anyBears hc hw hc0 (nJ a) 0 _ (Nat.zero_add _) rfl

theorem l_nextDay {I : xF4 Int32} {L : xF4 Int64} {k : Nat} {a : aA} (hc : CourtIs I k a) (hw : WF a)  : ∀ (m c : Nat) (o3 : Option xV), c + m = nC a → Wp 2 109 m_X1_nextDay 14 [some (vR 1 k 0), some (vI (nI (waitN a (dY a) c))), some (vI (nI c)), o3] [] (rM I L) (pC k (crimN a (min 99 (cR a + waitN a (dY a) (nC a)))) I L) := by
  intro m
  induction m with
  | zero =>
    intro c o3 hq9
    have e : c = nC a := by omega
    subst e
    obtain ⟨ft0, ft1, ft2, ft3, ft4, -⟩ := id hw
    refine w_iload_n dX1_nextDay_14 rfl ?_
    refine w_aload_n dX1_nextDay_15 rfl ?_
    refine w_getI ff_X1_39 rfl rfl dX1_nextDay_16 ?_
    rw [show (I 1 k 0 4 : Int32) = nI (nC a) from hc.2.1]
    refine w_icmp_ge (tgt := 59) dX1_nextDay_19 (by decide) (fun _ => ?_) (fun h => absurd (nI_le (Nat.le_refl _) (by omega)) h)
    have hwt := waitN_le a (dY a) (nC a)
    refine w_aload_n dX1_nextDay_59 rfl ?_
    refine w_bipush (v := 99) dX1_nextDay_60 (by decide) ?_
    refine w_aload_n dX1_nextDay_62 rfl ?_
    refine w_getI ff_X1_48 rfl rfl dX1_nextDay_63 ?_
    rw [show (I 1 k 0 7 : Int32) = nI (cR a) from hc.2.2.2.2.1]
    refine w_iload_n dX1_nextDay_66 rfl ?_
    refine w_iadd dX1_nextDay_67 ?_
    refine w_min mm_X1_150 mm_min_sta mm_ini mm_min_code (by decide) (Nat.le_of_ble_eq_true rfl) dX1_nextDay_68 ?_
    rw [show (if ((nI (cR a)) + (nI (waitN a (dY a) (nC a)))) < (99) then ((nI (cR a)) + (nI (waitN a (dY a) (nC a)))) else (99) : Int32) = nI (min 99 (cR a + waitN a (dY a) (nC a))) from by rw [nI_add]; exact minI_N (x := 99) (by decide) (by omega)]
    refine w_putI ff_X1_48 rfl rfl rfl rfl dX1_nextDay_71 ?_
    exact w_return dX1_nextDay_74 rfl rfl (⟨rfl, _, rfl, hc.upCr _, FrC.up (by decide)⟩)
  | succ m ih =>
    intro c o3 hq9
    have hcc : c < nC a := by omega
    obtain ⟨ft0, ft1, ft2, ft3, ft4, -⟩ := id hw
    obtain ⟨fc0, fc1, fc2, fc3, fc4, fc5, fc6, fc7, fc8⟩ := hw.2.2.2.2.2.2.1 c hcc
    refine w_iload_n dX1_nextDay_14 rfl ?_
    refine w_aload_n dX1_nextDay_15 rfl ?_
    refine w_getI ff_X1_39 rfl rfl dX1_nextDay_16 ?_
    rw [show (I 1 k 0 4 : Int32) = nI (nC a) from hc.2.1]
    refine w_icmp_ge (tgt := 59) dX1_nextDay_19 (by decide) (fun h => absurd h (nI_ge hcc (by omega))) (fun _ => ?_)
    refine w_aload_n dX1_nextDay_22 rfl ?_
    refine w_iload_n dX1_nextDay_23 rfl ?_
    refine w_callV (as := [vI (nI c)]) (st := []) (Tri.mono (c_sAt hc hw hcc) (Nat.le_of_ble_eq_true rfl)) rfl rfl tg_X1_suitAt lk_X1_59 in_X1_suitAt se_X1_suitAt rfl dX1_nextDay_24 rfl (Nat.le_of_ble_eq_true rfl) (Nat.le_refl _) (Nat.le_refl _) ?_
    rintro _ _ ⟨rfl, rfl⟩ -
    refine w_astore_n (ls' := [some (vR 1 k 0), some (vI (nI (waitN a (dY a) c))), some (vI (nI c)), some (vR 5 k c)]) dX1_nextDay_27 rfl ?_
    refine w_aload_n dX1_nextDay_28 rfl ?_
    refine w_ifnull (tgt := 53) dX1_nextDay_29 (by decide) (fun h => by cases h) (fun _ _ => ?_)
    refine w_aload_n dX1_nextDay_32 rfl ?_
    refine w_callV (as := []) (st := []) (Tri.mono (c_X8_isHeard k c) (Nat.le_of_ble_eq_true rfl)) rfl rfl tg_X8_isHeard lk_X1_94 in_X8_isHeard se_X8_isHeard rfl dX1_nextDay_33 rfl (Nat.le_of_ble_eq_true rfl) (Nat.le_refl _) (Nat.le_refl _) ?_
    rintro _ _ ⟨rfl, rfl⟩ -
    rw [show (bI (0 < I 5 k c 4) : Int32) = bI (0 < sF a c 4) from isH hc hw hcc]
    refine w_ifne_b (tgt := 53) dX1_nextDay_36 (by decide) (fun h1 => ?_) (fun h1 => ?_)
    · skip
      rw [show (nI (waitN a (dY a) c) : Int32) = nI (waitN a (dY a) (c + 1)) from by rw [waitN, if_neg (show ¬ (sF a c 4 = 0 ∧ sF a c 3 ≤ dY a) by omega), Nat.add_zero]]
      refine w_iinc (v := nI (c + 1)) (ls' := [some (vR 1 k 0), some (vI (nI (waitN a (dY a) (c + 1)))), some (vI (nI (c + 1))), some (vR 5 k c)]) dX1_nextDay_53 rfl (nI_1 _) rfl ?_
      refine w_goto (tgt := 14) dX1_nextDay_56 (by decide) ?_
      exact ih (c + 1) _ (by omega)
    · skip
      refine w_aload_n dX1_nextDay_39 rfl ?_
      refine w_getI ff_X1_98 rfl rfl dX1_nextDay_40 ?_
      rw [show (I 5 k c 3 : Int32) = nI (sF a c 3) from hc.s hcc (by decide) (by decide)]
      refine w_aload_n dX1_nextDay_43 rfl ?_
      refine w_getI ff_X1_45 rfl rfl dX1_nextDay_44 ?_
      rw [show (I 1 k 0 6 : Int32) = nI (dY a) from hc.2.2.2.1]
      refine w_icmp_gt (tgt := 53) dX1_nextDay_47 (by decide) (fun h2 => ?_) (fun h2 => ?_)
      · skip
        replace h2 : (dY a) < (sF a c 3) := (nI_ltI (a := dY a) (b := sF a c 3) (by omega) (by omega)).mp h2
        rw [show (nI (waitN a (dY a) c) : Int32) = nI (waitN a (dY a) (c + 1)) from by rw [waitN, if_neg (show ¬ (sF a c 4 = 0 ∧ sF a c 3 ≤ dY a) by omega), Nat.add_zero]]
        refine w_iinc (v := nI (c + 1)) (ls' := [some (vR 1 k 0), some (vI (nI (waitN a (dY a) (c + 1)))), some (vI (nI (c + 1))), some (vR 5 k c)]) dX1_nextDay_53 rfl (nI_1 _) rfl ?_
        refine w_goto (tgt := 14) dX1_nextDay_56 (by decide) ?_
        exact ih (c + 1) _ (by omega)
      · skip
        replace h2 : ¬ ((dY a) < (sF a c 3)) := fun q => h2 ((nI_ltI (a := dY a) (b := sF a c 3) (by omega) (by omega)).mpr q)
        refine w_iinc (v := nI ((waitN a (dY a) c) + 1)) (ls' := [some (vR 1 k 0), some (vI (nI ((waitN a (dY a) c) + 1))), some (vI (nI c)), some (vR 5 k c)]) dX1_nextDay_50 rfl (nI_1 _) rfl ?_
        rw [show (nI ((waitN a (dY a) c) + 1) : Int32) = nI (waitN a (dY a) (c + 1)) from by rw [waitN, if_pos (show sF a c 4 = 0 ∧ sF a c 3 ≤ dY a by omega)]]
        refine w_iinc (v := nI (c + 1)) (ls' := [some (vR 1 k 0), some (vI (nI (waitN a (dY a) (c + 1)))), some (vI (nI (c + 1))), some (vR 5 k c)]) dX1_nextDay_53 rfl (nI_1 _) rfl ?_
        refine w_goto (tgt := 14) dX1_nextDay_56 (by decide) ?_
        exact ih (c + 1) _ (by omega)

theorem WF.day {a : aA} (hw : WF a) {d : Nat} (hd : d ≤ 2000) : WF (mkA (nJ a) (nC a) (nG a) d (cR a) (JF a) (SC a) (SF a) (BY a) (GF a)) := ⟨hw.1, hw.2.1, hw.2.2.1, hd, hw.2.2.2.2⟩

theorem c_nextDay {I : xF4 Int32} {L : xF4 Int64} {k : Nat} {a : aA} (hc : CourtIs I k a) (hw : WF a) (hd : dY a + 1 ≤ 2000) : Tri 2 109 m_X1_nextDay [vR 1 k 0] (rM I L) (pC k (dayN a) I L) := by
  refine ⟨k_X1_nextDay, Nat.le_of_ble_eq_true rfl, ?_⟩
  show Wp _ _ _ 0 [some (vR 1 k 0), none, none, none] [] (rM I L) _
  obtain ⟨ft0, ft1, ft2, ft3, ft4, -⟩ := id hw
  refine w_aload_n dX1_nextDay_0 rfl ?_
  refine w_dup dX1_nextDay_1 rfl ?_
  refine w_getI ff_X1_45 rfl rfl dX1_nextDay_2 ?_
  rw [show (I 1 k 0 6 : Int32) = nI (dY a) from hc.2.2.2.1]
  refine w_iconst (v := 1) dX1_nextDay_5 (by decide) ?_
  refine w_iadd dX1_nextDay_6 ?_
  rw [show ((nI (dY a)) + (1) : Int32) = nI (dY a + 1) from nI_1 _]
  refine w_putI ff_X1_45 rfl rfl rfl rfl dX1_nextDay_7 ?_
  refine w_iconst (v := 0) dX1_nextDay_10 (by decide) ?_
  refine w_istore_n (ls' := [some (vR 1 k 0), some (vI (0)), none, none]) dX1_nextDay_11 rfl ?_
  refine w_iconst (v := 0) dX1_nextDay_12 (by decide) ?_
  refine w_istore_n (ls' := [some (vR 1 k 0), some (vI (0)), some (vI (0)), none]) dX1_nextDay_13 rfl ?_
  have h9 := l_nextDay (L := L) (hc.upDy (dY a + 1)) (hw.day hd) (nC a) 0 none (Nat.zero_add _)
  refine Wp.post h9 ?_
  rintro v M - ⟨rfl, I2, rfl, g1, g2⟩
  refine ⟨rfl, I2, rfl, ?_, (FrC.up (by decide)).tr g2⟩
  rw [waitN_mk] at g1
  exact g1

abbrev pS (p : Prop) (k : Nat) (a' : aA) (I : xF4 Int32) (L : xF4 Int64) : Option xV → xM → Prop := fun v M => (p ∧ v = some (vI 1) ∧ ∃ I', M = rM I' L ∧ CourtIs I' k a' ∧ FrC k I I') ∨ (¬ p ∧ v = some (vI 0) ∧ M = rM I L)
theorem sent_is {I : xF4 Int32} {k : Nat} {a : aA} (hc : CourtIs I k a) (hw : WF a) {c j n : Nat} (hcc : c < nC a) (hj : j < nJ a) (hn : n ≤ 60) (hcan : canN a c j n) : CourtIs (xup (scloI (servI I k j (nI (sF a c 0)) (nI (tenN (jF a j 0) n)) (nI (dY a))) k c (nI n) (nI j) (nI (tenN (jF a j 0) n))) 1 k 0 7 (nI (cR a - n / 5))) k (sentN a c j n) :=
  (sclo_is (serv_is hc hj (hw.2.2.2.2.2.2.1 c hcc).1 hcan.2.2.2) c n (some j) _).upCr _

theorem serv_fr1 {I : xF4 Int32} {k : Nat} {a : aA} (hc : CourtIs I k a) (j c : Nat) (s t n b : Int32) {d t2 : Int32} : scloI (servI I k j s t d) k c n b t2 1 k 0 7 = nI (cR a) := by
  rw [← hc.2.2.2.2.1]
  unfold scloI
  rw [xup_tag (by decide), xup_tag (by decide), xup_tag (by decide)]
  unfold servI
  split
  · exact xup_tag (by decide)
  · split
    · exact xup_tag (by decide)
    · split
      · rw [xup_tag (by decide), xup_tag (by decide)]
      · rw [xup_tag (by decide), xup_tag (by decide)]

theorem c_sentence {I : xF4 Int32} {L : xF4 Int64} {k : Nat} {a : aA} (hc : CourtIs I k a) (hw : WF a) {c j n : Nat} (hcc : c < nC a) (hj : j < nJ a) (hn : n ≤ 60) : Tri 3 109 m_X1_sentence [vR 1 k 0, vI (nI c), vI (nI j), vI (nI n)] (rM I L) (pS (canN a c j n) k (sentN a c j n) I L) := by
  refine ⟨k_X1_sentence, Nat.le_of_ble_eq_true rfl, ?_⟩
  show Wp _ _ _ 0 [some (vR 1 k 0), some (vI (nI c)), some (vI (nI j)), some (vI (nI n)), none, none, none] [] (rM I L) _
  obtain ⟨ft0, ft1, ft2, ft3, ft4, -⟩ := id hw
  obtain ⟨fc0, fc1, fc2, fc3, fc4, fc5, fc6, fc7, fc8⟩ := hw.2.2.2.2.2.2.1 c hcc
  obtain ⟨fj0, fj1, fj2, fj3⟩ := hw.2.2.2.2.2.1 j hj
  have ft := tenN_le fj0 hn
  refine w_aload_n dX1_sentence_0 rfl ?_
  refine w_iload_n dX1_sentence_1 rfl ?_
  refine w_callV (as := [vI (nI c)]) (st := []) (Tri.mono (c_sAt hc hw hcc) (Nat.le_of_ble_eq_true rfl)) rfl rfl tg_X1_suitAt lk_X1_59 in_X1_suitAt se_X1_suitAt rfl dX1_sentence_2 rfl (Nat.le_of_ble_eq_true rfl) (Nat.le_refl _) (Nat.le_refl _) ?_
  rintro _ _ ⟨rfl, rfl⟩ -
  refine w_astore (ls' := [some (vR 1 k 0), some (vI (nI c)), some (vI (nI j)), some (vI (nI n)), some (vR 5 k c), none, none]) dX1_sentence_5 rfl ?_
  refine w_aload_n dX1_sentence_7 rfl ?_
  refine w_iload_n dX1_sentence_8 rfl ?_
  refine w_callV (as := [vI (nI j)]) (st := []) (Tri.mono (c_jAt hc hw hj) (Nat.le_of_ble_eq_true rfl)) rfl rfl tg_X1_judgeAt lk_X1_51 in_X1_judgeAt se_X1_judgeAt rfl dX1_sentence_9 rfl (Nat.le_of_ble_eq_true rfl) (Nat.le_refl _) (Nat.le_refl _) ?_
  rintro _ _ ⟨rfl, rfl⟩ -
  refine w_astore (ls' := [some (vR 1 k 0), some (vI (nI c)), some (vI (nI j)), some (vI (nI n)), some (vR 5 k c), some (vR 3 k j), none]) dX1_sentence_12 rfl ?_
  refine w_aload dX1_sentence_14 rfl ?_
  refine w_ifnull (tgt := 36) dX1_sentence_16 (by decide) (fun h => by cases h) (fun _ _ => ?_)
  refine w_aload dX1_sentence_19 rfl ?_
  refine w_ifnull (tgt := 36) dX1_sentence_21 (by decide) (fun h => by cases h) (fun _ _ => ?_)
  refine w_aload_n dX1_sentence_24 rfl ?_
  refine w_aload dX1_sentence_25 rfl ?_
  refine w_aload dX1_sentence_27 rfl ?_
  refine w_iload_n dX1_sentence_29 rfl ?_
  refine w_callV (as := [vR 5 k c, vR 3 k j, vI (nI n)]) (st := []) (Tri.mono (c_canHear hc hw (n := n) hcc hj hn) (Nat.le_of_ble_eq_true rfl)) rfl rfl tg_X1_canHear lk_X1_119 in_X1_canHear se_X1_canHear rfl dX1_sentence_30 rfl (Nat.le_of_ble_eq_true rfl) (Nat.le_refl _) (Nat.le_refl _) ?_
  rintro _ _ ⟨rfl, rfl⟩ -
  refine w_ifne_b (tgt := 38) dX1_sentence_33 (by decide) (fun h1 => ?_) (fun h1 => ?_)
  · skip
    refine w_aload dX1_sentence_38 rfl ?_
    refine w_getI ff_X1_105 rfl rfl dX1_sentence_40 ?_
    rw [show (I 3 k j 0 : Int32) = nI (jF a j 0) from hc.j hj (by decide)]
    refine w_iload_n dX1_sentence_43 rfl ?_
    refine w_callSN (as := [vI (nI (jF a j 0)), vI (nI n)]) (st := []) (Tri.mono (c_X10_tenthBy (nI (jF a j 0)) (nI n)) (Nat.le_of_ble_eq_true rfl)) tg_X10_tenthBy ln_X1_108 sa_X10_tenthBy rfl dX1_sentence_44 rfl (Nat.le_of_ble_eq_true rfl) (Nat.le_refl _) (Nat.le_refl _) ?_
    rintro _ _ ⟨rfl, rfl⟩ -
    rw [show (tenI (nI (jF a j 0)) (nI n) : Int32) = nI (tenN (jF a j 0) (n)) from tenI_N (by omega) (by omega)]
    refine w_istore (ls' := [some (vR 1 k 0), some (vI (nI c)), some (vI (nI j)), some (vI (nI n)), some (vR 5 k c), some (vR 3 k j), some (vI (nI (tenN (jF a j 0) (n))))]) dX1_sentence_47 rfl ?_
    refine w_aload dX1_sentence_49 rfl ?_
    refine w_aload dX1_sentence_51 rfl ?_
    refine w_getI ff_X1_102 rfl rfl dX1_sentence_53 ?_
    rw [show (I 5 k c 0 : Int32) = nI (sF a c 0) from hc.s hcc (by decide) (by decide)]
    refine w_iload dX1_sentence_56 rfl ?_
    refine w_aload_n dX1_sentence_58 rfl ?_
    refine w_getI ff_X1_45 rfl rfl dX1_sentence_59 ?_
    rw [show (I 1 k 0 6 : Int32) = nI (dY a) from hc.2.2.2.1]
    refine w_callV (as := [vI (nI (sF a c 0)), vI (nI (tenN (jF a j 0) (n))), vI (nI (dY a))]) (st := []) (Tri.mono (c_X4_serve k j (nI (sF a c 0)) (nI (tenN (jF a j 0) (n))) (nI (dY a))) (Nat.le_of_ble_eq_true rfl)) rfl rfl tg_X4_serve lk_X1_123 in_X4_serve se_X4_serve rfl dX1_sentence_62 rfl (Nat.le_of_ble_eq_true rfl) (Nat.le_refl _) (Nat.le_refl _) ?_
    rintro _ _ ⟨rfl, rfl⟩ -
    refine w_aload dX1_sentence_65 rfl ?_
    refine w_iload_n dX1_sentence_67 rfl ?_
    refine w_iload_n dX1_sentence_68 rfl ?_
    refine w_iload dX1_sentence_69 rfl ?_
    refine w_callV (as := [vI (nI n), vI (nI j), vI (nI (tenN (jF a j 0) (n)))]) (st := []) (Tri.mono (c_X8_close k c (nI n) (nI j) (nI (tenN (jF a j 0) (n)))) (Nat.le_of_ble_eq_true rfl)) rfl rfl tg_X8_close lk_X1_126 in_X8_close se_X8_close rfl dX1_sentence_71 rfl (Nat.le_of_ble_eq_true rfl) (Nat.le_refl _) (Nat.le_refl _) ?_
    rintro _ _ ⟨rfl, rfl⟩ -
    refine w_aload_n dX1_sentence_74 rfl ?_
    refine w_aload_n dX1_sentence_75 rfl ?_
    refine w_getI ff_X1_48 rfl rfl dX1_sentence_76 ?_
    rw [show ((scloI (servI I k j (nI (sF a c 0)) (nI (tenN (jF a j 0) (n))) (nI (dY a))) k c (nI n) (nI j) (nI (tenN (jF a j 0) (n)))) 1 k 0 7 : Int32) = nI (cR a) from (serv_fr1 hc _ _ _ _ _ _)]
    refine w_iload_n dX1_sentence_79 rfl ?_
    refine w_callSN (as := [vI (nI (cR a)), vI (nI n)]) (st := [vR 1 k 0]) (Tri.mono (c_X10_lessCrime (nI (cR a)) (nI n)) (Nat.le_of_ble_eq_true rfl)) tg_X10_lessCrime ln_X1_129 sa_X10_lessCrime rfl dX1_sentence_80 rfl (Nat.le_of_ble_eq_true rfl) (Nat.le_refl _) (Nat.le_refl _) ?_
    rintro _ _ ⟨rfl, rfl⟩ -
    rw [show (lessI (nI (cR a)) (nI n) : Int32) = nI ((cR a) - (n) / 5) from lessI_N (by omega) (by omega)]
    refine w_putI ff_X1_48 rfl rfl rfl rfl dX1_sentence_83 ?_
    refine w_iconst (v := 1) dX1_sentence_86 (by decide) ?_
    exact w_ireturn dX1_sentence_87 rfl (rfl) rfl (Or.inl ⟨h1, rfl, _, rfl, sent_is hc hw hcc hj hn h1, ((serv_fr _ _ _ _).tr (sclo_fr _ _ _ _)).tr (FrC.up (by decide))⟩)
  · skip
    refine w_iconst (v := 0) dX1_sentence_36 (by decide) ?_
    exact w_ireturn dX1_sentence_37 rfl (rfl) rfl (Or.inr ⟨h1, rfl, rfl⟩)

theorem c_sentenceToLeast {I : xF4 Int32} {L : xF4 Int64} {k : Nat} {a : aA} (hc : CourtIs I k a) (hw : WF a) {c j : Nat} (hcc : c < nC a) (hj : j < nJ a) : Tri 4 109 m_X1_sentenceToLeast [vR 1 k 0, vI (nI c), vI (nI j)] (rM I L) (pS (canN a c j (sF a c 1)) k (sentN a c j (sF a c 1)) I L) := by
  refine ⟨k_X1_sentenceToLeast, Nat.le_of_ble_eq_true rfl, ?_⟩
  show Wp _ _ _ 0 [some (vR 1 k 0), some (vI (nI c)), some (vI (nI j)), none] [] (rM I L) _
  obtain ⟨ft0, ft1, ft2, ft3, ft4, -⟩ := id hw
  obtain ⟨fc0, fc1, fc2, fc3, fc4, fc5, fc6, fc7, fc8⟩ := hw.2.2.2.2.2.2.1 c hcc
  refine w_aload_n dX1_sentenceToLeast_0 rfl ?_
  refine w_iload_n dX1_sentenceToLeast_1 rfl ?_
  refine w_callV (as := [vI (nI c)]) (st := []) (Tri.mono (c_sAt hc hw hcc) (Nat.le_of_ble_eq_true rfl)) rfl rfl tg_X1_suitAt lk_X1_59 in_X1_suitAt se_X1_suitAt rfl dX1_sentenceToLeast_2 rfl (Nat.le_of_ble_eq_true rfl) (Nat.le_refl _) (Nat.le_refl _) ?_
  rintro _ _ ⟨rfl, rfl⟩ -
  refine w_astore_n (ls' := [some (vR 1 k 0), some (vI (nI c)), some (vI (nI j)), some (vR 5 k c)]) dX1_sentenceToLeast_5 rfl ?_
  refine w_aload_n dX1_sentenceToLeast_6 rfl ?_
  refine w_ifnull (tgt := 27) dX1_sentenceToLeast_7 (by decide) (fun h => by cases h) (fun _ _ => ?_)
  refine w_aload_n dX1_sentenceToLeast_10 rfl ?_
  refine w_iload_n dX1_sentenceToLeast_11 rfl ?_
  refine w_iload_n dX1_sentenceToLeast_12 rfl ?_
  refine w_aload_n dX1_sentenceToLeast_13 rfl ?_
  refine w_getI ff_X1_116 rfl rfl dX1_sentenceToLeast_14 ?_
  rw [show (I 5 k c 1 : Int32) = nI (sF a c 1) from hc.s hcc (by decide) (by decide)]
  refine w_callV (as := [vI (nI c), vI (nI j), vI (nI (sF a c 1))]) (st := []) (Tri.mono (c_sentence hc hw hcc hj (n := sF a c 1) (by omega)) (Nat.le_of_ble_eq_true rfl)) rfl rfl tg_X1_sentence lk_X1_132 in_X1_sentence se_X1_sentence rfl dX1_sentenceToLeast_17 rfl (Nat.le_of_ble_eq_true rfl) (Nat.le_refl _) (Nat.le_refl _) ?_
  rintro v M9 (⟨hp, rfl, I1, rfl, g1, g2⟩ | ⟨hp, rfl, rfl⟩) -
  · skip
    refine w_if_eq (tgt := 27) dX1_sentenceToLeast_20 (by decide) (fun h => absurd h ((by decide : ¬ (1 : Int32) = 0))) (fun _ => ?_)
    refine w_iconst (v := 1) dX1_sentenceToLeast_23 (by decide) ?_
    refine w_goto (tgt := 28) dX1_sentenceToLeast_24 (by decide) ?_
    exact w_ireturn dX1_sentenceToLeast_28 rfl (rfl) rfl (Or.inl ⟨hp, rfl, I1, rfl, g1, g2⟩)
  · skip
    refine w_if_eq (tgt := 27) dX1_sentenceToLeast_20 (by decide) (fun _ => ?_) (fun h => absurd ((rfl : (0 : Int32) = 0)) h)
    refine w_iconst (v := 0) dX1_sentenceToLeast_27 (by decide) ?_
    exact w_ireturn dX1_sentenceToLeast_28 rfl (rfl) rfl (Or.inr ⟨hp, rfl, rfl⟩)

theorem regN_c (a : aA) (j s t : Nat) : nC (regN a j s t) = nC a := by unfold regN; repeat (first | rfl | split)
theorem regN_s (a : aA) (j s t c f : Nat) : sF (regN a j s t) c f = sF a c f := by unfold regN; repeat (first | rfl | split)
theorem regN_cr (a : aA) (j s t : Nat) : cR (regN a j s t) = cR a := by unfold regN; repeat (first | rfl | split)
theorem undo_is {I1 : xF4 Int32} {k : Nat} {a : aA} {c b : Nat} (hc1 : CourtIs I1 k (regN a b (sF a c 0) (sF a c 6))) (hb : bY a c = some b) : CourtIs (scloI (xup I1 1 k 0 7 (nI (min 99 (cR a + sF a c 4 / 5)))) k c 0 (-4) 0) k (undoN a c) := by
  have h := sclo_is (hc1.upCr (min 99 (cR a + sF a c 4 / 5))) c 0 none 0
  unfold undoN
  rw [hb]
  exact h

theorem c_undo {I : xF4 Int32} {L : xF4 Int64} {k : Nat} {a : aA} (hc : CourtIs I k a) (hw : WF a) {c b : Nat} (hcc : c < nC a) (hb : bY a c = some b) : Tri 3 109 m_X1_undo [vR 1 k 0, vR 5 k c] (rM I L) (pC k (undoN a c) I L) := by
  refine ⟨k_X1_undo, Nat.le_of_ble_eq_true rfl, ?_⟩
  show Wp _ _ _ 0 [some (vR 1 k 0), some (vR 5 k c), none] [] (rM I L) _
  obtain ⟨ft0, ft1, ft2, ft3, ft4, -⟩ := id hw
  obtain ⟨fc0, fc1, fc2, fc3, fc4, fc5, fc6, fc7, fc8⟩ := hw.2.2.2.2.2.2.1 c hcc
  have hj := fc8 b hb
  refine w_aload_n dX1_undo_0 rfl ?_
  refine w_aload_n dX1_undo_1 rfl ?_
  refine w_getI ff_X1_136 rfl rfl dX1_undo_2 ?_
  rw [show (I 5 k c 5 : Int32) = byI (bY a c) from hc.b hcc]
  rw [show (byI (bY a c) : Int32) = nI b from by rw [hb]; rfl]
  refine w_callV (as := [vI (nI b)]) (st := []) (Tri.mono (c_jAt hc hw hj) (Nat.le_of_ble_eq_true rfl)) rfl rfl tg_X1_judgeAt lk_X1_51 in_X1_judgeAt se_X1_judgeAt rfl dX1_undo_5 rfl (Nat.le_of_ble_eq_true rfl) (Nat.le_refl _) (Nat.le_refl _) ?_
  rintro _ _ ⟨rfl, rfl⟩ -
  refine w_astore_n (ls' := [some (vR 1 k 0), some (vR 5 k c), some (vR 3 k b)]) dX1_undo_8 rfl ?_
  refine w_aload_n dX1_undo_9 rfl ?_
  refine w_ifnull (tgt := 29) dX1_undo_10 (by decide) (fun h => by cases h) (fun _ _ => ?_)
  refine w_aload_n dX1_undo_13 rfl ?_
  refine w_aload_n dX1_undo_14 rfl ?_
  refine w_getI ff_X1_102 rfl rfl dX1_undo_15 ?_
  rw [show (I 5 k c 0 : Int32) = nI (sF a c 0) from hc.s hcc (by decide) (by decide)]
  refine w_aload_n dX1_undo_18 rfl ?_
  refine w_getI ff_X1_139 rfl rfl dX1_undo_19 ?_
  rw [show (I 5 k c 6 : Int32) = nI (sF a c 6) from hc.s hcc (by decide) (by decide)]
  refine w_aload_n dX1_undo_22 rfl ?_
  refine w_getI ff_X1_45 rfl rfl dX1_undo_23 ?_
  rw [show (I 1 k 0 6 : Int32) = nI (dY a) from hc.2.2.2.1]
  refine w_callV (as := [vI (nI (sF a c 0)), vI (nI (sF a c 6)), vI (nI (dY a))]) (st := []) (Tri.mono (c_X4_regain k b (nI (sF a c 0)) (nI (sF a c 6)) (nI (dY a))) (Nat.le_of_ble_eq_true rfl)) rfl rfl tg_X4_regain lk_X1_142 in_X4_regain se_X4_regain rfl dX1_undo_26 rfl (Nat.le_of_ble_eq_true rfl) (Nat.le_refl _) (Nat.le_refl _) ?_
  rintro _ _ ⟨rfl, rfl⟩ -
  have hc1 := reg_is hc hw hj fc0 fc6
  have hf1 := reg_fr (I := I) (k := k) b (nI (sF a c 0)) (nI (sF a c 6)) (nI (dY a))
  obtain ⟨I1, hI1⟩ : ∃ z, z = regI I k b (nI (sF a c 0)) (nI (sF a c 6)) (nI (dY a)) := ⟨_, rfl⟩
  rw [← hI1]
  rw [← hI1] at hc1 hf1
  refine w_aload_n dX1_undo_29 rfl ?_
  refine w_aload_n dX1_undo_30 rfl ?_
  refine w_getI ff_X1_48 rfl rfl dX1_undo_31 ?_
  rw [show (I1 1 k 0 7 : Int32) = nI (cR a) from by rw [hc1.2.2.2.2.1]; unfold regN; repeat (first | rfl | split)]
  refine w_aload_n dX1_undo_34 rfl ?_
  refine w_getI ff_X1_145 rfl rfl dX1_undo_35 ?_
  rw [show (I1 5 k c 4 : Int32) = nI (sF a c 4) from by rw [hc1.s (by rw [regN_c]; exact hcc) (by decide) (by decide), regN_s]]
  refine w_callSN (as := [vI (nI (cR a)), vI (nI (sF a c 4))]) (st := [vR 1 k 0]) (Tri.mono (c_X10_moreCrime (nI (cR a)) (nI (sF a c 4))) (Nat.le_of_ble_eq_true rfl)) tg_X10_moreCrime ln_X1_147 sa_X10_moreCrime rfl dX1_undo_38 rfl (Nat.le_of_ble_eq_true rfl) (Nat.le_refl _) (Nat.le_refl _) ?_
  rintro _ _ ⟨rfl, rfl⟩ -
  rw [show (moreI (nI (cR a)) (nI (sF a c 4)) : Int32) = nI (min 99 ((cR a) + (sF a c 4) / 5)) from moreI_N (by omega) (by omega)]
  refine w_putI ff_X1_48 rfl rfl rfl rfl dX1_undo_41 ?_
  refine w_aload_n dX1_undo_44 rfl ?_
  refine w_iconst (v := 0) dX1_undo_45 (by decide) ?_
  refine w_bipush (v := (-4)) dX1_undo_46 (by decide) ?_
  refine w_iconst (v := 0) dX1_undo_48 (by decide) ?_
  refine w_callV (as := [vI (0), vI ((-4)), vI (0)]) (st := []) (Tri.mono (c_X8_close k c (0) ((-4)) (0)) (Nat.le_of_ble_eq_true rfl)) rfl rfl tg_X8_close lk_X1_126 in_X8_close se_X8_close rfl dX1_undo_49 rfl (Nat.le_of_ble_eq_true rfl) (Nat.le_refl _) (Nat.le_refl _) ?_
  rintro _ _ ⟨rfl, rfl⟩ -
  exact w_return dX1_undo_52 rfl rfl (⟨rfl, _, rfl, undo_is hc1 hb, (hf1.tr (FrC.up (by decide))).tr (sclo_fr _ _ _ _)⟩)
