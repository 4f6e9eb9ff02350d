/-! who is heard in a docket, counted -/
theorem popN_sub0 : ∀ v, v < 32 → ∀ w, w < 32 → w &&& v = w → popN w ≤ popN v ∧ popN v - popN w = popN (newN v w) ∧ newN v w < 32 := by decide +kernel
theorem heard_bit (a : aA) (c : Nat) : (heardN a).testBit c = (decide (c < nC a) && decide (0 < sF a c 4)) := bitN_test _ _ _
/-- all that is heard in one is heard in the other -/
def HeardIn (a b : aA) : Prop := nC b = nC a ∧ ∀ c, 0 < sF a c 4 → 0 < sF b c 4
theorem HeardIn.rf (a : aA) : HeardIn a a := ⟨rfl, fun _ h => h⟩
theorem HeardIn.tr {a b c : aA} (h1 : HeardIn a b) (h2 : HeardIn b c) : HeardIn a c := ⟨h2.1.trans h1.1, fun x h => h2.2 x (h1.2 x h)⟩
theorem HeardIn.and {a b : aA} (h : HeardIn a b) : heardN a &&& heardN b = heardN a := by
  apply Nat.eq_of_testBit_eq
  intro c
  rw [Nat.testBit_and, heard_bit, heard_bit, h.1]
  by_cases h1 : c < nC a
  · by_cases h2 : 0 < sF a c 4
    · simp [h1, h2, h.2 c h2]
    · simp [h2]
  · simp [h1]
theorem sent_heard {a : aA} {c j n : Nat} (hn : 1 ≤ n) : HeardIn a (sentN a c j n) := by
  refine ⟨(sentN_k a c j n).2.1, fun x h => ?_⟩
  rw [sentN_s, up2_ns (by decide)]
  unfold up2
  split
  · exact hn
  · exact h
theorem hear_heard {a : aA} (hw : WF a) (j : Nat) : HeardIn a (hearN a j) := by
  unfold hearN hearO
  split
  next c hc =>
    obtain ⟨h1, h2, h3⟩ := ffF_some hc
    exact sent_heard (hw.2.2.2.2.2.2.1 c (by omega)).2.1
  · exact HeardIn.rf a
theorem day_heard (a : aA) : HeardIn a (dayN a) := ⟨rfl, fun _ h => h⟩
theorem fold_heard : ∀ (ss : List Nat) {a : aA}, WF a → (∀ j ∈ ss, j < nJ a) → HeardIn a (ss.foldl hearN a)
  | [], a, _, _ => HeardIn.rf a
  | j :: ss, a, hw, h => (hear_heard hw j).tr (fold_heard ss (hw.hear (h j List.mem_cons_self)) (fun j' hj' => by rw [(hearN_k a j).1]; exact h j' (List.mem_cons_of_mem _ hj')))
theorem it_heard {ss : List Nat} {a : aA} (hw : WF a) (hs : ∀ j ∈ ss, j < nJ a) : ∀ d, dY a + d ≤ 2000 → HeardIn a (itN ss a d)
  | 0, _ => HeardIn.rf a
  | d + 1, h => by
    have hwd := hw.it hs d (by omega)
    exact ((it_heard hw hs d (by omega)).tr (fold_heard ss hwd (fun j hj => by rw [(itN_k ss a d).1]; exact hs j hj))).tr (day_heard _)
theorem it_new {ss : List Nat} {a : aA} (hw : WF a) (hs : ∀ j ∈ ss, j < nJ a) {d : Nat} (hd : dY a + d ≤ 2000) : popN (heardN a) ≤ popN (heardN (itN ss a d)) ∧ popN (heardN (itN ss a d)) - popN (heardN a) = popN (newN (heardN (itN ss a d)) (heardN a)) ∧ newN (heardN (itN ss a d)) (heardN a) < 32 :=
  popN_sub0 _ (heardN_lt (hw.it hs d hd)) _ (heardN_lt hw) (it_heard hw hs d hd).and
theorem popN_heard {a : aA} (hw : WF a) : popN (heardN a) = cntN (fun c => decide (0 < sF a c 4)) (nC a) := popN_bit _ (by have := hw.2.1; omega)
theorem cntN_upd {p q : Nat → Bool} {c : Nat} (hp : p c = false) (hq : q c = true) (ho : ∀ i, i ≠ c → q i = p i) : ∀ n, cntN q n = cntN p n + if c < n then 1 else 0
  | 0 => by simp [cntN, sumN]
  | n + 1 => by
    have ih := cntN_upd hp hq ho n
    unfold cntN at *
    rw [sumN, sumN, ih]
    by_cases e : n = c
    · subst e
      rw [hp, hq]
      simp
    · rw [ho n e]
      by_cases h1 : c < n
      · rw [show (if c < n then (1 : Nat) else 0) = 1 from if_pos h1, show (if c < n + 1 then (1 : Nat) else 0) = 1 from if_pos (by omega)]; omega
      · rw [show (if c < n then (1 : Nat) else 0) = 0 from if_neg h1, show (if c < n + 1 then (1 : Nat) else 0) = 0 from if_neg (by omega)]; omega
/-- one hearing more -/
theorem hear_cnt {a : aA} (hw : WF a) {j : Nat} (hj : j < nJ a) : popN (heardN (hearN a j)) = popN (heardN a) + if ffN a j = none then 0 else 1 := by
  rw [popN_heard (hw.hear hj), popN_heard hw, (hearN_k a j).2.1]
  cases hff : ffN a j with
  | none =>
    rw [if_pos rfl, show hearN a j = a from by unfold hearN; rw [hff]; rfl]
    rfl
  | some c =>
    obtain ⟨h1, h2, h3⟩ := ffF_some hff
    rw [if_neg (fun q => by cases q), show hearN a j = sentN a c j (sF a c 1) from by unfold hearN; rw [hff]; rfl]
    have hc : c < nC a := by omega
    obtain ⟨b1, b2, b3, b4, b5, b6, b7, b8, b9⟩ := hw.2.2.2.2.2.2.1 c hc
    have e : ∀ x, sF (sentN a c j (sF a c 1)) x 4 = if x = c then sF a c 1 else sF a x 4 := fun x => by
      rw [sentN_s, up2_ns (by decide)]
      unfold up2
      by_cases e : x = c <;> simp [e, SF]
    have hz := h3.1
    rw [cntN_upd (c := c) (p := fun c => decide (0 < sF a c 4)) (by simp [hz]) (by simp only [e]; simp; omega) (fun i hi => by simp only [e]; rw [if_neg hi]) (nC a), if_pos hc]
theorem idF_cnt {ab : Nat} : ∀ (ss : List Nat) {a : aA}, WF a → (∀ j ∈ ss, j < nJ a) → idF ab ss a + popN (heardN (foldB ab ss a)) = ss.length + popN (heardN a)
  | [], a, _, _ => by simp [idF, foldB]
  | j :: ss, a, hw, h => by
    have hj := h j List.mem_cons_self
    have hk := (stepB_k ab a j).1
    have ih := idF_cnt (ab := ab) ss (a := stepB ab a j) (hw.stp hj) (fun j' hj' => by rw [hk]; exact h j' (List.mem_cons_of_mem _ hj'))
    rw [foldB_c, idF, List.length_cons]
    by_cases hb : ab.testBit j = true
    · rw [stepB_t hb] at ih ⊢
      rw [if_pos (Or.inl hb)]
      omega
    · rw [show stepB ab a j = hearN a j from if_neg hb] at ih ⊢
      rw [hear_cnt hw hj] at ih
      by_cases hf : ffN a j = none
      · rw [if_pos (Or.inr hf)]
        rw [if_pos hf] at ih
        omega
      · rw [if_neg (fun q => q.elim hb hf)]
        rw [if_neg hf] at ih
        omega
/-- who is idle in d days -/
def idT (ab : Nat) (ss : List Nat) (a : aA) : Nat → Nat
  | 0 => 0
  | d + 1 => idT ab ss a d + idF ab ss (itN (presB ab ss) a d)
theorem heard_day (a : aA) : heardN (dayN a) = heardN a := rfl
theorem idT_cnt {ab : Nat} {ss : List Nat} {a : aA} (hw : WF a) (hs : ∀ j ∈ ss, j < nJ a) : ∀ d, dY a + d ≤ 2000 → idT ab ss a d + popN (heardN (itN (presB ab ss) a d)) = d * ss.length + popN (heardN a)
  | 0, _ => by simp [idT, itN]
  | d + 1, h => by
    have ih := idT_cnt (ab := ab) hw hs d (by omega)
    have hwd : WF (itN (presB ab ss) a d) := hw.it (fun j hj => hs j (List.mem_filter.mp hj).1) d (by omega)
    have h1 := idF_cnt (ab := ab) ss hwd (fun j hj => by rw [(itN_k _ a d).1]; exact hs j hj)
    rw [idT, show itN (presB ab ss) a (d + 1) = dayN ((presB ab ss).foldl hearN (itN (presB ab ss) a d)) from rfl, heard_day, ← foldB_eq, Nat.succ_mul]
    omega

/-! dockets, both ways (by wip/whole/gen/g63.py) -/
theorem seatL_all (n : Nat) : seatL (fun _ => true) n = List.range n := by
  unfold seatL
  exact List.filter_eq_self.mpr (fun _ _ => rfl)
theorem presB_0 (ss : List Nat) : presB 0 ss = ss := by
  unfold presB
  refine List.filter_eq_self.mpr (fun j _ => ?_)
  rw [Nat.zero_testBit]
  rfl
abbrev pDk (ss : List Nat) (a : aA) (n : Nat) (I : xF4 Int32) (L : xF4 Int64) : Option xV → xM → Prop := fun v M => v = some (vI (nI (popN (newN (heardN (itN ss a n)) (heardN a))))) ∧ ∃ I', M = rM I' L ∧ MI I' (itN ss a n) ∧ FrG I I'
theorem d_dh {I : xF4 Int32} {L : xF4 Int64} {a : aA} (hm : MI I a) (hw : WF a) {ss : List Nat} {ab n : Nat} (hab9 : ab < 32) (hl : ss.length = nJ a) (hall : ∀ j ∈ ss, j < nJ a) (hd : dY a + n ≤ 2000) (hs : SitsIs I ss) (hab : I 30 0 0 18 = nI ab) : Tri 5 109 m_X11_docketHears [vR 30 0 0, vI (nI n)] (rM I L) (pDk (presB ab ss) a n I L) :=
  (d_docketHears hm hw hab9 hl hall hd hs hab).post (fun v M' _ h => ⟨by
    obtain ⟨q1, q2, q3⟩ := it_new hw (ss := presB ab ss) (fun j hj => hall j (presB_in hj)) hd
    rw [h.1, pk_sub q1, q2], h.2⟩)
theorem d_dh0 {I : xF4 Int32} {L : xF4 Int64} {a : aA} (hm : MI I a) (hw : WF a) {ss : List Nat} {n : Nat} (hl : ss.length = nJ a) (hall : ∀ j ∈ ss, j < nJ a) (hd : dY a + n ≤ 2000) (hs : SitsIs I ss) (hab : I 30 0 0 18 = 0) : Tri 5 109 m_X11_docketHears [vR 30 0 0, vI (nI n)] (rM I L) (pDk ss a n I L) := by
  have h := d_dh (L := L) hm hw (ab := 0) (by decide) hl hall hd hs hab
  rw [presB_0] at h
  exact h
theorem range_in {n j : Nat} (h : j ∈ List.range n) : j < n := List.mem_range.mp h
theorem full_0 : ∀ n, n < 6 → ∀ v, v < 2 ^ n → (nI v = ((1 : Int32) <<< (nI n &&& 31)) - 1 ↔ popN v = n) := by decide +kernel
theorem full_N {a : aA} (hw : WF a) : (nI (heardN a) = ((1 : Int32) <<< (nI (nC a) &&& 31)) - 1 ↔ cntN (fun c => decide (0 < sF a c 4)) (nC a) = nC a) := by
  have h2 := hw.2.1
  rw [full_0 (nC a) (by omega) (heardN a) (bitN_lt _ _), popN_heard hw]
theorem awayN_lt {a : aA} (hw : WF a) : awayN a < 32 := Nat.lt_of_lt_of_le (bitN_lt _ _) (Nat.pow_le_pow_right (n := 2) (j := 5) (by decide) (by have := hw.1; omega))
/-- when first all was clear, before day k -/
def cbP (ss : List Nat) (a : aA) : Nat → Option Nat
  | 0 => none
  | k + 1 => cbF ss a k
theorem cbF_s {ss : List Nat} {a : aA} {k x : Nat} (h : cbP ss a k = some x) : cbF ss a k = some x := by
  cases k with
  | zero => cases h
  | succ k => have h' : cbF ss a k = some x := h; rw [cbF, h']
theorem cbF_t {ss : List Nat} {a : aA} {k : Nat} (h : cbP ss a k = none) (hc : clearB (itN ss a k) = true) : cbF ss a k = some k := by
  cases k with
  | zero => rw [cbF]; exact if_pos hc
  | succ k => have h' : cbF ss a k = none := h; rw [cbF, h']; exact if_pos hc
theorem cbF_n {ss : List Nat} {a : aA} {k : Nat} (h : cbP ss a k = none) (hc : ¬ clearB (itN ss a k) = true) : cbF ss a k = none := by
  cases k with
  | zero => rw [cbF]; exact if_neg hc
  | succ k => have h' : cbF ss a k = none := h; rw [cbF, h']; exact if_neg hc
theorem cbP_le {ss : List Nat} {a : aA} {k x : Nat} (h : cbP ss a k = some x) : x ≤ k := by
  cases k with
  | zero => cases h
  | succ k => exact Nat.le_succ_of_le (cbF_le h)

theorem p_hears {I : xF4 Int32} {L : xF4 Int64} {a : aA} (hc : CourtIs I 0 a) (hw : WF a) {c : Nat} (hcc : c < nC a) {n : Nat} (hn : n ≤ 30) (hd9 : dY a ≤ 999) (h4 : ¬ 0 < sF a c 4) : Tri 19 109 m_X10_hears [vR 0 0 0, vI (nI c), vI (nI n)] (rM I L) (pCq (vI (byI (bY (itN (List.range (nJ a)) a n) c))) I) := by
  refine ⟨k_X10_hears, Nat.le_of_ble_eq_true rfl, ?_⟩
  show Wp _ _ _ 0 [some (vR 0 0 0), some (vI (nI c)), some (vI (nI n)), none, none] [] (rM I L) _
  obtain ⟨hJ, hC, hG, hD, hR, -⟩ := id hw
  obtain ⟨fc0, fc1, fc2, fc3, fc4, fc5, fc6, fc7, fc8⟩ := hw.2.2.2.2.2.2.1 c hcc
  refine w_aload_n dX10_hears_0 rfl ?_
  refine w_getR (w := some (1, 0, 0)) ff_X10_10 rfl rfl dX10_hears_1 rfl ?_
  refine w_iload_n dX10_hears_4 rfl ?_
  refine w_callV (as := [vI (nI c)]) (st := []) (Tri.mono (c_sAt hc hw hcc) (Nat.le_of_ble_eq_true rfl)) rfl rfl tg_X1_suitAt lk_X10_136 in_X1_suitAt se_X1_suitAt rfl dX10_hears_5 rfl (Nat.le_of_ble_eq_true rfl) (Nat.le_refl _) (Nat.le_refl _) ?_
  rintro _ _ ⟨rfl, rfl⟩ -
  refine w_astore_n (ls' := [some (vR 0 0 0), some (vI (nI c)), some (vI (nI n)), some (vR 5 0 c), none]) dX10_hears_8 rfl ?_
  refine w_aload_n dX10_hears_9 rfl ?_
  refine w_ifnull (tgt := 23) dX10_hears_10 (by decide) (fun h => by cases h) (fun _ _ => ?_)
  refine w_iload_n dX10_hears_13 rfl ?_
  refine w_iconst (v := 0) dX10_hears_14 (by decide) ?_
  refine w_bipush (v := 30) dX10_hears_15 (by decide) ?_
  refine w_callS (as := [vI (nI n), vI (0), vI (30)]) (st := []) (Tri.mono (c_X10_within (nI n) (0) (30)) (Nat.le_of_ble_eq_true rfl)) tg_X10_within lk_X10_158 sa_X10_within rfl dX10_hears_17 rfl (Nat.le_of_ble_eq_true rfl) (Nat.le_refl _) (Nat.le_refl _) ?_
  rintro _ _ ⟨rfl, rfl⟩ -
  refine w_top (y := bI (0 ≤ ((n : Nat) : Int) ∧ ((n : Nat) : Int) ≤ 30)) (show (bI ((0 : Int32) ≤ (nI n) ∧ (nI n) ≤ (30 : Int32)) : Int32) = bI (0 ≤ ((n : Nat) : Int) ∧ ((n : Nat) : Int) ≤ 30) from wiZ (X := ((n : Nat) : Int)) (A := 0) (B := 30) (z_nI (by omega)) (by decide) (by decide)) ?_
  refine w_ifne_b (tgt := 25) dX10_hears_20 (by decide) (fun h1 => ?_) (fun h1 => ?_)
  · skip
    first
    | (exfalso; omega)
    | skip
      refine w_aload_n dX10_hears_25 rfl ?_
      refine w_callV (as := []) (st := []) (Tri.mono (c_X8_isHeard 0 c) (Nat.le_of_ble_eq_true rfl)) rfl rfl tg_X8_isHeard lk_X10_170 in_X8_isHeard se_X8_isHeard rfl dX10_hears_26 rfl (Nat.le_of_ble_eq_true rfl) (Nat.le_refl _) (Nat.le_refl _) ?_
      rintro _ _ ⟨rfl, rfl⟩ -
      rw [show (bI (0 < I 5 0 c 4) : Int32) = bI (0 < sF a c 4) from isH hc hw hcc]
      refine w_ifeq_b (tgt := 35) dX10_hears_29 (by decide) (fun h2 => ?_) (fun h2 => ?_)
      · skip
        first
        | (exfalso; omega)
        | skip
          refine w_aload_n dX10_hears_35 rfl ?_
          refine w_getR (w := some (12, 0, 0)) ff_X10_36 rfl rfl dX10_hears_36 rfl ?_
          refine w_aload_n dX10_hears_39 rfl ?_
          refine w_getR (w := some (1, 0, 0)) ff_X10_10 rfl rfl dX10_hears_40 rfl ?_
          refine w_callV (as := [vR 1 0 0]) (st := []) (Tri.mono (c_seatAll hc hw) (Nat.le_of_ble_eq_true rfl)) rfl rfl tg_X2_seatAll lk_X10_192 in_X2_seatAll se_X2_seatAll rfl dX10_hears_43 rfl (Nat.le_of_ble_eq_true rfl) (Nat.le_refl _) (Nat.le_refl _) ?_
          rintro v M9 ⟨rfl, I1, rfl, hse1, hfs1⟩ -
          rw [seatL_all] at hse1
          have hc0_1 := hfs1.q.court (by decide) hc
          refine w_aload_n dX10_hears_46 rfl ?_
          refine w_getR (w := some (12, 0, 0)) ff_X10_36 rfl rfl dX10_hears_47 rfl ?_
          refine w_aload_n dX10_hears_50 rfl ?_
          refine w_getR (w := some (1, 1, 0)) ff_X10_16 rfl rfl dX10_hears_51 rfl ?_
          refine w_aload_n dX10_hears_54 rfl ?_
          refine w_getR (w := some (1, 0, 0)) ff_X10_10 rfl rfl dX10_hears_55 rfl ?_
          refine w_iload_n dX10_hears_58 rfl ?_
          refine w_callV (as := [vR 1 1 0, vR 1 0 0, vI (nI n)]) (st := []) (Tri.mono (c_play (by decide) hw hc0_1 hse1 (fun j h => List.mem_range.mp h) (n := n) (by omega) (by omega)) (Nat.le_of_ble_eq_true rfl)) rfl rfl tg_X2_play lk_X10_195 in_X2_play se_X2_play rfl dX10_hears_59 rfl (Nat.le_of_ble_eq_true rfl) (Nat.le_refl _) (Nat.le_refl _) ?_
          rintro v M9 ⟨rfl, I2, rfl, hp1_2, hp2_2, hp3_2, hfp2⟩ -
          have hwp2 := WF.it (ss := (List.range (nJ a))) hw (fun j h => List.mem_range.mp h) n (by omega)
          have hc0_2 := hfp2.q.court (by decide) hc0_1
          refine w_aload_n dX10_hears_62 rfl ?_
          refine w_getR (w := some (1, 1, 0)) ff_X10_16 rfl rfl dX10_hears_63 rfl ?_
          refine w_iload_n dX10_hears_66 rfl ?_
          have hk9 := (itN_k (List.range (nJ a)) a n).2.1
          refine w_callV (as := [vI (nI c)]) (st := []) (Tri.mono (c_sAt hp1_2 hwp2 (i := c) (by omega)) (Nat.le_of_ble_eq_true rfl)) rfl rfl tg_X1_suitAt lk_X10_136 in_X1_suitAt se_X1_suitAt rfl dX10_hears_67 rfl (Nat.le_of_ble_eq_true rfl) (Nat.le_refl _) (Nat.le_refl _) ?_
          rintro _ _ ⟨rfl, rfl⟩ -
          refine w_astore (ls' := [some (vR 0 0 0), some (vI (nI c)), some (vI (nI n)), some (vR 5 0 c), some (vR 5 1 c)]) dX10_hears_70 rfl ?_
          refine w_aload dX10_hears_72 rfl ?_
          refine w_ifnonnull (tgt := 82) dX10_hears_74 (by decide) (fun _ _ => ?_) (fun h => by cases h)
          refine w_aload dX10_hears_82 rfl ?_
          refine w_getI ff_X10_155 rfl rfl dX10_hears_84 ?_
          rw [show (I2 5 1 c 5 : Int32) = byI (bY (itN (List.range (nJ a)) a n) c) from hp1_2.b (show c < nC (itN (List.range (nJ a)) a n) by omega)]
          exact w_ireturn dX10_hears_87 rfl (rfl) rfl (⟨rfl, _, _, rfl, (hfs1.q.tr hfp2.q)⟩)
      · skip
        first
        | (exfalso; omega)
        | skip
          refine w_bipush (v := (-4)) dX10_hears_32 (by decide) ?_
          exact w_ireturn dX10_hears_34 rfl (rfl) rfl (⟨rfl, _, _, rfl, FrQ.rf⟩)
  · skip
    first
    | (exfalso; omega)
    | skip
      refine w_iconst (v := (-1)) dX10_hears_23 (by decide) ?_
      exact w_ireturn dX10_hears_24 rfl (rfl) rfl (⟨rfl, _, _, rfl, FrQ.rf⟩)

theorem q_hears {I : xF4 Int32} {L : xF4 Int64} {a : aA} (hs : SI I a) (hw : WF a) {c : Nat} (hcc : c < nC a) {n : Nat} (hn : n ≤ 30) (hd9 : dY a ≤ 999) (h4 : ¬ 0 < sF a c 4) : Tri 19 109 m_X11_hears [vR 30 0 0, vI (nI c), vI (nI n)] (rM I L) (pMq (vI (byI (bY (itN (List.range (nJ a)) a n) c))) I) := by
  refine ⟨k_X11_hears, Nat.le_of_ble_eq_true rfl, ?_⟩
  show Wp _ _ _ 0 [some (vR 30 0 0), some (vI (nI c)), some (vI (nI n))] [] (rM I L) _
  obtain ⟨hJ, hC, hG, hD, hR, -⟩ := id hw
  obtain ⟨fc0, fc1, fc2, fc3, fc4, fc5, fc6, fc7, fc8⟩ := hw.2.2.2.2.2.2.1 c hcc
  refine w_aload_n dX11_hears_0 rfl ?_
  refine w_iload_n dX11_hears_1 rfl ?_
  refine w_callV (as := [vI (nI c)]) (st := []) (Tri.mono (d_isCase (hs.2.1) (by omega) (x := nI c) (X := ((c : Nat) : Int)) (z_nI (by omega))) (Nat.le_of_ble_eq_true rfl)) rfl rfl tg_X11_isCase lk_X11_204 in_X11_isCase se_X11_isCase rfl dX11_hears_2 rfl (Nat.le_of_ble_eq_true rfl) (Nat.le_refl _) (Nat.le_refl _) ?_
  rintro _ _ ⟨rfl, rfl⟩ -
  refine w_ifeq_b (tgt := 20) dX11_hears_5 (by decide) (fun h1 => ?_) (fun h1 => ?_)
  · skip
    first
    | (exfalso; omega)
    | skip
      refine w_iconst (v := (-1)) dX11_hears_20 (by decide) ?_
      exact w_ireturn dX11_hears_21 rfl (rfl) rfl (⟨rfl, _, _, rfl, FrR.rf⟩)
  · skip
    first
    | (exfalso; omega)
    | skip
      refine w_iload_n dX11_hears_8 rfl ?_
      refine w_i2l dX11_hears_9 ?_
      refine w_lconst (v := 0) dX11_hears_10 (by decide) ?_
      refine w_ldc2 dX11_hears_11 cq_X11_231 ?_
      refine w_callS (as := [vL ((nI n : Int32).toInt64), vL (0), vL (30)]) (st := []) (Tri.mono (d_in ((nI n : Int32).toInt64) (0) (30)) (Nat.le_of_ble_eq_true rfl)) tg_X11_in lk_X11_66 sa_X11_in rfl dX11_hears_14 rfl (Nat.le_of_ble_eq_true rfl) (Nat.le_refl _) (Nat.le_refl _) ?_
      rintro _ _ ⟨rfl, rfl⟩ -
      refine w_top (y := bI (0 ≤ ((n : Nat) : Int) ∧ ((n : Nat) : Int) ≤ 30)) (show (bI ((0 : Int64) ≤ ((nI n : Int32).toInt64) ∧ ((nI n : Int32).toInt64) ≤ (30 : Int64)) : Int32) = bI (0 ≤ ((n : Nat) : Int) ∧ ((n : Nat) : Int) ≤ 30) from inZ (x := nI n) (l := 0) (h := 30) (X := ((n : Nat) : Int)) (A := 0) (B := 30) rfl (by decide) (by decide) (z_nI (by omega)) (by decide) (by decide)) ?_
      refine w_ifne_b (tgt := 22) dX11_hears_17 (by decide) (fun h2 => ?_) (fun h2 => ?_)
      · skip
        first
        | (exfalso; omega)
        | skip
          refine w_aload_n dX11_hears_22 rfl ?_
          refine w_iload_n dX11_hears_23 rfl ?_
          refine w_callV (as := [vI (nI c)]) (st := []) (Tri.mono (d_isHeard hs hw hcc) (Nat.le_of_ble_eq_true rfl)) rfl rfl tg_X11_isHeard lk_X11_218 in_X11_isHeard se_X11_isHeard rfl dX11_hears_24 rfl (Nat.le_of_ble_eq_true rfl) (Nat.le_refl _) (Nat.le_refl _) ?_
          rintro _ _ ⟨rfl, rfl⟩ -
          refine w_ifeq_b (tgt := 33) dX11_hears_27 (by decide) (fun h3 => ?_) (fun h3 => ?_)
          · skip
            first
            | (exfalso; omega)
            | skip
              refine w_aload_n dX11_hears_33 rfl ?_
              refine w_callV (as := []) (st := []) (Tri.mono (d_starts hs hw) (Nat.le_of_ble_eq_true rfl)) rfl rfl tg_X11_starts lk_X11_192 in_X11_starts se_X11_starts rfl dX11_hears_34 rfl (Nat.le_of_ble_eq_true rfl) (Nat.le_refl _) (Nat.le_refl _) ?_
              rintro v M9 ⟨rfl, I1, rfl, hm1, hi1, hf1⟩ -
              have hs1 := hf1.r.si hs
              refine w_aload_n dX11_hears_37 rfl ?_
              refine w_iconst (v := 0) dX11_hears_38 (by decide) ?_
              refine w_putI ff_X11_168 rfl rfl rfl rfl dX11_hears_39 ?_
              obtain ⟨I2, hI2⟩ : ∃ z, z = xup I1 30 0 0 18 (0) := ⟨_, rfl⟩
              rw [← hI2]
              have hf2 : FrR I1 I2 := by rw [hI2]; exact FrR.up (by omega)
              have hm2 : MI I2 a := by rw [hI2]; exact hm1.at30 (by decide) (by decide) _
              have hi2 : ∀ i, i < 4 → I2 36 0 0 i = nI i := by rw [hI2]; exact fun i h => (xup_tag (by decide)).trans (hi1 i h)
              have hv18_2 : I2 30 0 0 18 = 0 := by rw [hI2]; exact xup_self
              have hs2 := hf2.si hs1
              refine w_aload_n dX11_hears_42 rfl ?_
              refine w_iload_n dX11_hears_43 rfl ?_
              refine w_callV (as := [vI (nI n)]) (st := []) (Tri.mono (d_dh0 hm2 hw (ss := (List.range (nJ a))) (n := n) List.length_range (fun j h => range_in h) (by omega) (sits_range hi2 (by omega)) hv18_2) (Nat.le_of_ble_eq_true rfl)) rfl rfl tg_X11_docketHears lk_X11_236 in_X11_docketHears se_X11_docketHears rfl dX11_hears_44 rfl (Nat.le_of_ble_eq_true rfl) (Nat.le_refl _) (Nat.le_refl _) ?_
              rintro v M9 ⟨rfl, I3, rfl, hm3, hf3⟩ -
              have hwp3 := hw.it (ss := (List.range (nJ a))) (fun j h => range_in h) n (by omega)
              have hk3 := itN_k (List.range (nJ a)) a n
              have hv18_3 : I3 30 0 0 18 = 0 := (hf3 30 0 0 18 (by decide) (by decide)).trans hv18_2
              have hi3 : ∀ i, i < 4 → I3 36 0 0 i = nI i := fun i h => (hf3 36 0 0 i (by decide) (by omega)).trans (hi2 i h)
              have hs3 := hf3.r.si hs2
              refine w_pop dX11_hears_47 rfl ?_
              refine w_aload_n dX11_hears_48 rfl ?_
              refine w_iload_n dX11_hears_49 rfl ?_
              refine w_iconst (v := 5) dX11_hears_50 (by decide) ?_
              refine w_callV (as := [vI (nI c), vI (5)]) (st := []) (Tri.mono (d_ofBy hm3 (by omega) (c := c) (by omega)) (Nat.le_of_ble_eq_true rfl)) rfl rfl tg_X11_ofCase lk_X11_145 in_X11_ofCase se_X11_ofCase rfl dX11_hears_51 rfl (Nat.le_of_ble_eq_true rfl) (Nat.le_refl _) (Nat.le_refl _) ?_
              rintro _ _ ⟨rfl, rfl⟩ -
              exact w_ireturn dX11_hears_54 rfl (rfl) rfl (⟨rfl, _, _, rfl, ((hf1.r.tr hf2).tr hf3.r)⟩)
          · skip
            first
            | (exfalso; omega)
            | skip
              refine w_bipush (v := (-4)) dX11_hears_30 (by decide) ?_
              exact w_ireturn dX11_hears_32 rfl (rfl) rfl (⟨rfl, _, _, rfl, FrR.rf⟩)
      · skip
        first
        | (exfalso; omega)
        | skip
          refine w_iconst (v := (-1)) dX11_hears_20 (by decide) ?_
          exact w_ireturn dX11_hears_21 rfl (rfl) rfl (⟨rfl, _, _, rfl, FrR.rf⟩)

theorem p_hears_h {I : xF4 Int32} {L : xF4 Int64} {a : aA} (hc : CourtIs I 0 a) (hw : WF a) {c : Nat} (hcc : c < nC a) {n : Nat} (hn : n ≤ 30) (h4 : 0 < sF a c 4) : Tri 19 109 m_X10_hears [vR 0 0 0, vI (nI c), vI (nI n)] (rM I L) (pCq (vI (-4)) I) := by
  refine ⟨k_X10_hears, Nat.le_of_ble_eq_true rfl, ?_⟩
  show Wp _ _ _ 0 [some (vR 0 0 0), some (vI (nI c)), some (vI (nI n)), none, none] [] (rM I L) _
  obtain ⟨hJ, hC, hG, hD, hR, -⟩ := id hw
  obtain ⟨fc0, fc1, fc2, fc3, fc4, fc5, fc6, fc7, fc8⟩ := hw.2.2.2.2.2.2.1 c hcc
  refine w_aload_n dX10_hears_0 rfl ?_
  refine w_getR (w := some (1, 0, 0)) ff_X10_10 rfl rfl dX10_hears_1 rfl ?_
  refine w_iload_n dX10_hears_4 rfl ?_
  refine w_callV (as := [vI (nI c)]) (st := []) (Tri.mono (c_sAt hc hw hcc) (Nat.le_of_ble_eq_true rfl)) rfl rfl tg_X1_suitAt lk_X10_136 in_X1_suitAt se_X1_suitAt rfl dX10_hears_5 rfl (Nat.le_of_ble_eq_true rfl) (Nat.le_refl _) (Nat.le_refl _) ?_
  rintro _ _ ⟨rfl, rfl⟩ -
  refine w_astore_n (ls' := [some (vR 0 0 0), some (vI (nI c)), some (vI (nI n)), some (vR 5 0 c), none]) dX10_hears_8 rfl ?_
  refine w_aload_n dX10_hears_9 rfl ?_
  refine w_ifnull (tgt := 23) dX10_hears_10 (by decide) (fun h => by cases h) (fun _ _ => ?_)
  refine w_iload_n dX10_hears_13 rfl ?_
  refine w_iconst (v := 0) dX10_hears_14 (by decide) ?_
  refine w_bipush (v := 30) dX10_hears_15 (by decide) ?_
  refine w_callS (as := [vI (nI n), vI (0), vI (30)]) (st := []) (Tri.mono (c_X10_within (nI n) (0) (30)) (Nat.le_of_ble_eq_true rfl)) tg_X10_within lk_X10_158 sa_X10_within rfl dX10_hears_17 rfl (Nat.le_of_ble_eq_true rfl) (Nat.le_refl _) (Nat.le_refl _) ?_
  rintro _ _ ⟨rfl, rfl⟩ -
  refine w_top (y := bI (0 ≤ ((n : Nat) : Int) ∧ ((n : Nat) : Int) ≤ 30)) (show (bI ((0 : Int32) ≤ (nI n) ∧ (nI n) ≤ (30 : Int32)) : Int32) = bI (0 ≤ ((n : Nat) : Int) ∧ ((n : Nat) : Int) ≤ 30) from wiZ (X := ((n : Nat) : Int)) (A := 0) (B := 30) (z_nI (by omega)) (by decide) (by decide)) ?_
  refine w_ifne_b (tgt := 25) dX10_hears_20 (by decide) (fun h1 => ?_) (fun h1 => ?_)
  · skip
    first
    | (exfalso; omega)
    | skip
      refine w_aload_n dX10_hears_25 rfl ?_
      refine w_callV (as := []) (st := []) (Tri.mono (c_X8_isHeard 0 c) (Nat.le_of_ble_eq_true rfl)) rfl rfl tg_X8_isHeard lk_X10_170 in_X8_isHeard se_X8_isHeard rfl dX10_hears_26 rfl (Nat.le_of_ble_eq_true rfl) (Nat.le_refl _) (Nat.le_refl _) ?_
      rintro _ _ ⟨rfl, rfl⟩ -
      rw [show (bI (0 < I 5 0 c 4) : Int32) = bI (0 < sF a c 4) from isH hc hw hcc]
      refine w_ifeq_b (tgt := 35) dX10_hears_29 (by decide) (fun h2 => ?_) (fun h2 => ?_)
      · skip
        first
        | (exfalso; omega)
        | skip
          refine w_aload_n dX10_hears_35 rfl ?_
          refine w_getR (w := some (12, 0, 0)) ff_X10_36 rfl rfl dX10_hears_36 rfl ?_
          refine w_aload_n dX10_hears_39 rfl ?_
          refine w_getR (w := some (1, 0, 0)) ff_X10_10 rfl rfl dX10_hears_40 rfl ?_
          refine w_callV (as := [vR 1 0 0]) (st := []) (Tri.mono (c_seatAll hc hw) (Nat.le_of_ble_eq_true rfl)) rfl rfl tg_X2_seatAll lk_X10_192 in_X2_seatAll se_X2_seatAll rfl dX10_hears_43 rfl (Nat.le_of_ble_eq_true rfl) (Nat.le_refl _) (Nat.le_refl _) ?_
          rintro v M9 ⟨rfl, I1, rfl, hse1, hfs1⟩ -
          rw [seatL_all] at hse1
          have hc0_1 := hfs1.q.court (by decide) hc
          refine w_aload_n dX10_hears_46 rfl ?_
          refine w_getR (w := some (12, 0, 0)) ff_X10_36 rfl rfl dX10_hears_47 rfl ?_
          refine w_aload_n dX10_hears_50 rfl ?_
          refine w_getR (w := some (1, 1, 0)) ff_X10_16 rfl rfl dX10_hears_51 rfl ?_
          refine w_aload_n dX10_hears_54 rfl ?_
          refine w_getR (w := some (1, 0, 0)) ff_X10_10 rfl rfl dX10_hears_55 rfl ?_
          refine w_iload_n dX10_hears_58 rfl ?_
          refine w_callV (as := [vR 1 1 0, vR 1 0 0, vI (nI n)]) (st := []) (Tri.mono (c_play (by decide) hw hc0_1 hse1 (fun j h => List.mem_range.mp h) (n := n) (by omega) (by omega)) (Nat.le_of_ble_eq_true rfl)) rfl rfl tg_X2_play lk_X10_195 in_X2_play se_X2_play rfl dX10_hears_59 rfl (Nat.le_of_ble_eq_true rfl) (Nat.le_refl _) (Nat.le_refl _) ?_
          rintro v M9 ⟨rfl, I2, rfl, hp1_2, hp2_2, hp3_2, hfp2⟩ -
          have hwp2 := WF.it (ss := (List.range (nJ a))) hw (fun j h => List.mem_range.mp h) n (by omega)
          have hc0_2 := hfp2.q.court (by decide) hc0_1
          refine w_aload_n dX10_hears_62 rfl ?_
          refine w_getR (w := some (1, 1, 0)) ff_X10_16 rfl rfl dX10_hears_63 rfl ?_
          refine w_iload_n dX10_hears_66 rfl ?_
          exfalso
          omega
      · skip
        first
        | (exfalso; omega)
        | skip
          refine w_bipush (v := (-4)) dX10_hears_32 (by decide) ?_
          exact w_ireturn dX10_hears_34 rfl (rfl) rfl (⟨rfl, _, _, rfl, FrQ.rf⟩)
  · skip
    first
    | (exfalso; omega)
    | skip
      refine w_iconst (v := (-1)) dX10_hears_23 (by decide) ?_
      exact w_ireturn dX10_hears_24 rfl (rfl) rfl (⟨rfl, _, _, rfl, FrQ.rf⟩)

theorem q_hears_h {I : xF4 Int32} {L : xF4 Int64} {a : aA} (hs : SI I a) (hw : WF a) {c : Nat} (hcc : c < nC a) {n : Nat} (hn : n ≤ 30) (h4 : 0 < sF a c 4) : Tri 19 109 m_X11_hears [vR 30 0 0, vI (nI c), vI (nI n)] (rM I L) (pMq (vI (-4)) I) := by
  refine ⟨k_X11_hears, Nat.le_of_ble_eq_true rfl, ?_⟩
  show Wp _ _ _ 0 [some (vR 30 0 0), some (vI (nI c)), some (vI (nI n))] [] (rM I L) _
  obtain ⟨hJ, hC, hG, hD, hR, -⟩ := id hw
  obtain ⟨fc0, fc1, fc2, fc3, fc4, fc5, fc6, fc7, fc8⟩ := hw.2.2.2.2.2.2.1 c hcc
  refine w_aload_n dX11_hears_0 rfl ?_
  refine w_iload_n dX11_hears_1 rfl ?_
  refine w_callV (as := [vI (nI c)]) (st := []) (Tri.mono (d_isCase (hs.2.1) (by omega) (x := nI c) (X := ((c : Nat) : Int)) (z_nI (by omega))) (Nat.le_of_ble_eq_true rfl)) rfl rfl tg_X11_isCase lk_X11_204 in_X11_isCase se_X11_isCase rfl dX11_hears_2 rfl (Nat.le_of_ble_eq_true rfl) (Nat.le_refl _) (Nat.le_refl _) ?_
  rintro _ _ ⟨rfl, rfl⟩ -
  refine w_ifeq_b (tgt := 20) dX11_hears_5 (by decide) (fun h1 => ?_) (fun h1 => ?_)
  · skip
    first
    | (exfalso; omega)
    | skip
      refine w_iconst (v := (-1)) dX11_hears_20 (by decide) ?_
      exact w_ireturn dX11_hears_21 rfl (rfl) rfl (⟨rfl, _, _, rfl, FrR.rf⟩)
  · skip
    first
    | (exfalso; omega)
    | skip
      refine w_iload_n dX11_hears_8 rfl ?_
      refine w_i2l dX11_hears_9 ?_
      refine w_lconst (v := 0) dX11_hears_10 (by decide) ?_
      refine w_ldc2 dX11_hears_11 cq_X11_231 ?_
      refine w_callS (as := [vL ((nI n : Int32).toInt64), vL (0), vL (30)]) (st := []) (Tri.mono (d_in ((nI n : Int32).toInt64) (0) (30)) (Nat.le_of_ble_eq_true rfl)) tg_X11_in lk_X11_66 sa_X11_in rfl dX11_hears_14 rfl (Nat.le_of_ble_eq_true rfl) (Nat.le_refl _) (Nat.le_refl _) ?_
      rintro _ _ ⟨rfl, rfl⟩ -
      refine w_top (y := bI (0 ≤ ((n : Nat) : Int) ∧ ((n : Nat) : Int) ≤ 30)) (show (bI ((0 : Int64) ≤ ((nI n : Int32).toInt64) ∧ ((nI n : Int32).toInt64) ≤ (30 : Int64)) : Int32) = bI (0 ≤ ((n : Nat) : Int) ∧ ((n : Nat) : Int) ≤ 30) from inZ (x := nI n) (l := 0) (h := 30) (X := ((n : Nat) : Int)) (A := 0) (B := 30) rfl (by decide) (by decide) (z_nI (by omega)) (by decide) (by decide)) ?_
      refine w_ifne_b (tgt := 22) dX11_hears_17 (by decide) (fun h2 => ?_) (fun h2 => ?_)
      · skip
        first
        | (exfalso; omega)
        | skip
          refine w_aload_n dX11_hears_22 rfl ?_
          refine w_iload_n dX11_hears_23 rfl ?_
          refine w_callV (as := [vI (nI c)]) (st := []) (Tri.mono (d_isHeard hs hw hcc) (Nat.le_of_ble_eq_true rfl)) rfl rfl tg_X11_isHeard lk_X11_218 in_X11_isHeard se_X11_isHeard rfl dX11_hears_24 rfl (Nat.le_of_ble_eq_true rfl) (Nat.le_refl _) (Nat.le_refl _) ?_
          rintro _ _ ⟨rfl, rfl⟩ -
          refine w_ifeq_b (tgt := 33) dX11_hears_27 (by decide) (fun h3 => ?_) (fun h3 => ?_)
          · skip
            first
            | (exfalso; omega)
            | skip
              refine w_aload_n dX11_hears_33 rfl ?_
              refine w_callV (as := []) (st := []) (Tri.mono (d_starts hs hw) (Nat.le_of_ble_eq_true rfl)) rfl rfl tg_X11_starts lk_X11_192 in_X11_starts se_X11_starts rfl dX11_hears_34 rfl (Nat.le_of_ble_eq_true rfl) (Nat.le_refl _) (Nat.le_refl _) ?_
              rintro v M9 ⟨rfl, I1, rfl, hm1, hi1, hf1⟩ -
              have hs1 := hf1.r.si hs
              refine w_aload_n dX11_hears_37 rfl ?_
              refine w_iconst (v := 0) dX11_hears_38 (by decide) ?_
              refine w_putI ff_X11_168 rfl rfl rfl rfl dX11_hears_39 ?_
              refine w_aload_n dX11_hears_42 rfl ?_
              refine w_iload_n dX11_hears_43 rfl ?_
              exfalso
              omega
          · skip
            first
            | (exfalso; omega)
            | skip
              refine w_bipush (v := (-4)) dX11_hears_30 (by decide) ?_
              exact w_ireturn dX11_hears_32 rfl (rfl) rfl (⟨rfl, _, _, rfl, FrR.rf⟩)
      · skip
        first
        | (exfalso; omega)
        | skip
          refine w_iconst (v := (-1)) dX11_hears_20 (by decide) ?_
          exact w_ireturn dX11_hears_21 rfl (rfl) rfl (⟨rfl, _, _, rfl, FrR.rf⟩)

theorem p_hears_n {I : xF4 Int32} {L : xF4 Int64} {a : aA} (hc : CourtIs I 0 a) (hw : WF a) {c : Nat} (hcc : c < nC a) {n : Int32} (hx : n.toInt < ((0 : Nat) : Int) ∨ ((30 : Nat) : Int) < n.toInt) : Tri 19 109 m_X10_hears [vR 0 0 0, vI (nI c), vI (n)] (rM I L) (pCq (vI (-1)) I) := by
  refine ⟨k_X10_hears, Nat.le_of_ble_eq_true rfl, ?_⟩
  show Wp _ _ _ 0 [some (vR 0 0 0), some (vI (nI c)), some (vI (n)), none, none] [] (rM I L) _
  obtain ⟨hJ, hC, hG, hD, hR, -⟩ := id hw
  obtain ⟨fc0, fc1, fc2, fc3, fc4, fc5, fc6, fc7, fc8⟩ := hw.2.2.2.2.2.2.1 c hcc
  refine w_aload_n dX10_hears_0 rfl ?_
  refine w_getR (w := some (1, 0, 0)) ff_X10_10 rfl rfl dX10_hears_1 rfl ?_
  refine w_iload_n dX10_hears_4 rfl ?_
  refine w_callV (as := [vI (nI c)]) (st := []) (Tri.mono (c_sAt hc hw hcc) (Nat.le_of_ble_eq_true rfl)) rfl rfl tg_X1_suitAt lk_X10_136 in_X1_suitAt se_X1_suitAt rfl dX10_hears_5 rfl (Nat.le_of_ble_eq_true rfl) (Nat.le_refl _) (Nat.le_refl _) ?_
  rintro _ _ ⟨rfl, rfl⟩ -
  refine w_astore_n (ls' := [some (vR 0 0 0), some (vI (nI c)), some (vI (n)), some (vR 5 0 c), none]) dX10_hears_8 rfl ?_
  refine w_aload_n dX10_hears_9 rfl ?_
  refine w_ifnull (tgt := 23) dX10_hears_10 (by decide) (fun h => by cases h) (fun _ _ => ?_)
  refine w_iload_n dX10_hears_13 rfl ?_
  refine w_iconst (v := 0) dX10_hears_14 (by decide) ?_
  refine w_bipush (v := 30) dX10_hears_15 (by decide) ?_
  refine w_callS (as := [vI (n), vI (0), vI (30)]) (st := []) (Tri.mono (c_X10_within (n) (0) (30)) (Nat.le_of_ble_eq_true rfl)) tg_X10_within lk_X10_158 sa_X10_within rfl dX10_hears_17 rfl (Nat.le_of_ble_eq_true rfl) (Nat.le_refl _) (Nat.le_refl _) ?_
  rintro _ _ ⟨rfl, rfl⟩ -
  refine w_top (y := bI (0 ≤ n.toInt ∧ n.toInt ≤ 30)) (show (bI ((0 : Int32) ≤ (n) ∧ (n) ≤ (30 : Int32)) : Int32) = bI (0 ≤ n.toInt ∧ n.toInt ≤ 30) from wiZ (X := n.toInt) (A := 0) (B := 30) rfl (by decide) (by decide)) ?_
  refine w_ifne_b (tgt := 25) dX10_hears_20 (by decide) (fun h1 => ?_) (fun h1 => ?_)
  · skip
    first
    | (exfalso; omega)
    | skip
      exfalso
      omega
  · skip
    first
    | (exfalso; omega)
    | skip
      refine w_iconst (v := (-1)) dX10_hears_23 (by decide) ?_
      exact w_ireturn dX10_hears_24 rfl (rfl) rfl (⟨rfl, _, _, rfl, FrQ.rf⟩)

theorem q_hears_n {I : xF4 Int32} {L : xF4 Int64} {a : aA} (hs : SI I a) (hw : WF a) {c : Nat} (hcc : c < nC a) {n : Int32} (hx : n.toInt < ((0 : Nat) : Int) ∨ ((30 : Nat) : Int) < n.toInt) : Tri 19 109 m_X11_hears [vR 30 0 0, vI (nI c), vI (n)] (rM I L) (pMq (vI (-1)) I) := by
  refine ⟨k_X11_hears, Nat.le_of_ble_eq_true rfl, ?_⟩
  show Wp _ _ _ 0 [some (vR 30 0 0), some (vI (nI c)), some (vI (n))] [] (rM I L) _
  obtain ⟨hJ, hC, hG, hD, hR, -⟩ := id hw
  obtain ⟨fc0, fc1, fc2, fc3, fc4, fc5, fc6, fc7, fc8⟩ := hw.2.2.2.2.2.2.1 c hcc
  refine w_aload_n dX11_hears_0 rfl ?_
  refine w_iload_n dX11_hears_1 rfl ?_
  refine w_callV (as := [vI (nI c)]) (st := []) (Tri.mono (d_isCase (hs.2.1) (by omega) (x := nI c) (X := ((c : Nat) : Int)) (z_nI (by omega))) (Nat.le_of_ble_eq_true rfl)) rfl rfl tg_X11_isCase lk_X11_204 in_X11_isCase se_X11_isCase rfl dX11_hears_2 rfl (Nat.le_of_ble_eq_true rfl) (Nat.le_refl _) (Nat.le_refl _) ?_
  rintro _ _ ⟨rfl, rfl⟩ -
  refine w_ifeq_b (tgt := 20) dX11_hears_5 (by decide) (fun h1 => ?_) (fun h1 => ?_)
  · skip
    first
    | (exfalso; omega)
    | skip
      refine w_iconst (v := (-1)) dX11_hears_20 (by decide) ?_
      exact w_ireturn dX11_hears_21 rfl (rfl) rfl (⟨rfl, _, _, rfl, FrR.rf⟩)
  · skip
    first
    | (exfalso; omega)
    | skip
      refine w_iload_n dX11_hears_8 rfl ?_
      refine w_i2l dX11_hears_9 ?_
      refine w_lconst (v := 0) dX11_hears_10 (by decide) ?_
      refine w_ldc2 dX11_hears_11 cq_X11_231 ?_
      refine w_callS (as := [vL ((n : Int32).toInt64), vL (0), vL (30)]) (st := []) (Tri.mono (d_in ((n : Int32).toInt64) (0) (30)) (Nat.le_of_ble_eq_true rfl)) tg_X11_in lk_X11_66 sa_X11_in rfl dX11_hears_14 rfl (Nat.le_of_ble_eq_true rfl) (Nat.le_refl _) (Nat.le_refl _) ?_
      rintro _ _ ⟨rfl, rfl⟩ -
      refine w_top (y := bI (0 ≤ n.toInt ∧ n.toInt ≤ 30)) (show (bI ((0 : Int64) ≤ ((n : Int32).toInt64) ∧ ((n : Int32).toInt64) ≤ (30 : Int64)) : Int32) = bI (0 ≤ n.toInt ∧ n.toInt ≤ 30) from inZ (x := n) (l := 0) (h := 30) (X := n.toInt) (A := 0) (B := 30) rfl (by decide) (by decide) rfl (by decide) (by decide)) ?_
      refine w_ifne_b (tgt := 22) dX11_hears_17 (by decide) (fun h2 => ?_) (fun h2 => ?_)
      · skip
        first
        | (exfalso; omega)
        | skip
          exfalso
          omega
      · skip
        first
        | (exfalso; omega)
        | skip
          refine w_iconst (v := (-1)) dX11_hears_20 (by decide) ?_
          exact w_ireturn dX11_hears_21 rfl (rfl) rfl (⟨rfl, _, _, rfl, FrR.rf⟩)

theorem p_hears_o {I : xF4 Int32} {L : xF4 Int64} {a : aA} (hc : CourtIs I 0 a) (hw : WF a) {c n : Int32} (hx : c.toInt < 0 ∨ ((nC a : Nat) : Int) ≤ c.toInt) : Tri 19 109 m_X10_hears [vR 0 0 0, vI (c), vI (n)] (rM I L) (pCq (vI (-1)) I) := by
  refine ⟨k_X10_hears, Nat.le_of_ble_eq_true rfl, ?_⟩
  show Wp _ _ _ 0 [some (vR 0 0 0), some (vI (c)), some (vI (n)), none, none] [] (rM I L) _
  obtain ⟨hJ, hC, hG, hD, hR, -⟩ := id hw
  refine w_aload_n dX10_hears_0 rfl ?_
  refine w_getR (w := some (1, 0, 0)) ff_X10_10 rfl rfl dX10_hears_1 rfl ?_
  refine w_iload_n dX10_hears_4 rfl ?_
  refine w_callV (as := [vI (c)]) (st := []) (Tri.mono (c_sAtO hc hw (z_out (by omega) hx)) (Nat.le_of_ble_eq_true rfl)) rfl rfl tg_X1_suitAt lk_X10_136 in_X1_suitAt se_X1_suitAt rfl dX10_hears_5 rfl (Nat.le_of_ble_eq_true rfl) (Nat.le_refl _) (Nat.le_refl _) ?_
  rintro _ _ ⟨rfl, rfl⟩ -
  refine w_astore_n (ls' := [some (vR 0 0 0), some (vI (c)), some (vI (n)), some (vN), none]) dX10_hears_8 rfl ?_
  refine w_aload_n dX10_hears_9 rfl ?_
  refine w_ifnull (tgt := 23) dX10_hears_10 (by decide) (fun _ => ?_) (fun _ h => by cases h)
  refine w_iconst (v := (-1)) dX10_hears_23 (by decide) ?_
  exact w_ireturn dX10_hears_24 rfl (rfl) rfl (⟨rfl, _, _, rfl, FrQ.rf⟩)

theorem q_hears_o {I : xF4 Int32} {L : xF4 Int64} {a : aA} (hs : SI I a) (hw : WF a) {c n : Int32} (hx : c.toInt < 0 ∨ ((nC a : Nat) : Int) ≤ c.toInt) : Tri 19 109 m_X11_hears [vR 30 0 0, vI (c), vI (n)] (rM I L) (pMq (vI (-1)) I) := by
  refine ⟨k_X11_hears, Nat.le_of_ble_eq_true rfl, ?_⟩
  show Wp _ _ _ 0 [some (vR 30 0 0), some (vI (c)), some (vI (n))] [] (rM I L) _
  obtain ⟨hJ, hC, hG, hD, hR, -⟩ := id hw
  refine w_aload_n dX11_hears_0 rfl ?_
  refine w_iload_n dX11_hears_1 rfl ?_
  refine w_callV (as := [vI (c)]) (st := []) (Tri.mono (d_isCase (hs.2.1) (by omega) (x := c) (X := c.toInt) rfl) (Nat.le_of_ble_eq_true rfl)) rfl rfl tg_X11_isCase lk_X11_204 in_X11_isCase se_X11_isCase rfl dX11_hears_2 rfl (Nat.le_of_ble_eq_true rfl) (Nat.le_refl _) (Nat.le_refl _) ?_
  rintro _ _ ⟨rfl, rfl⟩ -
  refine w_ifeq_b (tgt := 20) dX11_hears_5 (by decide) (fun h1 => ?_) (fun h1 => ?_)
  · skip
    first
    | (exfalso; omega)
    | skip
      refine w_iconst (v := (-1)) dX11_hears_20 (by decide) ?_
      exact w_ireturn dX11_hears_21 rfl (rfl) rfl (⟨rfl, _, _, rfl, FrR.rf⟩)
  · skip
    first
    | (exfalso; omega)
    | skip
      refine w_iload_n dX11_hears_8 rfl ?_
      refine w_i2l dX11_hears_9 ?_
      refine w_lconst (v := 0) dX11_hears_10 (by decide) ?_
      refine w_ldc2 dX11_hears_11 cq_X11_231 ?_
      refine w_callS (as := [vL ((n : Int32).toInt64), vL (0), vL (30)]) (st := []) (Tri.mono (d_in ((n : Int32).toInt64) (0) (30)) (Nat.le_of_ble_eq_true rfl)) tg_X11_in lk_X11_66 sa_X11_in rfl dX11_hears_14 rfl (Nat.le_of_ble_eq_true rfl) (Nat.le_refl _) (Nat.le_refl _) ?_
      rintro _ _ ⟨rfl, rfl⟩ -
      refine w_top (y := bI (0 ≤ n.toInt ∧ n.toInt ≤ 30)) (show (bI ((0 : Int64) ≤ ((n : Int32).toInt64) ∧ ((n : Int32).toInt64) ≤ (30 : Int64)) : Int32) = bI (0 ≤ n.toInt ∧ n.toInt ≤ 30) from inZ (x := n) (l := 0) (h := 30) (X := n.toInt) (A := 0) (B := 30) rfl (by decide) (by decide) rfl (by decide) (by decide)) ?_
      refine w_ifne_b (tgt := 22) dX11_hears_17 (by decide) (fun h2 => ?_) (fun h2 => ?_)
      · skip
        first
        | (exfalso; omega)
        | skip
          exfalso
          omega
      · skip
        first
        | (exfalso; omega)
        | skip
          refine w_iconst (v := (-1)) dX11_hears_20 (by decide) ?_
          exact w_ireturn dX11_hears_21 rfl (rfl) rfl (⟨rfl, _, _, rfl, FrR.rf⟩)

theorem idle_eq {a : aA} (hw : WF a) {n : Nat} (hd : dY a + n ≤ 2000) : nI (n * nJ a) - nI (popN (newN (heardN (itN (List.range (nJ a)) a n)) (heardN a))) = nI (idT 0 (List.range (nJ a)) a n) := by
  obtain ⟨q1, q2, q3⟩ := it_new hw (ss := List.range (nJ a)) (fun j h => range_in h) hd
  have h := idT_cnt (ab := 0) hw (ss := List.range (nJ a)) (fun j h => range_in h) n hd
  rw [presB_0, List.length_range] at h
  rw [← q2, pk_sub (by omega)]
  exact congrArg nI (by omega)
theorem foldB_0 {ss : List Nat} {a : aA} {k : Nat} : dayN (foldB 0 ss (itN ss a k)) = itN ss a (k + 1) := by
  rw [foldB_eq, presB_0]
  rfl
theorem idT_s {ss : List Nat} {a : aA} {k : Nat} : nI (idT 0 ss a k) + nI (idF 0 ss (itN ss a k)) = nI (idT 0 ss a (k + 1)) := by
  rw [nI_add, idT, presB_0]

set_option maxHeartbeats 1000000 in
theorem l_docketM {L : xF4 Int64} {a : aA} (hw : WF a) {n : Nat} (hn : n ≤ 30) (hd9 : dY a ≤ 999) {what : Int32} {I0 : xF4 Int32} {Q : Option xV → xM → Prop} (hk : ∀ (I : xF4 Int32) (o6 : Option xV), MI I (itN (List.range (nJ a)) a n) → I 30 0 0 19 = nI (idT 0 (List.range (nJ a)) a n) → FrG I0 I → Wp 19 109 m_X11_docket 121 [some (vR 30 0 0), some (vI (nI n)), some (vI (what)), some (vI (byI (cbF (List.range (nJ a)) a n))), some (vI (nI (heardN a))), some (vI (nI (n + 1))), o6] [] (rM I L) Q) : ∀ (m k : Nat) (I : xF4 Int32) (o6 : Option xV), k + m = n → MI I (itN (List.range (nJ a)) a k) → SitsIs I (List.range (nJ a)) → I 30 0 0 18 = nI 0 → I 30 0 0 19 = nI (idT 0 (List.range (nJ a)) a k) → FrG I0 I → Wp 19 109 m_X11_docket 52 [some (vR 30 0 0), some (vI (nI n)), some (vI (what)), some (vI (byI (cbP (List.range (nJ a)) a k))), some (vI (nI (heardN a))), some (vI (nI k)), o6] [] (rM I L) Q := by
  intro m
  induction m with
  | zero =>
    intro k I o6 hkn hm hs hab hid hf
    have e : k = n := by omega
    subst e
    obtain ⟨hJ, hC, hG, hD, hR, -⟩ := id hw
    have hwk := hw.it (ss := (List.range (nJ a))) (fun j h => range_in h) k (by omega)
    obtain ⟨q1, q2, q3, q4⟩ := itN_k (List.range (nJ a)) a k
    have hal := awayN_lt hwk
    have hcl := clearB_iff (a := itN (List.range (nJ a)) a k)
    cases hcb : cbP (List.range (nJ a)) a k with
    | none =>
      rw [show (byI (none) : Int32) = (-4) from rfl]
      refine w_iload dX11_docket_52 rfl ?_
      refine w_iload_n dX11_docket_54 rfl ?_
      refine w_icmp_gt (tgt := 121) dX11_docket_55 (by decide) (fun h => absurd h ((fun q => absurd ((nI_ltI (by omega) (by omega)).mp q) (by omega)))) (fun _ => ?_)
      refine w_aload_n dX11_docket_58 rfl ?_
      refine w_callV (as := []) (st := []) (Tri.mono (d_away hm hwk) (Nat.le_of_ble_eq_true rfl)) rfl rfl tg_X11_away lk_X11_195 in_X11_away se_X11_away rfl dX11_docket_59 rfl (Nat.le_of_ble_eq_true rfl) (Nat.le_refl _) (Nat.le_refl _) ?_
      rintro _ _ ⟨rfl, rfl⟩ -
      refine w_if_ne (tgt := 84) dX11_docket_62 (by decide) (fun h1 => ?_) (fun h1 => ?_)
      · skip
        replace h1 : ¬ (((awayN (itN (List.range (nJ a)) a k) : Nat) : Int) = 0) := fun q => h1 ((zeq (z_nI (by omega)) (by decide)).mpr q)
        first
        | (exfalso; omega)
        | skip
          refine w_iconst (v := 0) dX11_docket_84 (by decide) ?_
          have hcl1 : ¬ clearB (itN (List.range (nJ a)) a k) = true := fun q => by first | exact h1 (by have q1 := (hcl.mp q).1; omega) | exact h2 ((full_N hwk).mpr (hcl.mp q).2)
          refine w_istore (ls' := [some (vR 30 0 0), some (vI (nI k)), some (vI (what)), some (vI ((-4))), some (vI (nI (heardN a))), some (vI (nI k)), some (vI (0))]) dX11_docket_85 rfl ?_
          refine w_iload dX11_docket_87 rfl ?_
          refine w_if_eq (tgt := 103) dX11_docket_89 (by decide) (fun _ => ?_) (fun h => absurd (by decide) h)
          refine w_iload_n dX11_docket_103 rfl ?_
          refine w_top (y := byI (cbF (List.range (nJ a)) a k)) (show ((-4) : Int32) = byI (cbF (List.range (nJ a)) a k) from by rw [cbF_n hcb hcl1]; rfl) ?_
          refine w_istore_n (ls' := [some (vR 30 0 0), some (vI (nI k)), some (vI (what)), some (vI (byI (cbF (List.range (nJ a)) a k))), some (vI (nI (heardN a))), some (vI (nI k)), some (vI (0))]) dX11_docket_104 rfl ?_
          refine w_iload dX11_docket_105 rfl ?_
          refine w_iload_n dX11_docket_107 rfl ?_
          refine w_icmp_ge (tgt := 115) dX11_docket_108 (by decide) (fun _ => ?_) (fun h => absurd (nI_le (by omega) (by omega)) h)
          refine w_iinc (v := nI (k + 1)) (ls' := [some (vR 30 0 0), some (vI (nI k)), some (vI (what)), some (vI (byI (cbF (List.range (nJ a)) a k))), some (vI (nI (heardN a))), some (vI (nI (k + 1))), some (vI (0))]) dX11_docket_115 rfl (nI_1 _) rfl ?_
          refine w_goto (tgt := 52) dX11_docket_118 (by decide) ?_
          refine w_iload dX11_docket_52 rfl ?_
          refine w_iload_n dX11_docket_54 rfl ?_
          refine w_icmp_gt (tgt := 121) dX11_docket_55 (by decide) (fun _ => ?_) (fun h => absurd (nI_lt (Nat.lt_succ_self _) (by omega)) h)
          exact hk _ _ hm hid hf
      · skip
        replace h1 : ((awayN (itN (List.range (nJ a)) a k) : Nat) : Int) = 0 := (zeq (z_nI (by omega)) (by decide)).mp h1
        first
        | (exfalso; omega)
        | skip
          refine w_aload_n dX11_docket_65 rfl ?_
          refine w_callV (as := []) (st := []) (Tri.mono (d_heard hm hwk) (Nat.le_of_ble_eq_true rfl)) rfl rfl tg_X11_heard lk_X11_183 in_X11_heard se_X11_heard rfl dX11_docket_66 rfl (Nat.le_of_ble_eq_true rfl) (Nat.le_refl _) (Nat.le_refl _) ?_
          rintro _ _ ⟨rfl, rfl⟩ -
          refine w_iconst (v := 1) dX11_docket_69 (by decide) ?_
          refine w_aload_n dX11_docket_70 rfl ?_
          refine w_getI ff_X11_61 rfl rfl dX11_docket_71 ?_
          rw [show (I 30 0 0 4 : Int32) = nI (nC (itN (List.range (nJ a)) a k)) from hm.2.1]
          refine w_ishl dX11_docket_74 ?_
          refine w_iconst (v := 1) dX11_docket_75 (by decide) ?_
          refine w_isub dX11_docket_76 ?_
          refine w_icmp_ne (tgt := 84) dX11_docket_77 (by decide) (fun h2 => ?_) (fun h2 => ?_)
          · skip
            first
            | (exfalso; omega)
            | skip
              refine w_iconst (v := 0) dX11_docket_84 (by decide) ?_
              have hcl1 : ¬ clearB (itN (List.range (nJ a)) a k) = true := fun q => by first | exact h1 (by have q1 := (hcl.mp q).1; omega) | exact h2 ((full_N hwk).mpr (hcl.mp q).2)
              refine w_istore (ls' := [some (vR 30 0 0), some (vI (nI k)), some (vI (what)), some (vI ((-4))), some (vI (nI (heardN a))), some (vI (nI k)), some (vI (0))]) dX11_docket_85 rfl ?_
              refine w_iload dX11_docket_87 rfl ?_
              refine w_if_eq (tgt := 103) dX11_docket_89 (by decide) (fun _ => ?_) (fun h => absurd (by decide) h)
              refine w_iload_n dX11_docket_103 rfl ?_
              refine w_top (y := byI (cbF (List.range (nJ a)) a k)) (show ((-4) : Int32) = byI (cbF (List.range (nJ a)) a k) from by rw [cbF_n hcb hcl1]; rfl) ?_
              refine w_istore_n (ls' := [some (vR 30 0 0), some (vI (nI k)), some (vI (what)), some (vI (byI (cbF (List.range (nJ a)) a k))), some (vI (nI (heardN a))), some (vI (nI k)), some (vI (0))]) dX11_docket_104 rfl ?_
              refine w_iload dX11_docket_105 rfl ?_
              refine w_iload_n dX11_docket_107 rfl ?_
              refine w_icmp_ge (tgt := 115) dX11_docket_108 (by decide) (fun _ => ?_) (fun h => absurd (nI_le (by omega) (by omega)) h)
              refine w_iinc (v := nI (k + 1)) (ls' := [some (vR 30 0 0), some (vI (nI k)), some (vI (what)), some (vI (byI (cbF (List.range (nJ a)) a k))), some (vI (nI (heardN a))), some (vI (nI (k + 1))), some (vI (0))]) dX11_docket_115 rfl (nI_1 _) rfl ?_
              refine w_goto (tgt := 52) dX11_docket_118 (by decide) ?_
              refine w_iload dX11_docket_52 rfl ?_
              refine w_iload_n dX11_docket_54 rfl ?_
              refine w_icmp_gt (tgt := 121) dX11_docket_55 (by decide) (fun _ => ?_) (fun h => absurd (nI_lt (Nat.lt_succ_self _) (by omega)) h)
              exact hk _ _ hm hid hf
          · skip
            first
            | (exfalso; omega)
            | skip
              refine w_iconst (v := 1) dX11_docket_80 (by decide) ?_
              refine w_goto (tgt := 85) dX11_docket_81 (by decide) ?_
              have hcl1 : clearB (itN (List.range (nJ a)) a k) = true := hcl.mpr ⟨by omega, (full_N hwk).mp h2⟩
              refine w_istore (ls' := [some (vR 30 0 0), some (vI (nI k)), some (vI (what)), some (vI ((-4))), some (vI (nI (heardN a))), some (vI (nI k)), some (vI (1))]) dX11_docket_85 rfl ?_
              refine w_iload dX11_docket_87 rfl ?_
              refine w_if_eq (tgt := 103) dX11_docket_89 (by decide) (fun h => absurd h (by decide)) (fun _ => ?_)
              refine w_iload_n dX11_docket_92 rfl ?_
              refine w_bipush (v := (-4)) dX11_docket_93 (by decide) ?_
              refine w_icmp_ne (tgt := 103) dX11_docket_95 (by decide) (fun h => absurd ((rfl : (-4 : Int32) = -4)) h) (fun _ => ?_)
              refine w_iload dX11_docket_98 rfl ?_
              refine w_goto (tgt := 104) dX11_docket_100 (by decide) ?_
              refine w_top (y := byI (cbF (List.range (nJ a)) a k)) (show (nI k : Int32) = byI (cbF (List.range (nJ a)) a k) from by rw [cbF_t hcb hcl1]; rfl) ?_
              refine w_istore_n (ls' := [some (vR 30 0 0), some (vI (nI k)), some (vI (what)), some (vI (byI (cbF (List.range (nJ a)) a k))), some (vI (nI (heardN a))), some (vI (nI k)), some (vI (1))]) dX11_docket_104 rfl ?_
              refine w_iload dX11_docket_105 rfl ?_
              refine w_iload_n dX11_docket_107 rfl ?_
              refine w_icmp_ge (tgt := 115) dX11_docket_108 (by decide) (fun _ => ?_) (fun h => absurd (nI_le (by omega) (by omega)) h)
              refine w_iinc (v := nI (k + 1)) (ls' := [some (vR 30 0 0), some (vI (nI k)), some (vI (what)), some (vI (byI (cbF (List.range (nJ a)) a k))), some (vI (nI (heardN a))), some (vI (nI (k + 1))), some (vI (1))]) dX11_docket_115 rfl (nI_1 _) rfl ?_
              refine w_goto (tgt := 52) dX11_docket_118 (by decide) ?_
              refine w_iload dX11_docket_52 rfl ?_
              refine w_iload_n dX11_docket_54 rfl ?_
              refine w_icmp_gt (tgt := 121) dX11_docket_55 (by decide) (fun _ => ?_) (fun h => absurd (nI_lt (Nat.lt_succ_self _) (by omega)) h)
              exact hk _ _ hm hid hf
    | some x =>
      have hx60 := cbP_le hcb
      rw [show (byI (some x) : Int32) = nI x from rfl]
      refine w_iload dX11_docket_52 rfl ?_
      refine w_iload_n dX11_docket_54 rfl ?_
      refine w_icmp_gt (tgt := 121) dX11_docket_55 (by decide) (fun h => absurd h ((fun q => absurd ((nI_ltI (by omega) (by omega)).mp q) (by omega)))) (fun _ => ?_)
      refine w_aload_n dX11_docket_58 rfl ?_
      refine w_callV (as := []) (st := []) (Tri.mono (d_away hm hwk) (Nat.le_of_ble_eq_true rfl)) rfl rfl tg_X11_away lk_X11_195 in_X11_away se_X11_away rfl dX11_docket_59 rfl (Nat.le_of_ble_eq_true rfl) (Nat.le_refl _) (Nat.le_refl _) ?_
      rintro _ _ ⟨rfl, rfl⟩ -
      refine w_if_ne (tgt := 84) dX11_docket_62 (by decide) (fun h1 => ?_) (fun h1 => ?_)
      · skip
        replace h1 : ¬ (((awayN (itN (List.range (nJ a)) a k) : Nat) : Int) = 0) := fun q => h1 ((zeq (z_nI (by omega)) (by decide)).mpr q)
        first
        | (exfalso; omega)
        | skip
          refine w_iconst (v := 0) dX11_docket_84 (by decide) ?_
          have hcl1 : ¬ clearB (itN (List.range (nJ a)) a k) = true := fun q => by first | exact h1 (by have q1 := (hcl.mp q).1; omega) | exact h2 ((full_N hwk).mpr (hcl.mp q).2)
          refine w_istore (ls' := [some (vR 30 0 0), some (vI (nI k)), some (vI (what)), some (vI (nI x)), some (vI (nI (heardN a))), some (vI (nI k)), some (vI (0))]) dX11_docket_85 rfl ?_
          refine w_iload dX11_docket_87 rfl ?_
          refine w_if_eq (tgt := 103) dX11_docket_89 (by decide) (fun _ => ?_) (fun h => absurd (by decide) h)
          refine w_iload_n dX11_docket_103 rfl ?_
          refine w_top (y := byI (cbF (List.range (nJ a)) a k)) (show (nI x : Int32) = byI (cbF (List.range (nJ a)) a k) from by rw [cbF_s hcb]; rfl) ?_
          refine w_istore_n (ls' := [some (vR 30 0 0), some (vI (nI k)), some (vI (what)), some (vI (byI (cbF (List.range (nJ a)) a k))), some (vI (nI (heardN a))), some (vI (nI k)), some (vI (0))]) dX11_docket_104 rfl ?_
          refine w_iload dX11_docket_105 rfl ?_
          refine w_iload_n dX11_docket_107 rfl ?_
          refine w_icmp_ge (tgt := 115) dX11_docket_108 (by decide) (fun _ => ?_) (fun h => absurd (nI_le (by omega) (by omega)) h)
          refine w_iinc (v := nI (k + 1)) (ls' := [some (vR 30 0 0), some (vI (nI k)), some (vI (what)), some (vI (byI (cbF (List.range (nJ a)) a k))), some (vI (nI (heardN a))), some (vI (nI (k + 1))), some (vI (0))]) dX11_docket_115 rfl (nI_1 _) rfl ?_
          refine w_goto (tgt := 52) dX11_docket_118 (by decide) ?_
          refine w_iload dX11_docket_52 rfl ?_
          refine w_iload_n dX11_docket_54 rfl ?_
          refine w_icmp_gt (tgt := 121) dX11_docket_55 (by decide) (fun _ => ?_) (fun h => absurd (nI_lt (Nat.lt_succ_self _) (by omega)) h)
          exact hk _ _ hm hid hf
      · skip
        replace h1 : ((awayN (itN (List.range (nJ a)) a k) : Nat) : Int) = 0 := (zeq (z_nI (by omega)) (by decide)).mp h1
        first
        | (exfalso; omega)
        | skip
          refine w_aload_n dX11_docket_65 rfl ?_
          refine w_callV (as := []) (st := []) (Tri.mono (d_heard hm hwk) (Nat.le_of_ble_eq_true rfl)) rfl rfl tg_X11_heard lk_X11_183 in_X11_heard se_X11_heard rfl dX11_docket_66 rfl (Nat.le_of_ble_eq_true rfl) (Nat.le_refl _) (Nat.le_refl _) ?_
          rintro _ _ ⟨rfl, rfl⟩ -
          refine w_iconst (v := 1) dX11_docket_69 (by decide) ?_
          refine w_aload_n dX11_docket_70 rfl ?_
          refine w_getI ff_X11_61 rfl rfl dX11_docket_71 ?_
          rw [show (I 30 0 0 4 : Int32) = nI (nC (itN (List.range (nJ a)) a k)) from hm.2.1]
          refine w_ishl dX11_docket_74 ?_
          refine w_iconst (v := 1) dX11_docket_75 (by decide) ?_
          refine w_isub dX11_docket_76 ?_
          refine w_icmp_ne (tgt := 84) dX11_docket_77 (by decide) (fun h2 => ?_) (fun h2 => ?_)
          · skip
            first
            | (exfalso; omega)
            | skip
              refine w_iconst (v := 0) dX11_docket_84 (by decide) ?_
              have hcl1 : ¬ clearB (itN (List.range (nJ a)) a k) = true := fun q => by first | exact h1 (by have q1 := (hcl.mp q).1; omega) | exact h2 ((full_N hwk).mpr (hcl.mp q).2)
              refine w_istore (ls' := [some (vR 30 0 0), some (vI (nI k)), some (vI (what)), some (vI (nI x)), some (vI (nI (heardN a))), some (vI (nI k)), some (vI (0))]) dX11_docket_85 rfl ?_
              refine w_iload dX11_docket_87 rfl ?_
              refine w_if_eq (tgt := 103) dX11_docket_89 (by decide) (fun _ => ?_) (fun h => absurd (by decide) h)
              refine w_iload_n dX11_docket_103 rfl ?_
              refine w_top (y := byI (cbF (List.range (nJ a)) a k)) (show (nI x : Int32) = byI (cbF (List.range (nJ a)) a k) from by rw [cbF_s hcb]; rfl) ?_
              refine w_istore_n (ls' := [some (vR 30 0 0), some (vI (nI k)), some (vI (what)), some (vI (byI (cbF (List.range (nJ a)) a k))), some (vI (nI (heardN a))), some (vI (nI k)), some (vI (0))]) dX11_docket_104 rfl ?_
              refine w_iload dX11_docket_105 rfl ?_
              refine w_iload_n dX11_docket_107 rfl ?_
              refine w_icmp_ge (tgt := 115) dX11_docket_108 (by decide) (fun _ => ?_) (fun h => absurd (nI_le (by omega) (by omega)) h)
              refine w_iinc (v := nI (k + 1)) (ls' := [some (vR 30 0 0), some (vI (nI k)), some (vI (what)), some (vI (byI (cbF (List.range (nJ a)) a k))), some (vI (nI (heardN a))), some (vI (nI (k + 1))), some (vI (0))]) dX11_docket_115 rfl (nI_1 _) rfl ?_
              refine w_goto (tgt := 52) dX11_docket_118 (by decide) ?_
              refine w_iload dX11_docket_52 rfl ?_
              refine w_iload_n dX11_docket_54 rfl ?_
              refine w_icmp_gt (tgt := 121) dX11_docket_55 (by decide) (fun _ => ?_) (fun h => absurd (nI_lt (Nat.lt_succ_self _) (by omega)) h)
              exact hk _ _ hm hid hf
          · skip
            first
            | (exfalso; omega)
            | skip
              refine w_iconst (v := 1) dX11_docket_80 (by decide) ?_
              refine w_goto (tgt := 85) dX11_docket_81 (by decide) ?_
              have hcl1 : clearB (itN (List.range (nJ a)) a k) = true := hcl.mpr ⟨by omega, (full_N hwk).mp h2⟩
              refine w_istore (ls' := [some (vR 30 0 0), some (vI (nI k)), some (vI (what)), some (vI (nI x)), some (vI (nI (heardN a))), some (vI (nI k)), some (vI (1))]) dX11_docket_85 rfl ?_
              refine w_iload dX11_docket_87 rfl ?_
              refine w_if_eq (tgt := 103) dX11_docket_89 (by decide) (fun h => absurd h (by decide)) (fun _ => ?_)
              refine w_iload_n dX11_docket_92 rfl ?_
              refine w_bipush (v := (-4)) dX11_docket_93 (by decide) ?_
              refine w_icmp_ne (tgt := 103) dX11_docket_95 (by decide) (fun _ => ?_) (fun h => absurd h (nI_m4 x (by omega)))
              refine w_iload_n dX11_docket_103 rfl ?_
              refine w_top (y := byI (cbF (List.range (nJ a)) a k)) (show (nI x : Int32) = byI (cbF (List.range (nJ a)) a k) from by rw [cbF_s hcb]; rfl) ?_
              refine w_istore_n (ls' := [some (vR 30 0 0), some (vI (nI k)), some (vI (what)), some (vI (byI (cbF (List.range (nJ a)) a k))), some (vI (nI (heardN a))), some (vI (nI k)), some (vI (1))]) dX11_docket_104 rfl ?_
              refine w_iload dX11_docket_105 rfl ?_
              refine w_iload_n dX11_docket_107 rfl ?_
              refine w_icmp_ge (tgt := 115) dX11_docket_108 (by decide) (fun _ => ?_) (fun h => absurd (nI_le (by omega) (by omega)) h)
              refine w_iinc (v := nI (k + 1)) (ls' := [some (vR 30 0 0), some (vI (nI k)), some (vI (what)), some (vI (byI (cbF (List.range (nJ a)) a k))), some (vI (nI (heardN a))), some (vI (nI (k + 1))), some (vI (1))]) dX11_docket_115 rfl (nI_1 _) rfl ?_
              refine w_goto (tgt := 52) dX11_docket_118 (by decide) ?_
              refine w_iload dX11_docket_52 rfl ?_
              refine w_iload_n dX11_docket_54 rfl ?_
              refine w_icmp_gt (tgt := 121) dX11_docket_55 (by decide) (fun _ => ?_) (fun h => absurd (nI_lt (Nat.lt_succ_self _) (by omega)) h)
              exact hk _ _ hm hid hf
  | succ m ih =>
    intro k I o6 hkn hm hs hab hid hf
    have hlt : k < n := by omega
    obtain ⟨hJ, hC, hG, hD, hR, -⟩ := id hw
    have hwk := hw.it (ss := (List.range (nJ a))) (fun j h => range_in h) k (by omega)
    obtain ⟨q1, q2, q3, q4⟩ := itN_k (List.range (nJ a)) a k
    have hal := awayN_lt hwk
    have hcl := clearB_iff (a := itN (List.range (nJ a)) a k)
    cases hcb : cbP (List.range (nJ a)) a k with
    | none =>
      rw [show (byI (none) : Int32) = (-4) from rfl]
      refine w_iload dX11_docket_52 rfl ?_
      refine w_iload_n dX11_docket_54 rfl ?_
      refine w_icmp_gt (tgt := 121) dX11_docket_55 (by decide) (fun h => absurd h ((fun q => absurd ((nI_ltI (by omega) (by omega)).mp q) (by omega)))) (fun _ => ?_)
      refine w_aload_n dX11_docket_58 rfl ?_
      refine w_callV (as := []) (st := []) (Tri.mono (d_away hm hwk) (Nat.le_of_ble_eq_true rfl)) rfl rfl tg_X11_away lk_X11_195 in_X11_away se_X11_away rfl dX11_docket_59 rfl (Nat.le_of_ble_eq_true rfl) (Nat.le_refl _) (Nat.le_refl _) ?_
      rintro _ _ ⟨rfl, rfl⟩ -
      refine w_if_ne (tgt := 84) dX11_docket_62 (by decide) (fun h1 => ?_) (fun h1 => ?_)
      · skip
        replace h1 : ¬ (((awayN (itN (List.range (nJ a)) a k) : Nat) : Int) = 0) := fun q => h1 ((zeq (z_nI (by omega)) (by decide)).mpr q)
        first
        | (exfalso; omega)
        | skip
          refine w_iconst (v := 0) dX11_docket_84 (by decide) ?_
          have hcl1 : ¬ clearB (itN (List.range (nJ a)) a k) = true := fun q => by first | exact h1 (by have q1 := (hcl.mp q).1; omega) | exact h2 ((full_N hwk).mpr (hcl.mp q).2)
          refine w_istore (ls' := [some (vR 30 0 0), some (vI (nI n)), some (vI (what)), some (vI ((-4))), some (vI (nI (heardN a))), some (vI (nI k)), some (vI (0))]) dX11_docket_85 rfl ?_
          refine w_iload dX11_docket_87 rfl ?_
          refine w_if_eq (tgt := 103) dX11_docket_89 (by decide) (fun _ => ?_) (fun h => absurd (by decide) h)
          refine w_iload_n dX11_docket_103 rfl ?_
          refine w_top (y := byI (cbF (List.range (nJ a)) a k)) (show ((-4) : Int32) = byI (cbF (List.range (nJ a)) a k) from by rw [cbF_n hcb hcl1]; rfl) ?_
          refine w_istore_n (ls' := [some (vR 30 0 0), some (vI (nI n)), some (vI (what)), some (vI (byI (cbF (List.range (nJ a)) a k))), some (vI (nI (heardN a))), some (vI (nI k)), some (vI (0))]) dX11_docket_104 rfl ?_
          refine w_iload dX11_docket_105 rfl ?_
          refine w_iload_n dX11_docket_107 rfl ?_
          refine w_icmp_ge (tgt := 115) dX11_docket_108 (by decide) (fun h => absurd h (nI_ge hlt (by omega))) (fun _ => ?_)
          refine w_aload_n dX11_docket_111 rfl ?_
          refine w_callV (as := []) (st := []) (Tri.mono (d_docketGoes hm hwk (ab := 0) (ss := (List.range (nJ a))) (by decide) (by rw [List.length_range, q1]) hs (fun j h => by rw [q1]; exact range_in h) hab hid) (Nat.le_of_ble_eq_true rfl)) rfl rfl tg_X11_docketGoes lk_X11_189 in_X11_docketGoes se_X11_docketGoes rfl dX11_docket_112 rfl (Nat.le_of_ble_eq_true rfl) (Nat.le_refl _) (Nat.le_refl _) ?_
          rintro v M9 ⟨rfl, I1, rfl, g1, g2, g3⟩ -
          rw [foldB_0] at g1
          rw [idT_s] at g2
          refine w_iinc (v := nI (k + 1)) (ls' := [some (vR 30 0 0), some (vI (nI n)), some (vI (what)), some (vI (byI (cbF (List.range (nJ a)) a k))), some (vI (nI (heardN a))), some (vI (nI (k + 1))), some (vI (0))]) dX11_docket_115 rfl (nI_1 _) rfl ?_
          refine w_goto (tgt := 52) dX11_docket_118 (by decide) ?_
          exact ih (k + 1) I1 _ (by omega) g1 (fun i j h => (g3 36 0 0 i (by decide) (by omega)).trans (hs i j h)) ((g3 30 0 0 18 (by decide) (by omega)).trans hab) g2 (hf.tr g3)
      · skip
        replace h1 : ((awayN (itN (List.range (nJ a)) a k) : Nat) : Int) = 0 := (zeq (z_nI (by omega)) (by decide)).mp h1
        first
        | (exfalso; omega)
        | skip
          refine w_aload_n dX11_docket_65 rfl ?_
          refine w_callV (as := []) (st := []) (Tri.mono (d_heard hm hwk) (Nat.le_of_ble_eq_true rfl)) rfl rfl tg_X11_heard lk_X11_183 in_X11_heard se_X11_heard rfl dX11_docket_66 rfl (Nat.le_of_ble_eq_true rfl) (Nat.le_refl _) (Nat.le_refl _) ?_
          rintro _ _ ⟨rfl, rfl⟩ -
          refine w_iconst (v := 1) dX11_docket_69 (by decide) ?_
          refine w_aload_n dX11_docket_70 rfl ?_
          refine w_getI ff_X11_61 rfl rfl dX11_docket_71 ?_
          rw [show (I 30 0 0 4 : Int32) = nI (nC (itN (List.range (nJ a)) a k)) from hm.2.1]
          refine w_ishl dX11_docket_74 ?_
          refine w_iconst (v := 1) dX11_docket_75 (by decide) ?_
          refine w_isub dX11_docket_76 ?_
          refine w_icmp_ne (tgt := 84) dX11_docket_77 (by decide) (fun h2 => ?_) (fun h2 => ?_)
          · skip
            first
            | (exfalso; omega)
            | skip
              refine w_iconst (v := 0) dX11_docket_84 (by decide) ?_
              have hcl1 : ¬ clearB (itN (List.range (nJ a)) a k) = true := fun q => by first | exact h1 (by have q1 := (hcl.mp q).1; omega) | exact h2 ((full_N hwk).mpr (hcl.mp q).2)
              refine w_istore (ls' := [some (vR 30 0 0), some (vI (nI n)), some (vI (what)), some (vI ((-4))), some (vI (nI (heardN a))), some (vI (nI k)), some (vI (0))]) dX11_docket_85 rfl ?_
              refine w_iload dX11_docket_87 rfl ?_
              refine w_if_eq (tgt := 103) dX11_docket_89 (by decide) (fun _ => ?_) (fun h => absurd (by decide) h)
              refine w_iload_n dX11_docket_103 rfl ?_
              refine w_top (y := byI (cbF (List.range (nJ a)) a k)) (show ((-4) : Int32) = byI (cbF (List.range (nJ a)) a k) from by rw [cbF_n hcb hcl1]; rfl) ?_
              refine w_istore_n (ls' := [some (vR 30 0 0), some (vI (nI n)), some (vI (what)), some (vI (byI (cbF (List.range (nJ a)) a k))), some (vI (nI (heardN a))), some (vI (nI k)), some (vI (0))]) dX11_docket_104 rfl ?_
              refine w_iload dX11_docket_105 rfl ?_
              refine w_iload_n dX11_docket_107 rfl ?_
              refine w_icmp_ge (tgt := 115) dX11_docket_108 (by decide) (fun h => absurd h (nI_ge hlt (by omega))) (fun _ => ?_)
              refine w_aload_n dX11_docket_111 rfl ?_
              refine w_callV (as := []) (st := []) (Tri.mono (d_docketGoes hm hwk (ab := 0) (ss := (List.range (nJ a))) (by decide) (by rw [List.length_range, q1]) hs (fun j h => by rw [q1]; exact range_in h) hab hid) (Nat.le_of_ble_eq_true rfl)) rfl rfl tg_X11_docketGoes lk_X11_189 in_X11_docketGoes se_X11_docketGoes rfl dX11_docket_112 rfl (Nat.le_of_ble_eq_true rfl) (Nat.le_refl _) (Nat.le_refl _) ?_
              rintro v M9 ⟨rfl, I1, rfl, g1, g2, g3⟩ -
              rw [foldB_0] at g1
              rw [idT_s] at g2
              refine w_iinc (v := nI (k + 1)) (ls' := [some (vR 30 0 0), some (vI (nI n)), some (vI (what)), some (vI (byI (cbF (List.range (nJ a)) a k))), some (vI (nI (heardN a))), some (vI (nI (k + 1))), some (vI (0))]) dX11_docket_115 rfl (nI_1 _) rfl ?_
              refine w_goto (tgt := 52) dX11_docket_118 (by decide) ?_
              exact ih (k + 1) I1 _ (by omega) g1 (fun i j h => (g3 36 0 0 i (by decide) (by omega)).trans (hs i j h)) ((g3 30 0 0 18 (by decide) (by omega)).trans hab) g2 (hf.tr g3)
          · skip
            first
            | (exfalso; omega)
            | skip
              refine w_iconst (v := 1) dX11_docket_80 (by decide) ?_
              refine w_goto (tgt := 85) dX11_docket_81 (by decide) ?_
              have hcl1 : clearB (itN (List.range (nJ a)) a k) = true := hcl.mpr ⟨by omega, (full_N hwk).mp h2⟩
              refine w_istore (ls' := [some (vR 30 0 0), some (vI (nI n)), some (vI (what)), some (vI ((-4))), some (vI (nI (heardN a))), some (vI (nI k)), some (vI (1))]) dX11_docket_85 rfl ?_
              refine w_iload dX11_docket_87 rfl ?_
              refine w_if_eq (tgt := 103) dX11_docket_89 (by decide) (fun h => absurd h (by decide)) (fun _ => ?_)
              refine w_iload_n dX11_docket_92 rfl ?_
              refine w_bipush (v := (-4)) dX11_docket_93 (by decide) ?_
              refine w_icmp_ne (tgt := 103) dX11_docket_95 (by decide) (fun h => absurd ((rfl : (-4 : Int32) = -4)) h) (fun _ => ?_)
              refine w_iload dX11_docket_98 rfl ?_
              refine w_goto (tgt := 104) dX11_docket_100 (by decide) ?_
              refine w_top (y := byI (cbF (List.range (nJ a)) a k)) (show (nI k : Int32) = byI (cbF (List.range (nJ a)) a k) from by rw [cbF_t hcb hcl1]; rfl) ?_
              refine w_istore_n (ls' := [some (vR 30 0 0), some (vI (nI n)), some (vI (what)), some (vI (byI (cbF (List.range (nJ a)) a k))), some (vI (nI (heardN a))), some (vI (nI k)), some (vI (1))]) dX11_docket_104 rfl ?_
              refine w_iload dX11_docket_105 rfl ?_
              refine w_iload_n dX11_docket_107 rfl ?_
              refine w_icmp_ge (tgt := 115) dX11_docket_108 (by decide) (fun h => absurd h (nI_ge hlt (by omega))) (fun _ => ?_)
              refine w_aload_n dX11_docket_111 rfl ?_
              refine w_callV (as := []) (st := []) (Tri.mono (d_docketGoes hm hwk (ab := 0) (ss := (List.range (nJ a))) (by decide) (by rw [List.length_range, q1]) hs (fun j h => by rw [q1]; exact range_in h) hab hid) (Nat.le_of_ble_eq_true rfl)) rfl rfl tg_X11_docketGoes lk_X11_189 in_X11_docketGoes se_X11_docketGoes rfl dX11_docket_112 rfl (Nat.le_of_ble_eq_true rfl) (Nat.le_refl _) (Nat.le_refl _) ?_
              rintro v M9 ⟨rfl, I1, rfl, g1, g2, g3⟩ -
              rw [foldB_0] at g1
              rw [idT_s] at g2
              refine w_iinc (v := nI (k + 1)) (ls' := [some (vR 30 0 0), some (vI (nI n)), some (vI (what)), some (vI (byI (cbF (List.range (nJ a)) a k))), some (vI (nI (heardN a))), some (vI (nI (k + 1))), some (vI (1))]) dX11_docket_115 rfl (nI_1 _) rfl ?_
              refine w_goto (tgt := 52) dX11_docket_118 (by decide) ?_
              exact ih (k + 1) I1 _ (by omega) g1 (fun i j h => (g3 36 0 0 i (by decide) (by omega)).trans (hs i j h)) ((g3 30 0 0 18 (by decide) (by omega)).trans hab) g2 (hf.tr g3)
    | some x =>
      have hx60 := cbP_le hcb
      rw [show (byI (some x) : Int32) = nI x from rfl]
      refine w_iload dX11_docket_52 rfl ?_
      refine w_iload_n dX11_docket_54 rfl ?_
      refine w_icmp_gt (tgt := 121) dX11_docket_55 (by decide) (fun h => absurd h ((fun q => absurd ((nI_ltI (by omega) (by omega)).mp q) (by omega)))) (fun _ => ?_)
      refine w_aload_n dX11_docket_58 rfl ?_
      refine w_callV (as := []) (st := []) (Tri.mono (d_away hm hwk) (Nat.le_of_ble_eq_true rfl)) rfl rfl tg_X11_away lk_X11_195 in_X11_away se_X11_away rfl dX11_docket_59 rfl (Nat.le_of_ble_eq_true rfl) (Nat.le_refl _) (Nat.le_refl _) ?_
      rintro _ _ ⟨rfl, rfl⟩ -
      refine w_if_ne (tgt := 84) dX11_docket_62 (by decide) (fun h1 => ?_) (fun h1 => ?_)
      · skip
        replace h1 : ¬ (((awayN (itN (List.range (nJ a)) a k) : Nat) : Int) = 0) := fun q => h1 ((zeq (z_nI (by omega)) (by decide)).mpr q)
        first
        | (exfalso; omega)
        | skip
          refine w_iconst (v := 0) dX11_docket_84 (by decide) ?_
          have hcl1 : ¬ clearB (itN (List.range (nJ a)) a k) = true := fun q => by first | exact h1 (by have q1 := (hcl.mp q).1; omega) | exact h2 ((full_N hwk).mpr (hcl.mp q).2)
          refine w_istore (ls' := [some (vR 30 0 0), some (vI (nI n)), some (vI (what)), some (vI (nI x)), some (vI (nI (heardN a))), some (vI (nI k)), some (vI (0))]) dX11_docket_85 rfl ?_
          refine w_iload dX11_docket_87 rfl ?_
          refine w_if_eq (tgt := 103) dX11_docket_89 (by decide) (fun _ => ?_) (fun h => absurd (by decide) h)
          refine w_iload_n dX11_docket_103 rfl ?_
          refine w_top (y := byI (cbF (List.range (nJ a)) a k)) (show (nI x : Int32) = byI (cbF (List.range (nJ a)) a k) from by rw [cbF_s hcb]; rfl) ?_
          refine w_istore_n (ls' := [some (vR 30 0 0), some (vI (nI n)), some (vI (what)), some (vI (byI (cbF (List.range (nJ a)) a k))), some (vI (nI (heardN a))), some (vI (nI k)), some (vI (0))]) dX11_docket_104 rfl ?_
          refine w_iload dX11_docket_105 rfl ?_
          refine w_iload_n dX11_docket_107 rfl ?_
          refine w_icmp_ge (tgt := 115) dX11_docket_108 (by decide) (fun h => absurd h (nI_ge hlt (by omega))) (fun _ => ?_)
          refine w_aload_n dX11_docket_111 rfl ?_
          refine w_callV (as := []) (st := []) (Tri.mono (d_docketGoes hm hwk (ab := 0) (ss := (List.range (nJ a))) (by decide) (by rw [List.length_range, q1]) hs (fun j h => by rw [q1]; exact range_in h) hab hid) (Nat.le_of_ble_eq_true rfl)) rfl rfl tg_X11_docketGoes lk_X11_189 in_X11_docketGoes se_X11_docketGoes rfl dX11_docket_112 rfl (Nat.le_of_ble_eq_true rfl) (Nat.le_refl _) (Nat.le_refl _) ?_
          rintro v M9 ⟨rfl, I1, rfl, g1, g2, g3⟩ -
          rw [foldB_0] at g1
          rw [idT_s] at g2
          refine w_iinc (v := nI (k + 1)) (ls' := [some (vR 30 0 0), some (vI (nI n)), some (vI (what)), some (vI (byI (cbF (List.range (nJ a)) a k))), some (vI (nI (heardN a))), some (vI (nI (k + 1))), some (vI (0))]) dX11_docket_115 rfl (nI_1 _) rfl ?_
          refine w_goto (tgt := 52) dX11_docket_118 (by decide) ?_
          exact ih (k + 1) I1 _ (by omega) g1 (fun i j h => (g3 36 0 0 i (by decide) (by omega)).trans (hs i j h)) ((g3 30 0 0 18 (by decide) (by omega)).trans hab) g2 (hf.tr g3)
      · skip
        replace h1 : ((awayN (itN (List.range (nJ a)) a k) : Nat) : Int) = 0 := (zeq (z_nI (by omega)) (by decide)).mp h1
        first
        | (exfalso; omega)
        | skip
          refine w_aload_n dX11_docket_65 rfl ?_
          refine w_callV (as := []) (st := []) (Tri.mono (d_heard hm hwk) (Nat.le_of_ble_eq_true rfl)) rfl rfl tg_X11_heard lk_X11_183 in_X11_heard se_X11_heard rfl dX11_docket_66 rfl (Nat.le_of_ble_eq_true rfl) (Nat.le_refl _) (Nat.le_refl _) ?_
          rintro _ _ ⟨rfl, rfl⟩ -
          refine w_iconst (v := 1) dX11_docket_69 (by decide) ?_
          refine w_aload_n dX11_docket_70 rfl ?_
          refine w_getI ff_X11_61 rfl rfl dX11_docket_71 ?_
          rw [show (I 30 0 0 4 : Int32) = nI (nC (itN (List.range (nJ a)) a k)) from hm.2.1]
          refine w_ishl dX11_docket_74 ?_
          refine w_iconst (v := 1) dX11_docket_75 (by decide) ?_
          refine w_isub dX11_docket_76 ?_
          refine w_icmp_ne (tgt := 84) dX11_docket_77 (by decide) (fun h2 => ?_) (fun h2 => ?_)
          · skip
            first
            | (exfalso; omega)
            | skip
              refine w_iconst (v := 0) dX11_docket_84 (by decide) ?_
              have hcl1 : ¬ clearB (itN (List.range (nJ a)) a k) = true := fun q => by first | exact h1 (by have q1 := (hcl.mp q).1; omega) | exact h2 ((full_N hwk).mpr (hcl.mp q).2)
              refine w_istore (ls' := [some (vR 30 0 0), some (vI (nI n)), some (vI (what)), some (vI (nI x)), some (vI (nI (heardN a))), some (vI (nI k)), some (vI (0))]) dX11_docket_85 rfl ?_
              refine w_iload dX11_docket_87 rfl ?_
              refine w_if_eq (tgt := 103) dX11_docket_89 (by decide) (fun _ => ?_) (fun h => absurd (by decide) h)
              refine w_iload_n dX11_docket_103 rfl ?_
              refine w_top (y := byI (cbF (List.range (nJ a)) a k)) (show (nI x : Int32) = byI (cbF (List.range (nJ a)) a k) from by rw [cbF_s hcb]; rfl) ?_
              refine w_istore_n (ls' := [some (vR 30 0 0), some (vI (nI n)), some (vI (what)), some (vI (byI (cbF (List.range (nJ a)) a k))), some (vI (nI (heardN a))), some (vI (nI k)), some (vI (0))]) dX11_docket_104 rfl ?_
              refine w_iload dX11_docket_105 rfl ?_
              refine w_iload_n dX11_docket_107 rfl ?_
              refine w_icmp_ge (tgt := 115) dX11_docket_108 (by decide) (fun h => absurd h (nI_ge hlt (by omega))) (fun _ => ?_)
              refine w_aload_n dX11_docket_111 rfl ?_
              refine w_callV (as := []) (st := []) (Tri.mono (d_docketGoes hm hwk (ab := 0) (ss := (List.range (nJ a))) (by decide) (by rw [List.length_range, q1]) hs (fun j h => by rw [q1]; exact range_in h) hab hid) (Nat.le_of_ble_eq_true rfl)) rfl rfl tg_X11_docketGoes lk_X11_189 in_X11_docketGoes se_X11_docketGoes rfl dX11_docket_112 rfl (Nat.le_of_ble_eq_true rfl) (Nat.le_refl _) (Nat.le_refl _) ?_
              rintro v M9 ⟨rfl, I1, rfl, g1, g2, g3⟩ -
              rw [foldB_0] at g1
              rw [idT_s] at g2
              refine w_iinc (v := nI (k + 1)) (ls' := [some (vR 30 0 0), some (vI (nI n)), some (vI (what)), some (vI (byI (cbF (List.range (nJ a)) a k))), some (vI (nI (heardN a))), some (vI (nI (k + 1))), some (vI (0))]) dX11_docket_115 rfl (nI_1 _) rfl ?_
              refine w_goto (tgt := 52) dX11_docket_118 (by decide) ?_
              exact ih (k + 1) I1 _ (by omega) g1 (fun i j h => (g3 36 0 0 i (by decide) (by omega)).trans (hs i j h)) ((g3 30 0 0 18 (by decide) (by omega)).trans hab) g2 (hf.tr g3)
          · skip
            first
            | (exfalso; omega)
            | skip
              refine w_iconst (v := 1) dX11_docket_80 (by decide) ?_
              refine w_goto (tgt := 85) dX11_docket_81 (by decide) ?_
              have hcl1 : clearB (itN (List.range (nJ a)) a k) = true := hcl.mpr ⟨by omega, (full_N hwk).mp h2⟩
              refine w_istore (ls' := [some (vR 30 0 0), some (vI (nI n)), some (vI (what)), some (vI (nI x)), some (vI (nI (heardN a))), some (vI (nI k)), some (vI (1))]) dX11_docket_85 rfl ?_
              refine w_iload dX11_docket_87 rfl ?_
              refine w_if_eq (tgt := 103) dX11_docket_89 (by decide) (fun h => absurd h (by decide)) (fun _ => ?_)
              refine w_iload_n dX11_docket_92 rfl ?_
              refine w_bipush (v := (-4)) dX11_docket_93 (by decide) ?_
              refine w_icmp_ne (tgt := 103) dX11_docket_95 (by decide) (fun _ => ?_) (fun h => absurd h (nI_m4 x (by omega)))
              refine w_iload_n dX11_docket_103 rfl ?_
              refine w_top (y := byI (cbF (List.range (nJ a)) a k)) (show (nI x : Int32) = byI (cbF (List.range (nJ a)) a k) from by rw [cbF_s hcb]; rfl) ?_
              refine w_istore_n (ls' := [some (vR 30 0 0), some (vI (nI n)), some (vI (what)), some (vI (byI (cbF (List.range (nJ a)) a k))), some (vI (nI (heardN a))), some (vI (nI k)), some (vI (1))]) dX11_docket_104 rfl ?_
              refine w_iload dX11_docket_105 rfl ?_
              refine w_iload_n dX11_docket_107 rfl ?_
              refine w_icmp_ge (tgt := 115) dX11_docket_108 (by decide) (fun h => absurd h (nI_ge hlt (by omega))) (fun _ => ?_)
              refine w_aload_n dX11_docket_111 rfl ?_
              refine w_callV (as := []) (st := []) (Tri.mono (d_docketGoes hm hwk (ab := 0) (ss := (List.range (nJ a))) (by decide) (by rw [List.length_range, q1]) hs (fun j h => by rw [q1]; exact range_in h) hab hid) (Nat.le_of_ble_eq_true rfl)) rfl rfl tg_X11_docketGoes lk_X11_189 in_X11_docketGoes se_X11_docketGoes rfl dX11_docket_112 rfl (Nat.le_of_ble_eq_true rfl) (Nat.le_refl _) (Nat.le_refl _) ?_
              rintro v M9 ⟨rfl, I1, rfl, g1, g2, g3⟩ -
              rw [foldB_0] at g1
              rw [idT_s] at g2
              refine w_iinc (v := nI (k + 1)) (ls' := [some (vR 30 0 0), some (vI (nI n)), some (vI (what)), some (vI (byI (cbF (List.range (nJ a)) a k))), some (vI (nI (heardN a))), some (vI (nI (k + 1))), some (vI (1))]) dX11_docket_115 rfl (nI_1 _) rfl ?_
              refine w_goto (tgt := 52) dX11_docket_118 (by decide) ?_
              exact ih (k + 1) I1 _ (by omega) g1 (fun i j h => (g3 36 0 0 i (by decide) (by omega)).trans (hs i j h)) ((g3 30 0 0 18 (by decide) (by omega)).trans hab) g2 (hf.tr g3)

theorem p_docket_0 {I : xF4 Int32} {L : xF4 Int64} {a : aA} (hc : CourtIs I 0 a) (hw : WF a) {n : Nat} (hn : n ≤ 30) (hd9 : dY a ≤ 999)  : Tri 19 109 m_X10_docket [vR 0 0 0, vI (nI n), vI (0)] (rM I L) (pCq (vI (nI (newN (heardN (itN (List.range (nJ a)) a n)) (heardN a)))) I) := by
  refine ⟨k_X10_docket, Nat.le_of_ble_eq_true rfl, ?_⟩
  show Wp _ _ _ 0 [some (vR 0 0 0), some (vI (nI n)), some (vI (0))] [] (rM I L) _
  obtain ⟨hJ, hC, hG, hD, hR, -⟩ := id hw
  refine w_iload_n dX10_docket_0 rfl ?_
  refine w_iconst (v := 0) dX10_docket_1 (by decide) ?_
  refine w_bipush (v := 30) dX10_docket_2 (by decide) ?_
  refine w_callS (as := [vI (nI n), vI (0), vI (30)]) (st := []) (Tri.mono (c_X10_within (nI n) (0) (30)) (Nat.le_of_ble_eq_true rfl)) tg_X10_within lk_X10_158 sa_X10_within rfl dX10_docket_4 rfl (Nat.le_of_ble_eq_true rfl) (Nat.le_refl _) (Nat.le_refl _) ?_
  rintro _ _ ⟨rfl, rfl⟩ -
  refine w_top (y := bI (0 ≤ ((n : Nat) : Int) ∧ ((n : Nat) : Int) ≤ 30)) (show (bI ((0 : Int32) ≤ (nI n) ∧ (nI n) ≤ (30 : Int32)) : Int32) = bI (0 ≤ ((n : Nat) : Int) ∧ ((n : Nat) : Int) ≤ 30) from wiZ (X := ((n : Nat) : Int)) (A := 0) (B := 30) (z_nI (by omega)) (by decide) (by decide)) ?_
  refine w_ifeq_b (tgt := 19) dX10_docket_7 (by decide) (fun h1 => ?_) (fun h1 => ?_)
  · skip
    first
    | (exfalso; omega)
    | skip
      refine w_iconst (v := (-1)) dX10_docket_19 (by decide) ?_
      exact w_ireturn dX10_docket_20 rfl (rfl) rfl (⟨rfl, _, _, rfl, FrQ.rf⟩)
  · skip
    first
    | (exfalso; omega)
    | skip
      refine w_iload_n dX10_docket_10 rfl ?_
      refine w_iconst (v := 0) dX10_docket_11 (by decide) ?_
      refine w_iconst (v := 5) dX10_docket_12 (by decide) ?_
      refine w_callS (as := [vI (0), vI (0), vI (5)]) (st := []) (Tri.mono (c_X10_within (0) (0) (5)) (Nat.le_of_ble_eq_true rfl)) tg_X10_within lk_X10_158 sa_X10_within rfl dX10_docket_13 rfl (Nat.le_of_ble_eq_true rfl) (Nat.le_refl _) (Nat.le_refl _) ?_
      rintro _ _ ⟨rfl, rfl⟩ -
      refine w_top (y := 1) (show (bI ((0 : Int32) ≤ ((0 : Int32)) ∧ ((0 : Int32)) ≤ (5 : Int32)) : Int32) = 1 from bI_t (by decide)) ?_
      refine w_if_ne (tgt := 21) dX10_docket_16 (by decide) (fun _ => ?_) (fun h => absurd h (by decide))
      refine w_aload_n dX10_docket_21 rfl ?_
      refine w_getR (w := some (12, 0, 0)) ff_X10_36 rfl rfl dX10_docket_22 rfl ?_
      refine w_aload_n dX10_docket_25 rfl ?_
      refine w_getR (w := some (1, 0, 0)) ff_X10_10 rfl rfl dX10_docket_26 rfl ?_
      refine w_callV (as := [vR 1 0 0]) (st := []) (Tri.mono (c_seatAll hc hw) (Nat.le_of_ble_eq_true rfl)) rfl rfl tg_X2_seatAll lk_X10_192 in_X2_seatAll se_X2_seatAll rfl dX10_docket_29 rfl (Nat.le_of_ble_eq_true rfl) (Nat.le_refl _) (Nat.le_refl _) ?_
      rintro v M9 ⟨rfl, I1, rfl, hse1, hfs1⟩ -
      rw [seatL_all] at hse1
      have hc0_1 := hfs1.q.court (by decide) hc
      refine w_aload_n dX10_docket_32 rfl ?_
      refine w_getR (w := some (12, 0, 0)) ff_X10_36 rfl rfl dX10_docket_33 rfl ?_
      refine w_aload_n dX10_docket_36 rfl ?_
      refine w_getR (w := some (1, 1, 0)) ff_X10_16 rfl rfl dX10_docket_37 rfl ?_
      refine w_aload_n dX10_docket_40 rfl ?_
      refine w_getR (w := some (1, 0, 0)) ff_X10_10 rfl rfl dX10_docket_41 rfl ?_
      refine w_iload_n dX10_docket_44 rfl ?_
      refine w_callV (as := [vR 1 1 0, vR 1 0 0, vI (nI n)]) (st := []) (Tri.mono (c_play (by decide) hw hc0_1 hse1 (fun j h => List.mem_range.mp h) (n := n) (by omega) (by omega)) (Nat.le_of_ble_eq_true rfl)) rfl rfl tg_X2_play lk_X10_195 in_X2_play se_X2_play rfl dX10_docket_45 rfl (Nat.le_of_ble_eq_true rfl) (Nat.le_refl _) (Nat.le_refl _) ?_
      rintro v M9 ⟨rfl, I2, rfl, hp1_2, hp2_2, hp3_2, hfp2⟩ -
      have hwp2 := WF.it (ss := (List.range (nJ a))) hw (fun j h => List.mem_range.mp h) n (by omega)
      have hc0_2 := hfp2.q.court (by decide) hc0_1
      refine w_iload_n dX10_docket_48 rfl ?_
      refine w_tabIn (off := 35) (tgt := 84) dX10_docket_49 (by decide) (by decide) rfl (by decide) ?_
      refine w_aload_n dX10_docket_84 rfl ?_
      refine w_getR (w := some (12, 0, 0)) ff_X10_36 rfl rfl dX10_docket_85 rfl ?_
      refine w_getI ff_X10_199 rfl rfl dX10_docket_88 ?_
      rw [show (I2 12 0 0 2 : Int32) = nI (newN (heardN (itN (List.range (nJ a)) a n)) (heardN a)) from hp2_2.trans (newN_0 _ (heardN_lt hwp2) _ (heardN_lt hw))]
      exact w_ireturn dX10_docket_91 rfl (rfl) rfl (⟨rfl, _, _, rfl, (hfs1.q.tr hfp2.q)⟩)

theorem q_docket_0 {I : xF4 Int32} {L : xF4 Int64} {a : aA} (hs : SI I a) (hw : WF a) {n : Nat} (hn : n ≤ 30) (hd9 : dY a ≤ 999)  : Tri 19 109 m_X11_docket [vR 30 0 0, vI (nI n), vI (0)] (rM I L) (pMq (vI (nI (newN (heardN (itN (List.range (nJ a)) a n)) (heardN a)))) I) := by
  refine ⟨k_X11_docket, Nat.le_of_ble_eq_true rfl, ?_⟩
  show Wp _ _ _ 0 [some (vR 30 0 0), some (vI (nI n)), some (vI (0)), none, none, none, none] [] (rM I L) _
  obtain ⟨hJ, hC, hG, hD, hR, -⟩ := id hw
  refine w_iload_n dX11_docket_0 rfl ?_
  refine w_i2l dX11_docket_1 ?_
  refine w_lconst (v := 0) dX11_docket_2 (by decide) ?_
  refine w_ldc2 dX11_docket_3 cq_X11_231 ?_
  refine w_callS (as := [vL ((nI n : Int32).toInt64), vL (0), vL (30)]) (st := []) (Tri.mono (d_in ((nI n : Int32).toInt64) (0) (30)) (Nat.le_of_ble_eq_true rfl)) tg_X11_in lk_X11_66 sa_X11_in rfl dX11_docket_6 rfl (Nat.le_of_ble_eq_true rfl) (Nat.le_refl _) (Nat.le_refl _) ?_
  rintro _ _ ⟨rfl, rfl⟩ -
  refine w_top (y := bI (0 ≤ ((n : Nat) : Int) ∧ ((n : Nat) : Int) ≤ 30)) (show (bI ((0 : Int64) ≤ ((nI n : Int32).toInt64) ∧ ((nI n : Int32).toInt64) ≤ (30 : Int64)) : Int32) = bI (0 ≤ ((n : Nat) : Int) ∧ ((n : Nat) : Int) ≤ 30) from inZ (x := nI n) (l := 0) (h := 30) (X := ((n : Nat) : Int)) (A := 0) (B := 30) rfl (by decide) (by decide) (z_nI (by omega)) (by decide) (by decide)) ?_
  refine w_ifeq_b (tgt := 24) dX11_docket_9 (by decide) (fun h1 => ?_) (fun h1 => ?_)
  · skip
    first
    | (exfalso; omega)
    | skip
      refine w_iconst (v := (-1)) dX11_docket_24 (by decide) ?_
      exact w_ireturn dX11_docket_25 rfl (rfl) rfl (⟨rfl, _, _, rfl, FrR.rf⟩)
  · skip
    first
    | (exfalso; omega)
    | skip
      refine w_iload_n dX11_docket_12 rfl ?_
      refine w_i2l dX11_docket_13 ?_
      refine w_lconst (v := 0) dX11_docket_14 (by decide) ?_
      refine w_ldc2 dX11_docket_15 cq_X11_202 ?_
      refine w_callS (as := [vL ((0 : Int32).toInt64), vL (0), vL (5)]) (st := []) (Tri.mono (d_in ((0 : Int32).toInt64) (0) (5)) (Nat.le_of_ble_eq_true rfl)) tg_X11_in lk_X11_66 sa_X11_in rfl dX11_docket_18 rfl (Nat.le_of_ble_eq_true rfl) (Nat.le_refl _) (Nat.le_refl _) ?_
      rintro _ _ ⟨rfl, rfl⟩ -
      refine w_top (y := 1) (show (bI ((0 : Int64) ≤ ((0 : Int32).toInt64) ∧ ((0 : Int32).toInt64) ≤ (5 : Int64)) : Int32) = 1 from bI_t (by decide)) ?_
      refine w_if_ne (tgt := 26) dX11_docket_21 (by decide) (fun _ => ?_) (fun h => absurd h (by decide))
      refine w_bipush (v := (-4)) dX11_docket_26 (by decide) ?_
      refine w_istore_n (ls' := [some (vR 30 0 0), some (vI (nI n)), some (vI (0)), some (vI ((-4))), none, none, none]) dX11_docket_28 rfl ?_
      refine w_aload_n dX11_docket_29 rfl ?_
      refine w_callV (as := []) (st := []) (Tri.mono (d_starts hs hw) (Nat.le_of_ble_eq_true rfl)) rfl rfl tg_X11_starts lk_X11_192 in_X11_starts se_X11_starts rfl dX11_docket_30 rfl (Nat.le_of_ble_eq_true rfl) (Nat.le_refl _) (Nat.le_refl _) ?_
      rintro v M9 ⟨rfl, I1, rfl, hm1, hi1, hf1⟩ -
      have hs1 := hf1.r.si hs
      refine w_aload_n dX11_docket_33 rfl ?_
      refine w_iconst (v := 0) dX11_docket_34 (by decide) ?_
      refine w_putI ff_X11_168 rfl rfl rfl rfl dX11_docket_35 ?_
      obtain ⟨I2, hI2⟩ : ∃ z, z = xup I1 30 0 0 18 (0) := ⟨_, rfl⟩
      rw [← hI2]
      have hf2 : FrR I1 I2 := by rw [hI2]; exact FrR.up (by omega)
      have hm2 : MI I2 a := by rw [hI2]; exact hm1.at30 (by decide) (by decide) _
      have hi2 : ∀ i, i < 4 → I2 36 0 0 i = nI i := by rw [hI2]; exact fun i h => (xup_tag (by decide)).trans (hi1 i h)
      have hv18_2 : I2 30 0 0 18 = 0 := by rw [hI2]; exact xup_self
      have hs2 := hf2.si hs1
      refine w_aload_n dX11_docket_38 rfl ?_
      refine w_iconst (v := 0) dX11_docket_39 (by decide) ?_
      refine w_putI ff_X11_177 rfl rfl rfl rfl dX11_docket_40 ?_
      obtain ⟨I3, hI3⟩ : ∃ z, z = xup I2 30 0 0 19 (0) := ⟨_, rfl⟩
      rw [← hI3]
      have hf3 : FrR I2 I3 := by rw [hI3]; exact FrR.up (by omega)
      have hm3 : MI I3 a := by rw [hI3]; exact hm2.at30 (by decide) (by decide) _
      have hi3 : ∀ i, i < 4 → I3 36 0 0 i = nI i := by rw [hI3]; exact fun i h => (xup_tag (by decide)).trans (hi2 i h)
      have hv18_3 : I3 30 0 0 18 = 0 := by rw [hI3]; exact (xup_slot (by decide)).trans hv18_2
      have hv19_3 : I3 30 0 0 19 = 0 := by rw [hI3]; exact xup_self
      have hs3 := hf3.si hs2
      refine w_aload_n dX11_docket_43 rfl ?_
      refine w_callV (as := []) (st := []) (Tri.mono (d_heard hm3 hw) (Nat.le_of_ble_eq_true rfl)) rfl rfl tg_X11_heard lk_X11_183 in_X11_heard se_X11_heard rfl dX11_docket_44 rfl (Nat.le_of_ble_eq_true rfl) (Nat.le_refl _) (Nat.le_refl _) ?_
      rintro _ _ ⟨rfl, rfl⟩ -
      refine w_istore (ls' := [some (vR 30 0 0), some (vI (nI n)), some (vI (0)), some (vI ((-4))), some (vI (nI (heardN a))), none, none]) dX11_docket_47 rfl ?_
      refine w_iconst (v := 0) dX11_docket_49 (by decide) ?_
      refine w_istore (ls' := [some (vR 30 0 0), some (vI (nI n)), some (vI (0)), some (vI ((-4))), some (vI (nI (heardN a))), some (vI (0)), none]) dX11_docket_50 rfl ?_
      refine l_docketM hw hn hd9 (fun I9 o6 hm9 hid9 hf9 => ?_) n 0 I3 none (Nat.zero_add _) hm3 (sits_range hi3 (by omega)) hv18_3 hv19_3 FrG.rf
      have hw9 := hw.it (ss := (List.range (nJ a))) (fun j h => range_in h) n (by omega)
      refine w_iload_n dX11_docket_121 rfl ?_
      refine w_tabIn (off := 34) (tgt := 156) dX11_docket_122 (by decide) (by decide) rfl (by decide) ?_
      refine w_aload_n dX11_docket_156 rfl ?_
      refine w_callV (as := []) (st := []) (Tri.mono (d_heard hm9 hw9) (Nat.le_of_ble_eq_true rfl)) rfl rfl tg_X11_heard lk_X11_183 in_X11_heard se_X11_heard rfl dX11_docket_157 rfl (Nat.le_of_ble_eq_true rfl) (Nat.le_refl _) (Nat.le_refl _) ?_
      rintro _ _ ⟨rfl, rfl⟩ -
      refine w_iload dX11_docket_160 rfl ?_
      refine w_iconst (v := (-1)) dX11_docket_162 (by decide) ?_
      refine w_ixor dX11_docket_163 ?_
      refine w_iand dX11_docket_164 ?_
      rw [show ((nI (heardN (itN (List.range (nJ a)) a n))) &&& ((nI (heardN a)) ^^^ ((-1))) : Int32) = nI (newN (heardN (itN (List.range (nJ a)) a n)) (heardN a)) from newN_0 _ (heardN_lt hw9) _ (heardN_lt hw)]
      exact w_ireturn dX11_docket_165 rfl (rfl) rfl (⟨rfl, _, _, rfl, (((hf1.r.tr hf2).tr hf3).tr hf9.r)⟩)

theorem p_docket_1 {I : xF4 Int32} {L : xF4 Int64} {a : aA} (hc : CourtIs I 0 a) (hw : WF a) {n : Nat} (hn : n ≤ 30) (hd9 : dY a ≤ 999)  : Tri 19 109 m_X10_docket [vR 0 0 0, vI (nI n), vI (1)] (rM I L) (pCq (vI (nI (cR (itN (List.range (nJ a)) a n)))) I) := by
  refine ⟨k_X10_docket, Nat.le_of_ble_eq_true rfl, ?_⟩
  show Wp _ _ _ 0 [some (vR 0 0 0), some (vI (nI n)), some (vI (1))] [] (rM I L) _
  obtain ⟨hJ, hC, hG, hD, hR, -⟩ := id hw
  refine w_iload_n dX10_docket_0 rfl ?_
  refine w_iconst (v := 0) dX10_docket_1 (by decide) ?_
  refine w_bipush (v := 30) dX10_docket_2 (by decide) ?_
  refine w_callS (as := [vI (nI n), vI (0), vI (30)]) (st := []) (Tri.mono (c_X10_within (nI n) (0) (30)) (Nat.le_of_ble_eq_true rfl)) tg_X10_within lk_X10_158 sa_X10_within rfl dX10_docket_4 rfl (Nat.le_of_ble_eq_true rfl) (Nat.le_refl _) (Nat.le_refl _) ?_
  rintro _ _ ⟨rfl, rfl⟩ -
  refine w_top (y := bI (0 ≤ ((n : Nat) : Int) ∧ ((n : Nat) : Int) ≤ 30)) (show (bI ((0 : Int32) ≤ (nI n) ∧ (nI n) ≤ (30 : Int32)) : Int32) = bI (0 ≤ ((n : Nat) : Int) ∧ ((n : Nat) : Int) ≤ 30) from wiZ (X := ((n : Nat) : Int)) (A := 0) (B := 30) (z_nI (by omega)) (by decide) (by decide)) ?_
  refine w_ifeq_b (tgt := 19) dX10_docket_7 (by decide) (fun h1 => ?_) (fun h1 => ?_)
  · skip
    first
    | (exfalso; omega)
    | skip
      refine w_iconst (v := (-1)) dX10_docket_19 (by decide) ?_
      exact w_ireturn dX10_docket_20 rfl (rfl) rfl (⟨rfl, _, _, rfl, FrQ.rf⟩)
  · skip
    first
    | (exfalso; omega)
    | skip
      refine w_iload_n dX10_docket_10 rfl ?_
      refine w_iconst (v := 0) dX10_docket_11 (by decide) ?_
      refine w_iconst (v := 5) dX10_docket_12 (by decide) ?_
      refine w_callS (as := [vI (1), vI (0), vI (5)]) (st := []) (Tri.mono (c_X10_within (1) (0) (5)) (Nat.le_of_ble_eq_true rfl)) tg_X10_within lk_X10_158 sa_X10_within rfl dX10_docket_13 rfl (Nat.le_of_ble_eq_true rfl) (Nat.le_refl _) (Nat.le_refl _) ?_
      rintro _ _ ⟨rfl, rfl⟩ -
      refine w_top (y := 1) (show (bI ((0 : Int32) ≤ ((1 : Int32)) ∧ ((1 : Int32)) ≤ (5 : Int32)) : Int32) = 1 from bI_t (by decide)) ?_
      refine w_if_ne (tgt := 21) dX10_docket_16 (by decide) (fun _ => ?_) (fun h => absurd h (by decide))
      refine w_aload_n dX10_docket_21 rfl ?_
      refine w_getR (w := some (12, 0, 0)) ff_X10_36 rfl rfl dX10_docket_22 rfl ?_
      refine w_aload_n dX10_docket_25 rfl ?_
      refine w_getR (w := some (1, 0, 0)) ff_X10_10 rfl rfl dX10_docket_26 rfl ?_
      refine w_callV (as := [vR 1 0 0]) (st := []) (Tri.mono (c_seatAll hc hw) (Nat.le_of_ble_eq_true rfl)) rfl rfl tg_X2_seatAll lk_X10_192 in_X2_seatAll se_X2_seatAll rfl dX10_docket_29 rfl (Nat.le_of_ble_eq_true rfl) (Nat.le_refl _) (Nat.le_refl _) ?_
      rintro v M9 ⟨rfl, I1, rfl, hse1, hfs1⟩ -
      rw [seatL_all] at hse1
      have hc0_1 := hfs1.q.court (by decide) hc
      refine w_aload_n dX10_docket_32 rfl ?_
      refine w_getR (w := some (12, 0, 0)) ff_X10_36 rfl rfl dX10_docket_33 rfl ?_
      refine w_aload_n dX10_docket_36 rfl ?_
      refine w_getR (w := some (1, 1, 0)) ff_X10_16 rfl rfl dX10_docket_37 rfl ?_
      refine w_aload_n dX10_docket_40 rfl ?_
      refine w_getR (w := some (1, 0, 0)) ff_X10_10 rfl rfl dX10_docket_41 rfl ?_
      refine w_iload_n dX10_docket_44 rfl ?_
      refine w_callV (as := [vR 1 1 0, vR 1 0 0, vI (nI n)]) (st := []) (Tri.mono (c_play (by decide) hw hc0_1 hse1 (fun j h => List.mem_range.mp h) (n := n) (by omega) (by omega)) (Nat.le_of_ble_eq_true rfl)) rfl rfl tg_X2_play lk_X10_195 in_X2_play se_X2_play rfl dX10_docket_45 rfl (Nat.le_of_ble_eq_true rfl) (Nat.le_refl _) (Nat.le_refl _) ?_
      rintro v M9 ⟨rfl, I2, rfl, hp1_2, hp2_2, hp3_2, hfp2⟩ -
      have hwp2 := WF.it (ss := (List.range (nJ a))) hw (fun j h => List.mem_range.mp h) n (by omega)
      have hc0_2 := hfp2.q.court (by decide) hc0_1
      refine w_iload_n dX10_docket_48 rfl ?_
      refine w_tabIn (off := 43) (tgt := 92) dX10_docket_49 (by decide) (by decide) rfl (by decide) ?_
      refine w_aload_n dX10_docket_92 rfl ?_
      refine w_getR (w := some (1, 1, 0)) ff_X10_16 rfl rfl dX10_docket_93 rfl ?_
      refine w_getI ff_X10_98 rfl rfl dX10_docket_96 ?_
      rw [show (I2 1 1 0 7 : Int32) = nI (cR (itN (List.range (nJ a)) a n)) from hp1_2.2.2.2.2.1]
      exact w_ireturn dX10_docket_99 rfl (rfl) rfl (⟨rfl, _, _, rfl, (hfs1.q.tr hfp2.q)⟩)

theorem q_docket_1 {I : xF4 Int32} {L : xF4 Int64} {a : aA} (hs : SI I a) (hw : WF a) {n : Nat} (hn : n ≤ 30) (hd9 : dY a ≤ 999)  : Tri 19 109 m_X11_docket [vR 30 0 0, vI (nI n), vI (1)] (rM I L) (pMq (vI (nI (cR (itN (List.range (nJ a)) a n)))) I) := by
  refine ⟨k_X11_docket, Nat.le_of_ble_eq_true rfl, ?_⟩
  show Wp _ _ _ 0 [some (vR 30 0 0), some (vI (nI n)), some (vI (1)), none, none, none, none] [] (rM I L) _
  obtain ⟨hJ, hC, hG, hD, hR, -⟩ := id hw
  refine w_iload_n dX11_docket_0 rfl ?_
  refine w_i2l dX11_docket_1 ?_
  refine w_lconst (v := 0) dX11_docket_2 (by decide) ?_
  refine w_ldc2 dX11_docket_3 cq_X11_231 ?_
  refine w_callS (as := [vL ((nI n : Int32).toInt64), vL (0), vL (30)]) (st := []) (Tri.mono (d_in ((nI n : Int32).toInt64) (0) (30)) (Nat.le_of_ble_eq_true rfl)) tg_X11_in lk_X11_66 sa_X11_in rfl dX11_docket_6 rfl (Nat.le_of_ble_eq_true rfl) (Nat.le_refl _) (Nat.le_refl _) ?_
  rintro _ _ ⟨rfl, rfl⟩ -
  refine w_top (y := bI (0 ≤ ((n : Nat) : Int) ∧ ((n : Nat) : Int) ≤ 30)) (show (bI ((0 : Int64) ≤ ((nI n : Int32).toInt64) ∧ ((nI n : Int32).toInt64) ≤ (30 : Int64)) : Int32) = bI (0 ≤ ((n : Nat) : Int) ∧ ((n : Nat) : Int) ≤ 30) from inZ (x := nI n) (l := 0) (h := 30) (X := ((n : Nat) : Int)) (A := 0) (B := 30) rfl (by decide) (by decide) (z_nI (by omega)) (by decide) (by decide)) ?_
  refine w_ifeq_b (tgt := 24) dX11_docket_9 (by decide) (fun h1 => ?_) (fun h1 => ?_)
  · skip
    first
    | (exfalso; omega)
    | skip
      refine w_iconst (v := (-1)) dX11_docket_24 (by decide) ?_
      exact w_ireturn dX11_docket_25 rfl (rfl) rfl (⟨rfl, _, _, rfl, FrR.rf⟩)
  · skip
    first
    | (exfalso; omega)
    | skip
      refine w_iload_n dX11_docket_12 rfl ?_
      refine w_i2l dX11_docket_13 ?_
      refine w_lconst (v := 0) dX11_docket_14 (by decide) ?_
      refine w_ldc2 dX11_docket_15 cq_X11_202 ?_
      refine w_callS (as := [vL ((1 : Int32).toInt64), vL (0), vL (5)]) (st := []) (Tri.mono (d_in ((1 : Int32).toInt64) (0) (5)) (Nat.le_of_ble_eq_true rfl)) tg_X11_in lk_X11_66 sa_X11_in rfl dX11_docket_18 rfl (Nat.le_of_ble_eq_true rfl) (Nat.le_refl _) (Nat.le_refl _) ?_
      rintro _ _ ⟨rfl, rfl⟩ -
      refine w_top (y := 1) (show (bI ((0 : Int64) ≤ ((1 : Int32).toInt64) ∧ ((1 : Int32).toInt64) ≤ (5 : Int64)) : Int32) = 1 from bI_t (by decide)) ?_
      refine w_if_ne (tgt := 26) dX11_docket_21 (by decide) (fun _ => ?_) (fun h => absurd h (by decide))
      refine w_bipush (v := (-4)) dX11_docket_26 (by decide) ?_
      refine w_istore_n (ls' := [some (vR 30 0 0), some (vI (nI n)), some (vI (1)), some (vI ((-4))), none, none, none]) dX11_docket_28 rfl ?_
      refine w_aload_n dX11_docket_29 rfl ?_
      refine w_callV (as := []) (st := []) (Tri.mono (d_starts hs hw) (Nat.le_of_ble_eq_true rfl)) rfl rfl tg_X11_starts lk_X11_192 in_X11_starts se_X11_starts rfl dX11_docket_30 rfl (Nat.le_of_ble_eq_true rfl) (Nat.le_refl _) (Nat.le_refl _) ?_
      rintro v M9 ⟨rfl, I1, rfl, hm1, hi1, hf1⟩ -
      have hs1 := hf1.r.si hs
      refine w_aload_n dX11_docket_33 rfl ?_
      refine w_iconst (v := 0) dX11_docket_34 (by decide) ?_
      refine w_putI ff_X11_168 rfl rfl rfl rfl dX11_docket_35 ?_
      obtain ⟨I2, hI2⟩ : ∃ z, z = xup I1 30 0 0 18 (0) := ⟨_, rfl⟩
      rw [← hI2]
      have hf2 : FrR I1 I2 := by rw [hI2]; exact FrR.up (by omega)
      have hm2 : MI I2 a := by rw [hI2]; exact hm1.at30 (by decide) (by decide) _
      have hi2 : ∀ i, i < 4 → I2 36 0 0 i = nI i := by rw [hI2]; exact fun i h => (xup_tag (by decide)).trans (hi1 i h)
      have hv18_2 : I2 30 0 0 18 = 0 := by rw [hI2]; exact xup_self
      have hs2 := hf2.si hs1
      refine w_aload_n dX11_docket_38 rfl ?_
      refine w_iconst (v := 0) dX11_docket_39 (by decide) ?_
      refine w_putI ff_X11_177 rfl rfl rfl rfl dX11_docket_40 ?_
      obtain ⟨I3, hI3⟩ : ∃ z, z = xup I2 30 0 0 19 (0) := ⟨_, rfl⟩
      rw [← hI3]
      have hf3 : FrR I2 I3 := by rw [hI3]; exact FrR.up (by omega)
      have hm3 : MI I3 a := by rw [hI3]; exact hm2.at30 (by decide) (by decide) _
      have hi3 : ∀ i, i < 4 → I3 36 0 0 i = nI i := by rw [hI3]; exact fun i h => (xup_tag (by decide)).trans (hi2 i h)
      have hv18_3 : I3 30 0 0 18 = 0 := by rw [hI3]; exact (xup_slot (by decide)).trans hv18_2
      have hv19_3 : I3 30 0 0 19 = 0 := by rw [hI3]; exact xup_self
      have hs3 := hf3.si hs2
      refine w_aload_n dX11_docket_43 rfl ?_
      refine w_callV (as := []) (st := []) (Tri.mono (d_heard hm3 hw) (Nat.le_of_ble_eq_true rfl)) rfl rfl tg_X11_heard lk_X11_183 in_X11_heard se_X11_heard rfl dX11_docket_44 rfl (Nat.le_of_ble_eq_true rfl) (Nat.le_refl _) (Nat.le_refl _) ?_
      rintro _ _ ⟨rfl, rfl⟩ -
      refine w_istore (ls' := [some (vR 30 0 0), some (vI (nI n)), some (vI (1)), some (vI ((-4))), some (vI (nI (heardN a))), none, none]) dX11_docket_47 rfl ?_
      refine w_iconst (v := 0) dX11_docket_49 (by decide) ?_
      refine w_istore (ls' := [some (vR 30 0 0), some (vI (nI n)), some (vI (1)), some (vI ((-4))), some (vI (nI (heardN a))), some (vI (0)), none]) dX11_docket_50 rfl ?_
      refine l_docketM hw hn hd9 (fun I9 o6 hm9 hid9 hf9 => ?_) n 0 I3 none (Nat.zero_add _) hm3 (sits_range hi3 (by omega)) hv18_3 hv19_3 FrG.rf
      have hw9 := hw.it (ss := (List.range (nJ a))) (fun j h => range_in h) n (by omega)
      refine w_iload_n dX11_docket_121 rfl ?_
      refine w_tabIn (off := 44) (tgt := 166) dX11_docket_122 (by decide) (by decide) rfl (by decide) ?_
      refine w_aload_n dX11_docket_166 rfl ?_
      refine w_getR (w := some (32, 0, 0)) ff_X11_13 rfl rfl dX11_docket_167 rfl ?_
      refine w_bipush (v := 56) dX11_docket_170 (by decide) ?_
      refine w_iaload (a := 56) rfl (vp_in_nI (n := 56) (by omega) (by omega)) (nI_clamp (n := 56) (by omega)) dX11_docket_172 ?_
      rw [show (I9 32 0 0 (56) : Int32) = nI (cR (itN (List.range (nJ a)) a n)) from hm9.2.2.cr rfl]
      exact w_ireturn dX11_docket_173 rfl (rfl) rfl (⟨rfl, _, _, rfl, (((hf1.r.tr hf2).tr hf3).tr hf9.r)⟩)

theorem p_docket_2 {I : xF4 Int32} {L : xF4 Int64} {a : aA} (hc : CourtIs I 0 a) (hw : WF a) {n : Nat} (hn : n ≤ 30) (hd9 : dY a ≤ 999)  : Tri 19 109 m_X10_docket [vR 0 0 0, vI (nI n), vI (2)] (rM I L) (pCq (vI (nI (sumN (fun j => jF (itN (List.range (nJ a)) a n) j 2) (nJ (itN (List.range (nJ a)) a n))))) I) := by
  refine ⟨k_X10_docket, Nat.le_of_ble_eq_true rfl, ?_⟩
  show Wp _ _ _ 0 [some (vR 0 0 0), some (vI (nI n)), some (vI (2))] [] (rM I L) _
  obtain ⟨hJ, hC, hG, hD, hR, -⟩ := id hw
  refine w_iload_n dX10_docket_0 rfl ?_
  refine w_iconst (v := 0) dX10_docket_1 (by decide) ?_
  refine w_bipush (v := 30) dX10_docket_2 (by decide) ?_
  refine w_callS (as := [vI (nI n), vI (0), vI (30)]) (st := []) (Tri.mono (c_X10_within (nI n) (0) (30)) (Nat.le_of_ble_eq_true rfl)) tg_X10_within lk_X10_158 sa_X10_within rfl dX10_docket_4 rfl (Nat.le_of_ble_eq_true rfl) (Nat.le_refl _) (Nat.le_refl _) ?_
  rintro _ _ ⟨rfl, rfl⟩ -
  refine w_top (y := bI (0 ≤ ((n : Nat) : Int) ∧ ((n : Nat) : Int) ≤ 30)) (show (bI ((0 : Int32) ≤ (nI n) ∧ (nI n) ≤ (30 : Int32)) : Int32) = bI (0 ≤ ((n : Nat) : Int) ∧ ((n : Nat) : Int) ≤ 30) from wiZ (X := ((n : Nat) : Int)) (A := 0) (B := 30) (z_nI (by omega)) (by decide) (by decide)) ?_
  refine w_ifeq_b (tgt := 19) dX10_docket_7 (by decide) (fun h1 => ?_) (fun h1 => ?_)
  · skip
    first
    | (exfalso; omega)
    | skip
      refine w_iconst (v := (-1)) dX10_docket_19 (by decide) ?_
      exact w_ireturn dX10_docket_20 rfl (rfl) rfl (⟨rfl, _, _, rfl, FrQ.rf⟩)
  · skip
    first
    | (exfalso; omega)
    | skip
      refine w_iload_n dX10_docket_10 rfl ?_
      refine w_iconst (v := 0) dX10_docket_11 (by decide) ?_
      refine w_iconst (v := 5) dX10_docket_12 (by decide) ?_
      refine w_callS (as := [vI (2), vI (0), vI (5)]) (st := []) (Tri.mono (c_X10_within (2) (0) (5)) (Nat.le_of_ble_eq_true rfl)) tg_X10_within lk_X10_158 sa_X10_within rfl dX10_docket_13 rfl (Nat.le_of_ble_eq_true rfl) (Nat.le_refl _) (Nat.le_refl _) ?_
      rintro _ _ ⟨rfl, rfl⟩ -
      refine w_top (y := 1) (show (bI ((0 : Int32) ≤ ((2 : Int32)) ∧ ((2 : Int32)) ≤ (5 : Int32)) : Int32) = 1 from bI_t (by decide)) ?_
      refine w_if_ne (tgt := 21) dX10_docket_16 (by decide) (fun _ => ?_) (fun h => absurd h (by decide))
      refine w_aload_n dX10_docket_21 rfl ?_
      refine w_getR (w := some (12, 0, 0)) ff_X10_36 rfl rfl dX10_docket_22 rfl ?_
      refine w_aload_n dX10_docket_25 rfl ?_
      refine w_getR (w := some (1, 0, 0)) ff_X10_10 rfl rfl dX10_docket_26 rfl ?_
      refine w_callV (as := [vR 1 0 0]) (st := []) (Tri.mono (c_seatAll hc hw) (Nat.le_of_ble_eq_true rfl)) rfl rfl tg_X2_seatAll lk_X10_192 in_X2_seatAll se_X2_seatAll rfl dX10_docket_29 rfl (Nat.le_of_ble_eq_true rfl) (Nat.le_refl _) (Nat.le_refl _) ?_
      rintro v M9 ⟨rfl, I1, rfl, hse1, hfs1⟩ -
      rw [seatL_all] at hse1
      have hc0_1 := hfs1.q.court (by decide) hc
      refine w_aload_n dX10_docket_32 rfl ?_
      refine w_getR (w := some (12, 0, 0)) ff_X10_36 rfl rfl dX10_docket_33 rfl ?_
      refine w_aload_n dX10_docket_36 rfl ?_
      refine w_getR (w := some (1, 1, 0)) ff_X10_16 rfl rfl dX10_docket_37 rfl ?_
      refine w_aload_n dX10_docket_40 rfl ?_
      refine w_getR (w := some (1, 0, 0)) ff_X10_10 rfl rfl dX10_docket_41 rfl ?_
      refine w_iload_n dX10_docket_44 rfl ?_
      refine w_callV (as := [vR 1 1 0, vR 1 0 0, vI (nI n)]) (st := []) (Tri.mono (c_play (by decide) hw hc0_1 hse1 (fun j h => List.mem_range.mp h) (n := n) (by omega) (by omega)) (Nat.le_of_ble_eq_true rfl)) rfl rfl tg_X2_play lk_X10_195 in_X2_play se_X2_play rfl dX10_docket_45 rfl (Nat.le_of_ble_eq_true rfl) (Nat.le_refl _) (Nat.le_refl _) ?_
      rintro v M9 ⟨rfl, I2, rfl, hp1_2, hp2_2, hp3_2, hfp2⟩ -
      have hwp2 := WF.it (ss := (List.range (nJ a))) hw (fun j h => List.mem_range.mp h) n (by omega)
      have hc0_2 := hfp2.q.court (by decide) hc0_1
      refine w_iload_n dX10_docket_48 rfl ?_
      refine w_tabIn (off := 51) (tgt := 100) dX10_docket_49 (by decide) (by decide) rfl (by decide) ?_
      refine w_aload_n dX10_docket_100 rfl ?_
      refine w_getR (w := some (1, 1, 0)) ff_X10_16 rfl rfl dX10_docket_101 rfl ?_
      refine w_callV (as := []) (st := []) (Tri.mono (c_allPurses hp1_2 hwp2) (Nat.le_of_ble_eq_true rfl)) rfl rfl tg_X1_allPurses lk_X10_202 in_X1_allPurses se_X1_allPurses rfl dX10_docket_104 rfl (Nat.le_of_ble_eq_true rfl) (Nat.le_refl _) (Nat.le_refl _) ?_
      rintro _ _ ⟨rfl, rfl⟩ -
      exact w_ireturn dX10_docket_107 rfl (rfl) rfl (⟨rfl, _, _, rfl, (hfs1.q.tr hfp2.q)⟩)

theorem q_docket_2 {I : xF4 Int32} {L : xF4 Int64} {a : aA} (hs : SI I a) (hw : WF a) {n : Nat} (hn : n ≤ 30) (hd9 : dY a ≤ 999)  : Tri 19 109 m_X11_docket [vR 30 0 0, vI (nI n), vI (2)] (rM I L) (pMq (vI (nI (sumN (fun j => jF (itN (List.range (nJ a)) a n) j 2) (nJ (itN (List.range (nJ a)) a n))))) I) := by
  refine ⟨k_X11_docket, Nat.le_of_ble_eq_true rfl, ?_⟩
  show Wp _ _ _ 0 [some (vR 30 0 0), some (vI (nI n)), some (vI (2)), none, none, none, none] [] (rM I L) _
  obtain ⟨hJ, hC, hG, hD, hR, -⟩ := id hw
  refine w_iload_n dX11_docket_0 rfl ?_
  refine w_i2l dX11_docket_1 ?_
  refine w_lconst (v := 0) dX11_docket_2 (by decide) ?_
  refine w_ldc2 dX11_docket_3 cq_X11_231 ?_
  refine w_callS (as := [vL ((nI n : Int32).toInt64), vL (0), vL (30)]) (st := []) (Tri.mono (d_in ((nI n : Int32).toInt64) (0) (30)) (Nat.le_of_ble_eq_true rfl)) tg_X11_in lk_X11_66 sa_X11_in rfl dX11_docket_6 rfl (Nat.le_of_ble_eq_true rfl) (Nat.le_refl _) (Nat.le_refl _) ?_
  rintro _ _ ⟨rfl, rfl⟩ -
  refine w_top (y := bI (0 ≤ ((n : Nat) : Int) ∧ ((n : Nat) : Int) ≤ 30)) (show (bI ((0 : Int64) ≤ ((nI n : Int32).toInt64) ∧ ((nI n : Int32).toInt64) ≤ (30 : Int64)) : Int32) = bI (0 ≤ ((n : Nat) : Int) ∧ ((n : Nat) : Int) ≤ 30) from inZ (x := nI n) (l := 0) (h := 30) (X := ((n : Nat) : Int)) (A := 0) (B := 30) rfl (by decide) (by decide) (z_nI (by omega)) (by decide) (by decide)) ?_
  refine w_ifeq_b (tgt := 24) dX11_docket_9 (by decide) (fun h1 => ?_) (fun h1 => ?_)
  · skip
    first
    | (exfalso; omega)
    | skip
      refine w_iconst (v := (-1)) dX11_docket_24 (by decide) ?_
      exact w_ireturn dX11_docket_25 rfl (rfl) rfl (⟨rfl, _, _, rfl, FrR.rf⟩)
  · skip
    first
    | (exfalso; omega)
    | skip
      refine w_iload_n dX11_docket_12 rfl ?_
      refine w_i2l dX11_docket_13 ?_
      refine w_lconst (v := 0) dX11_docket_14 (by decide) ?_
      refine w_ldc2 dX11_docket_15 cq_X11_202 ?_
      refine w_callS (as := [vL ((2 : Int32).toInt64), vL (0), vL (5)]) (st := []) (Tri.mono (d_in ((2 : Int32).toInt64) (0) (5)) (Nat.le_of_ble_eq_true rfl)) tg_X11_in lk_X11_66 sa_X11_in rfl dX11_docket_18 rfl (Nat.le_of_ble_eq_true rfl) (Nat.le_refl _) (Nat.le_refl _) ?_
      rintro _ _ ⟨rfl, rfl⟩ -
      refine w_top (y := 1) (show (bI ((0 : Int64) ≤ ((2 : Int32).toInt64) ∧ ((2 : Int32).toInt64) ≤ (5 : Int64)) : Int32) = 1 from bI_t (by decide)) ?_
      refine w_if_ne (tgt := 26) dX11_docket_21 (by decide) (fun _ => ?_) (fun h => absurd h (by decide))
      refine w_bipush (v := (-4)) dX11_docket_26 (by decide) ?_
      refine w_istore_n (ls' := [some (vR 30 0 0), some (vI (nI n)), some (vI (2)), some (vI ((-4))), none, none, none]) dX11_docket_28 rfl ?_
      refine w_aload_n dX11_docket_29 rfl ?_
      refine w_callV (as := []) (st := []) (Tri.mono (d_starts hs hw) (Nat.le_of_ble_eq_true rfl)) rfl rfl tg_X11_starts lk_X11_192 in_X11_starts se_X11_starts rfl dX11_docket_30 rfl (Nat.le_of_ble_eq_true rfl) (Nat.le_refl _) (Nat.le_refl _) ?_
      rintro v M9 ⟨rfl, I1, rfl, hm1, hi1, hf1⟩ -
      have hs1 := hf1.r.si hs
      refine w_aload_n dX11_docket_33 rfl ?_
      refine w_iconst (v := 0) dX11_docket_34 (by decide) ?_
      refine w_putI ff_X11_168 rfl rfl rfl rfl dX11_docket_35 ?_
      obtain ⟨I2, hI2⟩ : ∃ z, z = xup I1 30 0 0 18 (0) := ⟨_, rfl⟩
      rw [← hI2]
      have hf2 : FrR I1 I2 := by rw [hI2]; exact FrR.up (by omega)
      have hm2 : MI I2 a := by rw [hI2]; exact hm1.at30 (by decide) (by decide) _
      have hi2 : ∀ i, i < 4 → I2 36 0 0 i = nI i := by rw [hI2]; exact fun i h => (xup_tag (by decide)).trans (hi1 i h)
      have hv18_2 : I2 30 0 0 18 = 0 := by rw [hI2]; exact xup_self
      have hs2 := hf2.si hs1
      refine w_aload_n dX11_docket_38 rfl ?_
      refine w_iconst (v := 0) dX11_docket_39 (by decide) ?_
      refine w_putI ff_X11_177 rfl rfl rfl rfl dX11_docket_40 ?_
      obtain ⟨I3, hI3⟩ : ∃ z, z = xup I2 30 0 0 19 (0) := ⟨_, rfl⟩
      rw [← hI3]
      have hf3 : FrR I2 I3 := by rw [hI3]; exact FrR.up (by omega)
      have hm3 : MI I3 a := by rw [hI3]; exact hm2.at30 (by decide) (by decide) _
      have hi3 : ∀ i, i < 4 → I3 36 0 0 i = nI i := by rw [hI3]; exact fun i h => (xup_tag (by decide)).trans (hi2 i h)
      have hv18_3 : I3 30 0 0 18 = 0 := by rw [hI3]; exact (xup_slot (by decide)).trans hv18_2
      have hv19_3 : I3 30 0 0 19 = 0 := by rw [hI3]; exact xup_self
      have hs3 := hf3.si hs2
      refine w_aload_n dX11_docket_43 rfl ?_
      refine w_callV (as := []) (st := []) (Tri.mono (d_heard hm3 hw) (Nat.le_of_ble_eq_true rfl)) rfl rfl tg_X11_heard lk_X11_183 in_X11_heard se_X11_heard rfl dX11_docket_44 rfl (Nat.le_of_ble_eq_true rfl) (Nat.le_refl _) (Nat.le_refl _) ?_
      rintro _ _ ⟨rfl, rfl⟩ -
      refine w_istore (ls' := [some (vR 30 0 0), some (vI (nI n)), some (vI (2)), some (vI ((-4))), some (vI (nI (heardN a))), none, none]) dX11_docket_47 rfl ?_
      refine w_iconst (v := 0) dX11_docket_49 (by decide) ?_
      refine w_istore (ls' := [some (vR 30 0 0), some (vI (nI n)), some (vI (2)), some (vI ((-4))), some (vI (nI (heardN a))), some (vI (0)), none]) dX11_docket_50 rfl ?_
      refine l_docketM hw hn hd9 (fun I9 o6 hm9 hid9 hf9 => ?_) n 0 I3 none (Nat.zero_add _) hm3 (sits_range hi3 (by omega)) hv18_3 hv19_3 FrG.rf
      have hw9 := hw.it (ss := (List.range (nJ a))) (fun j h => range_in h) n (by omega)
      refine w_iload_n dX11_docket_121 rfl ?_
      refine w_tabIn (off := 52) (tgt := 174) dX11_docket_122 (by decide) (by decide) rfl (by decide) ?_
      refine w_aload_n dX11_docket_174 rfl ?_
      refine w_iconst (v := 2) dX11_docket_175 (by decide) ?_
      refine w_callV (as := [vI (2)]) (st := []) (Tri.mono (d_purses hm9 hw9) (Nat.le_of_ble_eq_true rfl)) rfl rfl tg_X11_allOf lk_X11_233 in_X11_allOf se_X11_allOf rfl dX11_docket_176 rfl (Nat.le_of_ble_eq_true rfl) (Nat.le_refl _) (Nat.le_refl _) ?_
      rintro _ _ ⟨rfl, rfl⟩ -
      exact w_ireturn dX11_docket_179 rfl (rfl) rfl (⟨rfl, _, _, rfl, (((hf1.r.tr hf2).tr hf3).tr hf9.r)⟩)

theorem p_docket_3 {I : xF4 Int32} {L : xF4 Int64} {a : aA} (hc : CourtIs I 0 a) (hw : WF a) {n : Nat} (hn : n ≤ 30) (hd9 : dY a ≤ 999)  : Tri 19 109 m_X10_docket [vR 0 0 0, vI (nI n), vI (3)] (rM I L) (pCq (vI (nI (sumN (fun j => jF (itN (List.range (nJ a)) a n) j 1) (nJ (itN (List.range (nJ a)) a n))))) I) := by
  refine ⟨k_X10_docket, Nat.le_of_ble_eq_true rfl, ?_⟩
  show Wp _ _ _ 0 [some (vR 0 0 0), some (vI (nI n)), some (vI (3))] [] (rM I L) _
  obtain ⟨hJ, hC, hG, hD, hR, -⟩ := id hw
  refine w_iload_n dX10_docket_0 rfl ?_
  refine w_iconst (v := 0) dX10_docket_1 (by decide) ?_
  refine w_bipush (v := 30) dX10_docket_2 (by decide) ?_
  refine w_callS (as := [vI (nI n), vI (0), vI (30)]) (st := []) (Tri.mono (c_X10_within (nI n) (0) (30)) (Nat.le_of_ble_eq_true rfl)) tg_X10_within lk_X10_158 sa_X10_within rfl dX10_docket_4 rfl (Nat.le_of_ble_eq_true rfl) (Nat.le_refl _) (Nat.le_refl _) ?_
  rintro _ _ ⟨rfl, rfl⟩ -
  refine w_top (y := bI (0 ≤ ((n : Nat) : Int) ∧ ((n : Nat) : Int) ≤ 30)) (show (bI ((0 : Int32) ≤ (nI n) ∧ (nI n) ≤ (30 : Int32)) : Int32) = bI (0 ≤ ((n : Nat) : Int) ∧ ((n : Nat) : Int) ≤ 30) from wiZ (X := ((n : Nat) : Int)) (A := 0) (B := 30) (z_nI (by omega)) (by decide) (by decide)) ?_
  refine w_ifeq_b (tgt := 19) dX10_docket_7 (by decide) (fun h1 => ?_) (fun h1 => ?_)
  · skip
    first
    | (exfalso; omega)
    | skip
      refine w_iconst (v := (-1)) dX10_docket_19 (by decide) ?_
      exact w_ireturn dX10_docket_20 rfl (rfl) rfl (⟨rfl, _, _, rfl, FrQ.rf⟩)
  · skip
    first
    | (exfalso; omega)
    | skip
      refine w_iload_n dX10_docket_10 rfl ?_
      refine w_iconst (v := 0) dX10_docket_11 (by decide) ?_
      refine w_iconst (v := 5) dX10_docket_12 (by decide) ?_
      refine w_callS (as := [vI (3), vI (0), vI (5)]) (st := []) (Tri.mono (c_X10_within (3) (0) (5)) (Nat.le_of_ble_eq_true rfl)) tg_X10_within lk_X10_158 sa_X10_within rfl dX10_docket_13 rfl (Nat.le_of_ble_eq_true rfl) (Nat.le_refl _) (Nat.le_refl _) ?_
      rintro _ _ ⟨rfl, rfl⟩ -
      refine w_top (y := 1) (show (bI ((0 : Int32) ≤ ((3 : Int32)) ∧ ((3 : Int32)) ≤ (5 : Int32)) : Int32) = 1 from bI_t (by decide)) ?_
      refine w_if_ne (tgt := 21) dX10_docket_16 (by decide) (fun _ => ?_) (fun h => absurd h (by decide))
      refine w_aload_n dX10_docket_21 rfl ?_
      refine w_getR (w := some (12, 0, 0)) ff_X10_36 rfl rfl dX10_docket_22 rfl ?_
      refine w_aload_n dX10_docket_25 rfl ?_
      refine w_getR (w := some (1, 0, 0)) ff_X10_10 rfl rfl dX10_docket_26 rfl ?_
      refine w_callV (as := [vR 1 0 0]) (st := []) (Tri.mono (c_seatAll hc hw) (Nat.le_of_ble_eq_true rfl)) rfl rfl tg_X2_seatAll lk_X10_192 in_X2_seatAll se_X2_seatAll rfl dX10_docket_29 rfl (Nat.le_of_ble_eq_true rfl) (Nat.le_refl _) (Nat.le_refl _) ?_
      rintro v M9 ⟨rfl, I1, rfl, hse1, hfs1⟩ -
      rw [seatL_all] at hse1
      have hc0_1 := hfs1.q.court (by decide) hc
      refine w_aload_n dX10_docket_32 rfl ?_
      refine w_getR (w := some (12, 0, 0)) ff_X10_36 rfl rfl dX10_docket_33 rfl ?_
      refine w_aload_n dX10_docket_36 rfl ?_
      refine w_getR (w := some (1, 1, 0)) ff_X10_16 rfl rfl dX10_docket_37 rfl ?_
      refine w_aload_n dX10_docket_40 rfl ?_
      refine w_getR (w := some (1, 0, 0)) ff_X10_10 rfl rfl dX10_docket_41 rfl ?_
      refine w_iload_n dX10_docket_44 rfl ?_
      refine w_callV (as := [vR 1 1 0, vR 1 0 0, vI (nI n)]) (st := []) (Tri.mono (c_play (by decide) hw hc0_1 hse1 (fun j h => List.mem_range.mp h) (n := n) (by omega) (by omega)) (Nat.le_of_ble_eq_true rfl)) rfl rfl tg_X2_play lk_X10_195 in_X2_play se_X2_play rfl dX10_docket_45 rfl (Nat.le_of_ble_eq_true rfl) (Nat.le_refl _) (Nat.le_refl _) ?_
      rintro v M9 ⟨rfl, I2, rfl, hp1_2, hp2_2, hp3_2, hfp2⟩ -
      have hwp2 := WF.it (ss := (List.range (nJ a))) hw (fun j h => List.mem_range.mp h) n (by omega)
      have hc0_2 := hfp2.q.court (by decide) hc0_1
      refine w_iload_n dX10_docket_48 rfl ?_
      refine w_tabIn (off := 59) (tgt := 108) dX10_docket_49 (by decide) (by decide) rfl (by decide) ?_
      refine w_aload_n dX10_docket_108 rfl ?_
      refine w_getR (w := some (1, 1, 0)) ff_X10_16 rfl rfl dX10_docket_109 rfl ?_
      refine w_callV (as := []) (st := []) (Tri.mono (c_allHealth hp1_2 hwp2) (Nat.le_of_ble_eq_true rfl)) rfl rfl tg_X1_allHealth lk_X10_205 in_X1_allHealth se_X1_allHealth rfl dX10_docket_112 rfl (Nat.le_of_ble_eq_true rfl) (Nat.le_refl _) (Nat.le_refl _) ?_
      rintro _ _ ⟨rfl, rfl⟩ -
      exact w_ireturn dX10_docket_115 rfl (rfl) rfl (⟨rfl, _, _, rfl, (hfs1.q.tr hfp2.q)⟩)

theorem q_docket_3 {I : xF4 Int32} {L : xF4 Int64} {a : aA} (hs : SI I a) (hw : WF a) {n : Nat} (hn : n ≤ 30) (hd9 : dY a ≤ 999)  : Tri 19 109 m_X11_docket [vR 30 0 0, vI (nI n), vI (3)] (rM I L) (pMq (vI (nI (sumN (fun j => jF (itN (List.range (nJ a)) a n) j 1) (nJ (itN (List.range (nJ a)) a n))))) I) := by
  refine ⟨k_X11_docket, Nat.le_of_ble_eq_true rfl, ?_⟩
  show Wp _ _ _ 0 [some (vR 30 0 0), some (vI (nI n)), some (vI (3)), none, none, none, none] [] (rM I L) _
  obtain ⟨hJ, hC, hG, hD, hR, -⟩ := id hw
  refine w_iload_n dX11_docket_0 rfl ?_
  refine w_i2l dX11_docket_1 ?_
  refine w_lconst (v := 0) dX11_docket_2 (by decide) ?_
  refine w_ldc2 dX11_docket_3 cq_X11_231 ?_
  refine w_callS (as := [vL ((nI n : Int32).toInt64), vL (0), vL (30)]) (st := []) (Tri.mono (d_in ((nI n : Int32).toInt64) (0) (30)) (Nat.le_of_ble_eq_true rfl)) tg_X11_in lk_X11_66 sa_X11_in rfl dX11_docket_6 rfl (Nat.le_of_ble_eq_true rfl) (Nat.le_refl _) (Nat.le_refl _) ?_
  rintro _ _ ⟨rfl, rfl⟩ -
  refine w_top (y := bI (0 ≤ ((n : Nat) : Int) ∧ ((n : Nat) : Int) ≤ 30)) (show (bI ((0 : Int64) ≤ ((nI n : Int32).toInt64) ∧ ((nI n : Int32).toInt64) ≤ (30 : Int64)) : Int32) = bI (0 ≤ ((n : Nat) : Int) ∧ ((n : Nat) : Int) ≤ 30) from inZ (x := nI n) (l := 0) (h := 30) (X := ((n : Nat) : Int)) (A := 0) (B := 30) rfl (by decide) (by decide) (z_nI (by omega)) (by decide) (by decide)) ?_
  refine w_ifeq_b (tgt := 24) dX11_docket_9 (by decide) (fun h1 => ?_) (fun h1 => ?_)
  · skip
    first
    | (exfalso; omega)
    | skip
      refine w_iconst (v := (-1)) dX11_docket_24 (by decide) ?_
      exact w_ireturn dX11_docket_25 rfl (rfl) rfl (⟨rfl, _, _, rfl, FrR.rf⟩)
  · skip
    first
    | (exfalso; omega)
    | skip
      refine w_iload_n dX11_docket_12 rfl ?_
      refine w_i2l dX11_docket_13 ?_
      refine w_lconst (v := 0) dX11_docket_14 (by decide) ?_
      refine w_ldc2 dX11_docket_15 cq_X11_202 ?_
      refine w_callS (as := [vL ((3 : Int32).toInt64), vL (0), vL (5)]) (st := []) (Tri.mono (d_in ((3 : Int32).toInt64) (0) (5)) (Nat.le_of_ble_eq_true rfl)) tg_X11_in lk_X11_66 sa_X11_in rfl dX11_docket_18 rfl (Nat.le_of_ble_eq_true rfl) (Nat.le_refl _) (Nat.le_refl _) ?_
      rintro _ _ ⟨rfl, rfl⟩ -
      refine w_top (y := 1) (show (bI ((0 : Int64) ≤ ((3 : Int32).toInt64) ∧ ((3 : Int32).toInt64) ≤ (5 : Int64)) : Int32) = 1 from bI_t (by decide)) ?_
      refine w_if_ne (tgt := 26) dX11_docket_21 (by decide) (fun _ => ?_) (fun h => absurd h (by decide))
      refine w_bipush (v := (-4)) dX11_docket_26 (by decide) ?_
      refine w_istore_n (ls' := [some (vR 30 0 0), some (vI (nI n)), some (vI (3)), some (vI ((-4))), none, none, none]) dX11_docket_28 rfl ?_
      refine w_aload_n dX11_docket_29 rfl ?_
      refine w_callV (as := []) (st := []) (Tri.mono (d_starts hs hw) (Nat.le_of_ble_eq_true rfl)) rfl rfl tg_X11_starts lk_X11_192 in_X11_starts se_X11_starts rfl dX11_docket_30 rfl (Nat.le_of_ble_eq_true rfl) (Nat.le_refl _) (Nat.le_refl _) ?_
      rintro v M9 ⟨rfl, I1, rfl, hm1, hi1, hf1⟩ -
      have hs1 := hf1.r.si hs
      refine w_aload_n dX11_docket_33 rfl ?_
      refine w_iconst (v := 0) dX11_docket_34 (by decide) ?_
      refine w_putI ff_X11_168 rfl rfl rfl rfl dX11_docket_35 ?_
      obtain ⟨I2, hI2⟩ : ∃ z, z = xup I1 30 0 0 18 (0) := ⟨_, rfl⟩
      rw [← hI2]
      have hf2 : FrR I1 I2 := by rw [hI2]; exact FrR.up (by omega)
      have hm2 : MI I2 a := by rw [hI2]; exact hm1.at30 (by decide) (by decide) _
      have hi2 : ∀ i, i < 4 → I2 36 0 0 i = nI i := by rw [hI2]; exact fun i h => (xup_tag (by decide)).trans (hi1 i h)
      have hv18_2 : I2 30 0 0 18 = 0 := by rw [hI2]; exact xup_self
      have hs2 := hf2.si hs1
      refine w_aload_n dX11_docket_38 rfl ?_
      refine w_iconst (v := 0) dX11_docket_39 (by decide) ?_
      refine w_putI ff_X11_177 rfl rfl rfl rfl dX11_docket_40 ?_
      obtain ⟨I3, hI3⟩ : ∃ z, z = xup I2 30 0 0 19 (0) := ⟨_, rfl⟩
      rw [← hI3]
      have hf3 : FrR I2 I3 := by rw [hI3]; exact FrR.up (by omega)
      have hm3 : MI I3 a := by rw [hI3]; exact hm2.at30 (by decide) (by decide) _
      have hi3 : ∀ i, i < 4 → I3 36 0 0 i = nI i := by rw [hI3]; exact fun i h => (xup_tag (by decide)).trans (hi2 i h)
      have hv18_3 : I3 30 0 0 18 = 0 := by rw [hI3]; exact (xup_slot (by decide)).trans hv18_2
      have hv19_3 : I3 30 0 0 19 = 0 := by rw [hI3]; exact xup_self
      have hs3 := hf3.si hs2
      refine w_aload_n dX11_docket_43 rfl ?_
      refine w_callV (as := []) (st := []) (Tri.mono (d_heard hm3 hw) (Nat.le_of_ble_eq_true rfl)) rfl rfl tg_X11_heard lk_X11_183 in_X11_heard se_X11_heard rfl dX11_docket_44 rfl (Nat.le_of_ble_eq_true rfl) (Nat.le_refl _) (Nat.le_refl _) ?_
      rintro _ _ ⟨rfl, rfl⟩ -
      refine w_istore (ls' := [some (vR 30 0 0), some (vI (nI n)), some (vI (3)), some (vI ((-4))), some (vI (nI (heardN a))), none, none]) dX11_docket_47 rfl ?_
      refine w_iconst (v := 0) dX11_docket_49 (by decide) ?_
      refine w_istore (ls' := [some (vR 30 0 0), some (vI (nI n)), some (vI (3)), some (vI ((-4))), some (vI (nI (heardN a))), some (vI (0)), none]) dX11_docket_50 rfl ?_
      refine l_docketM hw hn hd9 (fun I9 o6 hm9 hid9 hf9 => ?_) n 0 I3 none (Nat.zero_add _) hm3 (sits_range hi3 (by omega)) hv18_3 hv19_3 FrG.rf
      have hw9 := hw.it (ss := (List.range (nJ a))) (fun j h => range_in h) n (by omega)
      refine w_iload_n dX11_docket_121 rfl ?_
      refine w_tabIn (off := 58) (tgt := 180) dX11_docket_122 (by decide) (by decide) rfl (by decide) ?_
      refine w_aload_n dX11_docket_180 rfl ?_
      refine w_iconst (v := 1) dX11_docket_181 (by decide) ?_
      refine w_callV (as := [vI (1)]) (st := []) (Tri.mono (d_healths hm9 hw9) (Nat.le_of_ble_eq_true rfl)) rfl rfl tg_X11_allOf lk_X11_233 in_X11_allOf se_X11_allOf rfl dX11_docket_182 rfl (Nat.le_of_ble_eq_true rfl) (Nat.le_refl _) (Nat.le_refl _) ?_
      rintro _ _ ⟨rfl, rfl⟩ -
      exact w_ireturn dX11_docket_185 rfl (rfl) rfl (⟨rfl, _, _, rfl, (((hf1.r.tr hf2).tr hf3).tr hf9.r)⟩)

theorem p_docket_4 {I : xF4 Int32} {L : xF4 Int64} {a : aA} (hc : CourtIs I 0 a) (hw : WF a) {n : Nat} (hn : n ≤ 30) (hd9 : dY a ≤ 999)  : Tri 19 109 m_X10_docket [vR 0 0 0, vI (nI n), vI (4)] (rM I L) (pCq (vI (nI (idT 0 (List.range (nJ a)) a n))) I) := by
  refine ⟨k_X10_docket, Nat.le_of_ble_eq_true rfl, ?_⟩
  show Wp _ _ _ 0 [some (vR 0 0 0), some (vI (nI n)), some (vI (4))] [] (rM I L) _
  obtain ⟨hJ, hC, hG, hD, hR, -⟩ := id hw
  refine w_iload_n dX10_docket_0 rfl ?_
  refine w_iconst (v := 0) dX10_docket_1 (by decide) ?_
  refine w_bipush (v := 30) dX10_docket_2 (by decide) ?_
  refine w_callS (as := [vI (nI n), vI (0), vI (30)]) (st := []) (Tri.mono (c_X10_within (nI n) (0) (30)) (Nat.le_of_ble_eq_true rfl)) tg_X10_within lk_X10_158 sa_X10_within rfl dX10_docket_4 rfl (Nat.le_of_ble_eq_true rfl) (Nat.le_refl _) (Nat.le_refl _) ?_
  rintro _ _ ⟨rfl, rfl⟩ -
  refine w_top (y := bI (0 ≤ ((n : Nat) : Int) ∧ ((n : Nat) : Int) ≤ 30)) (show (bI ((0 : Int32) ≤ (nI n) ∧ (nI n) ≤ (30 : Int32)) : Int32) = bI (0 ≤ ((n : Nat) : Int) ∧ ((n : Nat) : Int) ≤ 30) from wiZ (X := ((n : Nat) : Int)) (A := 0) (B := 30) (z_nI (by omega)) (by decide) (by decide)) ?_
  refine w_ifeq_b (tgt := 19) dX10_docket_7 (by decide) (fun h1 => ?_) (fun h1 => ?_)
  · skip
    first
    | (exfalso; omega)
    | skip
      refine w_iconst (v := (-1)) dX10_docket_19 (by decide) ?_
      exact w_ireturn dX10_docket_20 rfl (rfl) rfl (⟨rfl, _, _, rfl, FrQ.rf⟩)
  · skip
    first
    | (exfalso; omega)
    | skip
      refine w_iload_n dX10_docket_10 rfl ?_
      refine w_iconst (v := 0) dX10_docket_11 (by decide) ?_
      refine w_iconst (v := 5) dX10_docket_12 (by decide) ?_
      refine w_callS (as := [vI (4), vI (0), vI (5)]) (st := []) (Tri.mono (c_X10_within (4) (0) (5)) (Nat.le_of_ble_eq_true rfl)) tg_X10_within lk_X10_158 sa_X10_within rfl dX10_docket_13 rfl (Nat.le_of_ble_eq_true rfl) (Nat.le_refl _) (Nat.le_refl _) ?_
      rintro _ _ ⟨rfl, rfl⟩ -
      refine w_top (y := 1) (show (bI ((0 : Int32) ≤ ((4 : Int32)) ∧ ((4 : Int32)) ≤ (5 : Int32)) : Int32) = 1 from bI_t (by decide)) ?_
      refine w_if_ne (tgt := 21) dX10_docket_16 (by decide) (fun _ => ?_) (fun h => absurd h (by decide))
      refine w_aload_n dX10_docket_21 rfl ?_
      refine w_getR (w := some (12, 0, 0)) ff_X10_36 rfl rfl dX10_docket_22 rfl ?_
      refine w_aload_n dX10_docket_25 rfl ?_
      refine w_getR (w := some (1, 0, 0)) ff_X10_10 rfl rfl dX10_docket_26 rfl ?_
      refine w_callV (as := [vR 1 0 0]) (st := []) (Tri.mono (c_seatAll hc hw) (Nat.le_of_ble_eq_true rfl)) rfl rfl tg_X2_seatAll lk_X10_192 in_X2_seatAll se_X2_seatAll rfl dX10_docket_29 rfl (Nat.le_of_ble_eq_true rfl) (Nat.le_refl _) (Nat.le_refl _) ?_
      rintro v M9 ⟨rfl, I1, rfl, hse1, hfs1⟩ -
      rw [seatL_all] at hse1
      have hc0_1 := hfs1.q.court (by decide) hc
      refine w_aload_n dX10_docket_32 rfl ?_
      refine w_getR (w := some (12, 0, 0)) ff_X10_36 rfl rfl dX10_docket_33 rfl ?_
      refine w_aload_n dX10_docket_36 rfl ?_
      refine w_getR (w := some (1, 1, 0)) ff_X10_16 rfl rfl dX10_docket_37 rfl ?_
      refine w_aload_n dX10_docket_40 rfl ?_
      refine w_getR (w := some (1, 0, 0)) ff_X10_10 rfl rfl dX10_docket_41 rfl ?_
      refine w_iload_n dX10_docket_44 rfl ?_
      refine w_callV (as := [vR 1 1 0, vR 1 0 0, vI (nI n)]) (st := []) (Tri.mono (c_play (by decide) hw hc0_1 hse1 (fun j h => List.mem_range.mp h) (n := n) (by omega) (by omega)) (Nat.le_of_ble_eq_true rfl)) rfl rfl tg_X2_play lk_X10_195 in_X2_play se_X2_play rfl dX10_docket_45 rfl (Nat.le_of_ble_eq_true rfl) (Nat.le_refl _) (Nat.le_refl _) ?_
      rintro v M9 ⟨rfl, I2, rfl, hp1_2, hp2_2, hp3_2, hfp2⟩ -
      have hwp2 := WF.it (ss := (List.range (nJ a))) hw (fun j h => List.mem_range.mp h) n (by omega)
      have hc0_2 := hfp2.q.court (by decide) hc0_1
      refine w_iload_n dX10_docket_48 rfl ?_
      refine w_tabIn (off := 67) (tgt := 116) dX10_docket_49 (by decide) (by decide) rfl (by decide) ?_
      refine w_iload_n dX10_docket_116 rfl ?_
      refine w_aload_n dX10_docket_117 rfl ?_
      refine w_getR (w := some (1, 0, 0)) ff_X10_10 rfl rfl dX10_docket_118 rfl ?_
      refine w_getI ff_X10_89 rfl rfl dX10_docket_121 ?_
      rw [show (I2 1 0 0 3 : Int32) = nI (nJ a) from hc0_2.1]
      refine w_imul dX10_docket_124 ?_
      rw [show ((nI n) * (nI (nJ a)) : Int32) = nI (n * (nJ a)) from ar_mul (p := n) (q := nJ a) rfl rfl (by first | rfl | omega)]
      refine w_aload_n dX10_docket_125 rfl ?_
      refine w_getR (w := some (12, 0, 0)) ff_X10_36 rfl rfl dX10_docket_126 rfl ?_
      refine w_getI ff_X10_199 rfl rfl dX10_docket_129 ?_
      rw [show (I2 12 0 0 2 : Int32) = nI (newN (heardN (itN (List.range (nJ a)) a n)) (heardN a)) from hp2_2.trans (newN_0 _ (heardN_lt hwp2) _ (heardN_lt hw))]
      refine w_callS (as := [vI (nI (newN (heardN (itN (List.range (nJ a)) a n)) (heardN a)))]) (st := [vI (nI (n * (nJ a)))]) (Tri.mono (c_bitCount (nI (newN (heardN (itN (List.range (nJ a)) a n)) (heardN a)))) (Nat.le_of_ble_eq_true rfl)) tg_J6_bitCount_0f7a4 lk_X10_208 sa_J6_bitCount_0f7a4 rfl dX10_docket_132 rfl (Nat.le_of_ble_eq_true rfl) (Nat.le_refl _) (Nat.le_refl _) ?_
      rintro _ _ ⟨rfl, rfl⟩ -
      refine w_top (y := nI (popN (newN (heardN (itN (List.range (nJ a)) a n)) (heardN a)))) (show (bcI (nI (newN (heardN (itN (List.range (nJ a)) a n)) (heardN a))) : Int32) = nI (popN (newN (heardN (itN (List.range (nJ a)) a n)) (heardN a))) from bcI_N0 _ (Nat.lt_of_lt_of_le (bitN_lt _ _) (by decide))) ?_
      refine w_isub dX10_docket_135 ?_
      refine w_top (y := nI (idT 0 (List.range (nJ a)) a n)) (show ((nI (n * (nJ a))) - (nI (popN (newN (heardN (itN (List.range (nJ a)) a n)) (heardN a)))) : Int32) = nI (idT 0 (List.range (nJ a)) a n) from idle_eq hw (by omega)) ?_
      exact w_ireturn dX10_docket_136 rfl (rfl) rfl (⟨rfl, _, _, rfl, (hfs1.q.tr hfp2.q)⟩)

theorem q_docket_4 {I : xF4 Int32} {L : xF4 Int64} {a : aA} (hs : SI I a) (hw : WF a) {n : Nat} (hn : n ≤ 30) (hd9 : dY a ≤ 999)  : Tri 19 109 m_X11_docket [vR 30 0 0, vI (nI n), vI (4)] (rM I L) (pMq (vI (nI (idT 0 (List.range (nJ a)) a n))) I) := by
  refine ⟨k_X11_docket, Nat.le_of_ble_eq_true rfl, ?_⟩
  show Wp _ _ _ 0 [some (vR 30 0 0), some (vI (nI n)), some (vI (4)), none, none, none, none] [] (rM I L) _
  obtain ⟨hJ, hC, hG, hD, hR, -⟩ := id hw
  refine w_iload_n dX11_docket_0 rfl ?_
  refine w_i2l dX11_docket_1 ?_
  refine w_lconst (v := 0) dX11_docket_2 (by decide) ?_
  refine w_ldc2 dX11_docket_3 cq_X11_231 ?_
  refine w_callS (as := [vL ((nI n : Int32).toInt64), vL (0), vL (30)]) (st := []) (Tri.mono (d_in ((nI n : Int32).toInt64) (0) (30)) (Nat.le_of_ble_eq_true rfl)) tg_X11_in lk_X11_66 sa_X11_in rfl dX11_docket_6 rfl (Nat.le_of_ble_eq_true rfl) (Nat.le_refl _) (Nat.le_refl _) ?_
  rintro _ _ ⟨rfl, rfl⟩ -
  refine w_top (y := bI (0 ≤ ((n : Nat) : Int) ∧ ((n : Nat) : Int) ≤ 30)) (show (bI ((0 : Int64) ≤ ((nI n : Int32).toInt64) ∧ ((nI n : Int32).toInt64) ≤ (30 : Int64)) : Int32) = bI (0 ≤ ((n : Nat) : Int) ∧ ((n : Nat) : Int) ≤ 30) from inZ (x := nI n) (l := 0) (h := 30) (X := ((n : Nat) : Int)) (A := 0) (B := 30) rfl (by decide) (by decide) (z_nI (by omega)) (by decide) (by decide)) ?_
  refine w_ifeq_b (tgt := 24) dX11_docket_9 (by decide) (fun h1 => ?_) (fun h1 => ?_)
  · skip
    first
    | (exfalso; omega)
    | skip
      refine w_iconst (v := (-1)) dX11_docket_24 (by decide) ?_
      exact w_ireturn dX11_docket_25 rfl (rfl) rfl (⟨rfl, _, _, rfl, FrR.rf⟩)
  · skip
    first
    | (exfalso; omega)
    | skip
      refine w_iload_n dX11_docket_12 rfl ?_
      refine w_i2l dX11_docket_13 ?_
      refine w_lconst (v := 0) dX11_docket_14 (by decide) ?_
      refine w_ldc2 dX11_docket_15 cq_X11_202 ?_
      refine w_callS (as := [vL ((4 : Int32).toInt64), vL (0), vL (5)]) (st := []) (Tri.mono (d_in ((4 : Int32).toInt64) (0) (5)) (Nat.le_of_ble_eq_true rfl)) tg_X11_in lk_X11_66 sa_X11_in rfl dX11_docket_18 rfl (Nat.le_of_ble_eq_true rfl) (Nat.le_refl _) (Nat.le_refl _) ?_
      rintro _ _ ⟨rfl, rfl⟩ -
      refine w_top (y := 1) (show (bI ((0 : Int64) ≤ ((4 : Int32).toInt64) ∧ ((4 : Int32).toInt64) ≤ (5 : Int64)) : Int32) = 1 from bI_t (by decide)) ?_
      refine w_if_ne (tgt := 26) dX11_docket_21 (by decide) (fun _ => ?_) (fun h => absurd h (by decide))
      refine w_bipush (v := (-4)) dX11_docket_26 (by decide) ?_
      refine w_istore_n (ls' := [some (vR 30 0 0), some (vI (nI n)), some (vI (4)), some (vI ((-4))), none, none, none]) dX11_docket_28 rfl ?_
      refine w_aload_n dX11_docket_29 rfl ?_
      refine w_callV (as := []) (st := []) (Tri.mono (d_starts hs hw) (Nat.le_of_ble_eq_true rfl)) rfl rfl tg_X11_starts lk_X11_192 in_X11_starts se_X11_starts rfl dX11_docket_30 rfl (Nat.le_of_ble_eq_true rfl) (Nat.le_refl _) (Nat.le_refl _) ?_
      rintro v M9 ⟨rfl, I1, rfl, hm1, hi1, hf1⟩ -
      have hs1 := hf1.r.si hs
      refine w_aload_n dX11_docket_33 rfl ?_
      refine w_iconst (v := 0) dX11_docket_34 (by decide) ?_
      refine w_putI ff_X11_168 rfl rfl rfl rfl dX11_docket_35 ?_
      obtain ⟨I2, hI2⟩ : ∃ z, z = xup I1 30 0 0 18 (0) := ⟨_, rfl⟩
      rw [← hI2]
      have hf2 : FrR I1 I2 := by rw [hI2]; exact FrR.up (by omega)
      have hm2 : MI I2 a := by rw [hI2]; exact hm1.at30 (by decide) (by decide) _
      have hi2 : ∀ i, i < 4 → I2 36 0 0 i = nI i := by rw [hI2]; exact fun i h => (xup_tag (by decide)).trans (hi1 i h)
      have hv18_2 : I2 30 0 0 18 = 0 := by rw [hI2]; exact xup_self
      have hs2 := hf2.si hs1
      refine w_aload_n dX11_docket_38 rfl ?_
      refine w_iconst (v := 0) dX11_docket_39 (by decide) ?_
      refine w_putI ff_X11_177 rfl rfl rfl rfl dX11_docket_40 ?_
      obtain ⟨I3, hI3⟩ : ∃ z, z = xup I2 30 0 0 19 (0) := ⟨_, rfl⟩
      rw [← hI3]
      have hf3 : FrR I2 I3 := by rw [hI3]; exact FrR.up (by omega)
      have hm3 : MI I3 a := by rw [hI3]; exact hm2.at30 (by decide) (by decide) _
      have hi3 : ∀ i, i < 4 → I3 36 0 0 i = nI i := by rw [hI3]; exact fun i h => (xup_tag (by decide)).trans (hi2 i h)
      have hv18_3 : I3 30 0 0 18 = 0 := by rw [hI3]; exact (xup_slot (by decide)).trans hv18_2
      have hv19_3 : I3 30 0 0 19 = 0 := by rw [hI3]; exact xup_self
      have hs3 := hf3.si hs2
      refine w_aload_n dX11_docket_43 rfl ?_
      refine w_callV (as := []) (st := []) (Tri.mono (d_heard hm3 hw) (Nat.le_of_ble_eq_true rfl)) rfl rfl tg_X11_heard lk_X11_183 in_X11_heard se_X11_heard rfl dX11_docket_44 rfl (Nat.le_of_ble_eq_true rfl) (Nat.le_refl _) (Nat.le_refl _) ?_
      rintro _ _ ⟨rfl, rfl⟩ -
      refine w_istore (ls' := [some (vR 30 0 0), some (vI (nI n)), some (vI (4)), some (vI ((-4))), some (vI (nI (heardN a))), none, none]) dX11_docket_47 rfl ?_
      refine w_iconst (v := 0) dX11_docket_49 (by decide) ?_
      refine w_istore (ls' := [some (vR 30 0 0), some (vI (nI n)), some (vI (4)), some (vI ((-4))), some (vI (nI (heardN a))), some (vI (0)), none]) dX11_docket_50 rfl ?_
      refine l_docketM hw hn hd9 (fun I9 o6 hm9 hid9 hf9 => ?_) n 0 I3 none (Nat.zero_add _) hm3 (sits_range hi3 (by omega)) hv18_3 hv19_3 FrG.rf
      have hw9 := hw.it (ss := (List.range (nJ a))) (fun j h => range_in h) n (by omega)
      refine w_iload_n dX11_docket_121 rfl ?_
      refine w_tabIn (off := 64) (tgt := 186) dX11_docket_122 (by decide) (by decide) rfl (by decide) ?_
      refine w_aload_n dX11_docket_186 rfl ?_
      refine w_getI ff_X11_177 rfl rfl dX11_docket_187 ?_
      rw [show (I9 30 0 0 19 : Int32) = nI (idT 0 (List.range (nJ a)) a n) from hid9]
      exact w_ireturn dX11_docket_190 rfl (rfl) rfl (⟨rfl, _, _, rfl, (((hf1.r.tr hf2).tr hf3).tr hf9.r)⟩)

theorem p_docket_5 {I : xF4 Int32} {L : xF4 Int64} {a : aA} (hc : CourtIs I 0 a) (hw : WF a) {n : Nat} (hn : n ≤ 30) (hd9 : dY a ≤ 999)  : Tri 19 109 m_X10_docket [vR 0 0 0, vI (nI n), vI (5)] (rM I L) (pCq (vI (byI (cbF (List.range (nJ a)) a n))) I) := by
  refine ⟨k_X10_docket, Nat.le_of_ble_eq_true rfl, ?_⟩
  show Wp _ _ _ 0 [some (vR 0 0 0), some (vI (nI n)), some (vI (5))] [] (rM I L) _
  obtain ⟨hJ, hC, hG, hD, hR, -⟩ := id hw
  refine w_iload_n dX10_docket_0 rfl ?_
  refine w_iconst (v := 0) dX10_docket_1 (by decide) ?_
  refine w_bipush (v := 30) dX10_docket_2 (by decide) ?_
  refine w_callS (as := [vI (nI n), vI (0), vI (30)]) (st := []) (Tri.mono (c_X10_within (nI n) (0) (30)) (Nat.le_of_ble_eq_true rfl)) tg_X10_within lk_X10_158 sa_X10_within rfl dX10_docket_4 rfl (Nat.le_of_ble_eq_true rfl) (Nat.le_refl _) (Nat.le_refl _) ?_
  rintro _ _ ⟨rfl, rfl⟩ -
  refine w_top (y := bI (0 ≤ ((n : Nat) : Int) ∧ ((n : Nat) : Int) ≤ 30)) (show (bI ((0 : Int32) ≤ (nI n) ∧ (nI n) ≤ (30 : Int32)) : Int32) = bI (0 ≤ ((n : Nat) : Int) ∧ ((n : Nat) : Int) ≤ 30) from wiZ (X := ((n : Nat) : Int)) (A := 0) (B := 30) (z_nI (by omega)) (by decide) (by decide)) ?_
  refine w_ifeq_b (tgt := 19) dX10_docket_7 (by decide) (fun h1 => ?_) (fun h1 => ?_)
  · skip
    first
    | (exfalso; omega)
    | skip
      refine w_iconst (v := (-1)) dX10_docket_19 (by decide) ?_
      exact w_ireturn dX10_docket_20 rfl (rfl) rfl (⟨rfl, _, _, rfl, FrQ.rf⟩)
  · skip
    first
    | (exfalso; omega)
    | skip
      refine w_iload_n dX10_docket_10 rfl ?_
      refine w_iconst (v := 0) dX10_docket_11 (by decide) ?_
      refine w_iconst (v := 5) dX10_docket_12 (by decide) ?_
      refine w_callS (as := [vI (5), vI (0), vI (5)]) (st := []) (Tri.mono (c_X10_within (5) (0) (5)) (Nat.le_of_ble_eq_true rfl)) tg_X10_within lk_X10_158 sa_X10_within rfl dX10_docket_13 rfl (Nat.le_of_ble_eq_true rfl) (Nat.le_refl _) (Nat.le_refl _) ?_
      rintro _ _ ⟨rfl, rfl⟩ -
      refine w_top (y := 1) (show (bI ((0 : Int32) ≤ ((5 : Int32)) ∧ ((5 : Int32)) ≤ (5 : Int32)) : Int32) = 1 from bI_t (by decide)) ?_
      refine w_if_ne (tgt := 21) dX10_docket_16 (by decide) (fun _ => ?_) (fun h => absurd h (by decide))
      refine w_aload_n dX10_docket_21 rfl ?_
      refine w_getR (w := some (12, 0, 0)) ff_X10_36 rfl rfl dX10_docket_22 rfl ?_
      refine w_aload_n dX10_docket_25 rfl ?_
      refine w_getR (w := some (1, 0, 0)) ff_X10_10 rfl rfl dX10_docket_26 rfl ?_
      refine w_callV (as := [vR 1 0 0]) (st := []) (Tri.mono (c_seatAll hc hw) (Nat.le_of_ble_eq_true rfl)) rfl rfl tg_X2_seatAll lk_X10_192 in_X2_seatAll se_X2_seatAll rfl dX10_docket_29 rfl (Nat.le_of_ble_eq_true rfl) (Nat.le_refl _) (Nat.le_refl _) ?_
      rintro v M9 ⟨rfl, I1, rfl, hse1, hfs1⟩ -
      rw [seatL_all] at hse1
      have hc0_1 := hfs1.q.court (by decide) hc
      refine w_aload_n dX10_docket_32 rfl ?_
      refine w_getR (w := some (12, 0, 0)) ff_X10_36 rfl rfl dX10_docket_33 rfl ?_
      refine w_aload_n dX10_docket_36 rfl ?_
      refine w_getR (w := some (1, 1, 0)) ff_X10_16 rfl rfl dX10_docket_37 rfl ?_
      refine w_aload_n dX10_docket_40 rfl ?_
      refine w_getR (w := some (1, 0, 0)) ff_X10_10 rfl rfl dX10_docket_41 rfl ?_
      refine w_iload_n dX10_docket_44 rfl ?_
      refine w_callV (as := [vR 1 1 0, vR 1 0 0, vI (nI n)]) (st := []) (Tri.mono (c_play (by decide) hw hc0_1 hse1 (fun j h => List.mem_range.mp h) (n := n) (by omega) (by omega)) (Nat.le_of_ble_eq_true rfl)) rfl rfl tg_X2_play lk_X10_195 in_X2_play se_X2_play rfl dX10_docket_45 rfl (Nat.le_of_ble_eq_true rfl) (Nat.le_refl _) (Nat.le_refl _) ?_
      rintro v M9 ⟨rfl, I2, rfl, hp1_2, hp2_2, hp3_2, hfp2⟩ -
      have hwp2 := WF.it (ss := (List.range (nJ a))) hw (fun j h => List.mem_range.mp h) n (by omega)
      have hc0_2 := hfp2.q.court (by decide) hc0_1
      refine w_iload_n dX10_docket_48 rfl ?_
      refine w_tabOut (tgt := 137) dX10_docket_49 (by decide) (by decide) ?_
      refine w_aload_n dX10_docket_137 rfl ?_
      refine w_getR (w := some (12, 0, 0)) ff_X10_36 rfl rfl dX10_docket_138 rfl ?_
      refine w_getI ff_X10_213 rfl rfl dX10_docket_141 ?_
      rw [show (I2 12 0 0 3 : Int32) = byI (cbF (List.range (nJ a)) a n) from hp3_2]
      exact w_ireturn dX10_docket_144 rfl (rfl) rfl (⟨rfl, _, _, rfl, (hfs1.q.tr hfp2.q)⟩)

theorem q_docket_5 {I : xF4 Int32} {L : xF4 Int64} {a : aA} (hs : SI I a) (hw : WF a) {n : Nat} (hn : n ≤ 30) (hd9 : dY a ≤ 999)  : Tri 19 109 m_X11_docket [vR 30 0 0, vI (nI n), vI (5)] (rM I L) (pMq (vI (byI (cbF (List.range (nJ a)) a n))) I) := by
  refine ⟨k_X11_docket, Nat.le_of_ble_eq_true rfl, ?_⟩
  show Wp _ _ _ 0 [some (vR 30 0 0), some (vI (nI n)), some (vI (5)), none, none, none, none] [] (rM I L) _
  obtain ⟨hJ, hC, hG, hD, hR, -⟩ := id hw
  refine w_iload_n dX11_docket_0 rfl ?_
  refine w_i2l dX11_docket_1 ?_
  refine w_lconst (v := 0) dX11_docket_2 (by decide) ?_
  refine w_ldc2 dX11_docket_3 cq_X11_231 ?_
  refine w_callS (as := [vL ((nI n : Int32).toInt64), vL (0), vL (30)]) (st := []) (Tri.mono (d_in ((nI n : Int32).toInt64) (0) (30)) (Nat.le_of_ble_eq_true rfl)) tg_X11_in lk_X11_66 sa_X11_in rfl dX11_docket_6 rfl (Nat.le_of_ble_eq_true rfl) (Nat.le_refl _) (Nat.le_refl _) ?_
  rintro _ _ ⟨rfl, rfl⟩ -
  refine w_top (y := bI (0 ≤ ((n : Nat) : Int) ∧ ((n : Nat) : Int) ≤ 30)) (show (bI ((0 : Int64) ≤ ((nI n : Int32).toInt64) ∧ ((nI n : Int32).toInt64) ≤ (30 : Int64)) : Int32) = bI (0 ≤ ((n : Nat) : Int) ∧ ((n : Nat) : Int) ≤ 30) from inZ (x := nI n) (l := 0) (h := 30) (X := ((n : Nat) : Int)) (A := 0) (B := 30) rfl (by decide) (by decide) (z_nI (by omega)) (by decide) (by decide)) ?_
  refine w_ifeq_b (tgt := 24) dX11_docket_9 (by decide) (fun h1 => ?_) (fun h1 => ?_)
  · skip
    first
    | (exfalso; omega)
    | skip
      refine w_iconst (v := (-1)) dX11_docket_24 (by decide) ?_
      exact w_ireturn dX11_docket_25 rfl (rfl) rfl (⟨rfl, _, _, rfl, FrR.rf⟩)
  · skip
    first
    | (exfalso; omega)
    | skip
      refine w_iload_n dX11_docket_12 rfl ?_
      refine w_i2l dX11_docket_13 ?_
      refine w_lconst (v := 0) dX11_docket_14 (by decide) ?_
      refine w_ldc2 dX11_docket_15 cq_X11_202 ?_
      refine w_callS (as := [vL ((5 : Int32).toInt64), vL (0), vL (5)]) (st := []) (Tri.mono (d_in ((5 : Int32).toInt64) (0) (5)) (Nat.le_of_ble_eq_true rfl)) tg_X11_in lk_X11_66 sa_X11_in rfl dX11_docket_18 rfl (Nat.le_of_ble_eq_true rfl) (Nat.le_refl _) (Nat.le_refl _) ?_
      rintro _ _ ⟨rfl, rfl⟩ -
      refine w_top (y := 1) (show (bI ((0 : Int64) ≤ ((5 : Int32).toInt64) ∧ ((5 : Int32).toInt64) ≤ (5 : Int64)) : Int32) = 1 from bI_t (by decide)) ?_
      refine w_if_ne (tgt := 26) dX11_docket_21 (by decide) (fun _ => ?_) (fun h => absurd h (by decide))
      refine w_bipush (v := (-4)) dX11_docket_26 (by decide) ?_
      refine w_istore_n (ls' := [some (vR 30 0 0), some (vI (nI n)), some (vI (5)), some (vI ((-4))), none, none, none]) dX11_docket_28 rfl ?_
      refine w_aload_n dX11_docket_29 rfl ?_
      refine w_callV (as := []) (st := []) (Tri.mono (d_starts hs hw) (Nat.le_of_ble_eq_true rfl)) rfl rfl tg_X11_starts lk_X11_192 in_X11_starts se_X11_starts rfl dX11_docket_30 rfl (Nat.le_of_ble_eq_true rfl) (Nat.le_refl _) (Nat.le_refl _) ?_
      rintro v M9 ⟨rfl, I1, rfl, hm1, hi1, hf1⟩ -
      have hs1 := hf1.r.si hs
      refine w_aload_n dX11_docket_33 rfl ?_
      refine w_iconst (v := 0) dX11_docket_34 (by decide) ?_
      refine w_putI ff_X11_168 rfl rfl rfl rfl dX11_docket_35 ?_
      obtain ⟨I2, hI2⟩ : ∃ z, z = xup I1 30 0 0 18 (0) := ⟨_, rfl⟩
      rw [← hI2]
      have hf2 : FrR I1 I2 := by rw [hI2]; exact FrR.up (by omega)
      have hm2 : MI I2 a := by rw [hI2]; exact hm1.at30 (by decide) (by decide) _
      have hi2 : ∀ i, i < 4 → I2 36 0 0 i = nI i := by rw [hI2]; exact fun i h => (xup_tag (by decide)).trans (hi1 i h)
      have hv18_2 : I2 30 0 0 18 = 0 := by rw [hI2]; exact xup_self
      have hs2 := hf2.si hs1
      refine w_aload_n dX11_docket_38 rfl ?_
      refine w_iconst (v := 0) dX11_docket_39 (by decide) ?_
      refine w_putI ff_X11_177 rfl rfl rfl rfl dX11_docket_40 ?_
      obtain ⟨I3, hI3⟩ : ∃ z, z = xup I2 30 0 0 19 (0) := ⟨_, rfl⟩
      rw [← hI3]
      have hf3 : FrR I2 I3 := by rw [hI3]; exact FrR.up (by omega)
      have hm3 : MI I3 a := by rw [hI3]; exact hm2.at30 (by decide) (by decide) _
      have hi3 : ∀ i, i < 4 → I3 36 0 0 i = nI i := by rw [hI3]; exact fun i h => (xup_tag (by decide)).trans (hi2 i h)
      have hv18_3 : I3 30 0 0 18 = 0 := by rw [hI3]; exact (xup_slot (by decide)).trans hv18_2
      have hv19_3 : I3 30 0 0 19 = 0 := by rw [hI3]; exact xup_self
      have hs3 := hf3.si hs2
      refine w_aload_n dX11_docket_43 rfl ?_
      refine w_callV (as := []) (st := []) (Tri.mono (d_heard hm3 hw) (Nat.le_of_ble_eq_true rfl)) rfl rfl tg_X11_heard lk_X11_183 in_X11_heard se_X11_heard rfl dX11_docket_44 rfl (Nat.le_of_ble_eq_true rfl) (Nat.le_refl _) (Nat.le_refl _) ?_
      rintro _ _ ⟨rfl, rfl⟩ -
      refine w_istore (ls' := [some (vR 30 0 0), some (vI (nI n)), some (vI (5)), some (vI ((-4))), some (vI (nI (heardN a))), none, none]) dX11_docket_47 rfl ?_
      refine w_iconst (v := 0) dX11_docket_49 (by decide) ?_
      refine w_istore (ls' := [some (vR 30 0 0), some (vI (nI n)), some (vI (5)), some (vI ((-4))), some (vI (nI (heardN a))), some (vI (0)), none]) dX11_docket_50 rfl ?_
      refine l_docketM hw hn hd9 (fun I9 o6 hm9 hid9 hf9 => ?_) n 0 I3 none (Nat.zero_add _) hm3 (sits_range hi3 (by omega)) hv18_3 hv19_3 FrG.rf
      have hw9 := hw.it (ss := (List.range (nJ a))) (fun j h => range_in h) n (by omega)
      refine w_iload_n dX11_docket_121 rfl ?_
      refine w_tabOut (tgt := 191) dX11_docket_122 (by decide) (by decide) ?_
      refine w_iload_n dX11_docket_191 rfl ?_
      exact w_ireturn dX11_docket_192 rfl (rfl) rfl (⟨rfl, _, _, rfl, (((hf1.r.tr hf2).tr hf3).tr hf9.r)⟩)

theorem p_docket_w {I : xF4 Int32} {L : xF4 Int64} {a : aA} (hc : CourtIs I 0 a) (hw : WF a) {n : Nat} (hn : n ≤ 30) {what : Int32} (hx : what.toInt < 0 ∨ ((6 : Nat) : Int) ≤ what.toInt) : Tri 19 109 m_X10_docket [vR 0 0 0, vI (nI n), vI (what)] (rM I L) (pCq (vI (-1)) I) := by
  refine ⟨k_X10_docket, Nat.le_of_ble_eq_true rfl, ?_⟩
  show Wp _ _ _ 0 [some (vR 0 0 0), some (vI (nI n)), some (vI (what))] [] (rM I L) _
  obtain ⟨hJ, hC, hG, hD, hR, -⟩ := id hw
  refine w_iload_n dX10_docket_0 rfl ?_
  refine w_iconst (v := 0) dX10_docket_1 (by decide) ?_
  refine w_bipush (v := 30) dX10_docket_2 (by decide) ?_
  refine w_callS (as := [vI (nI n), vI (0), vI (30)]) (st := []) (Tri.mono (c_X10_within (nI n) (0) (30)) (Nat.le_of_ble_eq_true rfl)) tg_X10_within lk_X10_158 sa_X10_within rfl dX10_docket_4 rfl (Nat.le_of_ble_eq_true rfl) (Nat.le_refl _) (Nat.le_refl _) ?_
  rintro _ _ ⟨rfl, rfl⟩ -
  refine w_top (y := bI (0 ≤ ((n : Nat) : Int) ∧ ((n : Nat) : Int) ≤ 30)) (show (bI ((0 : Int32) ≤ (nI n) ∧ (nI n) ≤ (30 : Int32)) : Int32) = bI (0 ≤ ((n : Nat) : Int) ∧ ((n : Nat) : Int) ≤ 30) from wiZ (X := ((n : Nat) : Int)) (A := 0) (B := 30) (z_nI (by omega)) (by decide) (by decide)) ?_
  refine w_ifeq_b (tgt := 19) dX10_docket_7 (by decide) (fun h1 => ?_) (fun h1 => ?_)
  · skip
    first
    | (exfalso; omega)
    | skip
      refine w_iconst (v := (-1)) dX10_docket_19 (by decide) ?_
      exact w_ireturn dX10_docket_20 rfl (rfl) rfl (⟨rfl, _, _, rfl, FrQ.rf⟩)
  · skip
    first
    | (exfalso; omega)
    | skip
      refine w_iload_n dX10_docket_10 rfl ?_
      refine w_iconst (v := 0) dX10_docket_11 (by decide) ?_
      refine w_iconst (v := 5) dX10_docket_12 (by decide) ?_
      refine w_callS (as := [vI (what), vI (0), vI (5)]) (st := []) (Tri.mono (c_X10_within (what) (0) (5)) (Nat.le_of_ble_eq_true rfl)) tg_X10_within lk_X10_158 sa_X10_within rfl dX10_docket_13 rfl (Nat.le_of_ble_eq_true rfl) (Nat.le_refl _) (Nat.le_refl _) ?_
      rintro _ _ ⟨rfl, rfl⟩ -
      refine w_top (y := bI (0 ≤ what.toInt ∧ what.toInt ≤ 5)) (show (bI ((0 : Int32) ≤ (what) ∧ (what) ≤ (5 : Int32)) : Int32) = bI (0 ≤ what.toInt ∧ what.toInt ≤ 5) from wiZ (X := what.toInt) (A := 0) (B := 5) rfl (by decide) (by decide)) ?_
      refine w_ifne_b (tgt := 21) dX10_docket_16 (by decide) (fun h2 => ?_) (fun h2 => ?_)
      · skip
        first
        | (exfalso; omega)
        | skip
          exfalso
          omega
      · skip
        first
        | (exfalso; omega)
        | skip
          refine w_iconst (v := (-1)) dX10_docket_19 (by decide) ?_
          exact w_ireturn dX10_docket_20 rfl (rfl) rfl (⟨rfl, _, _, rfl, FrQ.rf⟩)

theorem q_docket_w {I : xF4 Int32} {L : xF4 Int64} {a : aA} (hs : SI I a) (hw : WF a) {n : Nat} (hn : n ≤ 30) {what : Int32} (hx : what.toInt < 0 ∨ ((6 : Nat) : Int) ≤ what.toInt) : Tri 19 109 m_X11_docket [vR 30 0 0, vI (nI n), vI (what)] (rM I L) (pMq (vI (-1)) I) := by
  refine ⟨k_X11_docket, Nat.le_of_ble_eq_true rfl, ?_⟩
  show Wp _ _ _ 0 [some (vR 30 0 0), some (vI (nI n)), some (vI (what)), none, none, none, none] [] (rM I L) _
  obtain ⟨hJ, hC, hG, hD, hR, -⟩ := id hw
  refine w_iload_n dX11_docket_0 rfl ?_
  refine w_i2l dX11_docket_1 ?_
  refine w_lconst (v := 0) dX11_docket_2 (by decide) ?_
  refine w_ldc2 dX11_docket_3 cq_X11_231 ?_
  refine w_callS (as := [vL ((nI n : Int32).toInt64), vL (0), vL (30)]) (st := []) (Tri.mono (d_in ((nI n : Int32).toInt64) (0) (30)) (Nat.le_of_ble_eq_true rfl)) tg_X11_in lk_X11_66 sa_X11_in rfl dX11_docket_6 rfl (Nat.le_of_ble_eq_true rfl) (Nat.le_refl _) (Nat.le_refl _) ?_
  rintro _ _ ⟨rfl, rfl⟩ -
  refine w_top (y := bI (0 ≤ ((n : Nat) : Int) ∧ ((n : Nat) : Int) ≤ 30)) (show (bI ((0 : Int64) ≤ ((nI n : Int32).toInt64) ∧ ((nI n : Int32).toInt64) ≤ (30 : Int64)) : Int32) = bI (0 ≤ ((n : Nat) : Int) ∧ ((n : Nat) : Int) ≤ 30) from inZ (x := nI n) (l := 0) (h := 30) (X := ((n : Nat) : Int)) (A := 0) (B := 30) rfl (by decide) (by decide) (z_nI (by omega)) (by decide) (by decide)) ?_
  refine w_ifeq_b (tgt := 24) dX11_docket_9 (by decide) (fun h1 => ?_) (fun h1 => ?_)
  · skip
    first
    | (exfalso; omega)
    | skip
      refine w_iconst (v := (-1)) dX11_docket_24 (by decide) ?_
      exact w_ireturn dX11_docket_25 rfl (rfl) rfl (⟨rfl, _, _, rfl, FrR.rf⟩)
  · skip
    first
    | (exfalso; omega)
    | skip
      refine w_iload_n dX11_docket_12 rfl ?_
      refine w_i2l dX11_docket_13 ?_
      refine w_lconst (v := 0) dX11_docket_14 (by decide) ?_
      refine w_ldc2 dX11_docket_15 cq_X11_202 ?_
      refine w_callS (as := [vL ((what : Int32).toInt64), vL (0), vL (5)]) (st := []) (Tri.mono (d_in ((what : Int32).toInt64) (0) (5)) (Nat.le_of_ble_eq_true rfl)) tg_X11_in lk_X11_66 sa_X11_in rfl dX11_docket_18 rfl (Nat.le_of_ble_eq_true rfl) (Nat.le_refl _) (Nat.le_refl _) ?_
      rintro _ _ ⟨rfl, rfl⟩ -
      refine w_top (y := bI (0 ≤ what.toInt ∧ what.toInt ≤ 5)) (show (bI ((0 : Int64) ≤ ((what : Int32).toInt64) ∧ ((what : Int32).toInt64) ≤ (5 : Int64)) : Int32) = bI (0 ≤ what.toInt ∧ what.toInt ≤ 5) from inZ (x := what) (l := 0) (h := 5) (X := what.toInt) (A := 0) (B := 5) rfl (by decide) (by decide) rfl (by decide) (by decide)) ?_
      refine w_ifne_b (tgt := 26) dX11_docket_21 (by decide) (fun h2 => ?_) (fun h2 => ?_)
      · skip
        first
        | (exfalso; omega)
        | skip
          exfalso
          omega
      · skip
        first
        | (exfalso; omega)
        | skip
          refine w_iconst (v := (-1)) dX11_docket_24 (by decide) ?_
          exact w_ireturn dX11_docket_25 rfl (rfl) rfl (⟨rfl, _, _, rfl, FrR.rf⟩)

theorem p_docket_n {I : xF4 Int32} {L : xF4 Int64} {a : aA} (hc : CourtIs I 0 a) (hw : WF a) {n what : Int32} (hx : n.toInt < ((0 : Nat) : Int) ∨ ((30 : Nat) : Int) < n.toInt) : Tri 19 109 m_X10_docket [vR 0 0 0, vI (n), vI (what)] (rM I L) (pCq (vI (-1)) I) := by
  refine ⟨k_X10_docket, Nat.le_of_ble_eq_true rfl, ?_⟩
  show Wp _ _ _ 0 [some (vR 0 0 0), some (vI (n)), some (vI (what))] [] (rM I L) _
  obtain ⟨hJ, hC, hG, hD, hR, -⟩ := id hw
  refine w_iload_n dX10_docket_0 rfl ?_
  refine w_iconst (v := 0) dX10_docket_1 (by decide) ?_
  refine w_bipush (v := 30) dX10_docket_2 (by decide) ?_
  refine w_callS (as := [vI (n), vI (0), vI (30)]) (st := []) (Tri.mono (c_X10_within (n) (0) (30)) (Nat.le_of_ble_eq_true rfl)) tg_X10_within lk_X10_158 sa_X10_within rfl dX10_docket_4 rfl (Nat.le_of_ble_eq_true rfl) (Nat.le_refl _) (Nat.le_refl _) ?_
  rintro _ _ ⟨rfl, rfl⟩ -
  refine w_top (y := bI (0 ≤ n.toInt ∧ n.toInt ≤ 30)) (show (bI ((0 : Int32) ≤ (n) ∧ (n) ≤ (30 : Int32)) : Int32) = bI (0 ≤ n.toInt ∧ n.toInt ≤ 30) from wiZ (X := n.toInt) (A := 0) (B := 30) rfl (by decide) (by decide)) ?_
  refine w_ifeq_b (tgt := 19) dX10_docket_7 (by decide) (fun h1 => ?_) (fun h1 => ?_)
  · skip
    first
    | (exfalso; omega)
    | skip
      refine w_iconst (v := (-1)) dX10_docket_19 (by decide) ?_
      exact w_ireturn dX10_docket_20 rfl (rfl) rfl (⟨rfl, _, _, rfl, FrQ.rf⟩)
  · skip
    first
    | (exfalso; omega)
    | skip
      refine w_iload_n dX10_docket_10 rfl ?_
      refine w_iconst (v := 0) dX10_docket_11 (by decide) ?_
      refine w_iconst (v := 5) dX10_docket_12 (by decide) ?_
      refine w_callS (as := [vI (what), vI (0), vI (5)]) (st := []) (Tri.mono (c_X10_within (what) (0) (5)) (Nat.le_of_ble_eq_true rfl)) tg_X10_within lk_X10_158 sa_X10_within rfl dX10_docket_13 rfl (Nat.le_of_ble_eq_true rfl) (Nat.le_refl _) (Nat.le_refl _) ?_
      rintro _ _ ⟨rfl, rfl⟩ -
      refine w_top (y := bI (0 ≤ what.toInt ∧ what.toInt ≤ 5)) (show (bI ((0 : Int32) ≤ (what) ∧ (what) ≤ (5 : Int32)) : Int32) = bI (0 ≤ what.toInt ∧ what.toInt ≤ 5) from wiZ (X := what.toInt) (A := 0) (B := 5) rfl (by decide) (by decide)) ?_
      refine w_ifne_b (tgt := 21) dX10_docket_16 (by decide) (fun h2 => ?_) (fun h2 => ?_)
      · skip
        first
        | (exfalso; omega)
        | skip
          exfalso
          omega
      · skip
        first
        | (exfalso; omega)
        | skip
          refine w_iconst (v := (-1)) dX10_docket_19 (by decide) ?_
          exact w_ireturn dX10_docket_20 rfl (rfl) rfl (⟨rfl, _, _, rfl, FrQ.rf⟩)

theorem q_docket_n {I : xF4 Int32} {L : xF4 Int64} {a : aA} (hs : SI I a) (hw : WF a) {n what : Int32} (hx : n.toInt < ((0 : Nat) : Int) ∨ ((30 : Nat) : Int) < n.toInt) : Tri 19 109 m_X11_docket [vR 30 0 0, vI (n), vI (what)] (rM I L) (pMq (vI (-1)) I) := by
  refine ⟨k_X11_docket, Nat.le_of_ble_eq_true rfl, ?_⟩
  show Wp _ _ _ 0 [some (vR 30 0 0), some (vI (n)), some (vI (what)), none, none, none, none] [] (rM I L) _
  obtain ⟨hJ, hC, hG, hD, hR, -⟩ := id hw
  refine w_iload_n dX11_docket_0 rfl ?_
  refine w_i2l dX11_docket_1 ?_
  refine w_lconst (v := 0) dX11_docket_2 (by decide) ?_
  refine w_ldc2 dX11_docket_3 cq_X11_231 ?_
  refine w_callS (as := [vL ((n : Int32).toInt64), vL (0), vL (30)]) (st := []) (Tri.mono (d_in ((n : Int32).toInt64) (0) (30)) (Nat.le_of_ble_eq_true rfl)) tg_X11_in lk_X11_66 sa_X11_in rfl dX11_docket_6 rfl (Nat.le_of_ble_eq_true rfl) (Nat.le_refl _) (Nat.le_refl _) ?_
  rintro _ _ ⟨rfl, rfl⟩ -
  refine w_top (y := bI (0 ≤ n.toInt ∧ n.toInt ≤ 30)) (show (bI ((0 : Int64) ≤ ((n : Int32).toInt64) ∧ ((n : Int32).toInt64) ≤ (30 : Int64)) : Int32) = bI (0 ≤ n.toInt ∧ n.toInt ≤ 30) from inZ (x := n) (l := 0) (h := 30) (X := n.toInt) (A := 0) (B := 30) rfl (by decide) (by decide) rfl (by decide) (by decide)) ?_
  refine w_ifeq_b (tgt := 24) dX11_docket_9 (by decide) (fun h1 => ?_) (fun h1 => ?_)
  · skip
    first
    | (exfalso; omega)
    | skip
      refine w_iconst (v := (-1)) dX11_docket_24 (by decide) ?_
      exact w_ireturn dX11_docket_25 rfl (rfl) rfl (⟨rfl, _, _, rfl, FrR.rf⟩)
  · skip
    first
    | (exfalso; omega)
    | skip
      refine w_iload_n dX11_docket_12 rfl ?_
      refine w_i2l dX11_docket_13 ?_
      refine w_lconst (v := 0) dX11_docket_14 (by decide) ?_
      refine w_ldc2 dX11_docket_15 cq_X11_202 ?_
      refine w_callS (as := [vL ((what : Int32).toInt64), vL (0), vL (5)]) (st := []) (Tri.mono (d_in ((what : Int32).toInt64) (0) (5)) (Nat.le_of_ble_eq_true rfl)) tg_X11_in lk_X11_66 sa_X11_in rfl dX11_docket_18 rfl (Nat.le_of_ble_eq_true rfl) (Nat.le_refl _) (Nat.le_refl _) ?_
      rintro _ _ ⟨rfl, rfl⟩ -
      refine w_top (y := bI (0 ≤ what.toInt ∧ what.toInt ≤ 5)) (show (bI ((0 : Int64) ≤ ((what : Int32).toInt64) ∧ ((what : Int32).toInt64) ≤ (5 : Int64)) : Int32) = bI (0 ≤ what.toInt ∧ what.toInt ≤ 5) from inZ (x := what) (l := 0) (h := 5) (X := what.toInt) (A := 0) (B := 5) rfl (by decide) (by decide) rfl (by decide) (by decide)) ?_
      refine w_ifne_b (tgt := 26) dX11_docket_21 (by decide) (fun h2 => ?_) (fun h2 => ?_)
      · skip
        first
        | (exfalso; omega)
        | skip
          exfalso
          omega
      · skip
        first
        | (exfalso; omega)
        | skip
          refine w_iconst (v := (-1)) dX11_docket_24 (by decide) ?_
          exact w_ireturn dX11_docket_25 rfl (rfl) rfl (⟨rfl, _, _, rfl, FrR.rf⟩)

/-- the judge without whom as many are heard, of the first k: the last of them -/
def spF (a : aA) (n : Nat) : Nat → Option Nat
  | 0 => none
  | k + 1 => if popN (newN (heardN (itN (presB (2 ^ k) (List.range (nJ a))) a n)) (heardN a)) = popN (newN (heardN (itN (List.range (nJ a)) a n)) (heardN a)) then some k else spF a n k
theorem sh1 : ∀ k, k < 5 → (1 : Int32) <<< (nI k &&& 31) = nI (2 ^ k) := by decide +kernel
theorem swp : ∀ k, k < 4 → ∀ j, j < 4 → (nI j = nI k ↔ (!(2 ^ k).testBit j) = false) := by decide +kernel
theorem nI_p1 (k : Nat) : nI (k + 1) - 1 = nI k := by rw [show (1 : Int32) = nI 1 from rfl, pk_sub (by omega), Nat.add_sub_cancel]
theorem nI_d1 (k : Nat) : nI k + (-1) = nI k - 1 := (Int32.sub_eq_add_neg (nI k) 1).symm
theorem popN_lt : ∀ v, v < 32 → popN v ≤ 5 := by decide +kernel
theorem newN_lt (v w : Nat) : newN v w < 32 := bitN_lt _ 5
theorem pow_lt5 {k : Nat} (h : k < 5) : 2 ^ k < 32 := Nat.pow_lt_pow_right (n := 5) (by decide) h

theorem l_spareC {L : xF4 Int64} {a : aA} (hw : WF a) {n : Nat} (hn : n ≤ 30) (hd9 : dY a ≤ 999) {I0 : xF4 Int32} : ∀ (k : Nat) (I : xF4 Int32), k ≤ nJ a → CourtIs I 0 a → FrQ I0 I → Wp 19 109 m_X10_spare 60 [some (vR 0 0 0), some (vI (nI n)), some (vI (nI (popN (newN (heardN (itN (List.range (nJ a)) a n)) (heardN a))))), some (vI (nI k - 1))] [] (rM I L) (pCq (vI (byI (spF a n k))) I0) := by
  intro k
  induction k with
  | zero =>
    intro I hkn hc hf
    obtain ⟨hJ, hC, hG, hD, hR, -⟩ := id hw
    refine w_iload_n dX10_spare_60 rfl ?_
    refine w_if_lt (tgt := 114) dX10_spare_61 (by decide) (fun _ => ?_) (fun h => absurd (by decide) h)
    refine w_bipush (v := (-4)) dX10_spare_114 (by decide) ?_
    exact w_ireturn dX10_spare_116 rfl (rfl) rfl (⟨rfl, I, L, rfl, hf⟩)
  | succ k ih =>
    intro I hkn hc hf
    obtain ⟨hJ, hC, hG, hD, hR, -⟩ := id hw
    have hall5 := popN_lt _ (newN_lt (heardN (itN (List.range (nJ a)) a n)) (heardN a))
    have hone5 := popN_lt _ (newN_lt (heardN (itN (presB (2 ^ k) (List.range (nJ a))) a n)) (heardN a))
    refine w_ls (congrArg (fun z9 : Int32 => [some (vR 0 0 0), some (vI (nI n)), some (vI (nI (popN (newN (heardN (itN (List.range (nJ a)) a n)) (heardN a))))), some (vI z9)]) (show (nI (k + 1) - 1 : Int32) = nI k from nI_p1 k)) ?_
    refine w_iload_n dX10_spare_60 rfl ?_
    refine w_if_lt (tgt := 114) dX10_spare_61 (by decide) (fun h => absurd h (nI_pos (by omega))) (fun _ => ?_)
    refine w_aload_n dX10_spare_64 rfl ?_
    refine w_getR (w := some (12, 0, 0)) ff_X10_36 rfl rfl dX10_spare_65 rfl ?_
    refine w_aload_n dX10_spare_68 rfl ?_
    refine w_getR (w := some (1, 0, 0)) ff_X10_10 rfl rfl dX10_spare_69 rfl ?_
    refine w_iload_n dX10_spare_72 rfl ?_
    refine w_callV (as := [vR 1 0 0, vI (nI k)]) (st := []) (Tri.mono (c_seatWithout hc hw (x := nI k) (p := fun i => !(2 ^ k).testBit i) (swp k (by omega))) (Nat.le_of_ble_eq_true rfl)) rfl rfl tg_X2_seatWithout lk_X10_242 in_X2_seatWithout se_X2_seatWithout rfl dX10_spare_73 rfl (Nat.le_of_ble_eq_true rfl) (Nat.le_refl _) (Nat.le_refl _) ?_
    rintro v M9 ⟨rfl, I1, rfl, hse1, hfs1⟩ -
    have hc0_1 := hfs1.q.court (by decide) hc
    refine w_aload_n dX10_spare_76 rfl ?_
    refine w_getR (w := some (12, 0, 0)) ff_X10_36 rfl rfl dX10_spare_77 rfl ?_
    refine w_aload_n dX10_spare_80 rfl ?_
    refine w_getR (w := some (1, 1, 0)) ff_X10_16 rfl rfl dX10_spare_81 rfl ?_
    refine w_aload_n dX10_spare_84 rfl ?_
    refine w_getR (w := some (1, 0, 0)) ff_X10_10 rfl rfl dX10_spare_85 rfl ?_
    refine w_iload_n dX10_spare_88 rfl ?_
    refine w_callV (as := [vR 1 1 0, vR 1 0 0, vI (nI n)]) (st := []) (Tri.mono (c_play (by decide) hw hc0_1 (show SeatsIs I1 (presB (2 ^ k) (List.range (nJ a))) from hse1) (fun j h => range_in (presB_in h)) (n := n) (by omega) (by omega)) (Nat.le_of_ble_eq_true rfl)) rfl rfl tg_X2_play lk_X10_195 in_X2_play se_X2_play rfl dX10_spare_89 rfl (Nat.le_of_ble_eq_true rfl) (Nat.le_refl _) (Nat.le_refl _) ?_
    rintro v M9 ⟨rfl, I2, rfl, hp1_2, hp2_2, hp3_2, hfp2⟩ -
    have hwp2 := WF.it (ss := (presB (2 ^ k) (List.range (nJ a)))) hw (fun j h => range_in (presB_in h)) n (by omega)
    have hc0_2 := hfp2.q.court (by decide) hc0_1
    refine w_aload_n dX10_spare_92 rfl ?_
    refine w_getR (w := some (12, 0, 0)) ff_X10_36 rfl rfl dX10_spare_93 rfl ?_
    refine w_getI ff_X10_199 rfl rfl dX10_spare_96 ?_
    rw [show (I2 12 0 0 2 : Int32) = nI (newN (heardN (itN (presB (2 ^ k) (List.range (nJ a))) a n)) (heardN a)) from hp2_2.trans (newN_0 _ (heardN_lt hwp2) _ (heardN_lt hw))]
    refine w_callS (as := [vI (nI (newN (heardN (itN (presB (2 ^ k) (List.range (nJ a))) a n)) (heardN a)))]) (st := []) (Tri.mono (c_bitCount (nI (newN (heardN (itN (presB (2 ^ k) (List.range (nJ a))) a n)) (heardN a)))) (Nat.le_of_ble_eq_true rfl)) tg_J6_bitCount_0f7a4 lk_X10_208 sa_J6_bitCount_0f7a4 rfl dX10_spare_99 rfl (Nat.le_of_ble_eq_true rfl) (Nat.le_refl _) (Nat.le_refl _) ?_
    rintro _ _ ⟨rfl, rfl⟩ -
    refine w_top (y := nI (popN (newN (heardN (itN (presB (2 ^ k) (List.range (nJ a))) a n)) (heardN a)))) (show (bcI (nI (newN (heardN (itN (presB (2 ^ k) (List.range (nJ a))) a n)) (heardN a))) : Int32) = nI (popN (newN (heardN (itN (presB (2 ^ k) (List.range (nJ a))) a n)) (heardN a))) from bcI_N0 _ (Nat.lt_of_lt_of_le (bitN_lt _ _) (by decide))) ?_
    refine w_iload_n dX10_spare_102 rfl ?_
    refine w_icmp_ne (tgt := 108) dX10_spare_103 (by decide) (fun h1 => ?_) (fun h1 => ?_)
    · skip
      replace h1 : ¬ (((popN (newN (heardN (itN (presB (2 ^ k) (List.range (nJ a))) a n)) (heardN a)) : Nat) : Int) = ((popN (newN (heardN (itN (List.range (nJ a)) a n)) (heardN a)) : Nat) : Int)) := fun q => h1 ((zeq (z_nI (by omega)) (z_nI (by omega))).mpr q)
      refine w_iinc (v := nI k - 1) (ls' := [some (vR 0 0 0), some (vI (nI n)), some (vI (nI (popN (newN (heardN (itN (List.range (nJ a)) a n)) (heardN a))))), some (vI (nI k - 1))]) dX10_spare_108 rfl (nI_d1 k) rfl ?_
      refine w_goto (tgt := 60) dX10_spare_111 (by decide) ?_
      rw [spF, if_neg (by omega)]
      exact ih _ (by omega) hc0_2 (hf.tr (hfs1.q.tr hfp2.q))
    · skip
      replace h1 : ((popN (newN (heardN (itN (presB (2 ^ k) (List.range (nJ a))) a n)) (heardN a)) : Nat) : Int) = ((popN (newN (heardN (itN (List.range (nJ a)) a n)) (heardN a)) : Nat) : Int) := (zeq (z_nI (by omega)) (z_nI (by omega))).mp h1
      rw [spF, if_pos (by omega)]
      refine w_iload_n dX10_spare_106 rfl ?_
      exact w_ireturn dX10_spare_107 rfl (rfl) rfl (⟨rfl, _, _, rfl, hf.tr (hfs1.q.tr hfp2.q)⟩)

theorem l_spareM {L : xF4 Int64} {a : aA} (hw : WF a) {n : Nat} (hn : n ≤ 30) (hd9 : dY a ≤ 999) {I0 : xF4 Int32} : ∀ (m k : Nat) (I : xF4 Int32), k + m = nJ a → SI I a → FrR I0 I → Wp 19 109 m_X11_spare 35 [some (vR 30 0 0), some (vI (nI n)), some (vI (nI (popN (newN (heardN (itN (List.range (nJ a)) a n)) (heardN a))))), some (vI (byI (spF a n k))), some (vI (nI k))] [] (rM I L) (pMq (vI (byI (spF a n (nJ a)))) I0) := by
  intro m
  induction m with
  | zero =>
    intro k I hkn hs hf
    have e : k = nJ a := by omega
    subst e
    obtain ⟨hJ, hC, hG, hD, hR, -⟩ := id hw
    refine w_iload dX11_spare_35 rfl ?_
    refine w_aload_n dX11_spare_37 rfl ?_
    refine w_getI ff_X11_58 rfl rfl dX11_spare_38 ?_
    rw [show (I 30 0 0 3 : Int32) = nI (nJ a) from hs.1]
    refine w_icmp_ge (tgt := 78) dX11_spare_41 (by decide) (fun _ => ?_) (fun h => absurd (nI_le (Nat.le_refl _) (by omega)) h)
    refine w_aload_n dX11_spare_78 rfl ?_
    refine w_iconst (v := 0) dX11_spare_79 (by decide) ?_
    refine w_putI ff_X11_168 rfl rfl rfl rfl dX11_spare_80 ?_
    obtain ⟨I1, hI1⟩ : ∃ z, z = xup I 30 0 0 18 (0) := ⟨_, rfl⟩
    rw [← hI1]
    have hf1 : FrR I I1 := by rw [hI1]; exact FrR.up (by omega)
    have hv18_1 : I1 30 0 0 18 = 0 := by rw [hI1]; exact xup_self
    have hs1 := hf1.si hs
    refine w_iload_n dX11_spare_83 rfl ?_
    exact w_ireturn dX11_spare_84 rfl (rfl) rfl (⟨rfl, _, _, rfl, hf.tr hf1⟩)
  | succ m ih =>
    intro k I hkn hs hf
    have hlt : k < nJ a := by omega
    obtain ⟨hJ, hC, hG, hD, hR, -⟩ := id hw
    have hall5 := popN_lt _ (newN_lt (heardN (itN (List.range (nJ a)) a n)) (heardN a))
    have hone5 := popN_lt _ (newN_lt (heardN (itN (presB (2 ^ k) (List.range (nJ a))) a n)) (heardN a))
    refine w_iload dX11_spare_35 rfl ?_
    refine w_aload_n dX11_spare_37 rfl ?_
    refine w_getI ff_X11_58 rfl rfl dX11_spare_38 ?_
    rw [show (I 30 0 0 3 : Int32) = nI (nJ a) from hs.1]
    refine w_icmp_ge (tgt := 78) dX11_spare_41 (by decide) (fun h => absurd h (nI_ge hlt (by omega))) (fun _ => ?_)
    refine w_aload_n dX11_spare_44 rfl ?_
    refine w_callV (as := []) (st := []) (Tri.mono (d_starts hs hw) (Nat.le_of_ble_eq_true rfl)) rfl rfl tg_X11_starts lk_X11_192 in_X11_starts se_X11_starts rfl dX11_spare_45 rfl (Nat.le_of_ble_eq_true rfl) (Nat.le_refl _) (Nat.le_refl _) ?_
    rintro v M9 ⟨rfl, I1, rfl, hm1, hi1, hf1⟩ -
    have hs1 := hf1.r.si hs
    refine w_aload_n dX11_spare_48 rfl ?_
    refine w_iconst (v := 1) dX11_spare_49 (by decide) ?_
    refine w_iload dX11_spare_50 rfl ?_
    refine w_ishl dX11_spare_52 ?_
    refine w_top (y := nI (2 ^ k)) (show ((1) <<< ((nI k) &&& 31) : Int32) = nI (2 ^ k) from sh1 k (by omega)) ?_
    refine w_putI ff_X11_168 rfl rfl rfl rfl dX11_spare_53 ?_
    obtain ⟨I2, hI2⟩ : ∃ z, z = xup I1 30 0 0 18 (nI (2 ^ k)) := ⟨_, rfl⟩
    rw [← hI2]
    have hf2 : FrR I1 I2 := by rw [hI2]; exact FrR.up (by omega)
    have hm2 : MI I2 a := by rw [hI2]; exact hm1.at30 (by decide) (by decide) _
    have hi2 : ∀ i, i < 4 → I2 36 0 0 i = nI i := by rw [hI2]; exact fun i h => (xup_tag (by decide)).trans (hi1 i h)
    have hv18_2 : I2 30 0 0 18 = nI (2 ^ k) := by rw [hI2]; exact xup_self
    have hs2 := hf2.si hs1
    refine w_aload_n dX11_spare_56 rfl ?_
    refine w_iload_n dX11_spare_57 rfl ?_
    refine w_callV (as := [vI (nI n)]) (st := []) (Tri.mono (d_dh hm2 hw (ss := (List.range (nJ a))) (ab := 2 ^ k) (n := n) (pow_lt5 (by omega)) List.length_range (fun j h => range_in h) (by omega) (sits_range hi2 (by omega)) hv18_2) (Nat.le_of_ble_eq_true rfl)) rfl rfl tg_X11_docketHears lk_X11_236 in_X11_docketHears se_X11_docketHears rfl dX11_spare_58 rfl (Nat.le_of_ble_eq_true rfl) (Nat.le_refl _) (Nat.le_refl _) ?_
    rintro v M9 ⟨rfl, I3, rfl, hm3, hf3⟩ -
    have hv18_3 : I3 30 0 0 18 = nI (2 ^ k) := (hf3 30 0 0 18 (by decide) (by decide)).trans hv18_2
    have hi3 : ∀ i, i < 4 → I3 36 0 0 i = nI i := fun i h => (hf3 36 0 0 i (by decide) (by omega)).trans (hi2 i h)
    have hs3 := hf3.r.si hs2
    refine w_iload_n dX11_spare_61 rfl ?_
    refine w_icmp_ne (tgt := 70) dX11_spare_62 (by decide) (fun h1 => ?_) (fun h1 => ?_)
    · skip
      replace h1 : ¬ (((popN (newN (heardN (itN (presB (2 ^ k) (List.range (nJ a))) a n)) (heardN a)) : Nat) : Int) = ((popN (newN (heardN (itN (List.range (nJ a)) a n)) (heardN a)) : Nat) : Int)) := fun q => h1 ((zeq (z_nI (by omega)) (z_nI (by omega))).mpr q)
      refine w_iload_n dX11_spare_70 rfl ?_
      refine w_top (y := byI (spF a n (k + 1))) (show (byI (spF a n k) : Int32) = byI (spF a n (k + 1)) from by rw [spF, if_neg (by omega)]) ?_
      refine w_istore_n (ls' := [some (vR 30 0 0), some (vI (nI n)), some (vI (nI (popN (newN (heardN (itN (List.range (nJ a)) a n)) (heardN a))))), some (vI (byI (spF a n (k + 1)))), some (vI (nI k))]) dX11_spare_71 rfl ?_
      refine w_iinc (v := nI (k + 1)) (ls' := [some (vR 30 0 0), some (vI (nI n)), some (vI (nI (popN (newN (heardN (itN (List.range (nJ a)) a n)) (heardN a))))), some (vI (byI (spF a n (k + 1)))), some (vI (nI (k + 1)))]) dX11_spare_72 rfl (nI_1 _) rfl ?_
      refine w_goto (tgt := 35) dX11_spare_75 (by decide) ?_
      exact ih (k + 1) _ (by omega) hs3 (hf.tr ((hf1.r.tr hf2).tr hf3.r))
    · skip
      replace h1 : ((popN (newN (heardN (itN (presB (2 ^ k) (List.range (nJ a))) a n)) (heardN a)) : Nat) : Int) = ((popN (newN (heardN (itN (List.range (nJ a)) a n)) (heardN a)) : Nat) : Int) := (zeq (z_nI (by omega)) (z_nI (by omega))).mp h1
      refine w_iload dX11_spare_65 rfl ?_
      refine w_goto (tgt := 71) dX11_spare_67 (by decide) ?_
      refine w_top (y := byI (spF a n (k + 1))) (show (nI k : Int32) = byI (spF a n (k + 1)) from by rw [spF, if_pos (by omega)]; rfl) ?_
      refine w_istore_n (ls' := [some (vR 30 0 0), some (vI (nI n)), some (vI (nI (popN (newN (heardN (itN (List.range (nJ a)) a n)) (heardN a))))), some (vI (byI (spF a n (k + 1)))), some (vI (nI k))]) dX11_spare_71 rfl ?_
      refine w_iinc (v := nI (k + 1)) (ls' := [some (vR 30 0 0), some (vI (nI n)), some (vI (nI (popN (newN (heardN (itN (List.range (nJ a)) a n)) (heardN a))))), some (vI (byI (spF a n (k + 1)))), some (vI (nI (k + 1)))]) dX11_spare_72 rfl (nI_1 _) rfl ?_
      refine w_goto (tgt := 35) dX11_spare_75 (by decide) ?_
      exact ih (k + 1) _ (by omega) hs3 (hf.tr ((hf1.r.tr hf2).tr hf3.r))

theorem p_spare {I : xF4 Int32} {L : xF4 Int64} {a : aA} (hc : CourtIs I 0 a) (hw : WF a) {n : Nat} (hn : n ≤ 30) (hd9 : dY a ≤ 999)  : Tri 19 109 m_X10_spare [vR 0 0 0, vI (nI n)] (rM I L) (pCq (vI (byI (spF a n (nJ a)))) I) := by
  refine ⟨k_X10_spare, Nat.le_of_ble_eq_true rfl, ?_⟩
  show Wp _ _ _ 0 [some (vR 0 0 0), some (vI (nI n)), none, none] [] (rM I L) _
  obtain ⟨hJ, hC, hG, hD, hR, -⟩ := id hw
  refine w_iload_n dX10_spare_0 rfl ?_
  refine w_iconst (v := 0) dX10_spare_1 (by decide) ?_
  refine w_bipush (v := 30) dX10_spare_2 (by decide) ?_
  refine w_callS (as := [vI (nI n), vI (0), vI (30)]) (st := []) (Tri.mono (c_X10_within (nI n) (0) (30)) (Nat.le_of_ble_eq_true rfl)) tg_X10_within lk_X10_158 sa_X10_within rfl dX10_spare_4 rfl (Nat.le_of_ble_eq_true rfl) (Nat.le_refl _) (Nat.le_refl _) ?_
  rintro _ _ ⟨rfl, rfl⟩ -
  refine w_top (y := bI (0 ≤ ((n : Nat) : Int) ∧ ((n : Nat) : Int) ≤ 30)) (show (bI ((0 : Int32) ≤ (nI n) ∧ (nI n) ≤ (30 : Int32)) : Int32) = bI (0 ≤ ((n : Nat) : Int) ∧ ((n : Nat) : Int) ≤ 30) from wiZ (X := ((n : Nat) : Int)) (A := 0) (B := 30) (z_nI (by omega)) (by decide) (by decide)) ?_
  refine w_ifne_b (tgt := 12) dX10_spare_7 (by decide) (fun h1 => ?_) (fun h1 => ?_)
  · skip
    first
    | (exfalso; omega)
    | skip
      refine w_aload_n dX10_spare_12 rfl ?_
      refine w_getR (w := some (12, 0, 0)) ff_X10_36 rfl rfl dX10_spare_13 rfl ?_
      refine w_aload_n dX10_spare_16 rfl ?_
      refine w_getR (w := some (1, 0, 0)) ff_X10_10 rfl rfl dX10_spare_17 rfl ?_
      refine w_callV (as := [vR 1 0 0]) (st := []) (Tri.mono (c_seatAll hc hw) (Nat.le_of_ble_eq_true rfl)) rfl rfl tg_X2_seatAll lk_X10_192 in_X2_seatAll se_X2_seatAll rfl dX10_spare_20 rfl (Nat.le_of_ble_eq_true rfl) (Nat.le_refl _) (Nat.le_refl _) ?_
      rintro v M9 ⟨rfl, I1, rfl, hse1, hfs1⟩ -
      rw [seatL_all] at hse1
      have hc0_1 := hfs1.q.court (by decide) hc
      refine w_aload_n dX10_spare_23 rfl ?_
      refine w_getR (w := some (12, 0, 0)) ff_X10_36 rfl rfl dX10_spare_24 rfl ?_
      refine w_aload_n dX10_spare_27 rfl ?_
      refine w_getR (w := some (1, 1, 0)) ff_X10_16 rfl rfl dX10_spare_28 rfl ?_
      refine w_aload_n dX10_spare_31 rfl ?_
      refine w_getR (w := some (1, 0, 0)) ff_X10_10 rfl rfl dX10_spare_32 rfl ?_
      refine w_iload_n dX10_spare_35 rfl ?_
      refine w_callV (as := [vR 1 1 0, vR 1 0 0, vI (nI n)]) (st := []) (Tri.mono (c_play (by decide) hw hc0_1 hse1 (fun j h => List.mem_range.mp h) (n := n) (by omega) (by omega)) (Nat.le_of_ble_eq_true rfl)) rfl rfl tg_X2_play lk_X10_195 in_X2_play se_X2_play rfl dX10_spare_36 rfl (Nat.le_of_ble_eq_true rfl) (Nat.le_refl _) (Nat.le_refl _) ?_
      rintro v M9 ⟨rfl, I2, rfl, hp1_2, hp2_2, hp3_2, hfp2⟩ -
      have hwp2 := WF.it (ss := (List.range (nJ a))) hw (fun j h => List.mem_range.mp h) n (by omega)
      have hc0_2 := hfp2.q.court (by decide) hc0_1
      refine w_aload_n dX10_spare_39 rfl ?_
      refine w_getR (w := some (12, 0, 0)) ff_X10_36 rfl rfl dX10_spare_40 rfl ?_
      refine w_getI ff_X10_199 rfl rfl dX10_spare_43 ?_
      rw [show (I2 12 0 0 2 : Int32) = nI (newN (heardN (itN (List.range (nJ a)) a n)) (heardN a)) from hp2_2.trans (newN_0 _ (heardN_lt hwp2) _ (heardN_lt hw))]
      refine w_callS (as := [vI (nI (newN (heardN (itN (List.range (nJ a)) a n)) (heardN a)))]) (st := []) (Tri.mono (c_bitCount (nI (newN (heardN (itN (List.range (nJ a)) a n)) (heardN a)))) (Nat.le_of_ble_eq_true rfl)) tg_J6_bitCount_0f7a4 lk_X10_208 sa_J6_bitCount_0f7a4 rfl dX10_spare_46 rfl (Nat.le_of_ble_eq_true rfl) (Nat.le_refl _) (Nat.le_refl _) ?_
      rintro _ _ ⟨rfl, rfl⟩ -
      refine w_top (y := nI (popN (newN (heardN (itN (List.range (nJ a)) a n)) (heardN a)))) (show (bcI (nI (newN (heardN (itN (List.range (nJ a)) a n)) (heardN a))) : Int32) = nI (popN (newN (heardN (itN (List.range (nJ a)) a n)) (heardN a))) from bcI_N0 _ (Nat.lt_of_lt_of_le (bitN_lt _ _) (by decide))) ?_
      refine w_istore_n (ls' := [some (vR 0 0 0), some (vI (nI n)), some (vI (nI (popN (newN (heardN (itN (List.range (nJ a)) a n)) (heardN a))))), none]) dX10_spare_49 rfl ?_
      refine w_aload_n dX10_spare_50 rfl ?_
      refine w_getR (w := some (1, 0, 0)) ff_X10_10 rfl rfl dX10_spare_51 rfl ?_
      refine w_getI ff_X10_89 rfl rfl dX10_spare_54 ?_
      rw [show (I2 1 0 0 3 : Int32) = nI (nJ a) from hc0_2.1]
      refine w_iconst (v := 1) dX10_spare_57 (by decide) ?_
      refine w_isub dX10_spare_58 ?_
      refine w_istore_n (ls' := [some (vR 0 0 0), some (vI (nI n)), some (vI (nI (popN (newN (heardN (itN (List.range (nJ a)) a n)) (heardN a))))), some (vI ((nI (nJ a)) - (1)))]) dX10_spare_59 rfl ?_
      exact l_spareC hw hn hd9 (nJ a) _ (Nat.le_refl _) hc0_2 (hfs1.q.tr hfp2.q)
  · skip
    first
    | (exfalso; omega)
    | skip
      refine w_iconst (v := (-1)) dX10_spare_10 (by decide) ?_
      exact w_ireturn dX10_spare_11 rfl (rfl) rfl (⟨rfl, _, _, rfl, FrQ.rf⟩)

theorem q_spare {I : xF4 Int32} {L : xF4 Int64} {a : aA} (hs : SI I a) (hw : WF a) {n : Nat} (hn : n ≤ 30) (hd9 : dY a ≤ 999)  : Tri 19 109 m_X11_spare [vR 30 0 0, vI (nI n)] (rM I L) (pMq (vI (byI (spF a n (nJ a)))) I) := by
  refine ⟨k_X11_spare, Nat.le_of_ble_eq_true rfl, ?_⟩
  show Wp _ _ _ 0 [some (vR 30 0 0), some (vI (nI n)), none, none, none] [] (rM I L) _
  obtain ⟨hJ, hC, hG, hD, hR, -⟩ := id hw
  refine w_iload_n dX11_spare_0 rfl ?_
  refine w_i2l dX11_spare_1 ?_
  refine w_lconst (v := 0) dX11_spare_2 (by decide) ?_
  refine w_ldc2 dX11_spare_3 cq_X11_231 ?_
  refine w_callS (as := [vL ((nI n : Int32).toInt64), vL (0), vL (30)]) (st := []) (Tri.mono (d_in ((nI n : Int32).toInt64) (0) (30)) (Nat.le_of_ble_eq_true rfl)) tg_X11_in lk_X11_66 sa_X11_in rfl dX11_spare_6 rfl (Nat.le_of_ble_eq_true rfl) (Nat.le_refl _) (Nat.le_refl _) ?_
  rintro _ _ ⟨rfl, rfl⟩ -
  refine w_top (y := bI (0 ≤ ((n : Nat) : Int) ∧ ((n : Nat) : Int) ≤ 30)) (show (bI ((0 : Int64) ≤ ((nI n : Int32).toInt64) ∧ ((nI n : Int32).toInt64) ≤ (30 : Int64)) : Int32) = bI (0 ≤ ((n : Nat) : Int) ∧ ((n : Nat) : Int) ≤ 30) from inZ (x := nI n) (l := 0) (h := 30) (X := ((n : Nat) : Int)) (A := 0) (B := 30) rfl (by decide) (by decide) (z_nI (by omega)) (by decide) (by decide)) ?_
  refine w_ifne_b (tgt := 14) dX11_spare_9 (by decide) (fun h1 => ?_) (fun h1 => ?_)
  · skip
    first
    | (exfalso; omega)
    | skip
      refine w_aload_n dX11_spare_14 rfl ?_
      refine w_callV (as := []) (st := []) (Tri.mono (d_starts hs hw) (Nat.le_of_ble_eq_true rfl)) rfl rfl tg_X11_starts lk_X11_192 in_X11_starts se_X11_starts rfl dX11_spare_15 rfl (Nat.le_of_ble_eq_true rfl) (Nat.le_refl _) (Nat.le_refl _) ?_
      rintro v M9 ⟨rfl, I1, rfl, hm1, hi1, hf1⟩ -
      have hs1 := hf1.r.si hs
      refine w_aload_n dX11_spare_18 rfl ?_
      refine w_iconst (v := 0) dX11_spare_19 (by decide) ?_
      refine w_putI ff_X11_168 rfl rfl rfl rfl dX11_spare_20 ?_
      obtain ⟨I2, hI2⟩ : ∃ z, z = xup I1 30 0 0 18 (0) := ⟨_, rfl⟩
      rw [← hI2]
      have hf2 : FrR I1 I2 := by rw [hI2]; exact FrR.up (by omega)
      have hm2 : MI I2 a := by rw [hI2]; exact hm1.at30 (by decide) (by decide) _
      have hi2 : ∀ i, i < 4 → I2 36 0 0 i = nI i := by rw [hI2]; exact fun i h => (xup_tag (by decide)).trans (hi1 i h)
      have hv18_2 : I2 30 0 0 18 = 0 := by rw [hI2]; exact xup_self
      have hs2 := hf2.si hs1
      refine w_aload_n dX11_spare_23 rfl ?_
      refine w_iload_n dX11_spare_24 rfl ?_
      refine w_callV (as := [vI (nI n)]) (st := []) (Tri.mono (d_dh0 hm2 hw (ss := (List.range (nJ a))) (n := n) List.length_range (fun j h => range_in h) (by omega) (sits_range hi2 (by omega)) hv18_2) (Nat.le_of_ble_eq_true rfl)) rfl rfl tg_X11_docketHears lk_X11_236 in_X11_docketHears se_X11_docketHears rfl dX11_spare_25 rfl (Nat.le_of_ble_eq_true rfl) (Nat.le_refl _) (Nat.le_refl _) ?_
      rintro v M9 ⟨rfl, I3, rfl, hm3, hf3⟩ -
      have hwp3 := hw.it (ss := (List.range (nJ a))) (fun j h => range_in h) n (by omega)
      have hk3 := itN_k (List.range (nJ a)) a n
      have hv18_3 : I3 30 0 0 18 = 0 := (hf3 30 0 0 18 (by decide) (by decide)).trans hv18_2
      have hi3 : ∀ i, i < 4 → I3 36 0 0 i = nI i := fun i h => (hf3 36 0 0 i (by decide) (by omega)).trans (hi2 i h)
      have hs3 := hf3.r.si hs2
      refine w_istore_n (ls' := [some (vR 30 0 0), some (vI (nI n)), some (vI (nI (popN (newN (heardN (itN (List.range (nJ a)) a n)) (heardN a))))), none, none]) dX11_spare_28 rfl ?_
      refine w_bipush (v := (-4)) dX11_spare_29 (by decide) ?_
      refine w_istore_n (ls' := [some (vR 30 0 0), some (vI (nI n)), some (vI (nI (popN (newN (heardN (itN (List.range (nJ a)) a n)) (heardN a))))), some (vI ((-4))), none]) dX11_spare_31 rfl ?_
      refine w_iconst (v := 0) dX11_spare_32 (by decide) ?_
      refine w_istore (ls' := [some (vR 30 0 0), some (vI (nI n)), some (vI (nI (popN (newN (heardN (itN (List.range (nJ a)) a n)) (heardN a))))), some (vI ((-4))), some (vI (0))]) dX11_spare_33 rfl ?_
      exact l_spareM hw hn hd9 (nJ a) 0 _ (Nat.zero_add _) hs3 ((hf1.r.tr hf2).tr hf3.r)
  · skip
    first
    | (exfalso; omega)
    | skip
      refine w_iconst (v := (-1)) dX11_spare_12 (by decide) ?_
      exact w_ireturn dX11_spare_13 rfl (rfl) rfl (⟨rfl, _, _, rfl, FrR.rf⟩)

theorem p_spare_n {I : xF4 Int32} {L : xF4 Int64} {a : aA} (hc : CourtIs I 0 a) (hw : WF a) {n : Int32} (hx : n.toInt < ((0 : Nat) : Int) ∨ ((30 : Nat) : Int) < n.toInt) : Tri 19 109 m_X10_spare [vR 0 0 0, vI (n)] (rM I L) (pCq (vI (-1)) I) := by
  refine ⟨k_X10_spare, Nat.le_of_ble_eq_true rfl, ?_⟩
  show Wp _ _ _ 0 [some (vR 0 0 0), some (vI (n)), none, none] [] (rM I L) _
  obtain ⟨hJ, hC, hG, hD, hR, -⟩ := id hw
  refine w_iload_n dX10_spare_0 rfl ?_
  refine w_iconst (v := 0) dX10_spare_1 (by decide) ?_
  refine w_bipush (v := 30) dX10_spare_2 (by decide) ?_
  refine w_callS (as := [vI (n), vI (0), vI (30)]) (st := []) (Tri.mono (c_X10_within (n) (0) (30)) (Nat.le_of_ble_eq_true rfl)) tg_X10_within lk_X10_158 sa_X10_within rfl dX10_spare_4 rfl (Nat.le_of_ble_eq_true rfl) (Nat.le_refl _) (Nat.le_refl _) ?_
  rintro _ _ ⟨rfl, rfl⟩ -
  refine w_top (y := bI (0 ≤ n.toInt ∧ n.toInt ≤ 30)) (show (bI ((0 : Int32) ≤ (n) ∧ (n) ≤ (30 : Int32)) : Int32) = bI (0 ≤ n.toInt ∧ n.toInt ≤ 30) from wiZ (X := n.toInt) (A := 0) (B := 30) rfl (by decide) (by decide)) ?_
  refine w_ifne_b (tgt := 12) dX10_spare_7 (by decide) (fun h1 => ?_) (fun h1 => ?_)
  · skip
    first
    | (exfalso; omega)
    | skip
      exfalso
      omega
  · skip
    first
    | (exfalso; omega)
    | skip
      refine w_iconst (v := (-1)) dX10_spare_10 (by decide) ?_
      exact w_ireturn dX10_spare_11 rfl (rfl) rfl (⟨rfl, _, _, rfl, FrQ.rf⟩)

theorem q_spare_n {I : xF4 Int32} {L : xF4 Int64} {a : aA} (hs : SI I a) (hw : WF a) {n : Int32} (hx : n.toInt < ((0 : Nat) : Int) ∨ ((30 : Nat) : Int) < n.toInt) : Tri 19 109 m_X11_spare [vR 30 0 0, vI (n)] (rM I L) (pMq (vI (-1)) I) := by
  refine ⟨k_X11_spare, Nat.le_of_ble_eq_true rfl, ?_⟩
  show Wp _ _ _ 0 [some (vR 30 0 0), some (vI (n)), none, none, none] [] (rM I L) _
  obtain ⟨hJ, hC, hG, hD, hR, -⟩ := id hw
  refine w_iload_n dX11_spare_0 rfl ?_
  refine w_i2l dX11_spare_1 ?_
  refine w_lconst (v := 0) dX11_spare_2 (by decide) ?_
  refine w_ldc2 dX11_spare_3 cq_X11_231 ?_
  refine w_callS (as := [vL ((n : Int32).toInt64), vL (0), vL (30)]) (st := []) (Tri.mono (d_in ((n : Int32).toInt64) (0) (30)) (Nat.le_of_ble_eq_true rfl)) tg_X11_in lk_X11_66 sa_X11_in rfl dX11_spare_6 rfl (Nat.le_of_ble_eq_true rfl) (Nat.le_refl _) (Nat.le_refl _) ?_
  rintro _ _ ⟨rfl, rfl⟩ -
  refine w_top (y := bI (0 ≤ n.toInt ∧ n.toInt ≤ 30)) (show (bI ((0 : Int64) ≤ ((n : Int32).toInt64) ∧ ((n : Int32).toInt64) ≤ (30 : Int64)) : Int32) = bI (0 ≤ n.toInt ∧ n.toInt ≤ 30) from inZ (x := n) (l := 0) (h := 30) (X := n.toInt) (A := 0) (B := 30) rfl (by decide) (by decide) rfl (by decide) (by decide)) ?_
  refine w_ifne_b (tgt := 14) dX11_spare_9 (by decide) (fun h1 => ?_) (fun h1 => ?_)
  · skip
    first
    | (exfalso; omega)
    | skip
      exfalso
      omega
  · skip
    first
    | (exfalso; omega)
    | skip
      refine w_iconst (v := (-1)) dX11_spare_12 (by decide) ?_
      exact w_ireturn dX11_spare_13 rfl (rfl) rfl (⟨rfl, _, _, rfl, FrR.rf⟩)
