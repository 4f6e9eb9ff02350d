/-! the whole object, the reference's rows; another memory that holds the same (by wip/whole/gen/g31.py) -/
theorem arrV_congr {cI : ClassId} {N : Nat} {f g : Nat → Value} (h : ∀ j, j < N → f j = g j) : arrV cI N f = arrV cI N g := by
  unfold arrV
  have e : (Array.ofFn (n := N) fun j => f j.val) = Array.ofFn (n := N) fun j => g j.val := by
    apply Array.ext
    · simp
    · intro j h1 h2
      have hj : j < N := by simpa using h1
      simp [h j hj]
  rw [e]
def xEqv (M M' : xM) (i : xId) : Bool := (List.range (xSize i)).all fun s => decide (M'.2.1 i.1 i.2.1 i.2.2 s = M.2.1 i.1 i.2.1 i.2.2 s) && decide (M'.2.2.1 i.1 i.2.1 i.2.2 s = M.2.2.1 i.1 i.2.1 i.2.2 s) && decide (M'.2.2.2 i.1 i.2.1 i.2.2 s = M.2.2.2 i.1 i.2.1 i.2.2 s)
theorem xEqv_get {M M' : xM} {i : xId} (h : xEqv M M' i = true) {s : Nat} (hs : s < xSize i) : M'.2.1 i.1 i.2.1 i.2.2 s = M.2.1 i.1 i.2.1 i.2.2 s ∧ M'.2.2.1 i.1 i.2.1 i.2.2 s = M.2.2.1 i.1 i.2.1 i.2.2 s ∧ M'.2.2.2 i.1 i.2.1 i.2.2 s = M.2.2.2 i.1 i.2.1 i.2.2 s := by
  have h1 := List.all_eq_true.mp h s (List.mem_range.mpr hs)
  simp only [Bool.and_eq_true, decide_eq_true_eq] at h1
  exact ⟨h1.1.1, h1.1.2, h1.2⟩
theorem xAt_conv {D : va_G} {cA : Nat → ClassId} {loc : xId → Nat} {M M' : xM} {i : xId} {H : Heap} (h : xEqv M M' i = true) (ha : va_at D vwCl (loc i, xEnt cA loc M i) H) : va_at D vwCl (loc i, xEnt cA loc M' i) H := by
  cases hc : xCls i.1 with
  | some ci =>
    have e1 : xEnt cA loc M' i = xEnt cA loc M i := by
      have e : ∀ M : xM, xEnt cA loc M i = .inr (ci, xFs loc M i ci) := fun M => by unfold xEnt; rw [hc]
      rw [e, e]
      congr 2
      unfold xFs
      apply List.map_congr_left
      intro s hs
      have hsz : s < xSize i := by unfold xSize; rw [hc]; exact List.mem_range.mp hs
      obtain ⟨q1, q2, q3⟩ := xEqv_get h hsz
      unfold xFv
      rw [q1, q2, q3]
    rw [e1]
    exact ha
  | none =>
    cases hq : xArr i.1 with
    | none =>
      have e : ∀ M : xM, xEnt cA loc M i = .inr (0, []) := fun M => by unfold xEnt; rw [hc, hq]
      rw [e] at ha ⊢
      exact ha
    | some q =>
      have e : ∀ M : xM, xEnt cA loc M i = .inl (cA q.1, xAr loc M i q.1 q.2) := fun M => by unfold xEnt; rw [hc, hq]
      have hsz : xSize i = q.2 := by unfold xSize; rw [hc, hq]
      rw [e] at ha ⊢
      show H[loc i]? = some (vp_cell _ _)
      have ha' : H[loc i]? = some (vp_cell (cA q.1) (xAr loc M i q.1 q.2)) := ha
      rw [ha']
      congr 1
      unfold xAr
      by_cases h3 : q.1 < 3
      · rw [if_pos h3, if_pos h3, vp_cell_i, vp_cell_i]
        exact (arrV_congr fun j hj => by rw [(xEqv_get h (by rw [hsz]; exact hj)).2.1]).symm
      · rw [if_neg h3, if_neg h3, vp_cell_q, vp_cell_q]
        exact (arrV_congr fun j hj => by rw [(xEqv_get h (by rw [hsz]; exact hj)).1]).symm
theorem xW_conv {D : va_G} {cA : Nat → ClassId} {loc : xId → Nat} {A : Nat → Prop} {M M' : xM} {H : Heap} (hn : M'.1 = M.1) (h : ∀ i ∈ xSeq, xEqv M M' i = true) (hP : va_P D vwCl (xW cA loc M) H) (hD : va_D A (xW cA loc M)) : va_P D vwCl (xW cA loc M') H ∧ va_D A (xW cA loc M') := by
  have hg : ∀ (k : Nat) (q : Nat × va_E), (xW cA loc M')[k]? = some q → ∃ i, xSeq[k]? = some i ∧ k < M.1 ∧ q = (loc i, xEnt cA loc M' i) := by
    intro k q hq
    unfold xW at hq
    rw [hn] at hq
    have hk : k < M.1 := by
      have := (List.getElem?_eq_some_iff.mp hq).1
      rw [List.length_map, List.length_take] at this
      omega
    rw [List.getElem?_map, List.getElem?_take_of_lt hk] at hq
    cases hx : xSeq[k]? with
    | none => rw [hx] at hq; cases hq
    | some i => rw [hx] at hq; exact ⟨i, rfl, hk, (Option.some.inj hq).symm⟩
  refine ⟨fun k q hq => ?_, fun a b p q hp hq e => ?_, fun k q hq => ?_⟩
  · obtain ⟨i, h1, h2, rfl⟩ := hg k q hq
    exact xAt_conv (h i (List.mem_of_getElem? h1)) (hP k _ (xW_get h2 h1))
  · obtain ⟨i, h1, h2, rfl⟩ := hg a p hp
    obtain ⟨i', h1', h2', rfl⟩ := hg b q hq
    exact hD.1 a b _ _ (xW_get h2 h1) (xW_get h2' h1') e
  · obtain ⟨i, h1, h2, rfl⟩ := hg k q hq
    have := hD.2 k _ (xW_get (cA := cA) (loc := loc) (M := M) h2 h1)
    exact this
theorem Wp.conv {d nF : Nat} {mr : xMR} {pc : Nat} {ls : List (Option xV)} {st : List xV} {M M' : xM} {Q : Option xV → xM → Prop} (h : Wp d nF mr pc ls st M' Q) (hn' : M'.1 = M.1) (hW : ∀ i ∈ xSeq, xEqv M M' i = true) (hcl : ∀ (i : xId) (s : Nat) (x : xId), xLive M'.1 i → M'.2.1 i.1 i.2.1 i.2.2 s = some x → xLive M'.1 x) : Wp d nF mr pc ls st M Q := by
  intro l p e9 R9 s m args below meth c sa D cA A loc H locs cells slots lsA Qm hC hP hS hL hl hoL hoS hn hc hs hE
  obtain ⟨c1, c2⟩ := xW_conv hn' hW hP.1 hP.2.1
  rw [← hn'] at hoL hoS hn hc hs hE
  exact h l p e9 R9 s m args below meth c sa D cA A loc H locs cells slots lsA Qm hC ⟨c1, c2, by rw [hn']; exact hP.2.2.1, hcl⟩ hS hL hl hoL hoS hn hc hs hE
theorem xR0_closed (i : xId) (s : Nat) (x : xId) (h : xLive 109 i) (hx : xR0 i.1 i.2.1 i.2.2 s = some x) : xLive 109 x := by
  have key : ∀ i ∈ xSeq, (List.range 8).all (fun s => match xR0 i.1 i.2.1 i.2.2 s with | some x => decide (x ∈ xSeq) | none => true) = true := by decide +kernel
  have key2 : ∀ i ∈ xSeq, i.1 = 30 → (List.range 28).all (fun s => match xR0 i.1 i.2.1 i.2.2 s with | some x => decide (x ∈ xSeq) | none => true) = true := by decide +kernel
  have fin : x ∈ xSeq → xLive 109 x := fun hm => by
    obtain ⟨q, hq⟩ := List.getElem?_of_mem hm
    exact Or.inr ⟨q, by have := (List.getElem?_eq_some_iff.mp hq).1; rw [xSeq_len] at this; exact this, hq⟩
  rcases h with h | ⟨q, h1, h2⟩
  · exfalso
    obtain ⟨t, k, j⟩ := i
    dsimp only at h
    subst h
    simp [xR0] at hx
  · have hi := List.mem_of_getElem? h2
    by_cases h8 : s < 8
    · have := List.all_eq_true.mp (key i hi) s (List.mem_range.mpr h8)
      rw [hx] at this
      exact fin (of_decide_eq_true this)
    · by_cases h30 : i.1 = 30
      · by_cases h28 : s < 28
        · have := List.all_eq_true.mp (key2 i hi h30) s (List.mem_range.mpr h28)
          rw [hx] at this
          exact fin (of_decide_eq_true this)
        · exfalso
          obtain ⟨t, k, j⟩ := i
          dsimp only at h30 hx
          subst h30
          unfold xR0 at hx
          split at hx <;> first | omega | cases hx
      · exfalso
        obtain ⟨t, k, j⟩ := i
        dsimp only at h30 hx
        unfold xR0 at hx
        split at hx <;> first | omega | (split at hx <;> first | omega | cases hx) | cases hx

def jfR (R : xF4 (Option xId)) : xF4 (Option xId) := xup (c_sheet_3R (xz (xup (c_sheet_2R (xz (xup (c_sheet_1R (xz (xup (c_sheet_0R (xz (xup (xz (xup (c_cluesR (xz (xup (c_rosterR (xz (xup (c_docketIR (xz (xup (c_tapeR (xz (xup (c_image_1R (xz (xup (c_image_0R (xz (xup (xz (xup (ctR1 (xz (xup (ctR0 (xz R 1 0 0 none)) 0 0 0 0 (some (1, 0, 0))) 1 1 0 none)) 0 0 0 1 (some (1, 1, 0))) 8 0 0 none) 0 0 0 2 (some (8, 0, 0))) 9 0 0 none)) 8 0 0 0 (some (9, 0, 0))) 9 1 0 none)) 8 0 0 1 (some (9, 1, 0))) 10 0 0 none)) 0 0 0 3 (some (10, 0, 0))) 12 0 0 none)) 0 0 0 4 (some (12, 0, 0))) 14 0 0 none)) 0 0 0 5 (some (14, 0, 0))) 17 0 0 none)) 0 0 0 6 (some (17, 0, 0))) 19 0 0 none) 0 0 0 7 (some (19, 0, 0))) 20 0 0 none)) 19 0 0 0 (some (20, 0, 0))) 20 1 0 none)) 19 0 0 1 (some (20, 1, 0))) 20 2 0 none)) 19 0 0 2 (some (20, 2, 0))) 20 3 0 none)) 19 0 0 3 (some (20, 3, 0))
def jfI (I : xF4 Int32) : xF4 Int32 := xup (c_sheet_3I (xz (c_sheet_2I (xz (c_sheet_1I (xz (c_sheet_0I (xz (xz (c_cluesI (xz (c_rosterI (xz (c_docketII (xz (c_tapeI (xz (c_image_1I (xz (c_image_0I (xz (xz (ctI1 (xz (ctI0 (xz I 1 0 0 0)) 1 1 0 0)) 8 0 0 0) 9 0 0 0)) 9 1 0 0)) 10 0 0 0)) 12 0 0 0)) 14 0 0 0)) 17 0 0 0)) 19 0 0 0) 20 0 0 0)) 20 1 0 0)) 20 2 0 0)) 20 3 0 0)) 0 0 0 8 (0)
def jfL (L : xF4 Int64) : xF4 Int64 := c_sheet_3L (xz (c_sheet_2L (xz (c_sheet_1L (xz (c_sheet_0L (xz (xz (c_cluesL (xz (c_rosterL (xz (c_docketIL (xz (c_tapeL (xz (c_image_1L (xz (c_image_0L (xz (xz (ctL1 (xz (ctL0 (xz L 1 0 0 0)) 1 1 0 0)) 8 0 0 0) 9 0 0 0)) 9 1 0 0)) 10 0 0 0)) 12 0 0 0)) 14 0 0 0)) 17 0 0 0)) 19 0 0 0) 20 0 0 0)) 20 1 0 0)) 20 2 0 0)) 20 3 0 0)
theorem c_jf {R : xF4 (Option xId)} {I : xF4 Int32} {L : xF4 Int64} : Tri 4 98 m_X10_init [vR 0 0 0] (1, (R, (I, L))) (pN 98 (jfR R) (jfI I) (jfL L)) := by
  refine ⟨k_X10_init, Nat.le_of_ble_eq_true rfl, ?_⟩
  show Wp _ _ _ 0 [some (vR 0 0 0), none] [] (1, (R, (I, L))) _
  refine w_aload_n dX10_init_0 rfl ?_
  refine w_objInit (o := none) oi_X10_1 oi_ins oi_code (by decide) dX10_init_1 rfl ?_
  refine w_aload_n dX10_init_4 rfl ?_
  refine w_new (t := 1) (k := 0) (j := 0) nw_X10_7 rfl rfl (by decide) (by decide) dX10_init_5 ?_
  refine w_dup dX10_init_8 rfl ?_
  refine w_callI (n1 := 20) (as := []) (st := [vR 1 0 0, vR 0 0 0]) (Tri.mono (c_court_0) (Nat.le_of_ble_eq_true rfl)) rfl rfl tg_X1_init lk_X10_9 in_X1_init rfl dX10_init_9 rfl (Nat.le_of_ble_eq_true rfl) (Nat.le_of_ble_eq_true rfl) (Nat.le_of_ble_eq_true rfl) ?_
  rintro _ _ ⟨rfl, rfl⟩ -
  refine w_putR fp_X10_10 rfl rfl rfl (fun _ => rfl) (fun _ => rfl) dX10_init_12 ?_
  refine w_aload_n dX10_init_15 rfl ?_
  refine w_new (t := 1) (k := 1) (j := 0) nw_X10_7 rfl rfl (by decide) (by decide) dX10_init_16 ?_
  refine w_dup dX10_init_19 rfl ?_
  refine w_callI (n1 := 39) (as := []) (st := [vR 1 1 0, vR 0 0 0]) (Tri.mono (c_court_1) (Nat.le_of_ble_eq_true rfl)) rfl rfl tg_X1_init lk_X10_9 in_X1_init rfl dX10_init_20 rfl (Nat.le_of_ble_eq_true rfl) (Nat.le_of_ble_eq_true rfl) (Nat.le_of_ble_eq_true rfl) ?_
  rintro _ _ ⟨rfl, rfl⟩ -
  refine w_putR fp_X10_16 rfl rfl rfl (fun _ => rfl) (fun _ => rfl) dX10_init_23 ?_
  refine w_aload_n dX10_init_26 rfl ?_
  refine w_iconst (v := 2) dX10_init_27 (by decide) ?_
  refine w_newq (t := 8) (k := 0) (j := 0) (e := 6) rfl (by decide) (fun _ => rfl) (by decide +kernel) cl_X10_19 (by decide) (by decide) (Nat.le_of_ble_eq_true rfl) rfl (by decide) (by decide) dX10_init_28 ?_
  refine w_putR fp_X10_21 rfl rfl rfl (fun _ => rfl) (fun _ => rfl) dX10_init_31 ?_
  refine w_iconst (v := 0) dX10_init_34 (by decide) ?_
  refine w_istore_n (ls' := [some (vR 0 0 0), some (vI (0))]) dX10_init_35 rfl ?_
  refine w_iload_n dX10_init_36 rfl ?_
  refine w_aload_n dX10_init_37 rfl ?_
  refine w_getR (w := some (8, 0, 0)) ff_X10_21 rfl rfl dX10_init_38 (rfl) ?_
  refine w_alen (v := 2) rfl rfl dX10_init_41 ?_
  refine w_icmp_ge (tgt := 64) dX10_init_42 (by decide) (fun h => absurd h (by decide)) (fun _ => ?_)
  refine w_aload_n dX10_init_45 rfl ?_
  refine w_getR (w := some (8, 0, 0)) ff_X10_21 rfl rfl dX10_init_46 (rfl) ?_
  refine w_iload_n dX10_init_49 rfl ?_
  refine w_new (t := 9) (k := 0) (j := 0) nw_X10_19 rfl rfl (by decide) (by decide) dX10_init_50 ?_
  refine w_dup dX10_init_53 rfl ?_
  refine w_callI (n1 := 60) (as := []) (st := [vR 9 0 0, vI (0), vR 8 0 0]) (Tri.mono (c_image_0) (Nat.le_of_ble_eq_true rfl)) rfl rfl tg_X3_init lk_X10_25 in_X3_init rfl dX10_init_54 rfl (Nat.le_of_ble_eq_true rfl) (Nat.le_of_ble_eq_true rfl) (Nat.le_of_ble_eq_true rfl) ?_
  rintro _ _ ⟨rfl, rfl⟩ -
  refine w_aastore (e := 6) (a := 0) (cv := 3) (C := (RX3, TX3, xN 3)) rfl (by decide) (fun _ => rfl) rfl rfl (by unfold vp_in; decide) (by decide) dX10_init_57 ?_
  refine w_iinc (v := 1) (ls' := [some (vR 0 0 0), some (vI (1))]) dX10_init_58 rfl (by decide) rfl ?_
  refine w_goto (tgt := 36) dX10_init_61 (by decide) ?_
  refine w_iload_n dX10_init_36 rfl ?_
  refine w_aload_n dX10_init_37 rfl ?_
  refine w_getR (w := some (8, 0, 0)) ff_X10_21 rfl rfl dX10_init_38 (rfl) ?_
  refine w_alen (v := 2) rfl rfl dX10_init_41 ?_
  refine w_icmp_ge (tgt := 64) dX10_init_42 (by decide) (fun h => absurd h (by decide)) (fun _ => ?_)
  refine w_aload_n dX10_init_45 rfl ?_
  refine w_getR (w := some (8, 0, 0)) ff_X10_21 rfl rfl dX10_init_46 (rfl) ?_
  refine w_iload_n dX10_init_49 rfl ?_
  refine w_new (t := 9) (k := 1) (j := 0) nw_X10_19 rfl rfl (by decide) (by decide) dX10_init_50 ?_
  refine w_dup dX10_init_53 rfl ?_
  refine w_callI (n1 := 80) (as := []) (st := [vR 9 1 0, vI (1), vR 8 0 0]) (Tri.mono (c_image_1) (Nat.le_of_ble_eq_true rfl)) rfl rfl tg_X3_init lk_X10_25 in_X3_init rfl dX10_init_54 rfl (Nat.le_of_ble_eq_true rfl) (Nat.le_of_ble_eq_true rfl) (Nat.le_of_ble_eq_true rfl) ?_
  rintro _ _ ⟨rfl, rfl⟩ -
  refine w_aastore (e := 6) (a := 1) (cv := 3) (C := (RX3, TX3, xN 3)) rfl (by decide) (fun _ => rfl) rfl rfl (by unfold vp_in; decide) (by decide) dX10_init_57 ?_
  refine w_iinc (v := 2) (ls' := [some (vR 0 0 0), some (vI (2))]) dX10_init_58 rfl (by decide) rfl ?_
  refine w_goto (tgt := 36) dX10_init_61 (by decide) ?_
  refine w_iload_n dX10_init_36 rfl ?_
  refine w_aload_n dX10_init_37 rfl ?_
  refine w_getR (w := some (8, 0, 0)) ff_X10_21 rfl rfl dX10_init_38 (rfl) ?_
  refine w_alen (v := 2) rfl rfl dX10_init_41 ?_
  refine w_icmp_ge (tgt := 64) dX10_init_42 (by decide) (fun _ => ?_) (fun h => absurd (by decide) h)
  refine w_aload_n dX10_init_64 rfl ?_
  refine w_new (t := 10) (k := 0) (j := 0) nw_X10_26 rfl rfl (by decide) (by decide) dX10_init_65 ?_
  refine w_dup dX10_init_68 rfl ?_
  refine w_callI (n1 := 82) (as := []) (st := [vR 10 0 0, vR 0 0 0]) (Tri.mono (c_tape) (Nat.le_of_ble_eq_true rfl)) rfl rfl tg_X9_init lk_X10_28 in_X9_init rfl dX10_init_69 rfl (Nat.le_of_ble_eq_true rfl) (Nat.le_of_ble_eq_true rfl) (Nat.le_of_ble_eq_true rfl) ?_
  rintro _ _ ⟨rfl, rfl⟩ -
  refine w_putR fp_X10_29 rfl rfl rfl (fun _ => rfl) (fun _ => rfl) dX10_init_72 ?_
  refine w_aload_n dX10_init_75 rfl ?_
  refine w_new (t := 12) (k := 0) (j := 0) nw_X10_33 rfl rfl (by decide) (by decide) dX10_init_76 ?_
  refine w_dup dX10_init_79 rfl ?_
  refine w_callI (n1 := 84) (as := []) (st := [vR 12 0 0, vR 0 0 0]) (Tri.mono (c_docketI) (Nat.le_of_ble_eq_true rfl)) rfl rfl tg_X2_init lk_X10_35 in_X2_init rfl dX10_init_80 rfl (Nat.le_of_ble_eq_true rfl) (Nat.le_of_ble_eq_true rfl) (Nat.le_of_ble_eq_true rfl) ?_
  rintro _ _ ⟨rfl, rfl⟩ -
  refine w_putR fp_X10_36 rfl rfl rfl (fun _ => rfl) (fun _ => rfl) dX10_init_83 ?_
  refine w_aload_n dX10_init_86 rfl ?_
  refine w_new (t := 14) (k := 0) (j := 0) nw_X10_40 rfl rfl (by decide) (by decide) dX10_init_87 ?_
  refine w_dup dX10_init_90 rfl ?_
  refine w_callI (n1 := 87) (as := []) (st := [vR 14 0 0, vR 0 0 0]) (Tri.mono (c_roster) (Nat.le_of_ble_eq_true rfl)) rfl rfl tg_X5_init lk_X10_42 in_X5_init rfl dX10_init_91 rfl (Nat.le_of_ble_eq_true rfl) (Nat.le_of_ble_eq_true rfl) (Nat.le_of_ble_eq_true rfl) ?_
  rintro _ _ ⟨rfl, rfl⟩ -
  refine w_putR fp_X10_43 rfl rfl rfl (fun _ => rfl) (fun _ => rfl) dX10_init_94 ?_
  refine w_aload_n dX10_init_97 rfl ?_
  refine w_new (t := 17) (k := 0) (j := 0) nw_X10_47 rfl rfl (by decide) (by decide) dX10_init_98 ?_
  refine w_dup dX10_init_101 rfl ?_
  refine w_callI (n1 := 89) (as := []) (st := [vR 17 0 0, vR 0 0 0]) (Tri.mono (c_clues) (Nat.le_of_ble_eq_true rfl)) rfl rfl tg_X0_init lk_X10_49 in_X0_init rfl dX10_init_102 rfl (Nat.le_of_ble_eq_true rfl) (Nat.le_of_ble_eq_true rfl) (Nat.le_of_ble_eq_true rfl) ?_
  rintro _ _ ⟨rfl, rfl⟩ -
  refine w_putR fp_X10_50 rfl rfl rfl (fun _ => rfl) (fun _ => rfl) dX10_init_105 ?_
  refine w_aload_n dX10_init_108 rfl ?_
  refine w_iconst (v := 4) dX10_init_109 (by decide) ?_
  refine w_newq (t := 19) (k := 0) (j := 0) (e := 7) rfl (by decide) (fun _ => rfl) (by decide +kernel) cl_X10_54 (by decide) (by decide) (Nat.le_of_ble_eq_true rfl) rfl (by decide) (by decide) dX10_init_110 ?_
  refine w_putR fp_X10_56 rfl rfl rfl (fun _ => rfl) (fun _ => rfl) dX10_init_113 ?_
  refine w_iconst (v := 0) dX10_init_116 (by decide) ?_
  refine w_istore_n (ls' := [some (vR 0 0 0), some (vI (0))]) dX10_init_117 rfl ?_
  refine w_iload_n dX10_init_118 rfl ?_
  refine w_aload_n dX10_init_119 rfl ?_
  refine w_getR (w := some (19, 0, 0)) ff_X10_56 rfl rfl dX10_init_120 (rfl) ?_
  refine w_alen (v := 4) rfl rfl dX10_init_123 ?_
  refine w_icmp_ge (tgt := 146) dX10_init_124 (by decide) (fun h => absurd h (by decide)) (fun _ => ?_)
  refine w_aload_n dX10_init_127 rfl ?_
  refine w_getR (w := some (19, 0, 0)) ff_X10_56 rfl rfl dX10_init_128 (rfl) ?_
  refine w_iload_n dX10_init_131 rfl ?_
  refine w_new (t := 20) (k := 0) (j := 0) nw_X10_54 rfl rfl (by decide) (by decide) dX10_init_132 ?_
  refine w_dup dX10_init_135 rfl ?_
  refine w_callI (n1 := 92) (as := []) (st := [vR 20 0 0, vI (0), vR 19 0 0]) (Tri.mono (c_sheet_0) (Nat.le_of_ble_eq_true rfl)) rfl rfl tg_X6_init lk_X10_60 in_X6_init rfl dX10_init_136 rfl (Nat.le_of_ble_eq_true rfl) (Nat.le_of_ble_eq_true rfl) (Nat.le_of_ble_eq_true rfl) ?_
  rintro _ _ ⟨rfl, rfl⟩ -
  refine w_aastore (e := 7) (a := 0) (cv := 6) (C := (RX6, TX6, xN 6)) rfl (by decide) (fun _ => rfl) rfl rfl (by unfold vp_in; decide) (by decide) dX10_init_139 ?_
  refine w_iinc (v := 1) (ls' := [some (vR 0 0 0), some (vI (1))]) dX10_init_140 rfl (by decide) rfl ?_
  refine w_goto (tgt := 118) dX10_init_143 (by decide) ?_
  refine w_iload_n dX10_init_118 rfl ?_
  refine w_aload_n dX10_init_119 rfl ?_
  refine w_getR (w := some (19, 0, 0)) ff_X10_56 rfl rfl dX10_init_120 (rfl) ?_
  refine w_alen (v := 4) rfl rfl dX10_init_123 ?_
  refine w_icmp_ge (tgt := 146) dX10_init_124 (by decide) (fun h => absurd h (by decide)) (fun _ => ?_)
  refine w_aload_n dX10_init_127 rfl ?_
  refine w_getR (w := some (19, 0, 0)) ff_X10_56 rfl rfl dX10_init_128 (rfl) ?_
  refine w_iload_n dX10_init_131 rfl ?_
  refine w_new (t := 20) (k := 1) (j := 0) nw_X10_54 rfl rfl (by decide) (by decide) dX10_init_132 ?_
  refine w_dup dX10_init_135 rfl ?_
  refine w_callI (n1 := 94) (as := []) (st := [vR 20 1 0, vI (1), vR 19 0 0]) (Tri.mono (c_sheet_1) (Nat.le_of_ble_eq_true rfl)) rfl rfl tg_X6_init lk_X10_60 in_X6_init rfl dX10_init_136 rfl (Nat.le_of_ble_eq_true rfl) (Nat.le_of_ble_eq_true rfl) (Nat.le_of_ble_eq_true rfl) ?_
  rintro _ _ ⟨rfl, rfl⟩ -
  refine w_aastore (e := 7) (a := 1) (cv := 6) (C := (RX6, TX6, xN 6)) rfl (by decide) (fun _ => rfl) rfl rfl (by unfold vp_in; decide) (by decide) dX10_init_139 ?_
  refine w_iinc (v := 2) (ls' := [some (vR 0 0 0), some (vI (2))]) dX10_init_140 rfl (by decide) rfl ?_
  refine w_goto (tgt := 118) dX10_init_143 (by decide) ?_
  refine w_iload_n dX10_init_118 rfl ?_
  refine w_aload_n dX10_init_119 rfl ?_
  refine w_getR (w := some (19, 0, 0)) ff_X10_56 rfl rfl dX10_init_120 (rfl) ?_
  refine w_alen (v := 4) rfl rfl dX10_init_123 ?_
  refine w_icmp_ge (tgt := 146) dX10_init_124 (by decide) (fun h => absurd h (by decide)) (fun _ => ?_)
  refine w_aload_n dX10_init_127 rfl ?_
  refine w_getR (w := some (19, 0, 0)) ff_X10_56 rfl rfl dX10_init_128 (rfl) ?_
  refine w_iload_n dX10_init_131 rfl ?_
  refine w_new (t := 20) (k := 2) (j := 0) nw_X10_54 rfl rfl (by decide) (by decide) dX10_init_132 ?_
  refine w_dup dX10_init_135 rfl ?_
  refine w_callI (n1 := 96) (as := []) (st := [vR 20 2 0, vI (2), vR 19 0 0]) (Tri.mono (c_sheet_2) (Nat.le_of_ble_eq_true rfl)) rfl rfl tg_X6_init lk_X10_60 in_X6_init rfl dX10_init_136 rfl (Nat.le_of_ble_eq_true rfl) (Nat.le_of_ble_eq_true rfl) (Nat.le_of_ble_eq_true rfl) ?_
  rintro _ _ ⟨rfl, rfl⟩ -
  refine w_aastore (e := 7) (a := 2) (cv := 6) (C := (RX6, TX6, xN 6)) rfl (by decide) (fun _ => rfl) rfl rfl (by unfold vp_in; decide) (by decide) dX10_init_139 ?_
  refine w_iinc (v := 3) (ls' := [some (vR 0 0 0), some (vI (3))]) dX10_init_140 rfl (by decide) rfl ?_
  refine w_goto (tgt := 118) dX10_init_143 (by decide) ?_
  refine w_iload_n dX10_init_118 rfl ?_
  refine w_aload_n dX10_init_119 rfl ?_
  refine w_getR (w := some (19, 0, 0)) ff_X10_56 rfl rfl dX10_init_120 (rfl) ?_
  refine w_alen (v := 4) rfl rfl dX10_init_123 ?_
  refine w_icmp_ge (tgt := 146) dX10_init_124 (by decide) (fun h => absurd h (by decide)) (fun _ => ?_)
  refine w_aload_n dX10_init_127 rfl ?_
  refine w_getR (w := some (19, 0, 0)) ff_X10_56 rfl rfl dX10_init_128 (rfl) ?_
  refine w_iload_n dX10_init_131 rfl ?_
  refine w_new (t := 20) (k := 3) (j := 0) nw_X10_54 rfl rfl (by decide) (by decide) dX10_init_132 ?_
  refine w_dup dX10_init_135 rfl ?_
  refine w_callI (n1 := 98) (as := []) (st := [vR 20 3 0, vI (3), vR 19 0 0]) (Tri.mono (c_sheet_3) (Nat.le_of_ble_eq_true rfl)) rfl rfl tg_X6_init lk_X10_60 in_X6_init rfl dX10_init_136 rfl (Nat.le_of_ble_eq_true rfl) (Nat.le_of_ble_eq_true rfl) (Nat.le_of_ble_eq_true rfl) ?_
  rintro _ _ ⟨rfl, rfl⟩ -
  refine w_aastore (e := 7) (a := 3) (cv := 6) (C := (RX6, TX6, xN 6)) rfl (by decide) (fun _ => rfl) rfl rfl (by unfold vp_in; decide) (by decide) dX10_init_139 ?_
  refine w_iinc (v := 4) (ls' := [some (vR 0 0 0), some (vI (4))]) dX10_init_140 rfl (by decide) rfl ?_
  refine w_goto (tgt := 118) dX10_init_143 (by decide) ?_
  refine w_iload_n dX10_init_118 rfl ?_
  refine w_aload_n dX10_init_119 rfl ?_
  refine w_getR (w := some (19, 0, 0)) ff_X10_56 rfl rfl dX10_init_120 (rfl) ?_
  refine w_alen (v := 4) rfl rfl dX10_init_123 ?_
  refine w_icmp_ge (tgt := 146) dX10_init_124 (by decide) (fun _ => ?_) (fun h => absurd (by decide) h)
  refine w_aload_n dX10_init_146 rfl ?_
  refine w_iconst (v := 0) dX10_init_147 (by decide) ?_
  refine w_putI ff_X10_61 rfl rfl rfl rfl dX10_init_148 ?_
  exact w_return dX10_init_151 rfl rfl (⟨rfl, rfl⟩)

def mdR (R : xF4 (Option xId)) : xF4 (Option xId) := xup (xz (xup (xz (xup (xz (xup (xz (xup (xz (xup (xz (xup (xz (xup (xz (xup (xz (xup (xz R 31 0 0 none) 30 0 0 0 (some (31, 0, 0))) 32 0 0 none) 30 0 0 1 (some (32, 0, 0))) 33 0 0 none) 30 0 0 2 (some (33, 0, 0))) 34 0 0 none) 30 0 0 5 (some (34, 0, 0))) 35 0 0 none) 30 0 0 9 (some (35, 0, 0))) 36 0 0 none) 30 0 0 17 (some (36, 0, 0))) 37 0 0 none) 30 0 0 23 (some (37, 0, 0))) 38 0 0 none) 30 0 0 24 (some (38, 0, 0))) 39 0 0 none) 30 0 0 25 (some (39, 0, 0))) 40 0 0 none) 30 0 0 27 (some (40, 0, 0))
def mdI (I : xF4 Int32) : xF4 Int32 := xz (xz (xz (xz (xz (xz (xz (xz (xz (xz I 31 0 0 0) 32 0 0 0) 33 0 0 0) 34 0 0 0) 35 0 0 0) 36 0 0 0) 37 0 0 0) 38 0 0 0) 39 0 0 0) 40 0 0 0
def mdL (L : xF4 Int64) : xF4 Int64 := xz (xz (xz (xz (xz (xz (xz (xz (xz (xz L 31 0 0 0) 32 0 0 0) 33 0 0 0) 34 0 0 0) 35 0 0 0) 36 0 0 0) 37 0 0 0) 38 0 0 0) 39 0 0 0) 40 0 0 0
def zR : xF4 (Option xId) := fun _ _ _ _ => none
def zI : xF4 Int32 := fun _ _ _ _ => 0
def zL : xF4 Int64 := fun _ _ _ _ => 0
def eR : xF4 (Option xId) := mdR (xz (jfR (xz zR 0 0 0 none)) 30 0 0 none)
def eI : xF4 Int32 := mdI (xz (jfI (xz zI 0 0 0 0)) 30 0 0 0)
def eL : xF4 Int64 := mdL (xz (jfL (xz zL 0 0 0 0)) 30 0 0 0)
/-- the ints once all is made: crime alone is not 0 -/
def iI : xF4 Int32 := fun t _ _ s => if t = 1 ∧ s = 7 then 20 else 0
set_option maxRecDepth 100000 in
theorem xEq_made : ∀ i ∈ xSeq, xEqv (109, (eR, (eI, eL))) (rM iI zL) i = true := by decide +kernel
