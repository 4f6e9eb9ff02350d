/-! the text fed, images, sheets, both ways (by wip/whole/gen/g76.py) -/
def setT (g : gG) (n : Nat) (tb : Nat → Nat) : gG := (g.1, (g.2.1, (n, (tb, g.2.2.2.2))))
def setIm (g : gG) (k : Nat) (b : aA) : gG := (g.1, (fun k' => if k' = k then some b else g.2.1 k', g.2.2))
def setSh (g : gG) (k : Nat) (q : Nat × (Nat × (Nat → Int32))) : gG := (g.1, (g.2.1, (g.2.2.1, (g.2.2.2.1, (g.2.2.2.2.1, (fun k' => if k' = k then some q else g.2.2.2.2.2.1 k', g.2.2.2.2.2.2))))))
theorem CH.tape {I I' : xF4 Int32} {g : gG} {n : Nat} {tb : Nat → Nat} (h : CH I g) (e : ∀ t b j s, ¬ (t = 10 ∧ s = 1) → t ≠ 11 → I' t b j s = I t b j s) (e1 : I' 10 0 0 1 = nI n) (e2 : ∀ i, i < n → I' 11 0 0 i = nI (tb i)) : CH I' (setT g n tb) := by
  obtain ⟨h1, h2, h3, h4, h5, h6, h7⟩ := h
  exact ⟨h1.eqv (fun t j s ht => e t 0 j s (by omega) (by omega)), fun k hk => (h2 k hk).eqv (e 9 k 0 1 (by omega) (by omega)) (fun t j s ht => e t (2 + k) j s (by omega) (by omega)), e1, e2, (e 10 0 0 2 (by omega) (by omega)).trans h5, fun k hk => (h6 k hk).eqv (fun s => e 20 k 0 s (by omega) (by omega)) (fun s => e 21 k 0 s (by omega) (by omega)), (e 0 0 0 8 (by omega) (by omega)).trans h7⟩
theorem MH.tape {I I' : xF4 Int32} {g : gG} {n : Nat} {tb : Nat → Nat} (h : MH I g) (e : ∀ t b j s, ¬ (t = 30 ∧ s = 10) → t ≠ 35 → I' t b j s = I t b j s) (e1 : I' 30 0 0 10 = nI n) (e2 : ∀ i, i < n → I' 35 0 0 i = nI (tb i)) : MH I' (setT g n tb) := by
  obtain ⟨h1, h2, h3, h4, h5, h6, h7⟩ := h
  exact ⟨⟨(e 30 0 0 3 (by omega) (by omega)).trans h1.1, (e 30 0 0 4 (by omega) (by omega)).trans h1.2.1, h1.2.2.fr (fun x => e 31 0 0 x (by omega) (by omega))⟩, fun k hk => (h2 k hk).eqv (e 33 0 0 k (by omega) (by omega)) (fun s => e 31 0 0 s (by omega) (by omega)), e1, e2, (e 30 0 0 15 (by omega) (by omega)).trans h5, fun k hk => (h6 k hk).eqv (e 37 0 0 k (by omega) (by omega)) (e 38 0 0 k (by omega) (by omega)) (fun i _ => e 39 0 0 _ (by omega) (by omega)), (e 30 0 0 26 (by omega) (by omega)).trans h7⟩
theorem CH.image {I I' : xF4 Int32} {g : gG} {k : Nat} {b : aA} (h : CH I g) (hk : k < 2) (e : ∀ t b' j s, ¬ ((t = 1 ∨ t = 3 ∨ t = 5 ∨ t = 7) ∧ b' = 2 + k) → ¬ (t = 9 ∧ b' = k) → I' t b' j s = I t b' j s) (e1 : I' 9 k 0 1 = 1) (hc : CourtIs I' (2 + k) b) : CH I' (setIm g k b) := by
  obtain ⟨h1, h2, h3, h4, h5, h6, h7⟩ := h
  refine ⟨h1.eqv (fun t j s ht => e t 0 j s (by omega) (by omega)), fun k' hk' => ?_, (e 10 0 0 1 (by omega) (by omega)).trans h3, fun i hi => (e 11 0 0 i (by omega) (by omega)).trans (h4 i hi), (e 10 0 0 2 (by omega) (by omega)).trans h5, fun k hk => (h6 k hk).eqv (fun s => e 20 k 0 s (by omega) (by omega)) (fun s => e 21 k 0 s (by omega) (by omega)), (e 0 0 0 8 (by omega) (by omega)).trans h7⟩
  show ImC I' k' (if k' = k then some b else gIm g k')
  by_cases q : k' = k
  · rw [if_pos q, q]; exact ⟨e1, hc⟩
  · rw [if_neg q]; exact (h2 k' hk').eqv (e 9 k' 0 1 (by omega) (by omega)) (fun t j s ht => e t (2 + k') j s (by omega) (by omega))
theorem MH.image {I I' : xF4 Int32} {g : gG} {k : Nat} {b : aA} (h : MH I g) (hg : WG g) (hk : k < 2) (e : ∀ t b' j s, ¬ (t = 31 ∧ 76 * (k + 1) ≤ s ∧ s < 76 * (k + 1) + 76) → ¬ (t = 33 ∧ s = k) → I' t b' j s = I t b' j s) (e1 : I' 33 0 0 k = 1) (hn : NowIs I' 31 (76 * (k + 1)) b) : MH I' (setIm g k b) := by
  obtain ⟨h1, h2, h3, h4, h5, h6, h7⟩ := h
  refine ⟨⟨(e 30 0 0 3 (by omega) (by omega)).trans h1.1, (e 30 0 0 4 (by omega) (by omega)).trans h1.2.1, h1.2.2.to hg.1 (fun x hx => e 31 0 0 _ (by omega) (by omega))⟩, fun k' hk' => ?_, (e 30 0 0 10 (by omega) (by omega)).trans h3, fun i hi => (e 35 0 0 i (by omega) (by omega)).trans (h4 i hi), (e 30 0 0 15 (by omega) (by omega)).trans h5, fun k hk => (h6 k hk).eqv (e 37 0 0 k (by omega) (by omega)) (e 38 0 0 k (by omega) (by omega)) (fun i _ => e 39 0 0 _ (by omega) (by omega)), (e 30 0 0 26 (by omega) (by omega)).trans h7⟩
  show ImM I' k' (if k' = k then some b else gIm g k')
  by_cases q : k' = k
  · rw [if_pos q, q]; exact ⟨e1, hn⟩
  · rw [if_neg q]
    have hx := h2 k' hk'
    cases hz : gIm g k' with
    | none => rw [hz] at hx; exact (e 33 0 0 k' (by omega) (by omega)).trans hx
    | some b' =>
      rw [hz] at hx
      exact ⟨(e 33 0 0 k' (by omega) (by omega)).trans hx.1, hx.2.to (hg.2.2.1 k' hk' b' hz).1 (fun x hx => e 31 0 0 _ (by omega) (by omega))⟩
theorem CH.sheet {I I' : xF4 Int32} {g : gG} {k : Nat} {q : Nat × (Nat × (Nat → Int32))} (h : CH I g) (e : ∀ t b j s, ¬ ((t = 20 ∨ t = 21) ∧ b = k) → I' t b j s = I t b j s) (hs : ShC I' k (some q)) : CH I' (setSh g k q) := by
  obtain ⟨h1, h2, h3, h4, h5, h6, h7⟩ := h
  refine ⟨h1.eqv (fun t j s ht => e t 0 j s (by omega)), fun k' hk' => (h2 k' hk').eqv (e 9 k' 0 1 (by omega)) (fun t j s ht => e t (2 + k') j s (by omega)), (e 10 0 0 1 (by omega)).trans h3, fun i hi => (e 11 0 0 i (by omega)).trans (h4 i hi), (e 10 0 0 2 (by omega)).trans h5, fun k' hk' => ?_, (e 0 0 0 8 (by omega)).trans h7⟩
  show ShC I' k' (if k' = k then some q else gSh g k')
  by_cases z : k' = k
  · rw [if_pos z, z]; exact hs
  · rw [if_neg z]; exact (h6 k' hk').eqv (fun s => e 20 k' 0 s (by omega)) (fun s => e 21 k' 0 s (by omega))
theorem MH.sheet {I I' : xF4 Int32} {g : gG} {k : Nat} {q : Nat × (Nat × (Nat → Int32))} (h : MH I g) (e : ∀ t b j s, ¬ (t = 37 ∧ s = k) → ¬ (t = 38 ∧ s = k) → ¬ (t = 39 ∧ 40 * k ≤ s ∧ s < 40 * k + 40) → I' t b j s = I t b j s) (hs : ShM I' k (some q)) : MH I' (setSh g k q) := by
  obtain ⟨h1, h2, h3, h4, h5, h6, h7⟩ := h
  refine ⟨⟨(e 30 0 0 3 (by omega) (by omega) (by omega)).trans h1.1, (e 30 0 0 4 (by omega) (by omega) (by omega)).trans h1.2.1, h1.2.2.fr (fun x => e 31 0 0 x (by omega) (by omega) (by omega))⟩, fun k hk => (h2 k hk).eqv (e 33 0 0 k (by omega) (by omega) (by omega)) (fun s => e 31 0 0 s (by omega) (by omega) (by omega)), (e 30 0 0 10 (by omega) (by omega) (by omega)).trans h3, fun i hi => (e 35 0 0 i (by omega) (by omega) (by omega)).trans (h4 i hi), (e 30 0 0 15 (by omega) (by omega) (by omega)).trans h5, fun k' hk' => ?_, (e 30 0 0 26 (by omega) (by omega) (by omega)).trans h7⟩
  show ShM I' k' (if k' = k then some q else gSh g k')
  by_cases z : k' = k
  · rw [if_pos z, z]; exact hs
  · rw [if_neg z]; exact (h6 k' hk').eqv (e 37 0 0 k' (by omega) (by omega) (by omega)) (e 38 0 0 k' (by omega) (by omega) (by omega)) (fun i hi => e 39 0 0 _ (by omega) (by omega) (by omega))
theorem byte_1 : ∀ c, c < 128 → vp_nar .byte ((nI c).toInt8.toInt32) = nI c := by decide +kernel
theorem WG.tape {g : gG} (hg : WG g) {n : Nat} {tb : Nat → Nat} (hn : n ≤ 160) (h : ∀ i, i < n → tb i < 128) : WG (setT g n tb) := ⟨hg.1, hg.2.1, hg.2.2.1, hn, h, hg.2.2.2.2.2⟩
theorem WG.image {g : gG} (hg : WG g) {k : Nat} {b : aA} (h1 : WF b) (h2 : dY b ≤ 999) (h3 : nJ b = nJ (gA g)) (h4 : nC b = nC (gA g)) : WG (setIm g k b) := ⟨hg.1, hg.2.1, fun k' hk' b' hb => by
  have hb : (if k' = k then some b else gIm g k') = some b' := hb
  by_cases q : k' = k
  · rw [if_pos q] at hb; cases hb; exact ⟨h1, h2, h3, h4⟩
  · rw [if_neg q] at hb; exact hg.2.2.1 k' hk' b' hb, hg.2.2.2⟩
theorem WG.sheet {g : gG} (hg : WG g) {k : Nat} {q : Nat × (Nat × (Nat → Int32))} (h1 : q.1 < 3) (h2 : q.2.1 ≤ 40) : WG (setSh g k q) := ⟨hg.1, hg.2.1, hg.2.2.1, hg.2.2.2.1, hg.2.2.2.2.1, fun k' hk' q' hq => by
  have hq : (if k' = k then some q else gSh g k') = some q' := hq
  by_cases z : k' = k
  · rw [if_pos z] at hq; cases hq; exact ⟨h1, h2⟩
  · rw [if_neg z] at hq; exact hg.2.2.2.2.2 k' hk' q' hq⟩

theorem c_append {I : xF4 Int32} {L : xF4 Int64} {g : gG} (hg : WG g) (hh : CH I g) {c : Nat} (hc : c < 128) (hn : gTn g < 160) : Tri 0 109 m_X9_append [vR 10 0 0, vI (nI c)] (rM I L) (pI 1 (xup (xup I 11 0 0 (gTn g) (nI c)) 10 0 0 1 (nI (gTn g + 1))) L) := by
  refine ⟨k_X9_append, Nat.le_of_ble_eq_true rfl, ?_⟩
  show Wp _ _ _ 0 [some (vR 10 0 0), some (vI (nI c))] [] (rM I L) _
  obtain ⟨hw, hd9, hgi, ht160, htb, hgs⟩ := id hg
  refine w_aload_n dX9_append_0 rfl ?_
  refine w_getI ff_X9_15 rfl rfl dX9_append_1 ?_
  rw [show (I 10 0 0 1 : Int32) = nI (gTn g) from hh.2.2.1]
  refine w_if_lt (tgt := 19) dX9_append_4 (by decide) (fun h => absurd h (nI_pos (by omega))) (fun _ => ?_)
  refine w_aload_n dX9_append_7 rfl ?_
  refine w_getI ff_X9_15 rfl rfl dX9_append_8 ?_
  rw [show (I 10 0 0 1 : Int32) = nI (gTn g) from hh.2.2.1]
  refine w_aload_n dX9_append_11 rfl ?_
  refine w_getR (w := some (11, 0, 0)) ff_X9_9 rfl rfl dX9_append_12 rfl ?_
  refine w_alen (v := 160) rfl rfl dX9_append_15 ?_
  refine w_icmp_lt (tgt := 21) dX9_append_16 (by decide) (fun _ => ?_) (fun h => absurd (nI_lt (b := 160) hn (by omega)) h)
  refine w_aload_n dX9_append_21 rfl ?_
  refine w_getR (w := some (11, 0, 0)) ff_X9_9 rfl rfl dX9_append_22 rfl ?_
  refine w_aload_n dX9_append_25 rfl ?_
  refine w_getI ff_X9_15 rfl rfl dX9_append_26 ?_
  rw [show (I 10 0 0 1 : Int32) = nI (gTn g) from hh.2.2.1]
  refine w_iload_n dX9_append_29 rfl ?_
  refine w_i2b dX9_append_30 ?_
  refine w_bastore (a := gTn g) rfl (vp_in_nI (n := gTn g) (by omega) (by omega)) (nI_clamp (n := gTn g) (by omega)) dX9_append_31 ?_
  rw [byte_1 c hc]
  refine w_aload_n dX9_append_32 rfl ?_
  refine w_dup dX9_append_33 rfl ?_
  refine w_getI ff_X9_15 rfl rfl dX9_append_34 ?_
  rw [show ((xup I 11 0 0 (gTn g) (nI c)) 10 0 0 1 : Int32) = nI (gTn g) from (xup_tag (by decide)).trans hh.2.2.1]
  refine w_iconst (v := 1) dX9_append_37 (by decide) ?_
  refine w_iadd dX9_append_38 ?_
  rw [show ((nI (gTn g)) + (1) : Int32) = nI ((gTn g) + 1) from ar_add (p := gTn g) (q := 1) rfl rfl (by omega)]
  refine w_putI ff_X9_15 rfl rfl rfl rfl dX9_append_39 ?_
  refine w_iconst (v := 1) dX9_append_42 (by decide) ?_
  exact w_ireturn dX9_append_43 rfl (rfl) rfl (⟨rfl, rfl⟩)

theorem c_appendF {I : xF4 Int32} {L : xF4 Int64} {g : gG} (hg : WG g) (hh : CH I g) {c : Int32} (hn : gTn g = 160) : Tri 0 109 m_X9_append [vR 10 0 0, vI (c)] (rM I L) (pI 0 I L) := by
  refine ⟨k_X9_append, Nat.le_of_ble_eq_true rfl, ?_⟩
  show Wp _ _ _ 0 [some (vR 10 0 0), some (vI (c))] [] (rM I L) _
  obtain ⟨hw, hd9, hgi, ht160, htb, hgs⟩ := id hg
  refine w_aload_n dX9_append_0 rfl ?_
  refine w_getI ff_X9_15 rfl rfl dX9_append_1 ?_
  rw [show (I 10 0 0 1 : Int32) = nI (gTn g) from hh.2.2.1]
  refine w_if_lt (tgt := 19) dX9_append_4 (by decide) (fun h1 => ?_) (fun h1 => ?_)
  · skip
    replace h1 : ((gTn g : Nat) : Int) < 0 := (zlt (z_nI (by omega)) (by decide)).mp h1
    first
    | (exfalso; omega)
    | skip
      refine w_iconst (v := 0) dX9_append_19 (by decide) ?_
      exact w_ireturn dX9_append_20 rfl (rfl) rfl (⟨rfl, rfl⟩)
  · skip
    replace h1 : ¬ (((gTn g : Nat) : Int) < 0) := fun q => h1 ((zlt (z_nI (by omega)) (by decide)).mpr q)
    first
    | (exfalso; omega)
    | skip
      refine w_aload_n dX9_append_7 rfl ?_
      refine w_getI ff_X9_15 rfl rfl dX9_append_8 ?_
      rw [show (I 10 0 0 1 : Int32) = nI (gTn g) from hh.2.2.1]
      refine w_aload_n dX9_append_11 rfl ?_
      refine w_getR (w := some (11, 0, 0)) ff_X9_9 rfl rfl dX9_append_12 rfl ?_
      refine w_alen (v := 160) rfl rfl dX9_append_15 ?_
      refine w_icmp_lt (tgt := 21) dX9_append_16 (by decide) (fun h2 => ?_) (fun h2 => ?_)
      · skip
        replace h2 : ((gTn g : Nat) : Int) < 160 := (zlt (z_nI (by omega)) (by decide)).mp h2
        first
        | (exfalso; omega)
        | skip
          exfalso
          omega
      · skip
        replace h2 : ¬ (((gTn g : Nat) : Int) < 160) := fun q => h2 ((zlt (z_nI (by omega)) (by decide)).mpr q)
        first
        | (exfalso; omega)
        | skip
          refine w_iconst (v := 0) dX9_append_19 (by decide) ?_
          exact w_ireturn dX9_append_20 rfl (rfl) rfl (⟨rfl, rfl⟩)

theorem p_feed {I : xF4 Int32} {L : xF4 Int64} {g : gG} (hg : WG g) (hh : CH I g) {c : Nat} (hc : c < 128) (hn : gTn g < 160) : Tri 19 109 m_X10_feed [vR 0 0 0, vI (nI c)] (rM I L) (pCl (vI (nI (gTn g + 1))) (setT g (gTn g + 1) (fun i => if i = gTn g then c else gTb g i)) I) := by
  refine ⟨k_X10_feed, Nat.le_of_ble_eq_true rfl, ?_⟩
  show Wp _ _ _ 0 [some (vR 0 0 0), some (vI (nI c))] [] (rM I L) _
  obtain ⟨hw, hd9, hgi, ht160, htb, hgs⟩ := id hg
  refine w_iload_n dX10_feed_0 rfl ?_
  refine w_if_lt (tgt := 10) dX10_feed_1 (by decide) (fun h1 => ?_) (fun h1 => ?_)
  · skip
    replace h1 : ((c : Nat) : Int) < 0 := (zlt (z_nI (by omega)) (by decide)).mp h1
    first
    | (exfalso; omega)
    | skip
      refine w_iconst (v := (-1)) dX10_feed_10 (by decide) ?_
      exact w_ireturn dX10_feed_11 rfl (rfl) rfl (⟨rfl, _, _, rfl, hh.tape (fun t b j s p q => (show xup (xup I 11 0 0 (gTn g) (nI c)) 10 0 0 1 (nI (gTn g + 1)) t b j s = I t b j s by unfold xup; rw [if_neg (by rintro ⟨rfl, rfl, rfl, rfl⟩; exact p ⟨rfl, rfl⟩), if_neg (by rintro ⟨rfl, rfl, rfl, rfl⟩; exact q rfl)])) xup_self (fun i hi => by
        rw [xup_tag (by decide)]
        by_cases e : i = gTn g
        · rw [e, xup_self, if_pos rfl]
        · rw [xup_slot e, if_neg e]; exact hh.2.2.2.1 i (by omega)), (Lo.up (by decide)).tr (Lo.up (by decide))⟩)
  · skip
    replace h1 : ¬ (((c : Nat) : Int) < 0) := fun q => h1 ((zlt (z_nI (by omega)) (by decide)).mpr q)
    first
    | (exfalso; omega)
    | skip
      refine w_iload_n dX10_feed_4 rfl ?_
      refine w_bipush (v := 127) dX10_feed_5 (by decide) ?_
      refine w_icmp_le (tgt := 12) dX10_feed_7 (by decide) (fun h2 => ?_) (fun h2 => ?_)
      · skip
        replace h2 : ((c : Nat) : Int) ≤ 127 := (zle (z_nI (by omega)) (by decide)).mp h2
        first
        | (exfalso; omega)
        | skip
          refine w_aload_n dX10_feed_12 rfl ?_
          refine w_getR (w := some (10, 0, 0)) ff_X10_29 rfl rfl dX10_feed_13 rfl ?_
          refine w_iload_n dX10_feed_16 rfl ?_
          refine w_callV (as := [vI (nI c)]) (st := []) (Tri.mono (c_append hg hh hc hn) (Nat.le_of_ble_eq_true rfl)) rfl rfl tg_X9_append lk_X10_65 in_X9_append se_X9_append rfl dX10_feed_17 rfl (Nat.le_of_ble_eq_true rfl) (Nat.le_refl _) (Nat.le_refl _) ?_
          rintro v M9 ⟨rfl, rfl⟩ -
          refine w_if_eq (tgt := 33) dX10_feed_20 (by decide) (fun h => absurd h (by decide)) (fun _ => ?_)
          refine w_aload_n dX10_feed_23 rfl ?_
          refine w_getR (w := some (10, 0, 0)) ff_X10_29 rfl rfl dX10_feed_24 rfl ?_
          refine w_getI ff_X10_69 rfl rfl dX10_feed_27 ?_
          rw [show ((xup (xup I 11 0 0 (gTn g) (nI c)) 10 0 0 1 (nI (gTn g + 1))) 10 0 0 1 : Int32) = nI (gTn g + 1) from xup_self]
          refine w_goto (tgt := 35) dX10_feed_30 (by decide) ?_
          exact w_ireturn dX10_feed_35 rfl (rfl) rfl (⟨rfl, _, _, rfl, hh.tape (fun t b j s p q => (show xup (xup I 11 0 0 (gTn g) (nI c)) 10 0 0 1 (nI (gTn g + 1)) t b j s = I t b j s by unfold xup; rw [if_neg (by rintro ⟨rfl, rfl, rfl, rfl⟩; exact p ⟨rfl, rfl⟩), if_neg (by rintro ⟨rfl, rfl, rfl, rfl⟩; exact q rfl)])) xup_self (fun i hi => by
            rw [xup_tag (by decide)]
            by_cases e : i = gTn g
            · rw [e, xup_self, if_pos rfl]
            · rw [xup_slot e, if_neg e]; exact hh.2.2.2.1 i (by omega)), (Lo.up (by decide)).tr (Lo.up (by decide))⟩)
      · skip
        replace h2 : ¬ (((c : Nat) : Int) ≤ 127) := fun q => h2 ((zle (z_nI (by omega)) (by decide)).mpr q)
        first
        | (exfalso; omega)
        | skip
          refine w_iconst (v := (-1)) dX10_feed_10 (by decide) ?_
          exact w_ireturn dX10_feed_11 rfl (rfl) rfl (⟨rfl, _, _, rfl, hh.tape (fun t b j s p q => (show xup (xup I 11 0 0 (gTn g) (nI c)) 10 0 0 1 (nI (gTn g + 1)) t b j s = I t b j s by unfold xup; rw [if_neg (by rintro ⟨rfl, rfl, rfl, rfl⟩; exact p ⟨rfl, rfl⟩), if_neg (by rintro ⟨rfl, rfl, rfl, rfl⟩; exact q rfl)])) xup_self (fun i hi => by
            rw [xup_tag (by decide)]
            by_cases e : i = gTn g
            · rw [e, xup_self, if_pos rfl]
            · rw [xup_slot e, if_neg e]; exact hh.2.2.2.1 i (by omega)), (Lo.up (by decide)).tr (Lo.up (by decide))⟩)

theorem q_feed {I : xF4 Int32} {L : xF4 Int64} {g : gG} (hg : WG g) (hh : MH I g) {c : Nat} (hc : c < 128) (hn : gTn g < 160) : Tri 19 109 m_X11_feed [vR 30 0 0, vI (nI c)] (rM I L) (pMo (vI (nI (gTn g + 1))) (setT g (gTn g + 1) (fun i => if i = gTn g then c else gTb g i)) I) := by
  refine ⟨k_X11_feed, Nat.le_of_ble_eq_true rfl, ?_⟩
  show Wp _ _ _ 0 [some (vR 30 0 0), some (vI (nI c))] [] (rM I L) _
  obtain ⟨hw, hd9, hgi, ht160, htb, hgs⟩ := id hg
  refine w_iload_n dX11_feed_0 rfl ?_
  refine w_i2l dX11_feed_1 ?_
  refine w_lconst (v := 0) dX11_feed_2 (by decide) ?_
  refine w_ldc2 dX11_feed_3 cq_X11_64 ?_
  refine w_callS (as := [vL ((nI c : Int32).toInt64), vL (0), vL (127)]) (st := []) (Tri.mono (d_in ((nI c : Int32).toInt64) (0) (127)) (Nat.le_of_ble_eq_true rfl)) tg_X11_in lk_X11_66 sa_X11_in rfl dX11_feed_6 rfl (Nat.le_of_ble_eq_true rfl) (Nat.le_refl _) (Nat.le_refl _) ?_
  rintro _ _ ⟨rfl, rfl⟩ -
  refine w_top (y := bI (0 ≤ ((c : Nat) : Int) ∧ ((c : Nat) : Int) ≤ 127)) (show (bI ((0 : Int64) ≤ ((nI c : Int32).toInt64) ∧ ((nI c : Int32).toInt64) ≤ (127 : Int64)) : Int32) = bI (0 ≤ ((c : Nat) : Int) ∧ ((c : Nat) : Int) ≤ 127) from inZ (x := nI c) (l := 0) (h := 127) (X := ((c : Nat) : Int)) (A := 0) (B := 127) rfl (by decide) (by decide) (z_nI (by omega)) (by decide) (by decide)) ?_
  refine w_ifne_b (tgt := 14) dX11_feed_9 (by decide) (fun h1 => ?_) (fun h1 => ?_)
  · skip
    first
    | (exfalso; omega)
    | skip
      refine w_aload_n dX11_feed_14 rfl ?_
      refine w_getI ff_X11_70 rfl rfl dX11_feed_15 ?_
      rw [show (I 30 0 0 10 : Int32) = nI (gTn g) from hh.2.2.1]
      refine w_sipush (v := 160) dX11_feed_18 (by decide) ?_
      refine w_icmp_ne (tgt := 27) dX11_feed_21 (by decide) (fun h2 => ?_) (fun h2 => ?_)
      · skip
        replace h2 : ¬ (((gTn g : Nat) : Int) = 160) := fun q => h2 ((zeq (z_nI (by omega)) (by decide)).mpr q)
        first
        | (exfalso; omega)
        | skip
          refine w_aload_n dX11_feed_27 rfl ?_
          refine w_getR (w := some (35, 0, 0)) ff_X11_23 rfl rfl dX11_feed_28 rfl ?_
          refine w_aload_n dX11_feed_31 rfl ?_
          refine w_getI ff_X11_70 rfl rfl dX11_feed_32 ?_
          rw [show (I 30 0 0 10 : Int32) = nI (gTn g) from hh.2.2.1]
          refine w_iload_n dX11_feed_35 rfl ?_
          refine w_iastore (a := gTn g) rfl (vp_in_nI (n := gTn g) (by omega) (by omega)) (nI_clamp (n := gTn g) (by omega)) dX11_feed_36 ?_
          refine w_aload_n dX11_feed_37 rfl ?_
          refine w_dup dX11_feed_38 rfl ?_
          refine w_getI ff_X11_70 rfl rfl dX11_feed_39 ?_
          rw [show ((xup I 35 0 0 (gTn g) (nI c)) 30 0 0 10 : Int32) = nI (gTn g) from (xup_tag (by decide)).trans hh.2.2.1]
          refine w_iconst (v := 1) dX11_feed_42 (by decide) ?_
          refine w_iadd dX11_feed_43 ?_
          rw [show ((nI (gTn g)) + (1) : Int32) = nI ((gTn g) + 1) from ar_add (p := gTn g) (q := 1) rfl rfl (by omega)]
          refine w_putI ff_X11_70 rfl rfl rfl rfl dX11_feed_44 ?_
          refine w_aload_n dX11_feed_47 rfl ?_
          refine w_getI ff_X11_70 rfl rfl dX11_feed_48 ?_
          rw [show ((xup (xup I 35 0 0 (gTn g) (nI c)) 30 0 0 10 (nI ((gTn g) + 1))) 30 0 0 10 : Int32) = nI (gTn g + 1) from xup_self]
          exact w_ireturn dX11_feed_51 rfl (rfl) rfl (⟨rfl, _, _, rfl, hh.tape (fun t b j s p q => (show xup (xup I 35 0 0 (gTn g) (nI c)) 30 0 0 10 (nI (gTn g + 1)) t b j s = I t b j s by unfold xup; rw [if_neg (by rintro ⟨rfl, rfl, rfl, rfl⟩; exact p ⟨rfl, rfl⟩), if_neg (by rintro ⟨rfl, rfl, rfl, rfl⟩; exact q rfl)])) xup_self (fun i hi => by
            rw [xup_tag (by decide)]
            by_cases e : i = gTn g
            · rw [e, xup_self, if_pos rfl]
            · rw [xup_slot e, if_neg e]; exact hh.2.2.2.1 i (by omega)), (Hi.up (by decide)).tr (Hi.up (by decide))⟩)
      · skip
        replace h2 : ((gTn g : Nat) : Int) = 160 := (zeq (z_nI (by omega)) (by decide)).mp h2
        first
        | (exfalso; omega)
        | skip
          refine w_bipush (v := (-3)) dX11_feed_24 (by decide) ?_
          exact w_ireturn dX11_feed_26 rfl (rfl) rfl (⟨rfl, _, _, rfl, hh.tape (fun t b j s p q => (show xup (xup I 35 0 0 (gTn g) (nI c)) 30 0 0 10 (nI (gTn g + 1)) t b j s = I t b j s by unfold xup; rw [if_neg (by rintro ⟨rfl, rfl, rfl, rfl⟩; exact p ⟨rfl, rfl⟩), if_neg (by rintro ⟨rfl, rfl, rfl, rfl⟩; exact q rfl)])) xup_self (fun i hi => by
            rw [xup_tag (by decide)]
            by_cases e : i = gTn g
            · rw [e, xup_self, if_pos rfl]
            · rw [xup_slot e, if_neg e]; exact hh.2.2.2.1 i (by omega)), (Hi.up (by decide)).tr (Hi.up (by decide))⟩)
  · skip
    first
    | (exfalso; omega)
    | skip
      refine w_iconst (v := (-1)) dX11_feed_12 (by decide) ?_
      exact w_ireturn dX11_feed_13 rfl (rfl) rfl (⟨rfl, _, _, rfl, hh.tape (fun t b j s p q => (show xup (xup I 35 0 0 (gTn g) (nI c)) 30 0 0 10 (nI (gTn g + 1)) t b j s = I t b j s by unfold xup; rw [if_neg (by rintro ⟨rfl, rfl, rfl, rfl⟩; exact p ⟨rfl, rfl⟩), if_neg (by rintro ⟨rfl, rfl, rfl, rfl⟩; exact q rfl)])) xup_self (fun i hi => by
        rw [xup_tag (by decide)]
        by_cases e : i = gTn g
        · rw [e, xup_self, if_pos rfl]
        · rw [xup_slot e, if_neg e]; exact hh.2.2.2.1 i (by omega)), (Hi.up (by decide)).tr (Hi.up (by decide))⟩)

theorem p_feed_f {I : xF4 Int32} {L : xF4 Int64} {g : gG} (hg : WG g) (hh : CH I g) {c : Nat} (hc : c < 128) (hn : gTn g = 160) : Tri 19 109 m_X10_feed [vR 0 0 0, vI (nI c)] (rM I L) (pCq (vI (-3)) I) := by
  refine ⟨k_X10_feed, Nat.le_of_ble_eq_true rfl, ?_⟩
  show Wp _ _ _ 0 [some (vR 0 0 0), some (vI (nI c))] [] (rM I L) _
  obtain ⟨hw, hd9, hgi, ht160, htb, hgs⟩ := id hg
  obtain ⟨hJ, hC, hG, hD, hR, -⟩ := id hw
  refine w_iload_n dX10_feed_0 rfl ?_
  refine w_if_lt (tgt := 10) dX10_feed_1 (by decide) (fun h1 => ?_) (fun h1 => ?_)
  · skip
    replace h1 : ((c : Nat) : Int) < 0 := (zlt (z_nI (by omega)) (by decide)).mp h1
    first
    | (exfalso; omega)
    | skip
      refine w_iconst (v := (-1)) dX10_feed_10 (by decide) ?_
      exact w_ireturn dX10_feed_11 rfl (rfl) rfl (⟨rfl, _, _, rfl, FrQ.rf⟩)
  · skip
    replace h1 : ¬ (((c : Nat) : Int) < 0) := fun q => h1 ((zlt (z_nI (by omega)) (by decide)).mpr q)
    first
    | (exfalso; omega)
    | skip
      refine w_iload_n dX10_feed_4 rfl ?_
      refine w_bipush (v := 127) dX10_feed_5 (by decide) ?_
      refine w_icmp_le (tgt := 12) dX10_feed_7 (by decide) (fun h2 => ?_) (fun h2 => ?_)
      · skip
        replace h2 : ((c : Nat) : Int) ≤ 127 := (zle (z_nI (by omega)) (by decide)).mp h2
        first
        | (exfalso; omega)
        | skip
          refine w_aload_n dX10_feed_12 rfl ?_
          refine w_getR (w := some (10, 0, 0)) ff_X10_29 rfl rfl dX10_feed_13 rfl ?_
          refine w_iload_n dX10_feed_16 rfl ?_
          refine w_callV (as := [vI (nI c)]) (st := []) (Tri.mono (c_appendF hg hh (c := nI c) hn) (Nat.le_of_ble_eq_true rfl)) rfl rfl tg_X9_append lk_X10_65 in_X9_append se_X9_append rfl dX10_feed_17 rfl (Nat.le_of_ble_eq_true rfl) (Nat.le_refl _) (Nat.le_refl _) ?_
          rintro _ _ ⟨rfl, rfl⟩ -
          refine w_if_eq (tgt := 33) dX10_feed_20 (by decide) (fun _ => ?_) (fun h => absurd (by decide) h)
          refine w_bipush (v := (-3)) dX10_feed_33 (by decide) ?_
          exact w_ireturn dX10_feed_35 rfl (rfl) rfl (⟨rfl, _, _, rfl, FrQ.rf⟩)
      · skip
        replace h2 : ¬ (((c : Nat) : Int) ≤ 127) := fun q => h2 ((zle (z_nI (by omega)) (by decide)).mpr q)
        first
        | (exfalso; omega)
        | skip
          refine w_iconst (v := (-1)) dX10_feed_10 (by decide) ?_
          exact w_ireturn dX10_feed_11 rfl (rfl) rfl (⟨rfl, _, _, rfl, FrQ.rf⟩)

theorem q_feed_f {I : xF4 Int32} {L : xF4 Int64} {g : gG} (hg : WG g) (hh : MH I g) {c : Nat} (hc : c < 128) (hn : gTn g = 160) : Tri 19 109 m_X11_feed [vR 30 0 0, vI (nI c)] (rM I L) (pMq (vI (-3)) I) := by
  refine ⟨k_X11_feed, Nat.le_of_ble_eq_true rfl, ?_⟩
  show Wp _ _ _ 0 [some (vR 30 0 0), some (vI (nI c))] [] (rM I L) _
  obtain ⟨hw, hd9, hgi, ht160, htb, hgs⟩ := id hg
  obtain ⟨hJ, hC, hG, hD, hR, -⟩ := id hw
  refine w_iload_n dX11_feed_0 rfl ?_
  refine w_i2l dX11_feed_1 ?_
  refine w_lconst (v := 0) dX11_feed_2 (by decide) ?_
  refine w_ldc2 dX11_feed_3 cq_X11_64 ?_
  refine w_callS (as := [vL ((nI c : Int32).toInt64), vL (0), vL (127)]) (st := []) (Tri.mono (d_in ((nI c : Int32).toInt64) (0) (127)) (Nat.le_of_ble_eq_true rfl)) tg_X11_in lk_X11_66 sa_X11_in rfl dX11_feed_6 rfl (Nat.le_of_ble_eq_true rfl) (Nat.le_refl _) (Nat.le_refl _) ?_
  rintro _ _ ⟨rfl, rfl⟩ -
  refine w_top (y := bI (0 ≤ ((c : Nat) : Int) ∧ ((c : Nat) : Int) ≤ 127)) (show (bI ((0 : Int64) ≤ ((nI c : Int32).toInt64) ∧ ((nI c : Int32).toInt64) ≤ (127 : Int64)) : Int32) = bI (0 ≤ ((c : Nat) : Int) ∧ ((c : Nat) : Int) ≤ 127) from inZ (x := nI c) (l := 0) (h := 127) (X := ((c : Nat) : Int)) (A := 0) (B := 127) rfl (by decide) (by decide) (z_nI (by omega)) (by decide) (by decide)) ?_
  refine w_ifne_b (tgt := 14) dX11_feed_9 (by decide) (fun h1 => ?_) (fun h1 => ?_)
  · skip
    first
    | (exfalso; omega)
    | skip
      refine w_aload_n dX11_feed_14 rfl ?_
      refine w_getI ff_X11_70 rfl rfl dX11_feed_15 ?_
      rw [show (I 30 0 0 10 : Int32) = nI (gTn g) from hh.2.2.1]
      refine w_sipush (v := 160) dX11_feed_18 (by decide) ?_
      refine w_icmp_ne (tgt := 27) dX11_feed_21 (by decide) (fun h2 => ?_) (fun h2 => ?_)
      · skip
        replace h2 : ¬ (((gTn g : Nat) : Int) = 160) := fun q => h2 ((zeq (z_nI (by omega)) (by decide)).mpr q)
        first
        | (exfalso; omega)
        | skip
          exfalso
          omega
      · skip
        replace h2 : ((gTn g : Nat) : Int) = 160 := (zeq (z_nI (by omega)) (by decide)).mp h2
        first
        | (exfalso; omega)
        | skip
          refine w_bipush (v := (-3)) dX11_feed_24 (by decide) ?_
          exact w_ireturn dX11_feed_26 rfl (rfl) rfl (⟨rfl, _, _, rfl, FrR.rf⟩)
  · skip
    first
    | (exfalso; omega)
    | skip
      refine w_iconst (v := (-1)) dX11_feed_12 (by decide) ?_
      exact w_ireturn dX11_feed_13 rfl (rfl) rfl (⟨rfl, _, _, rfl, FrR.rf⟩)

theorem p_feed_c {I : xF4 Int32} {L : xF4 Int64} {g : gG} (hg : WG g) (hh : CH I g) {c : Int32} (hx : c.toInt < 0 ∨ 127 < c.toInt) : Tri 19 109 m_X10_feed [vR 0 0 0, vI (c)] (rM I L) (pCq (vI (-1)) I) := by
  refine ⟨k_X10_feed, Nat.le_of_ble_eq_true rfl, ?_⟩
  show Wp _ _ _ 0 [some (vR 0 0 0), some (vI (c))] [] (rM I L) _
  obtain ⟨hw, hd9, hgi, ht160, htb, hgs⟩ := id hg
  obtain ⟨hJ, hC, hG, hD, hR, -⟩ := id hw
  refine w_iload_n dX10_feed_0 rfl ?_
  refine w_if_lt (tgt := 10) dX10_feed_1 (by decide) (fun h1 => ?_) (fun h1 => ?_)
  · skip
    replace h1 : c.toInt < 0 := (zlt rfl (by decide)).mp h1
    first
    | (exfalso; omega)
    | skip
      refine w_iconst (v := (-1)) dX10_feed_10 (by decide) ?_
      exact w_ireturn dX10_feed_11 rfl (rfl) rfl (⟨rfl, _, _, rfl, FrQ.rf⟩)
  · skip
    replace h1 : ¬ (c.toInt < 0) := fun q => h1 ((zlt rfl (by decide)).mpr q)
    first
    | (exfalso; omega)
    | skip
      refine w_iload_n dX10_feed_4 rfl ?_
      refine w_bipush (v := 127) dX10_feed_5 (by decide) ?_
      refine w_icmp_le (tgt := 12) dX10_feed_7 (by decide) (fun h2 => ?_) (fun h2 => ?_)
      · skip
        replace h2 : c.toInt ≤ 127 := (zle rfl (by decide)).mp h2
        first
        | (exfalso; omega)
        | skip
          exfalso
          omega
      · skip
        replace h2 : ¬ (c.toInt ≤ 127) := fun q => h2 ((zle rfl (by decide)).mpr q)
        first
        | (exfalso; omega)
        | skip
          refine w_iconst (v := (-1)) dX10_feed_10 (by decide) ?_
          exact w_ireturn dX10_feed_11 rfl (rfl) rfl (⟨rfl, _, _, rfl, FrQ.rf⟩)

theorem q_feed_c {I : xF4 Int32} {L : xF4 Int64} {g : gG} (hg : WG g) (hh : MH I g) {c : Int32} (hx : c.toInt < 0 ∨ 127 < c.toInt) : Tri 19 109 m_X11_feed [vR 30 0 0, vI (c)] (rM I L) (pMq (vI (-1)) I) := by
  refine ⟨k_X11_feed, Nat.le_of_ble_eq_true rfl, ?_⟩
  show Wp _ _ _ 0 [some (vR 30 0 0), some (vI (c))] [] (rM I L) _
  obtain ⟨hw, hd9, hgi, ht160, htb, hgs⟩ := id hg
  obtain ⟨hJ, hC, hG, hD, hR, -⟩ := id hw
  refine w_iload_n dX11_feed_0 rfl ?_
  refine w_i2l dX11_feed_1 ?_
  refine w_lconst (v := 0) dX11_feed_2 (by decide) ?_
  refine w_ldc2 dX11_feed_3 cq_X11_64 ?_
  refine w_callS (as := [vL ((c : Int32).toInt64), vL (0), vL (127)]) (st := []) (Tri.mono (d_in ((c : Int32).toInt64) (0) (127)) (Nat.le_of_ble_eq_true rfl)) tg_X11_in lk_X11_66 sa_X11_in rfl dX11_feed_6 rfl (Nat.le_of_ble_eq_true rfl) (Nat.le_refl _) (Nat.le_refl _) ?_
  rintro _ _ ⟨rfl, rfl⟩ -
  refine w_top (y := bI (0 ≤ c.toInt ∧ c.toInt ≤ 127)) (show (bI ((0 : Int64) ≤ ((c : Int32).toInt64) ∧ ((c : Int32).toInt64) ≤ (127 : Int64)) : Int32) = bI (0 ≤ c.toInt ∧ c.toInt ≤ 127) from inZ (x := c) (l := 0) (h := 127) (X := c.toInt) (A := 0) (B := 127) rfl (by decide) (by decide) rfl (by decide) (by decide)) ?_
  refine w_ifne_b (tgt := 14) dX11_feed_9 (by decide) (fun h1 => ?_) (fun h1 => ?_)
  · skip
    first
    | (exfalso; omega)
    | skip
      exfalso
      omega
  · skip
    first
    | (exfalso; omega)
    | skip
      refine w_iconst (v := (-1)) dX11_feed_12 (by decide) ?_
      exact w_ireturn dX11_feed_13 rfl (rfl) rfl (⟨rfl, _, _, rfl, FrR.rf⟩)

theorem p_end {I : xF4 Int32} {L : xF4 Int64} {g : gG} (hg : WG g) (hh : CH I g) {n : Nat} (hn : n ≤ gTn g) : Tri 19 109 m_X10_end [vR 0 0 0, vI (nI n)] (rM I L) (pCl (vI (nI (gTn g))) (setT g n (gTb g)) I) := by
  refine ⟨k_X10_end, Nat.le_of_ble_eq_true rfl, ?_⟩
  show Wp _ _ _ 0 [some (vR 0 0 0), some (vI (nI n)), none] [] (rM I L) _
  obtain ⟨hw, hd9, hgi, ht160, htb, hgs⟩ := id hg
  refine w_aload_n dX10_end_0 rfl ?_
  refine w_getR (w := some (10, 0, 0)) ff_X10_29 rfl rfl dX10_end_1 rfl ?_
  refine w_getI ff_X10_69 rfl rfl dX10_end_4 ?_
  rw [show (I 10 0 0 1 : Int32) = nI (gTn g) from hh.2.2.1]
  refine w_istore_n (ls' := [some (vR 0 0 0), some (vI (nI n)), some (vI (nI (gTn g)))]) dX10_end_7 rfl ?_
  refine w_iload_n dX10_end_8 rfl ?_
  refine w_if_lt (tgt := 17) dX10_end_9 (by decide) (fun h1 => ?_) (fun h1 => ?_)
  · skip
    replace h1 : ((n : Nat) : Int) < 0 := (zlt (z_nI (by omega)) (by decide)).mp h1
    first
    | (exfalso; omega)
    | skip
      refine w_iconst (v := (-1)) dX10_end_17 (by decide) ?_
      exact w_ireturn dX10_end_18 rfl (rfl) rfl (⟨rfl, _, _, rfl, hh.tape (fun t b j s p q => (show xup I 10 0 0 1 (nI n) t b j s = I t b j s by unfold xup; rw [if_neg (by rintro ⟨rfl, rfl, rfl, rfl⟩; exact p ⟨rfl, rfl⟩)])) xup_self (fun i hi => (xup_tag (by decide)).trans (hh.2.2.2.1 i (by omega))), Lo.up (by decide)⟩)
  · skip
    replace h1 : ¬ (((n : Nat) : Int) < 0) := fun q => h1 ((zlt (z_nI (by omega)) (by decide)).mpr q)
    first
    | (exfalso; omega)
    | skip
      refine w_iload_n dX10_end_12 rfl ?_
      refine w_iload_n dX10_end_13 rfl ?_
      refine w_icmp_le (tgt := 19) dX10_end_14 (by decide) (fun h2 => ?_) (fun h2 => ?_)
      · skip
        replace h2 : ((n : Nat) : Int) ≤ ((gTn g : Nat) : Int) := (zle (z_nI (by omega)) (z_nI (by omega))).mp h2
        first
        | (exfalso; omega)
        | skip
          refine w_aload_n dX10_end_19 rfl ?_
          refine w_getR (w := some (10, 0, 0)) ff_X10_29 rfl rfl dX10_end_20 rfl ?_
          refine w_iload_n dX10_end_23 rfl ?_
          refine w_putI ff_X10_69 rfl rfl rfl rfl dX10_end_24 ?_
          refine w_iload_n dX10_end_27 rfl ?_
          exact w_ireturn dX10_end_28 rfl (rfl) rfl (⟨rfl, _, _, rfl, hh.tape (fun t b j s p q => (show xup I 10 0 0 1 (nI n) t b j s = I t b j s by unfold xup; rw [if_neg (by rintro ⟨rfl, rfl, rfl, rfl⟩; exact p ⟨rfl, rfl⟩)])) xup_self (fun i hi => (xup_tag (by decide)).trans (hh.2.2.2.1 i (by omega))), Lo.up (by decide)⟩)
      · skip
        replace h2 : ¬ (((n : Nat) : Int) ≤ ((gTn g : Nat) : Int)) := fun q => h2 ((zle (z_nI (by omega)) (z_nI (by omega))).mpr q)
        first
        | (exfalso; omega)
        | skip
          refine w_iconst (v := (-1)) dX10_end_17 (by decide) ?_
          exact w_ireturn dX10_end_18 rfl (rfl) rfl (⟨rfl, _, _, rfl, hh.tape (fun t b j s p q => (show xup I 10 0 0 1 (nI n) t b j s = I t b j s by unfold xup; rw [if_neg (by rintro ⟨rfl, rfl, rfl, rfl⟩; exact p ⟨rfl, rfl⟩)])) xup_self (fun i hi => (xup_tag (by decide)).trans (hh.2.2.2.1 i (by omega))), Lo.up (by decide)⟩)

theorem q_end {I : xF4 Int32} {L : xF4 Int64} {g : gG} (hg : WG g) (hh : MH I g) {n : Nat} (hn : n ≤ gTn g) : Tri 19 109 m_X11_end [vR 30 0 0, vI (nI n)] (rM I L) (pMo (vI (nI (gTn g))) (setT g n (gTb g)) I) := by
  refine ⟨k_X11_end, Nat.le_of_ble_eq_true rfl, ?_⟩
  show Wp _ _ _ 0 [some (vR 30 0 0), some (vI (nI n)), none] [] (rM I L) _
  obtain ⟨hw, hd9, hgi, ht160, htb, hgs⟩ := id hg
  refine w_iload_n dX11_end_0 rfl ?_
  refine w_i2l dX11_end_1 ?_
  refine w_lconst (v := 0) dX11_end_2 (by decide) ?_
  refine w_aload_n dX11_end_3 rfl ?_
  refine w_getI ff_X11_70 rfl rfl dX11_end_4 ?_
  rw [show (I 30 0 0 10 : Int32) = nI (gTn g) from hh.2.2.1]
  refine w_i2l dX11_end_7 ?_
  refine w_callS (as := [vL ((nI n : Int32).toInt64), vL (0), vL ((nI (gTn g) : Int32).toInt64)]) (st := []) (Tri.mono (d_in ((nI n : Int32).toInt64) (0) ((nI (gTn g) : Int32).toInt64)) (Nat.le_of_ble_eq_true rfl)) tg_X11_in lk_X11_66 sa_X11_in rfl dX11_end_8 rfl (Nat.le_of_ble_eq_true rfl) (Nat.le_refl _) (Nat.le_refl _) ?_
  rintro _ _ ⟨rfl, rfl⟩ -
  refine w_top (y := bI (0 ≤ ((n : Nat) : Int) ∧ ((n : Nat) : Int) ≤ ((gTn g : Nat) : Int))) (show (bI ((0 : Int64) ≤ ((nI n : Int32).toInt64) ∧ ((nI n : Int32).toInt64) ≤ ((nI (gTn g) : Int32).toInt64)) : Int32) = bI (0 ≤ ((n : Nat) : Int) ∧ ((n : Nat) : Int) ≤ ((gTn g : Nat) : Int)) from inZ (x := nI n) (l := 0) (h := nI (gTn g)) (X := ((n : Nat) : Int)) (A := 0) (B := ((gTn g : Nat) : Int)) rfl (by decide) rfl (z_nI (by omega)) (by decide) (z_nI (by omega))) ?_
  refine w_ifne_b (tgt := 16) dX11_end_11 (by decide) (fun h1 => ?_) (fun h1 => ?_)
  · skip
    first
    | (exfalso; omega)
    | skip
      refine w_aload_n dX11_end_16 rfl ?_
      refine w_getI ff_X11_70 rfl rfl dX11_end_17 ?_
      rw [show (I 30 0 0 10 : Int32) = nI (gTn g) from hh.2.2.1]
      refine w_istore_n (ls' := [some (vR 30 0 0), some (vI (nI n)), some (vI (nI (gTn g)))]) dX11_end_20 rfl ?_
      refine w_aload_n dX11_end_21 rfl ?_
      refine w_iload_n dX11_end_22 rfl ?_
      refine w_putI ff_X11_70 rfl rfl rfl rfl dX11_end_23 ?_
      refine w_iload_n dX11_end_26 rfl ?_
      exact w_ireturn dX11_end_27 rfl (rfl) rfl (⟨rfl, _, _, rfl, hh.tape (fun t b j s p q => (show xup I 30 0 0 10 (nI n) t b j s = I t b j s by unfold xup; rw [if_neg (by rintro ⟨rfl, rfl, rfl, rfl⟩; exact p ⟨rfl, rfl⟩)])) xup_self (fun i hi => (xup_tag (by decide)).trans (hh.2.2.2.1 i (by omega))), Hi.up (by decide)⟩)
  · skip
    first
    | (exfalso; omega)
    | skip
      refine w_iconst (v := (-1)) dX11_end_14 (by decide) ?_
      exact w_ireturn dX11_end_15 rfl (rfl) rfl (⟨rfl, _, _, rfl, hh.tape (fun t b j s p q => (show xup I 30 0 0 10 (nI n) t b j s = I t b j s by unfold xup; rw [if_neg (by rintro ⟨rfl, rfl, rfl, rfl⟩; exact p ⟨rfl, rfl⟩)])) xup_self (fun i hi => (xup_tag (by decide)).trans (hh.2.2.2.1 i (by omega))), Hi.up (by decide)⟩)

theorem p_end_n {I : xF4 Int32} {L : xF4 Int64} {g : gG} (hg : WG g) (hh : CH I g) {n : Int32} (hx : n.toInt < 0 ∨ ((gTn g : Nat) : Int) < n.toInt) : Tri 19 109 m_X10_end [vR 0 0 0, vI (n)] (rM I L) (pCq (vI (-1)) I) := by
  refine ⟨k_X10_end, Nat.le_of_ble_eq_true rfl, ?_⟩
  show Wp _ _ _ 0 [some (vR 0 0 0), some (vI (n)), none] [] (rM I L) _
  obtain ⟨hw, hd9, hgi, ht160, htb, hgs⟩ := id hg
  obtain ⟨hJ, hC, hG, hD, hR, -⟩ := id hw
  refine w_aload_n dX10_end_0 rfl ?_
  refine w_getR (w := some (10, 0, 0)) ff_X10_29 rfl rfl dX10_end_1 rfl ?_
  refine w_getI ff_X10_69 rfl rfl dX10_end_4 ?_
  rw [show (I 10 0 0 1 : Int32) = nI (gTn g) from hh.2.2.1]
  refine w_istore_n (ls' := [some (vR 0 0 0), some (vI (n)), some (vI (nI (gTn g)))]) dX10_end_7 rfl ?_
  refine w_iload_n dX10_end_8 rfl ?_
  refine w_if_lt (tgt := 17) dX10_end_9 (by decide) (fun h1 => ?_) (fun h1 => ?_)
  · skip
    replace h1 : n.toInt < 0 := (zlt rfl (by decide)).mp h1
    first
    | (exfalso; omega)
    | skip
      refine w_iconst (v := (-1)) dX10_end_17 (by decide) ?_
      exact w_ireturn dX10_end_18 rfl (rfl) rfl (⟨rfl, _, _, rfl, FrQ.rf⟩)
  · skip
    replace h1 : ¬ (n.toInt < 0) := fun q => h1 ((zlt rfl (by decide)).mpr q)
    first
    | (exfalso; omega)
    | skip
      refine w_iload_n dX10_end_12 rfl ?_
      refine w_iload_n dX10_end_13 rfl ?_
      refine w_icmp_le (tgt := 19) dX10_end_14 (by decide) (fun h2 => ?_) (fun h2 => ?_)
      · skip
        replace h2 : n.toInt ≤ ((gTn g : Nat) : Int) := (zle rfl (z_nI (by omega))).mp h2
        first
        | (exfalso; omega)
        | skip
          exfalso
          omega
      · skip
        replace h2 : ¬ (n.toInt ≤ ((gTn g : Nat) : Int)) := fun q => h2 ((zle rfl (z_nI (by omega))).mpr q)
        first
        | (exfalso; omega)
        | skip
          refine w_iconst (v := (-1)) dX10_end_17 (by decide) ?_
          exact w_ireturn dX10_end_18 rfl (rfl) rfl (⟨rfl, _, _, rfl, FrQ.rf⟩)

theorem q_end_n {I : xF4 Int32} {L : xF4 Int64} {g : gG} (hg : WG g) (hh : MH I g) {n : Int32} (hx : n.toInt < 0 ∨ ((gTn g : Nat) : Int) < n.toInt) : Tri 19 109 m_X11_end [vR 30 0 0, vI (n)] (rM I L) (pMq (vI (-1)) I) := by
  refine ⟨k_X11_end, Nat.le_of_ble_eq_true rfl, ?_⟩
  show Wp _ _ _ 0 [some (vR 30 0 0), some (vI (n)), none] [] (rM I L) _
  obtain ⟨hw, hd9, hgi, ht160, htb, hgs⟩ := id hg
  obtain ⟨hJ, hC, hG, hD, hR, -⟩ := id hw
  refine w_iload_n dX11_end_0 rfl ?_
  refine w_i2l dX11_end_1 ?_
  refine w_lconst (v := 0) dX11_end_2 (by decide) ?_
  refine w_aload_n dX11_end_3 rfl ?_
  refine w_getI ff_X11_70 rfl rfl dX11_end_4 ?_
  rw [show (I 30 0 0 10 : Int32) = nI (gTn g) from hh.2.2.1]
  refine w_i2l dX11_end_7 ?_
  refine w_callS (as := [vL ((n : Int32).toInt64), vL (0), vL ((nI (gTn g) : Int32).toInt64)]) (st := []) (Tri.mono (d_in ((n : Int32).toInt64) (0) ((nI (gTn g) : Int32).toInt64)) (Nat.le_of_ble_eq_true rfl)) tg_X11_in lk_X11_66 sa_X11_in rfl dX11_end_8 rfl (Nat.le_of_ble_eq_true rfl) (Nat.le_refl _) (Nat.le_refl _) ?_
  rintro _ _ ⟨rfl, rfl⟩ -
  refine w_top (y := bI (0 ≤ n.toInt ∧ n.toInt ≤ ((gTn g : Nat) : Int))) (show (bI ((0 : Int64) ≤ ((n : Int32).toInt64) ∧ ((n : Int32).toInt64) ≤ ((nI (gTn g) : Int32).toInt64)) : Int32) = bI (0 ≤ n.toInt ∧ n.toInt ≤ ((gTn g : Nat) : Int)) from inZ (x := n) (l := 0) (h := nI (gTn g)) (X := n.toInt) (A := 0) (B := ((gTn g : Nat) : Int)) rfl (by decide) rfl rfl (by decide) (z_nI (by omega))) ?_
  refine w_ifne_b (tgt := 16) dX11_end_11 (by decide) (fun h1 => ?_) (fun h1 => ?_)
  · skip
    first
    | (exfalso; omega)
    | skip
      exfalso
      omega
  · skip
    first
    | (exfalso; omega)
    | skip
      refine w_iconst (v := (-1)) dX11_end_14 (by decide) ?_
      exact w_ireturn dX11_end_15 rfl (rfl) rfl (⟨rfl, _, _, rfl, FrR.rf⟩)

theorem xup_ne9 {I : xF4 Int32} {t k b j s s' : Nat} {v : Int32} (h : ¬ (t = 9 ∧ b = k)) : xup I 9 k 0 s' v t b j s = I t b j s := by
  unfold xup
  rw [if_neg]
  rintro ⟨rfl, rfl, -, -⟩
  exact h ⟨rfl, rfl⟩
def keptI : Option aA → Int32
  | none => 0
  | some _ => 1

theorem l_copies {I0 : xF4 Int32} {L : xF4 Int64} {to src : Nat} (h1 : to + 76 ≤ 228) (h2 : src + 76 ≤ 228) (hd : to + 76 ≤ src ∨ src + 76 ≤ to) : ∀ (m k : Nat) (I : xF4 Int32), k + m = 76 → (∀ x, x < k → I 31 0 0 (to + x) = I0 31 0 0 (src + x)) → (∀ t b j s, ¬ (t = 31 ∧ to ≤ s ∧ s < to + 76) → I t b j s = I0 t b j s) → Wp 0 109 m_X11_copies 2 [some (vR 30 0 0), some (vI (nI to)), some (vI (nI src)), some (vI (nI k))] [] (rM I L) (fun v M => v = none ∧ ∃ I', M = rM I' L ∧ (∀ x, x < 76 → I' 31 0 0 (to + x) = I0 31 0 0 (src + x)) ∧ ∀ t b j s, ¬ (t = 31 ∧ to ≤ s ∧ s < to + 76) → I' t b j s = I0 t b j s) := by
  intro m
  induction m with
  | zero =>
    intro k I hk hc hf
    have e : k = 76 := by omega
    subst e
    refine w_iload_n dX11_copies_2 rfl ?_
    refine w_bipush (v := 76) dX11_copies_3 (by decide) ?_
    refine w_icmp_ge (tgt := 30) dX11_copies_5 (by decide) (fun _ => ?_) (fun h => absurd (by decide) h)
    exact w_return dX11_copies_30 rfl rfl (⟨rfl, I, rfl, hc, hf⟩)
  | succ m ih =>
    intro k I hk hc hf
    have hlt : k < 76 := by omega
    refine w_iload_n dX11_copies_2 rfl ?_
    refine w_bipush (v := 76) dX11_copies_3 (by decide) ?_
    refine w_icmp_ge (tgt := 30) dX11_copies_5 (by decide) (fun h => absurd h (nI_ge (b := 76) hlt (by omega))) (fun _ => ?_)
    refine w_aload_n dX11_copies_8 rfl ?_
    refine w_getR (w := some (31, 0, 0)) ff_X11_7 rfl rfl dX11_copies_9 rfl ?_
    refine w_iload_n dX11_copies_12 rfl ?_
    refine w_iload_n dX11_copies_13 rfl ?_
    refine w_iadd dX11_copies_14 ?_
    rw [show ((nI to) + (nI k) : Int32) = nI (to + k) from ar_add (p := to) (q := k) rfl rfl (by omega)]
    refine w_aload_n dX11_copies_15 rfl ?_
    refine w_getR (w := some (31, 0, 0)) ff_X11_7 rfl rfl dX11_copies_16 rfl ?_
    refine w_iload_n dX11_copies_19 rfl ?_
    refine w_iload_n dX11_copies_20 rfl ?_
    refine w_iadd dX11_copies_21 ?_
    rw [show ((nI src) + (nI k) : Int32) = nI (src + k) from ar_add (p := src) (q := k) rfl rfl (by omega)]
    refine w_iaload (a := src + k) rfl (vp_in_nI (n := src + k) (by omega) (by omega)) (nI_clamp (n := src + k) (by omega)) dX11_copies_22 ?_
    refine w_top (y := I0 31 0 0 (src + k)) (show (I 31 0 0 (src + k) : Int32) = I0 31 0 0 (src + k) from hf 31 0 0 _ (by omega)) ?_
    refine w_iastore (a := to + k) rfl (vp_in_nI (n := to + k) (by omega) (by omega)) (nI_clamp (n := to + k) (by omega)) dX11_copies_23 ?_
    refine w_iinc (v := nI (k + 1)) (ls' := [some (vR 30 0 0), some (vI (nI to)), some (vI (nI src)), some (vI (nI (k + 1)))]) dX11_copies_24 rfl (nI_1 _) rfl ?_
    refine w_goto (tgt := 2) dX11_copies_27 (by decide) ?_
    refine ih (k + 1) _ (by omega) (fun x hx => ?_) (fun t b j s hn => ?_)
    · by_cases e : x = k
      · rw [e, xup_self]
      · rw [xup_slot (by omega)]; exact hc x (by omega)
    · unfold xup
      rw [if_neg (by rintro ⟨rfl, rfl, rfl, rfl⟩; exact hn ⟨rfl, by omega, by omega⟩)]
      exact hf t b j s hn

theorem d_copies {I : xF4 Int32} {L : xF4 Int64} {to src : Nat} (h1 : to + 76 ≤ 228) (h2 : src + 76 ≤ 228) (hd : to + 76 ≤ src ∨ src + 76 ≤ to) : Tri 0 109 m_X11_copies [vR 30 0 0, vI (nI to), vI (nI src)] (rM I L) (fun v M => v = none ∧ ∃ I', M = rM I' L ∧ (∀ x, x < 76 → I' 31 0 0 (to + x) = I 31 0 0 (src + x)) ∧ ∀ t b j s, ¬ (t = 31 ∧ to ≤ s ∧ s < to + 76) → I' t b j s = I t b j s) := by
  refine ⟨k_X11_copies, Nat.le_of_ble_eq_true rfl, ?_⟩
  show Wp _ _ _ 0 [some (vR 30 0 0), some (vI (nI to)), some (vI (nI src)), none] [] (rM I L) _
  refine w_iconst (v := 0) dX11_copies_0 (by decide) ?_
  refine w_istore_n (ls' := [some (vR 30 0 0), some (vI (nI to)), some (vI (nI src)), some (vI (0))]) dX11_copies_1 rfl ?_
  exact l_copies h1 h2 hd 76 0 I (by omega) (fun x hx => absurd hx (Nat.not_lt_zero _)) (fun _ _ _ _ _ => rfl)

theorem p_keep {I : xF4 Int32} {L : xF4 Int64} {g : gG} (hg : WG g) (hh : CH I g) {k : Nat} (hk : k < 2) : Tri 19 109 m_X10_keep [vR 0 0 0, vI (nI k)] (rM I L) (pCl (vI (keptI (gIm g k))) (setIm g k (gA g)) I) := by
  refine ⟨k_X10_keep, Nat.le_of_ble_eq_true rfl, ?_⟩
  show Wp _ _ _ 0 [some (vR 0 0 0), some (vI (nI k)), none, none] [] (rM I L) _
  obtain ⟨hw, hd9, hgi, ht160, htb, hgs⟩ := id hg
  obtain ⟨hJ, hC, hG, hD, hR, -⟩ := id hw
  have him := hh.2.1 k hk
  cases hi : gIm g k with
  | none =>
    rw [hi] at him
    have hi0 : I 9 k 0 1 = 0 := him
    refine w_aload_n dX10_keep_0 rfl ?_
    refine w_iload_n dX10_keep_1 rfl ?_
    refine w_callV (as := [vI (nI k)]) (st := []) (Tri.mono (c_imageAt (i := k) hk) (Nat.le_of_ble_eq_true rfl)) rfl rfl tg_X10_imageAt lk_X10_291 in_X10_imageAt se_X10_imageAt rfl dX10_keep_2 rfl (Nat.le_of_ble_eq_true rfl) (Nat.le_refl _) (Nat.le_refl _) ?_
    rintro _ _ ⟨rfl, rfl⟩ -
    refine w_astore_n (ls' := [some (vR 0 0 0), some (vI (nI k)), some (vR 9 k 0), none]) dX10_keep_5 rfl ?_
    refine w_aload_n dX10_keep_6 rfl ?_
    refine w_ifnonnull (tgt := 12) dX10_keep_7 (by decide) (fun _ _ => ?_) (fun h => by cases h)
    refine w_aload_n dX10_keep_12 rfl ?_
    refine w_getI ff_X10_295 rfl rfl dX10_keep_13 ?_
    rw [show (I 9 k 0 1 : Int32) = 0 from hi0]
    refine w_if_eq (tgt := 23) dX10_keep_16 (by decide) (fun _ => ?_) (fun h => absurd (by decide) h)
    refine w_iconst (v := 0) dX10_keep_23 (by decide) ?_
    refine w_istore_n (ls' := [some (vR 0 0 0), some (vI (nI k)), some (vR 9 k 0), some (vI (0))]) dX10_keep_24 rfl ?_
    refine w_aload_n dX10_keep_25 rfl ?_
    refine w_getR (w := some (1, (2 + k), 0)) ff_X10_299 rfl rfl dX10_keep_26 rfl ?_
    refine w_aload_n dX10_keep_29 rfl ?_
    refine w_getR (w := some (1, 0, 0)) ff_X10_10 rfl rfl dX10_keep_30 rfl ?_
    refine w_callV (as := [vR 1 0 0]) (st := []) (Tri.mono (c_copy (k := 2 + k) (k2 := 0) (by omega) hw hh.1) (Nat.le_of_ble_eq_true rfl)) rfl rfl tg_X1_copy lk_X10_82 in_X1_copy se_X1_copy rfl dX10_keep_33 rfl (Nat.le_of_ble_eq_true rfl) (Nat.le_refl _) (Nat.le_refl _) ?_
    rintro v M9 ⟨rfl, I1, rfl, g1, g2⟩ -
    refine w_aload_n dX10_keep_36 rfl ?_
    refine w_iconst (v := 1) dX10_keep_37 (by decide) ?_
    refine w_putI ff_X10_295 rfl rfl rfl rfl dX10_keep_38 ?_
    refine w_iload_n dX10_keep_41 rfl ?_
    exact w_ireturn dX10_keep_42 rfl (rfl) rfl (⟨rfl, _, _, rfl, hh.image hk (fun t b' j s p q => (xup_ne9 q).trans (g2 t b' j s p)) xup_self (g1.eqv (fun t j s ht => xup_tag (by omega))), fun t b' j s ht => (xup_tag (by omega)).trans (g2 t b' j s (by omega))⟩)
  | some b =>
    rw [hi] at him
    have hi0 : I 9 k 0 1 = 1 := him.1
    refine w_aload_n dX10_keep_0 rfl ?_
    refine w_iload_n dX10_keep_1 rfl ?_
    refine w_callV (as := [vI (nI k)]) (st := []) (Tri.mono (c_imageAt (i := k) hk) (Nat.le_of_ble_eq_true rfl)) rfl rfl tg_X10_imageAt lk_X10_291 in_X10_imageAt se_X10_imageAt rfl dX10_keep_2 rfl (Nat.le_of_ble_eq_true rfl) (Nat.le_refl _) (Nat.le_refl _) ?_
    rintro _ _ ⟨rfl, rfl⟩ -
    refine w_astore_n (ls' := [some (vR 0 0 0), some (vI (nI k)), some (vR 9 k 0), none]) dX10_keep_5 rfl ?_
    refine w_aload_n dX10_keep_6 rfl ?_
    refine w_ifnonnull (tgt := 12) dX10_keep_7 (by decide) (fun _ _ => ?_) (fun h => by cases h)
    refine w_aload_n dX10_keep_12 rfl ?_
    refine w_getI ff_X10_295 rfl rfl dX10_keep_13 ?_
    rw [show (I 9 k 0 1 : Int32) = 1 from hi0]
    refine w_if_eq (tgt := 23) dX10_keep_16 (by decide) (fun h => absurd h (by decide)) (fun _ => ?_)
    refine w_iconst (v := 1) dX10_keep_19 (by decide) ?_
    refine w_goto (tgt := 24) dX10_keep_20 (by decide) ?_
    refine w_istore_n (ls' := [some (vR 0 0 0), some (vI (nI k)), some (vR 9 k 0), some (vI (1))]) dX10_keep_24 rfl ?_
    refine w_aload_n dX10_keep_25 rfl ?_
    refine w_getR (w := some (1, (2 + k), 0)) ff_X10_299 rfl rfl dX10_keep_26 rfl ?_
    refine w_aload_n dX10_keep_29 rfl ?_
    refine w_getR (w := some (1, 0, 0)) ff_X10_10 rfl rfl dX10_keep_30 rfl ?_
    refine w_callV (as := [vR 1 0 0]) (st := []) (Tri.mono (c_copy (k := 2 + k) (k2 := 0) (by omega) hw hh.1) (Nat.le_of_ble_eq_true rfl)) rfl rfl tg_X1_copy lk_X10_82 in_X1_copy se_X1_copy rfl dX10_keep_33 rfl (Nat.le_of_ble_eq_true rfl) (Nat.le_refl _) (Nat.le_refl _) ?_
    rintro v M9 ⟨rfl, I1, rfl, g1, g2⟩ -
    refine w_aload_n dX10_keep_36 rfl ?_
    refine w_iconst (v := 1) dX10_keep_37 (by decide) ?_
    refine w_putI ff_X10_295 rfl rfl rfl rfl dX10_keep_38 ?_
    refine w_iload_n dX10_keep_41 rfl ?_
    exact w_ireturn dX10_keep_42 rfl (rfl) rfl (⟨rfl, _, _, rfl, hh.image hk (fun t b' j s p q => (xup_ne9 q).trans (g2 t b' j s p)) xup_self (g1.eqv (fun t j s ht => xup_tag (by omega))), fun t b' j s ht => (xup_tag (by omega)).trans (g2 t b' j s (by omega))⟩)

theorem q_keep {I : xF4 Int32} {L : xF4 Int64} {g : gG} (hg : WG g) (hh : MH I g) {k : Nat} (hk : k < 2) : Tri 19 109 m_X11_keep [vR 30 0 0, vI (nI k)] (rM I L) (pMo (vI (keptI (gIm g k))) (setIm g k (gA g)) I) := by
  refine ⟨k_X11_keep, Nat.le_of_ble_eq_true rfl, ?_⟩
  show Wp _ _ _ 0 [some (vR 30 0 0), some (vI (nI k)), none] [] (rM I L) _
  obtain ⟨hw, hd9, hgi, ht160, htb, hgs⟩ := id hg
  obtain ⟨hJ, hC, hG, hD, hR, -⟩ := id hw
  have him := hh.2.1 k hk
  cases hi : gIm g k with
  | none =>
    rw [hi] at him
    have hi0 : I 33 0 0 k = 0 := him
    refine w_iload_n dX11_keep_0 rfl ?_
    refine w_i2l dX11_keep_1 ?_
    refine w_lconst (v := 0) dX11_keep_2 (by decide) ?_
    refine w_lconst (v := 1) dX11_keep_3 (by decide) ?_
    refine w_callS (as := [vL ((nI k : Int32).toInt64), vL (0), vL (1)]) (st := []) (Tri.mono (d_in ((nI k : Int32).toInt64) (0) (1)) (Nat.le_of_ble_eq_true rfl)) tg_X11_in lk_X11_66 sa_X11_in rfl dX11_keep_4 rfl (Nat.le_of_ble_eq_true rfl) (Nat.le_refl _) (Nat.le_refl _) ?_
    rintro _ _ ⟨rfl, rfl⟩ -
    refine w_top (y := bI (0 ≤ ((k : Nat) : Int) ∧ ((k : Nat) : Int) ≤ 1)) (show (bI ((0 : Int64) ≤ ((nI k : Int32).toInt64) ∧ ((nI k : Int32).toInt64) ≤ (1 : Int64)) : Int32) = bI (0 ≤ ((k : Nat) : Int) ∧ ((k : Nat) : Int) ≤ 1) from inZ (x := nI k) (l := 0) (h := 1) (X := ((k : Nat) : Int)) (A := 0) (B := 1) rfl (by decide) (by decide) (z_nI (by omega)) (by decide) (by decide)) ?_
    refine w_ifne_b (tgt := 12) dX11_keep_7 (by decide) (fun h1 => ?_) (fun h1 => ?_)
    · skip
      first
      | (exfalso; omega)
      | skip
        refine w_aload_n dX11_keep_12 rfl ?_
        refine w_getR (w := some (33, 0, 0)) ff_X11_16 rfl rfl dX11_keep_13 rfl ?_
        refine w_iload_n dX11_keep_16 rfl ?_
        refine w_zaload (a := k) rfl (vp_in_nI (n := k) (by omega) (by omega)) (nI_clamp (n := k) (by omega)) dX11_keep_17 ?_
        rw [show (I 33 0 0 (k) : Int32) = 0 from hi0]
        refine w_callS (as := [vI (0)]) (st := []) (Tri.mono (d_flag0) (Nat.le_of_ble_eq_true rfl)) tg_X11_flag lk_X11_161 sa_X11_flag rfl dX11_keep_18 rfl (Nat.le_of_ble_eq_true rfl) (Nat.le_refl _) (Nat.le_refl _) ?_
        rintro _ _ ⟨rfl, rfl⟩ -
        refine w_istore_n (ls' := [some (vR 30 0 0), some (vI (nI k)), some (vI (0))]) dX11_keep_21 rfl ?_
        refine w_aload_n dX11_keep_22 rfl ?_
        refine w_getR (w := some (33, 0, 0)) ff_X11_16 rfl rfl dX11_keep_23 rfl ?_
        refine w_iload_n dX11_keep_26 rfl ?_
        refine w_iconst (v := 1) dX11_keep_27 (by decide) ?_
        refine w_zastore (a := k) rfl (vp_in_nI (n := k) (by omega) (by omega)) (nI_clamp (n := k) (by omega)) dX11_keep_28 ?_
        refine w_aload_n dX11_keep_29 rfl ?_
        refine w_bipush (v := 76) dX11_keep_30 (by decide) ?_
        refine w_iload_n dX11_keep_32 rfl ?_
        refine w_iconst (v := 1) dX11_keep_33 (by decide) ?_
        refine w_iadd dX11_keep_34 ?_
        rw [show ((nI k) + (1) : Int32) = nI (k + 1) from ar_add (p := k) (q := 1) rfl rfl (by omega)]
        refine w_imul dX11_keep_35 ?_
        rw [show ((76) * (nI (k + 1)) : Int32) = nI (76 * (k + 1)) from ar_mul (p := 76) (q := k + 1) rfl rfl (by first | rfl | omega)]
        refine w_iconst (v := 0) dX11_keep_36 (by decide) ?_
        obtain ⟨I1, hI1⟩ : ∃ z, z = xup I 33 0 0 (k) (vp_nar .boolean (1)) := ⟨_, rfl⟩
        rw [← hI1]
        refine w_callV (as := [vI (nI (76 * (k + 1))), vI (0)]) (st := []) (Tri.mono (d_copies (I := I1) (to := 76 * (k + 1)) (src := 0) (by omega) (by omega) (by omega)) (Nat.le_of_ble_eq_true rfl)) rfl rfl tg_X11_copies lk_X11_299 in_X11_copies se_X11_copies rfl dX11_keep_37 rfl (Nat.le_of_ble_eq_true rfl) (Nat.le_refl _) (Nat.le_refl _) ?_
        rintro v M9 ⟨rfl, I2, rfl, g1, g2⟩ -
        refine w_iload_n dX11_keep_40 rfl ?_
        have hI33 : I1 33 0 0 k = 1 := by rw [hI1, xup_self]; rfl
        have hIe : ∀ t b' j s, ¬ (t = 33 ∧ s = k) → I1 t b' j s = I t b' j s := fun t b' j s q => by
          rw [hI1]
          unfold xup
          rw [if_neg (by rintro ⟨rfl, rfl, rfl, rfl⟩; exact q ⟨rfl, rfl⟩)]
        exact w_ireturn dX11_keep_41 rfl (rfl) rfl (⟨rfl, _, _, rfl, hh.image hg hk (fun t b' j s p q => (g2 t b' j s p).trans (hIe t b' j s q)) ((g2 33 0 0 k (by omega)).trans hI33) (hh.1.2.2.to hw (fun x hx => by rw [g1 x hx]; exact hIe 31 0 0 _ (by omega))), fun t b' j s ht => (g2 t b' j s (by omega)).trans (hIe t b' j s (by omega))⟩)
    · skip
      first
      | (exfalso; omega)
      | skip
        refine w_iconst (v := (-1)) dX11_keep_10 (by decide) ?_
        exfalso
        omega
  | some b =>
    rw [hi] at him
    have hi0 : I 33 0 0 k = 1 := him.1
    refine w_iload_n dX11_keep_0 rfl ?_
    refine w_i2l dX11_keep_1 ?_
    refine w_lconst (v := 0) dX11_keep_2 (by decide) ?_
    refine w_lconst (v := 1) dX11_keep_3 (by decide) ?_
    refine w_callS (as := [vL ((nI k : Int32).toInt64), vL (0), vL (1)]) (st := []) (Tri.mono (d_in ((nI k : Int32).toInt64) (0) (1)) (Nat.le_of_ble_eq_true rfl)) tg_X11_in lk_X11_66 sa_X11_in rfl dX11_keep_4 rfl (Nat.le_of_ble_eq_true rfl) (Nat.le_refl _) (Nat.le_refl _) ?_
    rintro _ _ ⟨rfl, rfl⟩ -
    refine w_top (y := bI (0 ≤ ((k : Nat) : Int) ∧ ((k : Nat) : Int) ≤ 1)) (show (bI ((0 : Int64) ≤ ((nI k : Int32).toInt64) ∧ ((nI k : Int32).toInt64) ≤ (1 : Int64)) : Int32) = bI (0 ≤ ((k : Nat) : Int) ∧ ((k : Nat) : Int) ≤ 1) from inZ (x := nI k) (l := 0) (h := 1) (X := ((k : Nat) : Int)) (A := 0) (B := 1) rfl (by decide) (by decide) (z_nI (by omega)) (by decide) (by decide)) ?_
    refine w_ifne_b (tgt := 12) dX11_keep_7 (by decide) (fun h1 => ?_) (fun h1 => ?_)
    · skip
      first
      | (exfalso; omega)
      | skip
        refine w_aload_n dX11_keep_12 rfl ?_
        refine w_getR (w := some (33, 0, 0)) ff_X11_16 rfl rfl dX11_keep_13 rfl ?_
        refine w_iload_n dX11_keep_16 rfl ?_
        refine w_zaload (a := k) rfl (vp_in_nI (n := k) (by omega) (by omega)) (nI_clamp (n := k) (by omega)) dX11_keep_17 ?_
        rw [show (I 33 0 0 (k) : Int32) = 1 from hi0]
        refine w_callS (as := [vI (1)]) (st := []) (Tri.mono (d_flag1) (Nat.le_of_ble_eq_true rfl)) tg_X11_flag lk_X11_161 sa_X11_flag rfl dX11_keep_18 rfl (Nat.le_of_ble_eq_true rfl) (Nat.le_refl _) (Nat.le_refl _) ?_
        rintro _ _ ⟨rfl, rfl⟩ -
        refine w_istore_n (ls' := [some (vR 30 0 0), some (vI (nI k)), some (vI (1))]) dX11_keep_21 rfl ?_
        refine w_aload_n dX11_keep_22 rfl ?_
        refine w_getR (w := some (33, 0, 0)) ff_X11_16 rfl rfl dX11_keep_23 rfl ?_
        refine w_iload_n dX11_keep_26 rfl ?_
        refine w_iconst (v := 1) dX11_keep_27 (by decide) ?_
        refine w_zastore (a := k) rfl (vp_in_nI (n := k) (by omega) (by omega)) (nI_clamp (n := k) (by omega)) dX11_keep_28 ?_
        refine w_aload_n dX11_keep_29 rfl ?_
        refine w_bipush (v := 76) dX11_keep_30 (by decide) ?_
        refine w_iload_n dX11_keep_32 rfl ?_
        refine w_iconst (v := 1) dX11_keep_33 (by decide) ?_
        refine w_iadd dX11_keep_34 ?_
        rw [show ((nI k) + (1) : Int32) = nI (k + 1) from ar_add (p := k) (q := 1) rfl rfl (by omega)]
        refine w_imul dX11_keep_35 ?_
        rw [show ((76) * (nI (k + 1)) : Int32) = nI (76 * (k + 1)) from ar_mul (p := 76) (q := k + 1) rfl rfl (by first | rfl | omega)]
        refine w_iconst (v := 0) dX11_keep_36 (by decide) ?_
        obtain ⟨I1, hI1⟩ : ∃ z, z = xup I 33 0 0 (k) (vp_nar .boolean (1)) := ⟨_, rfl⟩
        rw [← hI1]
        refine w_callV (as := [vI (nI (76 * (k + 1))), vI (0)]) (st := []) (Tri.mono (d_copies (I := I1) (to := 76 * (k + 1)) (src := 0) (by omega) (by omega) (by omega)) (Nat.le_of_ble_eq_true rfl)) rfl rfl tg_X11_copies lk_X11_299 in_X11_copies se_X11_copies rfl dX11_keep_37 rfl (Nat.le_of_ble_eq_true rfl) (Nat.le_refl _) (Nat.le_refl _) ?_
        rintro v M9 ⟨rfl, I2, rfl, g1, g2⟩ -
        refine w_iload_n dX11_keep_40 rfl ?_
        have hI33 : I1 33 0 0 k = 1 := by rw [hI1, xup_self]; rfl
        have hIe : ∀ t b' j s, ¬ (t = 33 ∧ s = k) → I1 t b' j s = I t b' j s := fun t b' j s q => by
          rw [hI1]
          unfold xup
          rw [if_neg (by rintro ⟨rfl, rfl, rfl, rfl⟩; exact q ⟨rfl, rfl⟩)]
        exact w_ireturn dX11_keep_41 rfl (rfl) rfl (⟨rfl, _, _, rfl, hh.image hg hk (fun t b' j s p q => (g2 t b' j s p).trans (hIe t b' j s q)) ((g2 33 0 0 k (by omega)).trans hI33) (hh.1.2.2.to hw (fun x hx => by rw [g1 x hx]; exact hIe 31 0 0 _ (by omega))), fun t b' j s ht => (g2 t b' j s (by omega)).trans (hIe t b' j s (by omega))⟩)
    · skip
      first
      | (exfalso; omega)
      | skip
        refine w_iconst (v := (-1)) dX11_keep_10 (by decide) ?_
        exfalso
        omega

theorem p_keep_o {I : xF4 Int32} {L : xF4 Int64} {g : gG} (hg : WG g) (hh : CH I g) {k : Int32} (hx : k.toInt < 0 ∨ ((2 : Nat) : Int) ≤ k.toInt) : Tri 19 109 m_X10_keep [vR 0 0 0, vI (k)] (rM I L) (pCq (vI (-1)) I) := by
  refine ⟨k_X10_keep, Nat.le_of_ble_eq_true rfl, ?_⟩
  show Wp _ _ _ 0 [some (vR 0 0 0), some (vI (k)), none, none] [] (rM I L) _
  obtain ⟨hw, hd9, hgi, ht160, htb, hgs⟩ := id hg
  obtain ⟨hJ, hC, hG, hD, hR, -⟩ := id hw
  refine w_aload_n dX10_keep_0 rfl ?_
  refine w_iload_n dX10_keep_1 rfl ?_
  refine w_callV (as := [vI (k)]) (st := []) (Tri.mono (c_imageAtO (by omega)) (Nat.le_of_ble_eq_true rfl)) rfl rfl tg_X10_imageAt lk_X10_291 in_X10_imageAt se_X10_imageAt rfl dX10_keep_2 rfl (Nat.le_of_ble_eq_true rfl) (Nat.le_refl _) (Nat.le_refl _) ?_
  rintro _ _ ⟨rfl, rfl⟩ -
  refine w_astore_n (ls' := [some (vR 0 0 0), some (vI (k)), some (vN), none]) dX10_keep_5 rfl ?_
  refine w_aload_n dX10_keep_6 rfl ?_
  refine w_ifnonnull (tgt := 12) dX10_keep_7 (by decide) (fun _ h => by cases h) (fun _ => ?_)
  refine w_iconst (v := (-1)) dX10_keep_10 (by decide) ?_
  exact w_ireturn dX10_keep_11 rfl (rfl) rfl (⟨rfl, _, _, rfl, FrQ.rf⟩)

theorem q_keep_o {I : xF4 Int32} {L : xF4 Int64} {g : gG} (hg : WG g) (hh : MH I g) {k : Int32} (hx : k.toInt < 0 ∨ ((2 : Nat) : Int) ≤ k.toInt) : Tri 19 109 m_X11_keep [vR 30 0 0, vI (k)] (rM I L) (pMq (vI (-1)) I) := by
  refine ⟨k_X11_keep, Nat.le_of_ble_eq_true rfl, ?_⟩
  show Wp _ _ _ 0 [some (vR 30 0 0), some (vI (k)), none] [] (rM I L) _
  obtain ⟨hw, hd9, hgi, ht160, htb, hgs⟩ := id hg
  obtain ⟨hJ, hC, hG, hD, hR, -⟩ := id hw
  refine w_iload_n dX11_keep_0 rfl ?_
  refine w_i2l dX11_keep_1 ?_
  refine w_lconst (v := 0) dX11_keep_2 (by decide) ?_
  refine w_lconst (v := 1) dX11_keep_3 (by decide) ?_
  refine w_callS (as := [vL ((k : Int32).toInt64), vL (0), vL (1)]) (st := []) (Tri.mono (d_in ((k : Int32).toInt64) (0) (1)) (Nat.le_of_ble_eq_true rfl)) tg_X11_in lk_X11_66 sa_X11_in rfl dX11_keep_4 rfl (Nat.le_of_ble_eq_true rfl) (Nat.le_refl _) (Nat.le_refl _) ?_
  rintro _ _ ⟨rfl, rfl⟩ -
  refine w_top (y := bI (0 ≤ k.toInt ∧ k.toInt ≤ 1)) (show (bI ((0 : Int64) ≤ ((k : Int32).toInt64) ∧ ((k : Int32).toInt64) ≤ (1 : Int64)) : Int32) = bI (0 ≤ k.toInt ∧ k.toInt ≤ 1) from inZ (x := k) (l := 0) (h := 1) (X := k.toInt) (A := 0) (B := 1) rfl (by decide) (by decide) rfl (by decide) (by decide)) ?_
  refine w_ifne_b (tgt := 12) dX11_keep_7 (by decide) (fun h1 => ?_) (fun h1 => ?_)
  · skip
    first
    | (exfalso; omega)
    | skip
      exfalso
      omega
  · skip
    first
    | (exfalso; omega)
    | skip
      refine w_iconst (v := (-1)) dX11_keep_10 (by decide) ?_
      exact w_ireturn dX11_keep_11 rfl (rfl) rfl (⟨rfl, _, _, rfl, FrR.rf⟩)

theorem p_back {I : xF4 Int32} {L : xF4 Int64} {g : gG} (hg : WG g) (hh : CH I g) {k : Nat} (hk : k < 2) {b : aA} (hb : gIm g k = some b) : Tri 19 109 m_X10_back [vR 0 0 0, vI (nI k)] (rM I L) (pCl (vI (nI (dY b))) (setA g b) I) := by
  refine ⟨k_X10_back, Nat.le_of_ble_eq_true rfl, ?_⟩
  show Wp _ _ _ 0 [some (vR 0 0 0), some (vI (nI k)), none] [] (rM I L) _
  obtain ⟨hw, hd9, hgi, ht160, htb, hgs⟩ := id hg
  obtain ⟨hJ, hC, hG, hD, hR, -⟩ := id hw
  have him := hh.2.1 k hk
  rw [hb] at him
  obtain ⟨him0, him1⟩ := him
  obtain ⟨i1, i2, i3, i4⟩ := hgi k hk b hb
  refine w_aload_n dX10_back_0 rfl ?_
  refine w_iload_n dX10_back_1 rfl ?_
  refine w_callV (as := [vI (nI k)]) (st := []) (Tri.mono (c_imageAt (i := k) hk) (Nat.le_of_ble_eq_true rfl)) rfl rfl tg_X10_imageAt lk_X10_291 in_X10_imageAt se_X10_imageAt rfl dX10_back_2 rfl (Nat.le_of_ble_eq_true rfl) (Nat.le_refl _) (Nat.le_refl _) ?_
  rintro _ _ ⟨rfl, rfl⟩ -
  refine w_astore_n (ls' := [some (vR 0 0 0), some (vI (nI k)), some (vR 9 k 0)]) dX10_back_5 rfl ?_
  refine w_aload_n dX10_back_6 rfl ?_
  refine w_ifnonnull (tgt := 12) dX10_back_7 (by decide) (fun _ _ => ?_) (fun h => by cases h)
  refine w_aload_n dX10_back_12 rfl ?_
  refine w_getI ff_X10_295 rfl rfl dX10_back_13 ?_
  rw [show (I 9 k 0 1 : Int32) = 1 from him0]
  refine w_if_ne (tgt := 22) dX10_back_16 (by decide) (fun _ => ?_) (fun h => absurd h (by decide))
  refine w_aload_n dX10_back_22 rfl ?_
  refine w_getR (w := some (1, 0, 0)) ff_X10_10 rfl rfl dX10_back_23 rfl ?_
  refine w_aload_n dX10_back_26 rfl ?_
  refine w_getR (w := some (1, (2 + k), 0)) ff_X10_299 rfl rfl dX10_back_27 rfl ?_
  refine w_callV (as := [vR 1 (2 + k) 0]) (st := []) (Tri.mono (c_copy (k := 0) (k2 := 2 + k) (by omega) i1 him1) (Nat.le_of_ble_eq_true rfl)) rfl rfl tg_X1_copy lk_X10_82 in_X1_copy se_X1_copy rfl dX10_back_30 rfl (Nat.le_of_ble_eq_true rfl) (Nat.le_refl _) (Nat.le_refl _) ?_
  rintro v M9 ⟨rfl, I1, rfl, g1, g2⟩ -
  refine w_aload_n dX10_back_33 rfl ?_
  refine w_getR (w := some (1, 0, 0)) ff_X10_10 rfl rfl dX10_back_34 rfl ?_
  refine w_getI ff_X10_95 rfl rfl dX10_back_37 ?_
  rw [show (I1 1 0 0 6 : Int32) = nI (dY b) from g1.2.2.2.1]
  exact w_ireturn dX10_back_40 rfl (rfl) rfl (⟨rfl, _, _, rfl, hh.court g1 g2, fun t b' j s ht => g2 t b' j s (by omega)⟩)

theorem q_back {I : xF4 Int32} {L : xF4 Int64} {g : gG} (hg : WG g) (hh : MH I g) {k : Nat} (hk : k < 2) {b : aA} (hb : gIm g k = some b) : Tri 19 109 m_X11_back [vR 30 0 0, vI (nI k)] (rM I L) (pMo (vI (nI (dY b))) (setA g b) I) := by
  refine ⟨k_X11_back, Nat.le_of_ble_eq_true rfl, ?_⟩
  show Wp _ _ _ 0 [some (vR 30 0 0), some (vI (nI k))] [] (rM I L) _
  obtain ⟨hw, hd9, hgi, ht160, htb, hgs⟩ := id hg
  obtain ⟨hJ, hC, hG, hD, hR, -⟩ := id hw
  have him := hh.2.1 k hk
  rw [hb] at him
  obtain ⟨him0, him1⟩ := him
  obtain ⟨i1, i2, i3, i4⟩ := hgi k hk b hb
  refine w_iload_n dX11_back_0 rfl ?_
  refine w_i2l dX11_back_1 ?_
  refine w_lconst (v := 0) dX11_back_2 (by decide) ?_
  refine w_lconst (v := 1) dX11_back_3 (by decide) ?_
  refine w_callS (as := [vL ((nI k : Int32).toInt64), vL (0), vL (1)]) (st := []) (Tri.mono (d_in ((nI k : Int32).toInt64) (0) (1)) (Nat.le_of_ble_eq_true rfl)) tg_X11_in lk_X11_66 sa_X11_in rfl dX11_back_4 rfl (Nat.le_of_ble_eq_true rfl) (Nat.le_refl _) (Nat.le_refl _) ?_
  rintro _ _ ⟨rfl, rfl⟩ -
  refine w_top (y := bI (0 ≤ ((k : Nat) : Int) ∧ ((k : Nat) : Int) ≤ 1)) (show (bI ((0 : Int64) ≤ ((nI k : Int32).toInt64) ∧ ((nI k : Int32).toInt64) ≤ (1 : Int64)) : Int32) = bI (0 ≤ ((k : Nat) : Int) ∧ ((k : Nat) : Int) ≤ 1) from inZ (x := nI k) (l := 0) (h := 1) (X := ((k : Nat) : Int)) (A := 0) (B := 1) rfl (by decide) (by decide) (z_nI (by omega)) (by decide) (by decide)) ?_
  refine w_ifne_b (tgt := 12) dX11_back_7 (by decide) (fun h1 => ?_) (fun h1 => ?_)
  · skip
    first
    | (exfalso; omega)
    | skip
      refine w_aload_n dX11_back_12 rfl ?_
      refine w_getR (w := some (33, 0, 0)) ff_X11_16 rfl rfl dX11_back_13 rfl ?_
      refine w_iload_n dX11_back_16 rfl ?_
      refine w_zaload (a := k) rfl (vp_in_nI (n := k) (by omega) (by omega)) (nI_clamp (n := k) (by omega)) dX11_back_17 ?_
      rw [show (I 33 0 0 (k) : Int32) = 1 from him0]
      refine w_if_ne (tgt := 24) dX11_back_18 (by decide) (fun _ => ?_) (fun h => absurd h (by decide))
      refine w_aload_n dX11_back_24 rfl ?_
      refine w_iconst (v := 0) dX11_back_25 (by decide) ?_
      refine w_bipush (v := 76) dX11_back_26 (by decide) ?_
      refine w_iload_n dX11_back_28 rfl ?_
      refine w_iconst (v := 1) dX11_back_29 (by decide) ?_
      refine w_iadd dX11_back_30 ?_
      rw [show ((nI k) + (1) : Int32) = nI (k + 1) from ar_add (p := k) (q := 1) rfl rfl (by omega)]
      refine w_imul dX11_back_31 ?_
      rw [show ((76) * (nI (k + 1)) : Int32) = nI (76 * (k + 1)) from ar_mul (p := 76) (q := k + 1) rfl rfl (by first | rfl | omega)]
      refine w_callV (as := [vI (0), vI (nI (76 * (k + 1)))]) (st := []) (Tri.mono (d_copies (I := I) (to := 0) (src := 76 * (k + 1)) (by omega) (by omega) (by omega)) (Nat.le_of_ble_eq_true rfl)) rfl rfl tg_X11_copies lk_X11_299 in_X11_copies se_X11_copies rfl dX11_back_32 rfl (Nat.le_of_ble_eq_true rfl) (Nat.le_refl _) (Nat.le_refl _) ?_
      rintro v M9 ⟨rfl, I2, rfl, g1, g2⟩ -
      have hs2 : SI I2 b := ⟨by rw [i3]; exact (g2 30 0 0 3 (by omega)).trans hh.1.1, by rw [i4]; exact (g2 30 0 0 4 (by omega)).trans hh.1.2.1, him1.to i1 (fun x hx => g1 x hx)⟩
      refine w_aload_n dX11_back_35 rfl ?_
      refine w_getR (w := some (31, 0, 0)) ff_X11_7 rfl rfl dX11_back_36 rfl ?_
      refine w_bipush (v := 55) dX11_back_39 (by decide) ?_
      refine w_iaload (a := 55) rfl (vp_in_nI (n := 55) (by omega) (by omega)) (nI_clamp (n := 55) (by omega)) dX11_back_41 ?_
      rw [show (I2 31 0 0 (55) : Int32) = nI (dY b) from hs2.2.2.dy rfl]
      exact w_ireturn dX11_back_42 rfl (rfl) rfl (⟨rfl, _, _, rfl, hh.court hg hs2 (fun t b' j s p _ _ => g2 t b' j s (by omega)), fun t b' j s ht => g2 t b' j s (by omega)⟩)
  · skip
    first
    | (exfalso; omega)
    | skip
      refine w_iconst (v := (-1)) dX11_back_10 (by decide) ?_
      exact w_ireturn dX11_back_11 rfl (rfl) rfl (⟨rfl, _, _, rfl, hh.court hg hs2 (fun t b' j s p _ _ => g2 t b' j s (by omega)), fun t b' j s ht => g2 t b' j s (by omega)⟩)

theorem p_back_n {I : xF4 Int32} {L : xF4 Int64} {g : gG} (hg : WG g) (hh : CH I g) {k : Nat} (hk : k < 2) (hb : gIm g k = none) : Tri 19 109 m_X10_back [vR 0 0 0, vI (nI k)] (rM I L) (pCq (vI (-2)) I) := by
  refine ⟨k_X10_back, Nat.le_of_ble_eq_true rfl, ?_⟩
  show Wp _ _ _ 0 [some (vR 0 0 0), some (vI (nI k)), none] [] (rM I L) _
  obtain ⟨hw, hd9, hgi, ht160, htb, hgs⟩ := id hg
  have him := hh.2.1 k hk
  rw [hb] at him
  have hi0 : I 9 k 0 1 = 0 := him
  refine w_aload_n dX10_back_0 rfl ?_
  refine w_iload_n dX10_back_1 rfl ?_
  refine w_callV (as := [vI (nI k)]) (st := []) (Tri.mono (c_imageAt (i := k) hk) (Nat.le_of_ble_eq_true rfl)) rfl rfl tg_X10_imageAt lk_X10_291 in_X10_imageAt se_X10_imageAt rfl dX10_back_2 rfl (Nat.le_of_ble_eq_true rfl) (Nat.le_refl _) (Nat.le_refl _) ?_
  rintro _ _ ⟨rfl, rfl⟩ -
  refine w_astore_n (ls' := [some (vR 0 0 0), some (vI (nI k)), some (vR 9 k 0)]) dX10_back_5 rfl ?_
  refine w_aload_n dX10_back_6 rfl ?_
  refine w_ifnonnull (tgt := 12) dX10_back_7 (by decide) (fun _ _ => ?_) (fun h => by cases h)
  refine w_aload_n dX10_back_12 rfl ?_
  refine w_getI ff_X10_295 rfl rfl dX10_back_13 ?_
  rw [show (I 9 k 0 1 : Int32) = 0 from hi0]
  refine w_if_ne (tgt := 22) dX10_back_16 (by decide) (fun h => absurd (by decide) h) (fun _ => ?_)
  refine w_bipush (v := (-2)) dX10_back_19 (by decide) ?_
  exact w_ireturn dX10_back_21 rfl (rfl) rfl (⟨rfl, _, _, rfl, FrQ.rf⟩)

theorem q_back_n {I : xF4 Int32} {L : xF4 Int64} {g : gG} (hg : WG g) (hh : MH I g) {k : Nat} (hk : k < 2) (hb : gIm g k = none) : Tri 19 109 m_X11_back [vR 30 0 0, vI (nI k)] (rM I L) (pMq (vI (-2)) I) := by
  refine ⟨k_X11_back, Nat.le_of_ble_eq_true rfl, ?_⟩
  show Wp _ _ _ 0 [some (vR 30 0 0), some (vI (nI k))] [] (rM I L) _
  obtain ⟨hw, hd9, hgi, ht160, htb, hgs⟩ := id hg
  have him := hh.2.1 k hk
  rw [hb] at him
  have hi0 : I 33 0 0 k = 0 := him
  refine w_iload_n dX11_back_0 rfl ?_
  refine w_i2l dX11_back_1 ?_
  refine w_lconst (v := 0) dX11_back_2 (by decide) ?_
  refine w_lconst (v := 1) dX11_back_3 (by decide) ?_
  refine w_callS (as := [vL ((nI k : Int32).toInt64), vL (0), vL (1)]) (st := []) (Tri.mono (d_in ((nI k : Int32).toInt64) (0) (1)) (Nat.le_of_ble_eq_true rfl)) tg_X11_in lk_X11_66 sa_X11_in rfl dX11_back_4 rfl (Nat.le_of_ble_eq_true rfl) (Nat.le_refl _) (Nat.le_refl _) ?_
  rintro _ _ ⟨rfl, rfl⟩ -
  refine w_top (y := bI (0 ≤ ((k : Nat) : Int) ∧ ((k : Nat) : Int) ≤ 1)) (show (bI ((0 : Int64) ≤ ((nI k : Int32).toInt64) ∧ ((nI k : Int32).toInt64) ≤ (1 : Int64)) : Int32) = bI (0 ≤ ((k : Nat) : Int) ∧ ((k : Nat) : Int) ≤ 1) from inZ (x := nI k) (l := 0) (h := 1) (X := ((k : Nat) : Int)) (A := 0) (B := 1) rfl (by decide) (by decide) (z_nI (by omega)) (by decide) (by decide)) ?_
  refine w_ifne_b (tgt := 12) dX11_back_7 (by decide) (fun h1 => ?_) (fun h1 => ?_)
  · skip
    first
    | (exfalso; omega)
    | skip
      refine w_aload_n dX11_back_12 rfl ?_
      refine w_getR (w := some (33, 0, 0)) ff_X11_16 rfl rfl dX11_back_13 rfl ?_
      refine w_iload_n dX11_back_16 rfl ?_
      refine w_zaload (a := k) rfl (vp_in_nI (n := k) (by omega) (by omega)) (nI_clamp (n := k) (by omega)) dX11_back_17 ?_
      rw [show (I 33 0 0 (k) : Int32) = 0 from hi0]
      refine w_if_ne (tgt := 24) dX11_back_18 (by decide) (fun h => absurd (by decide) h) (fun _ => ?_)
      refine w_bipush (v := (-2)) dX11_back_21 (by decide) ?_
      exact w_ireturn dX11_back_23 rfl (rfl) rfl (⟨rfl, _, _, rfl, FrR.rf⟩)
  · skip
    first
    | (exfalso; omega)
    | skip
      refine w_iconst (v := (-1)) dX11_back_10 (by decide) ?_
      exact w_ireturn dX11_back_11 rfl (rfl) rfl (⟨rfl, _, _, rfl, FrR.rf⟩)

theorem p_back_o {I : xF4 Int32} {L : xF4 Int64} {g : gG} (hg : WG g) (hh : CH I g) {k : Int32} (hx : k.toInt < 0 ∨ ((2 : Nat) : Int) ≤ k.toInt) : Tri 19 109 m_X10_back [vR 0 0 0, vI (k)] (rM I L) (pCq (vI (-1)) I) := by
  refine ⟨k_X10_back, Nat.le_of_ble_eq_true rfl, ?_⟩
  show Wp _ _ _ 0 [some (vR 0 0 0), some (vI (k)), none] [] (rM I L) _
  obtain ⟨hw, hd9, hgi, ht160, htb, hgs⟩ := id hg
  obtain ⟨hJ, hC, hG, hD, hR, -⟩ := id hw
  refine w_aload_n dX10_back_0 rfl ?_
  refine w_iload_n dX10_back_1 rfl ?_
  refine w_callV (as := [vI (k)]) (st := []) (Tri.mono (c_imageAtO (by omega)) (Nat.le_of_ble_eq_true rfl)) rfl rfl tg_X10_imageAt lk_X10_291 in_X10_imageAt se_X10_imageAt rfl dX10_back_2 rfl (Nat.le_of_ble_eq_true rfl) (Nat.le_refl _) (Nat.le_refl _) ?_
  rintro _ _ ⟨rfl, rfl⟩ -
  refine w_astore_n (ls' := [some (vR 0 0 0), some (vI (k)), some (vN)]) dX10_back_5 rfl ?_
  refine w_aload_n dX10_back_6 rfl ?_
  refine w_ifnonnull (tgt := 12) dX10_back_7 (by decide) (fun _ h => by cases h) (fun _ => ?_)
  refine w_iconst (v := (-1)) dX10_back_10 (by decide) ?_
  exact w_ireturn dX10_back_11 rfl (rfl) rfl (⟨rfl, _, _, rfl, FrQ.rf⟩)

theorem q_back_o {I : xF4 Int32} {L : xF4 Int64} {g : gG} (hg : WG g) (hh : MH I g) {k : Int32} (hx : k.toInt < 0 ∨ ((2 : Nat) : Int) ≤ k.toInt) : Tri 19 109 m_X11_back [vR 30 0 0, vI (k)] (rM I L) (pMq (vI (-1)) I) := by
  refine ⟨k_X11_back, Nat.le_of_ble_eq_true rfl, ?_⟩
  show Wp _ _ _ 0 [some (vR 30 0 0), some (vI (k))] [] (rM I L) _
  obtain ⟨hw, hd9, hgi, ht160, htb, hgs⟩ := id hg
  obtain ⟨hJ, hC, hG, hD, hR, -⟩ := id hw
  refine w_iload_n dX11_back_0 rfl ?_
  refine w_i2l dX11_back_1 ?_
  refine w_lconst (v := 0) dX11_back_2 (by decide) ?_
  refine w_lconst (v := 1) dX11_back_3 (by decide) ?_
  refine w_callS (as := [vL ((k : Int32).toInt64), vL (0), vL (1)]) (st := []) (Tri.mono (d_in ((k : Int32).toInt64) (0) (1)) (Nat.le_of_ble_eq_true rfl)) tg_X11_in lk_X11_66 sa_X11_in rfl dX11_back_4 rfl (Nat.le_of_ble_eq_true rfl) (Nat.le_refl _) (Nat.le_refl _) ?_
  rintro _ _ ⟨rfl, rfl⟩ -
  refine w_top (y := bI (0 ≤ k.toInt ∧ k.toInt ≤ 1)) (show (bI ((0 : Int64) ≤ ((k : Int32).toInt64) ∧ ((k : Int32).toInt64) ≤ (1 : Int64)) : Int32) = bI (0 ≤ k.toInt ∧ k.toInt ≤ 1) from inZ (x := k) (l := 0) (h := 1) (X := k.toInt) (A := 0) (B := 1) rfl (by decide) (by decide) rfl (by decide) (by decide)) ?_
  refine w_ifne_b (tgt := 12) dX11_back_7 (by decide) (fun h1 => ?_) (fun h1 => ?_)
  · skip
    first
    | (exfalso; omega)
    | skip
      exfalso
      omega
  · skip
    first
    | (exfalso; omega)
    | skip
      refine w_iconst (v := (-1)) dX11_back_10 (by decide) ?_
      exact w_ireturn dX11_back_11 rfl (rfl) rfl (⟨rfl, _, _, rfl, FrR.rf⟩)
