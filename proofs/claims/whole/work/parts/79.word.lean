/-! the class's numbers and words (by wip/whole/gen/g80.py) -/
theorem ch_a {lo hi so st nx v : Nat} (h : ¬ so = 2) : chT lo hi (.inr (so, (st, (nx, v)))) = .inl (2, st) := by
  show (if ¬ so = 2 then (Sum.inl (2, st) : tS) else if lo ≤ v ∧ v ≤ hi then Sum.inr (so, (st, (nx, v))) else Sum.inl (3, st)) = _
  rw [if_pos h]
theorem ch_b {lo hi st nx v : Nat} (h : lo ≤ v ∧ v ≤ hi) : chT lo hi (.inr (2, (st, (nx, v)))) = .inr (2, (st, (nx, v))) := by
  show (if ¬ 2 = 2 then (Sum.inl (2, st) : tS) else if lo ≤ v ∧ v ≤ hi then Sum.inr (2, (st, (nx, v))) else Sum.inl (3, st)) = _
  rw [if_neg (fun z => z rfl), if_pos h]
theorem ch_c {lo hi st nx v : Nat} (h : ¬ (lo ≤ v ∧ v ≤ hi)) : chT lo hi (.inr (2, (st, (nx, v)))) = .inl (3, st) := by
  show (if ¬ 2 = 2 then (Sum.inl (2, st) : tS) else if lo ≤ v ∧ v ≤ hi then Sum.inr (2, (st, (nx, v))) else Sum.inl (3, st)) = _
  rw [if_neg (fun z => z rfl), if_neg h]
theorem ch_live {lo hi : Nat} {q : Nat × (Nat × (Nat × Nat))} : ∀ {s : tS}, chT lo hi s = .inr q → s = .inr q ∧ lo ≤ vlS (chT lo hi s) ∧ vlS (chT lo hi s) ≤ hi
  | .inl _, h => by cases h
  | .inr (so, (st, (nx, v))), h => by
    by_cases h1 : so = 2
    · subst h1
      by_cases h2 : lo ≤ v ∧ v ≤ hi
      · rw [ch_b h2] at h ⊢
        exact ⟨h, h2⟩
      · rw [ch_c h2] at h
        cases h
    · rw [ch_a h1] at h
      cases h
theorem sp_a {so st nx v : Nat} (h : ¬ so = 3) : spS (.inr (so, (st, (nx, v)))) = .inl (2, st) := if_neg h
theorem sp_b {so st nx v : Nat} (h : so = 3) : spS (.inr (so, (st, (nx, v)))) = .inr (so, (st, (nx, v))) := if_pos h
theorem tk_live {n : Nat} {b : Nat → Nat} {q : Nat × (Nat × (Nat × Nat))} : ∀ {s : tS}, tkT n b s = .inr q → ∃ p, s = .inr p
  | .inl _, h => by cases h
  | .inr p, _ => ⟨p, rfl⟩
theorem sp_live {q : Nat × (Nat × (Nat × Nat))} : ∀ {s : tS}, spS s = .inr q → s = .inr q
  | .inl _, h => by cases h
  | .inr (so, (st, (nx, v))), h => by
    by_cases h1 : so = 3
    · rw [sp_b h1] at h
      exact h
    · rw [sp_a h1] at h
      cases h
theorem fl_live {c : Nat} {q : Nat × (Nat × (Nat × Nat))} : ∀ {s : tS}, flT c s = .inr q → False
  | .inl _, h => by cases h
  | .inr _, h => by cases h
theorem TC.eqv {I I' : xF4 Int32} : ∀ {s : tS}, TC I s → (∀ x, I' 10 0 0 x = I 10 0 0 x) → TC I' s
  | .inl _, h, e => ⟨(e 2).trans h.1, (e 3).trans h.2⟩
  | .inr _, h, e => ⟨(e 2).trans h.1, (e 4).trans h.2.1, (e 5).trans h.2.2.1, (e 6).trans h.2.2.2.1, fun z => (e 7).trans (h.2.2.2.2 z)⟩
theorem TB.eqv {I I' : xF4 Int32} {n : Nat} {b : Nat → Nat} (h : TB I n b) (e : ∀ t x, t = 10 ∨ t = 11 → I' t 0 0 x = I t 0 0 x) : TB I' n b := ⟨(e 10 1 (Or.inl rfl)).trans h.1, fun i hi => (e 11 i (Or.inr rfl)).trans (h.2 i hi)⟩
abbrev pN9 (lo hi : Nat) (s : tS) (I : xF4 Int32) (L : xF4 Int64) : Option xV → xM → Prop := fun v M => ∃ x, v = some (vI x) ∧ ∃ I', M = rM I' L ∧ TC I' (chT lo hi s) ∧ FrL I I' ∧ ∀ q, chT lo hi s = .inr q → x = nI (vlS (chT lo hi s))

theorem c_fail {I : xF4 Int32} {L : xF4 Int64} {n : Nat} {s : tS} (hok : OKT n s) (h : TC I s) {c : Nat} {c9 : Int32} (e : c9 = nI c) : Tri 0 109 m_X9_fail [vR 10 0 0, vI (c9)] (rM I L) (pT (flT c s) I L) := by
  rcases s with ⟨c0, p⟩ | ⟨so, st, nx, v⟩
  · exact (c_failD ⟨hok.1, hok.2.1⟩ h.1 c9).imp (fun v M z => ⟨z.1, I, z.2, h, FrL.rf⟩)
  · exact (c_failL h.1 h.2.2.1 c9).imp (fun v M z => ⟨z.1, _, z.2, ⟨((xup_slot (by decide)).trans xup_self).trans e, xup_self⟩, ((FrL.rf.up (by decide)).up (by decide))⟩)

theorem c_number {I : xF4 Int32} {L : xF4 Int64} {n : Nat} {b : Nat → Nat} (hk : BK n b) (ht : TB I n b) {s : tS} (hok : OKT n s) (h : TC I s) {lo hi : Nat} {lo9 hi9 : Int32} (hl : ∀ q, tkT n b s = .inr q → lo9.toInt = lo) (e2 : hi9.toInt = hi) : Tri 3 109 m_X9_number [vR 10 0 0, vI (lo9), vI (hi9)] (rM I L) (pN9 lo hi (tkT n b s) I L) := by
  refine ⟨k_X9_number, Nat.le_of_ble_eq_true rfl, ?_⟩
  show Wp _ _ _ 0 [some (vR 10 0 0), some (vI (lo9)), some (vI (hi9))] [] (rM I L) _
  obtain ⟨k1, k2⟩ := id hk
  refine w_aload_n dX9_number_0 rfl ?_
  refine w_callV (as := []) (st := []) (Tri.mono (c_take hk ht hok h) (Nat.le_of_ble_eq_true rfl)) rfl rfl tg_X9_take lk_X9_37 in_X9_take se_X9_take rfl dX9_number_1 rfl (Nat.le_of_ble_eq_true rfl) (Nat.le_refl _) (Nat.le_refl _) ?_
  rintro v M9 ⟨rfl, I1, rfl, g1, g2⟩ -
  have hou := tk_ok (b := b) hok
  obtain ⟨u, hu⟩ : ∃ u, u = tkT n b s := ⟨_, rfl⟩
  rw [← hu] at hou g1 hl ⊢
  obtain ⟨tk9, htk⟩ : ∃ z, z = I1 10 0 0 4 := ⟨_, rfl⟩
  obtain ⟨va9, hva⟩ : ∃ z, z = I1 10 0 0 7 := ⟨_, rfl⟩
  rcases u with ⟨c, p⟩ | ⟨so, st, nx, v⟩
  · skip
    refine w_aload_n dX9_number_4 rfl ?_
    refine w_getI ff_X9_40 rfl rfl dX9_number_5 ?_
    rw [show (I1 10 0 0 4 : Int32) = tk9 from htk.symm]
    refine w_iconst (v := 2) dX9_number_8 (by decide) ?_
    refine w_icmp_eq (tgt := 20) dX9_number_9 (by decide) (fun h1 => ?_) (fun h1 => ?_)
    · skip
      replace h1 : tk9.toInt = 2 := (zeq rfl (by decide)).mp h1
      first
      | (exfalso; omega)
      | skip
        refine w_aload_n dX9_number_20 rfl ?_
        refine w_getI ff_X9_103 rfl rfl dX9_number_21 ?_
        rw [show (I1 10 0 0 7 : Int32) = va9 from hva.symm]
        refine w_iload_n dX9_number_24 rfl ?_
        refine w_iload_n dX9_number_25 rfl ?_
        refine w_callSN (as := [vI (va9), vI (lo9), vI (hi9)]) (st := []) (Tri.mono (c_X10_within (va9) (lo9) (hi9)) (Nat.le_of_ble_eq_true rfl)) tg_X10_within ln_X9_106 sa_X10_within rfl dX9_number_26 rfl (Nat.le_of_ble_eq_true rfl) (Nat.le_refl _) (Nat.le_refl _) ?_
        rintro _ _ ⟨rfl, rfl⟩ -
        refine w_top (y := bI (lo9.toInt ≤ va9.toInt ∧ va9.toInt ≤ hi9.toInt)) (show (bI ((lo9) ≤ (va9) ∧ (va9) ≤ (hi9)) : Int32) = bI (lo9.toInt ≤ va9.toInt ∧ va9.toInt ≤ hi9.toInt) from wiZ (X := va9.toInt) (A := lo9.toInt) (B := hi9.toInt) rfl rfl rfl) ?_
        refine w_ifne_b (tgt := 37) dX9_number_29 (by decide) (fun h2 => ?_) (fun h2 => ?_)
        · skip
          first
          | (exfalso; omega)
          | skip
            refine w_aload_n dX9_number_37 rfl ?_
            refine w_getI ff_X9_103 rfl rfl dX9_number_38 ?_
            rw [show (I1 10 0 0 7 : Int32) = va9 from hva.symm]
            exact w_ireturn dX9_number_41 rfl (rfl) rfl (⟨_, rfl, _, rfl, g1, g2, fun q z => by cases z⟩)
        · skip
          first
          | (exfalso; omega)
          | skip
            refine w_aload_n dX9_number_32 rfl ?_
            refine w_iconst (v := 3) dX9_number_33 (by decide) ?_
            refine w_callV (as := [vI (3)]) (st := []) (Tri.mono (c_failD (I := I1) ⟨hou.1, hou.2.1⟩ g1.1 (3)) (Nat.le_of_ble_eq_true rfl)) rfl rfl tg_X9_fail lk_X9_61 in_X9_fail se_X9_fail rfl dX9_number_34 rfl (Nat.le_of_ble_eq_true rfl) (Nat.le_refl _) (Nat.le_refl _) ?_
            rintro _ _ ⟨rfl, rfl⟩ -
            refine w_aload_n dX9_number_37 rfl ?_
            refine w_getI ff_X9_103 rfl rfl dX9_number_38 ?_
            rw [show (I1 10 0 0 7 : Int32) = va9 from hva.symm]
            exact w_ireturn dX9_number_41 rfl (rfl) rfl (⟨_, rfl, _, rfl, g1, g2, fun q z => by cases z⟩)
    · skip
      replace h1 : ¬ (tk9.toInt = 2) := fun q => h1 ((zeq rfl (by decide)).mpr q)
      first
      | (exfalso; omega)
      | skip
        refine w_aload_n dX9_number_12 rfl ?_
        refine w_iconst (v := 2) dX9_number_13 (by decide) ?_
        refine w_callV (as := [vI (2)]) (st := []) (Tri.mono (c_failD (I := I1) ⟨hou.1, hou.2.1⟩ g1.1 (2)) (Nat.le_of_ble_eq_true rfl)) rfl rfl tg_X9_fail lk_X9_61 in_X9_fail se_X9_fail rfl dX9_number_14 rfl (Nat.le_of_ble_eq_true rfl) (Nat.le_refl _) (Nat.le_refl _) ?_
        rintro _ _ ⟨rfl, rfl⟩ -
        refine w_goto (tgt := 37) dX9_number_17 (by decide) ?_
        refine w_aload_n dX9_number_37 rfl ?_
        refine w_getI ff_X9_103 rfl rfl dX9_number_38 ?_
        rw [show (I1 10 0 0 7 : Int32) = va9 from hva.symm]
        exact w_ireturn dX9_number_41 rfl (rfl) rfl (⟨_, rfl, _, rfl, g1, g2, fun q z => by cases z⟩)
  · skip
    obtain ⟨g4, g5, g6, g7, g8, g9⟩ : so ≤ 3 ∧ st ≤ n ∧ nx ≤ n ∧ v ≤ 99 ∧ st ≤ nx ∧ (so = 0 ∨ (st < nx ∧ st < n)) := hou
    obtain ⟨c2, c4, c5, c6, c7⟩ := id g1
    have hl2 := hl _ rfl
    refine w_aload_n dX9_number_4 rfl ?_
    refine w_getI ff_X9_40 rfl rfl dX9_number_5 ?_
    rw [show (I1 10 0 0 4 : Int32) = nI so from c4]
    refine w_iconst (v := 2) dX9_number_8 (by decide) ?_
    refine w_icmp_eq (tgt := 20) dX9_number_9 (by decide) (fun h1 => ?_) (fun h1 => ?_)
    · skip
      replace h1 : ((so : Nat) : Int) = 2 := (zeq (z_nI (by omega)) (by decide)).mp h1
      obtain rfl : so = 2 := by omega
      refine w_aload_n dX9_number_20 rfl ?_
      refine w_getI ff_X9_103 rfl rfl dX9_number_21 ?_
      rw [show (I1 10 0 0 7 : Int32) = nI v from (c7 rfl)]
      refine w_iload_n dX9_number_24 rfl ?_
      refine w_iload_n dX9_number_25 rfl ?_
      refine w_callSN (as := [vI (nI v), vI (lo9), vI (hi9)]) (st := []) (Tri.mono (c_X10_within (nI v) lo9 hi9) (Nat.le_of_ble_eq_true rfl)) tg_X10_within ln_X9_106 sa_X10_within rfl dX9_number_26 rfl (Nat.le_of_ble_eq_true rfl) (Nat.le_refl _) (Nat.le_refl _) ?_
      rintro _ _ ⟨rfl, rfl⟩ -
      refine w_top (y := bI ((lo : Int) ≤ ((v : Nat) : Int) ∧ ((v : Nat) : Int) ≤ (hi : Int))) (show (bI (lo9 ≤ nI v ∧ nI v ≤ hi9) : Int32) = bI ((lo : Int) ≤ ((v : Nat) : Int) ∧ ((v : Nat) : Int) ≤ (hi : Int)) from wiZ (X := ((v : Nat) : Int)) (A := lo) (B := hi) (z_nI (by omega)) hl2 e2) ?_
      refine w_ifne_b (tgt := 37) dX9_number_29 (by decide) (fun h2 => ?_) (fun h2 => ?_)
      · skip
        unfold pN9
        rw [ch_b (by omega)]
        refine w_aload_n dX9_number_37 rfl ?_
        refine w_getI ff_X9_103 rfl rfl dX9_number_38 ?_
        rw [show (I1 10 0 0 7 : Int32) = nI v from (c7 rfl)]
        exact w_ireturn dX9_number_41 rfl (rfl) rfl (⟨_, rfl, _, rfl, g1, g2, fun q z => rfl⟩)
      · skip
        unfold pN9
        rw [ch_c (by omega)]
        refine w_aload_n dX9_number_32 rfl ?_
        refine w_iconst (v := 3) dX9_number_33 (by decide) ?_
        refine w_callV (as := [vI (3)]) (st := []) (Tri.mono (c_failL (I := I1) c2 c5 (3)) (Nat.le_of_ble_eq_true rfl)) rfl rfl tg_X9_fail lk_X9_61 in_X9_fail se_X9_fail rfl dX9_number_34 rfl (Nat.le_of_ble_eq_true rfl) (Nat.le_refl _) (Nat.le_refl _) ?_
        rintro _ _ ⟨rfl, rfl⟩ -
        refine w_aload_n dX9_number_37 rfl ?_
        refine w_getI ff_X9_103 rfl rfl dX9_number_38 ?_
        rw [show ((xup (xup I1 10 0 0 2 (3)) 10 0 0 3 (nI st)) 10 0 0 7 : Int32) = nI v from ((xup_slot (by decide)).trans ((xup_slot (by decide)).trans (c7 rfl)))]
        exact w_ireturn dX9_number_41 rfl (rfl) rfl (⟨_, rfl, _, rfl, ⟨(xup_slot (by decide)).trans xup_self, xup_self⟩, ((g2.up (by decide)).up (by decide)), fun q z => by cases z⟩)
    · skip
      replace h1 : ¬ (((so : Nat) : Int) = 2) := fun q => h1 ((zeq (z_nI (by omega)) (by decide)).mpr q)
      unfold pN9
      rw [ch_a (by omega)]
      refine w_aload_n dX9_number_12 rfl ?_
      refine w_iconst (v := 2) dX9_number_13 (by decide) ?_
      refine w_callV (as := [vI (2)]) (st := []) (Tri.mono (c_failL (I := I1) c2 c5 (2)) (Nat.le_of_ble_eq_true rfl)) rfl rfl tg_X9_fail lk_X9_61 in_X9_fail se_X9_fail rfl dX9_number_14 rfl (Nat.le_of_ble_eq_true rfl) (Nat.le_refl _) (Nat.le_refl _) ?_
      rintro _ _ ⟨rfl, rfl⟩ -
      refine w_goto (tgt := 37) dX9_number_17 (by decide) ?_
      refine w_aload_n dX9_number_37 rfl ?_
      refine w_getI ff_X9_103 rfl rfl dX9_number_38 ?_
      rw [show ((xup (xup I1 10 0 0 2 (2)) 10 0 0 3 (nI st)) 10 0 0 7 : Int32) = va9 from ((xup_slot (by decide)).trans ((xup_slot (by decide)).trans hva.symm))]
      exact w_ireturn dX9_number_41 rfl (rfl) rfl (⟨_, rfl, _, rfl, ⟨(xup_slot (by decide)).trans xup_self, xup_self⟩, ((g2.up (by decide)).up (by decide)), fun q z => by cases z⟩)

theorem c_wordOf0 {I : xF4 Int32} {L : xF4 Int64} : Tri 0 109 m_X9_wordOf [vI (0)] (rM I L) (fun v M => v = some (vS 0) ∧ M = rM I L) := by
  refine ⟨k_X9_wordOf, Nat.le_of_ble_eq_true rfl, ?_⟩
  show Wp _ _ _ 0 [some (vI (0))] [] (rM I L) _
  refine w_iload_n dX9_wordOf_0 rfl ?_
  refine w_tabIn (off := 47) (tgt := 48) dX9_wordOf_1 (by decide) (by decide) rfl (by decide) ?_
  refine w_ldcS (k := 0) rfl rfl dX9_wordOf_48 ?_
  exact w_areturn dX9_wordOf_50 rfl rfl (⟨rfl, rfl⟩)

theorem c_wordOf1 {I : xF4 Int32} {L : xF4 Int64} : Tri 0 109 m_X9_wordOf [vI (1)] (rM I L) (fun v M => v = some (vS 1) ∧ M = rM I L) := by
  refine ⟨k_X9_wordOf, Nat.le_of_ble_eq_true rfl, ?_⟩
  show Wp _ _ _ 0 [some (vI (1))] [] (rM I L) _
  refine w_iload_n dX9_wordOf_0 rfl ?_
  refine w_tabIn (off := 50) (tgt := 51) dX9_wordOf_1 (by decide) (by decide) rfl (by decide) ?_
  refine w_ldcS (k := 1) rfl rfl dX9_wordOf_51 ?_
  exact w_areturn dX9_wordOf_53 rfl rfl (⟨rfl, rfl⟩)

theorem c_wordOf2 {I : xF4 Int32} {L : xF4 Int64} : Tri 0 109 m_X9_wordOf [vI (2)] (rM I L) (fun v M => v = some (vS 2) ∧ M = rM I L) := by
  refine ⟨k_X9_wordOf, Nat.le_of_ble_eq_true rfl, ?_⟩
  show Wp _ _ _ 0 [some (vI (2))] [] (rM I L) _
  refine w_iload_n dX9_wordOf_0 rfl ?_
  refine w_tabIn (off := 53) (tgt := 54) dX9_wordOf_1 (by decide) (by decide) rfl (by decide) ?_
  refine w_ldcS (k := 2) rfl rfl dX9_wordOf_54 ?_
  exact w_areturn dX9_wordOf_56 rfl rfl (⟨rfl, rfl⟩)

theorem c_wordOf3 {I : xF4 Int32} {L : xF4 Int64} : Tri 0 109 m_X9_wordOf [vI (3)] (rM I L) (fun v M => v = some (vS 3) ∧ M = rM I L) := by
  refine ⟨k_X9_wordOf, Nat.le_of_ble_eq_true rfl, ?_⟩
  show Wp _ _ _ 0 [some (vI (3))] [] (rM I L) _
  refine w_iload_n dX9_wordOf_0 rfl ?_
  refine w_tabIn (off := 56) (tgt := 57) dX9_wordOf_1 (by decide) (by decide) rfl (by decide) ?_
  refine w_ldcS (k := 3) rfl rfl dX9_wordOf_57 ?_
  exact w_areturn dX9_wordOf_59 rfl rfl (⟨rfl, rfl⟩)

theorem c_wordOf4 {I : xF4 Int32} {L : xF4 Int64} : Tri 0 109 m_X9_wordOf [vI (4)] (rM I L) (fun v M => v = some (vS 4) ∧ M = rM I L) := by
  refine ⟨k_X9_wordOf, Nat.le_of_ble_eq_true rfl, ?_⟩
  show Wp _ _ _ 0 [some (vI (4))] [] (rM I L) _
  refine w_iload_n dX9_wordOf_0 rfl ?_
  refine w_tabIn (off := 59) (tgt := 60) dX9_wordOf_1 (by decide) (by decide) rfl (by decide) ?_
  refine w_ldcS (k := 4) rfl rfl dX9_wordOf_60 ?_
  exact w_areturn dX9_wordOf_62 rfl rfl (⟨rfl, rfl⟩)

theorem c_wordOf5 {I : xF4 Int32} {L : xF4 Int64} : Tri 0 109 m_X9_wordOf [vI (5)] (rM I L) (fun v M => v = some (vS 5) ∧ M = rM I L) := by
  refine ⟨k_X9_wordOf, Nat.le_of_ble_eq_true rfl, ?_⟩
  show Wp _ _ _ 0 [some (vI (5))] [] (rM I L) _
  refine w_iload_n dX9_wordOf_0 rfl ?_
  refine w_tabIn (off := 62) (tgt := 63) dX9_wordOf_1 (by decide) (by decide) rfl (by decide) ?_
  refine w_ldcS (k := 5) rfl rfl dX9_wordOf_63 ?_
  exact w_areturn dX9_wordOf_65 rfl rfl (⟨rfl, rfl⟩)

theorem c_wordOf6 {I : xF4 Int32} {L : xF4 Int64} : Tri 0 109 m_X9_wordOf [vI (6)] (rM I L) (fun v M => v = some (vS 6) ∧ M = rM I L) := by
  refine ⟨k_X9_wordOf, Nat.le_of_ble_eq_true rfl, ?_⟩
  show Wp _ _ _ 0 [some (vI (6))] [] (rM I L) _
  refine w_iload_n dX9_wordOf_0 rfl ?_
  refine w_tabIn (off := 65) (tgt := 66) dX9_wordOf_1 (by decide) (by decide) rfl (by decide) ?_
  refine w_ldcS (k := 6) rfl rfl dX9_wordOf_66 ?_
  exact w_areturn dX9_wordOf_68 rfl rfl (⟨rfl, rfl⟩)

theorem c_wordOf7 {I : xF4 Int32} {L : xF4 Int64} : Tri 0 109 m_X9_wordOf [vI (7)] (rM I L) (fun v M => v = some (vS 7) ∧ M = rM I L) := by
  refine ⟨k_X9_wordOf, Nat.le_of_ble_eq_true rfl, ?_⟩
  show Wp _ _ _ 0 [some (vI (7))] [] (rM I L) _
  refine w_iload_n dX9_wordOf_0 rfl ?_
  refine w_tabIn (off := 68) (tgt := 69) dX9_wordOf_1 (by decide) (by decide) rfl (by decide) ?_
  refine w_ldcS (k := 7) rfl rfl dX9_wordOf_69 ?_
  exact w_areturn dX9_wordOf_71 rfl rfl (⟨rfl, rfl⟩)

theorem c_wordOf8 {I : xF4 Int32} {L : xF4 Int64} : Tri 0 109 m_X9_wordOf [vI (8)] (rM I L) (fun v M => v = some (vS 8) ∧ M = rM I L) := by
  refine ⟨k_X9_wordOf, Nat.le_of_ble_eq_true rfl, ?_⟩
  show Wp _ _ _ 0 [some (vI (8))] [] (rM I L) _
  refine w_iload_n dX9_wordOf_0 rfl ?_
  refine w_tabOut (tgt := 72) dX9_wordOf_1 (by decide) (by decide) ?_
  refine w_ldcS (k := 8) rfl rfl dX9_wordOf_72 ?_
  exact w_areturn dX9_wordOf_74 rfl rfl (⟨rfl, rfl⟩)

theorem l_spells {I : xF4 Int32} {L : xF4 Int64} {n : Nat} {b : Nat → Nat} (hk : BK n b) (ht : TB I n b) {st nx : Nat} (z5 : I 10 0 0 5 = nI st) (z6 : I 10 0 0 6 = nI nx) (hst : st ≤ nx) (hnx : nx ≤ n) {k : Nat} (hk9 : k < 9) (hnl : nx = st + wLen k) : ∀ (m i : Nat), i + m = wLen k → (∀ j, j < i → nI (b (st + j)) = wCh k j) → Wp 5 109 m_X9_spells 20 [some (vR 10 0 0), some (vS (k)), some (vI (nI i))] [] (rM I L) (pI (bI (spT b k st nx)) I L) := by
  obtain ⟨k1, k2⟩ := id hk
  obtain ⟨l6, l3⟩ := wLen_le k hk9
  intro m
  induction m with
  | zero =>
    intro i hi7 ha
    refine w_iload_n dX9_spells_20 rfl ?_
    refine w_aload_n dX9_spells_21 rfl ?_
    refine w_callT (as := []) (st := [vI (nI i)]) (Tri.mono (c_slen hk9) (Nat.le_of_ble_eq_true rfl)) hk9 rfl tg_J0_length_8abf5 lk_X9_132 in_J0_length_8abf5 se_J0_length_8abf5 rfl dX9_spells_22 rfl (Nat.le_of_ble_eq_true rfl) (Nat.le_refl _) (Nat.le_refl _) ?_
    rintro _ _ ⟨rfl, rfl⟩ -
    refine w_icmp_ge (tgt := 54) dX9_spells_25 (by decide) (fun _ => ?_) (fun h => absurd (nI_le (by omega) (by omega)) h)
    refine w_iconst (v := 1) dX9_spells_54 (by decide) ?_
    exact w_ireturn dX9_spells_55 rfl (rfl) rfl (⟨congrArg (fun z => some (vI z)) (bI_t ⟨hnl, fun j hj => ha j (by omega)⟩).symm, rfl⟩)
  | succ m ih =>
    intro i hi7 ha
    have hin : i < wLen k := by omega
    refine w_iload_n dX9_spells_20 rfl ?_
    refine w_aload_n dX9_spells_21 rfl ?_
    refine w_callT (as := []) (st := [vI (nI i)]) (Tri.mono (c_slen hk9) (Nat.le_of_ble_eq_true rfl)) hk9 rfl tg_J0_length_8abf5 lk_X9_132 in_J0_length_8abf5 se_J0_length_8abf5 rfl dX9_spells_22 rfl (Nat.le_of_ble_eq_true rfl) (Nat.le_refl _) (Nat.le_refl _) ?_
    rintro _ _ ⟨rfl, rfl⟩ -
    refine w_icmp_ge (tgt := 54) dX9_spells_25 (by decide) (fun h => absurd h (nI_ge hin (by omega))) (fun _ => ?_)
    refine w_aload_n dX9_spells_28 rfl ?_
    refine w_aload_n dX9_spells_29 rfl ?_
    refine w_getI ff_X9_110 rfl rfl dX9_spells_30 ?_
    rw [show (I 10 0 0 5 : Int32) = nI st from z5]
    refine w_iload_n dX9_spells_33 rfl ?_
    refine w_iadd dX9_spells_34 ?_
    rw [show ((nI st) + (nI i) : Int32) = nI (st + i) from ar_add (p := st) (q := i) rfl rfl (by omega)]
    refine w_callV (as := [vI (nI (st + i))]) (st := []) (Tri.mono (c_byteAt hk ht (i := st + i) (by omega)) (Nat.le_of_ble_eq_true rfl)) rfl rfl tg_X9_byteAt lk_X9_117 in_X9_byteAt se_X9_byteAt rfl dX9_spells_35 rfl (Nat.le_of_ble_eq_true rfl) (Nat.le_refl _) (Nat.le_refl _) ?_
    rintro _ _ ⟨rfl, rfl⟩ -
    refine w_aload_n dX9_spells_38 rfl ?_
    refine w_iload_n dX9_spells_39 rfl ?_
    refine w_callT (as := [vI (nI i)]) (st := [vI (nI (b (st + i)))]) (Tri.mono (c_char hk9 hin) (Nat.le_of_ble_eq_true rfl)) hk9 rfl tg_J0_charAt_5068e lk_X9_136 in_J0_charAt_5068e se_J0_charAt_5068e rfl dX9_spells_40 rfl (Nat.le_of_ble_eq_true rfl) (Nat.le_refl _) (Nat.le_refl _) ?_
    rintro _ _ ⟨rfl, rfl⟩ -
    refine w_icmp_eq (tgt := 48) dX9_spells_43 (by decide) (fun h1 => ?_) (fun h1 => ?_)
    · skip
      refine w_iinc (v := nI (i + 1)) (ls' := [some (vR 10 0 0), some (vS (k)), some (vI (nI (i + 1)))]) dX9_spells_48 rfl (nI_1 _) rfl ?_
      refine w_goto (tgt := 20) dX9_spells_51 (by decide) ?_
      exact ih (i + 1) (by omega) (fun j hj => by
        by_cases e : j = i
        · subst e; exact h1
        · exact ha j (by omega))
    · skip
      refine w_iconst (v := 0) dX9_spells_46 (by decide) ?_
      exact w_ireturn dX9_spells_47 rfl (rfl) rfl (⟨congrArg (fun z => some (vI z)) (bI_f (fun z => h1 (z.2 i hin))).symm, rfl⟩)

theorem c_spells {I : xF4 Int32} {L : xF4 Int64} {n : Nat} {b : Nat → Nat} (hk : BK n b) (ht : TB I n b) {st nx : Nat} (z5 : I 10 0 0 5 = nI st) (z6 : I 10 0 0 6 = nI nx) (hst : st ≤ nx) (hnx : nx ≤ n) {k : Nat} (hk9 : k < 9) : Tri 5 109 m_X9_spells [vR 10 0 0, vS (k)] (rM I L) (pI (bI (spT b k st nx)) I L) := by
  refine ⟨k_X9_spells, Nat.le_of_ble_eq_true rfl, ?_⟩
  show Wp _ _ _ 0 [some (vR 10 0 0), some (vS (k)), none] [] (rM I L) _
  obtain ⟨k1, k2⟩ := id hk
  obtain ⟨l6, l3⟩ := wLen_le k hk9
  refine w_aload_n dX9_spells_0 rfl ?_
  refine w_getI ff_X9_30 rfl rfl dX9_spells_1 ?_
  rw [show (I 10 0 0 6 : Int32) = nI nx from z6]
  refine w_aload_n dX9_spells_4 rfl ?_
  refine w_getI ff_X9_110 rfl rfl dX9_spells_5 ?_
  rw [show (I 10 0 0 5 : Int32) = nI st from z5]
  refine w_isub dX9_spells_8 ?_
  refine w_aload_n dX9_spells_9 rfl ?_
  refine w_callT (as := []) (st := [vI ((nI nx) - (nI st))]) (Tri.mono (c_slen hk9) (Nat.le_of_ble_eq_true rfl)) hk9 rfl tg_J0_length_8abf5 lk_X9_132 in_J0_length_8abf5 se_J0_length_8abf5 rfl dX9_spells_10 rfl (Nat.le_of_ble_eq_true rfl) (Nat.le_refl _) (Nat.le_refl _) ?_
  rintro _ _ ⟨rfl, rfl⟩ -
  refine w_icmp_eq (tgt := 18) dX9_spells_13 (by decide) (fun h1 => ?_) (fun h1 => ?_)
  · skip
    replace h1 : ((nx : Nat) : Int) - ((st : Nat) : Int) = ((wLen k : Nat) : Int) := (zeq (z_sub (a := nx) (b := st) (by omega) (by omega)) (z_nI (by omega))).mp h1
    first
    | (exfalso; omega)
    | skip
      refine w_iconst (v := 0) dX9_spells_18 (by decide) ?_
      refine w_istore_n (ls' := [some (vR 10 0 0), some (vS (k)), some (vI (0))]) dX9_spells_19 rfl ?_
      exact l_spells hk ht z5 z6 hst hnx hk9 (by omega) (wLen k) 0 (Nat.zero_add _) (fun j hj => absurd hj (Nat.not_lt_zero _))
  · skip
    replace h1 : ¬ (((nx : Nat) : Int) - ((st : Nat) : Int) = ((wLen k : Nat) : Int)) := fun q => h1 ((zeq (z_sub (a := nx) (b := st) (by omega) (by omega)) (z_nI (by omega))).mpr q)
    first
    | (exfalso; omega)
    | skip
      refine w_iconst (v := 0) dX9_spells_16 (by decide) ?_
      exact w_ireturn dX9_spells_17 rfl (rfl) rfl (⟨congrArg (fun z => some (vI z)) (bI_f (fun z => h1 (by have := z.1; omega))).symm, rfl⟩)

theorem c_word {I : xF4 Int32} {L : xF4 Int64} {n : Nat} {b : Nat → Nat} (hk : BK n b) (ht : TB I n b) {st nx : Nat} (z5 : I 10 0 0 5 = nI st) (z6 : I 10 0 0 6 = nI nx) (hst : st ≤ nx) (hnx : nx ≤ n)  : Tri 6 109 m_X9_wordThere [vR 10 0 0] (rM I L) (pI (nI (wdT b st nx)) I L) := by
  refine ⟨k_X9_wordThere, Nat.le_of_ble_eq_true rfl, ?_⟩
  show Wp _ _ _ 0 [some (vR 10 0 0), none] [] (rM I L) _
  refine w_iconst (v := 0) dX9_wordThere_0 (by decide) ?_
  refine w_istore_n (ls' := [some (vR 10 0 0), some (vI (0))]) dX9_wordThere_1 rfl ?_
  refine w_iload_n dX9_wordThere_2 rfl ?_
  refine w_bipush (v := 9) dX9_wordThere_3 (by decide) ?_
  refine w_icmp_ge (tgt := 27) dX9_wordThere_5 (by decide) (fun h => absurd h (by decide)) (fun _ => ?_)
  refine w_aload_n dX9_wordThere_8 rfl ?_
  refine w_iload_n dX9_wordThere_9 rfl ?_
  refine w_callS (as := [vI (0)]) (st := [vR 10 0 0]) (Tri.mono (c_wordOf0) (Nat.le_of_ble_eq_true rfl)) tg_X9_wordOf lk_X9_124 sa_X9_wordOf rfl dX9_wordThere_10 rfl (Nat.le_of_ble_eq_true rfl) (Nat.le_refl _) (Nat.le_refl _) ?_
  rintro _ _ ⟨rfl, rfl⟩ -
  refine w_callV (as := [vS (0)]) (st := []) (Tri.mono (c_spells hk ht z5 z6 hst hnx (k := 0) (by decide)) (Nat.le_of_ble_eq_true rfl)) rfl rfl tg_X9_spells lk_X9_128 in_X9_spells se_X9_spells rfl dX9_wordThere_13 rfl (Nat.le_of_ble_eq_true rfl) (Nat.le_refl _) (Nat.le_refl _) ?_
  rintro _ _ ⟨rfl, rfl⟩ -
  refine w_ifeq_b (tgt := 21) dX9_wordThere_16 (by decide) (fun h1 => ?_) (fun h1 => ?_)
  · skip
    first
    | (exfalso; omega)
    | skip
      refine w_iinc (v := 1) (ls' := [some (vR 10 0 0), some (vI (1))]) dX9_wordThere_21 rfl (by decide) rfl ?_
      refine w_goto (tgt := 2) dX9_wordThere_24 (by decide) ?_
      refine w_iload_n dX9_wordThere_2 rfl ?_
      refine w_bipush (v := 9) dX9_wordThere_3 (by decide) ?_
      refine w_icmp_ge (tgt := 27) dX9_wordThere_5 (by decide) (fun h => absurd h (by decide)) (fun _ => ?_)
      refine w_aload_n dX9_wordThere_8 rfl ?_
      refine w_iload_n dX9_wordThere_9 rfl ?_
      refine w_callS (as := [vI (1)]) (st := [vR 10 0 0]) (Tri.mono (c_wordOf1) (Nat.le_of_ble_eq_true rfl)) tg_X9_wordOf lk_X9_124 sa_X9_wordOf rfl dX9_wordThere_10 rfl (Nat.le_of_ble_eq_true rfl) (Nat.le_refl _) (Nat.le_refl _) ?_
      rintro _ _ ⟨rfl, rfl⟩ -
      refine w_callV (as := [vS (1)]) (st := []) (Tri.mono (c_spells hk ht z5 z6 hst hnx (k := 1) (by decide)) (Nat.le_of_ble_eq_true rfl)) rfl rfl tg_X9_spells lk_X9_128 in_X9_spells se_X9_spells rfl dX9_wordThere_13 rfl (Nat.le_of_ble_eq_true rfl) (Nat.le_refl _) (Nat.le_refl _) ?_
      rintro _ _ ⟨rfl, rfl⟩ -
      refine w_ifeq_b (tgt := 21) dX9_wordThere_16 (by decide) (fun h2 => ?_) (fun h2 => ?_)
      · skip
        first
        | (exfalso; omega)
        | skip
          refine w_iinc (v := 2) (ls' := [some (vR 10 0 0), some (vI (2))]) dX9_wordThere_21 rfl (by decide) rfl ?_
          refine w_goto (tgt := 2) dX9_wordThere_24 (by decide) ?_
          refine w_iload_n dX9_wordThere_2 rfl ?_
          refine w_bipush (v := 9) dX9_wordThere_3 (by decide) ?_
          refine w_icmp_ge (tgt := 27) dX9_wordThere_5 (by decide) (fun h => absurd h (by decide)) (fun _ => ?_)
          refine w_aload_n dX9_wordThere_8 rfl ?_
          refine w_iload_n dX9_wordThere_9 rfl ?_
          refine w_callS (as := [vI (2)]) (st := [vR 10 0 0]) (Tri.mono (c_wordOf2) (Nat.le_of_ble_eq_true rfl)) tg_X9_wordOf lk_X9_124 sa_X9_wordOf rfl dX9_wordThere_10 rfl (Nat.le_of_ble_eq_true rfl) (Nat.le_refl _) (Nat.le_refl _) ?_
          rintro _ _ ⟨rfl, rfl⟩ -
          refine w_callV (as := [vS (2)]) (st := []) (Tri.mono (c_spells hk ht z5 z6 hst hnx (k := 2) (by decide)) (Nat.le_of_ble_eq_true rfl)) rfl rfl tg_X9_spells lk_X9_128 in_X9_spells se_X9_spells rfl dX9_wordThere_13 rfl (Nat.le_of_ble_eq_true rfl) (Nat.le_refl _) (Nat.le_refl _) ?_
          rintro _ _ ⟨rfl, rfl⟩ -
          refine w_ifeq_b (tgt := 21) dX9_wordThere_16 (by decide) (fun h3 => ?_) (fun h3 => ?_)
          · skip
            first
            | (exfalso; omega)
            | skip
              refine w_iinc (v := 3) (ls' := [some (vR 10 0 0), some (vI (3))]) dX9_wordThere_21 rfl (by decide) rfl ?_
              refine w_goto (tgt := 2) dX9_wordThere_24 (by decide) ?_
              refine w_iload_n dX9_wordThere_2 rfl ?_
              refine w_bipush (v := 9) dX9_wordThere_3 (by decide) ?_
              refine w_icmp_ge (tgt := 27) dX9_wordThere_5 (by decide) (fun h => absurd h (by decide)) (fun _ => ?_)
              refine w_aload_n dX9_wordThere_8 rfl ?_
              refine w_iload_n dX9_wordThere_9 rfl ?_
              refine w_callS (as := [vI (3)]) (st := [vR 10 0 0]) (Tri.mono (c_wordOf3) (Nat.le_of_ble_eq_true rfl)) tg_X9_wordOf lk_X9_124 sa_X9_wordOf rfl dX9_wordThere_10 rfl (Nat.le_of_ble_eq_true rfl) (Nat.le_refl _) (Nat.le_refl _) ?_
              rintro _ _ ⟨rfl, rfl⟩ -
              refine w_callV (as := [vS (3)]) (st := []) (Tri.mono (c_spells hk ht z5 z6 hst hnx (k := 3) (by decide)) (Nat.le_of_ble_eq_true rfl)) rfl rfl tg_X9_spells lk_X9_128 in_X9_spells se_X9_spells rfl dX9_wordThere_13 rfl (Nat.le_of_ble_eq_true rfl) (Nat.le_refl _) (Nat.le_refl _) ?_
              rintro _ _ ⟨rfl, rfl⟩ -
              refine w_ifeq_b (tgt := 21) dX9_wordThere_16 (by decide) (fun h4 => ?_) (fun h4 => ?_)
              · skip
                first
                | (exfalso; omega)
                | skip
                  refine w_iinc (v := 4) (ls' := [some (vR 10 0 0), some (vI (4))]) dX9_wordThere_21 rfl (by decide) rfl ?_
                  refine w_goto (tgt := 2) dX9_wordThere_24 (by decide) ?_
                  refine w_iload_n dX9_wordThere_2 rfl ?_
                  refine w_bipush (v := 9) dX9_wordThere_3 (by decide) ?_
                  refine w_icmp_ge (tgt := 27) dX9_wordThere_5 (by decide) (fun h => absurd h (by decide)) (fun _ => ?_)
                  refine w_aload_n dX9_wordThere_8 rfl ?_
                  refine w_iload_n dX9_wordThere_9 rfl ?_
                  refine w_callS (as := [vI (4)]) (st := [vR 10 0 0]) (Tri.mono (c_wordOf4) (Nat.le_of_ble_eq_true rfl)) tg_X9_wordOf lk_X9_124 sa_X9_wordOf rfl dX9_wordThere_10 rfl (Nat.le_of_ble_eq_true rfl) (Nat.le_refl _) (Nat.le_refl _) ?_
                  rintro _ _ ⟨rfl, rfl⟩ -
                  refine w_callV (as := [vS (4)]) (st := []) (Tri.mono (c_spells hk ht z5 z6 hst hnx (k := 4) (by decide)) (Nat.le_of_ble_eq_true rfl)) rfl rfl tg_X9_spells lk_X9_128 in_X9_spells se_X9_spells rfl dX9_wordThere_13 rfl (Nat.le_of_ble_eq_true rfl) (Nat.le_refl _) (Nat.le_refl _) ?_
                  rintro _ _ ⟨rfl, rfl⟩ -
                  refine w_ifeq_b (tgt := 21) dX9_wordThere_16 (by decide) (fun h5 => ?_) (fun h5 => ?_)
                  · skip
                    first
                    | (exfalso; omega)
                    | skip
                      refine w_iinc (v := 5) (ls' := [some (vR 10 0 0), some (vI (5))]) dX9_wordThere_21 rfl (by decide) rfl ?_
                      refine w_goto (tgt := 2) dX9_wordThere_24 (by decide) ?_
                      refine w_iload_n dX9_wordThere_2 rfl ?_
                      refine w_bipush (v := 9) dX9_wordThere_3 (by decide) ?_
                      refine w_icmp_ge (tgt := 27) dX9_wordThere_5 (by decide) (fun h => absurd h (by decide)) (fun _ => ?_)
                      refine w_aload_n dX9_wordThere_8 rfl ?_
                      refine w_iload_n dX9_wordThere_9 rfl ?_
                      refine w_callS (as := [vI (5)]) (st := [vR 10 0 0]) (Tri.mono (c_wordOf5) (Nat.le_of_ble_eq_true rfl)) tg_X9_wordOf lk_X9_124 sa_X9_wordOf rfl dX9_wordThere_10 rfl (Nat.le_of_ble_eq_true rfl) (Nat.le_refl _) (Nat.le_refl _) ?_
                      rintro _ _ ⟨rfl, rfl⟩ -
                      refine w_callV (as := [vS (5)]) (st := []) (Tri.mono (c_spells hk ht z5 z6 hst hnx (k := 5) (by decide)) (Nat.le_of_ble_eq_true rfl)) rfl rfl tg_X9_spells lk_X9_128 in_X9_spells se_X9_spells rfl dX9_wordThere_13 rfl (Nat.le_of_ble_eq_true rfl) (Nat.le_refl _) (Nat.le_refl _) ?_
                      rintro _ _ ⟨rfl, rfl⟩ -
                      refine w_ifeq_b (tgt := 21) dX9_wordThere_16 (by decide) (fun h6 => ?_) (fun h6 => ?_)
                      · skip
                        first
                        | (exfalso; omega)
                        | skip
                          refine w_iinc (v := 6) (ls' := [some (vR 10 0 0), some (vI (6))]) dX9_wordThere_21 rfl (by decide) rfl ?_
                          refine w_goto (tgt := 2) dX9_wordThere_24 (by decide) ?_
                          refine w_iload_n dX9_wordThere_2 rfl ?_
                          refine w_bipush (v := 9) dX9_wordThere_3 (by decide) ?_
                          refine w_icmp_ge (tgt := 27) dX9_wordThere_5 (by decide) (fun h => absurd h (by decide)) (fun _ => ?_)
                          refine w_aload_n dX9_wordThere_8 rfl ?_
                          refine w_iload_n dX9_wordThere_9 rfl ?_
                          refine w_callS (as := [vI (6)]) (st := [vR 10 0 0]) (Tri.mono (c_wordOf6) (Nat.le_of_ble_eq_true rfl)) tg_X9_wordOf lk_X9_124 sa_X9_wordOf rfl dX9_wordThere_10 rfl (Nat.le_of_ble_eq_true rfl) (Nat.le_refl _) (Nat.le_refl _) ?_
                          rintro _ _ ⟨rfl, rfl⟩ -
                          refine w_callV (as := [vS (6)]) (st := []) (Tri.mono (c_spells hk ht z5 z6 hst hnx (k := 6) (by decide)) (Nat.le_of_ble_eq_true rfl)) rfl rfl tg_X9_spells lk_X9_128 in_X9_spells se_X9_spells rfl dX9_wordThere_13 rfl (Nat.le_of_ble_eq_true rfl) (Nat.le_refl _) (Nat.le_refl _) ?_
                          rintro _ _ ⟨rfl, rfl⟩ -
                          refine w_ifeq_b (tgt := 21) dX9_wordThere_16 (by decide) (fun h7 => ?_) (fun h7 => ?_)
                          · skip
                            first
                            | (exfalso; omega)
                            | skip
                              refine w_iinc (v := 7) (ls' := [some (vR 10 0 0), some (vI (7))]) dX9_wordThere_21 rfl (by decide) rfl ?_
                              refine w_goto (tgt := 2) dX9_wordThere_24 (by decide) ?_
                              refine w_iload_n dX9_wordThere_2 rfl ?_
                              refine w_bipush (v := 9) dX9_wordThere_3 (by decide) ?_
                              refine w_icmp_ge (tgt := 27) dX9_wordThere_5 (by decide) (fun h => absurd h (by decide)) (fun _ => ?_)
                              refine w_aload_n dX9_wordThere_8 rfl ?_
                              refine w_iload_n dX9_wordThere_9 rfl ?_
                              refine w_callS (as := [vI (7)]) (st := [vR 10 0 0]) (Tri.mono (c_wordOf7) (Nat.le_of_ble_eq_true rfl)) tg_X9_wordOf lk_X9_124 sa_X9_wordOf rfl dX9_wordThere_10 rfl (Nat.le_of_ble_eq_true rfl) (Nat.le_refl _) (Nat.le_refl _) ?_
                              rintro _ _ ⟨rfl, rfl⟩ -
                              refine w_callV (as := [vS (7)]) (st := []) (Tri.mono (c_spells hk ht z5 z6 hst hnx (k := 7) (by decide)) (Nat.le_of_ble_eq_true rfl)) rfl rfl tg_X9_spells lk_X9_128 in_X9_spells se_X9_spells rfl dX9_wordThere_13 rfl (Nat.le_of_ble_eq_true rfl) (Nat.le_refl _) (Nat.le_refl _) ?_
                              rintro _ _ ⟨rfl, rfl⟩ -
                              refine w_ifeq_b (tgt := 21) dX9_wordThere_16 (by decide) (fun h8 => ?_) (fun h8 => ?_)
                              · skip
                                first
                                | (exfalso; omega)
                                | skip
                                  refine w_iinc (v := 8) (ls' := [some (vR 10 0 0), some (vI (8))]) dX9_wordThere_21 rfl (by decide) rfl ?_
                                  refine w_goto (tgt := 2) dX9_wordThere_24 (by decide) ?_
                                  refine w_iload_n dX9_wordThere_2 rfl ?_
                                  refine w_bipush (v := 9) dX9_wordThere_3 (by decide) ?_
                                  refine w_icmp_ge (tgt := 27) dX9_wordThere_5 (by decide) (fun h => absurd h (by decide)) (fun _ => ?_)
                                  refine w_aload_n dX9_wordThere_8 rfl ?_
                                  refine w_iload_n dX9_wordThere_9 rfl ?_
                                  refine w_callS (as := [vI (8)]) (st := [vR 10 0 0]) (Tri.mono (c_wordOf8) (Nat.le_of_ble_eq_true rfl)) tg_X9_wordOf lk_X9_124 sa_X9_wordOf rfl dX9_wordThere_10 rfl (Nat.le_of_ble_eq_true rfl) (Nat.le_refl _) (Nat.le_refl _) ?_
                                  rintro _ _ ⟨rfl, rfl⟩ -
                                  refine w_callV (as := [vS (8)]) (st := []) (Tri.mono (c_spells hk ht z5 z6 hst hnx (k := 8) (by decide)) (Nat.le_of_ble_eq_true rfl)) rfl rfl tg_X9_spells lk_X9_128 in_X9_spells se_X9_spells rfl dX9_wordThere_13 rfl (Nat.le_of_ble_eq_true rfl) (Nat.le_refl _) (Nat.le_refl _) ?_
                                  rintro _ _ ⟨rfl, rfl⟩ -
                                  refine w_ifeq_b (tgt := 21) dX9_wordThere_16 (by decide) (fun h9 => ?_) (fun h9 => ?_)
                                  · skip
                                    first
                                    | (exfalso; omega)
                                    | skip
                                      refine w_iinc (v := 9) (ls' := [some (vR 10 0 0), some (vI (9))]) dX9_wordThere_21 rfl (by decide) rfl ?_
                                      refine w_goto (tgt := 2) dX9_wordThere_24 (by decide) ?_
                                      refine w_iload_n dX9_wordThere_2 rfl ?_
                                      refine w_bipush (v := 9) dX9_wordThere_3 (by decide) ?_
                                      refine w_icmp_ge (tgt := 27) dX9_wordThere_5 (by decide) (fun _ => ?_) (fun h => absurd (by decide) h)
                                      refine w_bipush (v := 9) dX9_wordThere_27 (by decide) ?_
                                      rw [show wdT b st nx = 9 from by unfold wdT; rw [if_neg h1, if_neg h2, if_neg h3, if_neg h4, if_neg h5, if_neg h6, if_neg h7, if_neg h8, if_neg h9]]
                                      exact w_ireturn dX9_wordThere_29 rfl (rfl) rfl (⟨rfl, rfl⟩)
                                  · skip
                                    first
                                    | (exfalso; omega)
                                    | skip
                                      refine w_iload_n dX9_wordThere_19 rfl ?_
                                      rw [show wdT b st nx = 8 from by unfold wdT; rw [if_neg h1, if_neg h2, if_neg h3, if_neg h4, if_neg h5, if_neg h6, if_neg h7, if_neg h8, if_pos h9]]
                                      exact w_ireturn dX9_wordThere_20 rfl (rfl) rfl (⟨rfl, rfl⟩)
                              · skip
                                first
                                | (exfalso; omega)
                                | skip
                                  refine w_iload_n dX9_wordThere_19 rfl ?_
                                  rw [show wdT b st nx = 7 from by unfold wdT; rw [if_neg h1, if_neg h2, if_neg h3, if_neg h4, if_neg h5, if_neg h6, if_neg h7, if_pos h8]]
                                  exact w_ireturn dX9_wordThere_20 rfl (rfl) rfl (⟨rfl, rfl⟩)
                          · skip
                            first
                            | (exfalso; omega)
                            | skip
                              refine w_iload_n dX9_wordThere_19 rfl ?_
                              rw [show wdT b st nx = 6 from by unfold wdT; rw [if_neg h1, if_neg h2, if_neg h3, if_neg h4, if_neg h5, if_neg h6, if_pos h7]]
                              exact w_ireturn dX9_wordThere_20 rfl (rfl) rfl (⟨rfl, rfl⟩)
                      · skip
                        first
                        | (exfalso; omega)
                        | skip
                          refine w_iload_n dX9_wordThere_19 rfl ?_
                          rw [show wdT b st nx = 5 from by unfold wdT; rw [if_neg h1, if_neg h2, if_neg h3, if_neg h4, if_neg h5, if_pos h6]]
                          exact w_ireturn dX9_wordThere_20 rfl (rfl) rfl (⟨rfl, rfl⟩)
                  · skip
                    first
                    | (exfalso; omega)
                    | skip
                      refine w_iload_n dX9_wordThere_19 rfl ?_
                      rw [show wdT b st nx = 4 from by unfold wdT; rw [if_neg h1, if_neg h2, if_neg h3, if_neg h4, if_pos h5]]
                      exact w_ireturn dX9_wordThere_20 rfl (rfl) rfl (⟨rfl, rfl⟩)
              · skip
                first
                | (exfalso; omega)
                | skip
                  refine w_iload_n dX9_wordThere_19 rfl ?_
                  rw [show wdT b st nx = 3 from by unfold wdT; rw [if_neg h1, if_neg h2, if_neg h3, if_pos h4]]
                  exact w_ireturn dX9_wordThere_20 rfl (rfl) rfl (⟨rfl, rfl⟩)
          · skip
            first
            | (exfalso; omega)
            | skip
              refine w_iload_n dX9_wordThere_19 rfl ?_
              rw [show wdT b st nx = 2 from by unfold wdT; rw [if_neg h1, if_neg h2, if_pos h3]]
              exact w_ireturn dX9_wordThere_20 rfl (rfl) rfl (⟨rfl, rfl⟩)
      · skip
        first
        | (exfalso; omega)
        | skip
          refine w_iload_n dX9_wordThere_19 rfl ?_
          rw [show wdT b st nx = 1 from by unfold wdT; rw [if_neg h1, if_pos h2]]
          exact w_ireturn dX9_wordThere_20 rfl (rfl) rfl (⟨rfl, rfl⟩)
  · skip
    first
    | (exfalso; omega)
    | skip
      refine w_iload_n dX9_wordThere_19 rfl ?_
      rw [show wdT b st nx = 0 from by unfold wdT; rw [if_pos h1]]
      exact w_ireturn dX9_wordThere_20 rfl (rfl) rfl (⟨rfl, rfl⟩)
