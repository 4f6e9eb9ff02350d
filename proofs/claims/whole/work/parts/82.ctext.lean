/-! a text, by the class (by wip/whole/gen/g83.py) -/
theorem lex_st {n : Nat} {b : Nat → Nat} {p : Nat} {q : Nat × (Nat × (Nat × Nat))} (hp : p ≤ n) (h : lexT n b p = .inr q) : p ≤ q.2.1 := by
  obtain ⟨h1, -, -⟩ := bhd_le (n := n) (b := b) (lo := 32) (hi := 32) (n - p) p (by omega)
  by_cases q0 : bhd n b 32 32 p < n
  · by_cases q1 : 97 ≤ b (bhd n b 32 32 p) ∧ b (bhd n b 32 32 p) ≤ 122
    · rw [lex_1 rfl q0 q1 rfl] at h
      cases h
      exact h1
    · by_cases q2 : 48 ≤ b (bhd n b 32 32 p) ∧ b (bhd n b 32 32 p) ≤ 57
      · by_cases q3 : 2 < bhd n b 48 57 (bhd n b 32 32 p) - bhd n b 32 32 p
        · rw [lex_2b rfl q0 q2 rfl q3] at h
          cases h
        · rw [lex_2 rfl q0 q2 rfl q3] at h
          cases h
          exact h1
      · by_cases q3 : b (bhd n b 32 32 p) = 59
        · rw [lex_3 rfl q0 q3] at h
          cases h
          exact h1
        · rw [lex_b rfl q0 q1 q2 q3] at h
          cases h
  · rw [lex_0 rfl q0] at h
    cases h
    exact h1
theorem tk_st {n : Nat} {b : Nat → Nat} {q : Nat × (Nat × (Nat × Nat))} : ∀ {s : tS}, OKT n s → tkT n b s = .inr q → ∃ p, s = .inr p ∧ p.2.1 ≤ p.2.2.1 ∧ p.2.2.1 ≤ q.2.1
  | .inl _, _, h => by cases h
  | .inr p, hs, h => ⟨p, rfl, hs.2.2.2.2.1, lex_st hs.2.2.1 h⟩
theorem ct_st {n lo hi : Nat} {b : Nat → Nat} {q : Nat × (Nat × (Nat × Nat))} {s : tS} (hs : OKT n s) (h : chT lo hi (tkT n b s) = .inr q) : ∃ p, s = .inr p ∧ p.2.1 ≤ q.2.1 := by
  obtain ⟨p, h1, h2, h3⟩ := tk_st hs (ch_live h).1
  exact ⟨p, h1, by omega⟩
theorem body_st {n : Nat} {b : Nat → Nat} {w : Nat} {q p : Nat × (Nat × (Nat × Nat))} {a : aA} {t : Bool} (hs : OKT n (.inr q)) (h : (bodyT n b w (.inr q) a t).1 = .inr p) : q.2.1 ≤ p.2.1 := by
  unfold bodyT at h
  by_cases h1 : w < 4
  · rw [if_pos h1] at h
    have h : uJ2 n b a (.inr q) = .inr p := h
    have o1 : OKT n (if nJ a < 4 then (.inr q : tS) else flT 5 (.inr q)) := by
      split
      · exact hs
      · exact fl_ok (by decide) (by decide) hs
    obtain ⟨p1, e1, l1⟩ := ct_st (s := uJ1 n b a (.inr q)) (ch_ok (tk_ok o1)) h
    obtain ⟨p2, e2, l2⟩ := ct_st o1 e1
    by_cases hj : nJ a < 4
    · rw [if_pos hj] at e2
      cases e2
      omega
    · rw [if_neg hj] at e2
      exact (fl_live e2).elim
  · rw [if_neg h1] at h
    by_cases h2 : w < 8
    · rw [if_pos h2] at h
      have h : uS3 n b a (.inr q) = .inr p := h
      have o1 : OKT n (if nC a < 5 then (.inr q : tS) else flT 5 (.inr q)) := by
        split
        · exact hs
        · exact fl_ok (by decide) (by decide) hs
      obtain ⟨p1, e1, l1⟩ := ct_st (s := uS2 n b a (.inr q)) (ch_ok (tk_ok (ch_ok (tk_ok o1)))) h
      obtain ⟨p2, e2, l2⟩ := ct_st (s := uS1 n b a (.inr q)) (ch_ok (tk_ok o1)) e1
      obtain ⟨p3, e3, l3⟩ := ct_st o1 e2
      by_cases hj : nC a < 5
      · rw [if_pos hj] at e3
        cases e3
        omega
      · rw [if_neg hj] at e3
        exact (fl_live e3).elim
    · rw [if_neg h2] at h
      by_cases h3 : w = 8
      · rw [if_pos h3] at h
        have h : uC1 n b t (.inr q) = .inr p := h
        have o1 : OKT n (if t = true then flT 4 (.inr q) else (.inr q : tS)) := by
          split
          · exact fl_ok (by decide) (by decide) hs
          · exact hs
        obtain ⟨p1, e1, l1⟩ := ct_st o1 h
        by_cases hj : t = true
        · rw [if_pos hj] at e1
          exact (fl_live e1).elim
        · rw [if_neg hj] at e1
          cases e1
          exact l1
      · rw [if_neg h3] at h
        exact (fl_live (c := 2) (s := .inr q) h).elim
theorem ln_st {n : Nat} {b : Nat → Nat} {q p : Nat × (Nat × (Nat × Nat))} {r : aA × Bool} (hs : OKT n (.inr q)) (h : tkT n b (lnT n b q r).1 = .inr p) : q.2.1 + 1 ≤ p.2.1 ∧ ∃ p1, (lnT n b q r).1 = .inr p1 := by
  have o1 : OKT n (bodyT n b (wrT b q) (.inr q) r.1 r.2).1 := body_ok hs
  obtain ⟨p1, e1, l1, l2⟩ := tk_st (sp_ok (tk_ok o1)) h
  have e2 := sp_live e1
  obtain ⟨p2, e3, l3, l4⟩ := tk_st o1 e2
  have l5 := body_st hs e3
  have o2 : OKT n (.inr p1) := by rw [← e2]; exact tk_ok o1
  have h3 : p1.1 = 3 := by
    rw [e2] at e1
    obtain ⟨so, st, nx, v⟩ := p1
    by_cases z : so = 3
    · exact z
    · rw [sp_a z] at e1
      cases e1
  have l6 := o2.2.2.2.2.2
  exact ⟨by omega, p1, e1⟩
theorem ln_ok {n : Nat} {b : Nat → Nat} {q : Nat × (Nat × (Nat × Nat))} {r : aA × Bool} (hs : OKT n (.inr q)) : OKT n (lnT n b q r).1 := sp_ok (tk_ok (body_ok hs))
theorem ln_live {n : Nat} {b : Nat → Nat} {q p : Nat × (Nat × (Nat × Nat))} {r : aA × Bool} (hd : DOK r.1) (h : (lnT n b q r).1 = .inr p) : DOK (lnT n b q r).2.1 := by
  obtain ⟨p1, e1⟩ := tk_live (sp_live h)
  exact body_live hd e1

theorem l_lineEnd {I : xF4 Int32} {L : xF4 Int64} {n : Nat} {b : Nat → Nat} (hk : BK n b) (ht : TB I n b) {r : tS × (aA × Bool)} (hok : OKT n r.1) (h : TC I r.1) {I0 : xF4 Int32} (hf : FrZ I0 I) (hl : ∀ q, r.1 = .inr q → CourtIs I 1 r.2.1 ∧ I 10 0 0 8 = tI r.2.2) {w : Nat} : Wp 7 109 m_X9_line 68 [some (vR 10 0 0), some (vR 1 1 0), some (vI (nI w))] [] (rM I L) (pLn (spS (tkT n b r.1), r.2) I0 L) := by
  refine w_aload_n dX9_line_68 rfl ?_
  refine w_callV (as := []) (st := []) (Tri.mono (c_take hk ht hok h) (Nat.le_of_ble_eq_true rfl)) rfl rfl tg_X9_take lk_X9_37 in_X9_take se_X9_take rfl dX9_line_69 rfl (Nat.le_of_ble_eq_true rfl) (Nat.le_refl _) (Nat.le_refl _) ?_
  rintro v M9 ⟨rfl, I1, rfl, g1, g2⟩ -
  have hou := tk_ok (b := b) hok
  have hl2 : ∀ q, spS (tkT n b r.1) = .inr q → CourtIs I1 1 r.2.1 ∧ I1 10 0 0 8 = tI r.2.2 := fun q z => by
    obtain ⟨p, hp⟩ := tk_live (sp_live z)
    obtain ⟨z1, z2⟩ := hl p hp
    exact ⟨z1.eqv (fun t j s ht => g2 t 1 j s (by omega)), (g2 10 0 0 8 (by omega)).trans z2⟩
  obtain ⟨u, hu⟩ : ∃ u, u = tkT n b r.1 := ⟨_, rfl⟩
  rw [← hu] at hou g1 hl2 ⊢
  obtain ⟨tk9, htk⟩ : ∃ z, z = I1 10 0 0 4 := ⟨_, rfl⟩
  rcases u with ⟨c, p⟩ | ⟨so, st, nx, v⟩
  · skip
    refine w_aload_n dX9_line_72 rfl ?_
    refine w_getI ff_X9_40 rfl rfl dX9_line_73 ?_
    rw [show (I1 10 0 0 4 : Int32) = tk9 from htk.symm]
    refine w_iconst (v := 3) dX9_line_76 (by decide) ?_
    refine w_icmp_eq (tgt := 85) dX9_line_77 (by decide) (fun h1 => ?_) (fun h1 => ?_)
    · skip
      replace h1 : tk9.toInt = 3 := (zeq rfl (by decide)).mp h1
      first
      | (exfalso; omega)
      | skip
        exact w_return dX9_line_85 rfl rfl (⟨rfl, _, rfl, g1, hf.tr g2.u, fun q z => by cases z⟩)
    · skip
      replace h1 : ¬ (tk9.toInt = 3) := fun q => h1 ((zeq rfl (by decide)).mpr q)
      first
      | (exfalso; omega)
      | skip
        refine w_aload_n dX9_line_80 rfl ?_
        refine w_iconst (v := 2) dX9_line_81 (by decide) ?_
        refine w_callV (as := [vI (2)]) (st := []) (Tri.mono (c_fail (I := I1) hou g1 (c := 2) rfl) (Nat.le_of_ble_eq_true rfl)) rfl rfl tg_X9_fail lk_X9_61 in_X9_fail se_X9_fail rfl dX9_line_82 rfl (Nat.le_of_ble_eq_true rfl) (Nat.le_refl _) (Nat.le_refl _) ?_
        rintro v M9 ⟨rfl, I2, rfl, t2, f2⟩ -
        exact w_return dX9_line_85 rfl rfl (⟨rfl, _, rfl, t2, hf.tr (g2.u.tr f2.u), fun q z => by cases z⟩)
  · skip
    obtain ⟨g4, g5, g6, g7, g8, g9⟩ : so ≤ 3 ∧ st ≤ n ∧ nx ≤ n ∧ v ≤ 99 ∧ st ≤ nx ∧ (so = 0 ∨ (st < nx ∧ st < n)) := id hou
    refine w_aload_n dX9_line_72 rfl ?_
    refine w_getI ff_X9_40 rfl rfl dX9_line_73 ?_
    rw [show (I1 10 0 0 4 : Int32) = nI so from g1.2.1]
    refine w_iconst (v := 3) dX9_line_76 (by decide) ?_
    refine w_icmp_eq (tgt := 85) dX9_line_77 (by decide) (fun h1 => ?_) (fun h1 => ?_)
    · skip
      replace h1 : ((so : Nat) : Int) = 3 := (zeq (z_nI (by omega)) (by decide)).mp h1
      first
      | (exfalso; omega)
      | skip
        exact w_return dX9_line_85 rfl rfl (⟨rfl, _, rfl, by rw [sp_b (by omega)]; exact g1, hf.tr g2.u, hl2⟩)
    · skip
      replace h1 : ¬ (((so : Nat) : Int) = 3) := fun q => h1 ((zeq (z_nI (by omega)) (by decide)).mpr q)
      first
      | (exfalso; omega)
      | skip
        refine w_aload_n dX9_line_80 rfl ?_
        refine w_iconst (v := 2) dX9_line_81 (by decide) ?_
        refine w_callV (as := [vI (2)]) (st := []) (Tri.mono (c_fail (I := I1) hou g1 (c := 2) rfl) (Nat.le_of_ble_eq_true rfl)) rfl rfl tg_X9_fail lk_X9_61 in_X9_fail se_X9_fail rfl dX9_line_82 rfl (Nat.le_of_ble_eq_true rfl) (Nat.le_refl _) (Nat.le_refl _) ?_
        rintro v M9 ⟨rfl, I2, rfl, t2, f2⟩ -
        exact w_return dX9_line_85 rfl rfl (⟨rfl, _, rfl, by rw [sp_a (by omega)]; exact t2, hf.tr (g2.u.tr f2.u), fun q z => by rw [sp_a (by omega)] at z; cases z⟩)

theorem l_line18 {I : xF4 Int32} {L : xF4 Int64} {n : Nat} {b : Nat → Nat} (hk : BK n b) (ht : TB I n b) {s : tS} (hok : OKT n s) (h : TC I s) {a : aA} {t : Bool} (hc : CourtIs I 1 a) (h8 : I 10 0 0 8 = tI t) (hj : nJ a ≤ 4) (hs5 : nC a ≤ 5) {w : Nat} (hw : w ≤ 9) : Wp 7 109 m_X9_line 18 [some (vR 10 0 0), some (vR 1 1 0), some (vI (nI w))] [] (rM I L) (pLn (spS (tkT n b (bodyT n b w s a t).1), (bodyT n b w s a t).2) I L) := by
  have hbo : OKT n (bodyT n b w s a t).1 := body_ok hok
  refine w_iload_n dX9_line_18 rfl ?_
  refine w_iconst (v := 4) dX9_line_19 (by decide) ?_
  refine w_icmp_ge (tgt := 32) dX9_line_20 (by decide) (fun h1 => ?_) (fun h1 => ?_)
  · skip
    replace h1 : 4 ≤ ((w : Nat) : Int) := (zle (by decide) (z_nI (by omega))).mp h1
    first
    | (exfalso; omega)
    | skip
      refine w_iload_n dX9_line_32 rfl ?_
      refine w_bipush (v := 8) dX9_line_33 (by decide) ?_
      refine w_icmp_ge (tgt := 49) dX9_line_35 (by decide) (fun h2 => ?_) (fun h2 => ?_)
      · skip
        replace h2 : 8 ≤ ((w : Nat) : Int) := (zle (by decide) (z_nI (by omega))).mp h2
        first
        | (exfalso; omega)
        | skip
          refine w_iload_n dX9_line_49 rfl ?_
          refine w_bipush (v := 8) dX9_line_50 (by decide) ?_
          refine w_icmp_ne (tgt := 63) dX9_line_52 (by decide) (fun h3 => ?_) (fun h3 => ?_)
          · skip
            replace h3 : ¬ (((w : Nat) : Int) = 8) := fun q => h3 ((zeq (z_nI (by omega)) (by decide)).mpr q)
            first
            | (exfalso; omega)
            | skip
              refine w_aload_n dX9_line_63 rfl ?_
              refine w_iconst (v := 2) dX9_line_64 (by decide) ?_
              refine w_callV (as := [vI (2)]) (st := []) (Tri.mono (c_fail hok h (c := 2) rfl) (Nat.le_of_ble_eq_true rfl)) rfl rfl tg_X9_fail lk_X9_61 in_X9_fail se_X9_fail rfl dX9_line_65 rfl (Nat.le_of_ble_eq_true rfl) (Nat.le_refl _) (Nat.le_refl _) ?_
              rintro v M9 ⟨rfl, I1, rfl, t1, f0⟩ -
              have f1 := f0.u
              have v1 : ∀ q, flT 2 s = .inr q → CourtIs I1 1 a ∧ I1 10 0 0 8 = tI t := fun q z => (fl_live z).elim
              have e : bodyT n b w s a t = (flT 2 s, (a, t)) := (if_neg (by omega)).trans ((if_neg (by omega)).trans (if_neg (by omega)))
              rw [e] at hbo ⊢
              exact l_lineEnd hk (f1.tb ht) hbo t1 f1 v1
          · skip
            replace h3 : ((w : Nat) : Int) = 8 := (zeq (z_nI (by omega)) (by decide)).mp h3
            first
            | (exfalso; omega)
            | skip
              refine w_aload_n dX9_line_55 rfl ?_
              refine w_aload_n dX9_line_56 rfl ?_
              refine w_callV (as := [vR 1 1 0]) (st := []) (Tri.mono (c_lineC hk ht hok h hc h8) (Nat.le_of_ble_eq_true rfl)) rfl rfl tg_X9_lineOfCrime lk_X9_58 in_X9_lineOfCrime se_X9_lineOfCrime rfl dX9_line_57 rfl (Nat.le_of_ble_eq_true rfl) (Nat.le_refl _) (Nat.le_refl _) ?_
              rintro v M9 ⟨rfl, I1, rfl, t1, f1, v1⟩ -
              have e : bodyT n b w s a t = _ := (if_neg (by omega)).trans ((if_neg (by omega)).trans (if_pos (by omega)))
              refine w_goto (tgt := 68) dX9_line_60 (by decide) ?_
              rw [e] at hbo ⊢
              exact l_lineEnd hk (f1.tb ht) hbo t1 f1 v1
      · skip
        replace h2 : ¬ (8 ≤ ((w : Nat) : Int)) := fun q => h2 ((zle (by decide) (z_nI (by omega))).mpr q)
        first
        | (exfalso; omega)
        | skip
          refine w_aload_n dX9_line_38 rfl ?_
          refine w_aload_n dX9_line_39 rfl ?_
          refine w_iload_n dX9_line_40 rfl ?_
          refine w_iconst (v := 4) dX9_line_41 (by decide) ?_
          refine w_isub dX9_line_42 ?_
          refine w_top (y := nI (w - 4)) (show ((nI w) - (4) : Int32) = nI (w - 4) from ar_sub (p := w) (q := 4) rfl rfl (by omega) rfl) ?_
          refine w_callV (as := [vR 1 1 0, vI (nI (w - 4))]) (st := []) (Tri.mono (c_lineS hk ht hok h hc h8 hs5 (w - 4)) (Nat.le_of_ble_eq_true rfl)) rfl rfl tg_X9_lineOfSuit lk_X9_55 in_X9_lineOfSuit se_X9_lineOfSuit rfl dX9_line_43 rfl (Nat.le_of_ble_eq_true rfl) (Nat.le_refl _) (Nat.le_refl _) ?_
          rintro v M9 ⟨rfl, I1, rfl, t1, f1, v1⟩ -
          have e : bodyT n b w s a t = _ := (if_neg (by omega)).trans (if_pos (by omega))
          refine w_goto (tgt := 68) dX9_line_46 (by decide) ?_
          rw [e] at hbo ⊢
          exact l_lineEnd hk (f1.tb ht) hbo t1 f1 v1
  · skip
    replace h1 : ¬ (4 ≤ ((w : Nat) : Int)) := fun q => h1 ((zle (by decide) (z_nI (by omega))).mpr q)
    first
    | (exfalso; omega)
    | skip
      refine w_aload_n dX9_line_23 rfl ?_
      refine w_aload_n dX9_line_24 rfl ?_
      refine w_iload_n dX9_line_25 rfl ?_
      refine w_callV (as := [vR 1 1 0, vI (nI w)]) (st := []) (Tri.mono (c_lineJ hk ht hok h hc h8 hj w) (Nat.le_of_ble_eq_true rfl)) rfl rfl tg_X9_lineOfJudge lk_X9_51 in_X9_lineOfJudge se_X9_lineOfJudge rfl dX9_line_26 rfl (Nat.le_of_ble_eq_true rfl) (Nat.le_refl _) (Nat.le_refl _) ?_
      rintro v M9 ⟨rfl, I1, rfl, t1, f1, v1⟩ -
      have e : bodyT n b w s a t = _ := if_pos (by omega)
      refine w_goto (tgt := 68) dX9_line_29 (by decide) ?_
      rw [e] at hbo ⊢
      exact l_lineEnd hk (f1.tb ht) hbo t1 f1 v1

theorem c_line {I : xF4 Int32} {L : xF4 Int64} {n : Nat} {b : Nat → Nat} (hk : BK n b) (ht : TB I n b) {so st nx v : Nat} (hok : OKT n (.inr (so, (st, (nx, v))))) (h : TC I (.inr (so, (st, (nx, v))))) {a : aA} {t : Bool} (hc : CourtIs I 1 a) (h8 : I 10 0 0 8 = tI t) (hj : nJ a ≤ 4) (hs5 : nC a ≤ 5)  : Tri 7 109 m_X9_line [vR 10 0 0, vR 1 1 0] (rM I L) (pLn (lnT n b (so, (st, (nx, v))) (a, t)) I L) := by
  refine ⟨k_X9_line, Nat.le_of_ble_eq_true rfl, ?_⟩
  show Wp _ _ _ 0 [some (vR 10 0 0), some (vR 1 1 0), none] [] (rM I L) _
  obtain ⟨g4, g5, g6, g7, g8, g9⟩ : so ≤ 3 ∧ st ≤ n ∧ nx ≤ n ∧ v ≤ 99 ∧ st ≤ nx ∧ (so = 0 ∨ (st < nx ∧ st < n)) := id hok
  refine w_aload_n dX9_line_0 rfl ?_
  refine w_getI ff_X9_40 rfl rfl dX9_line_1 ?_
  rw [show (I 10 0 0 4 : Int32) = nI so from h.2.1]
  refine w_iconst (v := 1) dX9_line_4 (by decide) ?_
  refine w_icmp_ne (tgt := 15) dX9_line_5 (by decide) (fun h1 => ?_) (fun h1 => ?_)
  · skip
    replace h1 : ¬ (((so : Nat) : Int) = 1) := fun q => h1 ((zeq (z_nI (by omega)) (by decide)).mpr q)
    first
    | (exfalso; omega)
    | skip
      refine w_bipush (v := 9) dX9_line_15 (by decide) ?_
      refine w_top (y := nI (wrT b (so, (st, (nx, v))))) (show (9 : Int32) = nI (wrT b (so, (st, (nx, v)))) from (congrArg nI (if_neg (by omega) : wrT b (so, (st, (nx, v))) = 9)).symm) ?_
      refine w_istore_n (ls' := [some (vR 10 0 0), some (vR 1 1 0), some (vI (nI (wrT b (so, (st, (nx, v))))))]) dX9_line_17 rfl ?_
      exact l_line18 hk ht hok h hc h8 hj hs5 (wr_le b _)
  · skip
    replace h1 : ((so : Nat) : Int) = 1 := (zeq (z_nI (by omega)) (by decide)).mp h1
    first
    | (exfalso; omega)
    | skip
      refine w_aload_n dX9_line_8 rfl ?_
      refine w_callV (as := []) (st := []) (Tri.mono (c_word hk ht h.2.2.1 h.2.2.2.1 g8 g6) (Nat.le_of_ble_eq_true rfl)) rfl rfl tg_X9_wordThere lk_X9_47 in_X9_wordThere se_X9_wordThere rfl dX9_line_9 rfl (Nat.le_of_ble_eq_true rfl) (Nat.le_refl _) (Nat.le_refl _) ?_
      rintro _ _ ⟨rfl, rfl⟩ -
      refine w_goto (tgt := 17) dX9_line_12 (by decide) ?_
      refine w_top (y := nI (wrT b (so, (st, (nx, v))))) (show (nI (wdT b st nx) : Int32) = nI (wrT b (so, (st, (nx, v)))) from (congrArg nI (if_pos (by omega) : wrT b (so, (st, (nx, v))) = wdT b st nx)).symm) ?_
      refine w_istore_n (ls' := [some (vR 10 0 0), some (vR 1 1 0), some (vI (nI (wrT b (so, (st, (nx, v))))))]) dX9_line_17 rfl ?_
      exact l_line18 hk ht hok h hc h8 hj hs5 (wr_le b _)

abbrev pPr (n : Nat) (z : (tS × (aA × Bool)) × Nat) (I : xF4 Int32) (L : xF4 Int64) : Option xV → xM → Prop := fun v M => v = some (vI (nI z.2)) ∧ ∃ I', M = rM I' L ∧ TC I' z.1.1 ∧ OKT n z.1.1 ∧ FrZ I I' ∧ ∀ q, z.1.1 = .inr q → CourtIs I' 1 z.1.2.1 ∧ DOK z.1.2.1

theorem l_parse {L : xF4 Int64} {n : Nat} {b : Nat → Nat} (hk : BK n b) {I0 : xF4 Int32} : ∀ (k m : Nat) (s : tS) (r : aA × Bool) (I : xF4 Int32), k + m = 161 → OKT n s → TC I s → TB I n b → FrZ I0 I → (∀ q, s = .inr q → CourtIs I 1 r.1 ∧ DOK r.1 ∧ I 10 0 0 8 = tI r.2 ∧ m ≤ q.2.1) → Wp 8 109 m_X9_parse 30 [some (vR 10 0 0), some (vR 1 1 0), some (vI (nI m))] [] (rM I L) (pPr n (prT n b k (s, r) m) I0 L) := by
  obtain ⟨k1, k2⟩ := id hk
  intro k
  induction k with
  | zero =>
    intro m s r I hm hok h ht hf hl
    rcases s with ⟨c, p⟩ | q
    · skip
      refine w_aload_n dX9_parse_30 rfl ?_
      refine w_getI ff_X9_19 rfl rfl dX9_parse_31 ?_
      rw [show (I 10 0 0 2 : Int32) = nI c from h.1]
      refine w_if_ne (tgt := 66) dX9_parse_34 (by decide) (fun _ => ?_) (fun h => absurd h ((fun z => absurd ((nI_eq (b := 0) (Nat.lt_of_le_of_lt hok.2.1 (by decide)) (by decide)).mp z) (Nat.pos_iff_ne_zero.mp hok.1))))
      refine w_iload_n dX9_parse_66 rfl ?_
      exact w_ireturn dX9_parse_67 rfl (rfl) rfl (⟨rfl, I, rfl, h, hok, hf, fun q z => ⟨(hl q z).1, (hl q z).2.1⟩⟩)
    · have := (hl q rfl).2.2.2
      have := hok.2.1
      omega
  | succ k ih =>
    intro m s r I hm hok h ht hf hl
    rcases s with ⟨c, p⟩ | ⟨so, st, nx, v⟩
    · skip
      refine w_aload_n dX9_parse_30 rfl ?_
      refine w_getI ff_X9_19 rfl rfl dX9_parse_31 ?_
      rw [show (I 10 0 0 2 : Int32) = nI c from h.1]
      refine w_if_ne (tgt := 66) dX9_parse_34 (by decide) (fun _ => ?_) (fun h => absurd h ((fun z => absurd ((nI_eq (b := 0) (Nat.lt_of_le_of_lt hok.2.1 (by decide)) (by decide)).mp z) (Nat.pos_iff_ne_zero.mp hok.1))))
      refine w_iload_n dX9_parse_66 rfl ?_
      exact w_ireturn dX9_parse_67 rfl (rfl) rfl (⟨rfl, I, rfl, h, hok, hf, fun q z => ⟨(hl q z).1, (hl q z).2.1⟩⟩)
    · skip
      obtain ⟨hc, hd, h8, hm2⟩ := hl _ rfl
      replace hm2 : m ≤ st := hm2
      obtain ⟨g4, g5, g6, g7, g8, g9⟩ : so ≤ 3 ∧ st ≤ n ∧ nx ≤ n ∧ v ≤ 99 ∧ st ≤ nx ∧ (so = 0 ∨ (st < nx ∧ st < n)) := id hok
      have hw := hd.1
      refine w_aload_n dX9_parse_30 rfl ?_
      refine w_getI ff_X9_19 rfl rfl dX9_parse_31 ?_
      rw [show (I 10 0 0 2 : Int32) = 0 from h.1]
      refine w_if_ne (tgt := 66) dX9_parse_34 (by decide) (fun h => absurd (by decide) h) (fun _ => ?_)
      refine w_aload_n dX9_parse_37 rfl ?_
      refine w_getI ff_X9_40 rfl rfl dX9_parse_38 ?_
      rw [show (I 10 0 0 4 : Int32) = nI so from h.2.1]
      refine w_if_eq (tgt := 66) dX9_parse_41 (by decide) (fun h1 => ?_) (fun h1 => ?_)
      · skip
        replace h1 : ((so : Nat) : Int) = 0 := (zeq (z_nI (by omega)) (by decide)).mp h1
        first
        | (exfalso; omega)
        | skip
          refine w_iload_n dX9_parse_66 rfl ?_
          rw [show prT n b (k + 1) (.inr (so, (st, (nx, v))), r) m = ((.inr (so, (st, (nx, v))), r), m) from if_pos (by omega)]
          exact w_ireturn dX9_parse_67 rfl (rfl) rfl (⟨rfl, I, rfl, h, hok, hf, fun q z => ⟨(hl q z).1, (hl q z).2.1⟩⟩)
      · skip
        replace h1 : ¬ (((so : Nat) : Int) = 0) := fun q => h1 ((zeq (z_nI (by omega)) (by decide)).mpr q)
        first
        | (exfalso; omega)
        | skip
          refine w_iload_n dX9_parse_44 rfl ?_
          refine w_sipush (v := 160) dX9_parse_45 (by decide) ?_
          refine w_icmp_ge (tgt := 66) dX9_parse_48 (by decide) (fun h2 => ?_) (fun h2 => ?_)
          · skip
            replace h2 : 160 ≤ ((m : Nat) : Int) := (zle (by decide) (z_nI (by omega))).mp h2
            first
            | (exfalso; omega)
            | skip
              refine w_iload_n dX9_parse_66 rfl ?_
              rw [show prT n b (k + 1) (.inr (so, (st, (nx, v))), r) m = ((.inr (so, (st, (nx, v))), r), m) from if_pos (by omega)]
              exact w_ireturn dX9_parse_67 rfl (rfl) rfl (⟨rfl, I, rfl, h, hok, hf, fun q z => ⟨(hl q z).1, (hl q z).2.1⟩⟩)
          · skip
            replace h2 : ¬ (160 ≤ ((m : Nat) : Int)) := fun q => h2 ((zle (by decide) (z_nI (by omega))).mpr q)
            first
            | (exfalso; omega)
            | skip
              refine w_aload_n dX9_parse_51 rfl ?_
              refine w_aload_n dX9_parse_52 rfl ?_
              refine w_callV (as := [vR 1 1 0]) (st := []) (Tri.mono (c_line hk ht hok h hc h8 hw.1 hw.2.1) (Nat.le_of_ble_eq_true rfl)) rfl rfl tg_X9_line lk_X9_43 in_X9_line se_X9_line rfl dX9_parse_53 rfl (Nat.le_of_ble_eq_true rfl) (Nat.le_refl _) (Nat.le_refl _) ?_
              rintro v M9 ⟨rfl, I1, rfl, t1, f1, v1⟩ -
              refine w_iinc (v := nI (m + 1)) (ls' := [some (vR 10 0 0), some (vR 1 1 0), some (vI (nI (m + 1)))]) dX9_parse_56 rfl (nI_1 _) rfl ?_
              refine w_aload_n dX9_parse_59 rfl ?_
              refine w_callV (as := []) (st := []) (Tri.mono (c_take hk (f1.tb ht) (ln_ok hok) t1) (Nat.le_of_ble_eq_true rfl)) rfl rfl tg_X9_take lk_X9_37 in_X9_take se_X9_take rfl dX9_parse_60 rfl (Nat.le_of_ble_eq_true rfl) (Nat.le_refl _) (Nat.le_refl _) ?_
              rintro v M9 ⟨rfl, I2, rfl, t2, f2⟩ -
              refine w_goto (tgt := 30) dX9_parse_63 (by decide) ?_
              rw [show prT n b (k + 1) (.inr (so, (st, (nx, v))), r) m = prT n b k (tkT n b (lnT n b (so, (st, (nx, v))) r).1, (lnT n b (so, (st, (nx, v))) r).2) (m + 1) from if_neg (by omega)]
              refine ih (m + 1) _ _ I2 (by omega) (tk_ok (ln_ok hok)) t2 ((f1.tr f2.u).tb ht) (hf.tr (f1.tr f2.u)) (fun q z => ?_)
              obtain ⟨l1, p1, e1⟩ := ln_st hok z
              obtain ⟨c1, c8⟩ := v1 p1 e1
              replace l1 : st + 1 ≤ q.2.1 := l1
              exact ⟨c1.eqv (fun t j s ht => f2 t 1 j s (by omega)), ln_live hd e1, (f2 10 0 0 8 (by omega)).trans c8, by omega⟩
