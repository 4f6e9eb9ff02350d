/-! the reference's helpers on its playing court (by wip/whole/gen/g22.py) -/
abbrev pM (a' : aA) (I : xF4 Int32) (L : xF4 Int64) : Option xV → xM → Prop := fun v M => v = none ∧ ∃ I', M = rM I' L ∧ MI I' a' ∧ FrT 32 I I'
theorem MI.up {I : xF4 Int32} {a a' : aA} (hm : MI I a) {x : Nat} {v : Int32} (hn : NowIs (xup I 32 0 0 x v) 32 0 a') (h1 : nJ a' = nJ a) (h2 : nC a' = nC a) : MI (xup I 32 0 0 x v) a' := ⟨by rw [h1]; exact (xup_tag (by decide)).trans hm.1, by rw [h2]; exact (xup_tag (by decide)).trans hm.2.1, hn⟩

theorem d_of {I : xF4 Int32} {L : xF4 Int64} {a : aA} (hm : MI I a) (hJ : nJ a ≤ 4) {j : Nat} (hj : j < nJ a) {f : Nat} (hf : f < 4) : Tri 0 109 m_X11_of [vR 30 0 0, vI (nI j), vI (nI f)] (rM I L) (pI (nI (jF a j f)) I L) := by
  refine ⟨k_X11_of, Nat.le_of_ble_eq_true rfl, ?_⟩
  show Wp _ _ _ 0 [some (vR 30 0 0), some (vI (nI j)), some (vI (nI f))] [] (rM I L) _
  refine w_aload_n dX11_of_0 rfl ?_
  refine w_getR (w := some (32, 0, 0)) ff_X11_13 rfl rfl dX11_of_1 rfl ?_
  refine w_iconst (v := 5) dX11_of_4 (by decide) ?_
  refine w_iload_n dX11_of_5 rfl ?_
  refine w_imul dX11_of_6 ?_
  rw [show ((5) * (nI j) : Int32) = nI (5 * j) from ar_mul (p := 5) (q := j) rfl rfl (by first | rfl | omega)]
  refine w_iload_n dX11_of_7 rfl ?_
  refine w_iadd dX11_of_8 ?_
  rw [show ((nI (5 * j)) + (nI f) : Int32) = nI ((5 * j) + f) from ar_add (p := 5 * j) (q := f) rfl rfl (by omega)]
  refine w_iaload (a := (5 * j) + f) rfl (vp_in_nI (n := (5 * j) + f) (by omega) (by omega)) (nI_clamp (n := (5 * j) + f) (by omega)) dX11_of_9 ?_
  rw [show (I 32 0 0 ((5 * j) + f) : Int32) = nI (jF a j f) from hm.2.2.j hj hf (by omega)]
  exact w_ireturn dX11_of_10 rfl (rfl) rfl (⟨rfl, rfl⟩)

theorem d_ofS {I : xF4 Int32} {L : xF4 Int64} {a : aA} (hm : MI I a) (hJ : nJ a ≤ 4) {j : Nat} (hj : j < nJ a) : Tri 0 109 m_X11_of [vR 30 0 0, vI (nI j), vI (4)] (rM I L) (pI (sC a j) I L) := by
  refine ⟨k_X11_of, Nat.le_of_ble_eq_true rfl, ?_⟩
  show Wp _ _ _ 0 [some (vR 30 0 0), some (vI (nI j)), some (vI (4))] [] (rM I L) _
  refine w_aload_n dX11_of_0 rfl ?_
  refine w_getR (w := some (32, 0, 0)) ff_X11_13 rfl rfl dX11_of_1 rfl ?_
  refine w_iconst (v := 5) dX11_of_4 (by decide) ?_
  refine w_iload_n dX11_of_5 rfl ?_
  refine w_imul dX11_of_6 ?_
  rw [show ((5) * (nI j) : Int32) = nI (5 * j) from ar_mul (p := 5) (q := j) rfl rfl (by first | rfl | omega)]
  refine w_iload_n dX11_of_7 rfl ?_
  refine w_iadd dX11_of_8 ?_
  rw [show ((nI (5 * j)) + (4) : Int32) = nI ((5 * j) + 4) from ar_add (p := 5 * j) (q := 4) rfl rfl (by omega)]
  refine w_iaload (a := (5 * j) + 4) rfl (vp_in_nI (n := (5 * j) + 4) (by omega) (by omega)) (nI_clamp (n := (5 * j) + 4) (by omega)) dX11_of_9 ?_
  rw [show (I 32 0 0 ((5 * j) + 4) : Int32) = sC a j from hm.2.2.sc hj (by omega)]
  exact w_ireturn dX11_of_10 rfl (rfl) rfl (⟨rfl, rfl⟩)

theorem d_ofCase {I : xF4 Int32} {L : xF4 Int64} {a : aA} (hm : MI I a) (hC : nC a ≤ 5) {c : Nat} (hc : c < nC a) {f : Nat} (hf : f < 7) (h5 : f ≠ 5) : Tri 0 109 m_X11_ofCase [vR 30 0 0, vI (nI c), vI (nI f)] (rM I L) (pI (nI (sF a c f)) I L) := by
  refine ⟨k_X11_ofCase, Nat.le_of_ble_eq_true rfl, ?_⟩
  show Wp _ _ _ 0 [some (vR 30 0 0), some (vI (nI c)), some (vI (nI f))] [] (rM I L) _
  refine w_aload_n dX11_ofCase_0 rfl ?_
  refine w_getR (w := some (32, 0, 0)) ff_X11_13 rfl rfl dX11_ofCase_1 rfl ?_
  refine w_bipush (v := 20) dX11_ofCase_4 (by decide) ?_
  refine w_bipush (v := 7) dX11_ofCase_6 (by decide) ?_
  refine w_iload_n dX11_ofCase_8 rfl ?_
  refine w_imul dX11_ofCase_9 ?_
  rw [show ((7) * (nI c) : Int32) = nI (7 * c) from ar_mul (p := 7) (q := c) rfl rfl (by first | rfl | omega)]
  refine w_iadd dX11_ofCase_10 ?_
  rw [show ((20) + (nI (7 * c)) : Int32) = nI (20 + (7 * c)) from ar_add (p := 20) (q := 7 * c) rfl rfl (by omega)]
  refine w_iload_n dX11_ofCase_11 rfl ?_
  refine w_iadd dX11_ofCase_12 ?_
  rw [show ((nI (20 + (7 * c))) + (nI f) : Int32) = nI ((20 + (7 * c)) + f) from ar_add (p := 20 + (7 * c)) (q := f) rfl rfl (by omega)]
  refine w_iaload (a := (20 + (7 * c)) + f) rfl (vp_in_nI (n := (20 + (7 * c)) + f) (by omega) (by omega)) (nI_clamp (n := (20 + (7 * c)) + f) (by omega)) dX11_ofCase_13 ?_
  rw [show (I 32 0 0 ((20 + (7 * c)) + f) : Int32) = nI (sF a c f) from hm.2.2.s hc hf h5 (by omega)]
  exact w_ireturn dX11_ofCase_14 rfl (rfl) rfl (⟨rfl, rfl⟩)

theorem d_ofBy {I : xF4 Int32} {L : xF4 Int64} {a : aA} (hm : MI I a) (hC : nC a ≤ 5) {c : Nat} (hc : c < nC a) : Tri 0 109 m_X11_ofCase [vR 30 0 0, vI (nI c), vI (5)] (rM I L) (pI (byI (bY a c)) I L) := by
  refine ⟨k_X11_ofCase, Nat.le_of_ble_eq_true rfl, ?_⟩
  show Wp _ _ _ 0 [some (vR 30 0 0), some (vI (nI c)), some (vI (5))] [] (rM I L) _
  refine w_aload_n dX11_ofCase_0 rfl ?_
  refine w_getR (w := some (32, 0, 0)) ff_X11_13 rfl rfl dX11_ofCase_1 rfl ?_
  refine w_bipush (v := 20) dX11_ofCase_4 (by decide) ?_
  refine w_bipush (v := 7) dX11_ofCase_6 (by decide) ?_
  refine w_iload_n dX11_ofCase_8 rfl ?_
  refine w_imul dX11_ofCase_9 ?_
  rw [show ((7) * (nI c) : Int32) = nI (7 * c) from ar_mul (p := 7) (q := c) rfl rfl (by first | rfl | omega)]
  refine w_iadd dX11_ofCase_10 ?_
  rw [show ((20) + (nI (7 * c)) : Int32) = nI (20 + (7 * c)) from ar_add (p := 20) (q := 7 * c) rfl rfl (by omega)]
  refine w_iload_n dX11_ofCase_11 rfl ?_
  refine w_iadd dX11_ofCase_12 ?_
  rw [show ((nI (20 + (7 * c))) + (5) : Int32) = nI ((20 + (7 * c)) + 5) from ar_add (p := 20 + (7 * c)) (q := 5) rfl rfl (by omega)]
  refine w_iaload (a := (20 + (7 * c)) + 5) rfl (vp_in_nI (n := (20 + (7 * c)) + 5) (by omega) (by omega)) (nI_clamp (n := (20 + (7 * c)) + 5) (by omega)) dX11_ofCase_13 ?_
  rw [show (I 32 0 0 ((20 + (7 * c)) + 5) : Int32) = byI (bY a c) from hm.2.2.who hc (by omega)]
  exact w_ireturn dX11_ofCase_14 rfl (rfl) rfl (⟨rfl, rfl⟩)

theorem d_becomesOf {I : xF4 Int32} {L : xF4 Int64} {a : aA} (hm : MI I a) (hJ : nJ a ≤ 4) {j : Nat} (hj : j < nJ a) {f : Nat} (hf : f < 4) (v : Nat) : Tri 0 109 m_X11_becomesOf [vR 30 0 0, vI (nI j), vI (nI f), vI (nI v)] (rM I L) (pM (ajF a j f v) I L) := by
  refine ⟨k_X11_becomesOf, Nat.le_of_ble_eq_true rfl, ?_⟩
  show Wp _ _ _ 0 [some (vR 30 0 0), some (vI (nI j)), some (vI (nI f)), some (vI (nI v))] [] (rM I L) _
  refine w_aload_n dX11_becomesOf_0 rfl ?_
  refine w_getR (w := some (32, 0, 0)) ff_X11_13 rfl rfl dX11_becomesOf_1 rfl ?_
  refine w_iconst (v := 5) dX11_becomesOf_4 (by decide) ?_
  refine w_iload_n dX11_becomesOf_5 rfl ?_
  refine w_imul dX11_becomesOf_6 ?_
  rw [show ((5) * (nI j) : Int32) = nI (5 * j) from ar_mul (p := 5) (q := j) rfl rfl (by first | rfl | omega)]
  refine w_iload_n dX11_becomesOf_7 rfl ?_
  refine w_iadd dX11_becomesOf_8 ?_
  rw [show ((nI (5 * j)) + (nI f) : Int32) = nI ((5 * j) + f) from ar_add (p := 5 * j) (q := f) rfl rfl (by omega)]
  refine w_iload_n dX11_becomesOf_9 rfl ?_
  refine w_iastore (a := (5 * j) + f) rfl (vp_in_nI (n := (5 * j) + f) (by omega) (by omega)) (nI_clamp (n := (5 * j) + f) (by omega)) dX11_becomesOf_10 ?_
  exact w_return dX11_becomesOf_11 rfl rfl (⟨rfl, _, rfl, hm.up (hm.2.2.upJ (by omega) hf (by omega) v) rfl rfl, FrT.up⟩)

theorem d_becomesSc {I : xF4 Int32} {L : xF4 Int64} {a : aA} (hm : MI I a) (hJ : nJ a ≤ 4) {j : Nat} (hj : j < nJ a) (v : Int32) : Tri 0 109 m_X11_becomesOf [vR 30 0 0, vI (nI j), vI (4), vI (v)] (rM I L) (pM (ascA a j v) I L) := by
  refine ⟨k_X11_becomesOf, Nat.le_of_ble_eq_true rfl, ?_⟩
  show Wp _ _ _ 0 [some (vR 30 0 0), some (vI (nI j)), some (vI (4)), some (vI (v))] [] (rM I L) _
  refine w_aload_n dX11_becomesOf_0 rfl ?_
  refine w_getR (w := some (32, 0, 0)) ff_X11_13 rfl rfl dX11_becomesOf_1 rfl ?_
  refine w_iconst (v := 5) dX11_becomesOf_4 (by decide) ?_
  refine w_iload_n dX11_becomesOf_5 rfl ?_
  refine w_imul dX11_becomesOf_6 ?_
  rw [show ((5) * (nI j) : Int32) = nI (5 * j) from ar_mul (p := 5) (q := j) rfl rfl (by first | rfl | omega)]
  refine w_iload_n dX11_becomesOf_7 rfl ?_
  refine w_iadd dX11_becomesOf_8 ?_
  rw [show ((nI (5 * j)) + (4) : Int32) = nI ((5 * j) + 4) from ar_add (p := 5 * j) (q := 4) rfl rfl (by omega)]
  refine w_iload_n dX11_becomesOf_9 rfl ?_
  refine w_iastore (a := (5 * j) + 4) rfl (vp_in_nI (n := (5 * j) + 4) (by omega) (by omega)) (nI_clamp (n := (5 * j) + 4) (by omega)) dX11_becomesOf_10 ?_
  exact w_return dX11_becomesOf_11 rfl rfl (⟨rfl, _, rfl, hm.up (hm.2.2.upSc (by omega) (by omega) v) rfl rfl, FrT.up⟩)

theorem d_becomesCase {I : xF4 Int32} {L : xF4 Int64} {a : aA} (hm : MI I a) (hJ : nJ a ≤ 4) (hC : nC a ≤ 5) {c : Nat} (hc : c < nC a) {f : Nat} (hf : f < 7) (h5 : f ≠ 5) (v : Nat) : Tri 0 109 m_X11_becomesCase [vR 30 0 0, vI (nI c), vI (nI f), vI (nI v)] (rM I L) (pM (asF a c f v) I L) := by
  refine ⟨k_X11_becomesCase, Nat.le_of_ble_eq_true rfl, ?_⟩
  show Wp _ _ _ 0 [some (vR 30 0 0), some (vI (nI c)), some (vI (nI f)), some (vI (nI v))] [] (rM I L) _
  refine w_aload_n dX11_becomesCase_0 rfl ?_
  refine w_getR (w := some (32, 0, 0)) ff_X11_13 rfl rfl dX11_becomesCase_1 rfl ?_
  refine w_bipush (v := 20) dX11_becomesCase_4 (by decide) ?_
  refine w_bipush (v := 7) dX11_becomesCase_6 (by decide) ?_
  refine w_iload_n dX11_becomesCase_8 rfl ?_
  refine w_imul dX11_becomesCase_9 ?_
  rw [show ((7) * (nI c) : Int32) = nI (7 * c) from ar_mul (p := 7) (q := c) rfl rfl (by first | rfl | omega)]
  refine w_iadd dX11_becomesCase_10 ?_
  rw [show ((20) + (nI (7 * c)) : Int32) = nI (20 + (7 * c)) from ar_add (p := 20) (q := 7 * c) rfl rfl (by omega)]
  refine w_iload_n dX11_becomesCase_11 rfl ?_
  refine w_iadd dX11_becomesCase_12 ?_
  rw [show ((nI (20 + (7 * c))) + (nI f) : Int32) = nI ((20 + (7 * c)) + f) from ar_add (p := 20 + (7 * c)) (q := f) rfl rfl (by omega)]
  refine w_iload_n dX11_becomesCase_13 rfl ?_
  refine w_iastore (a := (20 + (7 * c)) + f) rfl (vp_in_nI (n := (20 + (7 * c)) + f) (by omega) (by omega)) (nI_clamp (n := (20 + (7 * c)) + f) (by omega)) dX11_becomesCase_14 ?_
  exact w_return dX11_becomesCase_15 rfl rfl (⟨rfl, _, rfl, hm.up (hm.2.2.upS hJ (by omega) hf h5 (by omega) v) rfl rfl, FrT.up⟩)

theorem d_becomesBy {I : xF4 Int32} {L : xF4 Int64} {a : aA} (hm : MI I a) (hJ : nJ a ≤ 4) (hC : nC a ≤ 5) {c : Nat} (hc : c < nC a) (b : Option Nat) : Tri 0 109 m_X11_becomesCase [vR 30 0 0, vI (nI c), vI (5), vI (byI b)] (rM I L) (pM (abyA a c b) I L) := by
  refine ⟨k_X11_becomesCase, Nat.le_of_ble_eq_true rfl, ?_⟩
  show Wp _ _ _ 0 [some (vR 30 0 0), some (vI (nI c)), some (vI (5)), some (vI (byI b))] [] (rM I L) _
  refine w_aload_n dX11_becomesCase_0 rfl ?_
  refine w_getR (w := some (32, 0, 0)) ff_X11_13 rfl rfl dX11_becomesCase_1 rfl ?_
  refine w_bipush (v := 20) dX11_becomesCase_4 (by decide) ?_
  refine w_bipush (v := 7) dX11_becomesCase_6 (by decide) ?_
  refine w_iload_n dX11_becomesCase_8 rfl ?_
  refine w_imul dX11_becomesCase_9 ?_
  rw [show ((7) * (nI c) : Int32) = nI (7 * c) from ar_mul (p := 7) (q := c) rfl rfl (by first | rfl | omega)]
  refine w_iadd dX11_becomesCase_10 ?_
  rw [show ((20) + (nI (7 * c)) : Int32) = nI (20 + (7 * c)) from ar_add (p := 20) (q := 7 * c) rfl rfl (by omega)]
  refine w_iload_n dX11_becomesCase_11 rfl ?_
  refine w_iadd dX11_becomesCase_12 ?_
  rw [show ((nI (20 + (7 * c))) + (5) : Int32) = nI ((20 + (7 * c)) + 5) from ar_add (p := 20 + (7 * c)) (q := 5) rfl rfl (by omega)]
  refine w_iload_n dX11_becomesCase_13 rfl ?_
  refine w_iastore (a := (20 + (7 * c)) + 5) rfl (vp_in_nI (n := (20 + (7 * c)) + 5) (by omega) (by omega)) (nI_clamp (n := (20 + (7 * c)) + 5) (by omega)) dX11_becomesCase_14 ?_
  exact w_return dX11_becomesCase_15 rfl rfl (⟨rfl, _, rfl, hm.up (hm.2.2.upB hJ (by omega) (by omega) b) rfl rfl, FrT.up⟩)

theorem d_canBear {I : xF4 Int32} {L : xF4 Int64} {a : aA} (hm : MI I a) (hw : WF a) {c j n : Nat} (hcc : c < nC a) (hj : j < nJ a) (hn : n ≤ 60) : Tri 1 109 m_X11_canBear [vR 30 0 0, vI (nI j), vI (nI c), vI (nI n)] (rM I L) (pI (bI (beaN a c j n)) I L) := by
  refine ⟨k_X11_canBear, Nat.le_of_ble_eq_true rfl, ?_⟩
  show Wp _ _ _ 0 [some (vR 30 0 0), some (vI (nI j)), some (vI (nI c)), some (vI (nI n)), none, none] [] (rM I L) _
  obtain ⟨hJ, hC, hG, hD, hR, -⟩ := id hw
  obtain ⟨fc0, fc1, fc2, fc3, fc4, fc5, fc6, fc7, fc8⟩ := hw.2.2.2.2.2.2.1 c hcc
  obtain ⟨fj0, fj1, fj2, fj3⟩ := hw.2.2.2.2.2.1 j hj
  have ft := tenN_le fj0 hn
  refine w_aload_n dX11_canBear_0 rfl ?_
  refine w_iload_n dX11_canBear_1 rfl ?_
  refine w_iconst (v := 0) dX11_canBear_2 (by decide) ?_
  refine w_callV (as := [vI (nI j), vI (0)]) (st := []) (Tri.mono (d_of hm hJ hj (f := 0) (by decide)) (Nat.le_of_ble_eq_true rfl)) rfl rfl tg_X11_of lk_X11_139 in_X11_of se_X11_of rfl dX11_canBear_3 rfl (Nat.le_of_ble_eq_true rfl) (Nat.le_refl _) (Nat.le_refl _) ?_
  rintro _ _ ⟨rfl, rfl⟩ -
  refine w_iload_n dX11_canBear_6 rfl ?_
  refine w_callS (as := [vI (nI (jF a j 0)), vI (nI n)]) (st := []) (Tri.mono (d_tenthBy (kind := jF a j 0) (n := n) (by omega) (by omega)) (Nat.le_of_ble_eq_true rfl)) tg_X11_tenthBy lk_X11_142 sa_X11_tenthBy rfl dX11_canBear_7 rfl (Nat.le_of_ble_eq_true rfl) (Nat.le_refl _) (Nat.le_refl _) ?_
  rintro _ _ ⟨rfl, rfl⟩ -
  refine w_istore (ls' := [some (vR 30 0 0), some (vI (nI j)), some (vI (nI c)), some (vI (nI n)), some (vI (nI (tenN (jF a j 0) n))), none]) dX11_canBear_10 rfl ?_
  refine w_aload_n dX11_canBear_12 rfl ?_
  refine w_iload_n dX11_canBear_13 rfl ?_
  refine w_iconst (v := 0) dX11_canBear_14 (by decide) ?_
  refine w_callV (as := [vI (nI c), vI (0)]) (st := []) (Tri.mono (d_ofCase hm hC hcc (f := 0) (by decide) (by decide)) (Nat.le_of_ble_eq_true rfl)) rfl rfl tg_X11_ofCase lk_X11_145 in_X11_ofCase se_X11_ofCase rfl dX11_canBear_15 rfl (Nat.le_of_ble_eq_true rfl) (Nat.le_refl _) (Nat.le_refl _) ?_
  rintro _ _ ⟨rfl, rfl⟩ -
  refine w_istore (ls' := [some (vR 30 0 0), some (vI (nI j)), some (vI (nI c)), some (vI (nI n)), some (vI (nI (tenN (jF a j 0) n))), some (vI (nI (sF a c 0)))]) dX11_canBear_18 rfl ?_
  refine w_iload dX11_canBear_20 rfl ?_
  refine w_iconst (v := 1) dX11_canBear_22 (by decide) ?_
  refine w_icmp_ne (tgt := 45) dX11_canBear_23 (by decide) (fun h1 => ?_) (fun h1 => ?_)
  · skip
    replace h1 : ¬ ((sF a c 0) = (1)) := fun q => h1 ((nI_eq (a := sF a c 0) (b := 1) (by omega) (by omega)).mpr q)
    refine w_iload dX11_canBear_45 rfl ?_
    refine w_iconst (v := 2) dX11_canBear_47 (by decide) ?_
    refine w_icmp_ne (tgt := 62) dX11_canBear_48 (by decide) (fun h2 => ?_) (fun h2 => ?_)
    · skip
      replace h2 : ¬ ((sF a c 0) = (2)) := fun q => h2 ((nI_eq (a := sF a c 0) (b := 2) (by omega) (by omega)).mpr q)
      refine w_iconst (v := 1) dX11_canBear_62 (by decide) ?_
      refine w_goto (tgt := 67) dX11_canBear_63 (by decide) ?_
      exact w_ireturn dX11_canBear_67 rfl (rfl) rfl (⟨by rw [bI_t (show beaN a c j n from by unfold beaN bearN; omega)], rfl⟩)
    · skip
      replace h2 : (sF a c 0) = (2) := (nI_eq (a := sF a c 0) (b := 2) (by omega) (by omega)).mp h2
      refine w_aload_n dX11_canBear_51 rfl ?_
      refine w_iload_n dX11_canBear_52 rfl ?_
      refine w_iconst (v := 1) dX11_canBear_53 (by decide) ?_
      refine w_callV (as := [vI (nI j), vI (1)]) (st := []) (Tri.mono (d_of hm hJ hj (f := 1) (by decide)) (Nat.le_of_ble_eq_true rfl)) rfl rfl tg_X11_of lk_X11_139 in_X11_of se_X11_of rfl dX11_canBear_54 rfl (Nat.le_of_ble_eq_true rfl) (Nat.le_refl _) (Nat.le_refl _) ?_
      rintro _ _ ⟨rfl, rfl⟩ -
      refine w_iload dX11_canBear_57 rfl ?_
      refine w_icmp_le (tgt := 66) dX11_canBear_59 (by decide) (fun h3 => ?_) (fun h3 => ?_)
      · skip
        replace h3 : (jF a j 1) ≤ (tenN (jF a j 0) n) := (nI_leI (a := jF a j 1) (b := tenN (jF a j 0) n) (by omega) (by omega)).mp h3
        refine w_iconst (v := 0) dX11_canBear_66 (by decide) ?_
        exact w_ireturn dX11_canBear_67 rfl (rfl) rfl (⟨by rw [bI_f (show ¬ beaN a c j n from by unfold beaN bearN; omega)], rfl⟩)
      · skip
        replace h3 : ¬ ((jF a j 1) ≤ (tenN (jF a j 0) n)) := fun q => h3 ((nI_leI (a := jF a j 1) (b := tenN (jF a j 0) n) (by omega) (by omega)).mpr q)
        refine w_iconst (v := 1) dX11_canBear_62 (by decide) ?_
        refine w_goto (tgt := 67) dX11_canBear_63 (by decide) ?_
        exact w_ireturn dX11_canBear_67 rfl (rfl) rfl (⟨by rw [bI_t (show beaN a c j n from by unfold beaN bearN; omega)], rfl⟩)
  · skip
    replace h1 : (sF a c 0) = (1) := (nI_eq (a := sF a c 0) (b := 1) (by omega) (by omega)).mp h1
    refine w_aload_n dX11_canBear_26 rfl ?_
    refine w_iload_n dX11_canBear_27 rfl ?_
    refine w_iconst (v := 2) dX11_canBear_28 (by decide) ?_
    refine w_callV (as := [vI (nI j), vI (2)]) (st := []) (Tri.mono (d_of hm hJ hj (f := 2) (by decide)) (Nat.le_of_ble_eq_true rfl)) rfl rfl tg_X11_of lk_X11_139 in_X11_of se_X11_of rfl dX11_canBear_29 rfl (Nat.le_of_ble_eq_true rfl) (Nat.le_refl _) (Nat.le_refl _) ?_
    rintro _ _ ⟨rfl, rfl⟩ -
    refine w_iload dX11_canBear_32 rfl ?_
    refine w_icmp_lt (tgt := 41) dX11_canBear_34 (by decide) (fun h2 => ?_) (fun h2 => ?_)
    · skip
      replace h2 : (jF a j 2) < (tenN (jF a j 0) n) := (nI_ltI (a := jF a j 2) (b := tenN (jF a j 0) n) (by omega) (by omega)).mp h2
      refine w_iconst (v := 0) dX11_canBear_41 (by decide) ?_
      refine w_goto (tgt := 67) dX11_canBear_42 (by decide) ?_
      exact w_ireturn dX11_canBear_67 rfl (rfl) rfl (⟨by rw [bI_f (show ¬ beaN a c j n from by unfold beaN bearN; omega)], rfl⟩)
    · skip
      replace h2 : ¬ ((jF a j 2) < (tenN (jF a j 0) n)) := fun q => h2 ((nI_ltI (a := jF a j 2) (b := tenN (jF a j 0) n) (by omega) (by omega)).mpr q)
      refine w_iconst (v := 1) dX11_canBear_37 (by decide) ?_
      refine w_goto (tgt := 67) dX11_canBear_38 (by decide) ?_
      exact w_ireturn dX11_canBear_67 rfl (rfl) rfl (⟨by rw [bI_t (show beaN a c j n from by unfold beaN bearN; omega)], rfl⟩)

theorem d_canHear {I : xF4 Int32} {L : xF4 Int64} {a : aA} (hm : MI I a) (hw : WF a) {c j n : Nat} (hcc : c < nC a) (hj : j < nJ a) (hn : n ≤ 60) : Tri 2 109 m_X11_canHear [vR 30 0 0, vI (nI j), vI (nI c), vI (nI n)] (rM I L) (pI (bI (canN a c j n)) I L) := by
  refine ⟨k_X11_canHear, Nat.le_of_ble_eq_true rfl, ?_⟩
  show Wp _ _ _ 0 [some (vR 30 0 0), some (vI (nI j)), some (vI (nI c)), some (vI (nI n))] [] (rM I L) _
  obtain ⟨hJ, hC, hG, hD, hR, -⟩ := id hw
  obtain ⟨fc0, fc1, fc2, fc3, fc4, fc5, fc6, fc7, fc8⟩ := hw.2.2.2.2.2.2.1 c hcc
  obtain ⟨fj0, fj1, fj2, fj3⟩ := hw.2.2.2.2.2.1 j hj
  have ft := tenN_le fj0 hn
  refine w_aload_n dX11_canHear_0 rfl ?_
  refine w_iload_n dX11_canHear_1 rfl ?_
  refine w_iconst (v := 4) dX11_canHear_2 (by decide) ?_
  refine w_callV (as := [vI (nI c), vI (4)]) (st := []) (Tri.mono (d_ofCase hm hC hcc (f := 4) (by decide) (by decide)) (Nat.le_of_ble_eq_true rfl)) rfl rfl tg_X11_ofCase lk_X11_145 in_X11_ofCase se_X11_ofCase rfl dX11_canHear_3 rfl (Nat.le_of_ble_eq_true rfl) (Nat.le_refl _) (Nat.le_refl _) ?_
  rintro _ _ ⟨rfl, rfl⟩ -
  refine w_if_ne (tgt := 55) dX11_canHear_6 (by decide) (fun h1 => ?_) (fun h1 => ?_)
  · skip
    replace h1 : ¬ ((sF a c 4) = (0)) := fun q => h1 ((nI_eq (a := sF a c 4) (b := 0) (by omega) (by omega)).mpr q)
    refine w_iconst (v := 0) dX11_canHear_55 (by decide) ?_
    exact w_ireturn dX11_canHear_56 rfl (rfl) rfl (⟨by rw [bI_f (show ¬ canN a c j n from fun q => by have q1 := q.1; have q2 := q.2.1; have q3 := q.2.2.1; first | omega | exact h4 q.2.2.2)], rfl⟩)
  · skip
    replace h1 : (sF a c 4) = (0) := (nI_eq (a := sF a c 4) (b := 0) (by omega) (by omega)).mp h1
    refine w_aload_n dX11_canHear_9 rfl ?_
    refine w_iload_n dX11_canHear_10 rfl ?_
    refine w_iconst (v := 3) dX11_canHear_11 (by decide) ?_
    refine w_callV (as := [vI (nI c), vI (3)]) (st := []) (Tri.mono (d_ofCase hm hC hcc (f := 3) (by decide) (by decide)) (Nat.le_of_ble_eq_true rfl)) rfl rfl tg_X11_ofCase lk_X11_145 in_X11_ofCase se_X11_ofCase rfl dX11_canHear_12 rfl (Nat.le_of_ble_eq_true rfl) (Nat.le_refl _) (Nat.le_refl _) ?_
    rintro _ _ ⟨rfl, rfl⟩ -
    refine w_aload_n dX11_canHear_15 rfl ?_
    refine w_getR (w := some (32, 0, 0)) ff_X11_13 rfl rfl dX11_canHear_16 rfl ?_
    refine w_bipush (v := 55) dX11_canHear_19 (by decide) ?_
    refine w_iaload (a := 55) rfl (vp_in_nI (n := 55) (by omega) (by omega)) (nI_clamp (n := 55) (by omega)) dX11_canHear_21 ?_
    rw [show (I 32 0 0 (55) : Int32) = nI (dY a) from hm.2.2.dy rfl]
    refine w_icmp_gt (tgt := 55) dX11_canHear_22 (by decide) (fun h2 => ?_) (fun h2 => ?_)
    · skip
      replace h2 : (dY a) < (sF a c 3) := (nI_ltI (a := dY a) (b := sF a c 3) (by omega) (by omega)).mp h2
      refine w_iconst (v := 0) dX11_canHear_55 (by decide) ?_
      exact w_ireturn dX11_canHear_56 rfl (rfl) rfl (⟨by rw [bI_f (show ¬ canN a c j n from fun q => by have q1 := q.1; have q2 := q.2.1; have q3 := q.2.2.1; first | omega | exact h4 q.2.2.2)], rfl⟩)
    · skip
      replace h2 : ¬ ((dY a) < (sF a c 3)) := fun q => h2 ((nI_ltI (a := dY a) (b := sF a c 3) (by omega) (by omega)).mpr q)
      refine w_aload_n dX11_canHear_25 rfl ?_
      refine w_iload_n dX11_canHear_26 rfl ?_
      refine w_iconst (v := 3) dX11_canHear_27 (by decide) ?_
      refine w_callV (as := [vI (nI j), vI (3)]) (st := []) (Tri.mono (d_of hm hJ hj (f := 3) (by decide)) (Nat.le_of_ble_eq_true rfl)) rfl rfl tg_X11_of lk_X11_139 in_X11_of se_X11_of rfl dX11_canHear_28 rfl (Nat.le_of_ble_eq_true rfl) (Nat.le_refl _) (Nat.le_refl _) ?_
      rintro _ _ ⟨rfl, rfl⟩ -
      refine w_aload_n dX11_canHear_31 rfl ?_
      refine w_getR (w := some (32, 0, 0)) ff_X11_13 rfl rfl dX11_canHear_32 rfl ?_
      refine w_bipush (v := 55) dX11_canHear_35 (by decide) ?_
      refine w_iaload (a := 55) rfl (vp_in_nI (n := 55) (by omega) (by omega)) (nI_clamp (n := 55) (by omega)) dX11_canHear_37 ?_
      rw [show (I 32 0 0 (55) : Int32) = nI (dY a) from hm.2.2.dy rfl]
      refine w_icmp_gt (tgt := 55) dX11_canHear_38 (by decide) (fun h3 => ?_) (fun h3 => ?_)
      · skip
        replace h3 : (dY a) < (jF a j 3) := (nI_ltI (a := dY a) (b := jF a j 3) (by omega) (by omega)).mp h3
        refine w_iconst (v := 0) dX11_canHear_55 (by decide) ?_
        exact w_ireturn dX11_canHear_56 rfl (rfl) rfl (⟨by rw [bI_f (show ¬ canN a c j n from fun q => by have q1 := q.1; have q2 := q.2.1; have q3 := q.2.2.1; first | omega | exact h4 q.2.2.2)], rfl⟩)
      · skip
        replace h3 : ¬ ((dY a) < (jF a j 3)) := fun q => h3 ((nI_ltI (a := dY a) (b := jF a j 3) (by omega) (by omega)).mpr q)
        refine w_aload_n dX11_canHear_41 rfl ?_
        refine w_iload_n dX11_canHear_42 rfl ?_
        refine w_iload_n dX11_canHear_43 rfl ?_
        refine w_iload_n dX11_canHear_44 rfl ?_
        refine w_callV (as := [vI (nI j), vI (nI c), vI (nI n)]) (st := []) (Tri.mono (d_canBear hm hw (c := c) (j := j) (n := n) hcc hj (by omega)) (Nat.le_of_ble_eq_true rfl)) rfl rfl tg_X11_canBear lk_X11_148 in_X11_canBear se_X11_canBear rfl dX11_canHear_45 rfl (Nat.le_of_ble_eq_true rfl) (Nat.le_refl _) (Nat.le_refl _) ?_
        rintro _ _ ⟨rfl, rfl⟩ -
        refine w_ifeq_b (tgt := 55) dX11_canHear_48 (by decide) (fun h4 => ?_) (fun h4 => ?_)
        · skip
          refine w_iconst (v := 0) dX11_canHear_55 (by decide) ?_
          exact w_ireturn dX11_canHear_56 rfl (rfl) rfl (⟨by rw [bI_f (show ¬ canN a c j n from fun q => by have q1 := q.1; have q2 := q.2.1; have q3 := q.2.2.1; first | omega | exact h4 q.2.2.2)], rfl⟩)
        · skip
          refine w_iconst (v := 1) dX11_canHear_51 (by decide) ?_
          refine w_goto (tgt := 56) dX11_canHear_52 (by decide) ?_
          exact w_ireturn dX11_canHear_56 rfl (rfl) rfl (⟨by rw [bI_t (show canN a c j n from ⟨by omega, by omega, by omega, h4⟩)], rfl⟩)

theorem upCr2 {I : xF4 Int32} {t b : Nat} {a : aA} (h : NowIs I t b a) (w1 : nJ a ≤ 4) (w2 : nC a ≤ 5) {x : Nat} (hx : x = b + 56) (v : Nat) : NowIs (xup I t 0 0 x (nI v)) t b (crimN a v) := by
  subst hx
  obtain ⟨h1, h2, h3, h4, h5', h6⟩ := h
  have q1 : ∀ j', j' < nJ (crimN a v) → j' < 4 := fun j' hj' => Nat.lt_of_lt_of_le hj' w1
  have q2 : ∀ j', j' < nC (crimN a v) → j' < 5 := fun j' hj' => Nat.lt_of_lt_of_le hj' w2
  exact ⟨fun j' hj' => ⟨fun f' hf' => (xup_slot (by have := q1 j' hj'; omega)).trans ((h1 j' hj').1 f' hf'), (xup_slot (by have := q1 j' hj'; omega)).trans (h1 j' hj').2⟩, fun c' hc' => ⟨fun f' hf' g5 => (xup_slot (by have := q2 c' hc'; omega)).trans ((h2 c' hc').1 f' hf' g5), (xup_slot (by have := q2 c' hc'; omega)).trans (h2 c' hc').2⟩, (xup_slot (by omega)).trans h3, xup_self, (xup_slot (by omega)).trans h5', fun i hi f' hf' => (xup_slot (by omega)).trans (h6 i hi f' hf')⟩

theorem d_sentences {I : xF4 Int32} {L : xF4 Int64} {a : aA} (hm : MI I a) (hw : WF a) {c j n : Nat} (hcc : c < nC a) (hj : j < nJ a) (hn : n ≤ 60) (hcan : canN a c j n) : Tri 2 109 m_X11_sentences [vR 30 0 0, vI (nI j), vI (nI c), vI (nI n)] (rM I L) (pM (sentN a c j n) I L) := by
  refine ⟨k_X11_sentences, Nat.le_of_ble_eq_true rfl, ?_⟩
  show Wp _ _ _ 0 [some (vR 30 0 0), some (vI (nI j)), some (vI (nI c)), some (vI (nI n)), none] [] (rM I L) _
  obtain ⟨hJ, hC, hG, hD, hR, -⟩ := id hw
  obtain ⟨fc0, fc1, fc2, fc3, fc4, fc5, fc6, fc7, fc8⟩ := hw.2.2.2.2.2.2.1 c hcc
  obtain ⟨fj0, fj1, fj2, fj3⟩ := hw.2.2.2.2.2.1 j hj
  have ft := tenN_le fj0 hn
  have hb := id hcan.2.2.2
  unfold bearN at hb
  refine w_aload_n dX11_sentences_0 rfl ?_
  refine w_iload_n dX11_sentences_1 rfl ?_
  refine w_iconst (v := 0) dX11_sentences_2 (by decide) ?_
  refine w_callV (as := [vI (nI j), vI (0)]) (st := []) (Tri.mono (d_of hm hJ hj (f := 0) (by decide)) (Nat.le_of_ble_eq_true rfl)) rfl rfl tg_X11_of lk_X11_139 in_X11_of se_X11_of rfl dX11_sentences_3 rfl (Nat.le_of_ble_eq_true rfl) (Nat.le_refl _) (Nat.le_refl _) ?_
  rintro _ _ ⟨rfl, rfl⟩ -
  refine w_iload_n dX11_sentences_6 rfl ?_
  refine w_callS (as := [vI (nI (jF a j 0)), vI (nI n)]) (st := []) (Tri.mono (d_tenthBy (kind := jF a j 0) (n := n) (by omega) (by omega)) (Nat.le_of_ble_eq_true rfl)) tg_X11_tenthBy lk_X11_142 sa_X11_tenthBy rfl dX11_sentences_7 rfl (Nat.le_of_ble_eq_true rfl) (Nat.le_refl _) (Nat.le_refl _) ?_
  rintro _ _ ⟨rfl, rfl⟩ -
  refine w_istore (ls' := [some (vR 30 0 0), some (vI (nI j)), some (vI (nI c)), some (vI (nI n)), some (vI (nI (tenN (jF a j 0) n)))]) dX11_sentences_10 rfl ?_
  refine w_aload_n dX11_sentences_12 rfl ?_
  refine w_iload_n dX11_sentences_13 rfl ?_
  refine w_iconst (v := 0) dX11_sentences_14 (by decide) ?_
  refine w_callV (as := [vI (nI c), vI (0)]) (st := []) (Tri.mono (d_ofCase hm hC hcc (f := 0) (by decide) (by decide)) (Nat.le_of_ble_eq_true rfl)) rfl rfl tg_X11_ofCase lk_X11_145 in_X11_ofCase se_X11_ofCase rfl dX11_sentences_15 rfl (Nat.le_of_ble_eq_true rfl) (Nat.le_refl _) (Nat.le_refl _) ?_
  rintro _ _ ⟨rfl, rfl⟩ -
  by_cases h1_0 : (sF a c 0 : Nat) = 0
  · skip
    have e1_0 : nI (sF a c 0) = 0 := congrArg nI h1_0
    refine w_tabIn (off := 26) (tgt := 44) dX11_sentences_18 (by rw [e1_0]; decide) (by rw [e1_0]; decide) (by rw [e1_0]; rfl) (by decide) ?_
    refine w_aload_n dX11_sentences_44 rfl ?_
    refine w_iload_n dX11_sentences_45 rfl ?_
    refine w_iconst (v := 3) dX11_sentences_46 (by decide) ?_
    refine w_aload_n dX11_sentences_47 rfl ?_
    refine w_getR (w := some (32, 0, 0)) ff_X11_13 rfl rfl dX11_sentences_48 rfl ?_
    refine w_bipush (v := 55) dX11_sentences_51 (by decide) ?_
    refine w_iaload (a := 55) rfl (vp_in_nI (n := 55) (by omega) (by omega)) (nI_clamp (n := 55) (by omega)) dX11_sentences_53 ?_
    rw [show (I 32 0 0 (55) : Int32) = nI (dY a) from hm.2.2.dy rfl]
    refine w_iload dX11_sentences_54 rfl ?_
    refine w_iadd dX11_sentences_56 ?_
    rw [show ((nI (dY a)) + (nI (tenN (jF a j 0) n)) : Int32) = nI ((dY a) + (tenN (jF a j 0) n)) from ar_add (p := dY a) (q := tenN (jF a j 0) n) rfl rfl (by omega)]
    refine w_callV (as := [vI (nI j), vI (3), vI (nI ((dY a) + (tenN (jF a j 0) n)))]) (st := []) (Tri.mono (d_becomesOf hm hJ hj (f := 3) (by decide) ((dY a) + (tenN (jF a j 0) n))) (Nat.le_of_ble_eq_true rfl)) rfl rfl tg_X11_becomesOf lk_X11_151 in_X11_becomesOf se_X11_becomesOf rfl dX11_sentences_57 rfl (Nat.le_of_ble_eq_true rfl) (Nat.le_refl _) (Nat.le_refl _) ?_
    rintro v M9 ⟨rfl, I1, rfl, hm1, hf1⟩ -
    refine w_goto (tgt := 143) dX11_sentences_60 (by decide) ?_
    refine w_aload_n dX11_sentences_143 rfl ?_
    refine w_getR (w := some (32, 0, 0)) ff_X11_13 rfl rfl dX11_sentences_144 rfl ?_
    refine w_bipush (v := 56) dX11_sentences_147 (by decide) ?_
    refine w_aload_n dX11_sentences_149 rfl ?_
    refine w_getR (w := some (32, 0, 0)) ff_X11_13 rfl rfl dX11_sentences_150 rfl ?_
    refine w_bipush (v := 56) dX11_sentences_153 (by decide) ?_
    refine w_iaload (a := 56) rfl (vp_in_nI (n := 56) (by omega) (by omega)) (nI_clamp (n := 56) (by omega)) dX11_sentences_155 ?_
    rw [show (I1 32 0 0 (56) : Int32) = nI (cR a) from hm1.2.2.cr rfl]
    refine w_iload_n dX11_sentences_156 rfl ?_
    refine w_iconst (v := 5) dX11_sentences_157 (by decide) ?_
    refine w_idiv dX11_sentences_158 (by decide) ?_
    rw [show ((nI n) / (5) : Int32) = nI (n / 5) from ar_div (p := n) (q := 5) rfl rfl (by omega) (by decide) (by decide) rfl]
    refine w_icmp_le (tgt := 176) dX11_sentences_159 (by decide) (fun h5 => ?_) (fun h5 => ?_)
    · skip
      replace h5 : (cR a) ≤ (n / 5) := (nI_leI (a := cR a) (b := n / 5) (by omega) (by omega)).mp h5
      refine w_iconst (v := 0) dX11_sentences_176 (by decide) ?_
      rw [show (0 : Int32) = nI (cR a - n / 5) from by first | rfl | exact congrArg nI (show 0 = cR a - n / 5 by omega)]
      refine w_iastore (a := 56) rfl (vp_in_nI (n := 56) (by omega) (by omega)) (nI_clamp (n := 56) (by omega)) dX11_sentences_177 ?_
      have hm2 : MI (xup I1 32 0 0 (56) (nI (cR a - n / 5))) (crimN (ajF a j 3 ((dY a) + (tenN (jF a j 0) n))) (cR a - n / 5)) := hm1.up (upCr2 hm1.2.2 (x := 56) hJ hC rfl _) rfl rfl
      have hf2 : FrT 32 I1 (xup I1 32 0 0 (56) (nI (cR a - n / 5))) := FrT.up
      obtain ⟨I2, hI2⟩ : ∃ z, z = xup I1 32 0 0 (56) (nI (cR a - n / 5)) := ⟨_, rfl⟩
      rw [← hI2] at hm2 hf2 ⊢
      refine w_aload_n dX11_sentences_178 rfl ?_
      refine w_iload_n dX11_sentences_179 rfl ?_
      refine w_iconst (v := 4) dX11_sentences_180 (by decide) ?_
      refine w_iload_n dX11_sentences_181 rfl ?_
      refine w_callV (as := [vI (nI c), vI (4), vI (nI n)]) (st := []) (Tri.mono (d_becomesCase hm2 hJ hC hcc (f := 4) (by decide) (by decide) (n)) (Nat.le_of_ble_eq_true rfl)) rfl rfl tg_X11_becomesCase lk_X11_155 in_X11_becomesCase se_X11_becomesCase rfl dX11_sentences_182 rfl (Nat.le_of_ble_eq_true rfl) (Nat.le_refl _) (Nat.le_refl _) ?_
      rintro v M9 ⟨rfl, I3, rfl, hm3, hf3⟩ -
      refine w_aload_n dX11_sentences_185 rfl ?_
      refine w_iload_n dX11_sentences_186 rfl ?_
      refine w_iconst (v := 5) dX11_sentences_187 (by decide) ?_
      refine w_iload_n dX11_sentences_188 rfl ?_
      refine w_callV (as := [vI (nI c), vI (5), vI (nI j)]) (st := []) (Tri.mono (d_becomesBy hm3 hJ hC hcc (some j)) (Nat.le_of_ble_eq_true rfl)) rfl rfl tg_X11_becomesCase lk_X11_155 in_X11_becomesCase se_X11_becomesCase rfl dX11_sentences_189 rfl (Nat.le_of_ble_eq_true rfl) (Nat.le_refl _) (Nat.le_refl _) ?_
      rintro v M9 ⟨rfl, I4, rfl, hm4, hf4⟩ -
      refine w_aload_n dX11_sentences_192 rfl ?_
      refine w_iload_n dX11_sentences_193 rfl ?_
      refine w_bipush (v := 6) dX11_sentences_194 (by decide) ?_
      refine w_iload dX11_sentences_196 rfl ?_
      refine w_callV (as := [vI (nI c), vI (6), vI (nI (tenN (jF a j 0) n))]) (st := []) (Tri.mono (d_becomesCase hm4 hJ hC hcc (f := 6) (by decide) (by decide) (tenN (jF a j 0) n)) (Nat.le_of_ble_eq_true rfl)) rfl rfl tg_X11_becomesCase lk_X11_155 in_X11_becomesCase se_X11_becomesCase rfl dX11_sentences_198 rfl (Nat.le_of_ble_eq_true rfl) (Nat.le_refl _) (Nat.le_refl _) ?_
      rintro v M9 ⟨rfl, I5, rfl, hm5, hf5⟩ -
      exact w_return dX11_sentences_201 rfl rfl (⟨rfl, _, rfl, by first | (have q := hm5; unfold sentN servN; rw [if_pos h1_0]; exact q), ((((hf1.tr hf2).tr hf3).tr hf4).tr hf5)⟩)
    · skip
      replace h5 : ¬ ((cR a) ≤ (n / 5)) := fun q => h5 ((nI_leI (a := cR a) (b := n / 5) (by omega) (by omega)).mpr q)
      refine w_aload_n dX11_sentences_162 rfl ?_
      refine w_getR (w := some (32, 0, 0)) ff_X11_13 rfl rfl dX11_sentences_163 rfl ?_
      refine w_bipush (v := 56) dX11_sentences_166 (by decide) ?_
      refine w_iaload (a := 56) rfl (vp_in_nI (n := 56) (by omega) (by omega)) (nI_clamp (n := 56) (by omega)) dX11_sentences_168 ?_
      rw [show (I1 32 0 0 (56) : Int32) = nI (cR a) from hm1.2.2.cr rfl]
      refine w_iload_n dX11_sentences_169 rfl ?_
      refine w_iconst (v := 5) dX11_sentences_170 (by decide) ?_
      refine w_idiv dX11_sentences_171 (by decide) ?_
      rw [show ((nI n) / (5) : Int32) = nI (n / 5) from ar_div (p := n) (q := 5) rfl rfl (by omega) (by decide) (by decide) rfl]
      refine w_isub dX11_sentences_172 ?_
      rw [show ((nI (cR a)) - (nI (n / 5)) : Int32) = nI ((cR a) - (n / 5)) from ar_sub (p := cR a) (q := n / 5) rfl rfl (by omega) rfl]
      refine w_goto (tgt := 177) dX11_sentences_173 (by decide) ?_
      rw [show (nI ((cR a) - (n / 5)) : Int32) = nI (cR a - n / 5) from by first | rfl | exact congrArg nI (show 0 = cR a - n / 5 by omega)]
      refine w_iastore (a := 56) rfl (vp_in_nI (n := 56) (by omega) (by omega)) (nI_clamp (n := 56) (by omega)) dX11_sentences_177 ?_
      have hm6 : MI (xup I1 32 0 0 (56) (nI (cR a - n / 5))) (crimN (ajF a j 3 ((dY a) + (tenN (jF a j 0) n))) (cR a - n / 5)) := hm1.up (upCr2 hm1.2.2 (x := 56) hJ hC rfl _) rfl rfl
      have hf6 : FrT 32 I1 (xup I1 32 0 0 (56) (nI (cR a - n / 5))) := FrT.up
      obtain ⟨I6, hI6⟩ : ∃ z, z = xup I1 32 0 0 (56) (nI (cR a - n / 5)) := ⟨_, rfl⟩
      rw [← hI6] at hm6 hf6 ⊢
      refine w_aload_n dX11_sentences_178 rfl ?_
      refine w_iload_n dX11_sentences_179 rfl ?_
      refine w_iconst (v := 4) dX11_sentences_180 (by decide) ?_
      refine w_iload_n dX11_sentences_181 rfl ?_
      refine w_callV (as := [vI (nI c), vI (4), vI (nI n)]) (st := []) (Tri.mono (d_becomesCase hm6 hJ hC hcc (f := 4) (by decide) (by decide) (n)) (Nat.le_of_ble_eq_true rfl)) rfl rfl tg_X11_becomesCase lk_X11_155 in_X11_becomesCase se_X11_becomesCase rfl dX11_sentences_182 rfl (Nat.le_of_ble_eq_true rfl) (Nat.le_refl _) (Nat.le_refl _) ?_
      rintro v M9 ⟨rfl, I7, rfl, hm7, hf7⟩ -
      refine w_aload_n dX11_sentences_185 rfl ?_
      refine w_iload_n dX11_sentences_186 rfl ?_
      refine w_iconst (v := 5) dX11_sentences_187 (by decide) ?_
      refine w_iload_n dX11_sentences_188 rfl ?_
      refine w_callV (as := [vI (nI c), vI (5), vI (nI j)]) (st := []) (Tri.mono (d_becomesBy hm7 hJ hC hcc (some j)) (Nat.le_of_ble_eq_true rfl)) rfl rfl tg_X11_becomesCase lk_X11_155 in_X11_becomesCase se_X11_becomesCase rfl dX11_sentences_189 rfl (Nat.le_of_ble_eq_true rfl) (Nat.le_refl _) (Nat.le_refl _) ?_
      rintro v M9 ⟨rfl, I8, rfl, hm8, hf8⟩ -
      refine w_aload_n dX11_sentences_192 rfl ?_
      refine w_iload_n dX11_sentences_193 rfl ?_
      refine w_bipush (v := 6) dX11_sentences_194 (by decide) ?_
      refine w_iload dX11_sentences_196 rfl ?_
      refine w_callV (as := [vI (nI c), vI (6), vI (nI (tenN (jF a j 0) n))]) (st := []) (Tri.mono (d_becomesCase hm8 hJ hC hcc (f := 6) (by decide) (by decide) (tenN (jF a j 0) n)) (Nat.le_of_ble_eq_true rfl)) rfl rfl tg_X11_becomesCase lk_X11_155 in_X11_becomesCase se_X11_becomesCase rfl dX11_sentences_198 rfl (Nat.le_of_ble_eq_true rfl) (Nat.le_refl _) (Nat.le_refl _) ?_
      rintro v M9 ⟨rfl, I9, rfl, hm9, hf9⟩ -
      exact w_return dX11_sentences_201 rfl rfl (⟨rfl, _, rfl, by first | (have q := hm9; unfold sentN servN; rw [if_pos h1_0]; exact q), ((((hf1.tr hf6).tr hf7).tr hf8).tr hf9)⟩)
  by_cases h1_1 : (sF a c 0 : Nat) = 1
  · skip
    have e1_1 : nI (sF a c 0) = 1 := congrArg nI h1_1
    refine w_tabIn (off := 45) (tgt := 63) dX11_sentences_18 (by rw [e1_1]; decide) (by rw [e1_1]; decide) (by rw [e1_1]; rfl) (by decide) ?_
    refine w_aload_n dX11_sentences_63 rfl ?_
    refine w_iload_n dX11_sentences_64 rfl ?_
    refine w_iconst (v := 2) dX11_sentences_65 (by decide) ?_
    refine w_aload_n dX11_sentences_66 rfl ?_
    refine w_iload_n dX11_sentences_67 rfl ?_
    refine w_iconst (v := 2) dX11_sentences_68 (by decide) ?_
    refine w_callV (as := [vI (nI j), vI (2)]) (st := [vI (2), vI (nI j), vR 30 0 0]) (Tri.mono (d_of hm hJ hj (f := 2) (by decide)) (Nat.le_of_ble_eq_true rfl)) rfl rfl tg_X11_of lk_X11_139 in_X11_of se_X11_of rfl dX11_sentences_69 rfl (Nat.le_of_ble_eq_true rfl) (Nat.le_refl _) (Nat.le_refl _) ?_
    rintro _ _ ⟨rfl, rfl⟩ -
    refine w_iload dX11_sentences_72 rfl ?_
    refine w_isub dX11_sentences_74 ?_
    rw [show ((nI (jF a j 2)) - (nI (tenN (jF a j 0) n)) : Int32) = nI ((jF a j 2) - (tenN (jF a j 0) n)) from ar_sub (p := jF a j 2) (q := tenN (jF a j 0) n) rfl rfl (by omega) rfl]
    refine w_callV (as := [vI (nI j), vI (2), vI (nI ((jF a j 2) - (tenN (jF a j 0) n)))]) (st := []) (Tri.mono (d_becomesOf hm hJ hj (f := 2) (by decide) ((jF a j 2) - (tenN (jF a j 0) n))) (Nat.le_of_ble_eq_true rfl)) rfl rfl tg_X11_becomesOf lk_X11_151 in_X11_becomesOf se_X11_becomesOf rfl dX11_sentences_75 rfl (Nat.le_of_ble_eq_true rfl) (Nat.le_refl _) (Nat.le_refl _) ?_
    rintro v M9 ⟨rfl, I10, rfl, hm10, hf10⟩ -
    refine w_goto (tgt := 143) dX11_sentences_78 (by decide) ?_
    refine w_aload_n dX11_sentences_143 rfl ?_
    refine w_getR (w := some (32, 0, 0)) ff_X11_13 rfl rfl dX11_sentences_144 rfl ?_
    refine w_bipush (v := 56) dX11_sentences_147 (by decide) ?_
    refine w_aload_n dX11_sentences_149 rfl ?_
    refine w_getR (w := some (32, 0, 0)) ff_X11_13 rfl rfl dX11_sentences_150 rfl ?_
    refine w_bipush (v := 56) dX11_sentences_153 (by decide) ?_
    refine w_iaload (a := 56) rfl (vp_in_nI (n := 56) (by omega) (by omega)) (nI_clamp (n := 56) (by omega)) dX11_sentences_155 ?_
    rw [show (I10 32 0 0 (56) : Int32) = nI (cR a) from hm10.2.2.cr rfl]
    refine w_iload_n dX11_sentences_156 rfl ?_
    refine w_iconst (v := 5) dX11_sentences_157 (by decide) ?_
    refine w_idiv dX11_sentences_158 (by decide) ?_
    rw [show ((nI n) / (5) : Int32) = nI (n / 5) from ar_div (p := n) (q := 5) rfl rfl (by omega) (by decide) (by decide) rfl]
    refine w_icmp_le (tgt := 176) dX11_sentences_159 (by decide) (fun h5 => ?_) (fun h5 => ?_)
    · skip
      replace h5 : (cR a) ≤ (n / 5) := (nI_leI (a := cR a) (b := n / 5) (by omega) (by omega)).mp h5
      refine w_iconst (v := 0) dX11_sentences_176 (by decide) ?_
      rw [show (0 : Int32) = nI (cR a - n / 5) from by first | rfl | exact congrArg nI (show 0 = cR a - n / 5 by omega)]
      refine w_iastore (a := 56) rfl (vp_in_nI (n := 56) (by omega) (by omega)) (nI_clamp (n := 56) (by omega)) dX11_sentences_177 ?_
      have hm11 : MI (xup I10 32 0 0 (56) (nI (cR a - n / 5))) (crimN (ajF a j 2 ((jF a j 2) - (tenN (jF a j 0) n))) (cR a - n / 5)) := hm10.up (upCr2 hm10.2.2 (x := 56) hJ hC rfl _) rfl rfl
      have hf11 : FrT 32 I10 (xup I10 32 0 0 (56) (nI (cR a - n / 5))) := FrT.up
      obtain ⟨I11, hI11⟩ : ∃ z, z = xup I10 32 0 0 (56) (nI (cR a - n / 5)) := ⟨_, rfl⟩
      rw [← hI11] at hm11 hf11 ⊢
      refine w_aload_n dX11_sentences_178 rfl ?_
      refine w_iload_n dX11_sentences_179 rfl ?_
      refine w_iconst (v := 4) dX11_sentences_180 (by decide) ?_
      refine w_iload_n dX11_sentences_181 rfl ?_
      refine w_callV (as := [vI (nI c), vI (4), vI (nI n)]) (st := []) (Tri.mono (d_becomesCase hm11 hJ hC hcc (f := 4) (by decide) (by decide) (n)) (Nat.le_of_ble_eq_true rfl)) rfl rfl tg_X11_becomesCase lk_X11_155 in_X11_becomesCase se_X11_becomesCase rfl dX11_sentences_182 rfl (Nat.le_of_ble_eq_true rfl) (Nat.le_refl _) (Nat.le_refl _) ?_
      rintro v M9 ⟨rfl, I12, rfl, hm12, hf12⟩ -
      refine w_aload_n dX11_sentences_185 rfl ?_
      refine w_iload_n dX11_sentences_186 rfl ?_
      refine w_iconst (v := 5) dX11_sentences_187 (by decide) ?_
      refine w_iload_n dX11_sentences_188 rfl ?_
      refine w_callV (as := [vI (nI c), vI (5), vI (nI j)]) (st := []) (Tri.mono (d_becomesBy hm12 hJ hC hcc (some j)) (Nat.le_of_ble_eq_true rfl)) rfl rfl tg_X11_becomesCase lk_X11_155 in_X11_becomesCase se_X11_becomesCase rfl dX11_sentences_189 rfl (Nat.le_of_ble_eq_true rfl) (Nat.le_refl _) (Nat.le_refl _) ?_
      rintro v M9 ⟨rfl, I13, rfl, hm13, hf13⟩ -
      refine w_aload_n dX11_sentences_192 rfl ?_
      refine w_iload_n dX11_sentences_193 rfl ?_
      refine w_bipush (v := 6) dX11_sentences_194 (by decide) ?_
      refine w_iload dX11_sentences_196 rfl ?_
      refine w_callV (as := [vI (nI c), vI (6), vI (nI (tenN (jF a j 0) n))]) (st := []) (Tri.mono (d_becomesCase hm13 hJ hC hcc (f := 6) (by decide) (by decide) (tenN (jF a j 0) n)) (Nat.le_of_ble_eq_true rfl)) rfl rfl tg_X11_becomesCase lk_X11_155 in_X11_becomesCase se_X11_becomesCase rfl dX11_sentences_198 rfl (Nat.le_of_ble_eq_true rfl) (Nat.le_refl _) (Nat.le_refl _) ?_
      rintro v M9 ⟨rfl, I14, rfl, hm14, hf14⟩ -
      exact w_return dX11_sentences_201 rfl rfl (⟨rfl, _, rfl, by first | (have q := hm14; unfold sentN servN; rw [if_neg h1_0, if_pos h1_1]; exact q), ((((hf10.tr hf11).tr hf12).tr hf13).tr hf14)⟩)
    · skip
      replace h5 : ¬ ((cR a) ≤ (n / 5)) := fun q => h5 ((nI_leI (a := cR a) (b := n / 5) (by omega) (by omega)).mpr q)
      refine w_aload_n dX11_sentences_162 rfl ?_
      refine w_getR (w := some (32, 0, 0)) ff_X11_13 rfl rfl dX11_sentences_163 rfl ?_
      refine w_bipush (v := 56) dX11_sentences_166 (by decide) ?_
      refine w_iaload (a := 56) rfl (vp_in_nI (n := 56) (by omega) (by omega)) (nI_clamp (n := 56) (by omega)) dX11_sentences_168 ?_
      rw [show (I10 32 0 0 (56) : Int32) = nI (cR a) from hm10.2.2.cr rfl]
      refine w_iload_n dX11_sentences_169 rfl ?_
      refine w_iconst (v := 5) dX11_sentences_170 (by decide) ?_
      refine w_idiv dX11_sentences_171 (by decide) ?_
      rw [show ((nI n) / (5) : Int32) = nI (n / 5) from ar_div (p := n) (q := 5) rfl rfl (by omega) (by decide) (by decide) rfl]
      refine w_isub dX11_sentences_172 ?_
      rw [show ((nI (cR a)) - (nI (n / 5)) : Int32) = nI ((cR a) - (n / 5)) from ar_sub (p := cR a) (q := n / 5) rfl rfl (by omega) rfl]
      refine w_goto (tgt := 177) dX11_sentences_173 (by decide) ?_
      rw [show (nI ((cR a) - (n / 5)) : Int32) = nI (cR a - n / 5) from by first | rfl | exact congrArg nI (show 0 = cR a - n / 5 by omega)]
      refine w_iastore (a := 56) rfl (vp_in_nI (n := 56) (by omega) (by omega)) (nI_clamp (n := 56) (by omega)) dX11_sentences_177 ?_
      have hm15 : MI (xup I10 32 0 0 (56) (nI (cR a - n / 5))) (crimN (ajF a j 2 ((jF a j 2) - (tenN (jF a j 0) n))) (cR a - n / 5)) := hm10.up (upCr2 hm10.2.2 (x := 56) hJ hC rfl _) rfl rfl
      have hf15 : FrT 32 I10 (xup I10 32 0 0 (56) (nI (cR a - n / 5))) := FrT.up
      obtain ⟨I15, hI15⟩ : ∃ z, z = xup I10 32 0 0 (56) (nI (cR a - n / 5)) := ⟨_, rfl⟩
      rw [← hI15] at hm15 hf15 ⊢
      refine w_aload_n dX11_sentences_178 rfl ?_
      refine w_iload_n dX11_sentences_179 rfl ?_
      refine w_iconst (v := 4) dX11_sentences_180 (by decide) ?_
      refine w_iload_n dX11_sentences_181 rfl ?_
      refine w_callV (as := [vI (nI c), vI (4), vI (nI n)]) (st := []) (Tri.mono (d_becomesCase hm15 hJ hC hcc (f := 4) (by decide) (by decide) (n)) (Nat.le_of_ble_eq_true rfl)) rfl rfl tg_X11_becomesCase lk_X11_155 in_X11_becomesCase se_X11_becomesCase rfl dX11_sentences_182 rfl (Nat.le_of_ble_eq_true rfl) (Nat.le_refl _) (Nat.le_refl _) ?_
      rintro v M9 ⟨rfl, I16, rfl, hm16, hf16⟩ -
      refine w_aload_n dX11_sentences_185 rfl ?_
      refine w_iload_n dX11_sentences_186 rfl ?_
      refine w_iconst (v := 5) dX11_sentences_187 (by decide) ?_
      refine w_iload_n dX11_sentences_188 rfl ?_
      refine w_callV (as := [vI (nI c), vI (5), vI (nI j)]) (st := []) (Tri.mono (d_becomesBy hm16 hJ hC hcc (some j)) (Nat.le_of_ble_eq_true rfl)) rfl rfl tg_X11_becomesCase lk_X11_155 in_X11_becomesCase se_X11_becomesCase rfl dX11_sentences_189 rfl (Nat.le_of_ble_eq_true rfl) (Nat.le_refl _) (Nat.le_refl _) ?_
      rintro v M9 ⟨rfl, I17, rfl, hm17, hf17⟩ -
      refine w_aload_n dX11_sentences_192 rfl ?_
      refine w_iload_n dX11_sentences_193 rfl ?_
      refine w_bipush (v := 6) dX11_sentences_194 (by decide) ?_
      refine w_iload dX11_sentences_196 rfl ?_
      refine w_callV (as := [vI (nI c), vI (6), vI (nI (tenN (jF a j 0) n))]) (st := []) (Tri.mono (d_becomesCase hm17 hJ hC hcc (f := 6) (by decide) (by decide) (tenN (jF a j 0) n)) (Nat.le_of_ble_eq_true rfl)) rfl rfl tg_X11_becomesCase lk_X11_155 in_X11_becomesCase se_X11_becomesCase rfl dX11_sentences_198 rfl (Nat.le_of_ble_eq_true rfl) (Nat.le_refl _) (Nat.le_refl _) ?_
      rintro v M9 ⟨rfl, I18, rfl, hm18, hf18⟩ -
      exact w_return dX11_sentences_201 rfl rfl (⟨rfl, _, rfl, by first | (have q := hm18; unfold sentN servN; rw [if_neg h1_0, if_pos h1_1]; exact q), ((((hf10.tr hf15).tr hf16).tr hf17).tr hf18)⟩)
  by_cases h1_2 : (sF a c 0 : Nat) = 2
  · skip
    have e1_2 : nI (sF a c 0) = 2 := congrArg nI h1_2
    refine w_tabIn (off := 63) (tgt := 81) dX11_sentences_18 (by rw [e1_2]; decide) (by rw [e1_2]; decide) (by rw [e1_2]; rfl) (by decide) ?_
    refine w_aload_n dX11_sentences_81 rfl ?_
    refine w_iload_n dX11_sentences_82 rfl ?_
    refine w_iconst (v := 1) dX11_sentences_83 (by decide) ?_
    refine w_aload_n dX11_sentences_84 rfl ?_
    refine w_iload_n dX11_sentences_85 rfl ?_
    refine w_iconst (v := 1) dX11_sentences_86 (by decide) ?_
    refine w_callV (as := [vI (nI j), vI (1)]) (st := [vI (1), vI (nI j), vR 30 0 0]) (Tri.mono (d_of hm hJ hj (f := 1) (by decide)) (Nat.le_of_ble_eq_true rfl)) rfl rfl tg_X11_of lk_X11_139 in_X11_of se_X11_of rfl dX11_sentences_87 rfl (Nat.le_of_ble_eq_true rfl) (Nat.le_refl _) (Nat.le_refl _) ?_
    rintro _ _ ⟨rfl, rfl⟩ -
    refine w_iload dX11_sentences_90 rfl ?_
    refine w_isub dX11_sentences_92 ?_
    rw [show ((nI (jF a j 1)) - (nI (tenN (jF a j 0) n)) : Int32) = nI ((jF a j 1) - (tenN (jF a j 0) n)) from ar_sub (p := jF a j 1) (q := tenN (jF a j 0) n) rfl rfl (by omega) rfl]
    refine w_callV (as := [vI (nI j), vI (1), vI (nI ((jF a j 1) - (tenN (jF a j 0) n)))]) (st := []) (Tri.mono (d_becomesOf hm hJ hj (f := 1) (by decide) ((jF a j 1) - (tenN (jF a j 0) n))) (Nat.le_of_ble_eq_true rfl)) rfl rfl tg_X11_becomesOf lk_X11_151 in_X11_becomesOf se_X11_becomesOf rfl dX11_sentences_93 rfl (Nat.le_of_ble_eq_true rfl) (Nat.le_refl _) (Nat.le_refl _) ?_
    rintro v M9 ⟨rfl, I19, rfl, hm19, hf19⟩ -
    refine w_aload_n dX11_sentences_96 rfl ?_
    refine w_iload_n dX11_sentences_97 rfl ?_
    refine w_iconst (v := 4) dX11_sentences_98 (by decide) ?_
    refine w_aload_n dX11_sentences_99 rfl ?_
    refine w_iload_n dX11_sentences_100 rfl ?_
    refine w_iconst (v := 4) dX11_sentences_101 (by decide) ?_
    refine w_callV (as := [vI (nI j), vI (4)]) (st := [vI (4), vI (nI j), vR 30 0 0]) (Tri.mono (d_ofS hm19 hJ hj) (Nat.le_of_ble_eq_true rfl)) rfl rfl tg_X11_of lk_X11_139 in_X11_of se_X11_of rfl dX11_sentences_102 rfl (Nat.le_of_ble_eq_true rfl) (Nat.le_refl _) (Nat.le_refl _) ?_
    rintro _ _ ⟨rfl, rfl⟩ -
    rw [show (sC (ajF a j 1 ((jF a j 1) - (tenN (jF a j 0) n))) j : Int32) = sC a j from rfl]
    refine w_iload dX11_sentences_105 rfl ?_
    refine w_iadd dX11_sentences_107 ?_
    refine w_callV (as := [vI (nI j), vI (4), vI ((sC a j) + (nI (tenN (jF a j 0) n)))]) (st := []) (Tri.mono (d_becomesSc hm19 hJ hj ((sC a j) + (nI (tenN (jF a j 0) n)))) (Nat.le_of_ble_eq_true rfl)) rfl rfl tg_X11_becomesOf lk_X11_151 in_X11_becomesOf se_X11_becomesOf rfl dX11_sentences_108 rfl (Nat.le_of_ble_eq_true rfl) (Nat.le_refl _) (Nat.le_refl _) ?_
    rintro v M9 ⟨rfl, I20, rfl, hm20, hf20⟩ -
    refine w_goto (tgt := 143) dX11_sentences_111 (by decide) ?_
    refine w_aload_n dX11_sentences_143 rfl ?_
    refine w_getR (w := some (32, 0, 0)) ff_X11_13 rfl rfl dX11_sentences_144 rfl ?_
    refine w_bipush (v := 56) dX11_sentences_147 (by decide) ?_
    refine w_aload_n dX11_sentences_149 rfl ?_
    refine w_getR (w := some (32, 0, 0)) ff_X11_13 rfl rfl dX11_sentences_150 rfl ?_
    refine w_bipush (v := 56) dX11_sentences_153 (by decide) ?_
    refine w_iaload (a := 56) rfl (vp_in_nI (n := 56) (by omega) (by omega)) (nI_clamp (n := 56) (by omega)) dX11_sentences_155 ?_
    rw [show (I20 32 0 0 (56) : Int32) = nI (cR a) from hm20.2.2.cr rfl]
    refine w_iload_n dX11_sentences_156 rfl ?_
    refine w_iconst (v := 5) dX11_sentences_157 (by decide) ?_
    refine w_idiv dX11_sentences_158 (by decide) ?_
    rw [show ((nI n) / (5) : Int32) = nI (n / 5) from ar_div (p := n) (q := 5) rfl rfl (by omega) (by decide) (by decide) rfl]
    refine w_icmp_le (tgt := 176) dX11_sentences_159 (by decide) (fun h5 => ?_) (fun h5 => ?_)
    · skip
      replace h5 : (cR a) ≤ (n / 5) := (nI_leI (a := cR a) (b := n / 5) (by omega) (by omega)).mp h5
      refine w_iconst (v := 0) dX11_sentences_176 (by decide) ?_
      rw [show (0 : Int32) = nI (cR a - n / 5) from by first | rfl | exact congrArg nI (show 0 = cR a - n / 5 by omega)]
      refine w_iastore (a := 56) rfl (vp_in_nI (n := 56) (by omega) (by omega)) (nI_clamp (n := 56) (by omega)) dX11_sentences_177 ?_
      have hm21 : MI (xup I20 32 0 0 (56) (nI (cR a - n / 5))) (crimN (ascA (ajF a j 1 ((jF a j 1) - (tenN (jF a j 0) n))) j ((sC a j) + (nI (tenN (jF a j 0) n)))) (cR a - n / 5)) := hm20.up (upCr2 hm20.2.2 (x := 56) hJ hC rfl _) rfl rfl
      have hf21 : FrT 32 I20 (xup I20 32 0 0 (56) (nI (cR a - n / 5))) := FrT.up
      obtain ⟨I21, hI21⟩ : ∃ z, z = xup I20 32 0 0 (56) (nI (cR a - n / 5)) := ⟨_, rfl⟩
      rw [← hI21] at hm21 hf21 ⊢
      refine w_aload_n dX11_sentences_178 rfl ?_
      refine w_iload_n dX11_sentences_179 rfl ?_
      refine w_iconst (v := 4) dX11_sentences_180 (by decide) ?_
      refine w_iload_n dX11_sentences_181 rfl ?_
      refine w_callV (as := [vI (nI c), vI (4), vI (nI n)]) (st := []) (Tri.mono (d_becomesCase hm21 hJ hC hcc (f := 4) (by decide) (by decide) (n)) (Nat.le_of_ble_eq_true rfl)) rfl rfl tg_X11_becomesCase lk_X11_155 in_X11_becomesCase se_X11_becomesCase rfl dX11_sentences_182 rfl (Nat.le_of_ble_eq_true rfl) (Nat.le_refl _) (Nat.le_refl _) ?_
      rintro v M9 ⟨rfl, I22, rfl, hm22, hf22⟩ -
      refine w_aload_n dX11_sentences_185 rfl ?_
      refine w_iload_n dX11_sentences_186 rfl ?_
      refine w_iconst (v := 5) dX11_sentences_187 (by decide) ?_
      refine w_iload_n dX11_sentences_188 rfl ?_
      refine w_callV (as := [vI (nI c), vI (5), vI (nI j)]) (st := []) (Tri.mono (d_becomesBy hm22 hJ hC hcc (some j)) (Nat.le_of_ble_eq_true rfl)) rfl rfl tg_X11_becomesCase lk_X11_155 in_X11_becomesCase se_X11_becomesCase rfl dX11_sentences_189 rfl (Nat.le_of_ble_eq_true rfl) (Nat.le_refl _) (Nat.le_refl _) ?_
      rintro v M9 ⟨rfl, I23, rfl, hm23, hf23⟩ -
      refine w_aload_n dX11_sentences_192 rfl ?_
      refine w_iload_n dX11_sentences_193 rfl ?_
      refine w_bipush (v := 6) dX11_sentences_194 (by decide) ?_
      refine w_iload dX11_sentences_196 rfl ?_
      refine w_callV (as := [vI (nI c), vI (6), vI (nI (tenN (jF a j 0) n))]) (st := []) (Tri.mono (d_becomesCase hm23 hJ hC hcc (f := 6) (by decide) (by decide) (tenN (jF a j 0) n)) (Nat.le_of_ble_eq_true rfl)) rfl rfl tg_X11_becomesCase lk_X11_155 in_X11_becomesCase se_X11_becomesCase rfl dX11_sentences_198 rfl (Nat.le_of_ble_eq_true rfl) (Nat.le_refl _) (Nat.le_refl _) ?_
      rintro v M9 ⟨rfl, I24, rfl, hm24, hf24⟩ -
      exact w_return dX11_sentences_201 rfl rfl (⟨rfl, _, rfl, by first | (have q := hm24; unfold sentN servN; rw [if_neg h1_0, if_neg h1_1, if_pos h1_2]; exact q), (((((hf19.tr hf20).tr hf21).tr hf22).tr hf23).tr hf24)⟩)
    · skip
      replace h5 : ¬ ((cR a) ≤ (n / 5)) := fun q => h5 ((nI_leI (a := cR a) (b := n / 5) (by omega) (by omega)).mpr q)
      refine w_aload_n dX11_sentences_162 rfl ?_
      refine w_getR (w := some (32, 0, 0)) ff_X11_13 rfl rfl dX11_sentences_163 rfl ?_
      refine w_bipush (v := 56) dX11_sentences_166 (by decide) ?_
      refine w_iaload (a := 56) rfl (vp_in_nI (n := 56) (by omega) (by omega)) (nI_clamp (n := 56) (by omega)) dX11_sentences_168 ?_
      rw [show (I20 32 0 0 (56) : Int32) = nI (cR a) from hm20.2.2.cr rfl]
      refine w_iload_n dX11_sentences_169 rfl ?_
      refine w_iconst (v := 5) dX11_sentences_170 (by decide) ?_
      refine w_idiv dX11_sentences_171 (by decide) ?_
      rw [show ((nI n) / (5) : Int32) = nI (n / 5) from ar_div (p := n) (q := 5) rfl rfl (by omega) (by decide) (by decide) rfl]
      refine w_isub dX11_sentences_172 ?_
      rw [show ((nI (cR a)) - (nI (n / 5)) : Int32) = nI ((cR a) - (n / 5)) from ar_sub (p := cR a) (q := n / 5) rfl rfl (by omega) rfl]
      refine w_goto (tgt := 177) dX11_sentences_173 (by decide) ?_
      rw [show (nI ((cR a) - (n / 5)) : Int32) = nI (cR a - n / 5) from by first | rfl | exact congrArg nI (show 0 = cR a - n / 5 by omega)]
      refine w_iastore (a := 56) rfl (vp_in_nI (n := 56) (by omega) (by omega)) (nI_clamp (n := 56) (by omega)) dX11_sentences_177 ?_
      have hm25 : MI (xup I20 32 0 0 (56) (nI (cR a - n / 5))) (crimN (ascA (ajF a j 1 ((jF a j 1) - (tenN (jF a j 0) n))) j ((sC a j) + (nI (tenN (jF a j 0) n)))) (cR a - n / 5)) := hm20.up (upCr2 hm20.2.2 (x := 56) hJ hC rfl _) rfl rfl
      have hf25 : FrT 32 I20 (xup I20 32 0 0 (56) (nI (cR a - n / 5))) := FrT.up
      obtain ⟨I25, hI25⟩ : ∃ z, z = xup I20 32 0 0 (56) (nI (cR a - n / 5)) := ⟨_, rfl⟩
      rw [← hI25] at hm25 hf25 ⊢
      refine w_aload_n dX11_sentences_178 rfl ?_
      refine w_iload_n dX11_sentences_179 rfl ?_
      refine w_iconst (v := 4) dX11_sentences_180 (by decide) ?_
      refine w_iload_n dX11_sentences_181 rfl ?_
      refine w_callV (as := [vI (nI c), vI (4), vI (nI n)]) (st := []) (Tri.mono (d_becomesCase hm25 hJ hC hcc (f := 4) (by decide) (by decide) (n)) (Nat.le_of_ble_eq_true rfl)) rfl rfl tg_X11_becomesCase lk_X11_155 in_X11_becomesCase se_X11_becomesCase rfl dX11_sentences_182 rfl (Nat.le_of_ble_eq_true rfl) (Nat.le_refl _) (Nat.le_refl _) ?_
      rintro v M9 ⟨rfl, I26, rfl, hm26, hf26⟩ -
      refine w_aload_n dX11_sentences_185 rfl ?_
      refine w_iload_n dX11_sentences_186 rfl ?_
      refine w_iconst (v := 5) dX11_sentences_187 (by decide) ?_
      refine w_iload_n dX11_sentences_188 rfl ?_
      refine w_callV (as := [vI (nI c), vI (5), vI (nI j)]) (st := []) (Tri.mono (d_becomesBy hm26 hJ hC hcc (some j)) (Nat.le_of_ble_eq_true rfl)) rfl rfl tg_X11_becomesCase lk_X11_155 in_X11_becomesCase se_X11_becomesCase rfl dX11_sentences_189 rfl (Nat.le_of_ble_eq_true rfl) (Nat.le_refl _) (Nat.le_refl _) ?_
      rintro v M9 ⟨rfl, I27, rfl, hm27, hf27⟩ -
      refine w_aload_n dX11_sentences_192 rfl ?_
      refine w_iload_n dX11_sentences_193 rfl ?_
      refine w_bipush (v := 6) dX11_sentences_194 (by decide) ?_
      refine w_iload dX11_sentences_196 rfl ?_
      refine w_callV (as := [vI (nI c), vI (6), vI (nI (tenN (jF a j 0) n))]) (st := []) (Tri.mono (d_becomesCase hm27 hJ hC hcc (f := 6) (by decide) (by decide) (tenN (jF a j 0) n)) (Nat.le_of_ble_eq_true rfl)) rfl rfl tg_X11_becomesCase lk_X11_155 in_X11_becomesCase se_X11_becomesCase rfl dX11_sentences_198 rfl (Nat.le_of_ble_eq_true rfl) (Nat.le_refl _) (Nat.le_refl _) ?_
      rintro v M9 ⟨rfl, I28, rfl, hm28, hf28⟩ -
      exact w_return dX11_sentences_201 rfl rfl (⟨rfl, _, rfl, by first | (have q := hm28; unfold sentN servN; rw [if_neg h1_0, if_neg h1_1, if_pos h1_2]; exact q), (((((hf19.tr hf20).tr hf25).tr hf26).tr hf27).tr hf28)⟩)
  refine w_tabOut (tgt := 114) dX11_sentences_18 (i32_out (lo := 0) (hi := 2) (fun k h1 h2 e => ?_)) (by decide) ?_
  · skip
    rw [nI_toInt (by omega)] at e
    omega
  refine w_aload_n dX11_sentences_114 rfl ?_
  refine w_iload_n dX11_sentences_115 rfl ?_
  refine w_iconst (v := 3) dX11_sentences_116 (by decide) ?_
  refine w_aload_n dX11_sentences_117 rfl ?_
  refine w_getR (w := some (32, 0, 0)) ff_X11_13 rfl rfl dX11_sentences_118 rfl ?_
  refine w_bipush (v := 55) dX11_sentences_121 (by decide) ?_
  refine w_iaload (a := 55) rfl (vp_in_nI (n := 55) (by omega) (by omega)) (nI_clamp (n := 55) (by omega)) dX11_sentences_123 ?_
  rw [show (I 32 0 0 (55) : Int32) = nI (dY a) from hm.2.2.dy rfl]
  refine w_iconst (v := 1) dX11_sentences_124 (by decide) ?_
  refine w_iadd dX11_sentences_125 ?_
  rw [show ((nI (dY a)) + (1) : Int32) = nI ((dY a) + 1) from ar_add (p := dY a) (q := 1) rfl rfl (by omega)]
  refine w_callV (as := [vI (nI j), vI (3), vI (nI ((dY a) + 1))]) (st := []) (Tri.mono (d_becomesOf hm hJ hj (f := 3) (by decide) ((dY a) + 1)) (Nat.le_of_ble_eq_true rfl)) rfl rfl tg_X11_becomesOf lk_X11_151 in_X11_becomesOf se_X11_becomesOf rfl dX11_sentences_126 rfl (Nat.le_of_ble_eq_true rfl) (Nat.le_refl _) (Nat.le_refl _) ?_
  rintro v M9 ⟨rfl, I29, rfl, hm29, hf29⟩ -
  refine w_aload_n dX11_sentences_129 rfl ?_
  refine w_iload_n dX11_sentences_130 rfl ?_
  refine w_iconst (v := 4) dX11_sentences_131 (by decide) ?_
  refine w_aload_n dX11_sentences_132 rfl ?_
  refine w_iload_n dX11_sentences_133 rfl ?_
  refine w_iconst (v := 4) dX11_sentences_134 (by decide) ?_
  refine w_callV (as := [vI (nI j), vI (4)]) (st := [vI (4), vI (nI j), vR 30 0 0]) (Tri.mono (d_ofS hm29 hJ hj) (Nat.le_of_ble_eq_true rfl)) rfl rfl tg_X11_of lk_X11_139 in_X11_of se_X11_of rfl dX11_sentences_135 rfl (Nat.le_of_ble_eq_true rfl) (Nat.le_refl _) (Nat.le_refl _) ?_
  rintro _ _ ⟨rfl, rfl⟩ -
  rw [show (sC (ajF a j 3 ((dY a) + 1)) j : Int32) = sC a j from rfl]
  refine w_iconst (v := 1) dX11_sentences_138 (by decide) ?_
  refine w_iadd dX11_sentences_139 ?_
  refine w_callV (as := [vI (nI j), vI (4), vI ((sC a j) + (1))]) (st := []) (Tri.mono (d_becomesSc hm29 hJ hj ((sC a j) + (1))) (Nat.le_of_ble_eq_true rfl)) rfl rfl tg_X11_becomesOf lk_X11_151 in_X11_becomesOf se_X11_becomesOf rfl dX11_sentences_140 rfl (Nat.le_of_ble_eq_true rfl) (Nat.le_refl _) (Nat.le_refl _) ?_
  rintro v M9 ⟨rfl, I30, rfl, hm30, hf30⟩ -
  refine w_aload_n dX11_sentences_143 rfl ?_
  refine w_getR (w := some (32, 0, 0)) ff_X11_13 rfl rfl dX11_sentences_144 rfl ?_
  refine w_bipush (v := 56) dX11_sentences_147 (by decide) ?_
  refine w_aload_n dX11_sentences_149 rfl ?_
  refine w_getR (w := some (32, 0, 0)) ff_X11_13 rfl rfl dX11_sentences_150 rfl ?_
  refine w_bipush (v := 56) dX11_sentences_153 (by decide) ?_
  refine w_iaload (a := 56) rfl (vp_in_nI (n := 56) (by omega) (by omega)) (nI_clamp (n := 56) (by omega)) dX11_sentences_155 ?_
  rw [show (I30 32 0 0 (56) : Int32) = nI (cR a) from hm30.2.2.cr rfl]
  refine w_iload_n dX11_sentences_156 rfl ?_
  refine w_iconst (v := 5) dX11_sentences_157 (by decide) ?_
  refine w_idiv dX11_sentences_158 (by decide) ?_
  rw [show ((nI n) / (5) : Int32) = nI (n / 5) from ar_div (p := n) (q := 5) rfl rfl (by omega) (by decide) (by decide) rfl]
  refine w_icmp_le (tgt := 176) dX11_sentences_159 (by decide) (fun h5 => ?_) (fun h5 => ?_)
  · skip
    replace h5 : (cR a) ≤ (n / 5) := (nI_leI (a := cR a) (b := n / 5) (by omega) (by omega)).mp h5
    refine w_iconst (v := 0) dX11_sentences_176 (by decide) ?_
    rw [show (0 : Int32) = nI (cR a - n / 5) from by first | rfl | exact congrArg nI (show 0 = cR a - n / 5 by omega)]
    refine w_iastore (a := 56) rfl (vp_in_nI (n := 56) (by omega) (by omega)) (nI_clamp (n := 56) (by omega)) dX11_sentences_177 ?_
    have hm31 : MI (xup I30 32 0 0 (56) (nI (cR a - n / 5))) (crimN (ascA (ajF a j 3 ((dY a) + 1)) j ((sC a j) + (1))) (cR a - n / 5)) := hm30.up (upCr2 hm30.2.2 (x := 56) hJ hC rfl _) rfl rfl
    have hf31 : FrT 32 I30 (xup I30 32 0 0 (56) (nI (cR a - n / 5))) := FrT.up
    obtain ⟨I31, hI31⟩ : ∃ z, z = xup I30 32 0 0 (56) (nI (cR a - n / 5)) := ⟨_, rfl⟩
    rw [← hI31] at hm31 hf31 ⊢
    refine w_aload_n dX11_sentences_178 rfl ?_
    refine w_iload_n dX11_sentences_179 rfl ?_
    refine w_iconst (v := 4) dX11_sentences_180 (by decide) ?_
    refine w_iload_n dX11_sentences_181 rfl ?_
    refine w_callV (as := [vI (nI c), vI (4), vI (nI n)]) (st := []) (Tri.mono (d_becomesCase hm31 hJ hC hcc (f := 4) (by decide) (by decide) (n)) (Nat.le_of_ble_eq_true rfl)) rfl rfl tg_X11_becomesCase lk_X11_155 in_X11_becomesCase se_X11_becomesCase rfl dX11_sentences_182 rfl (Nat.le_of_ble_eq_true rfl) (Nat.le_refl _) (Nat.le_refl _) ?_
    rintro v M9 ⟨rfl, I32, rfl, hm32, hf32⟩ -
    refine w_aload_n dX11_sentences_185 rfl ?_
    refine w_iload_n dX11_sentences_186 rfl ?_
    refine w_iconst (v := 5) dX11_sentences_187 (by decide) ?_
    refine w_iload_n dX11_sentences_188 rfl ?_
    refine w_callV (as := [vI (nI c), vI (5), vI (nI j)]) (st := []) (Tri.mono (d_becomesBy hm32 hJ hC hcc (some j)) (Nat.le_of_ble_eq_true rfl)) rfl rfl tg_X11_becomesCase lk_X11_155 in_X11_becomesCase se_X11_becomesCase rfl dX11_sentences_189 rfl (Nat.le_of_ble_eq_true rfl) (Nat.le_refl _) (Nat.le_refl _) ?_
    rintro v M9 ⟨rfl, I33, rfl, hm33, hf33⟩ -
    refine w_aload_n dX11_sentences_192 rfl ?_
    refine w_iload_n dX11_sentences_193 rfl ?_
    refine w_bipush (v := 6) dX11_sentences_194 (by decide) ?_
    refine w_iload dX11_sentences_196 rfl ?_
    refine w_callV (as := [vI (nI c), vI (6), vI (nI (tenN (jF a j 0) n))]) (st := []) (Tri.mono (d_becomesCase hm33 hJ hC hcc (f := 6) (by decide) (by decide) (tenN (jF a j 0) n)) (Nat.le_of_ble_eq_true rfl)) rfl rfl tg_X11_becomesCase lk_X11_155 in_X11_becomesCase se_X11_becomesCase rfl dX11_sentences_198 rfl (Nat.le_of_ble_eq_true rfl) (Nat.le_refl _) (Nat.le_refl _) ?_
    rintro v M9 ⟨rfl, I34, rfl, hm34, hf34⟩ -
    exact w_return dX11_sentences_201 rfl rfl (⟨rfl, _, rfl, by first | (have q := hm34; unfold sentN servN; rw [if_neg h1_0, if_neg h1_1, if_neg h1_2]; exact q), (((((hf29.tr hf30).tr hf31).tr hf32).tr hf33).tr hf34)⟩)
  · skip
    replace h5 : ¬ ((cR a) ≤ (n / 5)) := fun q => h5 ((nI_leI (a := cR a) (b := n / 5) (by omega) (by omega)).mpr q)
    refine w_aload_n dX11_sentences_162 rfl ?_
    refine w_getR (w := some (32, 0, 0)) ff_X11_13 rfl rfl dX11_sentences_163 rfl ?_
    refine w_bipush (v := 56) dX11_sentences_166 (by decide) ?_
    refine w_iaload (a := 56) rfl (vp_in_nI (n := 56) (by omega) (by omega)) (nI_clamp (n := 56) (by omega)) dX11_sentences_168 ?_
    rw [show (I30 32 0 0 (56) : Int32) = nI (cR a) from hm30.2.2.cr rfl]
    refine w_iload_n dX11_sentences_169 rfl ?_
    refine w_iconst (v := 5) dX11_sentences_170 (by decide) ?_
    refine w_idiv dX11_sentences_171 (by decide) ?_
    rw [show ((nI n) / (5) : Int32) = nI (n / 5) from ar_div (p := n) (q := 5) rfl rfl (by omega) (by decide) (by decide) rfl]
    refine w_isub dX11_sentences_172 ?_
    rw [show ((nI (cR a)) - (nI (n / 5)) : Int32) = nI ((cR a) - (n / 5)) from ar_sub (p := cR a) (q := n / 5) rfl rfl (by omega) rfl]
    refine w_goto (tgt := 177) dX11_sentences_173 (by decide) ?_
    rw [show (nI ((cR a) - (n / 5)) : Int32) = nI (cR a - n / 5) from by first | rfl | exact congrArg nI (show 0 = cR a - n / 5 by omega)]
    refine w_iastore (a := 56) rfl (vp_in_nI (n := 56) (by omega) (by omega)) (nI_clamp (n := 56) (by omega)) dX11_sentences_177 ?_
    have hm35 : MI (xup I30 32 0 0 (56) (nI (cR a - n / 5))) (crimN (ascA (ajF a j 3 ((dY a) + 1)) j ((sC a j) + (1))) (cR a - n / 5)) := hm30.up (upCr2 hm30.2.2 (x := 56) hJ hC rfl _) rfl rfl
    have hf35 : FrT 32 I30 (xup I30 32 0 0 (56) (nI (cR a - n / 5))) := FrT.up
    obtain ⟨I35, hI35⟩ : ∃ z, z = xup I30 32 0 0 (56) (nI (cR a - n / 5)) := ⟨_, rfl⟩
    rw [← hI35] at hm35 hf35 ⊢
    refine w_aload_n dX11_sentences_178 rfl ?_
    refine w_iload_n dX11_sentences_179 rfl ?_
    refine w_iconst (v := 4) dX11_sentences_180 (by decide) ?_
    refine w_iload_n dX11_sentences_181 rfl ?_
    refine w_callV (as := [vI (nI c), vI (4), vI (nI n)]) (st := []) (Tri.mono (d_becomesCase hm35 hJ hC hcc (f := 4) (by decide) (by decide) (n)) (Nat.le_of_ble_eq_true rfl)) rfl rfl tg_X11_becomesCase lk_X11_155 in_X11_becomesCase se_X11_becomesCase rfl dX11_sentences_182 rfl (Nat.le_of_ble_eq_true rfl) (Nat.le_refl _) (Nat.le_refl _) ?_
    rintro v M9 ⟨rfl, I36, rfl, hm36, hf36⟩ -
    refine w_aload_n dX11_sentences_185 rfl ?_
    refine w_iload_n dX11_sentences_186 rfl ?_
    refine w_iconst (v := 5) dX11_sentences_187 (by decide) ?_
    refine w_iload_n dX11_sentences_188 rfl ?_
    refine w_callV (as := [vI (nI c), vI (5), vI (nI j)]) (st := []) (Tri.mono (d_becomesBy hm36 hJ hC hcc (some j)) (Nat.le_of_ble_eq_true rfl)) rfl rfl tg_X11_becomesCase lk_X11_155 in_X11_becomesCase se_X11_becomesCase rfl dX11_sentences_189 rfl (Nat.le_of_ble_eq_true rfl) (Nat.le_refl _) (Nat.le_refl _) ?_
    rintro v M9 ⟨rfl, I37, rfl, hm37, hf37⟩ -
    refine w_aload_n dX11_sentences_192 rfl ?_
    refine w_iload_n dX11_sentences_193 rfl ?_
    refine w_bipush (v := 6) dX11_sentences_194 (by decide) ?_
    refine w_iload dX11_sentences_196 rfl ?_
    refine w_callV (as := [vI (nI c), vI (6), vI (nI (tenN (jF a j 0) n))]) (st := []) (Tri.mono (d_becomesCase hm37 hJ hC hcc (f := 6) (by decide) (by decide) (tenN (jF a j 0) n)) (Nat.le_of_ble_eq_true rfl)) rfl rfl tg_X11_becomesCase lk_X11_155 in_X11_becomesCase se_X11_becomesCase rfl dX11_sentences_198 rfl (Nat.le_of_ble_eq_true rfl) (Nat.le_refl _) (Nat.le_refl _) ?_
    rintro v M9 ⟨rfl, I38, rfl, hm38, hf38⟩ -
    exact w_return dX11_sentences_201 rfl rfl (⟨rfl, _, rfl, by first | (have q := hm38; unfold sentN servN; rw [if_neg h1_0, if_neg h1_1, if_neg h1_2]; exact q), (((((hf29.tr hf30).tr hf35).tr hf36).tr hf37).tr hf38)⟩)
