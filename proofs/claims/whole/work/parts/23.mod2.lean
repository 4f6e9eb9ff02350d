/-! the reference's helpers: appeals, days, sums, copies (by wip/whole/gen/g23.py) -/
theorem bit_z0 : ∀ c, c < 6 → ∀ v, v < 2 ^ c → nI v ||| ((0 : Int32) <<< (nI c &&& 31)) = nI v := by decide +kernel
theorem bit_nz {p : Nat → Bool} {c : Nat} (hc : c < 6) (h : ¬ p c = true) : nI (bitN p c) ||| ((0 : Int32) <<< (nI c &&& 31)) = nI (bitN p (c + 1)) := by rw [bit_z0 c hc _ (bitN_lt p c), bitN, if_neg h, Nat.add_zero]
theorem upDy2 {I : xF4 Int32} {t b : Nat} {a : aA} (h : NowIs I t b a) (w1 : nJ a ≤ 4) (w2 : nC a ≤ 5) {x : Nat} (hx : x = b + 55) (v : Nat) : NowIs (xup I t 0 0 x (nI v)) t b (adyA a v) := by
  subst hx
  obtain ⟨h1, h2, h3, h4, h5', h6⟩ := h
  have q1 : ∀ j', j' < nJ (adyA a v) → j' < 4 := fun j' hj' => Nat.lt_of_lt_of_le hj' w1
  have q2 : ∀ j', j' < nC (adyA a v) → j' < 5 := fun j' hj' => Nat.lt_of_lt_of_le hj' w2
  exact ⟨fun j' hj' => ⟨fun f' hf' => (xup_slot (by have := q1 j' hj'; omega)).trans ((h1 j' hj').1 f' hf'), (xup_slot (by have := q1 j' hj'; omega)).trans (h1 j' hj').2⟩, fun c' hc' => ⟨fun f' hf' g5 => (xup_slot (by have := q2 c' hc'; omega)).trans ((h2 c' hc').1 f' hf' g5), (xup_slot (by have := q2 c' hc'; omega)).trans (h2 c' hc').2⟩, xup_self, (xup_slot (by omega)).trans h4, (xup_slot (by omega)).trans h5', fun i hi f' hf' => (xup_slot (by omega)).trans (h6 i hi f' hf')⟩
theorem asc_same (a : aA) (j : Nat) : ascA a j (sC a j - 0) = a := by
  show (nJ a, nC a, nG a, dY a, cR a, JF a, up1 (SC a) j (sC a j - 0), SF a, BY a, GF a) = a
  rw [show up1 (SC a) j (sC a j - 0) = SC a from funext fun i => by
    unfold up1
    split
    next h => rw [h, Int32.sub_zero]; rfl
    · rfl]
  rfl

theorem undo_0 {a : aA} {c b : Nat} (hb : bY a c = some b) (hk : sF a c 0 = 0) : undoN a c = asF (abyA (asF (crimN (ajF a b 3 (min (jF a b 3) (dY a))) (min 99 (cR a + sF a c 4 / 5))) c 4 0) c none) c 6 0 := by
  unfold undoN regN
  rw [hb, hk]
  rfl

theorem undo_1 {a : aA} {c b : Nat} (hb : bY a c = some b) (hk : sF a c 0 = 1) : undoN a c = asF (abyA (asF (crimN (ajF a b 2 (min 99 (jF a b 2 + sF a c 6))) (min 99 (cR a + sF a c 4 / 5))) c 4 0) c none) c 6 0 := by
  unfold undoN regN
  rw [hb, hk]
  rfl

theorem undo_2 {a : aA} {c b : Nat} (hb : bY a c = some b) (hk : sF a c 0 = 2) : undoN a c = asF (abyA (asF (crimN (ascA (ajF a b 1 (min 20 (jF a b 1 + sF a c 6))) b (sC a b - nI (sF a c 6))) (min 99 (cR a + sF a c 4 / 5))) c 4 0) c none) c 6 0 := by
  unfold undoN regN
  rw [hb, hk]
  rfl

theorem undo_3 {a : aA} {c b : Nat} (hb : bY a c = some b) (hk : sF a c 0 = 3) : undoN a c = asF (abyA (asF (crimN (ascA (ajF a b 3 (min (jF a b 3) (dY a))) b (sC a b - 1)) (min 99 (cR a + sF a c 4 / 5))) c 4 0) c none) c 6 0 := by
  unfold undoN regN
  rw [hb, hk]
  rfl

theorem d_appeals {I : xF4 Int32} {L : xF4 Int64} {a : aA} (hm : MI I a) (hw : WF a) {c b : Nat} (hcc : c < nC a) (hb : bY a c = some b) : Tri 2 109 m_X11_appeals [vR 30 0 0, vI (nI c)] (rM I L) (pM (undoN a c) I L) := by
  refine ⟨k_X11_appeals, Nat.le_of_ble_eq_true rfl, ?_⟩
  show Wp _ _ _ 0 [some (vR 30 0 0), some (vI (nI c)), none, none, none] [] (rM I L) _
  obtain ⟨hJ, hC, hG, hD, hR, -⟩ := id hw
  obtain ⟨fc0, fc1, fc2, fc3, fc4, fc5, fc6, fc7, fc8⟩ := hw.2.2.2.2.2.2.1 c hcc
  have hj := fc8 b hb
  obtain ⟨fj0, fj1, fj2, fj3⟩ := hw.2.2.2.2.2.1 b hj
  rcases (show sF a c 0 = 0 ∨ sF a c 0 = 1 ∨ sF a c 0 = 2 ∨ sF a c 0 = 3 by omega) with hk | hk | hk | hk
  · skip
    refine w_aload_n dX11_appeals_0 rfl ?_
    refine w_iload_n dX11_appeals_1 rfl ?_
    refine w_iconst (v := 5) dX11_appeals_2 (by decide) ?_
    refine w_callV (as := [vI (nI c), vI (5)]) (st := []) (Tri.mono (d_ofBy hm hC hcc) (Nat.le_of_ble_eq_true rfl)) rfl rfl tg_X11_ofCase lk_X11_145 in_X11_ofCase se_X11_ofCase rfl dX11_appeals_3 rfl (Nat.le_of_ble_eq_true rfl) (Nat.le_refl _) (Nat.le_refl _) ?_
    rintro _ _ ⟨rfl, rfl⟩ -
    rw [show (byI (bY a c) : Int32) = nI b from by rw [hb]; rfl]
    refine w_istore_n (ls' := [some (vR 30 0 0), some (vI (nI c)), some (vI (nI b)), none, none]) dX11_appeals_6 rfl ?_
    refine w_aload_n dX11_appeals_7 rfl ?_
    refine w_iload_n dX11_appeals_8 rfl ?_
    refine w_bipush (v := 6) dX11_appeals_9 (by decide) ?_
    refine w_callV (as := [vI (nI c), vI (6)]) (st := []) (Tri.mono (d_ofCase hm hC hcc (f := 6) (by decide) (by decide)) (Nat.le_of_ble_eq_true rfl)) rfl rfl tg_X11_ofCase lk_X11_145 in_X11_ofCase se_X11_ofCase rfl dX11_appeals_11 rfl (Nat.le_of_ble_eq_true rfl) (Nat.le_refl _) (Nat.le_refl _) ?_
    rintro _ _ ⟨rfl, rfl⟩ -
    refine w_istore_n (ls' := [some (vR 30 0 0), some (vI (nI c)), some (vI (nI b)), some (vI (nI (sF a c 6))), none]) dX11_appeals_14 rfl ?_
    refine w_aload_n dX11_appeals_15 rfl ?_
    refine w_iload_n dX11_appeals_16 rfl ?_
    refine w_iconst (v := 0) dX11_appeals_17 (by decide) ?_
    refine w_callV (as := [vI (nI c), vI (0)]) (st := []) (Tri.mono (d_ofCase hm hC hcc (f := 0) (by decide) (by decide)) (Nat.le_of_ble_eq_true rfl)) rfl rfl tg_X11_ofCase lk_X11_145 in_X11_ofCase se_X11_ofCase rfl dX11_appeals_18 rfl (Nat.le_of_ble_eq_true rfl) (Nat.le_refl _) (Nat.le_refl _) ?_
    rintro _ _ ⟨rfl, rfl⟩ -
    rw [show (nI (sF a c 0) : Int32) = 0 from by rw [hk]; rfl]
    refine w_istore (ls' := [some (vR 30 0 0), some (vI (nI c)), some (vI (nI b)), some (vI (nI (sF a c 6))), some (vI (0))]) dX11_appeals_21 rfl ?_
    refine w_iload dX11_appeals_23 rfl ?_
    refine w_if_eq (tgt := 34) dX11_appeals_25 (by decide) (fun _ => ?_) (fun h => absurd (by decide) h)
    refine w_aload_n dX11_appeals_34 rfl ?_
    refine w_iload_n dX11_appeals_35 rfl ?_
    refine w_iconst (v := 3) dX11_appeals_36 (by decide) ?_
    refine w_aload_n dX11_appeals_37 rfl ?_
    refine w_iload_n dX11_appeals_38 rfl ?_
    refine w_iconst (v := 3) dX11_appeals_39 (by decide) ?_
    refine w_callV (as := [vI (nI b), vI (3)]) (st := [vI (3), vI (nI b), vR 30 0 0]) (Tri.mono (d_of hm hJ hj (f := 3) (by decide)) (Nat.le_of_ble_eq_true rfl)) rfl rfl tg_X11_of lk_X11_139 in_X11_of se_X11_of rfl dX11_appeals_40 rfl (Nat.le_of_ble_eq_true rfl) (Nat.le_refl _) (Nat.le_refl _) ?_
    rintro _ _ ⟨rfl, rfl⟩ -
    refine w_aload_n dX11_appeals_43 rfl ?_
    refine w_getR (w := some (32, 0, 0)) ff_X11_13 rfl rfl dX11_appeals_44 rfl ?_
    refine w_bipush (v := 55) dX11_appeals_47 (by decide) ?_
    refine w_iaload (a := 55) rfl (vp_in_nI (n := 55) (by omega) (by omega)) (nI_clamp (n := 55) (by omega)) dX11_appeals_49 ?_
    rw [show (I 32 0 0 (55) : Int32) = nI (dY a) from hm.2.2.dy rfl]
    refine w_callS (as := [vI (nI (jF a b 3)), vI (nI (dY a))]) (st := [vI (3), vI (nI b), vR 30 0 0]) (Tri.mono (d_lesser (jF a b 3) (dY a) (by omega) (by omega)) (Nat.le_of_ble_eq_true rfl)) tg_X11_lesser lk_X11_158 sa_X11_lesser rfl dX11_appeals_50 rfl (Nat.le_of_ble_eq_true rfl) (Nat.le_refl _) (Nat.le_refl _) ?_
    rintro _ _ ⟨rfl, rfl⟩ -
    refine w_callV (as := [vI (nI b), vI (3), vI (nI (min (jF a b 3) (dY a)))]) (st := []) (Tri.mono (d_becomesOf hm hJ hj (f := 3) (by decide) (min (jF a b 3) (dY a))) (Nat.le_of_ble_eq_true rfl)) rfl rfl tg_X11_becomesOf lk_X11_151 in_X11_becomesOf se_X11_becomesOf rfl dX11_appeals_53 rfl (Nat.le_of_ble_eq_true rfl) (Nat.le_refl _) (Nat.le_refl _) ?_
    rintro v M9 ⟨rfl, I1, rfl, hm1, hf1⟩ -
    refine w_iload dX11_appeals_56 rfl ?_
    refine w_iconst (v := 1) dX11_appeals_58 (by decide) ?_
    refine w_icmp_ne (tgt := 81) dX11_appeals_59 (by decide) (fun _ => ?_) (fun h => absurd h (by decide))
    refine w_iload dX11_appeals_81 rfl ?_
    refine w_iconst (v := 2) dX11_appeals_83 (by decide) ?_
    refine w_icmp_ne (tgt := 106) dX11_appeals_84 (by decide) (fun _ => ?_) (fun h => absurd h (by decide))
    refine w_aload_n dX11_appeals_106 rfl ?_
    refine w_iload_n dX11_appeals_107 rfl ?_
    refine w_iconst (v := 4) dX11_appeals_108 (by decide) ?_
    refine w_aload_n dX11_appeals_109 rfl ?_
    refine w_iload_n dX11_appeals_110 rfl ?_
    refine w_iconst (v := 4) dX11_appeals_111 (by decide) ?_
    refine w_callV (as := [vI (nI b), vI (4)]) (st := [vI (4), vI (nI b), vR 30 0 0]) (Tri.mono (d_ofS hm1 hJ hj) (Nat.le_of_ble_eq_true rfl)) rfl rfl tg_X11_of lk_X11_139 in_X11_of se_X11_of rfl dX11_appeals_112 rfl (Nat.le_of_ble_eq_true rfl) (Nat.le_refl _) (Nat.le_refl _) ?_
    rintro _ _ ⟨rfl, rfl⟩ -
    rw [show (sC (ajF a b 3 (min (jF a b 3) (dY a))) b : Int32) = sC a b from rfl]
    refine w_iload dX11_appeals_115 rfl ?_
    refine w_iconst (v := 2) dX11_appeals_117 (by decide) ?_
    refine w_icmp_ne (tgt := 125) dX11_appeals_118 (by decide) (fun _ => ?_) (fun h => absurd h (by decide))
    refine w_iload dX11_appeals_125 rfl ?_
    refine w_iconst (v := 3) dX11_appeals_127 (by decide) ?_
    refine w_icmp_ne (tgt := 135) dX11_appeals_128 (by decide) (fun _ => ?_) (fun h => absurd h (by decide))
    refine w_iconst (v := 0) dX11_appeals_135 (by decide) ?_
    refine w_isub dX11_appeals_136 ?_
    refine w_callV (as := [vI (nI b), vI (4), vI ((sC a b) - (0))]) (st := []) (Tri.mono (d_becomesSc hm1 hJ hj ((sC a b) - (0))) (Nat.le_of_ble_eq_true rfl)) rfl rfl tg_X11_becomesOf lk_X11_151 in_X11_becomesOf se_X11_becomesOf rfl dX11_appeals_137 rfl (Nat.le_of_ble_eq_true rfl) (Nat.le_refl _) (Nat.le_refl _) ?_
    rintro v M9 ⟨rfl, I2, rfl, hm2, hf2⟩ -
    refine w_aload_n dX11_appeals_140 rfl ?_
    refine w_getR (w := some (32, 0, 0)) ff_X11_13 rfl rfl dX11_appeals_141 rfl ?_
    refine w_bipush (v := 56) dX11_appeals_144 (by decide) ?_
    refine w_bipush (v := 99) dX11_appeals_146 (by decide) ?_
    refine w_aload_n dX11_appeals_148 rfl ?_
    refine w_getR (w := some (32, 0, 0)) ff_X11_13 rfl rfl dX11_appeals_149 rfl ?_
    refine w_bipush (v := 56) dX11_appeals_152 (by decide) ?_
    refine w_iaload (a := 56) rfl (vp_in_nI (n := 56) (by omega) (by omega)) (nI_clamp (n := 56) (by omega)) dX11_appeals_154 ?_
    rw [show (I2 32 0 0 (56) : Int32) = nI (cR a) from hm2.2.2.cr rfl]
    refine w_aload_n dX11_appeals_155 rfl ?_
    refine w_iload_n dX11_appeals_156 rfl ?_
    refine w_iconst (v := 4) dX11_appeals_157 (by decide) ?_
    refine w_callV (as := [vI (nI c), vI (4)]) (st := [vI (nI (cR a)), vI (99), vI (56), vR 32 0 0]) (Tri.mono (d_ofCase hm2 hC hcc (f := 4) (by decide) (by decide)) (Nat.le_of_ble_eq_true rfl)) rfl rfl tg_X11_ofCase lk_X11_145 in_X11_ofCase se_X11_ofCase rfl dX11_appeals_158 rfl (Nat.le_of_ble_eq_true rfl) (Nat.le_refl _) (Nat.le_refl _) ?_
    rintro _ _ ⟨rfl, rfl⟩ -
    rw [show (nI (sF (ascA (ajF a b 3 (min (jF a b 3) (dY a))) b ((sC a b) - (0))) c 4) : Int32) = nI (sF a c 4) from rfl]
    refine w_iconst (v := 5) dX11_appeals_161 (by decide) ?_
    refine w_idiv dX11_appeals_162 (by decide) ?_
    rw [show ((nI (sF a c 4)) / (5) : Int32) = nI ((sF a c 4) / 5) from ar_div (p := sF a c 4) (q := 5) rfl rfl (by omega) (by decide) (by decide) rfl]
    refine w_iadd dX11_appeals_163 ?_
    rw [show ((nI (cR a)) + (nI ((sF a c 4) / 5)) : Int32) = nI ((cR a) + ((sF a c 4) / 5)) from ar_add (p := cR a) (q := (sF a c 4) / 5) rfl rfl (by omega)]
    refine w_callS (as := [vI (99), vI (nI ((cR a) + ((sF a c 4) / 5)))]) (st := [vI (56), vR 32 0 0]) (Tri.mono (d_lesser (99) ((cR a) + ((sF a c 4) / 5)) (by omega) (by omega)) (Nat.le_of_ble_eq_true rfl)) tg_X11_lesser lk_X11_158 sa_X11_lesser rfl dX11_appeals_164 rfl (Nat.le_of_ble_eq_true rfl) (Nat.le_refl _) (Nat.le_refl _) ?_
    rintro _ _ ⟨rfl, rfl⟩ -
    refine w_iastore (a := 56) rfl (vp_in_nI (n := 56) (by omega) (by omega)) (nI_clamp (n := 56) (by omega)) dX11_appeals_167 ?_
    have hm3 : MI (xup I2 32 0 0 (56) (nI (min 99 ((cR a) + ((sF a c 4) / 5))))) (crimN (ascA (ajF a b 3 (min (jF a b 3) (dY a))) b ((sC a b) - (0))) (min 99 (cR a + sF a c 4 / 5))) := hm2.up (upCr2 hm2.2.2 (x := 56) hJ hC rfl _) rfl rfl
    have hf3 : FrT 32 I2 (xup I2 32 0 0 (56) (nI (min 99 ((cR a) + ((sF a c 4) / 5))))) := FrT.up
    obtain ⟨I3, hI3⟩ : ∃ z, z = xup I2 32 0 0 (56) (nI (min 99 ((cR a) + ((sF a c 4) / 5)))) := ⟨_, rfl⟩
    rw [← hI3] at hm3 hf3 ⊢
    refine w_aload_n dX11_appeals_168 rfl ?_
    refine w_iload_n dX11_appeals_169 rfl ?_
    refine w_iconst (v := 4) dX11_appeals_170 (by decide) ?_
    refine w_iconst (v := 0) dX11_appeals_171 (by decide) ?_
    refine w_callV (as := [vI (nI c), vI (4), vI (0)]) (st := []) (Tri.mono (d_becomesCase hm3 hJ hC hcc (f := 4) (by decide) (by decide) (0)) (Nat.le_of_ble_eq_true rfl)) rfl rfl tg_X11_becomesCase lk_X11_155 in_X11_becomesCase se_X11_becomesCase rfl dX11_appeals_172 rfl (Nat.le_of_ble_eq_true rfl) (Nat.le_refl _) (Nat.le_refl _) ?_
    rintro v M9 ⟨rfl, I4, rfl, hm4, hf4⟩ -
    refine w_aload_n dX11_appeals_175 rfl ?_
    refine w_iload_n dX11_appeals_176 rfl ?_
    refine w_iconst (v := 5) dX11_appeals_177 (by decide) ?_
    refine w_bipush (v := (-4)) dX11_appeals_178 (by decide) ?_
    refine w_callV (as := [vI (nI c), vI (5), vI ((-4))]) (st := []) (Tri.mono (d_becomesBy hm4 hJ hC hcc none) (Nat.le_of_ble_eq_true rfl)) rfl rfl tg_X11_becomesCase lk_X11_155 in_X11_becomesCase se_X11_becomesCase rfl dX11_appeals_180 rfl (Nat.le_of_ble_eq_true rfl) (Nat.le_refl _) (Nat.le_refl _) ?_
    rintro v M9 ⟨rfl, I5, rfl, hm5, hf5⟩ -
    refine w_aload_n dX11_appeals_183 rfl ?_
    refine w_iload_n dX11_appeals_184 rfl ?_
    refine w_bipush (v := 6) dX11_appeals_185 (by decide) ?_
    refine w_iconst (v := 0) dX11_appeals_187 (by decide) ?_
    refine w_callV (as := [vI (nI c), vI (6), vI (0)]) (st := []) (Tri.mono (d_becomesCase hm5 hJ hC hcc (f := 6) (by decide) (by decide) (0)) (Nat.le_of_ble_eq_true rfl)) rfl rfl tg_X11_becomesCase lk_X11_155 in_X11_becomesCase se_X11_becomesCase rfl dX11_appeals_188 rfl (Nat.le_of_ble_eq_true rfl) (Nat.le_refl _) (Nat.le_refl _) ?_
    rintro v M9 ⟨rfl, I6, rfl, hm6, hf6⟩ -
    exact w_return dX11_appeals_191 rfl rfl (⟨rfl, _, rfl, by have q := hm6; rw [undo_0 hb hk]; rw [show ascA (ajF a b 3 (min (jF a b 3) (dY a))) b (sC a b - 0) = ajF a b 3 (min (jF a b 3) (dY a)) from asc_same (ajF a b 3 (min (jF a b 3) (dY a))) b] at q; exact q, (((((hf1.tr hf2).tr hf3).tr hf4).tr hf5).tr hf6)⟩)
  · skip
    refine w_aload_n dX11_appeals_0 rfl ?_
    refine w_iload_n dX11_appeals_1 rfl ?_
    refine w_iconst (v := 5) dX11_appeals_2 (by decide) ?_
    refine w_callV (as := [vI (nI c), vI (5)]) (st := []) (Tri.mono (d_ofBy hm hC hcc) (Nat.le_of_ble_eq_true rfl)) rfl rfl tg_X11_ofCase lk_X11_145 in_X11_ofCase se_X11_ofCase rfl dX11_appeals_3 rfl (Nat.le_of_ble_eq_true rfl) (Nat.le_refl _) (Nat.le_refl _) ?_
    rintro _ _ ⟨rfl, rfl⟩ -
    rw [show (byI (bY a c) : Int32) = nI b from by rw [hb]; rfl]
    refine w_istore_n (ls' := [some (vR 30 0 0), some (vI (nI c)), some (vI (nI b)), none, none]) dX11_appeals_6 rfl ?_
    refine w_aload_n dX11_appeals_7 rfl ?_
    refine w_iload_n dX11_appeals_8 rfl ?_
    refine w_bipush (v := 6) dX11_appeals_9 (by decide) ?_
    refine w_callV (as := [vI (nI c), vI (6)]) (st := []) (Tri.mono (d_ofCase hm hC hcc (f := 6) (by decide) (by decide)) (Nat.le_of_ble_eq_true rfl)) rfl rfl tg_X11_ofCase lk_X11_145 in_X11_ofCase se_X11_ofCase rfl dX11_appeals_11 rfl (Nat.le_of_ble_eq_true rfl) (Nat.le_refl _) (Nat.le_refl _) ?_
    rintro _ _ ⟨rfl, rfl⟩ -
    refine w_istore_n (ls' := [some (vR 30 0 0), some (vI (nI c)), some (vI (nI b)), some (vI (nI (sF a c 6))), none]) dX11_appeals_14 rfl ?_
    refine w_aload_n dX11_appeals_15 rfl ?_
    refine w_iload_n dX11_appeals_16 rfl ?_
    refine w_iconst (v := 0) dX11_appeals_17 (by decide) ?_
    refine w_callV (as := [vI (nI c), vI (0)]) (st := []) (Tri.mono (d_ofCase hm hC hcc (f := 0) (by decide) (by decide)) (Nat.le_of_ble_eq_true rfl)) rfl rfl tg_X11_ofCase lk_X11_145 in_X11_ofCase se_X11_ofCase rfl dX11_appeals_18 rfl (Nat.le_of_ble_eq_true rfl) (Nat.le_refl _) (Nat.le_refl _) ?_
    rintro _ _ ⟨rfl, rfl⟩ -
    rw [show (nI (sF a c 0) : Int32) = 1 from by rw [hk]; rfl]
    refine w_istore (ls' := [some (vR 30 0 0), some (vI (nI c)), some (vI (nI b)), some (vI (nI (sF a c 6))), some (vI (1))]) dX11_appeals_21 rfl ?_
    refine w_iload dX11_appeals_23 rfl ?_
    refine w_if_eq (tgt := 34) dX11_appeals_25 (by decide) (fun h => absurd h (by decide)) (fun _ => ?_)
    refine w_iload dX11_appeals_28 rfl ?_
    refine w_iconst (v := 3) dX11_appeals_30 (by decide) ?_
    refine w_icmp_ne (tgt := 56) dX11_appeals_31 (by decide) (fun _ => ?_) (fun h => absurd h (by decide))
    refine w_iload dX11_appeals_56 rfl ?_
    refine w_iconst (v := 1) dX11_appeals_58 (by decide) ?_
    refine w_icmp_ne (tgt := 81) dX11_appeals_59 (by decide) (fun h => absurd (by decide) h) (fun _ => ?_)
    refine w_aload_n dX11_appeals_62 rfl ?_
    refine w_iload_n dX11_appeals_63 rfl ?_
    refine w_iconst (v := 2) dX11_appeals_64 (by decide) ?_
    refine w_bipush (v := 99) dX11_appeals_65 (by decide) ?_
    refine w_aload_n dX11_appeals_67 rfl ?_
    refine w_iload_n dX11_appeals_68 rfl ?_
    refine w_iconst (v := 2) dX11_appeals_69 (by decide) ?_
    refine w_callV (as := [vI (nI b), vI (2)]) (st := [vI (99), vI (2), vI (nI b), vR 30 0 0]) (Tri.mono (d_of hm hJ hj (f := 2) (by decide)) (Nat.le_of_ble_eq_true rfl)) rfl rfl tg_X11_of lk_X11_139 in_X11_of se_X11_of rfl dX11_appeals_70 rfl (Nat.le_of_ble_eq_true rfl) (Nat.le_refl _) (Nat.le_refl _) ?_
    rintro _ _ ⟨rfl, rfl⟩ -
    refine w_iload_n dX11_appeals_73 rfl ?_
    refine w_iadd dX11_appeals_74 ?_
    rw [show ((nI (jF a b 2)) + (nI (sF a c 6)) : Int32) = nI ((jF a b 2) + (sF a c 6)) from ar_add (p := jF a b 2) (q := sF a c 6) rfl rfl (by omega)]
    refine w_callS (as := [vI (99), vI (nI ((jF a b 2) + (sF a c 6)))]) (st := [vI (2), vI (nI b), vR 30 0 0]) (Tri.mono (d_lesser (99) ((jF a b 2) + (sF a c 6)) (by omega) (by omega)) (Nat.le_of_ble_eq_true rfl)) tg_X11_lesser lk_X11_158 sa_X11_lesser rfl dX11_appeals_75 rfl (Nat.le_of_ble_eq_true rfl) (Nat.le_refl _) (Nat.le_refl _) ?_
    rintro _ _ ⟨rfl, rfl⟩ -
    refine w_callV (as := [vI (nI b), vI (2), vI (nI (min 99 ((jF a b 2) + (sF a c 6))))]) (st := []) (Tri.mono (d_becomesOf hm hJ hj (f := 2) (by decide) (min 99 ((jF a b 2) + (sF a c 6)))) (Nat.le_of_ble_eq_true rfl)) rfl rfl tg_X11_becomesOf lk_X11_151 in_X11_becomesOf se_X11_becomesOf rfl dX11_appeals_78 rfl (Nat.le_of_ble_eq_true rfl) (Nat.le_refl _) (Nat.le_refl _) ?_
    rintro v M9 ⟨rfl, I1, rfl, hm1, hf1⟩ -
    refine w_iload dX11_appeals_81 rfl ?_
    refine w_iconst (v := 2) dX11_appeals_83 (by decide) ?_
    refine w_icmp_ne (tgt := 106) dX11_appeals_84 (by decide) (fun _ => ?_) (fun h => absurd h (by decide))
    refine w_aload_n dX11_appeals_106 rfl ?_
    refine w_iload_n dX11_appeals_107 rfl ?_
    refine w_iconst (v := 4) dX11_appeals_108 (by decide) ?_
    refine w_aload_n dX11_appeals_109 rfl ?_
    refine w_iload_n dX11_appeals_110 rfl ?_
    refine w_iconst (v := 4) dX11_appeals_111 (by decide) ?_
    refine w_callV (as := [vI (nI b), vI (4)]) (st := [vI (4), vI (nI b), vR 30 0 0]) (Tri.mono (d_ofS hm1 hJ hj) (Nat.le_of_ble_eq_true rfl)) rfl rfl tg_X11_of lk_X11_139 in_X11_of se_X11_of rfl dX11_appeals_112 rfl (Nat.le_of_ble_eq_true rfl) (Nat.le_refl _) (Nat.le_refl _) ?_
    rintro _ _ ⟨rfl, rfl⟩ -
    rw [show (sC (ajF a b 2 (min 99 ((jF a b 2) + (sF a c 6)))) b : Int32) = sC a b from rfl]
    refine w_iload dX11_appeals_115 rfl ?_
    refine w_iconst (v := 2) dX11_appeals_117 (by decide) ?_
    refine w_icmp_ne (tgt := 125) dX11_appeals_118 (by decide) (fun _ => ?_) (fun h => absurd h (by decide))
    refine w_iload dX11_appeals_125 rfl ?_
    refine w_iconst (v := 3) dX11_appeals_127 (by decide) ?_
    refine w_icmp_ne (tgt := 135) dX11_appeals_128 (by decide) (fun _ => ?_) (fun h => absurd h (by decide))
    refine w_iconst (v := 0) dX11_appeals_135 (by decide) ?_
    refine w_isub dX11_appeals_136 ?_
    refine w_callV (as := [vI (nI b), vI (4), vI ((sC a b) - (0))]) (st := []) (Tri.mono (d_becomesSc hm1 hJ hj ((sC a b) - (0))) (Nat.le_of_ble_eq_true rfl)) rfl rfl tg_X11_becomesOf lk_X11_151 in_X11_becomesOf se_X11_becomesOf rfl dX11_appeals_137 rfl (Nat.le_of_ble_eq_true rfl) (Nat.le_refl _) (Nat.le_refl _) ?_
    rintro v M9 ⟨rfl, I2, rfl, hm2, hf2⟩ -
    refine w_aload_n dX11_appeals_140 rfl ?_
    refine w_getR (w := some (32, 0, 0)) ff_X11_13 rfl rfl dX11_appeals_141 rfl ?_
    refine w_bipush (v := 56) dX11_appeals_144 (by decide) ?_
    refine w_bipush (v := 99) dX11_appeals_146 (by decide) ?_
    refine w_aload_n dX11_appeals_148 rfl ?_
    refine w_getR (w := some (32, 0, 0)) ff_X11_13 rfl rfl dX11_appeals_149 rfl ?_
    refine w_bipush (v := 56) dX11_appeals_152 (by decide) ?_
    refine w_iaload (a := 56) rfl (vp_in_nI (n := 56) (by omega) (by omega)) (nI_clamp (n := 56) (by omega)) dX11_appeals_154 ?_
    rw [show (I2 32 0 0 (56) : Int32) = nI (cR a) from hm2.2.2.cr rfl]
    refine w_aload_n dX11_appeals_155 rfl ?_
    refine w_iload_n dX11_appeals_156 rfl ?_
    refine w_iconst (v := 4) dX11_appeals_157 (by decide) ?_
    refine w_callV (as := [vI (nI c), vI (4)]) (st := [vI (nI (cR a)), vI (99), vI (56), vR 32 0 0]) (Tri.mono (d_ofCase hm2 hC hcc (f := 4) (by decide) (by decide)) (Nat.le_of_ble_eq_true rfl)) rfl rfl tg_X11_ofCase lk_X11_145 in_X11_ofCase se_X11_ofCase rfl dX11_appeals_158 rfl (Nat.le_of_ble_eq_true rfl) (Nat.le_refl _) (Nat.le_refl _) ?_
    rintro _ _ ⟨rfl, rfl⟩ -
    rw [show (nI (sF (ascA (ajF a b 2 (min 99 ((jF a b 2) + (sF a c 6)))) b ((sC a b) - (0))) c 4) : Int32) = nI (sF a c 4) from rfl]
    refine w_iconst (v := 5) dX11_appeals_161 (by decide) ?_
    refine w_idiv dX11_appeals_162 (by decide) ?_
    rw [show ((nI (sF a c 4)) / (5) : Int32) = nI ((sF a c 4) / 5) from ar_div (p := sF a c 4) (q := 5) rfl rfl (by omega) (by decide) (by decide) rfl]
    refine w_iadd dX11_appeals_163 ?_
    rw [show ((nI (cR a)) + (nI ((sF a c 4) / 5)) : Int32) = nI ((cR a) + ((sF a c 4) / 5)) from ar_add (p := cR a) (q := (sF a c 4) / 5) rfl rfl (by omega)]
    refine w_callS (as := [vI (99), vI (nI ((cR a) + ((sF a c 4) / 5)))]) (st := [vI (56), vR 32 0 0]) (Tri.mono (d_lesser (99) ((cR a) + ((sF a c 4) / 5)) (by omega) (by omega)) (Nat.le_of_ble_eq_true rfl)) tg_X11_lesser lk_X11_158 sa_X11_lesser rfl dX11_appeals_164 rfl (Nat.le_of_ble_eq_true rfl) (Nat.le_refl _) (Nat.le_refl _) ?_
    rintro _ _ ⟨rfl, rfl⟩ -
    refine w_iastore (a := 56) rfl (vp_in_nI (n := 56) (by omega) (by omega)) (nI_clamp (n := 56) (by omega)) dX11_appeals_167 ?_
    have hm3 : MI (xup I2 32 0 0 (56) (nI (min 99 ((cR a) + ((sF a c 4) / 5))))) (crimN (ascA (ajF a b 2 (min 99 ((jF a b 2) + (sF a c 6)))) b ((sC a b) - (0))) (min 99 (cR a + sF a c 4 / 5))) := hm2.up (upCr2 hm2.2.2 (x := 56) hJ hC rfl _) rfl rfl
    have hf3 : FrT 32 I2 (xup I2 32 0 0 (56) (nI (min 99 ((cR a) + ((sF a c 4) / 5))))) := FrT.up
    obtain ⟨I3, hI3⟩ : ∃ z, z = xup I2 32 0 0 (56) (nI (min 99 ((cR a) + ((sF a c 4) / 5)))) := ⟨_, rfl⟩
    rw [← hI3] at hm3 hf3 ⊢
    refine w_aload_n dX11_appeals_168 rfl ?_
    refine w_iload_n dX11_appeals_169 rfl ?_
    refine w_iconst (v := 4) dX11_appeals_170 (by decide) ?_
    refine w_iconst (v := 0) dX11_appeals_171 (by decide) ?_
    refine w_callV (as := [vI (nI c), vI (4), vI (0)]) (st := []) (Tri.mono (d_becomesCase hm3 hJ hC hcc (f := 4) (by decide) (by decide) (0)) (Nat.le_of_ble_eq_true rfl)) rfl rfl tg_X11_becomesCase lk_X11_155 in_X11_becomesCase se_X11_becomesCase rfl dX11_appeals_172 rfl (Nat.le_of_ble_eq_true rfl) (Nat.le_refl _) (Nat.le_refl _) ?_
    rintro v M9 ⟨rfl, I4, rfl, hm4, hf4⟩ -
    refine w_aload_n dX11_appeals_175 rfl ?_
    refine w_iload_n dX11_appeals_176 rfl ?_
    refine w_iconst (v := 5) dX11_appeals_177 (by decide) ?_
    refine w_bipush (v := (-4)) dX11_appeals_178 (by decide) ?_
    refine w_callV (as := [vI (nI c), vI (5), vI ((-4))]) (st := []) (Tri.mono (d_becomesBy hm4 hJ hC hcc none) (Nat.le_of_ble_eq_true rfl)) rfl rfl tg_X11_becomesCase lk_X11_155 in_X11_becomesCase se_X11_becomesCase rfl dX11_appeals_180 rfl (Nat.le_of_ble_eq_true rfl) (Nat.le_refl _) (Nat.le_refl _) ?_
    rintro v M9 ⟨rfl, I5, rfl, hm5, hf5⟩ -
    refine w_aload_n dX11_appeals_183 rfl ?_
    refine w_iload_n dX11_appeals_184 rfl ?_
    refine w_bipush (v := 6) dX11_appeals_185 (by decide) ?_
    refine w_iconst (v := 0) dX11_appeals_187 (by decide) ?_
    refine w_callV (as := [vI (nI c), vI (6), vI (0)]) (st := []) (Tri.mono (d_becomesCase hm5 hJ hC hcc (f := 6) (by decide) (by decide) (0)) (Nat.le_of_ble_eq_true rfl)) rfl rfl tg_X11_becomesCase lk_X11_155 in_X11_becomesCase se_X11_becomesCase rfl dX11_appeals_188 rfl (Nat.le_of_ble_eq_true rfl) (Nat.le_refl _) (Nat.le_refl _) ?_
    rintro v M9 ⟨rfl, I6, rfl, hm6, hf6⟩ -
    exact w_return dX11_appeals_191 rfl rfl (⟨rfl, _, rfl, by have q := hm6; rw [undo_1 hb hk]; rw [show ascA (ajF a b 2 (min 99 (jF a b 2 + sF a c 6))) b (sC a b - 0) = ajF a b 2 (min 99 (jF a b 2 + sF a c 6)) from asc_same (ajF a b 2 (min 99 (jF a b 2 + sF a c 6))) b] at q; exact q, (((((hf1.tr hf2).tr hf3).tr hf4).tr hf5).tr hf6)⟩)
  · skip
    refine w_aload_n dX11_appeals_0 rfl ?_
    refine w_iload_n dX11_appeals_1 rfl ?_
    refine w_iconst (v := 5) dX11_appeals_2 (by decide) ?_
    refine w_callV (as := [vI (nI c), vI (5)]) (st := []) (Tri.mono (d_ofBy hm hC hcc) (Nat.le_of_ble_eq_true rfl)) rfl rfl tg_X11_ofCase lk_X11_145 in_X11_ofCase se_X11_ofCase rfl dX11_appeals_3 rfl (Nat.le_of_ble_eq_true rfl) (Nat.le_refl _) (Nat.le_refl _) ?_
    rintro _ _ ⟨rfl, rfl⟩ -
    rw [show (byI (bY a c) : Int32) = nI b from by rw [hb]; rfl]
    refine w_istore_n (ls' := [some (vR 30 0 0), some (vI (nI c)), some (vI (nI b)), none, none]) dX11_appeals_6 rfl ?_
    refine w_aload_n dX11_appeals_7 rfl ?_
    refine w_iload_n dX11_appeals_8 rfl ?_
    refine w_bipush (v := 6) dX11_appeals_9 (by decide) ?_
    refine w_callV (as := [vI (nI c), vI (6)]) (st := []) (Tri.mono (d_ofCase hm hC hcc (f := 6) (by decide) (by decide)) (Nat.le_of_ble_eq_true rfl)) rfl rfl tg_X11_ofCase lk_X11_145 in_X11_ofCase se_X11_ofCase rfl dX11_appeals_11 rfl (Nat.le_of_ble_eq_true rfl) (Nat.le_refl _) (Nat.le_refl _) ?_
    rintro _ _ ⟨rfl, rfl⟩ -
    refine w_istore_n (ls' := [some (vR 30 0 0), some (vI (nI c)), some (vI (nI b)), some (vI (nI (sF a c 6))), none]) dX11_appeals_14 rfl ?_
    refine w_aload_n dX11_appeals_15 rfl ?_
    refine w_iload_n dX11_appeals_16 rfl ?_
    refine w_iconst (v := 0) dX11_appeals_17 (by decide) ?_
    refine w_callV (as := [vI (nI c), vI (0)]) (st := []) (Tri.mono (d_ofCase hm hC hcc (f := 0) (by decide) (by decide)) (Nat.le_of_ble_eq_true rfl)) rfl rfl tg_X11_ofCase lk_X11_145 in_X11_ofCase se_X11_ofCase rfl dX11_appeals_18 rfl (Nat.le_of_ble_eq_true rfl) (Nat.le_refl _) (Nat.le_refl _) ?_
    rintro _ _ ⟨rfl, rfl⟩ -
    rw [show (nI (sF a c 0) : Int32) = 2 from by rw [hk]; rfl]
    refine w_istore (ls' := [some (vR 30 0 0), some (vI (nI c)), some (vI (nI b)), some (vI (nI (sF a c 6))), some (vI (2))]) dX11_appeals_21 rfl ?_
    refine w_iload dX11_appeals_23 rfl ?_
    refine w_if_eq (tgt := 34) dX11_appeals_25 (by decide) (fun h => absurd h (by decide)) (fun _ => ?_)
    refine w_iload dX11_appeals_28 rfl ?_
    refine w_iconst (v := 3) dX11_appeals_30 (by decide) ?_
    refine w_icmp_ne (tgt := 56) dX11_appeals_31 (by decide) (fun _ => ?_) (fun h => absurd h (by decide))
    refine w_iload dX11_appeals_56 rfl ?_
    refine w_iconst (v := 1) dX11_appeals_58 (by decide) ?_
    refine w_icmp_ne (tgt := 81) dX11_appeals_59 (by decide) (fun _ => ?_) (fun h => absurd h (by decide))
    refine w_iload dX11_appeals_81 rfl ?_
    refine w_iconst (v := 2) dX11_appeals_83 (by decide) ?_
    refine w_icmp_ne (tgt := 106) dX11_appeals_84 (by decide) (fun h => absurd (by decide) h) (fun _ => ?_)
    refine w_aload_n dX11_appeals_87 rfl ?_
    refine w_iload_n dX11_appeals_88 rfl ?_
    refine w_iconst (v := 1) dX11_appeals_89 (by decide) ?_
    refine w_bipush (v := 20) dX11_appeals_90 (by decide) ?_
    refine w_aload_n dX11_appeals_92 rfl ?_
    refine w_iload_n dX11_appeals_93 rfl ?_
    refine w_iconst (v := 1) dX11_appeals_94 (by decide) ?_
    refine w_callV (as := [vI (nI b), vI (1)]) (st := [vI (20), vI (1), vI (nI b), vR 30 0 0]) (Tri.mono (d_of hm hJ hj (f := 1) (by decide)) (Nat.le_of_ble_eq_true rfl)) rfl rfl tg_X11_of lk_X11_139 in_X11_of se_X11_of rfl dX11_appeals_95 rfl (Nat.le_of_ble_eq_true rfl) (Nat.le_refl _) (Nat.le_refl _) ?_
    rintro _ _ ⟨rfl, rfl⟩ -
    refine w_iload_n dX11_appeals_98 rfl ?_
    refine w_iadd dX11_appeals_99 ?_
    rw [show ((nI (jF a b 1)) + (nI (sF a c 6)) : Int32) = nI ((jF a b 1) + (sF a c 6)) from ar_add (p := jF a b 1) (q := sF a c 6) rfl rfl (by omega)]
    refine w_callS (as := [vI (20), vI (nI ((jF a b 1) + (sF a c 6)))]) (st := [vI (1), vI (nI b), vR 30 0 0]) (Tri.mono (d_lesser (20) ((jF a b 1) + (sF a c 6)) (by omega) (by omega)) (Nat.le_of_ble_eq_true rfl)) tg_X11_lesser lk_X11_158 sa_X11_lesser rfl dX11_appeals_100 rfl (Nat.le_of_ble_eq_true rfl) (Nat.le_refl _) (Nat.le_refl _) ?_
    rintro _ _ ⟨rfl, rfl⟩ -
    refine w_callV (as := [vI (nI b), vI (1), vI (nI (min 20 ((jF a b 1) + (sF a c 6))))]) (st := []) (Tri.mono (d_becomesOf hm hJ hj (f := 1) (by decide) (min 20 ((jF a b 1) + (sF a c 6)))) (Nat.le_of_ble_eq_true rfl)) rfl rfl tg_X11_becomesOf lk_X11_151 in_X11_becomesOf se_X11_becomesOf rfl dX11_appeals_103 rfl (Nat.le_of_ble_eq_true rfl) (Nat.le_refl _) (Nat.le_refl _) ?_
    rintro v M9 ⟨rfl, I1, rfl, hm1, hf1⟩ -
    refine w_aload_n dX11_appeals_106 rfl ?_
    refine w_iload_n dX11_appeals_107 rfl ?_
    refine w_iconst (v := 4) dX11_appeals_108 (by decide) ?_
    refine w_aload_n dX11_appeals_109 rfl ?_
    refine w_iload_n dX11_appeals_110 rfl ?_
    refine w_iconst (v := 4) dX11_appeals_111 (by decide) ?_
    refine w_callV (as := [vI (nI b), vI (4)]) (st := [vI (4), vI (nI b), vR 30 0 0]) (Tri.mono (d_ofS hm1 hJ hj) (Nat.le_of_ble_eq_true rfl)) rfl rfl tg_X11_of lk_X11_139 in_X11_of se_X11_of rfl dX11_appeals_112 rfl (Nat.le_of_ble_eq_true rfl) (Nat.le_refl _) (Nat.le_refl _) ?_
    rintro _ _ ⟨rfl, rfl⟩ -
    rw [show (sC (ajF a b 1 (min 20 ((jF a b 1) + (sF a c 6)))) b : Int32) = sC a b from rfl]
    refine w_iload dX11_appeals_115 rfl ?_
    refine w_iconst (v := 2) dX11_appeals_117 (by decide) ?_
    refine w_icmp_ne (tgt := 125) dX11_appeals_118 (by decide) (fun h => absurd (by decide) h) (fun _ => ?_)
    refine w_iload_n dX11_appeals_121 rfl ?_
    refine w_goto (tgt := 136) dX11_appeals_122 (by decide) ?_
    refine w_isub dX11_appeals_136 ?_
    refine w_callV (as := [vI (nI b), vI (4), vI ((sC a b) - (nI (sF a c 6)))]) (st := []) (Tri.mono (d_becomesSc hm1 hJ hj ((sC a b) - (nI (sF a c 6)))) (Nat.le_of_ble_eq_true rfl)) rfl rfl tg_X11_becomesOf lk_X11_151 in_X11_becomesOf se_X11_becomesOf rfl dX11_appeals_137 rfl (Nat.le_of_ble_eq_true rfl) (Nat.le_refl _) (Nat.le_refl _) ?_
    rintro v M9 ⟨rfl, I2, rfl, hm2, hf2⟩ -
    refine w_aload_n dX11_appeals_140 rfl ?_
    refine w_getR (w := some (32, 0, 0)) ff_X11_13 rfl rfl dX11_appeals_141 rfl ?_
    refine w_bipush (v := 56) dX11_appeals_144 (by decide) ?_
    refine w_bipush (v := 99) dX11_appeals_146 (by decide) ?_
    refine w_aload_n dX11_appeals_148 rfl ?_
    refine w_getR (w := some (32, 0, 0)) ff_X11_13 rfl rfl dX11_appeals_149 rfl ?_
    refine w_bipush (v := 56) dX11_appeals_152 (by decide) ?_
    refine w_iaload (a := 56) rfl (vp_in_nI (n := 56) (by omega) (by omega)) (nI_clamp (n := 56) (by omega)) dX11_appeals_154 ?_
    rw [show (I2 32 0 0 (56) : Int32) = nI (cR a) from hm2.2.2.cr rfl]
    refine w_aload_n dX11_appeals_155 rfl ?_
    refine w_iload_n dX11_appeals_156 rfl ?_
    refine w_iconst (v := 4) dX11_appeals_157 (by decide) ?_
    refine w_callV (as := [vI (nI c), vI (4)]) (st := [vI (nI (cR a)), vI (99), vI (56), vR 32 0 0]) (Tri.mono (d_ofCase hm2 hC hcc (f := 4) (by decide) (by decide)) (Nat.le_of_ble_eq_true rfl)) rfl rfl tg_X11_ofCase lk_X11_145 in_X11_ofCase se_X11_ofCase rfl dX11_appeals_158 rfl (Nat.le_of_ble_eq_true rfl) (Nat.le_refl _) (Nat.le_refl _) ?_
    rintro _ _ ⟨rfl, rfl⟩ -
    rw [show (nI (sF (ascA (ajF a b 1 (min 20 ((jF a b 1) + (sF a c 6)))) b ((sC a b) - (nI (sF a c 6)))) c 4) : Int32) = nI (sF a c 4) from rfl]
    refine w_iconst (v := 5) dX11_appeals_161 (by decide) ?_
    refine w_idiv dX11_appeals_162 (by decide) ?_
    rw [show ((nI (sF a c 4)) / (5) : Int32) = nI ((sF a c 4) / 5) from ar_div (p := sF a c 4) (q := 5) rfl rfl (by omega) (by decide) (by decide) rfl]
    refine w_iadd dX11_appeals_163 ?_
    rw [show ((nI (cR a)) + (nI ((sF a c 4) / 5)) : Int32) = nI ((cR a) + ((sF a c 4) / 5)) from ar_add (p := cR a) (q := (sF a c 4) / 5) rfl rfl (by omega)]
    refine w_callS (as := [vI (99), vI (nI ((cR a) + ((sF a c 4) / 5)))]) (st := [vI (56), vR 32 0 0]) (Tri.mono (d_lesser (99) ((cR a) + ((sF a c 4) / 5)) (by omega) (by omega)) (Nat.le_of_ble_eq_true rfl)) tg_X11_lesser lk_X11_158 sa_X11_lesser rfl dX11_appeals_164 rfl (Nat.le_of_ble_eq_true rfl) (Nat.le_refl _) (Nat.le_refl _) ?_
    rintro _ _ ⟨rfl, rfl⟩ -
    refine w_iastore (a := 56) rfl (vp_in_nI (n := 56) (by omega) (by omega)) (nI_clamp (n := 56) (by omega)) dX11_appeals_167 ?_
    have hm3 : MI (xup I2 32 0 0 (56) (nI (min 99 ((cR a) + ((sF a c 4) / 5))))) (crimN (ascA (ajF a b 1 (min 20 ((jF a b 1) + (sF a c 6)))) b ((sC a b) - (nI (sF a c 6)))) (min 99 (cR a + sF a c 4 / 5))) := hm2.up (upCr2 hm2.2.2 (x := 56) hJ hC rfl _) rfl rfl
    have hf3 : FrT 32 I2 (xup I2 32 0 0 (56) (nI (min 99 ((cR a) + ((sF a c 4) / 5))))) := FrT.up
    obtain ⟨I3, hI3⟩ : ∃ z, z = xup I2 32 0 0 (56) (nI (min 99 ((cR a) + ((sF a c 4) / 5)))) := ⟨_, rfl⟩
    rw [← hI3] at hm3 hf3 ⊢
    refine w_aload_n dX11_appeals_168 rfl ?_
    refine w_iload_n dX11_appeals_169 rfl ?_
    refine w_iconst (v := 4) dX11_appeals_170 (by decide) ?_
    refine w_iconst (v := 0) dX11_appeals_171 (by decide) ?_
    refine w_callV (as := [vI (nI c), vI (4), vI (0)]) (st := []) (Tri.mono (d_becomesCase hm3 hJ hC hcc (f := 4) (by decide) (by decide) (0)) (Nat.le_of_ble_eq_true rfl)) rfl rfl tg_X11_becomesCase lk_X11_155 in_X11_becomesCase se_X11_becomesCase rfl dX11_appeals_172 rfl (Nat.le_of_ble_eq_true rfl) (Nat.le_refl _) (Nat.le_refl _) ?_
    rintro v M9 ⟨rfl, I4, rfl, hm4, hf4⟩ -
    refine w_aload_n dX11_appeals_175 rfl ?_
    refine w_iload_n dX11_appeals_176 rfl ?_
    refine w_iconst (v := 5) dX11_appeals_177 (by decide) ?_
    refine w_bipush (v := (-4)) dX11_appeals_178 (by decide) ?_
    refine w_callV (as := [vI (nI c), vI (5), vI ((-4))]) (st := []) (Tri.mono (d_becomesBy hm4 hJ hC hcc none) (Nat.le_of_ble_eq_true rfl)) rfl rfl tg_X11_becomesCase lk_X11_155 in_X11_becomesCase se_X11_becomesCase rfl dX11_appeals_180 rfl (Nat.le_of_ble_eq_true rfl) (Nat.le_refl _) (Nat.le_refl _) ?_
    rintro v M9 ⟨rfl, I5, rfl, hm5, hf5⟩ -
    refine w_aload_n dX11_appeals_183 rfl ?_
    refine w_iload_n dX11_appeals_184 rfl ?_
    refine w_bipush (v := 6) dX11_appeals_185 (by decide) ?_
    refine w_iconst (v := 0) dX11_appeals_187 (by decide) ?_
    refine w_callV (as := [vI (nI c), vI (6), vI (0)]) (st := []) (Tri.mono (d_becomesCase hm5 hJ hC hcc (f := 6) (by decide) (by decide) (0)) (Nat.le_of_ble_eq_true rfl)) rfl rfl tg_X11_becomesCase lk_X11_155 in_X11_becomesCase se_X11_becomesCase rfl dX11_appeals_188 rfl (Nat.le_of_ble_eq_true rfl) (Nat.le_refl _) (Nat.le_refl _) ?_
    rintro v M9 ⟨rfl, I6, rfl, hm6, hf6⟩ -
    exact w_return dX11_appeals_191 rfl rfl (⟨rfl, _, rfl, by have q := hm6; rw [undo_2 hb hk]; exact q, (((((hf1.tr hf2).tr hf3).tr hf4).tr hf5).tr hf6)⟩)
  · skip
    refine w_aload_n dX11_appeals_0 rfl ?_
    refine w_iload_n dX11_appeals_1 rfl ?_
    refine w_iconst (v := 5) dX11_appeals_2 (by decide) ?_
    refine w_callV (as := [vI (nI c), vI (5)]) (st := []) (Tri.mono (d_ofBy hm hC hcc) (Nat.le_of_ble_eq_true rfl)) rfl rfl tg_X11_ofCase lk_X11_145 in_X11_ofCase se_X11_ofCase rfl dX11_appeals_3 rfl (Nat.le_of_ble_eq_true rfl) (Nat.le_refl _) (Nat.le_refl _) ?_
    rintro _ _ ⟨rfl, rfl⟩ -
    rw [show (byI (bY a c) : Int32) = nI b from by rw [hb]; rfl]
    refine w_istore_n (ls' := [some (vR 30 0 0), some (vI (nI c)), some (vI (nI b)), none, none]) dX11_appeals_6 rfl ?_
    refine w_aload_n dX11_appeals_7 rfl ?_
    refine w_iload_n dX11_appeals_8 rfl ?_
    refine w_bipush (v := 6) dX11_appeals_9 (by decide) ?_
    refine w_callV (as := [vI (nI c), vI (6)]) (st := []) (Tri.mono (d_ofCase hm hC hcc (f := 6) (by decide) (by decide)) (Nat.le_of_ble_eq_true rfl)) rfl rfl tg_X11_ofCase lk_X11_145 in_X11_ofCase se_X11_ofCase rfl dX11_appeals_11 rfl (Nat.le_of_ble_eq_true rfl) (Nat.le_refl _) (Nat.le_refl _) ?_
    rintro _ _ ⟨rfl, rfl⟩ -
    refine w_istore_n (ls' := [some (vR 30 0 0), some (vI (nI c)), some (vI (nI b)), some (vI (nI (sF a c 6))), none]) dX11_appeals_14 rfl ?_
    refine w_aload_n dX11_appeals_15 rfl ?_
    refine w_iload_n dX11_appeals_16 rfl ?_
    refine w_iconst (v := 0) dX11_appeals_17 (by decide) ?_
    refine w_callV (as := [vI (nI c), vI (0)]) (st := []) (Tri.mono (d_ofCase hm hC hcc (f := 0) (by decide) (by decide)) (Nat.le_of_ble_eq_true rfl)) rfl rfl tg_X11_ofCase lk_X11_145 in_X11_ofCase se_X11_ofCase rfl dX11_appeals_18 rfl (Nat.le_of_ble_eq_true rfl) (Nat.le_refl _) (Nat.le_refl _) ?_
    rintro _ _ ⟨rfl, rfl⟩ -
    rw [show (nI (sF a c 0) : Int32) = 3 from by rw [hk]; rfl]
    refine w_istore (ls' := [some (vR 30 0 0), some (vI (nI c)), some (vI (nI b)), some (vI (nI (sF a c 6))), some (vI (3))]) dX11_appeals_21 rfl ?_
    refine w_iload dX11_appeals_23 rfl ?_
    refine w_if_eq (tgt := 34) dX11_appeals_25 (by decide) (fun h => absurd h (by decide)) (fun _ => ?_)
    refine w_iload dX11_appeals_28 rfl ?_
    refine w_iconst (v := 3) dX11_appeals_30 (by decide) ?_
    refine w_icmp_ne (tgt := 56) dX11_appeals_31 (by decide) (fun h => absurd (by decide) h) (fun _ => ?_)
    refine w_aload_n dX11_appeals_34 rfl ?_
    refine w_iload_n dX11_appeals_35 rfl ?_
    refine w_iconst (v := 3) dX11_appeals_36 (by decide) ?_
    refine w_aload_n dX11_appeals_37 rfl ?_
    refine w_iload_n dX11_appeals_38 rfl ?_
    refine w_iconst (v := 3) dX11_appeals_39 (by decide) ?_
    refine w_callV (as := [vI (nI b), vI (3)]) (st := [vI (3), vI (nI b), vR 30 0 0]) (Tri.mono (d_of hm hJ hj (f := 3) (by decide)) (Nat.le_of_ble_eq_true rfl)) rfl rfl tg_X11_of lk_X11_139 in_X11_of se_X11_of rfl dX11_appeals_40 rfl (Nat.le_of_ble_eq_true rfl) (Nat.le_refl _) (Nat.le_refl _) ?_
    rintro _ _ ⟨rfl, rfl⟩ -
    refine w_aload_n dX11_appeals_43 rfl ?_
    refine w_getR (w := some (32, 0, 0)) ff_X11_13 rfl rfl dX11_appeals_44 rfl ?_
    refine w_bipush (v := 55) dX11_appeals_47 (by decide) ?_
    refine w_iaload (a := 55) rfl (vp_in_nI (n := 55) (by omega) (by omega)) (nI_clamp (n := 55) (by omega)) dX11_appeals_49 ?_
    rw [show (I 32 0 0 (55) : Int32) = nI (dY a) from hm.2.2.dy rfl]
    refine w_callS (as := [vI (nI (jF a b 3)), vI (nI (dY a))]) (st := [vI (3), vI (nI b), vR 30 0 0]) (Tri.mono (d_lesser (jF a b 3) (dY a) (by omega) (by omega)) (Nat.le_of_ble_eq_true rfl)) tg_X11_lesser lk_X11_158 sa_X11_lesser rfl dX11_appeals_50 rfl (Nat.le_of_ble_eq_true rfl) (Nat.le_refl _) (Nat.le_refl _) ?_
    rintro _ _ ⟨rfl, rfl⟩ -
    refine w_callV (as := [vI (nI b), vI (3), vI (nI (min (jF a b 3) (dY a)))]) (st := []) (Tri.mono (d_becomesOf hm hJ hj (f := 3) (by decide) (min (jF a b 3) (dY a))) (Nat.le_of_ble_eq_true rfl)) rfl rfl tg_X11_becomesOf lk_X11_151 in_X11_becomesOf se_X11_becomesOf rfl dX11_appeals_53 rfl (Nat.le_of_ble_eq_true rfl) (Nat.le_refl _) (Nat.le_refl _) ?_
    rintro v M9 ⟨rfl, I1, rfl, hm1, hf1⟩ -
    refine w_iload dX11_appeals_56 rfl ?_
    refine w_iconst (v := 1) dX11_appeals_58 (by decide) ?_
    refine w_icmp_ne (tgt := 81) dX11_appeals_59 (by decide) (fun _ => ?_) (fun h => absurd h (by decide))
    refine w_iload dX11_appeals_81 rfl ?_
    refine w_iconst (v := 2) dX11_appeals_83 (by decide) ?_
    refine w_icmp_ne (tgt := 106) dX11_appeals_84 (by decide) (fun _ => ?_) (fun h => absurd h (by decide))
    refine w_aload_n dX11_appeals_106 rfl ?_
    refine w_iload_n dX11_appeals_107 rfl ?_
    refine w_iconst (v := 4) dX11_appeals_108 (by decide) ?_
    refine w_aload_n dX11_appeals_109 rfl ?_
    refine w_iload_n dX11_appeals_110 rfl ?_
    refine w_iconst (v := 4) dX11_appeals_111 (by decide) ?_
    refine w_callV (as := [vI (nI b), vI (4)]) (st := [vI (4), vI (nI b), vR 30 0 0]) (Tri.mono (d_ofS hm1 hJ hj) (Nat.le_of_ble_eq_true rfl)) rfl rfl tg_X11_of lk_X11_139 in_X11_of se_X11_of rfl dX11_appeals_112 rfl (Nat.le_of_ble_eq_true rfl) (Nat.le_refl _) (Nat.le_refl _) ?_
    rintro _ _ ⟨rfl, rfl⟩ -
    rw [show (sC (ajF a b 3 (min (jF a b 3) (dY a))) b : Int32) = sC a b from rfl]
    refine w_iload dX11_appeals_115 rfl ?_
    refine w_iconst (v := 2) dX11_appeals_117 (by decide) ?_
    refine w_icmp_ne (tgt := 125) dX11_appeals_118 (by decide) (fun _ => ?_) (fun h => absurd h (by decide))
    refine w_iload dX11_appeals_125 rfl ?_
    refine w_iconst (v := 3) dX11_appeals_127 (by decide) ?_
    refine w_icmp_ne (tgt := 135) dX11_appeals_128 (by decide) (fun h => absurd (by decide) h) (fun _ => ?_)
    refine w_iconst (v := 1) dX11_appeals_131 (by decide) ?_
    refine w_goto (tgt := 136) dX11_appeals_132 (by decide) ?_
    refine w_isub dX11_appeals_136 ?_
    refine w_callV (as := [vI (nI b), vI (4), vI ((sC a b) - (1))]) (st := []) (Tri.mono (d_becomesSc hm1 hJ hj ((sC a b) - (1))) (Nat.le_of_ble_eq_true rfl)) rfl rfl tg_X11_becomesOf lk_X11_151 in_X11_becomesOf se_X11_becomesOf rfl dX11_appeals_137 rfl (Nat.le_of_ble_eq_true rfl) (Nat.le_refl _) (Nat.le_refl _) ?_
    rintro v M9 ⟨rfl, I2, rfl, hm2, hf2⟩ -
    refine w_aload_n dX11_appeals_140 rfl ?_
    refine w_getR (w := some (32, 0, 0)) ff_X11_13 rfl rfl dX11_appeals_141 rfl ?_
    refine w_bipush (v := 56) dX11_appeals_144 (by decide) ?_
    refine w_bipush (v := 99) dX11_appeals_146 (by decide) ?_
    refine w_aload_n dX11_appeals_148 rfl ?_
    refine w_getR (w := some (32, 0, 0)) ff_X11_13 rfl rfl dX11_appeals_149 rfl ?_
    refine w_bipush (v := 56) dX11_appeals_152 (by decide) ?_
    refine w_iaload (a := 56) rfl (vp_in_nI (n := 56) (by omega) (by omega)) (nI_clamp (n := 56) (by omega)) dX11_appeals_154 ?_
    rw [show (I2 32 0 0 (56) : Int32) = nI (cR a) from hm2.2.2.cr rfl]
    refine w_aload_n dX11_appeals_155 rfl ?_
    refine w_iload_n dX11_appeals_156 rfl ?_
    refine w_iconst (v := 4) dX11_appeals_157 (by decide) ?_
    refine w_callV (as := [vI (nI c), vI (4)]) (st := [vI (nI (cR a)), vI (99), vI (56), vR 32 0 0]) (Tri.mono (d_ofCase hm2 hC hcc (f := 4) (by decide) (by decide)) (Nat.le_of_ble_eq_true rfl)) rfl rfl tg_X11_ofCase lk_X11_145 in_X11_ofCase se_X11_ofCase rfl dX11_appeals_158 rfl (Nat.le_of_ble_eq_true rfl) (Nat.le_refl _) (Nat.le_refl _) ?_
    rintro _ _ ⟨rfl, rfl⟩ -
    rw [show (nI (sF (ascA (ajF a b 3 (min (jF a b 3) (dY a))) b ((sC a b) - (1))) c 4) : Int32) = nI (sF a c 4) from rfl]
    refine w_iconst (v := 5) dX11_appeals_161 (by decide) ?_
    refine w_idiv dX11_appeals_162 (by decide) ?_
    rw [show ((nI (sF a c 4)) / (5) : Int32) = nI ((sF a c 4) / 5) from ar_div (p := sF a c 4) (q := 5) rfl rfl (by omega) (by decide) (by decide) rfl]
    refine w_iadd dX11_appeals_163 ?_
    rw [show ((nI (cR a)) + (nI ((sF a c 4) / 5)) : Int32) = nI ((cR a) + ((sF a c 4) / 5)) from ar_add (p := cR a) (q := (sF a c 4) / 5) rfl rfl (by omega)]
    refine w_callS (as := [vI (99), vI (nI ((cR a) + ((sF a c 4) / 5)))]) (st := [vI (56), vR 32 0 0]) (Tri.mono (d_lesser (99) ((cR a) + ((sF a c 4) / 5)) (by omega) (by omega)) (Nat.le_of_ble_eq_true rfl)) tg_X11_lesser lk_X11_158 sa_X11_lesser rfl dX11_appeals_164 rfl (Nat.le_of_ble_eq_true rfl) (Nat.le_refl _) (Nat.le_refl _) ?_
    rintro _ _ ⟨rfl, rfl⟩ -
    refine w_iastore (a := 56) rfl (vp_in_nI (n := 56) (by omega) (by omega)) (nI_clamp (n := 56) (by omega)) dX11_appeals_167 ?_
    have hm3 : MI (xup I2 32 0 0 (56) (nI (min 99 ((cR a) + ((sF a c 4) / 5))))) (crimN (ascA (ajF a b 3 (min (jF a b 3) (dY a))) b ((sC a b) - (1))) (min 99 (cR a + sF a c 4 / 5))) := hm2.up (upCr2 hm2.2.2 (x := 56) hJ hC rfl _) rfl rfl
    have hf3 : FrT 32 I2 (xup I2 32 0 0 (56) (nI (min 99 ((cR a) + ((sF a c 4) / 5))))) := FrT.up
    obtain ⟨I3, hI3⟩ : ∃ z, z = xup I2 32 0 0 (56) (nI (min 99 ((cR a) + ((sF a c 4) / 5)))) := ⟨_, rfl⟩
    rw [← hI3] at hm3 hf3 ⊢
    refine w_aload_n dX11_appeals_168 rfl ?_
    refine w_iload_n dX11_appeals_169 rfl ?_
    refine w_iconst (v := 4) dX11_appeals_170 (by decide) ?_
    refine w_iconst (v := 0) dX11_appeals_171 (by decide) ?_
    refine w_callV (as := [vI (nI c), vI (4), vI (0)]) (st := []) (Tri.mono (d_becomesCase hm3 hJ hC hcc (f := 4) (by decide) (by decide) (0)) (Nat.le_of_ble_eq_true rfl)) rfl rfl tg_X11_becomesCase lk_X11_155 in_X11_becomesCase se_X11_becomesCase rfl dX11_appeals_172 rfl (Nat.le_of_ble_eq_true rfl) (Nat.le_refl _) (Nat.le_refl _) ?_
    rintro v M9 ⟨rfl, I4, rfl, hm4, hf4⟩ -
    refine w_aload_n dX11_appeals_175 rfl ?_
    refine w_iload_n dX11_appeals_176 rfl ?_
    refine w_iconst (v := 5) dX11_appeals_177 (by decide) ?_
    refine w_bipush (v := (-4)) dX11_appeals_178 (by decide) ?_
    refine w_callV (as := [vI (nI c), vI (5), vI ((-4))]) (st := []) (Tri.mono (d_becomesBy hm4 hJ hC hcc none) (Nat.le_of_ble_eq_true rfl)) rfl rfl tg_X11_becomesCase lk_X11_155 in_X11_becomesCase se_X11_becomesCase rfl dX11_appeals_180 rfl (Nat.le_of_ble_eq_true rfl) (Nat.le_refl _) (Nat.le_refl _) ?_
    rintro v M9 ⟨rfl, I5, rfl, hm5, hf5⟩ -
    refine w_aload_n dX11_appeals_183 rfl ?_
    refine w_iload_n dX11_appeals_184 rfl ?_
    refine w_bipush (v := 6) dX11_appeals_185 (by decide) ?_
    refine w_iconst (v := 0) dX11_appeals_187 (by decide) ?_
    refine w_callV (as := [vI (nI c), vI (6), vI (0)]) (st := []) (Tri.mono (d_becomesCase hm5 hJ hC hcc (f := 6) (by decide) (by decide) (0)) (Nat.le_of_ble_eq_true rfl)) rfl rfl tg_X11_becomesCase lk_X11_155 in_X11_becomesCase se_X11_becomesCase rfl dX11_appeals_188 rfl (Nat.le_of_ble_eq_true rfl) (Nat.le_refl _) (Nat.le_refl _) ?_
    rintro v M9 ⟨rfl, I6, rfl, hm6, hf6⟩ -
    exact w_return dX11_appeals_191 rfl rfl (⟨rfl, _, rfl, by have q := hm6; rw [undo_3 hb hk]; exact q, (((((hf1.tr hf2).tr hf3).tr hf4).tr hf5).tr hf6)⟩)

def wtN (a : aA) (c : Nat) : Nat := min 99 (cR a + waitN a (dY a + 1) c)
theorem wtN_1 {a : aA} {c : Nat} (h : sF a c 3 ≤ dY a + 1 ∧ sF a c 4 = 0) : wtN a (c + 1) = min 99 (wtN a c + 1) := by unfold wtN; rw [waitN, if_pos ⟨h.2, h.1⟩]; omega
theorem wtN_0 {a : aA} {c : Nat} (h : ¬ (sF a c 3 ≤ dY a + 1 ∧ sF a c 4 = 0)) : wtN a (c + 1) = min 99 (wtN a c + 0) := by unfold wtN; rw [waitN, if_neg (fun q => h ⟨q.2, q.1⟩)]; omega
theorem wtN_s {a : aA} (h : cR a ≤ 99) : wtN a 0 = cR a := by unfold wtN; rw [waitN]; omega

theorem d_dayL {L : xF4 Int64} {a : aA} (hw : WF a) {I0 : xF4 Int32} : ∀ (m c : Nat) (I : xF4 Int32) (o2 : Option xV), c + m = nC a → FrT 32 I0 I → MI I (crimN (adyA a (dY a + 1)) (wtN a c)) → Wp 2 109 m_X11_dayGoes 13 [some (vR 30 0 0), some (vI (nI c)), o2] [] (rM I L) (pM (dayN a) I0 L) := by
  intro m
  induction m with
  | zero =>
    intro c I o2 h0 hf hm
    have e : c = nC a := by omega
    subst e
    obtain ⟨hJ, hC, hG, hD, hR, -⟩ := id hw
    refine w_iload_n dX11_dayGoes_13 rfl ?_
    refine w_aload_n dX11_dayGoes_14 rfl ?_
    refine w_getI ff_X11_61 rfl rfl dX11_dayGoes_15 ?_
    rw [show (I 30 0 0 4 : Int32) = nI (nC a) from hm.2.1]
    refine w_icmp_ge (tgt := 82) dX11_dayGoes_18 (by decide) (fun _ => ?_) (fun h => absurd (nI_le (Nat.le_refl _) (by omega)) h)
    exact w_return dX11_dayGoes_82 rfl rfl (⟨rfl, I, rfl, hm, hf⟩)
  | succ m ih =>
    intro c I o2 h0 hf hm
    have hcc : c < nC a := by omega
    have hwt : wtN a c ≤ 99 := Nat.min_le_left _ _
    obtain ⟨hJ, hC, hG, hD, hR, -⟩ := id hw
    obtain ⟨fc0, fc1, fc2, fc3, fc4, fc5, fc6, fc7, fc8⟩ := hw.2.2.2.2.2.2.1 c hcc
    refine w_iload_n dX11_dayGoes_13 rfl ?_
    refine w_aload_n dX11_dayGoes_14 rfl ?_
    refine w_getI ff_X11_61 rfl rfl dX11_dayGoes_15 ?_
    rw [show (I 30 0 0 4 : Int32) = nI (nC a) from hm.2.1]
    refine w_icmp_ge (tgt := 82) dX11_dayGoes_18 (by decide) (fun h => absurd h (nI_ge hcc (by omega))) (fun _ => ?_)
    refine w_aload_n dX11_dayGoes_21 rfl ?_
    refine w_iload_n dX11_dayGoes_22 rfl ?_
    refine w_iconst (v := 3) dX11_dayGoes_23 (by decide) ?_
    refine w_callV (as := [vI (nI c), vI (3)]) (st := []) (Tri.mono (d_ofCase hm hC hcc (f := 3) (by decide) (by decide)) (Nat.le_of_ble_eq_true rfl)) rfl rfl tg_X11_ofCase lk_X11_145 in_X11_ofCase se_X11_ofCase rfl dX11_dayGoes_24 rfl (Nat.le_of_ble_eq_true rfl) (Nat.le_refl _) (Nat.le_refl _) ?_
    rintro _ _ ⟨rfl, rfl⟩ -
    rw [show (nI (sF (crimN (adyA a (dY a + 1)) (wtN a c)) c 3) : Int32) = nI (sF a c 3) from rfl]
    refine w_aload_n dX11_dayGoes_27 rfl ?_
    refine w_getR (w := some (32, 0, 0)) ff_X11_13 rfl rfl dX11_dayGoes_28 rfl ?_
    refine w_bipush (v := 55) dX11_dayGoes_31 (by decide) ?_
    refine w_iaload (a := 55) rfl (vp_in_nI (n := 55) (by omega) (by omega)) (nI_clamp (n := 55) (by omega)) dX11_dayGoes_33 ?_
    rw [show (I 32 0 0 (55) : Int32) = nI (dY a + 1) from hm.2.2.dy rfl]
    refine w_icmp_gt (tgt := 50) dX11_dayGoes_34 (by decide) (fun h1 => ?_) (fun h1 => ?_)
    · skip
      replace h1 : (dY a + 1) < (sF a c 3) := (nI_ltI (a := dY a + 1) (b := sF a c 3) (by omega) (by omega)).mp h1
      refine w_iconst (v := 0) dX11_dayGoes_50 (by decide) ?_
      refine w_istore_n (ls' := [some (vR 30 0 0), some (vI (nI c)), some (vI (0))]) dX11_dayGoes_51 rfl ?_
      refine w_aload_n dX11_dayGoes_52 rfl ?_
      refine w_getR (w := some (32, 0, 0)) ff_X11_13 rfl rfl dX11_dayGoes_53 rfl ?_
      refine w_bipush (v := 56) dX11_dayGoes_56 (by decide) ?_
      refine w_bipush (v := 99) dX11_dayGoes_58 (by decide) ?_
      refine w_aload_n dX11_dayGoes_60 rfl ?_
      refine w_getR (w := some (32, 0, 0)) ff_X11_13 rfl rfl dX11_dayGoes_61 rfl ?_
      refine w_bipush (v := 56) dX11_dayGoes_64 (by decide) ?_
      refine w_iaload (a := 56) rfl (vp_in_nI (n := 56) (by omega) (by omega)) (nI_clamp (n := 56) (by omega)) dX11_dayGoes_66 ?_
      rw [show (I 32 0 0 (56) : Int32) = nI (wtN a c) from hm.2.2.cr rfl]
      refine w_iload_n dX11_dayGoes_67 rfl ?_
      refine w_callS (as := [vI (0)]) (st := [vI (nI (wtN a c)), vI (99), vI (56), vR 32 0 0]) (Tri.mono (d_flag0) (Nat.le_of_ble_eq_true rfl)) tg_X11_flag lk_X11_161 sa_X11_flag rfl dX11_dayGoes_68 rfl (Nat.le_of_ble_eq_true rfl) (Nat.le_refl _) (Nat.le_refl _) ?_
      rintro _ _ ⟨rfl, rfl⟩ -
      refine w_iadd dX11_dayGoes_71 ?_
      rw [show ((nI (wtN a c)) + (0) : Int32) = nI (wtN a c) from ar_add (p := wtN a c) (q := 0) rfl rfl (by omega)]
      refine w_callS (as := [vI (99), vI (nI (wtN a c))]) (st := [vI (56), vR 32 0 0]) (Tri.mono (d_lesser (99) (wtN a c) (by omega) (by omega)) (Nat.le_of_ble_eq_true rfl)) tg_X11_lesser lk_X11_158 sa_X11_lesser rfl dX11_dayGoes_72 rfl (Nat.le_of_ble_eq_true rfl) (Nat.le_refl _) (Nat.le_refl _) ?_
      rintro _ _ ⟨rfl, rfl⟩ -
      rw [show (nI (min 99 (wtN a c)) : Int32) = nI (wtN a (c + 1)) from congrArg nI (wtN_0 (by omega)).symm]
      refine w_iastore (a := 56) rfl (vp_in_nI (n := 56) (by omega) (by omega)) (nI_clamp (n := 56) (by omega)) dX11_dayGoes_75 ?_
      have hm1 : MI (xup I 32 0 0 (56) (nI (wtN a (c + 1)))) (crimN (adyA a (dY a + 1)) (wtN a (c + 1))) := hm.up (upCr2 hm.2.2 (x := 56) hJ hC rfl _) rfl rfl
      have hf1 : FrT 32 I (xup I 32 0 0 (56) (nI (wtN a (c + 1)))) := FrT.up
      obtain ⟨I1, hI1⟩ : ∃ z, z = xup I 32 0 0 (56) (nI (wtN a (c + 1))) := ⟨_, rfl⟩
      rw [← hI1] at hm1 hf1 ⊢
      refine w_iinc (v := nI (c + 1)) (ls' := [some (vR 30 0 0), some (vI (nI (c + 1))), some (vI (0))]) dX11_dayGoes_76 rfl (nI_1 _) rfl ?_
      refine w_goto (tgt := 13) dX11_dayGoes_79 (by decide) ?_
      exact ih (c + 1) _ _ (by omega) (hf.tr hf1) hm1
    · skip
      replace h1 : ¬ ((dY a + 1) < (sF a c 3)) := fun q => h1 ((nI_ltI (a := dY a + 1) (b := sF a c 3) (by omega) (by omega)).mpr q)
      refine w_aload_n dX11_dayGoes_37 rfl ?_
      refine w_iload_n dX11_dayGoes_38 rfl ?_
      refine w_iconst (v := 4) dX11_dayGoes_39 (by decide) ?_
      refine w_callV (as := [vI (nI c), vI (4)]) (st := []) (Tri.mono (d_ofCase hm hC hcc (f := 4) (by decide) (by decide)) (Nat.le_of_ble_eq_true rfl)) rfl rfl tg_X11_ofCase lk_X11_145 in_X11_ofCase se_X11_ofCase rfl dX11_dayGoes_40 rfl (Nat.le_of_ble_eq_true rfl) (Nat.le_refl _) (Nat.le_refl _) ?_
      rintro _ _ ⟨rfl, rfl⟩ -
      rw [show (nI (sF (crimN (adyA a (dY a + 1)) (wtN a c)) c 4) : Int32) = nI (sF a c 4) from rfl]
      refine w_if_ne (tgt := 50) dX11_dayGoes_43 (by decide) (fun h2 => ?_) (fun h2 => ?_)
      · skip
        replace h2 : ¬ ((sF a c 4) = (0)) := fun q => h2 ((nI_eq (a := sF a c 4) (b := 0) (by omega) (by omega)).mpr q)
        refine w_iconst (v := 0) dX11_dayGoes_50 (by decide) ?_
        refine w_istore_n (ls' := [some (vR 30 0 0), some (vI (nI c)), some (vI (0))]) dX11_dayGoes_51 rfl ?_
        refine w_aload_n dX11_dayGoes_52 rfl ?_
        refine w_getR (w := some (32, 0, 0)) ff_X11_13 rfl rfl dX11_dayGoes_53 rfl ?_
        refine w_bipush (v := 56) dX11_dayGoes_56 (by decide) ?_
        refine w_bipush (v := 99) dX11_dayGoes_58 (by decide) ?_
        refine w_aload_n dX11_dayGoes_60 rfl ?_
        refine w_getR (w := some (32, 0, 0)) ff_X11_13 rfl rfl dX11_dayGoes_61 rfl ?_
        refine w_bipush (v := 56) dX11_dayGoes_64 (by decide) ?_
        refine w_iaload (a := 56) rfl (vp_in_nI (n := 56) (by omega) (by omega)) (nI_clamp (n := 56) (by omega)) dX11_dayGoes_66 ?_
        rw [show (I 32 0 0 (56) : Int32) = nI (wtN a c) from hm.2.2.cr rfl]
        refine w_iload_n dX11_dayGoes_67 rfl ?_
        refine w_callS (as := [vI (0)]) (st := [vI (nI (wtN a c)), vI (99), vI (56), vR 32 0 0]) (Tri.mono (d_flag0) (Nat.le_of_ble_eq_true rfl)) tg_X11_flag lk_X11_161 sa_X11_flag rfl dX11_dayGoes_68 rfl (Nat.le_of_ble_eq_true rfl) (Nat.le_refl _) (Nat.le_refl _) ?_
        rintro _ _ ⟨rfl, rfl⟩ -
        refine w_iadd dX11_dayGoes_71 ?_
        rw [show ((nI (wtN a c)) + (0) : Int32) = nI (wtN a c) from ar_add (p := wtN a c) (q := 0) rfl rfl (by omega)]
        refine w_callS (as := [vI (99), vI (nI (wtN a c))]) (st := [vI (56), vR 32 0 0]) (Tri.mono (d_lesser (99) (wtN a c) (by omega) (by omega)) (Nat.le_of_ble_eq_true rfl)) tg_X11_lesser lk_X11_158 sa_X11_lesser rfl dX11_dayGoes_72 rfl (Nat.le_of_ble_eq_true rfl) (Nat.le_refl _) (Nat.le_refl _) ?_
        rintro _ _ ⟨rfl, rfl⟩ -
        rw [show (nI (min 99 (wtN a c)) : Int32) = nI (wtN a (c + 1)) from congrArg nI (wtN_0 (by omega)).symm]
        refine w_iastore (a := 56) rfl (vp_in_nI (n := 56) (by omega) (by omega)) (nI_clamp (n := 56) (by omega)) dX11_dayGoes_75 ?_
        have hm2 : MI (xup I 32 0 0 (56) (nI (wtN a (c + 1)))) (crimN (adyA a (dY a + 1)) (wtN a (c + 1))) := hm.up (upCr2 hm.2.2 (x := 56) hJ hC rfl _) rfl rfl
        have hf2 : FrT 32 I (xup I 32 0 0 (56) (nI (wtN a (c + 1)))) := FrT.up
        obtain ⟨I2, hI2⟩ : ∃ z, z = xup I 32 0 0 (56) (nI (wtN a (c + 1))) := ⟨_, rfl⟩
        rw [← hI2] at hm2 hf2 ⊢
        refine w_iinc (v := nI (c + 1)) (ls' := [some (vR 30 0 0), some (vI (nI (c + 1))), some (vI (0))]) dX11_dayGoes_76 rfl (nI_1 _) rfl ?_
        refine w_goto (tgt := 13) dX11_dayGoes_79 (by decide) ?_
        exact ih (c + 1) _ _ (by omega) (hf.tr hf2) hm2
      · skip
        replace h2 : (sF a c 4) = (0) := (nI_eq (a := sF a c 4) (b := 0) (by omega) (by omega)).mp h2
        refine w_iconst (v := 1) dX11_dayGoes_46 (by decide) ?_
        refine w_goto (tgt := 51) dX11_dayGoes_47 (by decide) ?_
        refine w_istore_n (ls' := [some (vR 30 0 0), some (vI (nI c)), some (vI (1))]) dX11_dayGoes_51 rfl ?_
        refine w_aload_n dX11_dayGoes_52 rfl ?_
        refine w_getR (w := some (32, 0, 0)) ff_X11_13 rfl rfl dX11_dayGoes_53 rfl ?_
        refine w_bipush (v := 56) dX11_dayGoes_56 (by decide) ?_
        refine w_bipush (v := 99) dX11_dayGoes_58 (by decide) ?_
        refine w_aload_n dX11_dayGoes_60 rfl ?_
        refine w_getR (w := some (32, 0, 0)) ff_X11_13 rfl rfl dX11_dayGoes_61 rfl ?_
        refine w_bipush (v := 56) dX11_dayGoes_64 (by decide) ?_
        refine w_iaload (a := 56) rfl (vp_in_nI (n := 56) (by omega) (by omega)) (nI_clamp (n := 56) (by omega)) dX11_dayGoes_66 ?_
        rw [show (I 32 0 0 (56) : Int32) = nI (wtN a c) from hm.2.2.cr rfl]
        refine w_iload_n dX11_dayGoes_67 rfl ?_
        refine w_callS (as := [vI (1)]) (st := [vI (nI (wtN a c)), vI (99), vI (56), vR 32 0 0]) (Tri.mono (d_flag1) (Nat.le_of_ble_eq_true rfl)) tg_X11_flag lk_X11_161 sa_X11_flag rfl dX11_dayGoes_68 rfl (Nat.le_of_ble_eq_true rfl) (Nat.le_refl _) (Nat.le_refl _) ?_
        rintro _ _ ⟨rfl, rfl⟩ -
        refine w_iadd dX11_dayGoes_71 ?_
        rw [show ((nI (wtN a c)) + (1) : Int32) = nI ((wtN a c) + 1) from ar_add (p := wtN a c) (q := 1) rfl rfl (by omega)]
        refine w_callS (as := [vI (99), vI (nI ((wtN a c) + 1))]) (st := [vI (56), vR 32 0 0]) (Tri.mono (d_lesser (99) ((wtN a c) + 1) (by omega) (by omega)) (Nat.le_of_ble_eq_true rfl)) tg_X11_lesser lk_X11_158 sa_X11_lesser rfl dX11_dayGoes_72 rfl (Nat.le_of_ble_eq_true rfl) (Nat.le_refl _) (Nat.le_refl _) ?_
        rintro _ _ ⟨rfl, rfl⟩ -
        rw [show (nI (min 99 ((wtN a c) + 1)) : Int32) = nI (wtN a (c + 1)) from congrArg nI (wtN_1 (by omega)).symm]
        refine w_iastore (a := 56) rfl (vp_in_nI (n := 56) (by omega) (by omega)) (nI_clamp (n := 56) (by omega)) dX11_dayGoes_75 ?_
        have hm3 : MI (xup I 32 0 0 (56) (nI (wtN a (c + 1)))) (crimN (adyA a (dY a + 1)) (wtN a (c + 1))) := hm.up (upCr2 hm.2.2 (x := 56) hJ hC rfl _) rfl rfl
        have hf3 : FrT 32 I (xup I 32 0 0 (56) (nI (wtN a (c + 1)))) := FrT.up
        obtain ⟨I3, hI3⟩ : ∃ z, z = xup I 32 0 0 (56) (nI (wtN a (c + 1))) := ⟨_, rfl⟩
        rw [← hI3] at hm3 hf3 ⊢
        refine w_iinc (v := nI (c + 1)) (ls' := [some (vR 30 0 0), some (vI (nI (c + 1))), some (vI (1))]) dX11_dayGoes_76 rfl (nI_1 _) rfl ?_
        refine w_goto (tgt := 13) dX11_dayGoes_79 (by decide) ?_
        exact ih (c + 1) _ _ (by omega) (hf.tr hf3) hm3

theorem d_dayGoes {I : xF4 Int32} {L : xF4 Int64} {a : aA} (hm : MI I a) (hw : WF a) : Tri 2 109 m_X11_dayGoes [vR 30 0 0] (rM I L) (pM (dayN a) I L) := by
  refine ⟨k_X11_dayGoes, Nat.le_of_ble_eq_true rfl, ?_⟩
  show Wp _ _ _ 0 [some (vR 30 0 0), none, none] [] (rM I L) _
  obtain ⟨hJ, hC, hG, hD, hR, -⟩ := id hw
  refine w_aload_n dX11_dayGoes_0 rfl ?_
  refine w_getR (w := some (32, 0, 0)) ff_X11_13 rfl rfl dX11_dayGoes_1 rfl ?_
  refine w_bipush (v := 55) dX11_dayGoes_4 (by decide) ?_
  refine w_dup2 dX11_dayGoes_6 rfl rfl ?_
  refine w_iaload (a := 55) rfl (vp_in_nI (n := 55) (by omega) (by omega)) (nI_clamp (n := 55) (by omega)) dX11_dayGoes_7 ?_
  rw [show (I 32 0 0 (55) : Int32) = nI (dY a) from hm.2.2.dy rfl]
  refine w_iconst (v := 1) dX11_dayGoes_8 (by decide) ?_
  refine w_iadd dX11_dayGoes_9 ?_
  rw [show ((nI (dY a)) + (1) : Int32) = nI ((dY a) + 1) from ar_add (p := dY a) (q := 1) rfl rfl (by omega)]
  refine w_iastore (a := 55) rfl (vp_in_nI (n := 55) (by omega) (by omega)) (nI_clamp (n := 55) (by omega)) dX11_dayGoes_10 ?_
  have hm1 : MI (xup I 32 0 0 (55) (nI ((dY a) + 1))) (adyA a (dY a + 1)) := hm.up (upDy2 hm.2.2 (x := 55) hJ hC rfl _) rfl rfl
  have hf1 : FrT 32 I (xup I 32 0 0 (55) (nI ((dY a) + 1))) := FrT.up
  obtain ⟨I1, hI1⟩ : ∃ z, z = xup I 32 0 0 (55) (nI ((dY a) + 1)) := ⟨_, rfl⟩
  rw [← hI1] at hm1 hf1 ⊢
  refine w_iconst (v := 0) dX11_dayGoes_11 (by decide) ?_
  refine w_istore_n (ls' := [some (vR 30 0 0), some (vI (0)), none]) dX11_dayGoes_12 rfl ?_
  refine d_dayL hw (nC a) 0 _ _ (Nat.zero_add _) hf1 ?_
  have q := hm1
  rw [wtN_s hR]
  exact q

theorem l_mheard {I : xF4 Int32} {L : xF4 Int64} {a : aA} (hm : MI I a) (hw : WF a)  : ∀ (m c : Nat) , c + m = nC a → Wp 1 109 m_X11_heard 4 [some (vR 30 0 0), some (vI (nI (bitN (fun c => decide (0 < sF a c 4)) c))), some (vI (nI c))] [] (rM I L) (pI (nI (heardN a)) I L) := by
  intro m
  induction m with
  | zero =>
    intro c  hq9
    have e : c = nC a := by omega
    subst e
    obtain ⟨ft0, ft1, ft2, ft3, ft4, -⟩ := id hw
    refine w_iload_n dX11_heard_4 rfl ?_
    refine w_aload_n dX11_heard_5 rfl ?_
    refine w_getI ff_X11_61 rfl rfl dX11_heard_6 ?_
    rw [show (I 30 0 0 4 : Int32) = nI (nC a) from hm.2.1]
    refine w_icmp_ge (tgt := 40) dX11_heard_9 (by decide) (fun _ => ?_) (fun h => absurd (nI_le (Nat.le_refl _) (by omega)) h)
    refine w_iload_n dX11_heard_40 rfl ?_
    exact w_ireturn dX11_heard_41 rfl (rfl) rfl (⟨rfl, rfl⟩)
  | succ m ih =>
    intro c  hq9
    have hcc : c < nC a := by omega
    obtain ⟨ft0, ft1, ft2, ft3, ft4, -⟩ := id hw
    obtain ⟨hJ, hC, hG, hD, hR, -⟩ := id hw
    obtain ⟨fc0, fc1, fc2, fc3, fc4, fc5, fc6, fc7, fc8⟩ := hw.2.2.2.2.2.2.1 c hcc
    refine w_iload_n dX11_heard_4 rfl ?_
    refine w_aload_n dX11_heard_5 rfl ?_
    refine w_getI ff_X11_61 rfl rfl dX11_heard_6 ?_
    rw [show (I 30 0 0 4 : Int32) = nI (nC a) from hm.2.1]
    refine w_icmp_ge (tgt := 40) dX11_heard_9 (by decide) (fun h => absurd h (nI_ge hcc (by omega))) (fun _ => ?_)
    refine w_iload_n dX11_heard_12 rfl ?_
    refine w_aload_n dX11_heard_13 rfl ?_
    refine w_iload_n dX11_heard_14 rfl ?_
    refine w_iconst (v := 4) dX11_heard_15 (by decide) ?_
    refine w_callV (as := [vI (nI c), vI (4)]) (st := [vI (nI (bitN (fun c => decide (0 < sF a c 4)) c))]) (Tri.mono (d_ofCase hm hC hcc (f := 4) (by decide) (by decide)) (Nat.le_of_ble_eq_true rfl)) rfl rfl tg_X11_ofCase lk_X11_145 in_X11_ofCase se_X11_ofCase rfl dX11_heard_16 rfl (Nat.le_of_ble_eq_true rfl) (Nat.le_refl _) (Nat.le_refl _) ?_
    rintro _ _ ⟨rfl, rfl⟩ -
    refine w_if_le (tgt := 26) dX11_heard_19 (by decide) (fun h1 => ?_) (fun h1 => ?_)
    · skip
      replace h1 : (sF a c 4) ≤ (0) := (nI_leI (a := sF a c 4) (b := 0) (by omega) (by omega)).mp h1
      refine w_iconst (v := 0) dX11_heard_26 (by decide) ?_
      refine w_callS (as := [vI (0)]) (st := [vI (nI (bitN (fun c => decide (0 < sF a c 4)) c))]) (Tri.mono (d_flag0) (Nat.le_of_ble_eq_true rfl)) tg_X11_flag lk_X11_161 sa_X11_flag rfl dX11_heard_27 rfl (Nat.le_of_ble_eq_true rfl) (Nat.le_refl _) (Nat.le_refl _) ?_
      rintro _ _ ⟨rfl, rfl⟩ -
      refine w_iload_n dX11_heard_30 rfl ?_
      refine w_ishl dX11_heard_31 ?_
      refine w_ior dX11_heard_32 ?_
      refine w_istore_n (ls' := [some (vR 30 0 0), some (vI ((nI (bitN (fun c => decide (0 < sF a c 4)) c)) ||| ((0) <<< ((nI c) &&& 31)))), some (vI (nI c))]) dX11_heard_33 rfl ?_
      rw [show ((nI (bitN (fun c => decide (0 < sF a c 4)) c)) ||| ((0) <<< ((nI c) &&& 31)) : Int32) = nI (bitN (fun c => decide (0 < sF a c 4)) (c + 1)) from bit_nz (p := (fun c => decide (0 < sF a c 4))) (by omega) (fun q => absurd (of_decide_eq_true q) (by omega))]
      refine w_iinc (v := nI (c + 1)) (ls' := [some (vR 30 0 0), some (vI (nI (bitN (fun c => decide (0 < sF a c 4)) (c + 1)))), some (vI (nI (c + 1)))]) dX11_heard_34 rfl (nI_1 _) rfl ?_
      refine w_goto (tgt := 4) dX11_heard_37 (by decide) ?_
      exact ih (c + 1) (by omega)
    · skip
      replace h1 : ¬ ((sF a c 4) ≤ (0)) := fun q => h1 ((nI_leI (a := sF a c 4) (b := 0) (by omega) (by omega)).mpr q)
      refine w_iconst (v := 1) dX11_heard_22 (by decide) ?_
      refine w_goto (tgt := 27) dX11_heard_23 (by decide) ?_
      refine w_callS (as := [vI (1)]) (st := [vI (nI (bitN (fun c => decide (0 < sF a c 4)) c))]) (Tri.mono (d_flag1) (Nat.le_of_ble_eq_true rfl)) tg_X11_flag lk_X11_161 sa_X11_flag rfl dX11_heard_27 rfl (Nat.le_of_ble_eq_true rfl) (Nat.le_refl _) (Nat.le_refl _) ?_
      rintro _ _ ⟨rfl, rfl⟩ -
      refine w_iload_n dX11_heard_30 rfl ?_
      refine w_ishl dX11_heard_31 ?_
      refine w_ior dX11_heard_32 ?_
      refine w_istore_n (ls' := [some (vR 30 0 0), some (vI ((nI (bitN (fun c => decide (0 < sF a c 4)) c)) ||| ((1) <<< ((nI c) &&& 31)))), some (vI (nI c))]) dX11_heard_33 rfl ?_
      rw [show ((nI (bitN (fun c => decide (0 < sF a c 4)) c)) ||| ((1) <<< ((nI c) &&& 31)) : Int32) = nI (bitN (fun c => decide (0 < sF a c 4)) (c + 1)) from bit_or (by omega) (decide_eq_true (by omega))]
      refine w_iinc (v := nI (c + 1)) (ls' := [some (vR 30 0 0), some (vI (nI (bitN (fun c => decide (0 < sF a c 4)) (c + 1)))), some (vI (nI (c + 1)))]) dX11_heard_34 rfl (nI_1 _) rfl ?_
      refine w_goto (tgt := 4) dX11_heard_37 (by decide) ?_
      exact ih (c + 1) (by omega)

theorem d_heard {I : xF4 Int32} {L : xF4 Int64} {a : aA} (hm : MI I a) (hw : WF a) : Tri 1 109 m_X11_heard [vR 30 0 0] (rM I L) (pI (nI (heardN a)) I L) := by
  refine ⟨k_X11_heard, Nat.le_of_ble_eq_true rfl, ?_⟩
  show Wp _ _ _ 0 [some (vR 30 0 0), none, none] [] (rM I L) _
  refine w_iconst (v := 0) dX11_heard_0 (by decide) ?_
  refine w_istore_n (ls' := [some (vR 30 0 0), some (vI (0)), none]) dX11_heard_1 rfl ?_
  refine w_iconst (v := 0) dX11_heard_2 (by decide) ?_
  refine w_istore_n (ls' := [some (vR 30 0 0), some (vI (0)), some (vI (0))]) dX11_heard_3 rfl ?_
  exact l_mheard hm hw (nC a) 0 (Nat.zero_add _)

theorem l_maway {I : xF4 Int32} {L : xF4 Int64} {a : aA} (hm : MI I a) (hw : WF a)  : ∀ (m c : Nat) , c + m = nJ a → Wp 1 109 m_X11_away 4 [some (vR 30 0 0), some (vI (nI (bitN (fun j => decide (dY a < jF a j 3)) c))), some (vI (nI c))] [] (rM I L) (pI (nI (awayN a)) I L) := by
  intro m
  induction m with
  | zero =>
    intro c  hq9
    have e : c = nJ a := by omega
    subst e
    obtain ⟨ft0, ft1, ft2, ft3, ft4, -⟩ := id hw
    refine w_iload_n dX11_away_4 rfl ?_
    refine w_aload_n dX11_away_5 rfl ?_
    refine w_getI ff_X11_58 rfl rfl dX11_away_6 ?_
    rw [show (I 30 0 0 3 : Int32) = nI (nJ a) from hm.1]
    refine w_icmp_ge (tgt := 47) dX11_away_9 (by decide) (fun _ => ?_) (fun h => absurd (nI_le (Nat.le_refl _) (by omega)) h)
    refine w_iload_n dX11_away_47 rfl ?_
    exact w_ireturn dX11_away_48 rfl (rfl) rfl (⟨rfl, rfl⟩)
  | succ m ih =>
    intro c  hq9
    have hcc : c < nJ a := by omega
    obtain ⟨ft0, ft1, ft2, ft3, ft4, -⟩ := id hw
    obtain ⟨hJ, hC, hG, hD, hR, -⟩ := id hw
    obtain ⟨fj0, fj1, fj2, fj3⟩ := hw.2.2.2.2.2.1 c hcc
    refine w_iload_n dX11_away_4 rfl ?_
    refine w_aload_n dX11_away_5 rfl ?_
    refine w_getI ff_X11_58 rfl rfl dX11_away_6 ?_
    rw [show (I 30 0 0 3 : Int32) = nI (nJ a) from hm.1]
    refine w_icmp_ge (tgt := 47) dX11_away_9 (by decide) (fun h => absurd h (nI_ge hcc (by omega))) (fun _ => ?_)
    refine w_iload_n dX11_away_12 rfl ?_
    refine w_aload_n dX11_away_13 rfl ?_
    refine w_iload_n dX11_away_14 rfl ?_
    refine w_iconst (v := 3) dX11_away_15 (by decide) ?_
    refine w_callV (as := [vI (nI c), vI (3)]) (st := [vI (nI (bitN (fun j => decide (dY a < jF a j 3)) c))]) (Tri.mono (d_of hm hJ hcc (f := 3) (by decide)) (Nat.le_of_ble_eq_true rfl)) rfl rfl tg_X11_of lk_X11_139 in_X11_of se_X11_of rfl dX11_away_16 rfl (Nat.le_of_ble_eq_true rfl) (Nat.le_refl _) (Nat.le_refl _) ?_
    rintro _ _ ⟨rfl, rfl⟩ -
    refine w_aload_n dX11_away_19 rfl ?_
    refine w_getR (w := some (32, 0, 0)) ff_X11_13 rfl rfl dX11_away_20 rfl ?_
    refine w_bipush (v := 55) dX11_away_23 (by decide) ?_
    refine w_iaload (a := 55) rfl (vp_in_nI (n := 55) (by omega) (by omega)) (nI_clamp (n := 55) (by omega)) dX11_away_25 ?_
    rw [show (I 32 0 0 (55) : Int32) = nI (dY a) from hm.2.2.dy rfl]
    refine w_icmp_le (tgt := 33) dX11_away_26 (by decide) (fun h1 => ?_) (fun h1 => ?_)
    · skip
      replace h1 : (jF a c 3) ≤ (dY a) := (nI_leI (a := jF a c 3) (b := dY a) (by omega) (by omega)).mp h1
      refine w_iconst (v := 0) dX11_away_33 (by decide) ?_
      refine w_callS (as := [vI (0)]) (st := [vI (nI (bitN (fun j => decide (dY a < jF a j 3)) c))]) (Tri.mono (d_flag0) (Nat.le_of_ble_eq_true rfl)) tg_X11_flag lk_X11_161 sa_X11_flag rfl dX11_away_34 rfl (Nat.le_of_ble_eq_true rfl) (Nat.le_refl _) (Nat.le_refl _) ?_
      rintro _ _ ⟨rfl, rfl⟩ -
      refine w_iload_n dX11_away_37 rfl ?_
      refine w_ishl dX11_away_38 ?_
      refine w_ior dX11_away_39 ?_
      refine w_istore_n (ls' := [some (vR 30 0 0), some (vI ((nI (bitN (fun j => decide (dY a < jF a j 3)) c)) ||| ((0) <<< ((nI c) &&& 31)))), some (vI (nI c))]) dX11_away_40 rfl ?_
      rw [show ((nI (bitN (fun j => decide (dY a < jF a j 3)) c)) ||| ((0) <<< ((nI c) &&& 31)) : Int32) = nI (bitN (fun j => decide (dY a < jF a j 3)) (c + 1)) from bit_nz (p := (fun j => decide (dY a < jF a j 3))) (by omega) (fun q => absurd (of_decide_eq_true q) (by omega))]
      refine w_iinc (v := nI (c + 1)) (ls' := [some (vR 30 0 0), some (vI (nI (bitN (fun j => decide (dY a < jF a j 3)) (c + 1)))), some (vI (nI (c + 1)))]) dX11_away_41 rfl (nI_1 _) rfl ?_
      refine w_goto (tgt := 4) dX11_away_44 (by decide) ?_
      exact ih (c + 1) (by omega)
    · skip
      replace h1 : ¬ ((jF a c 3) ≤ (dY a)) := fun q => h1 ((nI_leI (a := jF a c 3) (b := dY a) (by omega) (by omega)).mpr q)
      refine w_iconst (v := 1) dX11_away_29 (by decide) ?_
      refine w_goto (tgt := 34) dX11_away_30 (by decide) ?_
      refine w_callS (as := [vI (1)]) (st := [vI (nI (bitN (fun j => decide (dY a < jF a j 3)) c))]) (Tri.mono (d_flag1) (Nat.le_of_ble_eq_true rfl)) tg_X11_flag lk_X11_161 sa_X11_flag rfl dX11_away_34 rfl (Nat.le_of_ble_eq_true rfl) (Nat.le_refl _) (Nat.le_refl _) ?_
      rintro _ _ ⟨rfl, rfl⟩ -
      refine w_iload_n dX11_away_37 rfl ?_
      refine w_ishl dX11_away_38 ?_
      refine w_ior dX11_away_39 ?_
      refine w_istore_n (ls' := [some (vR 30 0 0), some (vI ((nI (bitN (fun j => decide (dY a < jF a j 3)) c)) ||| ((1) <<< ((nI c) &&& 31)))), some (vI (nI c))]) dX11_away_40 rfl ?_
      rw [show ((nI (bitN (fun j => decide (dY a < jF a j 3)) c)) ||| ((1) <<< ((nI c) &&& 31)) : Int32) = nI (bitN (fun j => decide (dY a < jF a j 3)) (c + 1)) from bit_or (by omega) (decide_eq_true (show dY a < jF a c 3 by omega))]
      refine w_iinc (v := nI (c + 1)) (ls' := [some (vR 30 0 0), some (vI (nI (bitN (fun j => decide (dY a < jF a j 3)) (c + 1)))), some (vI (nI (c + 1)))]) dX11_away_41 rfl (nI_1 _) rfl ?_
      refine w_goto (tgt := 4) dX11_away_44 (by decide) ?_
      exact ih (c + 1) (by omega)

theorem d_away {I : xF4 Int32} {L : xF4 Int64} {a : aA} (hm : MI I a) (hw : WF a) : Tri 1 109 m_X11_away [vR 30 0 0] (rM I L) (pI (nI (awayN a)) I L) := by
  refine ⟨k_X11_away, Nat.le_of_ble_eq_true rfl, ?_⟩
  show Wp _ _ _ 0 [some (vR 30 0 0), none, none] [] (rM I L) _
  refine w_iconst (v := 0) dX11_away_0 (by decide) ?_
  refine w_istore_n (ls' := [some (vR 30 0 0), some (vI (0)), none]) dX11_away_1 rfl ?_
  refine w_iconst (v := 0) dX11_away_2 (by decide) ?_
  refine w_istore_n (ls' := [some (vR 30 0 0), some (vI (0)), some (vI (0))]) dX11_away_3 rfl ?_
  exact l_maway hm hw (nJ a) 0 (Nat.zero_add _)

theorem l_firstFor {I : xF4 Int32} {L : xF4 Int64} {a : aA} (hm : MI I a) (hw : WF a) {j : Nat} (hj : j < nJ a) : ∀ (m c : Nat) , c + m = nC a → Wp 3 109 m_X11_firstFor 2 [some (vR 30 0 0), some (vI (nI j)), some (vI (nI c))] [] (rM I L) (pI (byI (ffF a j c m)) I L) := by
  intro m
  induction m with
  | zero =>
    intro c  hq9
    have e : c = nC a := by omega
    subst e
    obtain ⟨ft0, ft1, ft2, ft3, ft4, -⟩ := id hw
    refine w_iload_n dX11_firstFor_2 rfl ?_
    refine w_aload_n dX11_firstFor_3 rfl ?_
    refine w_getI ff_X11_61 rfl rfl dX11_firstFor_4 ?_
    rw [show (I 30 0 0 4 : Int32) = nI (nC a) from hm.2.1]
    refine w_icmp_ge (tgt := 33) dX11_firstFor_7 (by decide) (fun _ => ?_) (fun h => absurd (nI_le (Nat.le_refl _) (by omega)) h)
    refine w_bipush (v := (-4)) dX11_firstFor_33 (by decide) ?_
    exact w_ireturn dX11_firstFor_35 rfl (rfl) rfl (⟨rfl, rfl⟩)
  | succ m ih =>
    intro c  hq9
    have hcc : c < nC a := by omega
    obtain ⟨ft0, ft1, ft2, ft3, ft4, -⟩ := id hw
    obtain ⟨hJ, hC, hG, hD, hR, -⟩ := id hw
    obtain ⟨fc0, fc1, fc2, fc3, fc4, fc5, fc6, fc7, fc8⟩ := hw.2.2.2.2.2.2.1 c hcc
    refine w_iload_n dX11_firstFor_2 rfl ?_
    refine w_aload_n dX11_firstFor_3 rfl ?_
    refine w_getI ff_X11_61 rfl rfl dX11_firstFor_4 ?_
    rw [show (I 30 0 0 4 : Int32) = nI (nC a) from hm.2.1]
    refine w_icmp_ge (tgt := 33) dX11_firstFor_7 (by decide) (fun h => absurd h (nI_ge hcc (by omega))) (fun _ => ?_)
    refine w_aload_n dX11_firstFor_10 rfl ?_
    refine w_iload_n dX11_firstFor_11 rfl ?_
    refine w_iload_n dX11_firstFor_12 rfl ?_
    refine w_aload_n dX11_firstFor_13 rfl ?_
    refine w_iload_n dX11_firstFor_14 rfl ?_
    refine w_iconst (v := 1) dX11_firstFor_15 (by decide) ?_
    refine w_callV (as := [vI (nI c), vI (1)]) (st := [vI (nI c), vI (nI j), vR 30 0 0]) (Tri.mono (d_ofCase hm hC hcc (f := 1) (by decide) (by decide)) (Nat.le_of_ble_eq_true rfl)) rfl rfl tg_X11_ofCase lk_X11_145 in_X11_ofCase se_X11_ofCase rfl dX11_firstFor_16 rfl (Nat.le_of_ble_eq_true rfl) (Nat.le_refl _) (Nat.le_refl _) ?_
    rintro _ _ ⟨rfl, rfl⟩ -
    refine w_callV (as := [vI (nI j), vI (nI c), vI (nI (sF a c 1))]) (st := []) (Tri.mono (d_canHear hm hw (c := c) (j := j) (n := sF a c 1) hcc hj (by omega)) (Nat.le_of_ble_eq_true rfl)) rfl rfl tg_X11_canHear lk_X11_165 in_X11_canHear se_X11_canHear rfl dX11_firstFor_19 rfl (Nat.le_of_ble_eq_true rfl) (Nat.le_refl _) (Nat.le_refl _) ?_
    rintro _ _ ⟨rfl, rfl⟩ -
    refine w_ifeq_b (tgt := 27) dX11_firstFor_22 (by decide) (fun h1 => ?_) (fun h1 => ?_)
    · skip
      rw [ffF, if_neg h1]
      refine w_iinc (v := nI (c + 1)) (ls' := [some (vR 30 0 0), some (vI (nI j)), some (vI (nI (c + 1)))]) dX11_firstFor_27 rfl (nI_1 _) rfl ?_
      refine w_goto (tgt := 2) dX11_firstFor_30 (by decide) ?_
      exact ih (c + 1) (by omega)
    · skip
      refine w_iload_n dX11_firstFor_25 rfl ?_
      rw [ffF, if_pos h1]
      exact w_ireturn dX11_firstFor_26 rfl (rfl) rfl (⟨rfl, rfl⟩)

theorem d_firstFor {I : xF4 Int32} {L : xF4 Int64} {a : aA} (hm : MI I a) (hw : WF a) {j : Nat} (hj : j < nJ a) : Tri 3 109 m_X11_firstFor [vR 30 0 0, vI (nI j)] (rM I L) (pI (byI (ffN a j)) I L) := by
  refine ⟨k_X11_firstFor, Nat.le_of_ble_eq_true rfl, ?_⟩
  show Wp _ _ _ 0 [some (vR 30 0 0), some (vI (nI j)), none] [] (rM I L) _
  refine w_iconst (v := 0) dX11_firstFor_0 (by decide) ?_
  refine w_istore_n (ls' := [some (vR 30 0 0), some (vI (nI j)), some (vI (0))]) dX11_firstFor_1 rfl ?_
  exact l_firstFor hm hw hj (nC a) 0 (Nat.zero_add _)

theorem tbit8 : ∀ w, w < 32 → ∀ c, c < 8 → (nI w >>> (nI c &&& 31)) &&& 1 = nI (if w.testBit c = true then 1 else 0) := by decide +kernel

theorem l_bitsOf {I : xF4 Int32} {L : xF4 Int64} {v : Nat} (hv : v < 32) : ∀ (m c : Nat), c + m = 8 → Wp 0 109 m_X11_bitsOf 4 [some (vI (nI v)), some (vI (nI (sumN (fun i => if v.testBit i = true then 1 else 0) c))), some (vI (nI c))] [] (rM I L) (pI (nI (popN v)) I L) := by
  intro m
  induction m with
  | zero =>
    intro c hm
    have e : c = 8 := by omega
    subst e
    refine w_iload_n dX11_bitsOf_4 rfl ?_
    refine w_bipush (v := 8) dX11_bitsOf_5 (by decide) ?_
    refine w_icmp_ge (tgt := 24) dX11_bitsOf_7 (by decide) (fun _ => ?_) (fun h => absurd (by decide) h)
    refine w_iload_n dX11_bitsOf_24 rfl ?_
    exact w_ireturn dX11_bitsOf_25 rfl (rfl) rfl (⟨rfl, rfl⟩)
  | succ m ih =>
    intro c hm
    have hcc : c < 8 := by omega
    refine w_iload_n dX11_bitsOf_4 rfl ?_
    refine w_bipush (v := 8) dX11_bitsOf_5 (by decide) ?_
    refine w_icmp_ge (tgt := 24) dX11_bitsOf_7 (by decide) (fun h => absurd h (nI_ge (b := 8) hcc (by omega))) (fun _ => ?_)
    refine w_iload_n dX11_bitsOf_10 rfl ?_
    refine w_iload_n dX11_bitsOf_11 rfl ?_
    refine w_iload_n dX11_bitsOf_12 rfl ?_
    refine w_ishr dX11_bitsOf_13 ?_
    refine w_iconst (v := 1) dX11_bitsOf_14 (by decide) ?_
    refine w_iand dX11_bitsOf_15 ?_
    rw [show (((nI v) >>> ((nI c) &&& 31)) &&& (1) : Int32) = nI (if v.testBit c = true then 1 else 0) from tbit8 v hv c hcc]
    refine w_iadd dX11_bitsOf_16 ?_
    rw [show ((nI (sumN (fun i => if v.testBit i = true then 1 else 0) c)) + (nI (if v.testBit c = true then 1 else 0)) : Int32) = nI (sumN (fun i => if v.testBit i = true then 1 else 0) (c + 1)) from nI_add _ _]
    refine w_istore_n (ls' := [some (vI (nI v)), some (vI (nI (sumN (fun i => if v.testBit i = true then 1 else 0) (c + 1)))), some (vI (nI c))]) dX11_bitsOf_17 rfl ?_
    refine w_iinc (v := nI (c + 1)) (ls' := [some (vI (nI v)), some (vI (nI (sumN (fun i => if v.testBit i = true then 1 else 0) (c + 1)))), some (vI (nI (c + 1)))]) dX11_bitsOf_18 rfl (nI_1 _) rfl ?_
    refine w_goto (tgt := 4) dX11_bitsOf_21 (by decide) ?_
    exact ih (c + 1) (by omega)

theorem d_bitsOf {I : xF4 Int32} {L : xF4 Int64} {v : Nat} (hv : v < 32) : Tri 0 109 m_X11_bitsOf [vI (nI v)] (rM I L) (pI (nI (popN v)) I L) := by
  refine ⟨k_X11_bitsOf, Nat.le_of_ble_eq_true rfl, ?_⟩
  show Wp _ _ _ 0 [some (vI (nI v)), none, none] [] (rM I L) _
  refine w_iconst (v := 0) dX11_bitsOf_0 (by decide) ?_
  refine w_istore_n (ls' := [some (vI (nI v)), some (vI (0)), none]) dX11_bitsOf_1 rfl ?_
  refine w_iconst (v := 0) dX11_bitsOf_2 (by decide) ?_
  refine w_istore_n (ls' := [some (vI (nI v)), some (vI (0)), some (vI (0))]) dX11_bitsOf_3 rfl ?_
  exact l_bitsOf hv 8 0 rfl

theorem l_mpurses {I : xF4 Int32} {L : xF4 Int64} {a : aA} (hm : MI I a) (hw : WF a)  : ∀ (m c : Nat) , c + m = nJ a → Wp 1 109 m_X11_allOf 4 [some (vR 30 0 0), some (vI (2)), some (vI (nI (sumN (fun j => jF a j 2) c))), some (vI (nI c))] [] (rM I L) (pI (nI (sumN (fun j => jF a j 2) (nJ a))) I L) := by
  intro m
  induction m with
  | zero =>
    intro c  hq9
    have e : c = nJ a := by omega
    subst e
    obtain ⟨ft0, ft1, ft2, ft3, ft4, -⟩ := id hw
    refine w_iload_n dX11_allOf_4 rfl ?_
    refine w_aload_n dX11_allOf_5 rfl ?_
    refine w_getI ff_X11_58 rfl rfl dX11_allOf_6 ?_
    rw [show (I 30 0 0 3 : Int32) = nI (nJ a) from hm.1]
    refine w_icmp_ge (tgt := 27) dX11_allOf_9 (by decide) (fun _ => ?_) (fun h => absurd (nI_le (Nat.le_refl _) (by omega)) h)
    refine w_iload_n dX11_allOf_27 rfl ?_
    exact w_ireturn dX11_allOf_28 rfl (rfl) rfl (⟨rfl, rfl⟩)
  | succ m ih =>
    intro c  hq9
    have hcc : c < nJ a := by omega
    obtain ⟨ft0, ft1, ft2, ft3, ft4, -⟩ := id hw
    obtain ⟨hJ, hC, hG, hD, hR, -⟩ := id hw
    refine w_iload_n dX11_allOf_4 rfl ?_
    refine w_aload_n dX11_allOf_5 rfl ?_
    refine w_getI ff_X11_58 rfl rfl dX11_allOf_6 ?_
    rw [show (I 30 0 0 3 : Int32) = nI (nJ a) from hm.1]
    refine w_icmp_ge (tgt := 27) dX11_allOf_9 (by decide) (fun h => absurd h (nI_ge hcc (by omega))) (fun _ => ?_)
    refine w_iload_n dX11_allOf_12 rfl ?_
    refine w_aload_n dX11_allOf_13 rfl ?_
    refine w_iload_n dX11_allOf_14 rfl ?_
    refine w_iload_n dX11_allOf_15 rfl ?_
    refine w_callV (as := [vI (nI c), vI (2)]) (st := [vI (nI (sumN (fun j => jF a j 2) c))]) (Tri.mono (d_of hm hJ hcc (f := 2) (by decide)) (Nat.le_of_ble_eq_true rfl)) rfl rfl tg_X11_of lk_X11_139 in_X11_of se_X11_of rfl dX11_allOf_16 rfl (Nat.le_of_ble_eq_true rfl) (Nat.le_refl _) (Nat.le_refl _) ?_
    rintro _ _ ⟨rfl, rfl⟩ -
    refine w_iadd dX11_allOf_19 ?_
    refine w_istore_n (ls' := [some (vR 30 0 0), some (vI (2)), some (vI ((nI (sumN (fun j => jF a j 2) c)) + (nI (jF a c 2)))), some (vI (nI c))]) dX11_allOf_20 rfl ?_
    rw [show ((nI (sumN (fun j => jF a j 2) c)) + (nI (jF a c 2)) : Int32) = nI (sumN (fun j => jF a j 2) (c + 1)) from nI_add _ _]
    refine w_iinc (v := nI (c + 1)) (ls' := [some (vR 30 0 0), some (vI (2)), some (vI (nI (sumN (fun j => jF a j 2) (c + 1)))), some (vI (nI (c + 1)))]) dX11_allOf_21 rfl (nI_1 _) rfl ?_
    refine w_goto (tgt := 4) dX11_allOf_24 (by decide) ?_
    exact ih (c + 1) (by omega)

theorem d_purses {I : xF4 Int32} {L : xF4 Int64} {a : aA} (hm : MI I a) (hw : WF a) : Tri 1 109 m_X11_allOf [vR 30 0 0, vI (2)] (rM I L) (pI (nI (sumN (fun j => jF a j 2) (nJ a))) I L) := by
  refine ⟨k_X11_allOf, Nat.le_of_ble_eq_true rfl, ?_⟩
  show Wp _ _ _ 0 [some (vR 30 0 0), some (vI (2)), none, none] [] (rM I L) _
  refine w_iconst (v := 0) dX11_allOf_0 (by decide) ?_
  refine w_istore_n (ls' := [some (vR 30 0 0), some (vI (2)), some (vI (0)), none]) dX11_allOf_1 rfl ?_
  refine w_iconst (v := 0) dX11_allOf_2 (by decide) ?_
  refine w_istore_n (ls' := [some (vR 30 0 0), some (vI (2)), some (vI (0)), some (vI (0))]) dX11_allOf_3 rfl ?_
  exact l_mpurses hm hw (nJ a) 0 (Nat.zero_add _)

theorem l_mhealths {I : xF4 Int32} {L : xF4 Int64} {a : aA} (hm : MI I a) (hw : WF a)  : ∀ (m c : Nat) , c + m = nJ a → Wp 1 109 m_X11_allOf 4 [some (vR 30 0 0), some (vI (1)), some (vI (nI (sumN (fun j => jF a j 1) c))), some (vI (nI c))] [] (rM I L) (pI (nI (sumN (fun j => jF a j 1) (nJ a))) I L) := by
  intro m
  induction m with
  | zero =>
    intro c  hq9
    have e : c = nJ a := by omega
    subst e
    obtain ⟨ft0, ft1, ft2, ft3, ft4, -⟩ := id hw
    refine w_iload_n dX11_allOf_4 rfl ?_
    refine w_aload_n dX11_allOf_5 rfl ?_
    refine w_getI ff_X11_58 rfl rfl dX11_allOf_6 ?_
    rw [show (I 30 0 0 3 : Int32) = nI (nJ a) from hm.1]
    refine w_icmp_ge (tgt := 27) dX11_allOf_9 (by decide) (fun _ => ?_) (fun h => absurd (nI_le (Nat.le_refl _) (by omega)) h)
    refine w_iload_n dX11_allOf_27 rfl ?_
    exact w_ireturn dX11_allOf_28 rfl (rfl) rfl (⟨rfl, rfl⟩)
  | succ m ih =>
    intro c  hq9
    have hcc : c < nJ a := by omega
    obtain ⟨ft0, ft1, ft2, ft3, ft4, -⟩ := id hw
    obtain ⟨hJ, hC, hG, hD, hR, -⟩ := id hw
    refine w_iload_n dX11_allOf_4 rfl ?_
    refine w_aload_n dX11_allOf_5 rfl ?_
    refine w_getI ff_X11_58 rfl rfl dX11_allOf_6 ?_
    rw [show (I 30 0 0 3 : Int32) = nI (nJ a) from hm.1]
    refine w_icmp_ge (tgt := 27) dX11_allOf_9 (by decide) (fun h => absurd h (nI_ge hcc (by omega))) (fun _ => ?_)
    refine w_iload_n dX11_allOf_12 rfl ?_
    refine w_aload_n dX11_allOf_13 rfl ?_
    refine w_iload_n dX11_allOf_14 rfl ?_
    refine w_iload_n dX11_allOf_15 rfl ?_
    refine w_callV (as := [vI (nI c), vI (1)]) (st := [vI (nI (sumN (fun j => jF a j 1) c))]) (Tri.mono (d_of hm hJ hcc (f := 1) (by decide)) (Nat.le_of_ble_eq_true rfl)) rfl rfl tg_X11_of lk_X11_139 in_X11_of se_X11_of rfl dX11_allOf_16 rfl (Nat.le_of_ble_eq_true rfl) (Nat.le_refl _) (Nat.le_refl _) ?_
    rintro _ _ ⟨rfl, rfl⟩ -
    refine w_iadd dX11_allOf_19 ?_
    refine w_istore_n (ls' := [some (vR 30 0 0), some (vI (1)), some (vI ((nI (sumN (fun j => jF a j 1) c)) + (nI (jF a c 1)))), some (vI (nI c))]) dX11_allOf_20 rfl ?_
    rw [show ((nI (sumN (fun j => jF a j 1) c)) + (nI (jF a c 1)) : Int32) = nI (sumN (fun j => jF a j 1) (c + 1)) from nI_add _ _]
    refine w_iinc (v := nI (c + 1)) (ls' := [some (vR 30 0 0), some (vI (1)), some (vI (nI (sumN (fun j => jF a j 1) (c + 1)))), some (vI (nI (c + 1)))]) dX11_allOf_21 rfl (nI_1 _) rfl ?_
    refine w_goto (tgt := 4) dX11_allOf_24 (by decide) ?_
    exact ih (c + 1) (by omega)

theorem d_healths {I : xF4 Int32} {L : xF4 Int64} {a : aA} (hm : MI I a) (hw : WF a) : Tri 1 109 m_X11_allOf [vR 30 0 0, vI (1)] (rM I L) (pI (nI (sumN (fun j => jF a j 1) (nJ a))) I L) := by
  refine ⟨k_X11_allOf, Nat.le_of_ble_eq_true rfl, ?_⟩
  show Wp _ _ _ 0 [some (vR 30 0 0), some (vI (1)), none, none] [] (rM I L) _
  refine w_iconst (v := 0) dX11_allOf_0 (by decide) ?_
  refine w_istore_n (ls' := [some (vR 30 0 0), some (vI (1)), some (vI (0)), none]) dX11_allOf_1 rfl ?_
  refine w_iconst (v := 0) dX11_allOf_2 (by decide) ?_
  refine w_istore_n (ls' := [some (vR 30 0 0), some (vI (1)), some (vI (0)), some (vI (0))]) dX11_allOf_3 rfl ?_
  exact l_mhealths hm hw (nJ a) 0 (Nat.zero_add _)

theorem l_mscars {I : xF4 Int32} {L : xF4 Int64} {a : aA} (hm : MI I a) (hw : WF a)  : ∀ (m c : Nat) , c + m = nJ a → Wp 1 109 m_X11_allOf 4 [some (vR 30 0 0), some (vI (4)), some (vI (sumI (fun j => sC a j) c)), some (vI (nI c))] [] (rM I L) (pI (sumI (fun j => sC a j) (nJ a)) I L) := by
  intro m
  induction m with
  | zero =>
    intro c  hq9
    have e : c = nJ a := by omega
    subst e
    obtain ⟨ft0, ft1, ft2, ft3, ft4, -⟩ := id hw
    refine w_iload_n dX11_allOf_4 rfl ?_
    refine w_aload_n dX11_allOf_5 rfl ?_
    refine w_getI ff_X11_58 rfl rfl dX11_allOf_6 ?_
    rw [show (I 30 0 0 3 : Int32) = nI (nJ a) from hm.1]
    refine w_icmp_ge (tgt := 27) dX11_allOf_9 (by decide) (fun _ => ?_) (fun h => absurd (nI_le (Nat.le_refl _) (by omega)) h)
    refine w_iload_n dX11_allOf_27 rfl ?_
    exact w_ireturn dX11_allOf_28 rfl (rfl) rfl (⟨rfl, rfl⟩)
  | succ m ih =>
    intro c  hq9
    have hcc : c < nJ a := by omega
    obtain ⟨ft0, ft1, ft2, ft3, ft4, -⟩ := id hw
    obtain ⟨hJ, hC, hG, hD, hR, -⟩ := id hw
    refine w_iload_n dX11_allOf_4 rfl ?_
    refine w_aload_n dX11_allOf_5 rfl ?_
    refine w_getI ff_X11_58 rfl rfl dX11_allOf_6 ?_
    rw [show (I 30 0 0 3 : Int32) = nI (nJ a) from hm.1]
    refine w_icmp_ge (tgt := 27) dX11_allOf_9 (by decide) (fun h => absurd h (nI_ge hcc (by omega))) (fun _ => ?_)
    refine w_iload_n dX11_allOf_12 rfl ?_
    refine w_aload_n dX11_allOf_13 rfl ?_
    refine w_iload_n dX11_allOf_14 rfl ?_
    refine w_iload_n dX11_allOf_15 rfl ?_
    refine w_callV (as := [vI (nI c), vI (4)]) (st := [vI (sumI (fun j => sC a j) c)]) (Tri.mono (d_ofS hm hJ hcc) (Nat.le_of_ble_eq_true rfl)) rfl rfl tg_X11_of lk_X11_139 in_X11_of se_X11_of rfl dX11_allOf_16 rfl (Nat.le_of_ble_eq_true rfl) (Nat.le_refl _) (Nat.le_refl _) ?_
    rintro _ _ ⟨rfl, rfl⟩ -
    refine w_iadd dX11_allOf_19 ?_
    refine w_istore_n (ls' := [some (vR 30 0 0), some (vI (4)), some (vI ((sumI (fun j => sC a j) c) + (sC a c))), some (vI (nI c))]) dX11_allOf_20 rfl ?_
    rw [show ((sumI (fun j => sC a j) c) + (sC a c) : Int32) = sumI (fun j => sC a j) (c + 1) from rfl]
    refine w_iinc (v := nI (c + 1)) (ls' := [some (vR 30 0 0), some (vI (4)), some (vI (sumI (fun j => sC a j) (c + 1))), some (vI (nI (c + 1)))]) dX11_allOf_21 rfl (nI_1 _) rfl ?_
    refine w_goto (tgt := 4) dX11_allOf_24 (by decide) ?_
    exact ih (c + 1) (by omega)

theorem d_scars {I : xF4 Int32} {L : xF4 Int64} {a : aA} (hm : MI I a) (hw : WF a) : Tri 1 109 m_X11_allOf [vR 30 0 0, vI (4)] (rM I L) (pI (sumI (fun j => sC a j) (nJ a)) I L) := by
  refine ⟨k_X11_allOf, Nat.le_of_ble_eq_true rfl, ?_⟩
  show Wp _ _ _ 0 [some (vR 30 0 0), some (vI (4)), none, none] [] (rM I L) _
  refine w_iconst (v := 0) dX11_allOf_0 (by decide) ?_
  refine w_istore_n (ls' := [some (vR 30 0 0), some (vI (4)), some (vI (0)), none]) dX11_allOf_1 rfl ?_
  refine w_iconst (v := 0) dX11_allOf_2 (by decide) ?_
  refine w_istore_n (ls' := [some (vR 30 0 0), some (vI (4)), some (vI (0)), some (vI (0))]) dX11_allOf_3 rfl ?_
  exact l_mscars hm hw (nJ a) 0 (Nat.zero_add _)
