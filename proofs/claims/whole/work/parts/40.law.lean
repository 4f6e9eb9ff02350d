/-! the law's loop, over any relation that every call keeps (by wip/whole/gen/g40.py) -/
def m_law (S : Nat × (Nat → Int32)) : xMR := (some S, (yL_law, (cL_law, (4, some .boolean))))
/-- one call of both: the same answer, the relation kept -/
def Sim (Inv : xF4 Int32 → xF4 Int64 → Prop) (mC mM : xMR) (as : List xV) (I : xF4 Int32) (L : xF4 Int64) : Prop :=
  ∃ (x : xV) (P : xF4 Int32 → xF4 Int64 → Prop), Tri 20 109 mC (vR 0 0 0 :: as) (rM I L) (fun v M => v = some x ∧ ∃ I1 L1, M = rM I1 L1 ∧ P I1 L1) ∧ ∀ I1 L1, P I1 L1 → Tri 20 109 mM (vR 30 0 0 :: as) (rM I1 L1) (fun v M => v = some x ∧ ∃ I2 L2, M = rM I2 L2 ∧ Inv I2 L2)
def SimI (Inv : xF4 Int32 → xF4 Int64 → Prop) (mC mM : xMR) (as : List xV) (I : xF4 Int32) (L : xF4 Int64) : Prop :=
  ∃ (x : Int32) (P : xF4 Int32 → xF4 Int64 → Prop), Tri 20 109 mC (vR 0 0 0 :: as) (rM I L) (fun v M => v = some (vI x) ∧ ∃ I1 L1, M = rM I1 L1 ∧ P I1 L1) ∧ ∀ I1 L1, P I1 L1 → Tri 20 109 mM (vR 30 0 0 :: as) (rM I1 L1) (fun v M => v = some (vI x) ∧ ∃ I2 L2, M = rM I2 L2 ∧ Inv I2 L2)
def SimL (Inv : xF4 Int32 → xF4 Int64 → Prop) (mC mM : xMR) (as : List xV) (I : xF4 Int32) (L : xF4 Int64) : Prop :=
  ∃ (x : Int64) (P : xF4 Int32 → xF4 Int64 → Prop), Tri 20 109 mC (vR 0 0 0 :: as) (rM I L) (fun v M => v = some (vL x) ∧ ∃ I1 L1, M = rM I1 L1 ∧ P I1 L1) ∧ ∀ I1 L1, P I1 L1 → Tri 20 109 mM (vR 30 0 0 :: as) (rM I1 L1) (fun v M => v = some (vL x) ∧ ∃ I2 L2, M = rM I2 L2 ∧ Inv I2 L2)
theorem lg_same (x : Int64) : lg_cmp x x = 0 := by simp [lg_cmp]
theorem lw_more {n i : Nat} (hn : n ≤ 2560) (hi : i ≤ 2560) (h : ¬ (nI n - 5 : Int32) < nI i) : i + 5 ≤ n := by
  have h1 : (nI n - nI 5).toInt = (n : Int) - (5 : Nat) := pk_sub_toInt (by omega) (by omega)
  have h2 := i32_nlt.mp h
  rw [i32_le, nI_toInt (by omega)] at h2
  have h3 : (nI n - 5 : Int32).toInt = (n : Int) - 5 := h1
  omega

theorem law_feed {Inv : xF4 Int32 → xF4 Int64 → Prop} {S : Nat × (Nat → Int32)} {i : Nat} (hi : i + 5 ≤ S.1) (hL : S.1 ≤ 2560) (hk : ∀ I L, Inv I L → Wp 21 109 (m_law S) 1309 [some (vR 99 0 0), some (vR 0 0 0), some (vR 30 0 0), some (vI (nI i))] [] (rM I L) (fun v _ => v = some (vI 1))) {I : xF4 Int32} {L : xF4 Int64} (h : SimI Inv m_X10_feed m_X11_feed [vI (S.2 (i + 1))] I L) : Wp 21 109 (m_law S) 196 [some (vR 99 0 0), some (vR 0 0 0), some (vR 30 0 0), some (vI (nI i))] [] (rM I L) (fun v _ => v = some (vI 1)) := by
  obtain ⟨x, P, h1, h2⟩ := h
  refine w_aload_n dL_law_196 rfl ?_
  refine w_aload_n dL_law_197 rfl ?_
  refine w_iload_n dL_law_198 rfl ?_
  refine w_iconst (v := 1) dL_law_199 (by decide) ?_
  refine w_iadd dL_law_200 ?_
  rw [show ((nI i) + (1) : Int32) = nI (i + 1) from nI_add i 1]
  refine w_sld (a := i + 1) rfl (vp_in_nI (by omega) (by omega)) (nI_clamp (by omega)) dL_law_201 ?_
  refine w_callV (as := [vI (S.2 (i + 1))]) (st := []) (Tri.mono (h1) (Nat.le_of_ble_eq_true rfl)) rfl rfl tg_X10_feed lk_RL_13 in_X10_feed se_X10_feed rfl dL_law_202 rfl (Nat.le_of_ble_eq_true rfl) (Nat.le_refl _) (Nat.le_refl _) ?_
  rintro _ _ ⟨rfl, I1, L1, rfl, hP⟩ -
  refine w_aload_n dL_law_205 rfl ?_
  refine w_aload_n dL_law_206 rfl ?_
  refine w_iload_n dL_law_207 rfl ?_
  refine w_iconst (v := 1) dL_law_208 (by decide) ?_
  refine w_iadd dL_law_209 ?_
  rw [show ((nI i) + (1) : Int32) = nI (i + 1) from nI_add i 1]
  refine w_sld (a := i + 1) rfl (vp_in_nI (by omega) (by omega)) (nI_clamp (by omega)) dL_law_210 ?_
  refine w_callV (as := [vI (S.2 (i + 1))]) (st := [vI (x)]) (Tri.mono (h2 I1 L1 hP) (Nat.le_of_ble_eq_true rfl)) rfl rfl tg_X11_feed lk_RL_17 in_X11_feed se_X11_feed rfl dL_law_211 rfl (Nat.le_of_ble_eq_true rfl) (Nat.le_refl _) (Nat.le_refl _) ?_
  rintro _ _ ⟨rfl, I2, L2, rfl, hI⟩ -
  refine w_icmp_eq (tgt := 1309) dL_law_214 (by decide) (fun _ => ?_) (fun h => absurd (rfl) h)
  exact hk I2 L2 hI

theorem law_end {Inv : xF4 Int32 → xF4 Int64 → Prop} {S : Nat × (Nat → Int32)} {i : Nat} (hi : i + 5 ≤ S.1) (hL : S.1 ≤ 2560) (hk : ∀ I L, Inv I L → Wp 21 109 (m_law S) 1309 [some (vR 99 0 0), some (vR 0 0 0), some (vR 30 0 0), some (vI (nI i))] [] (rM I L) (fun v _ => v = some (vI 1))) {I : xF4 Int32} {L : xF4 Int64} (h : SimI Inv m_X10_end m_X11_end [vI (S.2 (i + 1))] I L) : Wp 21 109 (m_law S) 219 [some (vR 99 0 0), some (vR 0 0 0), some (vR 30 0 0), some (vI (nI i))] [] (rM I L) (fun v _ => v = some (vI 1)) := by
  obtain ⟨x, P, h1, h2⟩ := h
  refine w_aload_n dL_law_219 rfl ?_
  refine w_aload_n dL_law_220 rfl ?_
  refine w_iload_n dL_law_221 rfl ?_
  refine w_iconst (v := 1) dL_law_222 (by decide) ?_
  refine w_iadd dL_law_223 ?_
  rw [show ((nI i) + (1) : Int32) = nI (i + 1) from nI_add i 1]
  refine w_sld (a := i + 1) rfl (vp_in_nI (by omega) (by omega)) (nI_clamp (by omega)) dL_law_224 ?_
  refine w_callV (as := [vI (S.2 (i + 1))]) (st := []) (Tri.mono (h1) (Nat.le_of_ble_eq_true rfl)) rfl rfl tg_X10_end lk_RL_18 in_X10_end se_X10_end rfl dL_law_225 rfl (Nat.le_of_ble_eq_true rfl) (Nat.le_refl _) (Nat.le_refl _) ?_
  rintro _ _ ⟨rfl, I1, L1, rfl, hP⟩ -
  refine w_aload_n dL_law_228 rfl ?_
  refine w_aload_n dL_law_229 rfl ?_
  refine w_iload_n dL_law_230 rfl ?_
  refine w_iconst (v := 1) dL_law_231 (by decide) ?_
  refine w_iadd dL_law_232 ?_
  rw [show ((nI i) + (1) : Int32) = nI (i + 1) from nI_add i 1]
  refine w_sld (a := i + 1) rfl (vp_in_nI (by omega) (by omega)) (nI_clamp (by omega)) dL_law_233 ?_
  refine w_callV (as := [vI (S.2 (i + 1))]) (st := [vI (x)]) (Tri.mono (h2 I1 L1 hP) (Nat.le_of_ble_eq_true rfl)) rfl rfl tg_X11_end lk_RL_21 in_X11_end se_X11_end rfl dL_law_234 rfl (Nat.le_of_ble_eq_true rfl) (Nat.le_refl _) (Nat.le_refl _) ?_
  rintro _ _ ⟨rfl, I2, L2, rfl, hI⟩ -
  refine w_icmp_eq (tgt := 1309) dL_law_237 (by decide) (fun _ => ?_) (fun h => absurd (rfl) h)
  exact hk I2 L2 hI

theorem law_text {Inv : xF4 Int32 → xF4 Int64 → Prop} {S : Nat × (Nat → Int32)} {i : Nat} (hi : i + 5 ≤ S.1) (hL : S.1 ≤ 2560) (hk : ∀ I L, Inv I L → Wp 21 109 (m_law S) 1309 [some (vR 99 0 0), some (vR 0 0 0), some (vR 30 0 0), some (vI (nI i))] [] (rM I L) (fun v _ => v = some (vI 1))) {I : xF4 Int32} {L : xF4 Int64} (h : SimI Inv m_X10_text m_X11_text [] I L) : Wp 21 109 (m_law S) 242 [some (vR 99 0 0), some (vR 0 0 0), some (vR 30 0 0), some (vI (nI i))] [] (rM I L) (fun v _ => v = some (vI 1)) := by
  obtain ⟨x, P, h1, h2⟩ := h
  refine w_aload_n dL_law_242 rfl ?_
  refine w_callV (as := []) (st := []) (Tri.mono (h1) (Nat.le_of_ble_eq_true rfl)) rfl rfl tg_X10_text lk_RL_22 in_X10_text se_X10_text rfl dL_law_243 rfl (Nat.le_of_ble_eq_true rfl) (Nat.le_refl _) (Nat.le_refl _) ?_
  rintro _ _ ⟨rfl, I1, L1, rfl, hP⟩ -
  refine w_aload_n dL_law_246 rfl ?_
  refine w_callV (as := []) (st := [vI (x)]) (Tri.mono (h2 I1 L1 hP) (Nat.le_of_ble_eq_true rfl)) rfl rfl tg_X11_text lk_RL_26 in_X11_text se_X11_text rfl dL_law_247 rfl (Nat.le_of_ble_eq_true rfl) (Nat.le_refl _) (Nat.le_refl _) ?_
  rintro _ _ ⟨rfl, I2, L2, rfl, hI⟩ -
  refine w_icmp_eq (tgt := 1309) dL_law_250 (by decide) (fun _ => ?_) (fun h => absurd (rfl) h)
  exact hk I2 L2 hI

theorem law_fault {Inv : xF4 Int32 → xF4 Int64 → Prop} {S : Nat × (Nat → Int32)} {i : Nat} (hi : i + 5 ≤ S.1) (hL : S.1 ≤ 2560) (hk : ∀ I L, Inv I L → Wp 21 109 (m_law S) 1309 [some (vR 99 0 0), some (vR 0 0 0), some (vR 30 0 0), some (vI (nI i))] [] (rM I L) (fun v _ => v = some (vI 1))) {I : xF4 Int32} {L : xF4 Int64} (h : SimI Inv m_X10_fault m_X11_fault [] I L) : Wp 21 109 (m_law S) 255 [some (vR 99 0 0), some (vR 0 0 0), some (vR 30 0 0), some (vI (nI i))] [] (rM I L) (fun v _ => v = some (vI 1)) := by
  obtain ⟨x, P, h1, h2⟩ := h
  refine w_aload_n dL_law_255 rfl ?_
  refine w_callV (as := []) (st := []) (Tri.mono (h1) (Nat.le_of_ble_eq_true rfl)) rfl rfl tg_X10_fault lk_RL_27 in_X10_fault se_X10_fault rfl dL_law_256 rfl (Nat.le_of_ble_eq_true rfl) (Nat.le_refl _) (Nat.le_refl _) ?_
  rintro _ _ ⟨rfl, I1, L1, rfl, hP⟩ -
  refine w_aload_n dL_law_259 rfl ?_
  refine w_callV (as := []) (st := [vI (x)]) (Tri.mono (h2 I1 L1 hP) (Nat.le_of_ble_eq_true rfl)) rfl rfl tg_X11_fault lk_RL_30 in_X11_fault se_X11_fault rfl dL_law_260 rfl (Nat.le_of_ble_eq_true rfl) (Nat.le_refl _) (Nat.le_refl _) ?_
  rintro _ _ ⟨rfl, I2, L2, rfl, hI⟩ -
  refine w_icmp_eq (tgt := 1309) dL_law_263 (by decide) (fun _ => ?_) (fun h => absurd (rfl) h)
  exact hk I2 L2 hI

theorem law_rule {Inv : xF4 Int32 → xF4 Int64 → Prop} {S : Nat × (Nat → Int32)} {i : Nat} (hi : i + 5 ≤ S.1) (hL : S.1 ≤ 2560) (hk : ∀ I L, Inv I L → Wp 21 109 (m_law S) 1309 [some (vR 99 0 0), some (vR 0 0 0), some (vR 30 0 0), some (vI (nI i))] [] (rM I L) (fun v _ => v = some (vI 1))) {I : xF4 Int32} {L : xF4 Int64} (h : SimI Inv m_X10_rule m_X11_rule [vI (S.2 (i + 1))] I L) : Wp 21 109 (m_law S) 268 [some (vR 99 0 0), some (vR 0 0 0), some (vR 30 0 0), some (vI (nI i))] [] (rM I L) (fun v _ => v = some (vI 1)) := by
  obtain ⟨x, P, h1, h2⟩ := h
  refine w_aload_n dL_law_268 rfl ?_
  refine w_aload_n dL_law_269 rfl ?_
  refine w_iload_n dL_law_270 rfl ?_
  refine w_iconst (v := 1) dL_law_271 (by decide) ?_
  refine w_iadd dL_law_272 ?_
  rw [show ((nI i) + (1) : Int32) = nI (i + 1) from nI_add i 1]
  refine w_sld (a := i + 1) rfl (vp_in_nI (by omega) (by omega)) (nI_clamp (by omega)) dL_law_273 ?_
  refine w_callV (as := [vI (S.2 (i + 1))]) (st := []) (Tri.mono (h1) (Nat.le_of_ble_eq_true rfl)) rfl rfl tg_X10_rule lk_RL_31 in_X10_rule se_X10_rule rfl dL_law_274 rfl (Nat.le_of_ble_eq_true rfl) (Nat.le_refl _) (Nat.le_refl _) ?_
  rintro _ _ ⟨rfl, I1, L1, rfl, hP⟩ -
  refine w_aload_n dL_law_277 rfl ?_
  refine w_aload_n dL_law_278 rfl ?_
  refine w_iload_n dL_law_279 rfl ?_
  refine w_iconst (v := 1) dL_law_280 (by decide) ?_
  refine w_iadd dL_law_281 ?_
  rw [show ((nI i) + (1) : Int32) = nI (i + 1) from nI_add i 1]
  refine w_sld (a := i + 1) rfl (vp_in_nI (by omega) (by omega)) (nI_clamp (by omega)) dL_law_282 ?_
  refine w_callV (as := [vI (S.2 (i + 1))]) (st := [vI (x)]) (Tri.mono (h2 I1 L1 hP) (Nat.le_of_ble_eq_true rfl)) rfl rfl tg_X11_rule lk_RL_34 in_X11_rule se_X11_rule rfl dL_law_283 rfl (Nat.le_of_ble_eq_true rfl) (Nat.le_refl _) (Nat.le_refl _) ?_
  rintro _ _ ⟨rfl, I2, L2, rfl, hI⟩ -
  refine w_icmp_eq (tgt := 1309) dL_law_286 (by decide) (fun _ => ?_) (fun h => absurd (rfl) h)
  exact hk I2 L2 hI

theorem law_judge {Inv : xF4 Int32 → xF4 Int64 → Prop} {S : Nat × (Nat → Int32)} {i : Nat} (hi : i + 5 ≤ S.1) (hL : S.1 ≤ 2560) (hk : ∀ I L, Inv I L → Wp 21 109 (m_law S) 1309 [some (vR 99 0 0), some (vR 0 0 0), some (vR 30 0 0), some (vI (nI i))] [] (rM I L) (fun v _ => v = some (vI 1))) {I : xF4 Int32} {L : xF4 Int64} (h : SimI Inv m_X10_judge m_X11_judge [vI (S.2 (i + 1)), vI (S.2 (i + 2))] I L) : Wp 21 109 (m_law S) 291 [some (vR 99 0 0), some (vR 0 0 0), some (vR 30 0 0), some (vI (nI i))] [] (rM I L) (fun v _ => v = some (vI 1)) := by
  obtain ⟨x, P, h1, h2⟩ := h
  refine w_aload_n dL_law_291 rfl ?_
  refine w_aload_n dL_law_292 rfl ?_
  refine w_iload_n dL_law_293 rfl ?_
  refine w_iconst (v := 1) dL_law_294 (by decide) ?_
  refine w_iadd dL_law_295 ?_
  rw [show ((nI i) + (1) : Int32) = nI (i + 1) from nI_add i 1]
  refine w_sld (a := i + 1) rfl (vp_in_nI (by omega) (by omega)) (nI_clamp (by omega)) dL_law_296 ?_
  refine w_aload_n dL_law_297 rfl ?_
  refine w_iload_n dL_law_298 rfl ?_
  refine w_iconst (v := 2) dL_law_299 (by decide) ?_
  refine w_iadd dL_law_300 ?_
  rw [show ((nI i) + (2) : Int32) = nI (i + 2) from nI_add i 2]
  refine w_sld (a := i + 2) rfl (vp_in_nI (by omega) (by omega)) (nI_clamp (by omega)) dL_law_301 ?_
  refine w_callV (as := [vI (S.2 (i + 1)), vI (S.2 (i + 2))]) (st := []) (Tri.mono (h1) (Nat.le_of_ble_eq_true rfl)) rfl rfl tg_X10_judge lk_RL_35 in_X10_judge se_X10_judge rfl dL_law_302 rfl (Nat.le_of_ble_eq_true rfl) (Nat.le_refl _) (Nat.le_refl _) ?_
  rintro _ _ ⟨rfl, I1, L1, rfl, hP⟩ -
  refine w_aload_n dL_law_305 rfl ?_
  refine w_aload_n dL_law_306 rfl ?_
  refine w_iload_n dL_law_307 rfl ?_
  refine w_iconst (v := 1) dL_law_308 (by decide) ?_
  refine w_iadd dL_law_309 ?_
  rw [show ((nI i) + (1) : Int32) = nI (i + 1) from nI_add i 1]
  refine w_sld (a := i + 1) rfl (vp_in_nI (by omega) (by omega)) (nI_clamp (by omega)) dL_law_310 ?_
  refine w_aload_n dL_law_311 rfl ?_
  refine w_iload_n dL_law_312 rfl ?_
  refine w_iconst (v := 2) dL_law_313 (by decide) ?_
  refine w_iadd dL_law_314 ?_
  rw [show ((nI i) + (2) : Int32) = nI (i + 2) from nI_add i 2]
  refine w_sld (a := i + 2) rfl (vp_in_nI (by omega) (by omega)) (nI_clamp (by omega)) dL_law_315 ?_
  refine w_callV (as := [vI (S.2 (i + 1)), vI (S.2 (i + 2))]) (st := [vI (x)]) (Tri.mono (h2 I1 L1 hP) (Nat.le_of_ble_eq_true rfl)) rfl rfl tg_X11_judge lk_RL_39 in_X11_judge se_X11_judge rfl dL_law_316 rfl (Nat.le_of_ble_eq_true rfl) (Nat.le_refl _) (Nat.le_refl _) ?_
  rintro _ _ ⟨rfl, I2, L2, rfl, hI⟩ -
  refine w_icmp_eq (tgt := 1309) dL_law_319 (by decide) (fun _ => ?_) (fun h => absurd (rfl) h)
  exact hk I2 L2 hI

theorem law_suit {Inv : xF4 Int32 → xF4 Int64 → Prop} {S : Nat × (Nat → Int32)} {i : Nat} (hi : i + 5 ≤ S.1) (hL : S.1 ≤ 2560) (hk : ∀ I L, Inv I L → Wp 21 109 (m_law S) 1309 [some (vR 99 0 0), some (vR 0 0 0), some (vR 30 0 0), some (vI (nI i))] [] (rM I L) (fun v _ => v = some (vI 1))) {I : xF4 Int32} {L : xF4 Int64} (h : SimI Inv m_X10_suit m_X11_suit [vI (S.2 (i + 1)), vI (S.2 (i + 2))] I L) : Wp 21 109 (m_law S) 324 [some (vR 99 0 0), some (vR 0 0 0), some (vR 30 0 0), some (vI (nI i))] [] (rM I L) (fun v _ => v = some (vI 1)) := by
  obtain ⟨x, P, h1, h2⟩ := h
  refine w_aload_n dL_law_324 rfl ?_
  refine w_aload_n dL_law_325 rfl ?_
  refine w_iload_n dL_law_326 rfl ?_
  refine w_iconst (v := 1) dL_law_327 (by decide) ?_
  refine w_iadd dL_law_328 ?_
  rw [show ((nI i) + (1) : Int32) = nI (i + 1) from nI_add i 1]
  refine w_sld (a := i + 1) rfl (vp_in_nI (by omega) (by omega)) (nI_clamp (by omega)) dL_law_329 ?_
  refine w_aload_n dL_law_330 rfl ?_
  refine w_iload_n dL_law_331 rfl ?_
  refine w_iconst (v := 2) dL_law_332 (by decide) ?_
  refine w_iadd dL_law_333 ?_
  rw [show ((nI i) + (2) : Int32) = nI (i + 2) from nI_add i 2]
  refine w_sld (a := i + 2) rfl (vp_in_nI (by omega) (by omega)) (nI_clamp (by omega)) dL_law_334 ?_
  refine w_callV (as := [vI (S.2 (i + 1)), vI (S.2 (i + 2))]) (st := []) (Tri.mono (h1) (Nat.le_of_ble_eq_true rfl)) rfl rfl tg_X10_suit lk_RL_40 in_X10_suit se_X10_suit rfl dL_law_335 rfl (Nat.le_of_ble_eq_true rfl) (Nat.le_refl _) (Nat.le_refl _) ?_
  rintro _ _ ⟨rfl, I1, L1, rfl, hP⟩ -
  refine w_aload_n dL_law_338 rfl ?_
  refine w_aload_n dL_law_339 rfl ?_
  refine w_iload_n dL_law_340 rfl ?_
  refine w_iconst (v := 1) dL_law_341 (by decide) ?_
  refine w_iadd dL_law_342 ?_
  rw [show ((nI i) + (1) : Int32) = nI (i + 1) from nI_add i 1]
  refine w_sld (a := i + 1) rfl (vp_in_nI (by omega) (by omega)) (nI_clamp (by omega)) dL_law_343 ?_
  refine w_aload_n dL_law_344 rfl ?_
  refine w_iload_n dL_law_345 rfl ?_
  refine w_iconst (v := 2) dL_law_346 (by decide) ?_
  refine w_iadd dL_law_347 ?_
  rw [show ((nI i) + (2) : Int32) = nI (i + 2) from nI_add i 2]
  refine w_sld (a := i + 2) rfl (vp_in_nI (by omega) (by omega)) (nI_clamp (by omega)) dL_law_348 ?_
  refine w_callV (as := [vI (S.2 (i + 1)), vI (S.2 (i + 2))]) (st := [vI (x)]) (Tri.mono (h2 I1 L1 hP) (Nat.le_of_ble_eq_true rfl)) rfl rfl tg_X11_suit lk_RL_43 in_X11_suit se_X11_suit rfl dL_law_349 rfl (Nat.le_of_ble_eq_true rfl) (Nat.le_refl _) (Nat.le_refl _) ?_
  rintro _ _ ⟨rfl, I2, L2, rfl, hI⟩ -
  refine w_icmp_eq (tgt := 1309) dL_law_352 (by decide) (fun _ => ?_) (fun h => absurd (rfl) h)
  exact hk I2 L2 hI

theorem law_tenth {Inv : xF4 Int32 → xF4 Int64 → Prop} {S : Nat × (Nat → Int32)} {i : Nat} (hi : i + 5 ≤ S.1) (hL : S.1 ≤ 2560) (hk : ∀ I L, Inv I L → Wp 21 109 (m_law S) 1309 [some (vR 99 0 0), some (vR 0 0 0), some (vR 30 0 0), some (vI (nI i))] [] (rM I L) (fun v _ => v = some (vI 1))) {I : xF4 Int32} {L : xF4 Int64} (h : SimI Inv m_X10_tenth m_X11_tenth [vI (S.2 (i + 1)), vI (S.2 (i + 2))] I L) : Wp 21 109 (m_law S) 357 [some (vR 99 0 0), some (vR 0 0 0), some (vR 30 0 0), some (vI (nI i))] [] (rM I L) (fun v _ => v = some (vI 1)) := by
  obtain ⟨x, P, h1, h2⟩ := h
  refine w_aload_n dL_law_357 rfl ?_
  refine w_aload_n dL_law_358 rfl ?_
  refine w_iload_n dL_law_359 rfl ?_
  refine w_iconst (v := 1) dL_law_360 (by decide) ?_
  refine w_iadd dL_law_361 ?_
  rw [show ((nI i) + (1) : Int32) = nI (i + 1) from nI_add i 1]
  refine w_sld (a := i + 1) rfl (vp_in_nI (by omega) (by omega)) (nI_clamp (by omega)) dL_law_362 ?_
  refine w_aload_n dL_law_363 rfl ?_
  refine w_iload_n dL_law_364 rfl ?_
  refine w_iconst (v := 2) dL_law_365 (by decide) ?_
  refine w_iadd dL_law_366 ?_
  rw [show ((nI i) + (2) : Int32) = nI (i + 2) from nI_add i 2]
  refine w_sld (a := i + 2) rfl (vp_in_nI (by omega) (by omega)) (nI_clamp (by omega)) dL_law_367 ?_
  refine w_callV (as := [vI (S.2 (i + 1)), vI (S.2 (i + 2))]) (st := []) (Tri.mono (h1) (Nat.le_of_ble_eq_true rfl)) rfl rfl tg_X10_tenth lk_RL_44 in_X10_tenth se_X10_tenth rfl dL_law_368 rfl (Nat.le_of_ble_eq_true rfl) (Nat.le_refl _) (Nat.le_refl _) ?_
  rintro _ _ ⟨rfl, I1, L1, rfl, hP⟩ -
  refine w_aload_n dL_law_371 rfl ?_
  refine w_aload_n dL_law_372 rfl ?_
  refine w_iload_n dL_law_373 rfl ?_
  refine w_iconst (v := 1) dL_law_374 (by decide) ?_
  refine w_iadd dL_law_375 ?_
  rw [show ((nI i) + (1) : Int32) = nI (i + 1) from nI_add i 1]
  refine w_sld (a := i + 1) rfl (vp_in_nI (by omega) (by omega)) (nI_clamp (by omega)) dL_law_376 ?_
  refine w_aload_n dL_law_377 rfl ?_
  refine w_iload_n dL_law_378 rfl ?_
  refine w_iconst (v := 2) dL_law_379 (by decide) ?_
  refine w_iadd dL_law_380 ?_
  rw [show ((nI i) + (2) : Int32) = nI (i + 2) from nI_add i 2]
  refine w_sld (a := i + 2) rfl (vp_in_nI (by omega) (by omega)) (nI_clamp (by omega)) dL_law_381 ?_
  refine w_callV (as := [vI (S.2 (i + 1)), vI (S.2 (i + 2))]) (st := [vI (x)]) (Tri.mono (h2 I1 L1 hP) (Nat.le_of_ble_eq_true rfl)) rfl rfl tg_X11_tenth lk_RL_47 in_X11_tenth se_X11_tenth rfl dL_law_382 rfl (Nat.le_of_ble_eq_true rfl) (Nat.le_refl _) (Nat.le_refl _) ?_
  rintro _ _ ⟨rfl, I2, L2, rfl, hI⟩ -
  refine w_icmp_eq (tgt := 1309) dL_law_385 (by decide) (fun _ => ?_) (fun h => absurd (rfl) h)
  exact hk I2 L2 hI

theorem law_alter {Inv : xF4 Int32 → xF4 Int64 → Prop} {S : Nat × (Nat → Int32)} {i : Nat} (hi : i + 5 ≤ S.1) (hL : S.1 ≤ 2560) (hk : ∀ I L, Inv I L → Wp 21 109 (m_law S) 1309 [some (vR 99 0 0), some (vR 0 0 0), some (vR 30 0 0), some (vI (nI i))] [] (rM I L) (fun v _ => v = some (vI 1))) {I : xF4 Int32} {L : xF4 Int64} (h : SimI Inv m_X10_alter m_X11_alter [vI (S.2 (i + 1)), vI (S.2 (i + 2)), vI (S.2 (i + 3))] I L) : Wp 21 109 (m_law S) 390 [some (vR 99 0 0), some (vR 0 0 0), some (vR 30 0 0), some (vI (nI i))] [] (rM I L) (fun v _ => v = some (vI 1)) := by
  obtain ⟨x, P, h1, h2⟩ := h
  refine w_aload_n dL_law_390 rfl ?_
  refine w_aload_n dL_law_391 rfl ?_
  refine w_iload_n dL_law_392 rfl ?_
  refine w_iconst (v := 1) dL_law_393 (by decide) ?_
  refine w_iadd dL_law_394 ?_
  rw [show ((nI i) + (1) : Int32) = nI (i + 1) from nI_add i 1]
  refine w_sld (a := i + 1) rfl (vp_in_nI (by omega) (by omega)) (nI_clamp (by omega)) dL_law_395 ?_
  refine w_aload_n dL_law_396 rfl ?_
  refine w_iload_n dL_law_397 rfl ?_
  refine w_iconst (v := 2) dL_law_398 (by decide) ?_
  refine w_iadd dL_law_399 ?_
  rw [show ((nI i) + (2) : Int32) = nI (i + 2) from nI_add i 2]
  refine w_sld (a := i + 2) rfl (vp_in_nI (by omega) (by omega)) (nI_clamp (by omega)) dL_law_400 ?_
  refine w_aload_n dL_law_401 rfl ?_
  refine w_iload_n dL_law_402 rfl ?_
  refine w_iconst (v := 3) dL_law_403 (by decide) ?_
  refine w_iadd dL_law_404 ?_
  rw [show ((nI i) + (3) : Int32) = nI (i + 3) from nI_add i 3]
  refine w_sld (a := i + 3) rfl (vp_in_nI (by omega) (by omega)) (nI_clamp (by omega)) dL_law_405 ?_
  refine w_callV (as := [vI (S.2 (i + 1)), vI (S.2 (i + 2)), vI (S.2 (i + 3))]) (st := []) (Tri.mono (h1) (Nat.le_of_ble_eq_true rfl)) rfl rfl tg_X10_alter lk_RL_48 in_X10_alter se_X10_alter rfl dL_law_406 rfl (Nat.le_of_ble_eq_true rfl) (Nat.le_refl _) (Nat.le_refl _) ?_
  rintro _ _ ⟨rfl, I1, L1, rfl, hP⟩ -
  refine w_aload_n dL_law_409 rfl ?_
  refine w_aload_n dL_law_410 rfl ?_
  refine w_iload_n dL_law_411 rfl ?_
  refine w_iconst (v := 1) dL_law_412 (by decide) ?_
  refine w_iadd dL_law_413 ?_
  rw [show ((nI i) + (1) : Int32) = nI (i + 1) from nI_add i 1]
  refine w_sld (a := i + 1) rfl (vp_in_nI (by omega) (by omega)) (nI_clamp (by omega)) dL_law_414 ?_
  refine w_aload_n dL_law_415 rfl ?_
  refine w_iload_n dL_law_416 rfl ?_
  refine w_iconst (v := 2) dL_law_417 (by decide) ?_
  refine w_iadd dL_law_418 ?_
  rw [show ((nI i) + (2) : Int32) = nI (i + 2) from nI_add i 2]
  refine w_sld (a := i + 2) rfl (vp_in_nI (by omega) (by omega)) (nI_clamp (by omega)) dL_law_419 ?_
  refine w_aload_n dL_law_420 rfl ?_
  refine w_iload_n dL_law_421 rfl ?_
  refine w_iconst (v := 3) dL_law_422 (by decide) ?_
  refine w_iadd dL_law_423 ?_
  rw [show ((nI i) + (3) : Int32) = nI (i + 3) from nI_add i 3]
  refine w_sld (a := i + 3) rfl (vp_in_nI (by omega) (by omega)) (nI_clamp (by omega)) dL_law_424 ?_
  refine w_callV (as := [vI (S.2 (i + 1)), vI (S.2 (i + 2)), vI (S.2 (i + 3))]) (st := [vI (x)]) (Tri.mono (h2 I1 L1 hP) (Nat.le_of_ble_eq_true rfl)) rfl rfl tg_X11_alter lk_RL_52 in_X11_alter se_X11_alter rfl dL_law_425 rfl (Nat.le_of_ble_eq_true rfl) (Nat.le_refl _) (Nat.le_refl _) ?_
  rintro _ _ ⟨rfl, I2, L2, rfl, hI⟩ -
  refine w_icmp_eq (tgt := 1309) dL_law_428 (by decide) (fun _ => ?_) (fun h => absurd (rfl) h)
  exact hk I2 L2 hI

theorem law_amend {Inv : xF4 Int32 → xF4 Int64 → Prop} {S : Nat × (Nat → Int32)} {i : Nat} (hi : i + 5 ≤ S.1) (hL : S.1 ≤ 2560) (hk : ∀ I L, Inv I L → Wp 21 109 (m_law S) 1309 [some (vR 99 0 0), some (vR 0 0 0), some (vR 30 0 0), some (vI (nI i))] [] (rM I L) (fun v _ => v = some (vI 1))) {I : xF4 Int32} {L : xF4 Int64} (h : SimI Inv m_X10_amend m_X11_amend [vI (S.2 (i + 1)), vI (S.2 (i + 2)), vI (S.2 (i + 3))] I L) : Wp 21 109 (m_law S) 433 [some (vR 99 0 0), some (vR 0 0 0), some (vR 30 0 0), some (vI (nI i))] [] (rM I L) (fun v _ => v = some (vI 1)) := by
  obtain ⟨x, P, h1, h2⟩ := h
  refine w_aload_n dL_law_433 rfl ?_
  refine w_aload_n dL_law_434 rfl ?_
  refine w_iload_n dL_law_435 rfl ?_
  refine w_iconst (v := 1) dL_law_436 (by decide) ?_
  refine w_iadd dL_law_437 ?_
  rw [show ((nI i) + (1) : Int32) = nI (i + 1) from nI_add i 1]
  refine w_sld (a := i + 1) rfl (vp_in_nI (by omega) (by omega)) (nI_clamp (by omega)) dL_law_438 ?_
  refine w_aload_n dL_law_439 rfl ?_
  refine w_iload_n dL_law_440 rfl ?_
  refine w_iconst (v := 2) dL_law_441 (by decide) ?_
  refine w_iadd dL_law_442 ?_
  rw [show ((nI i) + (2) : Int32) = nI (i + 2) from nI_add i 2]
  refine w_sld (a := i + 2) rfl (vp_in_nI (by omega) (by omega)) (nI_clamp (by omega)) dL_law_443 ?_
  refine w_aload_n dL_law_444 rfl ?_
  refine w_iload_n dL_law_445 rfl ?_
  refine w_iconst (v := 3) dL_law_446 (by decide) ?_
  refine w_iadd dL_law_447 ?_
  rw [show ((nI i) + (3) : Int32) = nI (i + 3) from nI_add i 3]
  refine w_sld (a := i + 3) rfl (vp_in_nI (by omega) (by omega)) (nI_clamp (by omega)) dL_law_448 ?_
  refine w_callV (as := [vI (S.2 (i + 1)), vI (S.2 (i + 2)), vI (S.2 (i + 3))]) (st := []) (Tri.mono (h1) (Nat.le_of_ble_eq_true rfl)) rfl rfl tg_X10_amend lk_RL_53 in_X10_amend se_X10_amend rfl dL_law_449 rfl (Nat.le_of_ble_eq_true rfl) (Nat.le_refl _) (Nat.le_refl _) ?_
  rintro _ _ ⟨rfl, I1, L1, rfl, hP⟩ -
  refine w_aload_n dL_law_452 rfl ?_
  refine w_aload_n dL_law_453 rfl ?_
  refine w_iload_n dL_law_454 rfl ?_
  refine w_iconst (v := 1) dL_law_455 (by decide) ?_
  refine w_iadd dL_law_456 ?_
  rw [show ((nI i) + (1) : Int32) = nI (i + 1) from nI_add i 1]
  refine w_sld (a := i + 1) rfl (vp_in_nI (by omega) (by omega)) (nI_clamp (by omega)) dL_law_457 ?_
  refine w_aload_n dL_law_458 rfl ?_
  refine w_iload_n dL_law_459 rfl ?_
  refine w_iconst (v := 2) dL_law_460 (by decide) ?_
  refine w_iadd dL_law_461 ?_
  rw [show ((nI i) + (2) : Int32) = nI (i + 2) from nI_add i 2]
  refine w_sld (a := i + 2) rfl (vp_in_nI (by omega) (by omega)) (nI_clamp (by omega)) dL_law_462 ?_
  refine w_aload_n dL_law_463 rfl ?_
  refine w_iload_n dL_law_464 rfl ?_
  refine w_iconst (v := 3) dL_law_465 (by decide) ?_
  refine w_iadd dL_law_466 ?_
  rw [show ((nI i) + (3) : Int32) = nI (i + 3) from nI_add i 3]
  refine w_sld (a := i + 3) rfl (vp_in_nI (by omega) (by omega)) (nI_clamp (by omega)) dL_law_467 ?_
  refine w_callV (as := [vI (S.2 (i + 1)), vI (S.2 (i + 2)), vI (S.2 (i + 3))]) (st := [vI (x)]) (Tri.mono (h2 I1 L1 hP) (Nat.le_of_ble_eq_true rfl)) rfl rfl tg_X11_amend lk_RL_56 in_X11_amend se_X11_amend rfl dL_law_468 rfl (Nat.le_of_ble_eq_true rfl) (Nat.le_refl _) (Nat.le_refl _) ?_
  rintro _ _ ⟨rfl, I2, L2, rfl, hI⟩ -
  refine w_icmp_eq (tgt := 1309) dL_law_471 (by decide) (fun _ => ?_) (fun h => absurd (rfl) h)
  exact hk I2 L2 hI

theorem law_crime {Inv : xF4 Int32 → xF4 Int64 → Prop} {S : Nat × (Nat → Int32)} {i : Nat} (hi : i + 5 ≤ S.1) (hL : S.1 ≤ 2560) (hk : ∀ I L, Inv I L → Wp 21 109 (m_law S) 1309 [some (vR 99 0 0), some (vR 0 0 0), some (vR 30 0 0), some (vI (nI i))] [] (rM I L) (fun v _ => v = some (vI 1))) {I : xF4 Int32} {L : xF4 Int64} (h : SimI Inv m_X10_crime m_X11_crime [vI (S.2 (i + 1))] I L) : Wp 21 109 (m_law S) 476 [some (vR 99 0 0), some (vR 0 0 0), some (vR 30 0 0), some (vI (nI i))] [] (rM I L) (fun v _ => v = some (vI 1)) := by
  obtain ⟨x, P, h1, h2⟩ := h
  refine w_aload_n dL_law_476 rfl ?_
  refine w_aload_n dL_law_477 rfl ?_
  refine w_iload_n dL_law_478 rfl ?_
  refine w_iconst (v := 1) dL_law_479 (by decide) ?_
  refine w_iadd dL_law_480 ?_
  rw [show ((nI i) + (1) : Int32) = nI (i + 1) from nI_add i 1]
  refine w_sld (a := i + 1) rfl (vp_in_nI (by omega) (by omega)) (nI_clamp (by omega)) dL_law_481 ?_
  refine w_callV (as := [vI (S.2 (i + 1))]) (st := []) (Tri.mono (h1) (Nat.le_of_ble_eq_true rfl)) rfl rfl tg_X10_crime lk_RL_57 in_X10_crime se_X10_crime rfl dL_law_482 rfl (Nat.le_of_ble_eq_true rfl) (Nat.le_refl _) (Nat.le_refl _) ?_
  rintro _ _ ⟨rfl, I1, L1, rfl, hP⟩ -
  refine w_aload_n dL_law_485 rfl ?_
  refine w_aload_n dL_law_486 rfl ?_
  refine w_iload_n dL_law_487 rfl ?_
  refine w_iconst (v := 1) dL_law_488 (by decide) ?_
  refine w_iadd dL_law_489 ?_
  rw [show ((nI i) + (1) : Int32) = nI (i + 1) from nI_add i 1]
  refine w_sld (a := i + 1) rfl (vp_in_nI (by omega) (by omega)) (nI_clamp (by omega)) dL_law_490 ?_
  refine w_callV (as := [vI (S.2 (i + 1))]) (st := [vI (x)]) (Tri.mono (h2 I1 L1 hP) (Nat.le_of_ble_eq_true rfl)) rfl rfl tg_X11_crime lk_RL_60 in_X11_crime se_X11_crime rfl dL_law_491 rfl (Nat.le_of_ble_eq_true rfl) (Nat.le_refl _) (Nat.le_refl _) ?_
  rintro _ _ ⟨rfl, I2, L2, rfl, hI⟩ -
  refine w_icmp_eq (tgt := 1309) dL_law_494 (by decide) (fun _ => ?_) (fun h => absurd (rfl) h)
  exact hk I2 L2 hI

theorem law_can {Inv : xF4 Int32 → xF4 Int64 → Prop} {S : Nat × (Nat → Int32)} {i : Nat} (hi : i + 5 ≤ S.1) (hL : S.1 ≤ 2560) (hk : ∀ I L, Inv I L → Wp 21 109 (m_law S) 1309 [some (vR 99 0 0), some (vR 0 0 0), some (vR 30 0 0), some (vI (nI i))] [] (rM I L) (fun v _ => v = some (vI 1))) {I : xF4 Int32} {L : xF4 Int64} (h : SimI Inv m_X10_can m_X11_can [vI (S.2 (i + 1)), vI (S.2 (i + 2))] I L) : Wp 21 109 (m_law S) 499 [some (vR 99 0 0), some (vR 0 0 0), some (vR 30 0 0), some (vI (nI i))] [] (rM I L) (fun v _ => v = some (vI 1)) := by
  obtain ⟨x, P, h1, h2⟩ := h
  refine w_aload_n dL_law_499 rfl ?_
  refine w_aload_n dL_law_500 rfl ?_
  refine w_iload_n dL_law_501 rfl ?_
  refine w_iconst (v := 1) dL_law_502 (by decide) ?_
  refine w_iadd dL_law_503 ?_
  rw [show ((nI i) + (1) : Int32) = nI (i + 1) from nI_add i 1]
  refine w_sld (a := i + 1) rfl (vp_in_nI (by omega) (by omega)) (nI_clamp (by omega)) dL_law_504 ?_
  refine w_aload_n dL_law_505 rfl ?_
  refine w_iload_n dL_law_506 rfl ?_
  refine w_iconst (v := 2) dL_law_507 (by decide) ?_
  refine w_iadd dL_law_508 ?_
  rw [show ((nI i) + (2) : Int32) = nI (i + 2) from nI_add i 2]
  refine w_sld (a := i + 2) rfl (vp_in_nI (by omega) (by omega)) (nI_clamp (by omega)) dL_law_509 ?_
  refine w_callV (as := [vI (S.2 (i + 1)), vI (S.2 (i + 2))]) (st := []) (Tri.mono (h1) (Nat.le_of_ble_eq_true rfl)) rfl rfl tg_X10_can lk_RL_61 in_X10_can se_X10_can rfl dL_law_510 rfl (Nat.le_of_ble_eq_true rfl) (Nat.le_refl _) (Nat.le_refl _) ?_
  rintro _ _ ⟨rfl, I1, L1, rfl, hP⟩ -
  refine w_aload_n dL_law_513 rfl ?_
  refine w_aload_n dL_law_514 rfl ?_
  refine w_iload_n dL_law_515 rfl ?_
  refine w_iconst (v := 1) dL_law_516 (by decide) ?_
  refine w_iadd dL_law_517 ?_
  rw [show ((nI i) + (1) : Int32) = nI (i + 1) from nI_add i 1]
  refine w_sld (a := i + 1) rfl (vp_in_nI (by omega) (by omega)) (nI_clamp (by omega)) dL_law_518 ?_
  refine w_aload_n dL_law_519 rfl ?_
  refine w_iload_n dL_law_520 rfl ?_
  refine w_iconst (v := 2) dL_law_521 (by decide) ?_
  refine w_iadd dL_law_522 ?_
  rw [show ((nI i) + (2) : Int32) = nI (i + 2) from nI_add i 2]
  refine w_sld (a := i + 2) rfl (vp_in_nI (by omega) (by omega)) (nI_clamp (by omega)) dL_law_523 ?_
  refine w_callV (as := [vI (S.2 (i + 1)), vI (S.2 (i + 2))]) (st := [vI (x)]) (Tri.mono (h2 I1 L1 hP) (Nat.le_of_ble_eq_true rfl)) rfl rfl tg_X11_can lk_RL_64 in_X11_can se_X11_can rfl dL_law_524 rfl (Nat.le_of_ble_eq_true rfl) (Nat.le_refl _) (Nat.le_refl _) ?_
  rintro _ _ ⟨rfl, I2, L2, rfl, hI⟩ -
  refine w_icmp_eq (tgt := 1309) dL_law_527 (by decide) (fun _ => ?_) (fun h => absurd (rfl) h)
  exact hk I2 L2 hI

theorem law_give {Inv : xF4 Int32 → xF4 Int64 → Prop} {S : Nat × (Nat → Int32)} {i : Nat} (hi : i + 5 ≤ S.1) (hL : S.1 ≤ 2560) (hk : ∀ I L, Inv I L → Wp 21 109 (m_law S) 1309 [some (vR 99 0 0), some (vR 0 0 0), some (vR 30 0 0), some (vI (nI i))] [] (rM I L) (fun v _ => v = some (vI 1))) {I : xF4 Int32} {L : xF4 Int64} (h : SimI Inv m_X10_give m_X11_give [vI (S.2 (i + 1)), vI (S.2 (i + 2)), vI (S.2 (i + 3))] I L) : Wp 21 109 (m_law S) 532 [some (vR 99 0 0), some (vR 0 0 0), some (vR 30 0 0), some (vI (nI i))] [] (rM I L) (fun v _ => v = some (vI 1)) := by
  obtain ⟨x, P, h1, h2⟩ := h
  refine w_aload_n dL_law_532 rfl ?_
  refine w_aload_n dL_law_533 rfl ?_
  refine w_iload_n dL_law_534 rfl ?_
  refine w_iconst (v := 1) dL_law_535 (by decide) ?_
  refine w_iadd dL_law_536 ?_
  rw [show ((nI i) + (1) : Int32) = nI (i + 1) from nI_add i 1]
  refine w_sld (a := i + 1) rfl (vp_in_nI (by omega) (by omega)) (nI_clamp (by omega)) dL_law_537 ?_
  refine w_aload_n dL_law_538 rfl ?_
  refine w_iload_n dL_law_539 rfl ?_
  refine w_iconst (v := 2) dL_law_540 (by decide) ?_
  refine w_iadd dL_law_541 ?_
  rw [show ((nI i) + (2) : Int32) = nI (i + 2) from nI_add i 2]
  refine w_sld (a := i + 2) rfl (vp_in_nI (by omega) (by omega)) (nI_clamp (by omega)) dL_law_542 ?_
  refine w_aload_n dL_law_543 rfl ?_
  refine w_iload_n dL_law_544 rfl ?_
  refine w_iconst (v := 3) dL_law_545 (by decide) ?_
  refine w_iadd dL_law_546 ?_
  rw [show ((nI i) + (3) : Int32) = nI (i + 3) from nI_add i 3]
  refine w_sld (a := i + 3) rfl (vp_in_nI (by omega) (by omega)) (nI_clamp (by omega)) dL_law_547 ?_
  refine w_callV (as := [vI (S.2 (i + 1)), vI (S.2 (i + 2)), vI (S.2 (i + 3))]) (st := []) (Tri.mono (h1) (Nat.le_of_ble_eq_true rfl)) rfl rfl tg_X10_give lk_RL_65 in_X10_give se_X10_give rfl dL_law_548 rfl (Nat.le_of_ble_eq_true rfl) (Nat.le_refl _) (Nat.le_refl _) ?_
  rintro _ _ ⟨rfl, I1, L1, rfl, hP⟩ -
  refine w_aload_n dL_law_551 rfl ?_
  refine w_aload_n dL_law_552 rfl ?_
  refine w_iload_n dL_law_553 rfl ?_
  refine w_iconst (v := 1) dL_law_554 (by decide) ?_
  refine w_iadd dL_law_555 ?_
  rw [show ((nI i) + (1) : Int32) = nI (i + 1) from nI_add i 1]
  refine w_sld (a := i + 1) rfl (vp_in_nI (by omega) (by omega)) (nI_clamp (by omega)) dL_law_556 ?_
  refine w_aload_n dL_law_557 rfl ?_
  refine w_iload_n dL_law_558 rfl ?_
  refine w_iconst (v := 2) dL_law_559 (by decide) ?_
  refine w_iadd dL_law_560 ?_
  rw [show ((nI i) + (2) : Int32) = nI (i + 2) from nI_add i 2]
  refine w_sld (a := i + 2) rfl (vp_in_nI (by omega) (by omega)) (nI_clamp (by omega)) dL_law_561 ?_
  refine w_aload_n dL_law_562 rfl ?_
  refine w_iload_n dL_law_563 rfl ?_
  refine w_iconst (v := 3) dL_law_564 (by decide) ?_
  refine w_iadd dL_law_565 ?_
  rw [show ((nI i) + (3) : Int32) = nI (i + 3) from nI_add i 3]
  refine w_sld (a := i + 3) rfl (vp_in_nI (by omega) (by omega)) (nI_clamp (by omega)) dL_law_566 ?_
  refine w_callV (as := [vI (S.2 (i + 1)), vI (S.2 (i + 2)), vI (S.2 (i + 3))]) (st := [vI (x)]) (Tri.mono (h2 I1 L1 hP) (Nat.le_of_ble_eq_true rfl)) rfl rfl tg_X11_give lk_RL_68 in_X11_give se_X11_give rfl dL_law_567 rfl (Nat.le_of_ble_eq_true rfl) (Nat.le_refl _) (Nat.le_refl _) ?_
  rintro _ _ ⟨rfl, I2, L2, rfl, hI⟩ -
  refine w_icmp_eq (tgt := 1309) dL_law_570 (by decide) (fun _ => ?_) (fun h => absurd (rfl) h)
  exact hk I2 L2 hI

theorem law_appeal {Inv : xF4 Int32 → xF4 Int64 → Prop} {S : Nat × (Nat → Int32)} {i : Nat} (hi : i + 5 ≤ S.1) (hL : S.1 ≤ 2560) (hk : ∀ I L, Inv I L → Wp 21 109 (m_law S) 1309 [some (vR 99 0 0), some (vR 0 0 0), some (vR 30 0 0), some (vI (nI i))] [] (rM I L) (fun v _ => v = some (vI 1))) {I : xF4 Int32} {L : xF4 Int64} (h : SimI Inv m_X10_appeal m_X11_appeal [vI (S.2 (i + 1))] I L) : Wp 21 109 (m_law S) 575 [some (vR 99 0 0), some (vR 0 0 0), some (vR 30 0 0), some (vI (nI i))] [] (rM I L) (fun v _ => v = some (vI 1)) := by
  obtain ⟨x, P, h1, h2⟩ := h
  refine w_aload_n dL_law_575 rfl ?_
  refine w_aload_n dL_law_576 rfl ?_
  refine w_iload_n dL_law_577 rfl ?_
  refine w_iconst (v := 1) dL_law_578 (by decide) ?_
  refine w_iadd dL_law_579 ?_
  rw [show ((nI i) + (1) : Int32) = nI (i + 1) from nI_add i 1]
  refine w_sld (a := i + 1) rfl (vp_in_nI (by omega) (by omega)) (nI_clamp (by omega)) dL_law_580 ?_
  refine w_callV (as := [vI (S.2 (i + 1))]) (st := []) (Tri.mono (h1) (Nat.le_of_ble_eq_true rfl)) rfl rfl tg_X10_appeal lk_RL_69 in_X10_appeal se_X10_appeal rfl dL_law_581 rfl (Nat.le_of_ble_eq_true rfl) (Nat.le_refl _) (Nat.le_refl _) ?_
  rintro _ _ ⟨rfl, I1, L1, rfl, hP⟩ -
  refine w_aload_n dL_law_584 rfl ?_
  refine w_aload_n dL_law_585 rfl ?_
  refine w_iload_n dL_law_586 rfl ?_
  refine w_iconst (v := 1) dL_law_587 (by decide) ?_
  refine w_iadd dL_law_588 ?_
  rw [show ((nI i) + (1) : Int32) = nI (i + 1) from nI_add i 1]
  refine w_sld (a := i + 1) rfl (vp_in_nI (by omega) (by omega)) (nI_clamp (by omega)) dL_law_589 ?_
  refine w_callV (as := [vI (S.2 (i + 1))]) (st := [vI (x)]) (Tri.mono (h2 I1 L1 hP) (Nat.le_of_ble_eq_true rfl)) rfl rfl tg_X11_appeal lk_RL_72 in_X11_appeal se_X11_appeal rfl dL_law_590 rfl (Nat.le_of_ble_eq_true rfl) (Nat.le_refl _) (Nat.le_refl _) ?_
  rintro _ _ ⟨rfl, I2, L2, rfl, hI⟩ -
  refine w_icmp_eq (tgt := 1309) dL_law_593 (by decide) (fun _ => ?_) (fun h => absurd (rfl) h)
  exact hk I2 L2 hI

theorem law_days {Inv : xF4 Int32 → xF4 Int64 → Prop} {S : Nat × (Nat → Int32)} {i : Nat} (hi : i + 5 ≤ S.1) (hL : S.1 ≤ 2560) (hk : ∀ I L, Inv I L → Wp 21 109 (m_law S) 1309 [some (vR 99 0 0), some (vR 0 0 0), some (vR 30 0 0), some (vI (nI i))] [] (rM I L) (fun v _ => v = some (vI 1))) {I : xF4 Int32} {L : xF4 Int64} (h : SimI Inv m_X10_days m_X11_days [vI (S.2 (i + 1))] I L) : Wp 21 109 (m_law S) 598 [some (vR 99 0 0), some (vR 0 0 0), some (vR 30 0 0), some (vI (nI i))] [] (rM I L) (fun v _ => v = some (vI 1)) := by
  obtain ⟨x, P, h1, h2⟩ := h
  refine w_aload_n dL_law_598 rfl ?_
  refine w_aload_n dL_law_599 rfl ?_
  refine w_iload_n dL_law_600 rfl ?_
  refine w_iconst (v := 1) dL_law_601 (by decide) ?_
  refine w_iadd dL_law_602 ?_
  rw [show ((nI i) + (1) : Int32) = nI (i + 1) from nI_add i 1]
  refine w_sld (a := i + 1) rfl (vp_in_nI (by omega) (by omega)) (nI_clamp (by omega)) dL_law_603 ?_
  refine w_callV (as := [vI (S.2 (i + 1))]) (st := []) (Tri.mono (h1) (Nat.le_of_ble_eq_true rfl)) rfl rfl tg_X10_days lk_RL_73 in_X10_days se_X10_days rfl dL_law_604 rfl (Nat.le_of_ble_eq_true rfl) (Nat.le_refl _) (Nat.le_refl _) ?_
  rintro _ _ ⟨rfl, I1, L1, rfl, hP⟩ -
  refine w_aload_n dL_law_607 rfl ?_
  refine w_aload_n dL_law_608 rfl ?_
  refine w_iload_n dL_law_609 rfl ?_
  refine w_iconst (v := 1) dL_law_610 (by decide) ?_
  refine w_iadd dL_law_611 ?_
  rw [show ((nI i) + (1) : Int32) = nI (i + 1) from nI_add i 1]
  refine w_sld (a := i + 1) rfl (vp_in_nI (by omega) (by omega)) (nI_clamp (by omega)) dL_law_612 ?_
  refine w_callV (as := [vI (S.2 (i + 1))]) (st := [vI (x)]) (Tri.mono (h2 I1 L1 hP) (Nat.le_of_ble_eq_true rfl)) rfl rfl tg_X11_days lk_RL_76 in_X11_days se_X11_days rfl dL_law_613 rfl (Nat.le_of_ble_eq_true rfl) (Nat.le_refl _) (Nat.le_refl _) ?_
  rintro _ _ ⟨rfl, I2, L2, rfl, hI⟩ -
  refine w_icmp_eq (tgt := 1309) dL_law_616 (by decide) (fun _ => ?_) (fun h => absurd (rfl) h)
  exact hk I2 L2 hI

theorem law_docket {Inv : xF4 Int32 → xF4 Int64 → Prop} {S : Nat × (Nat → Int32)} {i : Nat} (hi : i + 5 ≤ S.1) (hL : S.1 ≤ 2560) (hk : ∀ I L, Inv I L → Wp 21 109 (m_law S) 1309 [some (vR 99 0 0), some (vR 0 0 0), some (vR 30 0 0), some (vI (nI i))] [] (rM I L) (fun v _ => v = some (vI 1))) {I : xF4 Int32} {L : xF4 Int64} (h : SimI Inv m_X10_docket m_X11_docket [vI (S.2 (i + 1)), vI (S.2 (i + 2))] I L) : Wp 21 109 (m_law S) 621 [some (vR 99 0 0), some (vR 0 0 0), some (vR 30 0 0), some (vI (nI i))] [] (rM I L) (fun v _ => v = some (vI 1)) := by
  obtain ⟨x, P, h1, h2⟩ := h
  refine w_aload_n dL_law_621 rfl ?_
  refine w_aload_n dL_law_622 rfl ?_
  refine w_iload_n dL_law_623 rfl ?_
  refine w_iconst (v := 1) dL_law_624 (by decide) ?_
  refine w_iadd dL_law_625 ?_
  rw [show ((nI i) + (1) : Int32) = nI (i + 1) from nI_add i 1]
  refine w_sld (a := i + 1) rfl (vp_in_nI (by omega) (by omega)) (nI_clamp (by omega)) dL_law_626 ?_
  refine w_aload_n dL_law_627 rfl ?_
  refine w_iload_n dL_law_628 rfl ?_
  refine w_iconst (v := 2) dL_law_629 (by decide) ?_
  refine w_iadd dL_law_630 ?_
  rw [show ((nI i) + (2) : Int32) = nI (i + 2) from nI_add i 2]
  refine w_sld (a := i + 2) rfl (vp_in_nI (by omega) (by omega)) (nI_clamp (by omega)) dL_law_631 ?_
  refine w_callV (as := [vI (S.2 (i + 1)), vI (S.2 (i + 2))]) (st := []) (Tri.mono (h1) (Nat.le_of_ble_eq_true rfl)) rfl rfl tg_X10_docket lk_RL_77 in_X10_docket se_X10_docket rfl dL_law_632 rfl (Nat.le_of_ble_eq_true rfl) (Nat.le_refl _) (Nat.le_refl _) ?_
  rintro _ _ ⟨rfl, I1, L1, rfl, hP⟩ -
  refine w_aload_n dL_law_635 rfl ?_
  refine w_aload_n dL_law_636 rfl ?_
  refine w_iload_n dL_law_637 rfl ?_
  refine w_iconst (v := 1) dL_law_638 (by decide) ?_
  refine w_iadd dL_law_639 ?_
  rw [show ((nI i) + (1) : Int32) = nI (i + 1) from nI_add i 1]
  refine w_sld (a := i + 1) rfl (vp_in_nI (by omega) (by omega)) (nI_clamp (by omega)) dL_law_640 ?_
  refine w_aload_n dL_law_641 rfl ?_
  refine w_iload_n dL_law_642 rfl ?_
  refine w_iconst (v := 2) dL_law_643 (by decide) ?_
  refine w_iadd dL_law_644 ?_
  rw [show ((nI i) + (2) : Int32) = nI (i + 2) from nI_add i 2]
  refine w_sld (a := i + 2) rfl (vp_in_nI (by omega) (by omega)) (nI_clamp (by omega)) dL_law_645 ?_
  refine w_callV (as := [vI (S.2 (i + 1)), vI (S.2 (i + 2))]) (st := [vI (x)]) (Tri.mono (h2 I1 L1 hP) (Nat.le_of_ble_eq_true rfl)) rfl rfl tg_X11_docket lk_RL_80 in_X11_docket se_X11_docket rfl dL_law_646 rfl (Nat.le_of_ble_eq_true rfl) (Nat.le_refl _) (Nat.le_refl _) ?_
  rintro _ _ ⟨rfl, I2, L2, rfl, hI⟩ -
  refine w_icmp_eq (tgt := 1309) dL_law_649 (by decide) (fun _ => ?_) (fun h => absurd (rfl) h)
  exact hk I2 L2 hI

theorem law_hears {Inv : xF4 Int32 → xF4 Int64 → Prop} {S : Nat × (Nat → Int32)} {i : Nat} (hi : i + 5 ≤ S.1) (hL : S.1 ≤ 2560) (hk : ∀ I L, Inv I L → Wp 21 109 (m_law S) 1309 [some (vR 99 0 0), some (vR 0 0 0), some (vR 30 0 0), some (vI (nI i))] [] (rM I L) (fun v _ => v = some (vI 1))) {I : xF4 Int32} {L : xF4 Int64} (h : SimI Inv m_X10_hears m_X11_hears [vI (S.2 (i + 1)), vI (S.2 (i + 2))] I L) : Wp 21 109 (m_law S) 654 [some (vR 99 0 0), some (vR 0 0 0), some (vR 30 0 0), some (vI (nI i))] [] (rM I L) (fun v _ => v = some (vI 1)) := by
  obtain ⟨x, P, h1, h2⟩ := h
  refine w_aload_n dL_law_654 rfl ?_
  refine w_aload_n dL_law_655 rfl ?_
  refine w_iload_n dL_law_656 rfl ?_
  refine w_iconst (v := 1) dL_law_657 (by decide) ?_
  refine w_iadd dL_law_658 ?_
  rw [show ((nI i) + (1) : Int32) = nI (i + 1) from nI_add i 1]
  refine w_sld (a := i + 1) rfl (vp_in_nI (by omega) (by omega)) (nI_clamp (by omega)) dL_law_659 ?_
  refine w_aload_n dL_law_660 rfl ?_
  refine w_iload_n dL_law_661 rfl ?_
  refine w_iconst (v := 2) dL_law_662 (by decide) ?_
  refine w_iadd dL_law_663 ?_
  rw [show ((nI i) + (2) : Int32) = nI (i + 2) from nI_add i 2]
  refine w_sld (a := i + 2) rfl (vp_in_nI (by omega) (by omega)) (nI_clamp (by omega)) dL_law_664 ?_
  refine w_callV (as := [vI (S.2 (i + 1)), vI (S.2 (i + 2))]) (st := []) (Tri.mono (h1) (Nat.le_of_ble_eq_true rfl)) rfl rfl tg_X10_hears lk_RL_81 in_X10_hears se_X10_hears rfl dL_law_665 rfl (Nat.le_of_ble_eq_true rfl) (Nat.le_refl _) (Nat.le_refl _) ?_
  rintro _ _ ⟨rfl, I1, L1, rfl, hP⟩ -
  refine w_aload_n dL_law_668 rfl ?_
  refine w_aload_n dL_law_669 rfl ?_
  refine w_iload_n dL_law_670 rfl ?_
  refine w_iconst (v := 1) dL_law_671 (by decide) ?_
  refine w_iadd dL_law_672 ?_
  rw [show ((nI i) + (1) : Int32) = nI (i + 1) from nI_add i 1]
  refine w_sld (a := i + 1) rfl (vp_in_nI (by omega) (by omega)) (nI_clamp (by omega)) dL_law_673 ?_
  refine w_aload_n dL_law_674 rfl ?_
  refine w_iload_n dL_law_675 rfl ?_
  refine w_iconst (v := 2) dL_law_676 (by decide) ?_
  refine w_iadd dL_law_677 ?_
  rw [show ((nI i) + (2) : Int32) = nI (i + 2) from nI_add i 2]
  refine w_sld (a := i + 2) rfl (vp_in_nI (by omega) (by omega)) (nI_clamp (by omega)) dL_law_678 ?_
  refine w_callV (as := [vI (S.2 (i + 1)), vI (S.2 (i + 2))]) (st := [vI (x)]) (Tri.mono (h2 I1 L1 hP) (Nat.le_of_ble_eq_true rfl)) rfl rfl tg_X11_hears lk_RL_84 in_X11_hears se_X11_hears rfl dL_law_679 rfl (Nat.le_of_ble_eq_true rfl) (Nat.le_refl _) (Nat.le_refl _) ?_
  rintro _ _ ⟨rfl, I2, L2, rfl, hI⟩ -
  refine w_icmp_eq (tgt := 1309) dL_law_682 (by decide) (fun _ => ?_) (fun h => absurd (rfl) h)
  exact hk I2 L2 hI

theorem law_best {Inv : xF4 Int32 → xF4 Int64 → Prop} {S : Nat × (Nat → Int32)} {i : Nat} (hi : i + 5 ≤ S.1) (hL : S.1 ≤ 2560) (hk : ∀ I L, Inv I L → Wp 21 109 (m_law S) 1309 [some (vR 99 0 0), some (vR 0 0 0), some (vR 30 0 0), some (vI (nI i))] [] (rM I L) (fun v _ => v = some (vI 1))) {I : xF4 Int32} {L : xF4 Int64} (h : SimI Inv m_X10_best m_X11_best [vI (S.2 (i + 1))] I L) : Wp 21 109 (m_law S) 687 [some (vR 99 0 0), some (vR 0 0 0), some (vR 30 0 0), some (vI (nI i))] [] (rM I L) (fun v _ => v = some (vI 1)) := by
  obtain ⟨x, P, h1, h2⟩ := h
  refine w_aload_n dL_law_687 rfl ?_
  refine w_aload_n dL_law_688 rfl ?_
  refine w_iload_n dL_law_689 rfl ?_
  refine w_iconst (v := 1) dL_law_690 (by decide) ?_
  refine w_iadd dL_law_691 ?_
  rw [show ((nI i) + (1) : Int32) = nI (i + 1) from nI_add i 1]
  refine w_sld (a := i + 1) rfl (vp_in_nI (by omega) (by omega)) (nI_clamp (by omega)) dL_law_692 ?_
  refine w_callV (as := [vI (S.2 (i + 1))]) (st := []) (Tri.mono (h1) (Nat.le_of_ble_eq_true rfl)) rfl rfl tg_X10_best lk_RL_85 in_X10_best se_X10_best rfl dL_law_693 rfl (Nat.le_of_ble_eq_true rfl) (Nat.le_refl _) (Nat.le_refl _) ?_
  rintro _ _ ⟨rfl, I1, L1, rfl, hP⟩ -
  refine w_aload_n dL_law_696 rfl ?_
  refine w_aload_n dL_law_697 rfl ?_
  refine w_iload_n dL_law_698 rfl ?_
  refine w_iconst (v := 1) dL_law_699 (by decide) ?_
  refine w_iadd dL_law_700 ?_
  rw [show ((nI i) + (1) : Int32) = nI (i + 1) from nI_add i 1]
  refine w_sld (a := i + 1) rfl (vp_in_nI (by omega) (by omega)) (nI_clamp (by omega)) dL_law_701 ?_
  refine w_callV (as := [vI (S.2 (i + 1))]) (st := [vI (x)]) (Tri.mono (h2 I1 L1 hP) (Nat.le_of_ble_eq_true rfl)) rfl rfl tg_X11_best lk_RL_88 in_X11_best se_X11_best rfl dL_law_702 rfl (Nat.le_of_ble_eq_true rfl) (Nat.le_refl _) (Nat.le_refl _) ?_
  rintro _ _ ⟨rfl, I2, L2, rfl, hI⟩ -
  refine w_icmp_eq (tgt := 1309) dL_law_705 (by decide) (fun _ => ?_) (fun h => absurd (rfl) h)
  exact hk I2 L2 hI

theorem law_deter {Inv : xF4 Int32 → xF4 Int64 → Prop} {S : Nat × (Nat → Int32)} {i : Nat} (hi : i + 5 ≤ S.1) (hL : S.1 ≤ 2560) (hk : ∀ I L, Inv I L → Wp 21 109 (m_law S) 1309 [some (vR 99 0 0), some (vR 0 0 0), some (vR 30 0 0), some (vI (nI i))] [] (rM I L) (fun v _ => v = some (vI 1))) {I : xF4 Int32} {L : xF4 Int64} (h : SimI Inv m_X10_deter m_X11_deter [vI (S.2 (i + 1)), vI (S.2 (i + 2))] I L) : Wp 21 109 (m_law S) 710 [some (vR 99 0 0), some (vR 0 0 0), some (vR 30 0 0), some (vI (nI i))] [] (rM I L) (fun v _ => v = some (vI 1)) := by
  obtain ⟨x, P, h1, h2⟩ := h
  refine w_aload_n dL_law_710 rfl ?_
  refine w_aload_n dL_law_711 rfl ?_
  refine w_iload_n dL_law_712 rfl ?_
  refine w_iconst (v := 1) dL_law_713 (by decide) ?_
  refine w_iadd dL_law_714 ?_
  rw [show ((nI i) + (1) : Int32) = nI (i + 1) from nI_add i 1]
  refine w_sld (a := i + 1) rfl (vp_in_nI (by omega) (by omega)) (nI_clamp (by omega)) dL_law_715 ?_
  refine w_aload_n dL_law_716 rfl ?_
  refine w_iload_n dL_law_717 rfl ?_
  refine w_iconst (v := 2) dL_law_718 (by decide) ?_
  refine w_iadd dL_law_719 ?_
  rw [show ((nI i) + (2) : Int32) = nI (i + 2) from nI_add i 2]
  refine w_sld (a := i + 2) rfl (vp_in_nI (by omega) (by omega)) (nI_clamp (by omega)) dL_law_720 ?_
  refine w_callV (as := [vI (S.2 (i + 1)), vI (S.2 (i + 2))]) (st := []) (Tri.mono (h1) (Nat.le_of_ble_eq_true rfl)) rfl rfl tg_X10_deter lk_RL_89 in_X10_deter se_X10_deter rfl dL_law_721 rfl (Nat.le_of_ble_eq_true rfl) (Nat.le_refl _) (Nat.le_refl _) ?_
  rintro _ _ ⟨rfl, I1, L1, rfl, hP⟩ -
  refine w_aload_n dL_law_724 rfl ?_
  refine w_aload_n dL_law_725 rfl ?_
  refine w_iload_n dL_law_726 rfl ?_
  refine w_iconst (v := 1) dL_law_727 (by decide) ?_
  refine w_iadd dL_law_728 ?_
  rw [show ((nI i) + (1) : Int32) = nI (i + 1) from nI_add i 1]
  refine w_sld (a := i + 1) rfl (vp_in_nI (by omega) (by omega)) (nI_clamp (by omega)) dL_law_729 ?_
  refine w_aload_n dL_law_730 rfl ?_
  refine w_iload_n dL_law_731 rfl ?_
  refine w_iconst (v := 2) dL_law_732 (by decide) ?_
  refine w_iadd dL_law_733 ?_
  rw [show ((nI i) + (2) : Int32) = nI (i + 2) from nI_add i 2]
  refine w_sld (a := i + 2) rfl (vp_in_nI (by omega) (by omega)) (nI_clamp (by omega)) dL_law_734 ?_
  refine w_callV (as := [vI (S.2 (i + 1)), vI (S.2 (i + 2))]) (st := [vI (x)]) (Tri.mono (h2 I1 L1 hP) (Nat.le_of_ble_eq_true rfl)) rfl rfl tg_X11_deter lk_RL_92 in_X11_deter se_X11_deter rfl dL_law_735 rfl (Nat.le_of_ble_eq_true rfl) (Nat.le_refl _) (Nat.le_refl _) ?_
  rintro _ _ ⟨rfl, I2, L2, rfl, hI⟩ -
  refine w_icmp_eq (tgt := 1309) dL_law_738 (by decide) (fun _ => ?_) (fun h => absurd (rfl) h)
  exact hk I2 L2 hI

theorem law_order {Inv : xF4 Int32 → xF4 Int64 → Prop} {S : Nat × (Nat → Int32)} {i : Nat} (hi : i + 5 ≤ S.1) (hL : S.1 ≤ 2560) (hk : ∀ I L, Inv I L → Wp 21 109 (m_law S) 1309 [some (vR 99 0 0), some (vR 0 0 0), some (vR 30 0 0), some (vI (nI i))] [] (rM I L) (fun v _ => v = some (vI 1))) {I : xF4 Int32} {L : xF4 Int64} (h : SimI Inv m_X10_order m_X11_order [vI (S.2 (i + 1)), vI (S.2 (i + 2))] I L) : Wp 21 109 (m_law S) 743 [some (vR 99 0 0), some (vR 0 0 0), some (vR 30 0 0), some (vI (nI i))] [] (rM I L) (fun v _ => v = some (vI 1)) := by
  obtain ⟨x, P, h1, h2⟩ := h
  refine w_aload_n dL_law_743 rfl ?_
  refine w_aload_n dL_law_744 rfl ?_
  refine w_iload_n dL_law_745 rfl ?_
  refine w_iconst (v := 1) dL_law_746 (by decide) ?_
  refine w_iadd dL_law_747 ?_
  rw [show ((nI i) + (1) : Int32) = nI (i + 1) from nI_add i 1]
  refine w_sld (a := i + 1) rfl (vp_in_nI (by omega) (by omega)) (nI_clamp (by omega)) dL_law_748 ?_
  refine w_aload_n dL_law_749 rfl ?_
  refine w_iload_n dL_law_750 rfl ?_
  refine w_iconst (v := 2) dL_law_751 (by decide) ?_
  refine w_iadd dL_law_752 ?_
  rw [show ((nI i) + (2) : Int32) = nI (i + 2) from nI_add i 2]
  refine w_sld (a := i + 2) rfl (vp_in_nI (by omega) (by omega)) (nI_clamp (by omega)) dL_law_753 ?_
  refine w_callV (as := [vI (S.2 (i + 1)), vI (S.2 (i + 2))]) (st := []) (Tri.mono (h1) (Nat.le_of_ble_eq_true rfl)) rfl rfl tg_X10_order lk_RL_93 in_X10_order se_X10_order rfl dL_law_754 rfl (Nat.le_of_ble_eq_true rfl) (Nat.le_refl _) (Nat.le_refl _) ?_
  rintro _ _ ⟨rfl, I1, L1, rfl, hP⟩ -
  refine w_aload_n dL_law_757 rfl ?_
  refine w_aload_n dL_law_758 rfl ?_
  refine w_iload_n dL_law_759 rfl ?_
  refine w_iconst (v := 1) dL_law_760 (by decide) ?_
  refine w_iadd dL_law_761 ?_
  rw [show ((nI i) + (1) : Int32) = nI (i + 1) from nI_add i 1]
  refine w_sld (a := i + 1) rfl (vp_in_nI (by omega) (by omega)) (nI_clamp (by omega)) dL_law_762 ?_
  refine w_aload_n dL_law_763 rfl ?_
  refine w_iload_n dL_law_764 rfl ?_
  refine w_iconst (v := 2) dL_law_765 (by decide) ?_
  refine w_iadd dL_law_766 ?_
  rw [show ((nI i) + (2) : Int32) = nI (i + 2) from nI_add i 2]
  refine w_sld (a := i + 2) rfl (vp_in_nI (by omega) (by omega)) (nI_clamp (by omega)) dL_law_767 ?_
  refine w_callV (as := [vI (S.2 (i + 1)), vI (S.2 (i + 2))]) (st := [vI (x)]) (Tri.mono (h2 I1 L1 hP) (Nat.le_of_ble_eq_true rfl)) rfl rfl tg_X11_order lk_RL_96 in_X11_order se_X11_order rfl dL_law_768 rfl (Nat.le_of_ble_eq_true rfl) (Nat.le_refl _) (Nat.le_refl _) ?_
  rintro _ _ ⟨rfl, I2, L2, rfl, hI⟩ -
  refine w_icmp_eq (tgt := 1309) dL_law_771 (by decide) (fun _ => ?_) (fun h => absurd (rfl) h)
  exact hk I2 L2 hI

theorem law_spare {Inv : xF4 Int32 → xF4 Int64 → Prop} {S : Nat × (Nat → Int32)} {i : Nat} (hi : i + 5 ≤ S.1) (hL : S.1 ≤ 2560) (hk : ∀ I L, Inv I L → Wp 21 109 (m_law S) 1309 [some (vR 99 0 0), some (vR 0 0 0), some (vR 30 0 0), some (vI (nI i))] [] (rM I L) (fun v _ => v = some (vI 1))) {I : xF4 Int32} {L : xF4 Int64} (h : SimI Inv m_X10_spare m_X11_spare [vI (S.2 (i + 1))] I L) : Wp 21 109 (m_law S) 776 [some (vR 99 0 0), some (vR 0 0 0), some (vR 30 0 0), some (vI (nI i))] [] (rM I L) (fun v _ => v = some (vI 1)) := by
  obtain ⟨x, P, h1, h2⟩ := h
  refine w_aload_n dL_law_776 rfl ?_
  refine w_aload_n dL_law_777 rfl ?_
  refine w_iload_n dL_law_778 rfl ?_
  refine w_iconst (v := 1) dL_law_779 (by decide) ?_
  refine w_iadd dL_law_780 ?_
  rw [show ((nI i) + (1) : Int32) = nI (i + 1) from nI_add i 1]
  refine w_sld (a := i + 1) rfl (vp_in_nI (by omega) (by omega)) (nI_clamp (by omega)) dL_law_781 ?_
  refine w_callV (as := [vI (S.2 (i + 1))]) (st := []) (Tri.mono (h1) (Nat.le_of_ble_eq_true rfl)) rfl rfl tg_X10_spare lk_RL_97 in_X10_spare se_X10_spare rfl dL_law_782 rfl (Nat.le_of_ble_eq_true rfl) (Nat.le_refl _) (Nat.le_refl _) ?_
  rintro _ _ ⟨rfl, I1, L1, rfl, hP⟩ -
  refine w_aload_n dL_law_785 rfl ?_
  refine w_aload_n dL_law_786 rfl ?_
  refine w_iload_n dL_law_787 rfl ?_
  refine w_iconst (v := 1) dL_law_788 (by decide) ?_
  refine w_iadd dL_law_789 ?_
  rw [show ((nI i) + (1) : Int32) = nI (i + 1) from nI_add i 1]
  refine w_sld (a := i + 1) rfl (vp_in_nI (by omega) (by omega)) (nI_clamp (by omega)) dL_law_790 ?_
  refine w_callV (as := [vI (S.2 (i + 1))]) (st := [vI (x)]) (Tri.mono (h2 I1 L1 hP) (Nat.le_of_ble_eq_true rfl)) rfl rfl tg_X11_spare lk_RL_100 in_X11_spare se_X11_spare rfl dL_law_791 rfl (Nat.le_of_ble_eq_true rfl) (Nat.le_refl _) (Nat.le_refl _) ?_
  rintro _ _ ⟨rfl, I2, L2, rfl, hI⟩ -
  refine w_icmp_eq (tgt := 1309) dL_law_794 (by decide) (fun _ => ?_) (fun h => absurd (rfl) h)
  exact hk I2 L2 hI

theorem law_hopeless {Inv : xF4 Int32 → xF4 Int64 → Prop} {S : Nat × (Nat → Int32)} {i : Nat} (hi : i + 5 ≤ S.1) (hL : S.1 ≤ 2560) (hk : ∀ I L, Inv I L → Wp 21 109 (m_law S) 1309 [some (vR 99 0 0), some (vR 0 0 0), some (vR 30 0 0), some (vI (nI i))] [] (rM I L) (fun v _ => v = some (vI 1))) {I : xF4 Int32} {L : xF4 Int64} (h : SimI Inv m_X10_hopeless m_X11_hopeless [] I L) : Wp 21 109 (m_law S) 799 [some (vR 99 0 0), some (vR 0 0 0), some (vR 30 0 0), some (vI (nI i))] [] (rM I L) (fun v _ => v = some (vI 1)) := by
  obtain ⟨x, P, h1, h2⟩ := h
  refine w_aload_n dL_law_799 rfl ?_
  refine w_callV (as := []) (st := []) (Tri.mono (h1) (Nat.le_of_ble_eq_true rfl)) rfl rfl tg_X10_hopeless lk_RL_101 in_X10_hopeless se_X10_hopeless rfl dL_law_800 rfl (Nat.le_of_ble_eq_true rfl) (Nat.le_refl _) (Nat.le_refl _) ?_
  rintro _ _ ⟨rfl, I1, L1, rfl, hP⟩ -
  refine w_aload_n dL_law_803 rfl ?_
  refine w_callV (as := []) (st := [vI (x)]) (Tri.mono (h2 I1 L1 hP) (Nat.le_of_ble_eq_true rfl)) rfl rfl tg_X11_hopeless lk_RL_104 in_X11_hopeless se_X11_hopeless rfl dL_law_804 rfl (Nat.le_of_ble_eq_true rfl) (Nat.le_refl _) (Nat.le_refl _) ?_
  rintro _ _ ⟨rfl, I2, L2, rfl, hI⟩ -
  refine w_icmp_eq (tgt := 1309) dL_law_807 (by decide) (fun _ => ?_) (fun h => absurd (rfl) h)
  exact hk I2 L2 hI

theorem law_mean {Inv : xF4 Int32 → xF4 Int64 → Prop} {S : Nat × (Nat → Int32)} {i : Nat} (hi : i + 5 ≤ S.1) (hL : S.1 ≤ 2560) (hk : ∀ I L, Inv I L → Wp 21 109 (m_law S) 1309 [some (vR 99 0 0), some (vR 0 0 0), some (vR 30 0 0), some (vI (nI i))] [] (rM I L) (fun v _ => v = some (vI 1))) {I : xF4 Int32} {L : xF4 Int64} (h : SimL Inv m_X10_mean m_X11_mean [vI (S.2 (i + 1)), vI (S.2 (i + 2))] I L) : Wp 21 109 (m_law S) 812 [some (vR 99 0 0), some (vR 0 0 0), some (vR 30 0 0), some (vI (nI i))] [] (rM I L) (fun v _ => v = some (vI 1)) := by
  obtain ⟨x, P, h1, h2⟩ := h
  refine w_aload_n dL_law_812 rfl ?_
  refine w_aload_n dL_law_813 rfl ?_
  refine w_iload_n dL_law_814 rfl ?_
  refine w_iconst (v := 1) dL_law_815 (by decide) ?_
  refine w_iadd dL_law_816 ?_
  rw [show ((nI i) + (1) : Int32) = nI (i + 1) from nI_add i 1]
  refine w_sld (a := i + 1) rfl (vp_in_nI (by omega) (by omega)) (nI_clamp (by omega)) dL_law_817 ?_
  refine w_aload_n dL_law_818 rfl ?_
  refine w_iload_n dL_law_819 rfl ?_
  refine w_iconst (v := 2) dL_law_820 (by decide) ?_
  refine w_iadd dL_law_821 ?_
  rw [show ((nI i) + (2) : Int32) = nI (i + 2) from nI_add i 2]
  refine w_sld (a := i + 2) rfl (vp_in_nI (by omega) (by omega)) (nI_clamp (by omega)) dL_law_822 ?_
  refine w_callV (as := [vI (S.2 (i + 1)), vI (S.2 (i + 2))]) (st := []) (Tri.mono (h1) (Nat.le_of_ble_eq_true rfl)) rfl rfl tg_X10_mean lk_RL_105 in_X10_mean se_X10_mean rfl dL_law_823 rfl (Nat.le_of_ble_eq_true rfl) (Nat.le_refl _) (Nat.le_refl _) ?_
  rintro _ _ ⟨rfl, I1, L1, rfl, hP⟩ -
  refine w_aload_n dL_law_826 rfl ?_
  refine w_aload_n dL_law_827 rfl ?_
  refine w_iload_n dL_law_828 rfl ?_
  refine w_iconst (v := 1) dL_law_829 (by decide) ?_
  refine w_iadd dL_law_830 ?_
  rw [show ((nI i) + (1) : Int32) = nI (i + 1) from nI_add i 1]
  refine w_sld (a := i + 1) rfl (vp_in_nI (by omega) (by omega)) (nI_clamp (by omega)) dL_law_831 ?_
  refine w_aload_n dL_law_832 rfl ?_
  refine w_iload_n dL_law_833 rfl ?_
  refine w_iconst (v := 2) dL_law_834 (by decide) ?_
  refine w_iadd dL_law_835 ?_
  rw [show ((nI i) + (2) : Int32) = nI (i + 2) from nI_add i 2]
  refine w_sld (a := i + 2) rfl (vp_in_nI (by omega) (by omega)) (nI_clamp (by omega)) dL_law_836 ?_
  refine w_callV (as := [vI (S.2 (i + 1)), vI (S.2 (i + 2))]) (st := [vL (x)]) (Tri.mono (h2 I1 L1 hP) (Nat.le_of_ble_eq_true rfl)) rfl rfl tg_X11_mean lk_RL_109 in_X11_mean se_X11_mean rfl dL_law_837 rfl (Nat.le_of_ble_eq_true rfl) (Nat.le_refl _) (Nat.le_refl _) ?_
  rintro _ _ ⟨rfl, I2, L2, rfl, hI⟩ -
  refine w_lcmp dL_law_840 ?_
  rw [show (lg_cmp (x) (x) : Int32) = 0 from lg_same x]
  refine w_if_eq (tgt := 1309) dL_law_841 (by decide) (fun _ => ?_) (fun h => absurd (rfl) h)
  exact hk I2 L2 hI

theorem law_luck {Inv : xF4 Int32 → xF4 Int64 → Prop} {S : Nat × (Nat → Int32)} {i : Nat} (hi : i + 5 ≤ S.1) (hL : S.1 ≤ 2560) (hk : ∀ I L, Inv I L → Wp 21 109 (m_law S) 1309 [some (vR 99 0 0), some (vR 0 0 0), some (vR 30 0 0), some (vI (nI i))] [] (rM I L) (fun v _ => v = some (vI 1))) {I : xF4 Int32} {L : xF4 Int64} (h : SimL Inv m_X10_luck m_X11_luck [vI (S.2 (i + 1)), vI (S.2 (i + 2)), vI (S.2 (i + 3))] I L) : Wp 21 109 (m_law S) 846 [some (vR 99 0 0), some (vR 0 0 0), some (vR 30 0 0), some (vI (nI i))] [] (rM I L) (fun v _ => v = some (vI 1)) := by
  obtain ⟨x, P, h1, h2⟩ := h
  refine w_aload_n dL_law_846 rfl ?_
  refine w_aload_n dL_law_847 rfl ?_
  refine w_iload_n dL_law_848 rfl ?_
  refine w_iconst (v := 1) dL_law_849 (by decide) ?_
  refine w_iadd dL_law_850 ?_
  rw [show ((nI i) + (1) : Int32) = nI (i + 1) from nI_add i 1]
  refine w_sld (a := i + 1) rfl (vp_in_nI (by omega) (by omega)) (nI_clamp (by omega)) dL_law_851 ?_
  refine w_aload_n dL_law_852 rfl ?_
  refine w_iload_n dL_law_853 rfl ?_
  refine w_iconst (v := 2) dL_law_854 (by decide) ?_
  refine w_iadd dL_law_855 ?_
  rw [show ((nI i) + (2) : Int32) = nI (i + 2) from nI_add i 2]
  refine w_sld (a := i + 2) rfl (vp_in_nI (by omega) (by omega)) (nI_clamp (by omega)) dL_law_856 ?_
  refine w_aload_n dL_law_857 rfl ?_
  refine w_iload_n dL_law_858 rfl ?_
  refine w_iconst (v := 3) dL_law_859 (by decide) ?_
  refine w_iadd dL_law_860 ?_
  rw [show ((nI i) + (3) : Int32) = nI (i + 3) from nI_add i 3]
  refine w_sld (a := i + 3) rfl (vp_in_nI (by omega) (by omega)) (nI_clamp (by omega)) dL_law_861 ?_
  refine w_callV (as := [vI (S.2 (i + 1)), vI (S.2 (i + 2)), vI (S.2 (i + 3))]) (st := []) (Tri.mono (h1) (Nat.le_of_ble_eq_true rfl)) rfl rfl tg_X10_luck lk_RL_110 in_X10_luck se_X10_luck rfl dL_law_862 rfl (Nat.le_of_ble_eq_true rfl) (Nat.le_refl _) (Nat.le_refl _) ?_
  rintro _ _ ⟨rfl, I1, L1, rfl, hP⟩ -
  refine w_aload_n dL_law_865 rfl ?_
  refine w_aload_n dL_law_866 rfl ?_
  refine w_iload_n dL_law_867 rfl ?_
  refine w_iconst (v := 1) dL_law_868 (by decide) ?_
  refine w_iadd dL_law_869 ?_
  rw [show ((nI i) + (1) : Int32) = nI (i + 1) from nI_add i 1]
  refine w_sld (a := i + 1) rfl (vp_in_nI (by omega) (by omega)) (nI_clamp (by omega)) dL_law_870 ?_
  refine w_aload_n dL_law_871 rfl ?_
  refine w_iload_n dL_law_872 rfl ?_
  refine w_iconst (v := 2) dL_law_873 (by decide) ?_
  refine w_iadd dL_law_874 ?_
  rw [show ((nI i) + (2) : Int32) = nI (i + 2) from nI_add i 2]
  refine w_sld (a := i + 2) rfl (vp_in_nI (by omega) (by omega)) (nI_clamp (by omega)) dL_law_875 ?_
  refine w_aload_n dL_law_876 rfl ?_
  refine w_iload_n dL_law_877 rfl ?_
  refine w_iconst (v := 3) dL_law_878 (by decide) ?_
  refine w_iadd dL_law_879 ?_
  rw [show ((nI i) + (3) : Int32) = nI (i + 3) from nI_add i 3]
  refine w_sld (a := i + 3) rfl (vp_in_nI (by omega) (by omega)) (nI_clamp (by omega)) dL_law_880 ?_
  refine w_callV (as := [vI (S.2 (i + 1)), vI (S.2 (i + 2)), vI (S.2 (i + 3))]) (st := [vL (x)]) (Tri.mono (h2 I1 L1 hP) (Nat.le_of_ble_eq_true rfl)) rfl rfl tg_X11_luck lk_RL_114 in_X11_luck se_X11_luck rfl dL_law_881 rfl (Nat.le_of_ble_eq_true rfl) (Nat.le_refl _) (Nat.le_refl _) ?_
  rintro _ _ ⟨rfl, I2, L2, rfl, hI⟩ -
  refine w_lcmp dL_law_884 ?_
  rw [show (lg_cmp (x) (x) : Int32) = 0 from lg_same x]
  refine w_if_eq (tgt := 1309) dL_law_885 (by decide) (fun _ => ?_) (fun h => absurd (rfl) h)
  exact hk I2 L2 hI

theorem law_see {Inv : xF4 Int32 → xF4 Int64 → Prop} {S : Nat × (Nat → Int32)} {i : Nat} (hi : i + 5 ≤ S.1) (hL : S.1 ≤ 2560) (hk : ∀ I L, Inv I L → Wp 21 109 (m_law S) 1309 [some (vR 99 0 0), some (vR 0 0 0), some (vR 30 0 0), some (vI (nI i))] [] (rM I L) (fun v _ => v = some (vI 1))) {I : xF4 Int32} {L : xF4 Int64} (h : SimI Inv m_X10_see m_X11_see [vI (S.2 (i + 1)), vI (S.2 (i + 2)), vI (S.2 (i + 3))] I L) : Wp 21 109 (m_law S) 890 [some (vR 99 0 0), some (vR 0 0 0), some (vR 30 0 0), some (vI (nI i))] [] (rM I L) (fun v _ => v = some (vI 1)) := by
  obtain ⟨x, P, h1, h2⟩ := h
  refine w_aload_n dL_law_890 rfl ?_
  refine w_aload_n dL_law_891 rfl ?_
  refine w_iload_n dL_law_892 rfl ?_
  refine w_iconst (v := 1) dL_law_893 (by decide) ?_
  refine w_iadd dL_law_894 ?_
  rw [show ((nI i) + (1) : Int32) = nI (i + 1) from nI_add i 1]
  refine w_sld (a := i + 1) rfl (vp_in_nI (by omega) (by omega)) (nI_clamp (by omega)) dL_law_895 ?_
  refine w_aload_n dL_law_896 rfl ?_
  refine w_iload_n dL_law_897 rfl ?_
  refine w_iconst (v := 2) dL_law_898 (by decide) ?_
  refine w_iadd dL_law_899 ?_
  rw [show ((nI i) + (2) : Int32) = nI (i + 2) from nI_add i 2]
  refine w_sld (a := i + 2) rfl (vp_in_nI (by omega) (by omega)) (nI_clamp (by omega)) dL_law_900 ?_
  refine w_aload_n dL_law_901 rfl ?_
  refine w_iload_n dL_law_902 rfl ?_
  refine w_iconst (v := 3) dL_law_903 (by decide) ?_
  refine w_iadd dL_law_904 ?_
  rw [show ((nI i) + (3) : Int32) = nI (i + 3) from nI_add i 3]
  refine w_sld (a := i + 3) rfl (vp_in_nI (by omega) (by omega)) (nI_clamp (by omega)) dL_law_905 ?_
  refine w_callV (as := [vI (S.2 (i + 1)), vI (S.2 (i + 2)), vI (S.2 (i + 3))]) (st := []) (Tri.mono (h1) (Nat.le_of_ble_eq_true rfl)) rfl rfl tg_X10_see lk_RL_115 in_X10_see se_X10_see rfl dL_law_906 rfl (Nat.le_of_ble_eq_true rfl) (Nat.le_refl _) (Nat.le_refl _) ?_
  rintro _ _ ⟨rfl, I1, L1, rfl, hP⟩ -
  refine w_aload_n dL_law_909 rfl ?_
  refine w_aload_n dL_law_910 rfl ?_
  refine w_iload_n dL_law_911 rfl ?_
  refine w_iconst (v := 1) dL_law_912 (by decide) ?_
  refine w_iadd dL_law_913 ?_
  rw [show ((nI i) + (1) : Int32) = nI (i + 1) from nI_add i 1]
  refine w_sld (a := i + 1) rfl (vp_in_nI (by omega) (by omega)) (nI_clamp (by omega)) dL_law_914 ?_
  refine w_aload_n dL_law_915 rfl ?_
  refine w_iload_n dL_law_916 rfl ?_
  refine w_iconst (v := 2) dL_law_917 (by decide) ?_
  refine w_iadd dL_law_918 ?_
  rw [show ((nI i) + (2) : Int32) = nI (i + 2) from nI_add i 2]
  refine w_sld (a := i + 2) rfl (vp_in_nI (by omega) (by omega)) (nI_clamp (by omega)) dL_law_919 ?_
  refine w_aload_n dL_law_920 rfl ?_
  refine w_iload_n dL_law_921 rfl ?_
  refine w_iconst (v := 3) dL_law_922 (by decide) ?_
  refine w_iadd dL_law_923 ?_
  rw [show ((nI i) + (3) : Int32) = nI (i + 3) from nI_add i 3]
  refine w_sld (a := i + 3) rfl (vp_in_nI (by omega) (by omega)) (nI_clamp (by omega)) dL_law_924 ?_
  refine w_callV (as := [vI (S.2 (i + 1)), vI (S.2 (i + 2)), vI (S.2 (i + 3))]) (st := [vI (x)]) (Tri.mono (h2 I1 L1 hP) (Nat.le_of_ble_eq_true rfl)) rfl rfl tg_X11_see lk_RL_118 in_X11_see se_X11_see rfl dL_law_925 rfl (Nat.le_of_ble_eq_true rfl) (Nat.le_refl _) (Nat.le_refl _) ?_
  rintro _ _ ⟨rfl, I2, L2, rfl, hI⟩ -
  refine w_icmp_eq (tgt := 1309) dL_law_928 (by decide) (fun _ => ?_) (fun h => absurd (rfl) h)
  exact hk I2 L2 hI

theorem law_forget {Inv : xF4 Int32 → xF4 Int64 → Prop} {S : Nat × (Nat → Int32)} {i : Nat} (hi : i + 5 ≤ S.1) (hL : S.1 ≤ 2560) (hk : ∀ I L, Inv I L → Wp 21 109 (m_law S) 1309 [some (vR 99 0 0), some (vR 0 0 0), some (vR 30 0 0), some (vI (nI i))] [] (rM I L) (fun v _ => v = some (vI 1))) {I : xF4 Int32} {L : xF4 Int64} (h : SimI Inv m_X10_forget m_X11_forget [vI (S.2 (i + 1))] I L) : Wp 21 109 (m_law S) 933 [some (vR 99 0 0), some (vR 0 0 0), some (vR 30 0 0), some (vI (nI i))] [] (rM I L) (fun v _ => v = some (vI 1)) := by
  obtain ⟨x, P, h1, h2⟩ := h
  refine w_aload_n dL_law_933 rfl ?_
  refine w_aload_n dL_law_934 rfl ?_
  refine w_iload_n dL_law_935 rfl ?_
  refine w_iconst (v := 1) dL_law_936 (by decide) ?_
  refine w_iadd dL_law_937 ?_
  rw [show ((nI i) + (1) : Int32) = nI (i + 1) from nI_add i 1]
  refine w_sld (a := i + 1) rfl (vp_in_nI (by omega) (by omega)) (nI_clamp (by omega)) dL_law_938 ?_
  refine w_callV (as := [vI (S.2 (i + 1))]) (st := []) (Tri.mono (h1) (Nat.le_of_ble_eq_true rfl)) rfl rfl tg_X10_forget lk_RL_119 in_X10_forget se_X10_forget rfl dL_law_939 rfl (Nat.le_of_ble_eq_true rfl) (Nat.le_refl _) (Nat.le_refl _) ?_
  rintro _ _ ⟨rfl, I1, L1, rfl, hP⟩ -
  refine w_aload_n dL_law_942 rfl ?_
  refine w_aload_n dL_law_943 rfl ?_
  refine w_iload_n dL_law_944 rfl ?_
  refine w_iconst (v := 1) dL_law_945 (by decide) ?_
  refine w_iadd dL_law_946 ?_
  rw [show ((nI i) + (1) : Int32) = nI (i + 1) from nI_add i 1]
  refine w_sld (a := i + 1) rfl (vp_in_nI (by omega) (by omega)) (nI_clamp (by omega)) dL_law_947 ?_
  refine w_callV (as := [vI (S.2 (i + 1))]) (st := [vI (x)]) (Tri.mono (h2 I1 L1 hP) (Nat.le_of_ble_eq_true rfl)) rfl rfl tg_X11_forget lk_RL_122 in_X11_forget se_X11_forget rfl dL_law_948 rfl (Nat.le_of_ble_eq_true rfl) (Nat.le_refl _) (Nat.le_refl _) ?_
  rintro _ _ ⟨rfl, I2, L2, rfl, hI⟩ -
  refine w_icmp_eq (tgt := 1309) dL_law_951 (by decide) (fun _ => ?_) (fun h => absurd (rfl) h)
  exact hk I2 L2 hI

theorem law_kinds {Inv : xF4 Int32 → xF4 Int64 → Prop} {S : Nat × (Nat → Int32)} {i : Nat} (hi : i + 5 ≤ S.1) (hL : S.1 ≤ 2560) (hk : ∀ I L, Inv I L → Wp 21 109 (m_law S) 1309 [some (vR 99 0 0), some (vR 0 0 0), some (vR 30 0 0), some (vI (nI i))] [] (rM I L) (fun v _ => v = some (vI 1))) {I : xF4 Int32} {L : xF4 Int64} (h : SimI Inv m_X10_kinds m_X11_kinds [vI (S.2 (i + 1))] I L) : Wp 21 109 (m_law S) 956 [some (vR 99 0 0), some (vR 0 0 0), some (vR 30 0 0), some (vI (nI i))] [] (rM I L) (fun v _ => v = some (vI 1)) := by
  obtain ⟨x, P, h1, h2⟩ := h
  refine w_aload_n dL_law_956 rfl ?_
  refine w_aload_n dL_law_957 rfl ?_
  refine w_iload_n dL_law_958 rfl ?_
  refine w_iconst (v := 1) dL_law_959 (by decide) ?_
  refine w_iadd dL_law_960 ?_
  rw [show ((nI i) + (1) : Int32) = nI (i + 1) from nI_add i 1]
  refine w_sld (a := i + 1) rfl (vp_in_nI (by omega) (by omega)) (nI_clamp (by omega)) dL_law_961 ?_
  refine w_callV (as := [vI (S.2 (i + 1))]) (st := []) (Tri.mono (h1) (Nat.le_of_ble_eq_true rfl)) rfl rfl tg_X10_kinds lk_RL_123 in_X10_kinds se_X10_kinds rfl dL_law_962 rfl (Nat.le_of_ble_eq_true rfl) (Nat.le_refl _) (Nat.le_refl _) ?_
  rintro _ _ ⟨rfl, I1, L1, rfl, hP⟩ -
  refine w_aload_n dL_law_965 rfl ?_
  refine w_aload_n dL_law_966 rfl ?_
  refine w_iload_n dL_law_967 rfl ?_
  refine w_iconst (v := 1) dL_law_968 (by decide) ?_
  refine w_iadd dL_law_969 ?_
  rw [show ((nI i) + (1) : Int32) = nI (i + 1) from nI_add i 1]
  refine w_sld (a := i + 1) rfl (vp_in_nI (by omega) (by omega)) (nI_clamp (by omega)) dL_law_970 ?_
  refine w_callV (as := [vI (S.2 (i + 1))]) (st := [vI (x)]) (Tri.mono (h2 I1 L1 hP) (Nat.le_of_ble_eq_true rfl)) rfl rfl tg_X11_kinds lk_RL_126 in_X11_kinds se_X11_kinds rfl dL_law_971 rfl (Nat.le_of_ble_eq_true rfl) (Nat.le_refl _) (Nat.le_refl _) ?_
  rintro _ _ ⟨rfl, I2, L2, rfl, hI⟩ -
  refine w_icmp_eq (tgt := 1309) dL_law_974 (by decide) (fun _ => ?_) (fun h => absurd (rfl) h)
  exact hk I2 L2 hI

theorem law_terms {Inv : xF4 Int32 → xF4 Int64 → Prop} {S : Nat × (Nat → Int32)} {i : Nat} (hi : i + 5 ≤ S.1) (hL : S.1 ≤ 2560) (hk : ∀ I L, Inv I L → Wp 21 109 (m_law S) 1309 [some (vR 99 0 0), some (vR 0 0 0), some (vR 30 0 0), some (vI (nI i))] [] (rM I L) (fun v _ => v = some (vI 1))) {I : xF4 Int32} {L : xF4 Int64} (h : SimI Inv m_X10_terms m_X11_terms [vI (S.2 (i + 1)), vI (S.2 (i + 2))] I L) : Wp 21 109 (m_law S) 979 [some (vR 99 0 0), some (vR 0 0 0), some (vR 30 0 0), some (vI (nI i))] [] (rM I L) (fun v _ => v = some (vI 1)) := by
  obtain ⟨x, P, h1, h2⟩ := h
  refine w_aload_n dL_law_979 rfl ?_
  refine w_aload_n dL_law_980 rfl ?_
  refine w_iload_n dL_law_981 rfl ?_
  refine w_iconst (v := 1) dL_law_982 (by decide) ?_
  refine w_iadd dL_law_983 ?_
  rw [show ((nI i) + (1) : Int32) = nI (i + 1) from nI_add i 1]
  refine w_sld (a := i + 1) rfl (vp_in_nI (by omega) (by omega)) (nI_clamp (by omega)) dL_law_984 ?_
  refine w_aload_n dL_law_985 rfl ?_
  refine w_iload_n dL_law_986 rfl ?_
  refine w_iconst (v := 2) dL_law_987 (by decide) ?_
  refine w_iadd dL_law_988 ?_
  rw [show ((nI i) + (2) : Int32) = nI (i + 2) from nI_add i 2]
  refine w_sld (a := i + 2) rfl (vp_in_nI (by omega) (by omega)) (nI_clamp (by omega)) dL_law_989 ?_
  refine w_callV (as := [vI (S.2 (i + 1)), vI (S.2 (i + 2))]) (st := []) (Tri.mono (h1) (Nat.le_of_ble_eq_true rfl)) rfl rfl tg_X10_terms lk_RL_127 in_X10_terms se_X10_terms rfl dL_law_990 rfl (Nat.le_of_ble_eq_true rfl) (Nat.le_refl _) (Nat.le_refl _) ?_
  rintro _ _ ⟨rfl, I1, L1, rfl, hP⟩ -
  refine w_aload_n dL_law_993 rfl ?_
  refine w_aload_n dL_law_994 rfl ?_
  refine w_iload_n dL_law_995 rfl ?_
  refine w_iconst (v := 1) dL_law_996 (by decide) ?_
  refine w_iadd dL_law_997 ?_
  rw [show ((nI i) + (1) : Int32) = nI (i + 1) from nI_add i 1]
  refine w_sld (a := i + 1) rfl (vp_in_nI (by omega) (by omega)) (nI_clamp (by omega)) dL_law_998 ?_
  refine w_aload_n dL_law_999 rfl ?_
  refine w_iload_n dL_law_1000 rfl ?_
  refine w_iconst (v := 2) dL_law_1001 (by decide) ?_
  refine w_iadd dL_law_1002 ?_
  rw [show ((nI i) + (2) : Int32) = nI (i + 2) from nI_add i 2]
  refine w_sld (a := i + 2) rfl (vp_in_nI (by omega) (by omega)) (nI_clamp (by omega)) dL_law_1003 ?_
  refine w_callV (as := [vI (S.2 (i + 1)), vI (S.2 (i + 2))]) (st := [vI (x)]) (Tri.mono (h2 I1 L1 hP) (Nat.le_of_ble_eq_true rfl)) rfl rfl tg_X11_terms lk_RL_130 in_X11_terms se_X11_terms rfl dL_law_1004 rfl (Nat.le_of_ble_eq_true rfl) (Nat.le_refl _) (Nat.le_refl _) ?_
  rintro _ _ ⟨rfl, I2, L2, rfl, hI⟩ -
  refine w_icmp_eq (tgt := 1309) dL_law_1007 (by decide) (fun _ => ?_) (fun h => absurd (rfl) h)
  exact hk I2 L2 hI

theorem law_ask {Inv : xF4 Int32 → xF4 Int64 → Prop} {S : Nat × (Nat → Int32)} {i : Nat} (hi : i + 5 ≤ S.1) (hL : S.1 ≤ 2560) (hk : ∀ I L, Inv I L → Wp 21 109 (m_law S) 1309 [some (vR 99 0 0), some (vR 0 0 0), some (vR 30 0 0), some (vI (nI i))] [] (rM I L) (fun v _ => v = some (vI 1))) {I : xF4 Int32} {L : xF4 Int64} (h : SimI Inv m_X10_ask m_X11_ask [vI (S.2 (i + 1)), vI (S.2 (i + 2))] I L) : Wp 21 109 (m_law S) 1012 [some (vR 99 0 0), some (vR 0 0 0), some (vR 30 0 0), some (vI (nI i))] [] (rM I L) (fun v _ => v = some (vI 1)) := by
  obtain ⟨x, P, h1, h2⟩ := h
  refine w_aload_n dL_law_1012 rfl ?_
  refine w_aload_n dL_law_1013 rfl ?_
  refine w_iload_n dL_law_1014 rfl ?_
  refine w_iconst (v := 1) dL_law_1015 (by decide) ?_
  refine w_iadd dL_law_1016 ?_
  rw [show ((nI i) + (1) : Int32) = nI (i + 1) from nI_add i 1]
  refine w_sld (a := i + 1) rfl (vp_in_nI (by omega) (by omega)) (nI_clamp (by omega)) dL_law_1017 ?_
  refine w_aload_n dL_law_1018 rfl ?_
  refine w_iload_n dL_law_1019 rfl ?_
  refine w_iconst (v := 2) dL_law_1020 (by decide) ?_
  refine w_iadd dL_law_1021 ?_
  rw [show ((nI i) + (2) : Int32) = nI (i + 2) from nI_add i 2]
  refine w_sld (a := i + 2) rfl (vp_in_nI (by omega) (by omega)) (nI_clamp (by omega)) dL_law_1022 ?_
  refine w_callV (as := [vI (S.2 (i + 1)), vI (S.2 (i + 2))]) (st := []) (Tri.mono (h1) (Nat.le_of_ble_eq_true rfl)) rfl rfl tg_X10_ask lk_RL_131 in_X10_ask se_X10_ask rfl dL_law_1023 rfl (Nat.le_of_ble_eq_true rfl) (Nat.le_refl _) (Nat.le_refl _) ?_
  rintro _ _ ⟨rfl, I1, L1, rfl, hP⟩ -
  refine w_aload_n dL_law_1026 rfl ?_
  refine w_aload_n dL_law_1027 rfl ?_
  refine w_iload_n dL_law_1028 rfl ?_
  refine w_iconst (v := 1) dL_law_1029 (by decide) ?_
  refine w_iadd dL_law_1030 ?_
  rw [show ((nI i) + (1) : Int32) = nI (i + 1) from nI_add i 1]
  refine w_sld (a := i + 1) rfl (vp_in_nI (by omega) (by omega)) (nI_clamp (by omega)) dL_law_1031 ?_
  refine w_aload_n dL_law_1032 rfl ?_
  refine w_iload_n dL_law_1033 rfl ?_
  refine w_iconst (v := 2) dL_law_1034 (by decide) ?_
  refine w_iadd dL_law_1035 ?_
  rw [show ((nI i) + (2) : Int32) = nI (i + 2) from nI_add i 2]
  refine w_sld (a := i + 2) rfl (vp_in_nI (by omega) (by omega)) (nI_clamp (by omega)) dL_law_1036 ?_
  refine w_callV (as := [vI (S.2 (i + 1)), vI (S.2 (i + 2))]) (st := [vI (x)]) (Tri.mono (h2 I1 L1 hP) (Nat.le_of_ble_eq_true rfl)) rfl rfl tg_X11_ask lk_RL_134 in_X11_ask se_X11_ask rfl dL_law_1037 rfl (Nat.le_of_ble_eq_true rfl) (Nat.le_refl _) (Nat.le_refl _) ?_
  rintro _ _ ⟨rfl, I2, L2, rfl, hI⟩ -
  refine w_icmp_eq (tgt := 1309) dL_law_1040 (by decide) (fun _ => ?_) (fun h => absurd (rfl) h)
  exact hk I2 L2 hI

theorem law_drift {Inv : xF4 Int32 → xF4 Int64 → Prop} {S : Nat × (Nat → Int32)} {i : Nat} (hi : i + 5 ≤ S.1) (hL : S.1 ≤ 2560) (hk : ∀ I L, Inv I L → Wp 21 109 (m_law S) 1309 [some (vR 99 0 0), some (vR 0 0 0), some (vR 30 0 0), some (vI (nI i))] [] (rM I L) (fun v _ => v = some (vI 1))) {I : xF4 Int32} {L : xF4 Int64} (h : SimI Inv m_X10_drift m_X11_drift [vI (S.2 (i + 1)), vI (S.2 (i + 2)), vI (S.2 (i + 3))] I L) : Wp 21 109 (m_law S) 1045 [some (vR 99 0 0), some (vR 0 0 0), some (vR 30 0 0), some (vI (nI i))] [] (rM I L) (fun v _ => v = some (vI 1)) := by
  obtain ⟨x, P, h1, h2⟩ := h
  refine w_aload_n dL_law_1045 rfl ?_
  refine w_aload_n dL_law_1046 rfl ?_
  refine w_iload_n dL_law_1047 rfl ?_
  refine w_iconst (v := 1) dL_law_1048 (by decide) ?_
  refine w_iadd dL_law_1049 ?_
  rw [show ((nI i) + (1) : Int32) = nI (i + 1) from nI_add i 1]
  refine w_sld (a := i + 1) rfl (vp_in_nI (by omega) (by omega)) (nI_clamp (by omega)) dL_law_1050 ?_
  refine w_aload_n dL_law_1051 rfl ?_
  refine w_iload_n dL_law_1052 rfl ?_
  refine w_iconst (v := 2) dL_law_1053 (by decide) ?_
  refine w_iadd dL_law_1054 ?_
  rw [show ((nI i) + (2) : Int32) = nI (i + 2) from nI_add i 2]
  refine w_sld (a := i + 2) rfl (vp_in_nI (by omega) (by omega)) (nI_clamp (by omega)) dL_law_1055 ?_
  refine w_aload_n dL_law_1056 rfl ?_
  refine w_iload_n dL_law_1057 rfl ?_
  refine w_iconst (v := 3) dL_law_1058 (by decide) ?_
  refine w_iadd dL_law_1059 ?_
  rw [show ((nI i) + (3) : Int32) = nI (i + 3) from nI_add i 3]
  refine w_sld (a := i + 3) rfl (vp_in_nI (by omega) (by omega)) (nI_clamp (by omega)) dL_law_1060 ?_
  refine w_callV (as := [vI (S.2 (i + 1)), vI (S.2 (i + 2)), vI (S.2 (i + 3))]) (st := []) (Tri.mono (h1) (Nat.le_of_ble_eq_true rfl)) rfl rfl tg_X10_drift lk_RL_135 in_X10_drift se_X10_drift rfl dL_law_1061 rfl (Nat.le_of_ble_eq_true rfl) (Nat.le_refl _) (Nat.le_refl _) ?_
  rintro _ _ ⟨rfl, I1, L1, rfl, hP⟩ -
  refine w_aload_n dL_law_1064 rfl ?_
  refine w_aload_n dL_law_1065 rfl ?_
  refine w_iload_n dL_law_1066 rfl ?_
  refine w_iconst (v := 1) dL_law_1067 (by decide) ?_
  refine w_iadd dL_law_1068 ?_
  rw [show ((nI i) + (1) : Int32) = nI (i + 1) from nI_add i 1]
  refine w_sld (a := i + 1) rfl (vp_in_nI (by omega) (by omega)) (nI_clamp (by omega)) dL_law_1069 ?_
  refine w_aload_n dL_law_1070 rfl ?_
  refine w_iload_n dL_law_1071 rfl ?_
  refine w_iconst (v := 2) dL_law_1072 (by decide) ?_
  refine w_iadd dL_law_1073 ?_
  rw [show ((nI i) + (2) : Int32) = nI (i + 2) from nI_add i 2]
  refine w_sld (a := i + 2) rfl (vp_in_nI (by omega) (by omega)) (nI_clamp (by omega)) dL_law_1074 ?_
  refine w_aload_n dL_law_1075 rfl ?_
  refine w_iload_n dL_law_1076 rfl ?_
  refine w_iconst (v := 3) dL_law_1077 (by decide) ?_
  refine w_iadd dL_law_1078 ?_
  rw [show ((nI i) + (3) : Int32) = nI (i + 3) from nI_add i 3]
  refine w_sld (a := i + 3) rfl (vp_in_nI (by omega) (by omega)) (nI_clamp (by omega)) dL_law_1079 ?_
  refine w_callV (as := [vI (S.2 (i + 1)), vI (S.2 (i + 2)), vI (S.2 (i + 3))]) (st := [vI (x)]) (Tri.mono (h2 I1 L1 hP) (Nat.le_of_ble_eq_true rfl)) rfl rfl tg_X11_drift lk_RL_138 in_X11_drift se_X11_drift rfl dL_law_1080 rfl (Nat.le_of_ble_eq_true rfl) (Nat.le_refl _) (Nat.le_refl _) ?_
  rintro _ _ ⟨rfl, I2, L2, rfl, hI⟩ -
  refine w_icmp_eq (tgt := 1309) dL_law_1083 (by decide) (fun _ => ?_) (fun h => absurd (rfl) h)
  exact hk I2 L2 hI

theorem law_keep {Inv : xF4 Int32 → xF4 Int64 → Prop} {S : Nat × (Nat → Int32)} {i : Nat} (hi : i + 5 ≤ S.1) (hL : S.1 ≤ 2560) (hk : ∀ I L, Inv I L → Wp 21 109 (m_law S) 1309 [some (vR 99 0 0), some (vR 0 0 0), some (vR 30 0 0), some (vI (nI i))] [] (rM I L) (fun v _ => v = some (vI 1))) {I : xF4 Int32} {L : xF4 Int64} (h : SimI Inv m_X10_keep m_X11_keep [vI (S.2 (i + 1))] I L) : Wp 21 109 (m_law S) 1088 [some (vR 99 0 0), some (vR 0 0 0), some (vR 30 0 0), some (vI (nI i))] [] (rM I L) (fun v _ => v = some (vI 1)) := by
  obtain ⟨x, P, h1, h2⟩ := h
  refine w_aload_n dL_law_1088 rfl ?_
  refine w_aload_n dL_law_1089 rfl ?_
  refine w_iload_n dL_law_1090 rfl ?_
  refine w_iconst (v := 1) dL_law_1091 (by decide) ?_
  refine w_iadd dL_law_1092 ?_
  rw [show ((nI i) + (1) : Int32) = nI (i + 1) from nI_add i 1]
  refine w_sld (a := i + 1) rfl (vp_in_nI (by omega) (by omega)) (nI_clamp (by omega)) dL_law_1093 ?_
  refine w_callV (as := [vI (S.2 (i + 1))]) (st := []) (Tri.mono (h1) (Nat.le_of_ble_eq_true rfl)) rfl rfl tg_X10_keep lk_RL_139 in_X10_keep se_X10_keep rfl dL_law_1094 rfl (Nat.le_of_ble_eq_true rfl) (Nat.le_refl _) (Nat.le_refl _) ?_
  rintro _ _ ⟨rfl, I1, L1, rfl, hP⟩ -
  refine w_aload_n dL_law_1097 rfl ?_
  refine w_aload_n dL_law_1098 rfl ?_
  refine w_iload_n dL_law_1099 rfl ?_
  refine w_iconst (v := 1) dL_law_1100 (by decide) ?_
  refine w_iadd dL_law_1101 ?_
  rw [show ((nI i) + (1) : Int32) = nI (i + 1) from nI_add i 1]
  refine w_sld (a := i + 1) rfl (vp_in_nI (by omega) (by omega)) (nI_clamp (by omega)) dL_law_1102 ?_
  refine w_callV (as := [vI (S.2 (i + 1))]) (st := [vI (x)]) (Tri.mono (h2 I1 L1 hP) (Nat.le_of_ble_eq_true rfl)) rfl rfl tg_X11_keep lk_RL_142 in_X11_keep se_X11_keep rfl dL_law_1103 rfl (Nat.le_of_ble_eq_true rfl) (Nat.le_refl _) (Nat.le_refl _) ?_
  rintro _ _ ⟨rfl, I2, L2, rfl, hI⟩ -
  refine w_icmp_eq (tgt := 1309) dL_law_1106 (by decide) (fun _ => ?_) (fun h => absurd (rfl) h)
  exact hk I2 L2 hI

theorem law_back {Inv : xF4 Int32 → xF4 Int64 → Prop} {S : Nat × (Nat → Int32)} {i : Nat} (hi : i + 5 ≤ S.1) (hL : S.1 ≤ 2560) (hk : ∀ I L, Inv I L → Wp 21 109 (m_law S) 1309 [some (vR 99 0 0), some (vR 0 0 0), some (vR 30 0 0), some (vI (nI i))] [] (rM I L) (fun v _ => v = some (vI 1))) {I : xF4 Int32} {L : xF4 Int64} (h : SimI Inv m_X10_back m_X11_back [vI (S.2 (i + 1))] I L) : Wp 21 109 (m_law S) 1111 [some (vR 99 0 0), some (vR 0 0 0), some (vR 30 0 0), some (vI (nI i))] [] (rM I L) (fun v _ => v = some (vI 1)) := by
  obtain ⟨x, P, h1, h2⟩ := h
  refine w_aload_n dL_law_1111 rfl ?_
  refine w_aload_n dL_law_1112 rfl ?_
  refine w_iload_n dL_law_1113 rfl ?_
  refine w_iconst (v := 1) dL_law_1114 (by decide) ?_
  refine w_iadd dL_law_1115 ?_
  rw [show ((nI i) + (1) : Int32) = nI (i + 1) from nI_add i 1]
  refine w_sld (a := i + 1) rfl (vp_in_nI (by omega) (by omega)) (nI_clamp (by omega)) dL_law_1116 ?_
  refine w_callV (as := [vI (S.2 (i + 1))]) (st := []) (Tri.mono (h1) (Nat.le_of_ble_eq_true rfl)) rfl rfl tg_X10_back lk_RL_143 in_X10_back se_X10_back rfl dL_law_1117 rfl (Nat.le_of_ble_eq_true rfl) (Nat.le_refl _) (Nat.le_refl _) ?_
  rintro _ _ ⟨rfl, I1, L1, rfl, hP⟩ -
  refine w_aload_n dL_law_1120 rfl ?_
  refine w_aload_n dL_law_1121 rfl ?_
  refine w_iload_n dL_law_1122 rfl ?_
  refine w_iconst (v := 1) dL_law_1123 (by decide) ?_
  refine w_iadd dL_law_1124 ?_
  rw [show ((nI i) + (1) : Int32) = nI (i + 1) from nI_add i 1]
  refine w_sld (a := i + 1) rfl (vp_in_nI (by omega) (by omega)) (nI_clamp (by omega)) dL_law_1125 ?_
  refine w_callV (as := [vI (S.2 (i + 1))]) (st := [vI (x)]) (Tri.mono (h2 I1 L1 hP) (Nat.le_of_ble_eq_true rfl)) rfl rfl tg_X11_back lk_RL_146 in_X11_back se_X11_back rfl dL_law_1126 rfl (Nat.le_of_ble_eq_true rfl) (Nat.le_refl _) (Nat.le_refl _) ?_
  rintro _ _ ⟨rfl, I2, L2, rfl, hI⟩ -
  refine w_icmp_eq (tgt := 1309) dL_law_1129 (by decide) (fun _ => ?_) (fun h => absurd (rfl) h)
  exact hk I2 L2 hI

theorem law_sheet {Inv : xF4 Int32 → xF4 Int64 → Prop} {S : Nat × (Nat → Int32)} {i : Nat} (hi : i + 5 ≤ S.1) (hL : S.1 ≤ 2560) (hk : ∀ I L, Inv I L → Wp 21 109 (m_law S) 1309 [some (vR 99 0 0), some (vR 0 0 0), some (vR 30 0 0), some (vI (nI i))] [] (rM I L) (fun v _ => v = some (vI 1))) {I : xF4 Int32} {L : xF4 Int64} (h : SimI Inv m_X10_sheet m_X11_sheet [vI (S.2 (i + 1)), vI (S.2 (i + 2)), vI (S.2 (i + 3))] I L) : Wp 21 109 (m_law S) 1134 [some (vR 99 0 0), some (vR 0 0 0), some (vR 30 0 0), some (vI (nI i))] [] (rM I L) (fun v _ => v = some (vI 1)) := by
  obtain ⟨x, P, h1, h2⟩ := h
  refine w_aload_n dL_law_1134 rfl ?_
  refine w_aload_n dL_law_1135 rfl ?_
  refine w_iload_n dL_law_1136 rfl ?_
  refine w_iconst (v := 1) dL_law_1137 (by decide) ?_
  refine w_iadd dL_law_1138 ?_
  rw [show ((nI i) + (1) : Int32) = nI (i + 1) from nI_add i 1]
  refine w_sld (a := i + 1) rfl (vp_in_nI (by omega) (by omega)) (nI_clamp (by omega)) dL_law_1139 ?_
  refine w_aload_n dL_law_1140 rfl ?_
  refine w_iload_n dL_law_1141 rfl ?_
  refine w_iconst (v := 2) dL_law_1142 (by decide) ?_
  refine w_iadd dL_law_1143 ?_
  rw [show ((nI i) + (2) : Int32) = nI (i + 2) from nI_add i 2]
  refine w_sld (a := i + 2) rfl (vp_in_nI (by omega) (by omega)) (nI_clamp (by omega)) dL_law_1144 ?_
  refine w_aload_n dL_law_1145 rfl ?_
  refine w_iload_n dL_law_1146 rfl ?_
  refine w_iconst (v := 3) dL_law_1147 (by decide) ?_
  refine w_iadd dL_law_1148 ?_
  rw [show ((nI i) + (3) : Int32) = nI (i + 3) from nI_add i 3]
  refine w_sld (a := i + 3) rfl (vp_in_nI (by omega) (by omega)) (nI_clamp (by omega)) dL_law_1149 ?_
  refine w_callV (as := [vI (S.2 (i + 1)), vI (S.2 (i + 2)), vI (S.2 (i + 3))]) (st := []) (Tri.mono (h1) (Nat.le_of_ble_eq_true rfl)) rfl rfl tg_X10_sheet lk_RL_147 in_X10_sheet se_X10_sheet rfl dL_law_1150 rfl (Nat.le_of_ble_eq_true rfl) (Nat.le_refl _) (Nat.le_refl _) ?_
  rintro _ _ ⟨rfl, I1, L1, rfl, hP⟩ -
  refine w_aload_n dL_law_1153 rfl ?_
  refine w_aload_n dL_law_1154 rfl ?_
  refine w_iload_n dL_law_1155 rfl ?_
  refine w_iconst (v := 1) dL_law_1156 (by decide) ?_
  refine w_iadd dL_law_1157 ?_
  rw [show ((nI i) + (1) : Int32) = nI (i + 1) from nI_add i 1]
  refine w_sld (a := i + 1) rfl (vp_in_nI (by omega) (by omega)) (nI_clamp (by omega)) dL_law_1158 ?_
  refine w_aload_n dL_law_1159 rfl ?_
  refine w_iload_n dL_law_1160 rfl ?_
  refine w_iconst (v := 2) dL_law_1161 (by decide) ?_
  refine w_iadd dL_law_1162 ?_
  rw [show ((nI i) + (2) : Int32) = nI (i + 2) from nI_add i 2]
  refine w_sld (a := i + 2) rfl (vp_in_nI (by omega) (by omega)) (nI_clamp (by omega)) dL_law_1163 ?_
  refine w_aload_n dL_law_1164 rfl ?_
  refine w_iload_n dL_law_1165 rfl ?_
  refine w_iconst (v := 3) dL_law_1166 (by decide) ?_
  refine w_iadd dL_law_1167 ?_
  rw [show ((nI i) + (3) : Int32) = nI (i + 3) from nI_add i 3]
  refine w_sld (a := i + 3) rfl (vp_in_nI (by omega) (by omega)) (nI_clamp (by omega)) dL_law_1168 ?_
  refine w_callV (as := [vI (S.2 (i + 1)), vI (S.2 (i + 2)), vI (S.2 (i + 3))]) (st := [vI (x)]) (Tri.mono (h2 I1 L1 hP) (Nat.le_of_ble_eq_true rfl)) rfl rfl tg_X11_sheet lk_RL_150 in_X11_sheet se_X11_sheet rfl dL_law_1169 rfl (Nat.le_of_ble_eq_true rfl) (Nat.le_refl _) (Nat.le_refl _) ?_
  rintro _ _ ⟨rfl, I2, L2, rfl, hI⟩ -
  refine w_icmp_eq (tgt := 1309) dL_law_1172 (by decide) (fun _ => ?_) (fun h => absurd (rfl) h)
  exact hk I2 L2 hI

theorem law_lay {Inv : xF4 Int32 → xF4 Int64 → Prop} {S : Nat × (Nat → Int32)} {i : Nat} (hi : i + 5 ≤ S.1) (hL : S.1 ≤ 2560) (hk : ∀ I L, Inv I L → Wp 21 109 (m_law S) 1309 [some (vR 99 0 0), some (vR 0 0 0), some (vR 30 0 0), some (vI (nI i))] [] (rM I L) (fun v _ => v = some (vI 1))) {I : xF4 Int32} {L : xF4 Int64} (h : SimI Inv m_X10_lay m_X11_lay [vI (S.2 (i + 1)), vI (S.2 (i + 2)), vI (S.2 (i + 3))] I L) : Wp 21 109 (m_law S) 1177 [some (vR 99 0 0), some (vR 0 0 0), some (vR 30 0 0), some (vI (nI i))] [] (rM I L) (fun v _ => v = some (vI 1)) := by
  obtain ⟨x, P, h1, h2⟩ := h
  refine w_aload_n dL_law_1177 rfl ?_
  refine w_aload_n dL_law_1178 rfl ?_
  refine w_iload_n dL_law_1179 rfl ?_
  refine w_iconst (v := 1) dL_law_1180 (by decide) ?_
  refine w_iadd dL_law_1181 ?_
  rw [show ((nI i) + (1) : Int32) = nI (i + 1) from nI_add i 1]
  refine w_sld (a := i + 1) rfl (vp_in_nI (by omega) (by omega)) (nI_clamp (by omega)) dL_law_1182 ?_
  refine w_aload_n dL_law_1183 rfl ?_
  refine w_iload_n dL_law_1184 rfl ?_
  refine w_iconst (v := 2) dL_law_1185 (by decide) ?_
  refine w_iadd dL_law_1186 ?_
  rw [show ((nI i) + (2) : Int32) = nI (i + 2) from nI_add i 2]
  refine w_sld (a := i + 2) rfl (vp_in_nI (by omega) (by omega)) (nI_clamp (by omega)) dL_law_1187 ?_
  refine w_aload_n dL_law_1188 rfl ?_
  refine w_iload_n dL_law_1189 rfl ?_
  refine w_iconst (v := 3) dL_law_1190 (by decide) ?_
  refine w_iadd dL_law_1191 ?_
  rw [show ((nI i) + (3) : Int32) = nI (i + 3) from nI_add i 3]
  refine w_sld (a := i + 3) rfl (vp_in_nI (by omega) (by omega)) (nI_clamp (by omega)) dL_law_1192 ?_
  refine w_callV (as := [vI (S.2 (i + 1)), vI (S.2 (i + 2)), vI (S.2 (i + 3))]) (st := []) (Tri.mono (h1) (Nat.le_of_ble_eq_true rfl)) rfl rfl tg_X10_lay lk_RL_151 in_X10_lay se_X10_lay rfl dL_law_1193 rfl (Nat.le_of_ble_eq_true rfl) (Nat.le_refl _) (Nat.le_refl _) ?_
  rintro _ _ ⟨rfl, I1, L1, rfl, hP⟩ -
  refine w_aload_n dL_law_1196 rfl ?_
  refine w_aload_n dL_law_1197 rfl ?_
  refine w_iload_n dL_law_1198 rfl ?_
  refine w_iconst (v := 1) dL_law_1199 (by decide) ?_
  refine w_iadd dL_law_1200 ?_
  rw [show ((nI i) + (1) : Int32) = nI (i + 1) from nI_add i 1]
  refine w_sld (a := i + 1) rfl (vp_in_nI (by omega) (by omega)) (nI_clamp (by omega)) dL_law_1201 ?_
  refine w_aload_n dL_law_1202 rfl ?_
  refine w_iload_n dL_law_1203 rfl ?_
  refine w_iconst (v := 2) dL_law_1204 (by decide) ?_
  refine w_iadd dL_law_1205 ?_
  rw [show ((nI i) + (2) : Int32) = nI (i + 2) from nI_add i 2]
  refine w_sld (a := i + 2) rfl (vp_in_nI (by omega) (by omega)) (nI_clamp (by omega)) dL_law_1206 ?_
  refine w_aload_n dL_law_1207 rfl ?_
  refine w_iload_n dL_law_1208 rfl ?_
  refine w_iconst (v := 3) dL_law_1209 (by decide) ?_
  refine w_iadd dL_law_1210 ?_
  rw [show ((nI i) + (3) : Int32) = nI (i + 3) from nI_add i 3]
  refine w_sld (a := i + 3) rfl (vp_in_nI (by omega) (by omega)) (nI_clamp (by omega)) dL_law_1211 ?_
  refine w_callV (as := [vI (S.2 (i + 1)), vI (S.2 (i + 2)), vI (S.2 (i + 3))]) (st := [vI (x)]) (Tri.mono (h2 I1 L1 hP) (Nat.le_of_ble_eq_true rfl)) rfl rfl tg_X11_lay lk_RL_154 in_X11_lay se_X11_lay rfl dL_law_1212 rfl (Nat.le_of_ble_eq_true rfl) (Nat.le_refl _) (Nat.le_refl _) ?_
  rintro _ _ ⟨rfl, I2, L2, rfl, hI⟩ -
  refine w_icmp_eq (tgt := 1309) dL_law_1215 (by decide) (fun _ => ?_) (fun h => absurd (rfl) h)
  exact hk I2 L2 hI

theorem law_read {Inv : xF4 Int32 → xF4 Int64 → Prop} {S : Nat × (Nat → Int32)} {i : Nat} (hi : i + 5 ≤ S.1) (hL : S.1 ≤ 2560) (hk : ∀ I L, Inv I L → Wp 21 109 (m_law S) 1309 [some (vR 99 0 0), some (vR 0 0 0), some (vR 30 0 0), some (vI (nI i))] [] (rM I L) (fun v _ => v = some (vI 1))) {I : xF4 Int32} {L : xF4 Int64} (h : SimI Inv m_X10_read m_X11_read [vI (S.2 (i + 1)), vI (S.2 (i + 2)), vI (S.2 (i + 3)), vI (S.2 (i + 4))] I L) : Wp 21 109 (m_law S) 1220 [some (vR 99 0 0), some (vR 0 0 0), some (vR 30 0 0), some (vI (nI i))] [] (rM I L) (fun v _ => v = some (vI 1)) := by
  obtain ⟨x, P, h1, h2⟩ := h
  refine w_aload_n dL_law_1220 rfl ?_
  refine w_aload_n dL_law_1221 rfl ?_
  refine w_iload_n dL_law_1222 rfl ?_
  refine w_iconst (v := 1) dL_law_1223 (by decide) ?_
  refine w_iadd dL_law_1224 ?_
  rw [show ((nI i) + (1) : Int32) = nI (i + 1) from nI_add i 1]
  refine w_sld (a := i + 1) rfl (vp_in_nI (by omega) (by omega)) (nI_clamp (by omega)) dL_law_1225 ?_
  refine w_aload_n dL_law_1226 rfl ?_
  refine w_iload_n dL_law_1227 rfl ?_
  refine w_iconst (v := 2) dL_law_1228 (by decide) ?_
  refine w_iadd dL_law_1229 ?_
  rw [show ((nI i) + (2) : Int32) = nI (i + 2) from nI_add i 2]
  refine w_sld (a := i + 2) rfl (vp_in_nI (by omega) (by omega)) (nI_clamp (by omega)) dL_law_1230 ?_
  refine w_aload_n dL_law_1231 rfl ?_
  refine w_iload_n dL_law_1232 rfl ?_
  refine w_iconst (v := 3) dL_law_1233 (by decide) ?_
  refine w_iadd dL_law_1234 ?_
  rw [show ((nI i) + (3) : Int32) = nI (i + 3) from nI_add i 3]
  refine w_sld (a := i + 3) rfl (vp_in_nI (by omega) (by omega)) (nI_clamp (by omega)) dL_law_1235 ?_
  refine w_aload_n dL_law_1236 rfl ?_
  refine w_iload_n dL_law_1237 rfl ?_
  refine w_iconst (v := 4) dL_law_1238 (by decide) ?_
  refine w_iadd dL_law_1239 ?_
  rw [show ((nI i) + (4) : Int32) = nI (i + 4) from nI_add i 4]
  refine w_sld (a := i + 4) rfl (vp_in_nI (by omega) (by omega)) (nI_clamp (by omega)) dL_law_1240 ?_
  refine w_callV (as := [vI (S.2 (i + 1)), vI (S.2 (i + 2)), vI (S.2 (i + 3)), vI (S.2 (i + 4))]) (st := []) (Tri.mono (h1) (Nat.le_of_ble_eq_true rfl)) rfl rfl tg_X10_read lk_RL_155 in_X10_read se_X10_read rfl dL_law_1241 rfl (Nat.le_of_ble_eq_true rfl) (Nat.le_refl _) (Nat.le_refl _) ?_
  rintro _ _ ⟨rfl, I1, L1, rfl, hP⟩ -
  refine w_aload_n dL_law_1244 rfl ?_
  refine w_aload_n dL_law_1245 rfl ?_
  refine w_iload_n dL_law_1246 rfl ?_
  refine w_iconst (v := 1) dL_law_1247 (by decide) ?_
  refine w_iadd dL_law_1248 ?_
  rw [show ((nI i) + (1) : Int32) = nI (i + 1) from nI_add i 1]
  refine w_sld (a := i + 1) rfl (vp_in_nI (by omega) (by omega)) (nI_clamp (by omega)) dL_law_1249 ?_
  refine w_aload_n dL_law_1250 rfl ?_
  refine w_iload_n dL_law_1251 rfl ?_
  refine w_iconst (v := 2) dL_law_1252 (by decide) ?_
  refine w_iadd dL_law_1253 ?_
  rw [show ((nI i) + (2) : Int32) = nI (i + 2) from nI_add i 2]
  refine w_sld (a := i + 2) rfl (vp_in_nI (by omega) (by omega)) (nI_clamp (by omega)) dL_law_1254 ?_
  refine w_aload_n dL_law_1255 rfl ?_
  refine w_iload_n dL_law_1256 rfl ?_
  refine w_iconst (v := 3) dL_law_1257 (by decide) ?_
  refine w_iadd dL_law_1258 ?_
  rw [show ((nI i) + (3) : Int32) = nI (i + 3) from nI_add i 3]
  refine w_sld (a := i + 3) rfl (vp_in_nI (by omega) (by omega)) (nI_clamp (by omega)) dL_law_1259 ?_
  refine w_aload_n dL_law_1260 rfl ?_
  refine w_iload_n dL_law_1261 rfl ?_
  refine w_iconst (v := 4) dL_law_1262 (by decide) ?_
  refine w_iadd dL_law_1263 ?_
  rw [show ((nI i) + (4) : Int32) = nI (i + 4) from nI_add i 4]
  refine w_sld (a := i + 4) rfl (vp_in_nI (by omega) (by omega)) (nI_clamp (by omega)) dL_law_1264 ?_
  refine w_callV (as := [vI (S.2 (i + 1)), vI (S.2 (i + 2)), vI (S.2 (i + 3)), vI (S.2 (i + 4))]) (st := [vI (x)]) (Tri.mono (h2 I1 L1 hP) (Nat.le_of_ble_eq_true rfl)) rfl rfl tg_X11_read lk_RL_159 in_X11_read se_X11_read rfl dL_law_1265 rfl (Nat.le_of_ble_eq_true rfl) (Nat.le_refl _) (Nat.le_refl _) ?_
  rintro _ _ ⟨rfl, I2, L2, rfl, hI⟩ -
  refine w_icmp_eq (tgt := 1309) dL_law_1268 (by decide) (fun _ => ?_) (fun h => absurd (rfl) h)
  exact hk I2 L2 hI

theorem law_torn {Inv : xF4 Int32 → xF4 Int64 → Prop} {S : Nat × (Nat → Int32)} {i : Nat} (hi : i + 5 ≤ S.1) (hL : S.1 ≤ 2560) (hk : ∀ I L, Inv I L → Wp 21 109 (m_law S) 1309 [some (vR 99 0 0), some (vR 0 0 0), some (vR 30 0 0), some (vI (nI i))] [] (rM I L) (fun v _ => v = some (vI 1))) {I : xF4 Int32} {L : xF4 Int64} (h : SimI Inv m_X10_torn m_X11_torn [] I L) : Wp 21 109 (m_law S) 1273 [some (vR 99 0 0), some (vR 0 0 0), some (vR 30 0 0), some (vI (nI i))] [] (rM I L) (fun v _ => v = some (vI 1)) := by
  obtain ⟨x, P, h1, h2⟩ := h
  refine w_aload_n dL_law_1273 rfl ?_
  refine w_callV (as := []) (st := []) (Tri.mono (h1) (Nat.le_of_ble_eq_true rfl)) rfl rfl tg_X10_torn lk_RL_160 in_X10_torn se_X10_torn rfl dL_law_1274 rfl (Nat.le_of_ble_eq_true rfl) (Nat.le_refl _) (Nat.le_refl _) ?_
  rintro _ _ ⟨rfl, I1, L1, rfl, hP⟩ -
  refine w_aload_n dL_law_1277 rfl ?_
  refine w_callV (as := []) (st := [vI (x)]) (Tri.mono (h2 I1 L1 hP) (Nat.le_of_ble_eq_true rfl)) rfl rfl tg_X11_torn lk_RL_163 in_X11_torn se_X11_torn rfl dL_law_1278 rfl (Nat.le_of_ble_eq_true rfl) (Nat.le_refl _) (Nat.le_refl _) ?_
  rintro _ _ ⟨rfl, I2, L2, rfl, hI⟩ -
  refine w_icmp_eq (tgt := 1309) dL_law_1281 (by decide) (fun _ => ?_) (fun h => absurd (rfl) h)
  exact hk I2 L2 hI

theorem law_count {Inv : xF4 Int32 → xF4 Int64 → Prop} {S : Nat × (Nat → Int32)} {i : Nat} (hi : i + 5 ≤ S.1) (hL : S.1 ≤ 2560) (hk : ∀ I L, Inv I L → Wp 21 109 (m_law S) 1309 [some (vR 99 0 0), some (vR 0 0 0), some (vR 30 0 0), some (vI (nI i))] [] (rM I L) (fun v _ => v = some (vI 1))) {I : xF4 Int32} {L : xF4 Int64} (h : SimI Inv m_X10_count m_X11_count [vI (S.2 (i + 1))] I L) : Wp 21 109 (m_law S) 1286 [some (vR 99 0 0), some (vR 0 0 0), some (vR 30 0 0), some (vI (nI i))] [] (rM I L) (fun v _ => v = some (vI 1)) := by
  obtain ⟨x, P, h1, h2⟩ := h
  refine w_aload_n dL_law_1286 rfl ?_
  refine w_aload_n dL_law_1287 rfl ?_
  refine w_iload_n dL_law_1288 rfl ?_
  refine w_iconst (v := 1) dL_law_1289 (by decide) ?_
  refine w_iadd dL_law_1290 ?_
  rw [show ((nI i) + (1) : Int32) = nI (i + 1) from nI_add i 1]
  refine w_sld (a := i + 1) rfl (vp_in_nI (by omega) (by omega)) (nI_clamp (by omega)) dL_law_1291 ?_
  refine w_callV (as := [vI (S.2 (i + 1))]) (st := []) (Tri.mono (h1) (Nat.le_of_ble_eq_true rfl)) rfl rfl tg_X10_count lk_RL_164 in_X10_count se_X10_count rfl dL_law_1292 rfl (Nat.le_of_ble_eq_true rfl) (Nat.le_refl _) (Nat.le_refl _) ?_
  rintro _ _ ⟨rfl, I1, L1, rfl, hP⟩ -
  refine w_aload_n dL_law_1295 rfl ?_
  refine w_aload_n dL_law_1296 rfl ?_
  refine w_iload_n dL_law_1297 rfl ?_
  refine w_iconst (v := 1) dL_law_1298 (by decide) ?_
  refine w_iadd dL_law_1299 ?_
  rw [show ((nI i) + (1) : Int32) = nI (i + 1) from nI_add i 1]
  refine w_sld (a := i + 1) rfl (vp_in_nI (by omega) (by omega)) (nI_clamp (by omega)) dL_law_1300 ?_
  refine w_callV (as := [vI (S.2 (i + 1))]) (st := [vI (x)]) (Tri.mono (h2 I1 L1 hP) (Nat.le_of_ble_eq_true rfl)) rfl rfl tg_X11_count lk_RL_167 in_X11_count se_X11_count rfl dL_law_1301 rfl (Nat.le_of_ble_eq_true rfl) (Nat.le_refl _) (Nat.le_refl _) ?_
  rintro _ _ ⟨rfl, I2, L2, rfl, hI⟩ -
  refine w_icmp_eq (tgt := 1309) dL_law_1304 (by decide) (fun _ => ?_) (fun h => absurd (rfl) h)
  exact hk I2 L2 hI

/-- every call keeps the relation -/
def AllSim (Inv : xF4 Int32 → xF4 Int64 → Prop) : Prop :=
  (∀ (I : xF4 Int32) (L : xF4 Int64) (a : Int32), Inv I L → SimI Inv m_X10_feed m_X11_feed [vI a] I L) ∧
  (∀ (I : xF4 Int32) (L : xF4 Int64) (a : Int32), Inv I L → SimI Inv m_X10_end m_X11_end [vI a] I L) ∧
  (∀ (I : xF4 Int32) (L : xF4 Int64) , Inv I L → SimI Inv m_X10_text m_X11_text [] I L) ∧
  (∀ (I : xF4 Int32) (L : xF4 Int64) , Inv I L → SimI Inv m_X10_fault m_X11_fault [] I L) ∧
  (∀ (I : xF4 Int32) (L : xF4 Int64) (a : Int32), Inv I L → SimI Inv m_X10_rule m_X11_rule [vI a] I L) ∧
  (∀ (I : xF4 Int32) (L : xF4 Int64) (a : Int32) (b : Int32), Inv I L → SimI Inv m_X10_judge m_X11_judge [vI a, vI b] I L) ∧
  (∀ (I : xF4 Int32) (L : xF4 Int64) (a : Int32) (b : Int32), Inv I L → SimI Inv m_X10_suit m_X11_suit [vI a, vI b] I L) ∧
  (∀ (I : xF4 Int32) (L : xF4 Int64) (a : Int32) (b : Int32), Inv I L → SimI Inv m_X10_tenth m_X11_tenth [vI a, vI b] I L) ∧
  (∀ (I : xF4 Int32) (L : xF4 Int64) (a : Int32) (b : Int32) (c : Int32), Inv I L → SimI Inv m_X10_alter m_X11_alter [vI a, vI b, vI c] I L) ∧
  (∀ (I : xF4 Int32) (L : xF4 Int64) (a : Int32) (b : Int32) (c : Int32), Inv I L → SimI Inv m_X10_amend m_X11_amend [vI a, vI b, vI c] I L) ∧
  (∀ (I : xF4 Int32) (L : xF4 Int64) (a : Int32), Inv I L → SimI Inv m_X10_crime m_X11_crime [vI a] I L) ∧
  (∀ (I : xF4 Int32) (L : xF4 Int64) (a : Int32) (b : Int32), Inv I L → SimI Inv m_X10_can m_X11_can [vI a, vI b] I L) ∧
  (∀ (I : xF4 Int32) (L : xF4 Int64) (a : Int32) (b : Int32) (c : Int32), Inv I L → SimI Inv m_X10_give m_X11_give [vI a, vI b, vI c] I L) ∧
  (∀ (I : xF4 Int32) (L : xF4 Int64) (a : Int32), Inv I L → SimI Inv m_X10_appeal m_X11_appeal [vI a] I L) ∧
  (∀ (I : xF4 Int32) (L : xF4 Int64) (a : Int32), Inv I L → SimI Inv m_X10_days m_X11_days [vI a] I L) ∧
  (∀ (I : xF4 Int32) (L : xF4 Int64) (a : Int32) (b : Int32), Inv I L → SimI Inv m_X10_docket m_X11_docket [vI a, vI b] I L) ∧
  (∀ (I : xF4 Int32) (L : xF4 Int64) (a : Int32) (b : Int32), Inv I L → SimI Inv m_X10_hears m_X11_hears [vI a, vI b] I L) ∧
  (∀ (I : xF4 Int32) (L : xF4 Int64) (a : Int32), Inv I L → SimI Inv m_X10_best m_X11_best [vI a] I L) ∧
  (∀ (I : xF4 Int32) (L : xF4 Int64) (a : Int32) (b : Int32), Inv I L → SimI Inv m_X10_deter m_X11_deter [vI a, vI b] I L) ∧
  (∀ (I : xF4 Int32) (L : xF4 Int64) (a : Int32) (b : Int32), Inv I L → SimI Inv m_X10_order m_X11_order [vI a, vI b] I L) ∧
  (∀ (I : xF4 Int32) (L : xF4 Int64) (a : Int32), Inv I L → SimI Inv m_X10_spare m_X11_spare [vI a] I L) ∧
  (∀ (I : xF4 Int32) (L : xF4 Int64) , Inv I L → SimI Inv m_X10_hopeless m_X11_hopeless [] I L) ∧
  (∀ (I : xF4 Int32) (L : xF4 Int64) (a : Int32) (b : Int32), Inv I L → SimL Inv m_X10_mean m_X11_mean [vI a, vI b] I L) ∧
  (∀ (I : xF4 Int32) (L : xF4 Int64) (a : Int32) (b : Int32) (c : Int32), Inv I L → SimL Inv m_X10_luck m_X11_luck [vI a, vI b, vI c] I L) ∧
  (∀ (I : xF4 Int32) (L : xF4 Int64) (a : Int32) (b : Int32) (c : Int32), Inv I L → SimI Inv m_X10_see m_X11_see [vI a, vI b, vI c] I L) ∧
  (∀ (I : xF4 Int32) (L : xF4 Int64) (a : Int32), Inv I L → SimI Inv m_X10_forget m_X11_forget [vI a] I L) ∧
  (∀ (I : xF4 Int32) (L : xF4 Int64) (a : Int32), Inv I L → SimI Inv m_X10_kinds m_X11_kinds [vI a] I L) ∧
  (∀ (I : xF4 Int32) (L : xF4 Int64) (a : Int32) (b : Int32), Inv I L → SimI Inv m_X10_terms m_X11_terms [vI a, vI b] I L) ∧
  (∀ (I : xF4 Int32) (L : xF4 Int64) (a : Int32) (b : Int32), Inv I L → SimI Inv m_X10_ask m_X11_ask [vI a, vI b] I L) ∧
  (∀ (I : xF4 Int32) (L : xF4 Int64) (a : Int32) (b : Int32) (c : Int32), Inv I L → SimI Inv m_X10_drift m_X11_drift [vI a, vI b, vI c] I L) ∧
  (∀ (I : xF4 Int32) (L : xF4 Int64) (a : Int32), Inv I L → SimI Inv m_X10_keep m_X11_keep [vI a] I L) ∧
  (∀ (I : xF4 Int32) (L : xF4 Int64) (a : Int32), Inv I L → SimI Inv m_X10_back m_X11_back [vI a] I L) ∧
  (∀ (I : xF4 Int32) (L : xF4 Int64) (a : Int32) (b : Int32) (c : Int32), Inv I L → SimI Inv m_X10_sheet m_X11_sheet [vI a, vI b, vI c] I L) ∧
  (∀ (I : xF4 Int32) (L : xF4 Int64) (a : Int32) (b : Int32) (c : Int32), Inv I L → SimI Inv m_X10_lay m_X11_lay [vI a, vI b, vI c] I L) ∧
  (∀ (I : xF4 Int32) (L : xF4 Int64) (a : Int32) (b : Int32) (c : Int32) (e : Int32), Inv I L → SimI Inv m_X10_read m_X11_read [vI a, vI b, vI c, vI e] I L) ∧
  (∀ (I : xF4 Int32) (L : xF4 Int64) , Inv I L → SimI Inv m_X10_torn m_X11_torn [] I L) ∧
  (∀ (I : xF4 Int32) (L : xF4 Int64) (a : Int32), Inv I L → SimI Inv m_X10_count m_X11_count [vI a] I L)

theorem law_loop {Inv : xF4 Int32 → xF4 Int64 → Prop} (hA : AllSim Inv) {S : Nat × (Nat → Int32)} (hL : S.1 ≤ 2560) : ∀ (m i : Nat) (I : xF4 Int32) (L : xF4 Int64), (i ≤ S.1 ∧ S.1 < i + m) → Inv I L → Wp 21 109 (m_law S) 18 [some (vR 99 0 0), some (vR 0 0 0), some (vR 30 0 0), some (vI (nI i))] [] (rM I L) (fun v _ => v = some (vI 1)) := by
  intro m
  induction m with
  | zero =>
    intro i I L hm hI
    exact absurd hm (by omega)
  | succ m ih =>
    intro i I L hm hI
    have hA1 := hA
    obtain ⟨s_feed, s_end, s_text, s_fault, s_rule, s_judge, s_suit, s_tenth, s_alter, s_amend, s_crime, s_can, s_give, s_appeal, s_days, s_docket, s_hears, s_best, s_deter, s_order, s_spare, s_hopeless, s_mean, s_luck, s_see, s_forget, s_kinds, s_terms, s_ask, s_drift, s_keep, s_back, s_sheet, s_lay, s_read, s_torn, s_count⟩ := hA1
    refine w_iload_n dL_law_18 rfl ?_
    refine w_aload_n dL_law_19 rfl ?_
    refine w_slen rfl dL_law_20 ?_
    refine w_iconst (v := 5) dL_law_21 (by decide) ?_
    refine w_isub dL_law_22 ?_
    refine w_icmp_gt (tgt := 1315) dL_law_23 (by decide) (fun h1 => ?_) (fun h1 => ?_)
    · skip
      refine w_iconst (v := 1) dL_law_1315 (by decide) ?_
      exact w_ireturn dL_law_1316 rfl (rfl) rfl (rfl)
    · skip
      have hi : i + 5 ≤ S.1 := lw_more hL (by omega) h1
      refine w_aload_n dL_law_26 rfl ?_
      refine w_iload_n dL_law_27 rfl ?_
      refine w_sld (a := i) rfl (vp_in_nI (by omega) (by omega)) (nI_clamp (by omega)) dL_law_28 ?_
      refine w_bipush (v := 63) dL_law_29 (by decide) ?_
      refine w_iand dL_law_31 ?_
      have hk : ∀ I L, Inv I L → Wp 21 109 (m_law S) 1309 [some (vR 99 0 0), some (vR 0 0 0), some (vR 30 0 0), some (vI (nI i))] [] (rM I L) (fun v _ => v = some (vI 1)) := by
        intro I L hI
        refine w_iinc (v := nI (i + 5)) (ls' := [some (vR 99 0 0), some (vR 0 0 0), some (vR 30 0 0), some (vI (nI (i + 5)))]) dL_law_1309 rfl (nI_add i 5) rfl ?_
        refine w_goto (tgt := 18) dL_law_1312 (by decide) ?_
        exact ih (i + 5) I L (by omega) hI
      generalize hx : (S.2 i) &&& (63) = x
      by_cases h1_0 : x = 0
      · skip
        refine w_tabIn (off := 164) (tgt := 196) dL_law_32 (by rw [h1_0]; decide) (by rw [h1_0]; decide) (by rw [h1_0]; rfl) (by decide) ?_
        exact law_feed hi hL hk (s_feed I L _ hI)
      by_cases h1_1 : x = 1
      · skip
        refine w_tabIn (off := 187) (tgt := 219) dL_law_32 (by rw [h1_1]; decide) (by rw [h1_1]; decide) (by rw [h1_1]; rfl) (by decide) ?_
        exact law_end hi hL hk (s_end I L _ hI)
      by_cases h1_2 : x = 2
      · skip
        refine w_tabIn (off := 210) (tgt := 242) dL_law_32 (by rw [h1_2]; decide) (by rw [h1_2]; decide) (by rw [h1_2]; rfl) (by decide) ?_
        exact law_text hi hL hk (s_text I L  hI)
      by_cases h1_3 : x = 3
      · skip
        refine w_tabIn (off := 223) (tgt := 255) dL_law_32 (by rw [h1_3]; decide) (by rw [h1_3]; decide) (by rw [h1_3]; rfl) (by decide) ?_
        exact law_fault hi hL hk (s_fault I L  hI)
      by_cases h1_4 : x = 4
      · skip
        refine w_tabIn (off := 236) (tgt := 268) dL_law_32 (by rw [h1_4]; decide) (by rw [h1_4]; decide) (by rw [h1_4]; rfl) (by decide) ?_
        exact law_rule hi hL hk (s_rule I L _ hI)
      by_cases h1_5 : x = 5
      · skip
        refine w_tabIn (off := 259) (tgt := 291) dL_law_32 (by rw [h1_5]; decide) (by rw [h1_5]; decide) (by rw [h1_5]; rfl) (by decide) ?_
        exact law_judge hi hL hk (s_judge I L _ _ hI)
      by_cases h1_6 : x = 6
      · skip
        refine w_tabIn (off := 292) (tgt := 324) dL_law_32 (by rw [h1_6]; decide) (by rw [h1_6]; decide) (by rw [h1_6]; rfl) (by decide) ?_
        exact law_suit hi hL hk (s_suit I L _ _ hI)
      by_cases h1_7 : x = 7
      · skip
        refine w_tabIn (off := 325) (tgt := 357) dL_law_32 (by rw [h1_7]; decide) (by rw [h1_7]; decide) (by rw [h1_7]; rfl) (by decide) ?_
        exact law_tenth hi hL hk (s_tenth I L _ _ hI)
      by_cases h1_8 : x = 8
      · skip
        refine w_tabIn (off := 358) (tgt := 390) dL_law_32 (by rw [h1_8]; decide) (by rw [h1_8]; decide) (by rw [h1_8]; rfl) (by decide) ?_
        exact law_alter hi hL hk (s_alter I L _ _ _ hI)
      by_cases h1_9 : x = 9
      · skip
        refine w_tabIn (off := 401) (tgt := 433) dL_law_32 (by rw [h1_9]; decide) (by rw [h1_9]; decide) (by rw [h1_9]; rfl) (by decide) ?_
        exact law_amend hi hL hk (s_amend I L _ _ _ hI)
      by_cases h1_10 : x = 10
      · skip
        refine w_tabIn (off := 444) (tgt := 476) dL_law_32 (by rw [h1_10]; decide) (by rw [h1_10]; decide) (by rw [h1_10]; rfl) (by decide) ?_
        exact law_crime hi hL hk (s_crime I L _ hI)
      by_cases h1_11 : x = 11
      · skip
        refine w_tabIn (off := 467) (tgt := 499) dL_law_32 (by rw [h1_11]; decide) (by rw [h1_11]; decide) (by rw [h1_11]; rfl) (by decide) ?_
        exact law_can hi hL hk (s_can I L _ _ hI)
      by_cases h1_12 : x = 12
      · skip
        refine w_tabIn (off := 500) (tgt := 532) dL_law_32 (by rw [h1_12]; decide) (by rw [h1_12]; decide) (by rw [h1_12]; rfl) (by decide) ?_
        exact law_give hi hL hk (s_give I L _ _ _ hI)
      by_cases h1_13 : x = 13
      · skip
        refine w_tabIn (off := 543) (tgt := 575) dL_law_32 (by rw [h1_13]; decide) (by rw [h1_13]; decide) (by rw [h1_13]; rfl) (by decide) ?_
        exact law_appeal hi hL hk (s_appeal I L _ hI)
      by_cases h1_14 : x = 14
      · skip
        refine w_tabIn (off := 566) (tgt := 598) dL_law_32 (by rw [h1_14]; decide) (by rw [h1_14]; decide) (by rw [h1_14]; rfl) (by decide) ?_
        exact law_days hi hL hk (s_days I L _ hI)
      by_cases h1_15 : x = 15
      · skip
        refine w_tabIn (off := 589) (tgt := 621) dL_law_32 (by rw [h1_15]; decide) (by rw [h1_15]; decide) (by rw [h1_15]; rfl) (by decide) ?_
        exact law_docket hi hL hk (s_docket I L _ _ hI)
      by_cases h1_16 : x = 16
      · skip
        refine w_tabIn (off := 622) (tgt := 654) dL_law_32 (by rw [h1_16]; decide) (by rw [h1_16]; decide) (by rw [h1_16]; rfl) (by decide) ?_
        exact law_hears hi hL hk (s_hears I L _ _ hI)
      by_cases h1_17 : x = 17
      · skip
        refine w_tabIn (off := 655) (tgt := 687) dL_law_32 (by rw [h1_17]; decide) (by rw [h1_17]; decide) (by rw [h1_17]; rfl) (by decide) ?_
        exact law_best hi hL hk (s_best I L _ hI)
      by_cases h1_18 : x = 18
      · skip
        refine w_tabIn (off := 678) (tgt := 710) dL_law_32 (by rw [h1_18]; decide) (by rw [h1_18]; decide) (by rw [h1_18]; rfl) (by decide) ?_
        exact law_deter hi hL hk (s_deter I L _ _ hI)
      by_cases h1_19 : x = 19
      · skip
        refine w_tabIn (off := 711) (tgt := 743) dL_law_32 (by rw [h1_19]; decide) (by rw [h1_19]; decide) (by rw [h1_19]; rfl) (by decide) ?_
        exact law_order hi hL hk (s_order I L _ _ hI)
      by_cases h1_20 : x = 20
      · skip
        refine w_tabIn (off := 744) (tgt := 776) dL_law_32 (by rw [h1_20]; decide) (by rw [h1_20]; decide) (by rw [h1_20]; rfl) (by decide) ?_
        exact law_spare hi hL hk (s_spare I L _ hI)
      by_cases h1_21 : x = 21
      · skip
        refine w_tabIn (off := 767) (tgt := 799) dL_law_32 (by rw [h1_21]; decide) (by rw [h1_21]; decide) (by rw [h1_21]; rfl) (by decide) ?_
        exact law_hopeless hi hL hk (s_hopeless I L  hI)
      by_cases h1_22 : x = 22
      · skip
        refine w_tabIn (off := 780) (tgt := 812) dL_law_32 (by rw [h1_22]; decide) (by rw [h1_22]; decide) (by rw [h1_22]; rfl) (by decide) ?_
        exact law_mean hi hL hk (s_mean I L _ _ hI)
      by_cases h1_23 : x = 23
      · skip
        refine w_tabIn (off := 814) (tgt := 846) dL_law_32 (by rw [h1_23]; decide) (by rw [h1_23]; decide) (by rw [h1_23]; rfl) (by decide) ?_
        exact law_luck hi hL hk (s_luck I L _ _ _ hI)
      by_cases h1_24 : x = 24
      · skip
        refine w_tabIn (off := 858) (tgt := 890) dL_law_32 (by rw [h1_24]; decide) (by rw [h1_24]; decide) (by rw [h1_24]; rfl) (by decide) ?_
        exact law_see hi hL hk (s_see I L _ _ _ hI)
      by_cases h1_25 : x = 25
      · skip
        refine w_tabIn (off := 901) (tgt := 933) dL_law_32 (by rw [h1_25]; decide) (by rw [h1_25]; decide) (by rw [h1_25]; rfl) (by decide) ?_
        exact law_forget hi hL hk (s_forget I L _ hI)
      by_cases h1_26 : x = 26
      · skip
        refine w_tabIn (off := 924) (tgt := 956) dL_law_32 (by rw [h1_26]; decide) (by rw [h1_26]; decide) (by rw [h1_26]; rfl) (by decide) ?_
        exact law_kinds hi hL hk (s_kinds I L _ hI)
      by_cases h1_27 : x = 27
      · skip
        refine w_tabIn (off := 947) (tgt := 979) dL_law_32 (by rw [h1_27]; decide) (by rw [h1_27]; decide) (by rw [h1_27]; rfl) (by decide) ?_
        exact law_terms hi hL hk (s_terms I L _ _ hI)
      by_cases h1_28 : x = 28
      · skip
        refine w_tabIn (off := 980) (tgt := 1012) dL_law_32 (by rw [h1_28]; decide) (by rw [h1_28]; decide) (by rw [h1_28]; rfl) (by decide) ?_
        exact law_ask hi hL hk (s_ask I L _ _ hI)
      by_cases h1_29 : x = 29
      · skip
        refine w_tabIn (off := 1013) (tgt := 1045) dL_law_32 (by rw [h1_29]; decide) (by rw [h1_29]; decide) (by rw [h1_29]; rfl) (by decide) ?_
        exact law_drift hi hL hk (s_drift I L _ _ _ hI)
      by_cases h1_30 : x = 30
      · skip
        refine w_tabIn (off := 1056) (tgt := 1088) dL_law_32 (by rw [h1_30]; decide) (by rw [h1_30]; decide) (by rw [h1_30]; rfl) (by decide) ?_
        exact law_keep hi hL hk (s_keep I L _ hI)
      by_cases h1_31 : x = 31
      · skip
        refine w_tabIn (off := 1079) (tgt := 1111) dL_law_32 (by rw [h1_31]; decide) (by rw [h1_31]; decide) (by rw [h1_31]; rfl) (by decide) ?_
        exact law_back hi hL hk (s_back I L _ hI)
      by_cases h1_32 : x = 32
      · skip
        refine w_tabIn (off := 1102) (tgt := 1134) dL_law_32 (by rw [h1_32]; decide) (by rw [h1_32]; decide) (by rw [h1_32]; rfl) (by decide) ?_
        exact law_sheet hi hL hk (s_sheet I L _ _ _ hI)
      by_cases h1_33 : x = 33
      · skip
        refine w_tabIn (off := 1145) (tgt := 1177) dL_law_32 (by rw [h1_33]; decide) (by rw [h1_33]; decide) (by rw [h1_33]; rfl) (by decide) ?_
        exact law_lay hi hL hk (s_lay I L _ _ _ hI)
      by_cases h1_34 : x = 34
      · skip
        refine w_tabIn (off := 1188) (tgt := 1220) dL_law_32 (by rw [h1_34]; decide) (by rw [h1_34]; decide) (by rw [h1_34]; rfl) (by decide) ?_
        exact law_read hi hL hk (s_read I L _ _ _ _ hI)
      by_cases h1_35 : x = 35
      · skip
        refine w_tabIn (off := 1241) (tgt := 1273) dL_law_32 (by rw [h1_35]; decide) (by rw [h1_35]; decide) (by rw [h1_35]; rfl) (by decide) ?_
        exact law_torn hi hL hk (s_torn I L  hI)
      by_cases h1_36 : x = 36
      · skip
        refine w_tabIn (off := 1254) (tgt := 1286) dL_law_32 (by rw [h1_36]; decide) (by rw [h1_36]; decide) (by rw [h1_36]; rfl) (by decide) ?_
        exact law_count hi hL hk (s_count I L _ hI)
      refine w_tabOut (tgt := 1309) dL_law_32 (i32_out (lo := 0) (hi := 36) (fun k h1 h2 e => ?_)) (by decide) ?_
      · skip
        rcases (show k = 0 ∨ k = 1 ∨ k = 2 ∨ k = 3 ∨ k = 4 ∨ k = 5 ∨ k = 6 ∨ k = 7 ∨ k = 8 ∨ k = 9 ∨ k = 10 ∨ k = 11 ∨ k = 12 ∨ k = 13 ∨ k = 14 ∨ k = 15 ∨ k = 16 ∨ k = 17 ∨ k = 18 ∨ k = 19 ∨ k = 20 ∨ k = 21 ∨ k = 22 ∨ k = 23 ∨ k = 24 ∨ k = 25 ∨ k = 26 ∨ k = 27 ∨ k = 28 ∨ k = 29 ∨ k = 30 ∨ k = 31 ∨ k = 32 ∨ k = 33 ∨ k = 34 ∨ k = 35 ∨ k = 36 by omega) with rfl | rfl | rfl | rfl | rfl | rfl | rfl | rfl | rfl | rfl | rfl | rfl | rfl | rfl | rfl | rfl | rfl | rfl | rfl | rfl | rfl | rfl | rfl | rfl | rfl | rfl | rfl | rfl | rfl | rfl | rfl | rfl | rfl | rfl | rfl | rfl | rfl
        · exact h1_0 (i32_ofT e (by decide))
        · exact h1_1 (i32_ofT e (by decide))
        · exact h1_2 (i32_ofT e (by decide))
        · exact h1_3 (i32_ofT e (by decide))
        · exact h1_4 (i32_ofT e (by decide))
        · exact h1_5 (i32_ofT e (by decide))
        · exact h1_6 (i32_ofT e (by decide))
        · exact h1_7 (i32_ofT e (by decide))
        · exact h1_8 (i32_ofT e (by decide))
        · exact h1_9 (i32_ofT e (by decide))
        · exact h1_10 (i32_ofT e (by decide))
        · exact h1_11 (i32_ofT e (by decide))
        · exact h1_12 (i32_ofT e (by decide))
        · exact h1_13 (i32_ofT e (by decide))
        · exact h1_14 (i32_ofT e (by decide))
        · exact h1_15 (i32_ofT e (by decide))
        · exact h1_16 (i32_ofT e (by decide))
        · exact h1_17 (i32_ofT e (by decide))
        · exact h1_18 (i32_ofT e (by decide))
        · exact h1_19 (i32_ofT e (by decide))
        · exact h1_20 (i32_ofT e (by decide))
        · exact h1_21 (i32_ofT e (by decide))
        · exact h1_22 (i32_ofT e (by decide))
        · exact h1_23 (i32_ofT e (by decide))
        · exact h1_24 (i32_ofT e (by decide))
        · exact h1_25 (i32_ofT e (by decide))
        · exact h1_26 (i32_ofT e (by decide))
        · exact h1_27 (i32_ofT e (by decide))
        · exact h1_28 (i32_ofT e (by decide))
        · exact h1_29 (i32_ofT e (by decide))
        · exact h1_30 (i32_ofT e (by decide))
        · exact h1_31 (i32_ofT e (by decide))
        · exact h1_32 (i32_ofT e (by decide))
        · exact h1_33 (i32_ofT e (by decide))
        · exact h1_34 (i32_ofT e (by decide))
        · exact h1_35 (i32_ofT e (by decide))
        · exact h1_36 (i32_ofT e (by decide))
      exact hk I L hI
