/-! the reference's lines (by wip/whole/gen/g87.py) -/
def DM (I : xF4 Int32) (a : aA) (t : Bool) : Prop := I 30 0 0 6 = nI (nJ a) ∧ I 30 0 0 7 = nI (nC a) ∧ I 30 0 0 8 = tI t ∧ NowIs I 34 0 a ∧ (∀ j, nJ a ≤ j → j < 4 → I 34 0 0 (5 * j + 3) = 0 ∧ I 34 0 0 (5 * j + 4) = 0) ∧ (∀ c, nC a ≤ c → c < 5 → I 34 0 0 (20 + 7 * c + 4) = 0 ∧ I 34 0 0 (20 + 7 * c + 5) = -4 ∧ I 34 0 0 (20 + 7 * c + 6) = 0)
/-- what the reading of a text writes on -/
def FrY (I I' : xF4 Int32) : Prop := ∀ t b j s, t ≠ 34 → ¬ (t = 30 ∧ (s = 6 ∨ s = 7 ∨ s = 8 ∨ (11 ≤ s ∧ s ≤ 16))) → I' t b j s = I t b j s
theorem FrY.rf {I : xF4 Int32} : FrY I I := fun _ _ _ _ _ _ => rfl
theorem FrY.tr {I I1 I2 : xF4 Int32} (h1 : FrY I I1) (h2 : FrY I1 I2) : FrY I I2 := fun t b j s p q => (h2 t b j s p q).trans (h1 t b j s p q)
theorem FrN.y {I I' : xF4 Int32} (h : FrN I I') : FrY I I' := fun t b j s _ q => h t b j s (fun z => q ⟨z.1, by omega⟩)
theorem FrY.up34 {I I1 : xF4 Int32} {k j s : Nat} {v : Int32} (h : FrY I I1) : FrY I (xup I1 34 k j s v) := fun t b j' s' p q => (xup_tag p).trans (h t b j' s' p q)
theorem FrY.up30 {I I1 : xF4 Int32} {s : Nat} {v : Int32} (h : FrY I I1) (hs : s = 6 ∨ s = 7 ∨ s = 8 ∨ (11 ≤ s ∧ s ≤ 16)) : FrY I (xup I1 30 0 0 s v) := fun t b j s' p q => by
  unfold xup
  rw [if_neg (by rintro ⟨rfl, rfl, rfl, rfl⟩; exact q ⟨rfl, hs⟩)]
  exact h t b j s' p q
theorem TN.y {I I' : xF4 Int32} {n : Nat} {b : Nat → Nat} (h : TN I n b) (f : FrY I I') : TN I' n b := ⟨(f 30 0 0 10 (by omega) (by omega)).trans h.1, fun i hi => (f 35 0 0 i (by omega) (by omega)).trans (h.2 i hi)⟩
theorem TM.eqv {I I' : xF4 Int32} : ∀ {s : tS}, TM I s → (∀ x, 11 ≤ x ∧ x ≤ 16 → I' 30 0 0 x = I 30 0 0 x) → TM I' s
  | .inl _, h, e => ⟨(e 15 (by omega)).trans h.1, (e 16 (by omega)).trans h.2⟩
  | .inr _, h, e => ⟨(e 15 (by omega)).trans h.1, (e 13 (by omega)).trans h.2.1, (e 12 (by omega)).trans h.2.2.1, (e 11 (by omega)).trans h.2.2.2.1, fun z => (e 14 (by omega)).trans (h.2.2.2.2 z)⟩
theorem DM.eqv {I I' : xF4 Int32} {a : aA} {t : Bool} (h : DM I a t) (e3 : ∀ x, I' 34 0 0 x = I 34 0 0 x) (e0 : ∀ x, x = 6 ∨ x = 7 ∨ x = 8 → I' 30 0 0 x = I 30 0 0 x) : DM I' a t := by
  obtain ⟨h1, h2, h3, h4, h5, h6⟩ := h
  exact ⟨(e0 6 (by omega)).trans h1, (e0 7 (by omega)).trans h2, (e0 8 (by omega)).trans h3, h4.fr e3, fun j p q => ⟨(e3 _).trans (h5 j p q).1, (e3 _).trans (h5 j p q).2⟩, fun c p q => ⟨(e3 _).trans (h6 c p q).1, (e3 _).trans (h6 c p q).2.1, (e3 _).trans (h6 c p q).2.2⟩⟩
theorem DM.n {I I' : xF4 Int32} {a : aA} {t : Bool} (h : DM I a t) (f : FrN I I') : DM I' a t := h.eqv (fun x => f 34 0 0 x (by omega)) (fun x hx => f 30 0 0 x (by omega))
theorem DM.addJ {I I' : xF4 Int32} {a : aA} {t : Bool} (h : DM I a t) (hd : DOK a) (hx : nJ a < 4) {w x p : Nat} (e6 : I' 30 0 0 6 = nI (nJ a + 1)) (e7 : I' 30 0 0 7 = I 30 0 0 7) (e8 : I' 30 0 0 8 = I 30 0 0 8) (v0 : I' 34 0 0 (5 * nJ a) = nI w) (v1 : I' 34 0 0 (5 * nJ a + 1) = nI x) (v2 : I' 34 0 0 (5 * nJ a + 2) = nI p)
    (er : ∀ y, y ≠ 5 * nJ a → y ≠ 5 * nJ a + 1 → y ≠ 5 * nJ a + 2 → I' 34 0 0 y = I 34 0 0 y) : DM I' (adJ a w x p) t := by
  obtain ⟨h1, h2, h3, ⟨q1, q2, q3, q4, q5, q6⟩, h5, h6⟩ := h
  refine ⟨e6, e7.trans h2, e8.trans h3, ⟨fun j hj => ?_, fun c hc => ⟨fun f hf h9 => (er _ (by omega) (by omega) (by omega)).trans ((q2 c hc).1 f hf h9), (er _ (by omega) (by omega) (by omega)).trans (q2 c hc).2⟩, (er _ (by omega) (by omega) (by omega)).trans q3, (er _ (by omega) (by omega) (by omega)).trans q4, (er _ (by omega) (by omega) (by omega)).trans q5, fun i hi f hf => (er _ (by omega) (by omega) (by omega)).trans (q6 i hi f hf)⟩, fun j p1 p2 => ?_, fun c p1 p2 => ⟨(er _ (by omega) (by omega) (by omega)).trans (h6 c p1 p2).1, (er _ (by omega) (by omega) (by omega)).trans (h6 c p1 p2).2.1, (er _ (by omega) (by omega) (by omega)).trans (h6 c p1 p2).2.2⟩⟩
  · by_cases e : j = nJ a
    · subst e
      obtain ⟨z1, z2⟩ := h5 (nJ a) (Nat.le_refl _) hx
      refine ⟨fun f hf => ?_, ?_⟩
      · rcases (show f = 0 ∨ f = 1 ∨ f = 2 ∨ f = 3 by omega) with rfl | rfl | rfl | rfl
        · rw [show 0 + (5 * nJ a + 0) = 5 * nJ a by omega, v0]; simp [jF, adJ, mkA, up2]
        · rw [show 0 + (5 * nJ a + 1) = 5 * nJ a + 1 by omega, v1]; simp [jF, adJ, mkA, up2]
        · rw [show 0 + (5 * nJ a + 2) = 5 * nJ a + 2 by omega, v2]; simp [jF, adJ, mkA, up2]
        · rw [show 0 + (5 * nJ a + 3) = 5 * nJ a + 3 by omega, er _ (by omega) (by omega) (by omega), z1]; simp [jF, adJ, mkA, up2]; rfl
      · rw [show 0 + (5 * nJ a + 4) = 5 * nJ a + 4 by omega, er _ (by omega) (by omega) (by omega), z2]; simp [sC, adJ, mkA, up1]
    · have hj3 : j < nJ a + 1 := hj
      have y1 : ∀ f, jF (adJ a w x p) j f = jF a j f := fun f => by simp [jF, adJ, mkA, up2, e, JF]
      have y2 : sC (adJ a w x p) j = sC a j := by simp [sC, adJ, mkA, up1, e, SC]
      refine ⟨fun f hf => ?_, ?_⟩
      · rw [y1]
        exact (er _ (by omega) (by omega) (by omega)).trans ((q1 j (by omega)).1 f hf)
      · rw [y2]
        exact (er _ (by omega) (by omega) (by omega)).trans (q1 j (by omega)).2
  · have p3 : nJ a + 1 ≤ j := p1
    exact ⟨(er _ (by omega) (by omega) (by omega)).trans (h5 j (by omega) p2).1, (er _ (by omega) (by omega) (by omega)).trans (h5 j (by omega) p2).2⟩
theorem DM.addS {I I' : xF4 Int32} {a : aA} {t : Bool} (h : DM I a t) (hd : DOK a) (hx : nC a < 5) {s l m d : Nat} (e6 : I' 30 0 0 6 = I 30 0 0 6) (e7 : I' 30 0 0 7 = nI (nC a + 1)) (e8 : I' 30 0 0 8 = I 30 0 0 8) (v0 : I' 34 0 0 (20 + 7 * nC a) = nI s) (v1 : I' 34 0 0 (20 + 7 * nC a + 1) = nI l) (v2 : I' 34 0 0 (20 + 7 * nC a + 2) = nI m) (v3 : I' 34 0 0 (20 + 7 * nC a + 3) = nI d)
    (er : ∀ y, y ≠ 20 + 7 * nC a → y ≠ 20 + 7 * nC a + 1 → y ≠ 20 + 7 * nC a + 2 → y ≠ 20 + 7 * nC a + 3 → I' 34 0 0 y = I 34 0 0 y) : DM I' (adS a s l m d) t := by
  obtain ⟨h1, h2, h3, ⟨q1, q2, q3, q4, q5, q6⟩, h5, h6⟩ := h
  have w1 := hd.1.1
  refine ⟨e6.trans h1, e7, e8.trans h3, ⟨fun j hj => by
    have hj : j < nJ a := hj
    exact ⟨fun f hf => (er _ (by omega) (by omega) (by omega) (by omega)).trans ((q1 j hj).1 f hf), (er _ (by omega) (by omega) (by omega) (by omega)).trans (q1 j hj).2⟩, fun c hc => ?_, (er _ (by omega) (by omega) (by omega) (by omega)).trans q3, (er _ (by omega) (by omega) (by omega) (by omega)).trans q4, (er _ (by omega) (by omega) (by omega) (by omega)).trans q5, fun i hi f hf => (er _ (by omega) (by omega) (by omega) (by omega)).trans (q6 i hi f hf)⟩, fun j p1 p2 => ⟨(er _ (by omega) (by omega) (by omega) (by omega)).trans (h5 j p1 p2).1, (er _ (by omega) (by omega) (by omega) (by omega)).trans (h5 j p1 p2).2⟩, fun c p1 p2 => ?_⟩
  · by_cases e : c = nC a
    · subst e
      obtain ⟨z1, z2, z3⟩ := h6 (nC a) (Nat.le_refl _) hx
      refine ⟨fun f hf h9 => ?_, ?_⟩
      · rcases (show f = 0 ∨ f = 1 ∨ f = 2 ∨ f = 3 ∨ f = 4 ∨ f = 6 by omega) with rfl | rfl | rfl | rfl | rfl | rfl
        · rw [show 0 + (20 + 7 * nC a + 0) = 20 + 7 * nC a by omega, v0]; simp [sF, adS, mkA, up2]
        · rw [show 0 + (20 + 7 * nC a + 1) = 20 + 7 * nC a + 1 by omega, v1]; simp [sF, adS, mkA, up2]
        · rw [show 0 + (20 + 7 * nC a + 2) = 20 + 7 * nC a + 2 by omega, v2]; simp [sF, adS, mkA, up2]
        · rw [show 0 + (20 + 7 * nC a + 3) = 20 + 7 * nC a + 3 by omega, v3]; simp [sF, adS, mkA, up2]
        · rw [show 0 + (20 + 7 * nC a + 4) = 20 + 7 * nC a + 4 by omega, er _ (by omega) (by omega) (by omega) (by omega), z1]; simp [sF, adS, mkA, up2]; rfl
        · rw [show 0 + (20 + 7 * nC a + 6) = 20 + 7 * nC a + 6 by omega, er _ (by omega) (by omega) (by omega) (by omega), z3]; simp [sF, adS, mkA, up2]; rfl
      · rw [show 0 + (20 + 7 * nC a + 5) = 20 + 7 * nC a + 5 by omega, er _ (by omega) (by omega) (by omega) (by omega), z2]; simp [bY, adS, mkA, up1, byI]
    · have hc3 : c < nC a + 1 := hc
      have y1 : ∀ f, sF (adS a s l m d) c f = sF a c f := fun f => by simp [sF, adS, mkA, up2, e, SF]
      have y2 : bY (adS a s l m d) c = bY a c := by simp [bY, adS, mkA, up1, e, BY]
      refine ⟨fun f hf h9 => ?_, ?_⟩
      · rw [y1]
        exact (er _ (by omega) (by omega) (by omega) (by omega)).trans ((q2 c (by omega)).1 f hf h9)
      · rw [y2]
        exact (er _ (by omega) (by omega) (by omega) (by omega)).trans (q2 c (by omega)).2
  · have p3 : nC a + 1 ≤ c := p1
    obtain ⟨z1, z2, z3⟩ := h6 c (by omega) p2
    exact ⟨(er _ (by omega) (by omega) (by omega) (by omega)).trans z1, (er _ (by omega) (by omega) (by omega) (by omega)).trans z2, (er _ (by omega) (by omega) (by omega) (by omega)).trans z3⟩
theorem DM.crim {I I' : xF4 Int32} {a : aA} {t t' : Bool} (h : DM I a t) (hd : DOK a) {c : Nat} (e0 : ∀ x, x = 6 ∨ x = 7 → I' 30 0 0 x = I 30 0 0 x) (e8 : I' 30 0 0 8 = tI t') (v : I' 34 0 0 56 = nI c) (er : ∀ y, y ≠ 56 → I' 34 0 0 y = I 34 0 0 y) : DM I' (crimN a c) t' := by
  obtain ⟨h1, h2, h3, ⟨q1, q2, q3, q4, q5, q6⟩, h5, h6⟩ := h
  have w1 := hd.1.1
  have w2 := hd.1.2.1
  exact ⟨(e0 6 (by omega)).trans h1, (e0 7 (by omega)).trans h2, e8, ⟨fun j hj => by
    have hj : j < nJ a := hj
    exact ⟨fun f hf => (er _ (by omega)).trans ((q1 j hj).1 f hf), (er _ (by omega)).trans (q1 j hj).2⟩, fun c hc => by
    have hc : c < nC a := hc
    exact ⟨fun f hf h9 => (er _ (by omega)).trans ((q2 c hc).1 f hf h9), (er _ (by omega)).trans (q2 c hc).2⟩, (er _ (by omega)).trans q3, v, (er _ (by omega)).trans q5, fun i hi f hf => (er _ (by omega)).trans (q6 i hi f hf)⟩, fun j p1 p2 => ⟨(er _ (by omega)).trans (h5 j p1 p2).1, (er _ (by omega)).trans (h5 j p1 p2).2⟩, fun c p1 p2 => ⟨(er _ (by omega)).trans (h6 c p1 p2).1, (er _ (by omega)).trans (h6 c p1 p2).2.1, (er _ (by omega)).trans (h6 c p1 p2).2.2⟩⟩
abbrev pLy (x : tS) (a : aA) (t : Bool) (I : xF4 Int32) (L : xF4 Int64) : Option xV → xM → Prop := fun v M => v = none ∧ ∃ I', M = rM I' L ∧ TM I' x ∧ FrY I I' ∧ DM I' a t

theorem d_lineJ {I : xF4 Int32} {L : xF4 Int64} {n : Nat} {b : Nat → Nat} (hk : BK n b) (ht : TN I n b) {s : tS} (hok : OKT n s) (h : TM I s) {a : aA} {t : Bool} (hd : DOK a) (hm : DM I a t) (hj : nJ a < 4) {w : Nat} (hw : w < 4) : Tri 3 109 m_X11_readLineOf [vR 30 0 0, vI (nI w)] (rM I L) (pLy (tkT n b (chT 0 99 (tkT n b (chT 1 20 s)))) (adJ a w (vlS (chT 1 20 s)) (vlS (chT 0 99 (tkT n b (chT 1 20 s))))) t I L) := by
  refine ⟨k_X11_readLineOf, Nat.le_of_ble_eq_true rfl, ?_⟩
  show Wp _ _ _ 0 [some (vR 30 0 0), some (vI (nI w))] [] (rM I L) _
  obtain ⟨x, hx⟩ : ∃ x, x = nJ a := ⟨_, rfl⟩
  have c6 := hm.1
  rw [← hx] at c6 hj
  refine w_iload_n dX11_readLineOf_0 rfl ?_
  refine w_bipush (v := 8) dX11_readLineOf_1 (by decide) ?_
  refine w_icmp_ne (tgt := 23) dX11_readLineOf_3 (by decide) (fun h1 => ?_) (fun h1 => ?_)
  · skip
    replace h1 : ¬ (((w : Nat) : Int) = 8) := fun q => h1 ((zeq (z_nI (by omega)) (by decide)).mpr q)
    first
    | (exfalso; omega)
    | skip
      refine w_iload_n dX11_readLineOf_23 rfl ?_
      refine w_iconst (v := 4) dX11_readLineOf_24 (by decide) ?_
      refine w_icmp_lt (tgt := 38) dX11_readLineOf_25 (by decide) (fun h2 => ?_) (fun h2 => ?_)
      · skip
        replace h2 : ((w : Nat) : Int) < 4 := (zlt (z_nI (by omega)) (by decide)).mp h2
        first
        | (exfalso; omega)
        | skip
          refine w_aload_n dX11_readLineOf_38 rfl ?_
          refine w_getR (w := some (34, 0, 0)) ff_X11_20 rfl rfl dX11_readLineOf_39 rfl ?_
          refine w_iconst (v := 5) dX11_readLineOf_42 (by decide) ?_
          refine w_aload_n dX11_readLineOf_43 rfl ?_
          refine w_getI ff_X11_47 rfl rfl dX11_readLineOf_44 ?_
          rw [show (I 30 0 0 6 : Int32) = nI x from c6]
          refine w_imul dX11_readLineOf_47 ?_
          rw [show ((5) * (nI x) : Int32) = nI (5 * x) from ar_mul (p := 5) (q := x) rfl rfl (by first | rfl | omega)]
          refine w_iconst (v := 0) dX11_readLineOf_48 (by decide) ?_
          refine w_iadd dX11_readLineOf_49 ?_
          rw [show ((nI (5 * x)) + (0) : Int32) = nI (5 * x) from ar_add (p := 5 * x) (q := 0) rfl rfl (by omega)]
          refine w_iload_n dX11_readLineOf_50 rfl ?_
          refine w_iastore (a := 5 * x) rfl (vp_in_nI (n := 5 * x) (by omega) (by omega)) (nI_clamp (n := 5 * x) (by omega)) dX11_readLineOf_51 ?_
          refine w_aload_n dX11_readLineOf_52 rfl ?_
          refine w_getR (w := some (34, 0, 0)) ff_X11_20 rfl rfl dX11_readLineOf_53 rfl ?_
          refine w_iconst (v := 5) dX11_readLineOf_56 (by decide) ?_
          refine w_aload_n dX11_readLineOf_57 rfl ?_
          refine w_getI ff_X11_47 rfl rfl dX11_readLineOf_58 ?_
          rw [show ((xup I 34 0 0 (5 * x) (nI w)) 30 0 0 6 : Int32) = nI x from ((xup_tag (by decide)).trans c6)]
          refine w_imul dX11_readLineOf_61 ?_
          rw [show ((5) * (nI x) : Int32) = nI (5 * x) from ar_mul (p := 5) (q := x) rfl rfl (by first | rfl | omega)]
          refine w_iconst (v := 1) dX11_readLineOf_62 (by decide) ?_
          refine w_iadd dX11_readLineOf_63 ?_
          rw [show ((nI (5 * x)) + (1) : Int32) = nI ((5 * x) + 1) from ar_add (p := 5 * x) (q := 1) rfl rfl (by omega)]
          refine w_aload_n dX11_readLineOf_64 rfl ?_
          refine w_iconst (v := 1) dX11_readLineOf_65 (by decide) ?_
          refine w_bipush (v := 20) dX11_readLineOf_66 (by decide) ?_
          refine w_callV (as := [vI (1), vI (20)]) (st := [vI (nI ((5 * x) + 1)), vR 34 0 0]) (Tri.mono (d_number (I := xup I 34 0 0 (5 * x) (nI w)) hk (ht.y (FrY.rf.up34)) hok (h.eqv (fun x hx => xup_tag (by omega))) (lo := 1) (hi := 20) (fun _ _ => by decide) (by decide)) (Nat.le_of_ble_eq_true rfl)) rfl rfl tg_X11_readNumber lk_X11_122 in_X11_readNumber se_X11_readNumber rfl dX11_readLineOf_68 rfl (Nat.le_of_ble_eq_true rfl) (Nat.le_refl _) (Nat.le_refl _) ?_
          rintro v M9 ⟨rfl, I1, rfl, t1, f1⟩ -
          refine w_iastore (a := (5 * x) + 1) rfl (vp_in_nI (n := (5 * x) + 1) (by omega) (by omega)) (nI_clamp (n := (5 * x) + 1) (by omega)) dX11_readLineOf_71 ?_
          refine w_aload_n dX11_readLineOf_72 rfl ?_
          refine w_getR (w := some (34, 0, 0)) ff_X11_20 rfl rfl dX11_readLineOf_73 rfl ?_
          refine w_iconst (v := 5) dX11_readLineOf_76 (by decide) ?_
          refine w_aload_n dX11_readLineOf_77 rfl ?_
          refine w_getI ff_X11_47 rfl rfl dX11_readLineOf_78 ?_
          rw [show ((xup I1 34 0 0 ((5 * x) + 1) (nI (vlS (chT 1 20 s)))) 30 0 0 6 : Int32) = nI x from ((xup_tag (by decide)).trans ((f1 30 0 0 6 (by omega)).trans ((xup_tag (by decide)).trans c6)))]
          refine w_imul dX11_readLineOf_81 ?_
          rw [show ((5) * (nI x) : Int32) = nI (5 * x) from ar_mul (p := 5) (q := x) rfl rfl (by first | rfl | omega)]
          refine w_iconst (v := 2) dX11_readLineOf_82 (by decide) ?_
          refine w_iadd dX11_readLineOf_83 ?_
          rw [show ((nI (5 * x)) + (2) : Int32) = nI ((5 * x) + 2) from ar_add (p := 5 * x) (q := 2) rfl rfl (by omega)]
          refine w_aload_n dX11_readLineOf_84 rfl ?_
          refine w_iconst (v := 0) dX11_readLineOf_85 (by decide) ?_
          refine w_bipush (v := 99) dX11_readLineOf_86 (by decide) ?_
          refine w_callV (as := [vI (0), vI (99)]) (st := [vI (nI ((5 * x) + 2)), vR 34 0 0]) (Tri.mono (d_number (I := xup I1 34 0 0 ((5 * x) + 1) (nI (vlS (chT 1 20 s)))) hk ((ht.y ((FrY.rf.up34).tr f1.y)).y (FrY.rf.up34)) (tk_ok (ch_ok hok)) (t1.eqv (fun x hx => xup_tag (by omega))) (lo := 0) (hi := 99) (fun _ _ => by decide) (by decide)) (Nat.le_of_ble_eq_true rfl)) rfl rfl tg_X11_readNumber lk_X11_122 in_X11_readNumber se_X11_readNumber rfl dX11_readLineOf_88 rfl (Nat.le_of_ble_eq_true rfl) (Nat.le_refl _) (Nat.le_refl _) ?_
          rintro v M9 ⟨rfl, I2, rfl, t2, f2⟩ -
          refine w_iastore (a := (5 * x) + 2) rfl (vp_in_nI (n := (5 * x) + 2) (by omega) (by omega)) (nI_clamp (n := (5 * x) + 2) (by omega)) dX11_readLineOf_91 ?_
          refine w_aload_n dX11_readLineOf_92 rfl ?_
          refine w_dup dX11_readLineOf_93 rfl ?_
          refine w_getI ff_X11_47 rfl rfl dX11_readLineOf_94 ?_
          rw [show ((xup I2 34 0 0 ((5 * x) + 2) (nI (vlS (chT 0 99 (tkT n b (chT 1 20 s)))))) 30 0 0 6 : Int32) = nI x from ((xup_tag (by decide)).trans ((f2 30 0 0 6 (by omega)).trans ((xup_tag (by decide)).trans ((f1 30 0 0 6 (by omega)).trans ((xup_tag (by decide)).trans c6)))))]
          refine w_iconst (v := 1) dX11_readLineOf_97 (by decide) ?_
          refine w_iadd dX11_readLineOf_98 ?_
          rw [show ((nI x) + (1) : Int32) = nI (x + 1) from ar_add (p := x) (q := 1) rfl rfl (by omega)]
          refine w_putI ff_X11_47 rfl rfl rfl rfl dX11_readLineOf_99 ?_
          subst hx
          have q34 : ∀ y, y ≠ 5 * nJ a → y ≠ 5 * nJ a + 1 → y ≠ 5 * nJ a + 2 → (xup (xup I2 34 0 0 ((5 * (nJ a)) + 2) (nI (vlS (chT 0 99 (tkT n b (chT 1 20 s)))))) 30 0 0 6 (nI ((nJ a) + 1)) : xF4 Int32) 34 0 0 y = I 34 0 0 y := fun y y0 y1 y2 => by
            rw [xup_tag (by decide), xup_slot (by omega), f2 34 0 0 y (by omega), xup_slot (by omega), f1 34 0 0 y (by omega), xup_slot (by omega)]
          have q30 : ∀ y, y = 7 ∨ y = 8 → (xup (xup I2 34 0 0 ((5 * (nJ a)) + 2) (nI (vlS (chT 0 99 (tkT n b (chT 1 20 s)))))) 30 0 0 6 (nI ((nJ a) + 1)) : xF4 Int32) 30 0 0 y = I 30 0 0 y := fun y hy => by
            rw [xup_slot (by omega), xup_tag (by decide), f2 30 0 0 y (by omega), xup_tag (by decide), f1 30 0 0 y (by omega), xup_tag (by decide)]
          refine w_return dX11_readLineOf_102 rfl rfl (⟨rfl, _, rfl, t2.eqv (fun x hx => (xup_slot (by omega)).trans (xup_tag (by omega))), (((((FrY.rf.up34).tr f1.y).tr (FrY.rf.up34)).tr f2.y).tr ((FrY.rf.up34).up30 (by decide))), hm.addJ hd hj xup_self (q30 7 (Or.inl rfl)) (q30 8 (Or.inr rfl)) ?_ ?_ ?_ q34⟩)
          · rw [xup_tag (by decide), xup_slot (by omega), f2 34 0 0 _ (by omega), xup_slot (by omega), f1 34 0 0 _ (by omega)]
            exact xup_self
          · rw [xup_tag (by decide), xup_slot (by omega), f2 34 0 0 _ (by omega)]
            exact xup_self
          · rw [xup_tag (by decide)]
            exact xup_self
      · skip
        replace h2 : ¬ (((w : Nat) : Int) < 4) := fun q => h2 ((zlt (z_nI (by omega)) (by decide)).mpr q)
        first
        | (exfalso; omega)
        | skip
          exfalso
          omega
  · skip
    replace h1 : ((w : Nat) : Int) = 8 := (zeq (z_nI (by omega)) (by decide)).mp h1
    first
    | (exfalso; omega)
    | skip
      refine w_aload_n dX11_readLineOf_6 rfl ?_
      exfalso
      omega

theorem vlS_le {n : Nat} : ∀ {s : tS}, OKT n s → vlS s ≤ 99
  | .inl _, _ => Nat.zero_le _
  | .inr _, h => h.2.2.2.1

theorem d_case {I : xF4 Int32} {L : xF4 Int64} {n : Nat} {b : Nat → Nat} (hk : BK n b) (ht : TN I n b) {s : tS} (hok : OKT n s) (h : TM I s) {a : aA} {t : Bool} (hd : DOK a) (hm : DM I a t) (hj : nC a < 5) {w : Nat} (hw : w < 4) : Tri 3 109 m_X11_readCase [vR 30 0 0, vI (nI w)] (rM I L) (pLy (tkT n b (chT 0 20 (tkT n b (chT (vlS (chT 1 60 s)) 60 (tkT n b (chT 1 60 s)))))) (adS a w (vlS (chT 1 60 s)) (vlS (chT (vlS (chT 1 60 s)) 60 (tkT n b (chT 1 60 s)))) (vlS (chT 0 20 (tkT n b (chT (vlS (chT 1 60 s)) 60 (tkT n b (chT 1 60 s))))))) t I L) := by
  refine ⟨k_X11_readCase, Nat.le_of_ble_eq_true rfl, ?_⟩
  show Wp _ _ _ 0 [some (vR 30 0 0), some (vI (nI w)), none] [] (rM I L) _
  obtain ⟨x, hx⟩ : ∃ x, x = nC a := ⟨_, rfl⟩
  have c7 := hm.2.1
  rw [← hx] at c7 hj
  refine w_bipush (v := 20) dX11_readCase_0 (by decide) ?_
  refine w_bipush (v := 7) dX11_readCase_2 (by decide) ?_
  refine w_aload_n dX11_readCase_4 rfl ?_
  refine w_getI ff_X11_51 rfl rfl dX11_readCase_5 ?_
  rw [show (I 30 0 0 7 : Int32) = nI x from c7]
  refine w_imul dX11_readCase_8 ?_
  rw [show ((7) * (nI x) : Int32) = nI (7 * x) from ar_mul (p := 7) (q := x) rfl rfl (by first | rfl | omega)]
  refine w_iadd dX11_readCase_9 ?_
  rw [show ((20) + (nI (7 * x)) : Int32) = nI (20 + (7 * x)) from ar_add (p := 20) (q := 7 * x) rfl rfl (by omega)]
  refine w_istore_n (ls' := [some (vR 30 0 0), some (vI (nI w)), some (vI (nI (20 + (7 * x))))]) dX11_readCase_10 rfl ?_
  refine w_aload_n dX11_readCase_11 rfl ?_
  refine w_getR (w := some (34, 0, 0)) ff_X11_20 rfl rfl dX11_readCase_12 rfl ?_
  refine w_iload_n dX11_readCase_15 rfl ?_
  refine w_iconst (v := 0) dX11_readCase_16 (by decide) ?_
  refine w_iadd dX11_readCase_17 ?_
  rw [show ((nI (20 + (7 * x))) + (0) : Int32) = nI (20 + (7 * x)) from ar_add (p := 20 + (7 * x)) (q := 0) rfl rfl (by omega)]
  refine w_iload_n dX11_readCase_18 rfl ?_
  refine w_iastore (a := 20 + (7 * x)) rfl (vp_in_nI (n := 20 + (7 * x)) (by omega) (by omega)) (nI_clamp (n := 20 + (7 * x)) (by omega)) dX11_readCase_19 ?_
  refine w_aload_n dX11_readCase_20 rfl ?_
  refine w_getR (w := some (34, 0, 0)) ff_X11_20 rfl rfl dX11_readCase_21 rfl ?_
  refine w_iload_n dX11_readCase_24 rfl ?_
  refine w_iconst (v := 1) dX11_readCase_25 (by decide) ?_
  refine w_iadd dX11_readCase_26 ?_
  rw [show ((nI (20 + (7 * x))) + (1) : Int32) = nI ((20 + (7 * x)) + 1) from ar_add (p := 20 + (7 * x)) (q := 1) rfl rfl (by omega)]
  refine w_aload_n dX11_readCase_27 rfl ?_
  refine w_iconst (v := 1) dX11_readCase_28 (by decide) ?_
  refine w_bipush (v := 60) dX11_readCase_29 (by decide) ?_
  refine w_callV (as := [vI (1), vI (60)]) (st := [vI (nI ((20 + (7 * x)) + 1)), vR 34 0 0]) (Tri.mono (d_number (I := xup I 34 0 0 (20 + (7 * x)) (nI w)) hk (ht.y (FrY.rf.up34)) hok (h.eqv (fun x hx => xup_tag (by omega))) (lo := 1) (hi := 60) (fun _ _ => by decide) (by decide)) (Nat.le_of_ble_eq_true rfl)) rfl rfl tg_X11_readNumber lk_X11_122 in_X11_readNumber se_X11_readNumber rfl dX11_readCase_31 rfl (Nat.le_of_ble_eq_true rfl) (Nat.le_refl _) (Nat.le_refl _) ?_
  rintro v M9 ⟨rfl, I1, rfl, t1, f1⟩ -
  refine w_iastore (a := (20 + (7 * x)) + 1) rfl (vp_in_nI (n := (20 + (7 * x)) + 1) (by omega) (by omega)) (nI_clamp (n := (20 + (7 * x)) + 1) (by omega)) dX11_readCase_34 ?_
  refine w_aload_n dX11_readCase_35 rfl ?_
  refine w_getR (w := some (34, 0, 0)) ff_X11_20 rfl rfl dX11_readCase_36 rfl ?_
  refine w_iload_n dX11_readCase_39 rfl ?_
  refine w_iconst (v := 2) dX11_readCase_40 (by decide) ?_
  refine w_iadd dX11_readCase_41 ?_
  rw [show ((nI (20 + (7 * x))) + (2) : Int32) = nI ((20 + (7 * x)) + 2) from ar_add (p := 20 + (7 * x)) (q := 2) rfl rfl (by omega)]
  refine w_aload_n dX11_readCase_42 rfl ?_
  refine w_aload_n dX11_readCase_43 rfl ?_
  refine w_getR (w := some (34, 0, 0)) ff_X11_20 rfl rfl dX11_readCase_44 rfl ?_
  refine w_iload_n dX11_readCase_47 rfl ?_
  refine w_iconst (v := 1) dX11_readCase_48 (by decide) ?_
  refine w_iadd dX11_readCase_49 ?_
  rw [show ((nI (20 + (7 * x))) + (1) : Int32) = nI ((20 + (7 * x)) + 1) from ar_add (p := 20 + (7 * x)) (q := 1) rfl rfl (by omega)]
  refine w_iaload (a := (20 + (7 * x)) + 1) rfl (vp_in_nI (n := (20 + (7 * x)) + 1) (by omega) (by omega)) (nI_clamp (n := (20 + (7 * x)) + 1) (by omega)) dX11_readCase_50 ?_
  rw [show ((xup I1 34 0 0 ((20 + (7 * x)) + 1) (nI (vlS (chT 1 60 s)))) 34 0 0 ((20 + (7 * x)) + 1) : Int32) = nI (vlS (chT 1 60 s)) from xup_self]
  refine w_bipush (v := 60) dX11_readCase_51 (by decide) ?_
  refine w_callV (as := [vI (nI (vlS (chT 1 60 s))), vI (60)]) (st := [vI (nI ((20 + (7 * x)) + 2)), vR 34 0 0]) (Tri.mono (d_number (I := xup I1 34 0 0 ((20 + (7 * x)) + 1) (nI (vlS (chT 1 60 s)))) hk ((ht.y ((FrY.rf.up34).tr f1.y)).y (FrY.rf.up34)) (tk_ok (ch_ok hok)) (t1.eqv (fun x hx => xup_tag (by omega))) (lo := (vlS (chT 1 60 s))) (hi := 60) (fun q z => z_nI (Nat.lt_of_le_of_lt (vlS_le (ch_ok (lo := 1) (hi := 60) hok)) (by decide))) (by decide)) (Nat.le_of_ble_eq_true rfl)) rfl rfl tg_X11_readNumber lk_X11_122 in_X11_readNumber se_X11_readNumber rfl dX11_readCase_53 rfl (Nat.le_of_ble_eq_true rfl) (Nat.le_refl _) (Nat.le_refl _) ?_
  rintro v M9 ⟨rfl, I2, rfl, t2, f2⟩ -
  refine w_iastore (a := (20 + (7 * x)) + 2) rfl (vp_in_nI (n := (20 + (7 * x)) + 2) (by omega) (by omega)) (nI_clamp (n := (20 + (7 * x)) + 2) (by omega)) dX11_readCase_56 ?_
  refine w_aload_n dX11_readCase_57 rfl ?_
  refine w_getR (w := some (34, 0, 0)) ff_X11_20 rfl rfl dX11_readCase_58 rfl ?_
  refine w_iload_n dX11_readCase_61 rfl ?_
  refine w_iconst (v := 3) dX11_readCase_62 (by decide) ?_
  refine w_iadd dX11_readCase_63 ?_
  rw [show ((nI (20 + (7 * x))) + (3) : Int32) = nI ((20 + (7 * x)) + 3) from ar_add (p := 20 + (7 * x)) (q := 3) rfl rfl (by omega)]
  refine w_aload_n dX11_readCase_64 rfl ?_
  refine w_iconst (v := 0) dX11_readCase_65 (by decide) ?_
  refine w_bipush (v := 20) dX11_readCase_66 (by decide) ?_
  refine w_callV (as := [vI (0), vI (20)]) (st := [vI (nI ((20 + (7 * x)) + 3)), vR 34 0 0]) (Tri.mono (d_number (I := xup I2 34 0 0 ((20 + (7 * x)) + 2) (nI (vlS (chT (vlS (chT 1 60 s)) 60 (tkT n b (chT 1 60 s)))))) hk (((ht.y ((FrY.rf.up34).tr f1.y)).y ((FrY.rf.up34).tr f2.y)).y (FrY.rf.up34)) (tk_ok (ch_ok (tk_ok (ch_ok hok)))) (t2.eqv (fun x hx => xup_tag (by omega))) (lo := 0) (hi := 20) (fun _ _ => by decide) (by decide)) (Nat.le_of_ble_eq_true rfl)) rfl rfl tg_X11_readNumber lk_X11_122 in_X11_readNumber se_X11_readNumber rfl dX11_readCase_68 rfl (Nat.le_of_ble_eq_true rfl) (Nat.le_refl _) (Nat.le_refl _) ?_
  rintro v M9 ⟨rfl, I3, rfl, t3, f3⟩ -
  refine w_iastore (a := (20 + (7 * x)) + 3) rfl (vp_in_nI (n := (20 + (7 * x)) + 3) (by omega) (by omega)) (nI_clamp (n := (20 + (7 * x)) + 3) (by omega)) dX11_readCase_71 ?_
  refine w_aload_n dX11_readCase_72 rfl ?_
  refine w_dup dX11_readCase_73 rfl ?_
  refine w_getI ff_X11_51 rfl rfl dX11_readCase_74 ?_
  rw [show ((xup I3 34 0 0 ((20 + (7 * x)) + 3) (nI (vlS (chT 0 20 (tkT n b (chT (vlS (chT 1 60 s)) 60 (tkT n b (chT 1 60 s)))))))) 30 0 0 7 : Int32) = nI x from ((xup_tag (by decide)).trans ((f3 30 0 0 7 (by omega)).trans ((xup_tag (by decide)).trans ((f2 30 0 0 7 (by omega)).trans ((xup_tag (by decide)).trans ((f1 30 0 0 7 (by omega)).trans ((xup_tag (by decide)).trans c7)))))))]
  refine w_iconst (v := 1) dX11_readCase_77 (by decide) ?_
  refine w_iadd dX11_readCase_78 ?_
  rw [show ((nI x) + (1) : Int32) = nI (x + 1) from ar_add (p := x) (q := 1) rfl rfl (by omega)]
  refine w_putI ff_X11_51 rfl rfl rfl rfl dX11_readCase_79 ?_
  subst hx
  have q34 : ∀ y, y ≠ 20 + 7 * nC a → y ≠ 20 + 7 * nC a + 1 → y ≠ 20 + 7 * nC a + 2 → y ≠ 20 + 7 * nC a + 3 → (xup (xup I3 34 0 0 ((20 + (7 * (nC a))) + 3) (nI (vlS (chT 0 20 (tkT n b (chT (vlS (chT 1 60 s)) 60 (tkT n b (chT 1 60 s)))))))) 30 0 0 7 (nI ((nC a) + 1)) : xF4 Int32) 34 0 0 y = I 34 0 0 y := fun y y0 y1 y2 y3 => by
    rw [xup_tag (by decide), xup_slot (by omega), f3 34 0 0 y (by omega), xup_slot (by omega), f2 34 0 0 y (by omega), xup_slot (by omega), f1 34 0 0 y (by omega), xup_slot (by omega)]
  have q30 : ∀ y, y = 6 ∨ y = 8 → (xup (xup I3 34 0 0 ((20 + (7 * (nC a))) + 3) (nI (vlS (chT 0 20 (tkT n b (chT (vlS (chT 1 60 s)) 60 (tkT n b (chT 1 60 s)))))))) 30 0 0 7 (nI ((nC a) + 1)) : xF4 Int32) 30 0 0 y = I 30 0 0 y := fun y hy => by
    rw [xup_slot (by omega), xup_tag (by decide), f3 30 0 0 y (by omega), xup_tag (by decide), f2 30 0 0 y (by omega), xup_tag (by decide), f1 30 0 0 y (by omega), xup_tag (by decide)]
  refine w_return dX11_readCase_82 rfl rfl (⟨rfl, _, rfl, t3.eqv (fun x hx => (xup_slot (by omega)).trans (xup_tag (by omega))), (((((((FrY.rf.up34).tr f1.y).tr (FrY.rf.up34)).tr f2.y).tr (FrY.rf.up34)).tr f3.y).tr ((FrY.rf.up34).up30 (by decide))), hm.addS hd hj (q30 6 (Or.inl rfl)) xup_self (q30 8 (Or.inr rfl)) ?_ ?_ ?_ ?_ q34⟩)
  · rw [xup_tag (by decide), xup_slot (by omega), f3 34 0 0 _ (by omega), xup_slot (by omega), f2 34 0 0 _ (by omega), xup_slot (by omega), f1 34 0 0 _ (by omega)]
    exact xup_self
  · rw [xup_tag (by decide), xup_slot (by omega), f3 34 0 0 _ (by omega), xup_slot (by omega), f2 34 0 0 _ (by omega)]
    exact xup_self
  · rw [xup_tag (by decide), xup_slot (by omega), f3 34 0 0 _ (by omega)]
    exact xup_self
  · rw [xup_tag (by decide)]
    exact xup_self

theorem d_lineS {I : xF4 Int32} {L : xF4 Int64} {n : Nat} {b : Nat → Nat} (hk : BK n b) (ht : TN I n b) {s : tS} (hok : OKT n s) (h : TM I s) {a : aA} {t : Bool} (hd : DOK a) (hm : DM I a t) (hj : nC a < 5) {w : Nat} (hw4 : 4 ≤ w) (hw : w < 8) : Tri 4 109 m_X11_readLineOf [vR 30 0 0, vI (nI w)] (rM I L) (pLy (tkT n b (chT 0 20 (tkT n b (chT (vlS (chT 1 60 s)) 60 (tkT n b (chT 1 60 s)))))) (adS a (w - 4) (vlS (chT 1 60 s)) (vlS (chT (vlS (chT 1 60 s)) 60 (tkT n b (chT 1 60 s)))) (vlS (chT 0 20 (tkT n b (chT (vlS (chT 1 60 s)) 60 (tkT n b (chT 1 60 s))))))) t I L) := by
  refine ⟨k_X11_readLineOf, Nat.le_of_ble_eq_true rfl, ?_⟩
  show Wp _ _ _ 0 [some (vR 30 0 0), some (vI (nI w))] [] (rM I L) _
  refine w_iload_n dX11_readLineOf_0 rfl ?_
  refine w_bipush (v := 8) dX11_readLineOf_1 (by decide) ?_
  refine w_icmp_ne (tgt := 23) dX11_readLineOf_3 (by decide) (fun h1 => ?_) (fun h1 => ?_)
  · skip
    replace h1 : ¬ (((w : Nat) : Int) = 8) := fun q => h1 ((zeq (z_nI (by omega)) (by decide)).mpr q)
    first
    | (exfalso; omega)
    | skip
      refine w_iload_n dX11_readLineOf_23 rfl ?_
      refine w_iconst (v := 4) dX11_readLineOf_24 (by decide) ?_
      refine w_icmp_lt (tgt := 38) dX11_readLineOf_25 (by decide) (fun h2 => ?_) (fun h2 => ?_)
      · skip
        replace h2 : ((w : Nat) : Int) < 4 := (zlt (z_nI (by omega)) (by decide)).mp h2
        first
        | (exfalso; omega)
        | skip
          exfalso
          omega
      · skip
        replace h2 : ¬ (((w : Nat) : Int) < 4) := fun q => h2 ((zlt (z_nI (by omega)) (by decide)).mpr q)
        first
        | (exfalso; omega)
        | skip
          refine w_aload_n dX11_readLineOf_28 rfl ?_
          refine w_iload_n dX11_readLineOf_29 rfl ?_
          refine w_iconst (v := 4) dX11_readLineOf_30 (by decide) ?_
          refine w_isub dX11_readLineOf_31 ?_
          refine w_top (y := nI (w - 4)) (show ((nI w) - (4) : Int32) = nI (w - 4) from ar_sub (p := w) (q := 4) rfl rfl (by omega) rfl) ?_
          refine w_callV (as := [vI (nI (w - 4))]) (st := []) (Tri.mono (d_case hk ht hok h hd hm hj (w := w - 4) (by omega)) (Nat.le_of_ble_eq_true rfl)) rfl rfl tg_X11_readCase lk_X11_126 in_X11_readCase se_X11_readCase rfl dX11_readLineOf_32 rfl (Nat.le_of_ble_eq_true rfl) (Nat.le_refl _) (Nat.le_refl _) ?_
          rintro v M9 ⟨rfl, I1, rfl, t1, f1, m1⟩ -
          refine w_goto (tgt := 102) dX11_readLineOf_35 (by decide) ?_
          exact w_return dX11_readLineOf_102 rfl rfl (⟨rfl, _, rfl, t1, f1, m1⟩)
  · skip
    replace h1 : ((w : Nat) : Int) = 8 := (zeq (z_nI (by omega)) (by decide)).mp h1
    first
    | (exfalso; omega)
    | skip
      refine w_aload_n dX11_readLineOf_6 rfl ?_
      exfalso
      omega

theorem d_lineC {I : xF4 Int32} {L : xF4 Int64} {n : Nat} {b : Nat → Nat} (hk : BK n b) (ht : TN I n b) {s : tS} (hok : OKT n s) (h : TM I s) {a : aA} {t : Bool} (hd : DOK a) (hm : DM I a t)  : Tri 3 109 m_X11_readLineOf [vR 30 0 0, vI (8)] (rM I L) (pLy (tkT n b (chT 0 99 s)) (crimN a (vlS (chT 0 99 s))) t I L) := by
  refine ⟨k_X11_readLineOf, Nat.le_of_ble_eq_true rfl, ?_⟩
  show Wp _ _ _ 0 [some (vR 30 0 0), some (vI (8))] [] (rM I L) _
  refine w_iload_n dX11_readLineOf_0 rfl ?_
  refine w_bipush (v := 8) dX11_readLineOf_1 (by decide) ?_
  refine w_icmp_ne (tgt := 23) dX11_readLineOf_3 (by decide) (fun h => absurd (by decide) h) (fun _ => ?_)
  refine w_aload_n dX11_readLineOf_6 rfl ?_
  refine w_getR (w := some (34, 0, 0)) ff_X11_20 rfl rfl dX11_readLineOf_7 rfl ?_
  refine w_bipush (v := 56) dX11_readLineOf_10 (by decide) ?_
  refine w_aload_n dX11_readLineOf_12 rfl ?_
  refine w_iconst (v := 0) dX11_readLineOf_13 (by decide) ?_
  refine w_bipush (v := 99) dX11_readLineOf_14 (by decide) ?_
  refine w_callV (as := [vI (0), vI (99)]) (st := [vI (56), vR 34 0 0]) (Tri.mono (d_number (I := I) hk (ht.y FrY.rf) hok h (lo := 0) (hi := 99) (fun _ _ => by decide) (by decide)) (Nat.le_of_ble_eq_true rfl)) rfl rfl tg_X11_readNumber lk_X11_122 in_X11_readNumber se_X11_readNumber rfl dX11_readLineOf_16 rfl (Nat.le_of_ble_eq_true rfl) (Nat.le_refl _) (Nat.le_refl _) ?_
  rintro v M9 ⟨rfl, I1, rfl, t1, f1⟩ -
  refine w_iastore (a := 56) rfl (vp_in_nI (n := 56) (by omega) (by omega)) (nI_clamp (n := 56) (by omega)) dX11_readLineOf_19 ?_
  refine w_goto (tgt := 102) dX11_readLineOf_20 (by decide) ?_
  exact w_return dX11_readLineOf_102 rfl rfl (⟨rfl, _, rfl, t1.eqv (fun x hx => xup_tag (by omega)), f1.y.tr (FrY.rf.up34), hm.crim hd (fun x hx => (xup_tag (by omega)).trans (f1 30 0 0 x (by omega))) ((xup_tag (by omega)).trans ((f1 30 0 0 8 (by omega)).trans hm.2.2.1)) xup_self (fun y hy => (xup_slot (by omega)).trans (f1 34 0 0 y (by omega)))⟩)
