/-! one cell of a court changes -/
theorem xup_tag {α : Type} {f : xF4 α} {t k j s t' k' j' s' : Nat} {v : α} (h : t' ≠ t) : xup f t k j s v t' k' j' s' = f t' k' j' s' := by unfold xup; rw [if_neg (fun q => h q.1)]
section CUP
variable {I : xF4 Int32} {k : Nat} {a : aA}
theorem CourtIs.upJ (h : CourtIs I k a) (j : Nat) {f : Nat} (hf : f < 4) (v : Nat) : CourtIs (xup I 3 k j f (nI v)) k (mkA (nJ a) (nC a) (nG a) (dY a) (cR a) (up2 (JF a) j f v) (SC a) (SF a) (BY a) (GF a)) := by
  obtain ⟨h1, h2, h3, h4, h5, h6, h7, h8⟩ := h
  refine ⟨(xup_tag (by decide)).trans h1, (xup_tag (by decide)).trans h2, (xup_tag (by decide)).trans h3, (xup_tag (by decide)).trans h4, (xup_tag (by decide)).trans h5, fun j' hj' => ⟨fun f' hf' => ?_, ?_⟩, fun c hc => ⟨fun f' hf' h5' => ?_, ?_⟩, fun i hi f' hf' => ?_⟩
  · have := (h6 j' hj').1 f' hf'
    show xup I 3 k j f (nI v) 3 k j' f' = nI (up2 (JF a) j f v j' f')
    unfold xup up2
    by_cases e : j' = j ∧ f' = f
    · rw [if_pos ⟨rfl, rfl, e⟩, if_pos e]
    · rw [if_neg (fun q => e q.2.2), if_neg e]; exact this
  · have := (h6 j' hj').2
    show xup I 3 k j f (nI v) 3 k j' 4 = _
    unfold xup
    rw [if_neg (by omega)]; exact this
  · have := (h7 c hc).1 f' hf' h5'
    exact (xup_tag (by decide)).trans this
  · have := (h7 c hc).2
    exact (xup_tag (by decide)).trans this
  · have := h8 i hi f' hf'
    exact (xup_tag (by decide)).trans this
theorem CourtIs.upSc (h : CourtIs I k a) (j : Nat) (v : Int32) : CourtIs (xup I 3 k j 4 v) k (mkA (nJ a) (nC a) (nG a) (dY a) (cR a) (JF a) (up1 (SC a) j v) (SF a) (BY a) (GF a)) := by
  obtain ⟨h1, h2, h3, h4, h5, h6, h7, h8⟩ := h
  refine ⟨(xup_tag (by decide)).trans h1, (xup_tag (by decide)).trans h2, (xup_tag (by decide)).trans h3, (xup_tag (by decide)).trans h4, (xup_tag (by decide)).trans h5, fun j' hj' => ⟨fun f' hf' => ?_, ?_⟩, fun c hc => ⟨fun f' hf' h5' => ?_, ?_⟩, fun i hi f' hf' => ?_⟩
  · have := (h6 j' hj').1 f' hf'
    show xup I 3 k j 4 v 3 k j' f' = _
    unfold xup
    rw [if_neg (by omega)]; exact this
  · have := (h6 j' hj').2
    show xup I 3 k j 4 v 3 k j' 4 = up1 (SC a) j v j'
    unfold xup up1
    by_cases e : j' = j
    · rw [if_pos ⟨rfl, rfl, e, rfl⟩, if_pos e]
    · rw [if_neg (fun q => e q.2.2.1), if_neg e]; exact this
  · have := (h7 c hc).1 f' hf' h5'
    exact (xup_tag (by decide)).trans this
  · have := (h7 c hc).2
    exact (xup_tag (by decide)).trans this
  · have := h8 i hi f' hf'
    exact (xup_tag (by decide)).trans this
theorem CourtIs.upS (h : CourtIs I k a) (c : Nat) {f : Nat} (h5f : f ≠ 5) (v : Nat) : CourtIs (xup I 5 k c f (nI v)) k (mkA (nJ a) (nC a) (nG a) (dY a) (cR a) (JF a) (SC a) (up2 (SF a) c f v) (BY a) (GF a)) := by
  obtain ⟨h1, h2, h3, h4, h5, h6, h7, h8⟩ := h
  refine ⟨(xup_tag (by decide)).trans h1, (xup_tag (by decide)).trans h2, (xup_tag (by decide)).trans h3, (xup_tag (by decide)).trans h4, (xup_tag (by decide)).trans h5, fun j' hj' => ⟨fun f' hf' => ?_, ?_⟩, fun c' hc => ⟨fun f' hf' h5' => ?_, ?_⟩, fun i hi f' hf' => ?_⟩
  · have := (h6 j' hj').1 f' hf'
    exact (xup_tag (by decide)).trans this
  · have := (h6 j' hj').2
    exact (xup_tag (by decide)).trans this
  · have := (h7 c' hc).1 f' hf' h5'
    show xup I 5 k c f (nI v) 5 k c' f' = nI (up2 (SF a) c f v c' f')
    unfold xup up2
    by_cases e : c' = c ∧ f' = f
    · rw [if_pos ⟨rfl, rfl, e⟩, if_pos e]
    · rw [if_neg (fun q => e q.2.2), if_neg e]; exact this
  · have := (h7 c' hc).2
    show xup I 5 k c f (nI v) 5 k c' 5 = _
    unfold xup
    rw [if_neg (by omega)]; exact this
  · have := h8 i hi f' hf'
    exact (xup_tag (by decide)).trans this
theorem CourtIs.upB (h : CourtIs I k a) (c : Nat) (b : Option Nat) : CourtIs (xup I 5 k c 5 (byI b)) k (mkA (nJ a) (nC a) (nG a) (dY a) (cR a) (JF a) (SC a) (SF a) (up1 (BY a) c b) (GF a)) := by
  obtain ⟨h1, h2, h3, h4, h5, h6, h7, h8⟩ := h
  refine ⟨(xup_tag (by decide)).trans h1, (xup_tag (by decide)).trans h2, (xup_tag (by decide)).trans h3, (xup_tag (by decide)).trans h4, (xup_tag (by decide)).trans h5, fun j' hj' => ⟨fun f' hf' => ?_, ?_⟩, fun c' hc => ⟨fun f' hf' h5' => ?_, ?_⟩, fun i hi f' hf' => ?_⟩
  · have := (h6 j' hj').1 f' hf'
    exact (xup_tag (by decide)).trans this
  · have := (h6 j' hj').2
    exact (xup_tag (by decide)).trans this
  · have := (h7 c' hc).1 f' hf' h5'
    show xup I 5 k c 5 (byI b) 5 k c' f' = _
    unfold xup
    rw [if_neg (by omega)]; exact this
  · have := (h7 c' hc).2
    show xup I 5 k c 5 (byI b) 5 k c' 5 = byI (up1 (BY a) c b c')
    unfold xup up1
    by_cases e : c' = c
    · rw [if_pos ⟨rfl, rfl, e, rfl⟩, if_pos e]
    · rw [if_neg (fun q => e q.2.2.1), if_neg e]; exact this
  · have := h8 i hi f' hf'
    exact (xup_tag (by decide)).trans this
theorem CourtIs.upDy (h : CourtIs I k a) (v : Nat) : CourtIs (xup I 1 k 0 6 (nI v)) k (mkA (nJ a) (nC a) (nG a) v (cR a) (JF a) (SC a) (SF a) (BY a) (GF a)) := by
  obtain ⟨h1, h2, h3, h4, h5, h6, h7, h8⟩ := h
  exact ⟨(xup_slot (by decide)).trans h1, (xup_slot (by decide)).trans h2, (xup_slot (by decide)).trans h3, xup_self, (xup_slot (by decide)).trans h5, fun j' hj' => ⟨fun f' hf' => (xup_tag (by decide)).trans ((h6 j' hj').1 f' hf'), (xup_tag (by decide)).trans ((h6 j' hj').2)⟩, fun c' hc => ⟨fun f' hf' h5' => (xup_tag (by decide)).trans ((h7 c' hc).1 f' hf' h5'), (xup_tag (by decide)).trans ((h7 c' hc).2)⟩, fun i hi f' hf' => (xup_tag (by decide)).trans (h8 i hi f' hf')⟩
theorem CourtIs.upCr (h : CourtIs I k a) (v : Nat) : CourtIs (xup I 1 k 0 7 (nI v)) k (crimN a v) := by
  obtain ⟨h1, h2, h3, h4, h5, h6, h7, h8⟩ := h
  exact ⟨(xup_slot (by decide)).trans h1, (xup_slot (by decide)).trans h2, (xup_slot (by decide)).trans h3, (xup_slot (by decide)).trans h4, xup_self, fun j' hj' => ⟨fun f' hf' => (xup_tag (by decide)).trans ((h6 j' hj').1 f' hf'), (xup_tag (by decide)).trans ((h6 j' hj').2)⟩, fun c' hc => ⟨fun f' hf' h5' => (xup_tag (by decide)).trans ((h7 c' hc).1 f' hf' h5'), (xup_tag (by decide)).trans ((h7 c' hc).2)⟩, fun i hi f' hf' => (xup_tag (by decide)).trans (h8 i hi f' hf')⟩
theorem sclo_is (h : CourtIs I k a) (c n : Nat) (b : Option Nat) (t : Nat) : CourtIs (scloI I k c (nI n) (byI b) (nI t)) k (closN a c n b t) := ((h.upS c (f := 4) (by decide) n).upB c b).upS c (f := 6) (by decide) t
theorem sclo_fr (c : Nat) (n b t : Int32) : FrC k I (scloI I k c n b t) := ((FrC.up (by decide)).tr (FrC.up (by decide))).tr (FrC.up (by decide))
theorem serv_is (h : CourtIs I k a) {j sort t : Nat} (hj : j < nJ a) (hs : sort < 4) (hb : bearN sort t (jF a j 2) (jF a j 1)) : CourtIs (servI I k j (nI sort) (nI t) (nI (dY a))) k (servN a j sort t) := by
  have e0 : nI sort = 0 ↔ sort = 0 := nI_eq1 (x := 0) (b := 0) (by decide) (by omega) (by omega)
  have e1 : nI sort = 1 ↔ sort = 1 := nI_eq1 (x := 1) (b := 1) (by decide) (by omega) (by omega)
  have e2 : nI sort = 2 ↔ sort = 2 := nI_eq1 (x := 2) (b := 2) (by decide) (by omega) (by omega)
  unfold servI servN
  by_cases h0 : sort = 0
  · rw [if_pos (e0.mpr h0), if_pos h0, nI_add]
    exact h.upJ j (by decide) _
  · rw [if_neg (fun q => h0 (e0.mp q)), if_neg h0]
    by_cases h1 : sort = 1
    · rw [if_pos (e1.mpr h1), if_pos h1, h.j hj (by decide), pk_sub (by rcases hb with ⟨_, q⟩ | ⟨q, _⟩ <;> first | exact q | exact absurd h1 q)]
      exact h.upJ j (by decide) _
    · rw [if_neg (fun q => h1 (e1.mp q)), if_neg h1]
      by_cases h2 : sort = 2
      · rw [if_pos (e2.mpr h2), if_pos h2, h.j hj (f := 1) (by decide), pk_sub (by rcases hb with ⟨q, _⟩ | ⟨_, q⟩ <;> omega), xup_slot (by decide), h.sc hj]
        exact (h.upJ j (f := 1) (by decide) _).upSc j _
      · rw [if_neg (fun q => h2 (e2.mp q)), if_neg h2, xup_slot (by decide), h.sc hj, show (nI (dY a) + 1 : Int32) = nI (dY a + 1) from nI_1 _]
        exact (h.upJ j (f := 3) (by decide) _).upSc j _
theorem serv_fr (j : Nat) (s t d : Int32) : FrC k I (servI I k j s t d) := by
  unfold servI
  split
  · exact FrC.up (by decide)
  · split
    · exact FrC.up (by decide)
    · split
      · exact (FrC.up (by decide)).tr (FrC.up (by decide))
      · exact (FrC.up (by decide)).tr (FrC.up (by decide))
theorem reg_is (h : CourtIs I k a) (hw : WF a) {j sort t : Nat} (hj : j < nJ a) (hs : sort < 4) (ht : t ≤ 60) : CourtIs (regI I k j (nI sort) (nI t) (nI (dY a))) k (regN a j sort t) := by
  have e0 : nI sort = 0 ↔ sort = 0 := nI_eq1 (x := 0) (b := 0) (by decide) (by omega) (by omega)
  have e1 : nI sort = 1 ↔ sort = 1 := nI_eq1 (x := 1) (b := 1) (by decide) (by omega) (by omega)
  have e2 : nI sort = 2 ↔ sort = 2 := nI_eq1 (x := 2) (b := 2) (by decide) (by omega) (by omega)
  obtain ⟨g0, g1, g2, g3⟩ := hw.2.2.2.2.2.1 j hj
  have gd := hw.2.2.2.1
  have m99 : ∀ x : Nat, x ≤ 1000 → minI 99 (nI x) = nI (min 99 x) := fun x hx => minI_N (x := 99) (by decide) (by omega)
  have m20 : ∀ x : Nat, x ≤ 1000 → minI 20 (nI x) = nI (min 20 x) := fun x hx => minI_N (x := 20) (by decide) (by omega)
  unfold regI regN
  by_cases h0 : sort = 0
  · rw [if_pos (e0.mpr h0), if_pos h0, h.j hj (by decide), minI_N (by omega) (by omega)]
    exact h.upJ j (by decide) _
  · rw [if_neg (fun q => h0 (e0.mp q)), if_neg h0]
    by_cases h1 : sort = 1
    · rw [if_pos (e1.mpr h1), if_pos h1, h.j hj (by decide), nI_add, m99 _ (by omega)]
      exact h.upJ j (by decide) _
    · rw [if_neg (fun q => h1 (e1.mp q)), if_neg h1]
      by_cases h2 : sort = 2
      · rw [if_pos (e2.mpr h2), if_pos h2, h.j hj (f := 1) (by decide), nI_add, m20 _ (by omega), xup_slot (by decide), h.sc hj]
        exact (h.upJ j (f := 1) (by decide) _).upSc j _
      · rw [if_neg (fun q => h2 (e2.mp q)), if_neg h2, h.j hj (f := 3) (by decide), minI_N (by omega) (by omega), xup_slot (by decide), h.sc hj]
        exact (h.upJ j (f := 3) (by decide) _).upSc j _
theorem reg_fr (j : Nat) (s t d : Int32) : FrC k I (regI I k j s t d) := by
  unfold regI
  split
  · exact FrC.up (by decide)
  · split
    · exact FrC.up (by decide)
    · split
      · exact (FrC.up (by decide)).tr (FrC.up (by decide))
      · exact (FrC.up (by decide)).tr (FrC.up (by decide))
/-! rows of numbers that a walk meets -/
theorem isH (h : CourtIs I k a) (hw : WF a) {c : Nat} (hc : c < nC a) : bI (0 < I 5 k c 4) = bI (0 < sF a c 4) := by
  have g := (hw.2.2.2.2.2.2.1 c hc).2.2.2.2.2.1
  rw [h.s hc (by decide) (by decide)]
  exact bI_congr (nI_ltI (a := 0) (by omega) (by omega))
theorem bearI (h : CourtIs I k a) (hw : WF a) {j s t : Nat} (hj : j < nJ a) (hs : s < 4) (ht : t ≤ 60) : bI (bearP (nI s) (nI t) (I 3 k j 2) (I 3 k j 1)) = bI (bearN s t (jF a j 2) (jF a j 1)) := by
  obtain ⟨g0, g1, g2, g3⟩ := hw.2.2.2.2.2.1 j hj
  rw [h.j hj (f := 2) (by decide), h.j hj (f := 1) (by decide)]
  exact bI_congr (bearP_N hs ht g2 g1)
end CUP
