/-! lines of a text, purely; the class's lines (by wip/whole/gen/g81.py) -/
def tI (t : Bool) : Int32 := if t = true then 1 else 0
def adJ (a : aA) (w h p : Nat) : aA := mkA (nJ a + 1) (nC a) (nG a) (dY a) (cR a) (up2 (up2 (up2 (up2 (JF a) (nJ a) 0 w) (nJ a) 1 h) (nJ a) 2 p) (nJ a) 3 0) (up1 (SC a) (nJ a) 0) (SF a) (BY a) (GF a)
def adS (a : aA) (s l m d : Nat) : aA := mkA (nJ a) (nC a + 1) (nG a) (dY a) (cR a) (JF a) (SC a) (up2 (up2 (up2 (up2 (up2 (up2 (SF a) (nC a) 0 s) (nC a) 1 l) (nC a) 2 m) (nC a) 3 d) (nC a) 4 0) (nC a) 6 0) (up1 (BY a) (nC a) none) (GF a)
def draft0 : aA := mkA 0 0 0 0 20 (fun _ _ => 0) (fun _ => 0) (fun _ _ => 0) (fun _ => none) (fun _ _ => 0)
section LINES
variable (n : Nat) (b : Nat → Nat) (a : aA) (t : Bool) (s : tS)
def uJ1 : tS := chT 1 20 (tkT n b (if nJ a < 4 then s else flT 5 s))
def uJ2 : tS := chT 0 99 (tkT n b (uJ1 n b a s))
def uS1 : tS := chT 1 60 (tkT n b (if nC a < 5 then s else flT 5 s))
def uS2 : tS := chT (vlS (uS1 n b a s)) 60 (tkT n b (uS1 n b a s))
def uS3 : tS := chT 0 20 (tkT n b (uS2 n b a s))
def uC1 : tS := chT 0 99 (tkT n b (if t = true then flT 4 s else s))
end LINES
/-- what stands behind a line but its end -/
def bodyT (n : Nat) (b : Nat → Nat) (w : Nat) (s : tS) (a : aA) (t : Bool) : tS × (aA × Bool) :=
  if w < 4 then (uJ2 n b a s, (adJ a w (vlS (uJ1 n b a s)) (vlS (uJ2 n b a s)), t)) else
  if w < 8 then (uS3 n b a s, (adS a (w - 4) (vlS (uS1 n b a s)) (vlS (uS2 n b a s)) (vlS (uS3 n b a s)), t)) else
  if w = 8 then (uC1 n b t s, (crimN a (vlS (uC1 n b t s)), true)) else (flT 2 s, (a, t))
def wrT (b : Nat → Nat) (q : Nat × (Nat × (Nat × Nat))) : Nat := if q.1 = 1 then wdT b q.2.1 q.2.2.1 else 9
def lnT (n : Nat) (b : Nat → Nat) (q : Nat × (Nat × (Nat × Nat))) (r : aA × Bool) : tS × (aA × Bool) :=
  (spS (tkT n b (bodyT n b (wrT b q) (.inr q) r.1 r.2).1), (bodyT n b (wrT b q) (.inr q) r.1 r.2).2)
/-- line by line: what stands at the end, how many lines -/
def prT (n : Nat) (b : Nat → Nat) : Nat → tS × (aA × Bool) → Nat → (tS × (aA × Bool)) × Nat
  | 0, r, m => (r, m)
  | k + 1, (.inl q, r), m => ((.inl q, r), m)
  | k + 1, (.inr q, r), m => if q.1 = 0 then ((.inr q, r), m) else prT n b k (tkT n b (lnT n b q r).1, (lnT n b q r).2) (m + 1)
def txT (n : Nat) (b : Nat → Nat) : (tS × (aA × Bool)) × Nat := prT n b 161 (lexT n b 0, (draft0, false)) 0
theorem wd_le (b : Nat → Nat) (st nx : Nat) : wdT b st nx ≤ 9 := by
  unfold wdT
  split
  · decide
  · split
    · decide
    · split
      · decide
      · split
        · decide
        · split
          · decide
          · split
            · decide
            · split
              · decide
              · split
                · decide
                · split <;> decide
theorem wr_le (b : Nat → Nat) (q : Nat × (Nat × (Nat × Nat))) : wrT b q ≤ 9 := by
  unfold wrT
  split
  · exact wd_le _ _ _
  · exact Nat.le_refl _
theorem fl_dead {n : Nat} {b : Nat → Nat} {lo hi c : Nat} {s : tS} {q : Nat × (Nat × (Nat × Nat))} (h : chT lo hi (tkT n b (flT c s)) = .inr q) : False := by
  obtain ⟨p, hp⟩ := tk_live (ch_live h).1
  exact fl_live hp
/-- a draft -/
def DOK (a : aA) : Prop := WF a ∧ dY a = 0 ∧ nG a = 0 ∧ 1 ≤ 1
theorem DOK.z : DOK draft0 := ⟨⟨by decide, by decide, by decide, by decide, by decide, fun j hj => absurd hj (Nat.not_lt_zero _), fun c hc => absurd hc (Nat.not_lt_zero _), fun i hi => absurd hi (Nat.not_lt_zero _)⟩, rfl, rfl, Nat.le_refl _⟩
theorem DOK.addJ {a : aA} (h : DOK a) (hj : nJ a < 4) {w x p : Nat} (hw : w < 4) (hx : x ≤ 20) (hp : p ≤ 99) : DOK (adJ a w x p) := by
  obtain ⟨⟨h1, h2, h3, h4, h5, h6, h7, h8⟩, hd, hg, -⟩ := h
  refine ⟨⟨hj, h2, h3, h4, h5, fun j hj2 => ?_, fun c hc => ?_, fun i hi => ?_⟩, hd, hg, Nat.le_refl _⟩
  · show up2 (up2 (up2 (up2 (JF a) (nJ a) 0 w) (nJ a) 1 x) (nJ a) 2 p) (nJ a) 3 0 j 0 < 4 ∧ up2 (up2 (up2 (up2 (JF a) (nJ a) 0 w) (nJ a) 1 x) (nJ a) 2 p) (nJ a) 3 0 j 1 ≤ 20 ∧ up2 (up2 (up2 (up2 (JF a) (nJ a) 0 w) (nJ a) 1 x) (nJ a) 2 p) (nJ a) 3 0 j 2 ≤ 99 ∧ up2 (up2 (up2 (up2 (JF a) (nJ a) 0 w) (nJ a) 1 x) (nJ a) 2 p) (nJ a) 3 0 j 3 ≤ 5000
    by_cases e : j = nJ a
    · simp [up2, e]
      omega
    · have hj3 : j < nJ a + 1 := hj2
      have := h6 j (by omega)
      simp only [up2, e, false_and, if_false]
      exact this
  · obtain ⟨q1, q2, q3, q4, q5, q6, q7, q8, q9⟩ := h7 c hc
    exact ⟨q1, q2, q3, q4, q5, q6, q7, q8, fun y hy => Nat.lt_succ_of_lt (q9 y hy)⟩
  · exact absurd (show i < nG a from hi) (by omega)
theorem DOK.addS {a : aA} (h : DOK a) (hc : nC a < 5) {s l m d : Nat} (hs : s < 4) (hl : 1 ≤ l) (hlm : l ≤ m) (hm : m ≤ 60) (hd9 : d ≤ 20) : DOK (adS a s l m d) := by
  obtain ⟨⟨h1, h2, h3, h4, h5, h6, h7, h8⟩, hd, hg, -⟩ := h
  refine ⟨⟨h1, hc, h3, h4, h5, h6, fun c hc2 => ?_, fun i hi => ?_⟩, hd, hg, Nat.le_refl _⟩
  · by_cases e : c = nC a
    · subst e
      refine ⟨?_, ?_, ?_, ?_, ?_, ?_, ?_, ?_, ?_⟩
      · show sF (adS a s l m d) (nC a) 0 < 4
        simp [sF, adS, mkA, up2]; omega
      · show 1 ≤ sF (adS a s l m d) (nC a) 1
        simp [sF, adS, mkA, up2]; omega
      · show sF (adS a s l m d) (nC a) 1 ≤ sF (adS a s l m d) (nC a) 2
        simp [sF, adS, mkA, up2]; omega
      · show sF (adS a s l m d) (nC a) 2 ≤ 60
        simp [sF, adS, mkA, up2]; omega
      · show sF (adS a s l m d) (nC a) 3 ≤ 20
        simp [sF, adS, mkA, up2]; omega
      · show sF (adS a s l m d) (nC a) 4 ≤ 60
        simp [sF, adS, mkA, up2]
      · show sF (adS a s l m d) (nC a) 6 ≤ 60
        simp [sF, adS, mkA, up2]
      · show sF (adS a s l m d) (nC a) 4 = 0 ↔ bY (adS a s l m d) (nC a) = none
        simp [sF, bY, adS, mkA, up2, up1]
      · intro y hy
        have : bY (adS a s l m d) (nC a) = none := by simp [bY, adS, mkA, up1]
        rw [this] at hy
        cases hy
    · have hc3 : c < nC a + 1 := hc2
      have e1 : ∀ f, sF (adS a s l m d) c f = sF a c f := fun f => by simp [sF, adS, mkA, up2, e, SF]
      have e2 : bY (adS a s l m d) c = bY a c := by simp [bY, adS, mkA, up1, e, BY]
      rw [e1, e1, e1, e1, e1, e1, e2]
      exact h7 c (by omega)
  · exact absurd (show i < nG a from hi) (by omega)
theorem DOK.crim {a : aA} (h : DOK a) {c : Nat} (hc : c ≤ 99) : DOK (crimN a c) := by
  obtain ⟨⟨h1, h2, h3, h4, h5, h6, h7, h8⟩, hd, hg, -⟩ := h
  exact ⟨⟨h1, h2, h3, h4, hc, h6, h7, h8⟩, hd, hg, Nat.le_refl _⟩
theorem body_live {n : Nat} {b : Nat → Nat} {w : Nat} {s : tS} {a : aA} {t : Bool} {q : Nat × (Nat × (Nat × Nat))} (hd : DOK a) (h : (bodyT n b w s a t).1 = .inr q) : DOK (bodyT n b w s a t).2.1 := by
  unfold bodyT at h ⊢
  by_cases h1 : w < 4
  · rw [if_pos h1] at h ⊢
    have h : uJ2 n b a s = .inr q := h
    show DOK (adJ a w (vlS (uJ1 n b a s)) (vlS (uJ2 n b a s)))
    have v2 := (ch_live h).2
    obtain ⟨p, hp⟩ := tk_live (ch_live h).1
    have v1 := (ch_live hp).2
    by_cases hj : nJ a < 4
    · exact hd.addJ hj h1 v1.2 v2.2
    · unfold uJ1 at hp
      rw [if_neg hj] at hp
      exact (fl_dead hp).elim
  · rw [if_neg h1] at h ⊢
    by_cases h2 : w < 8
    · rw [if_pos h2] at h ⊢
      have h : uS3 n b a s = .inr q := h
      show DOK (adS a (w - 4) (vlS (uS1 n b a s)) (vlS (uS2 n b a s)) (vlS (uS3 n b a s)))
      have v3 := (ch_live h).2
      obtain ⟨p, hp⟩ := tk_live (ch_live h).1
      have v2 := (ch_live hp).2
      obtain ⟨p1, hp1⟩ := tk_live (ch_live hp).1
      have v1 := (ch_live hp1).2
      by_cases hc : nC a < 5
      · exact hd.addS hc (by omega) v1.1 v2.1 v2.2 v3.2
      · unfold uS1 at hp1
        rw [if_neg hc] at hp1
        exact (fl_dead hp1).elim
    · rw [if_neg h2] at h ⊢
      by_cases h3 : w = 8
      · rw [if_pos h3] at h ⊢
        have h : uC1 n b t s = .inr q := h
        exact hd.crim (ch_live h).2.2
      · rw [if_neg h3] at h ⊢
        exact hd
theorem body_ok {n : Nat} {b : Nat → Nat} {w : Nat} {s : tS} {a : aA} {t : Bool} (hs : OKT n s) : OKT n (bodyT n b w s a t).1 := by
  unfold bodyT
  split
  · refine ch_ok (tk_ok (ch_ok (tk_ok ?_)))
    split
    · exact hs
    · exact fl_ok (by decide) (by decide) hs
  · split
    · refine ch_ok (tk_ok (ch_ok (tk_ok (ch_ok (tk_ok ?_)))))
      split
      · exact hs
      · exact fl_ok (by decide) (by decide) hs
    · split
      · refine ch_ok (tk_ok ?_)
        split
        · exact fl_ok (by decide) (by decide) hs
        · exact hs
      · exact fl_ok (by decide) (by decide) hs
/-! memories -/
theorem xup_ne4 {α : Type} {f : xF4 α} {t k j s t' k' j' s' : Nat} {v : α} (h : ¬ (t' = t ∧ k' = k ∧ j' = j)) : xup f t k j s v t' k' j' s' = f t' k' j' s' := by
  unfold xup
  exact if_neg (fun z => h ⟨z.1, z.2.1, z.2.2.1⟩)
theorem jbeg_ne {I : xF4 Int32} {k j t' k' j' s' : Nat} {x y z : Int32} (h : ¬ (t' = 3 ∧ k' = k ∧ j' = j)) : jbegI I k j x y z t' k' j' s' = I t' k' j' s' := (xup_ne4 h).trans ((xup_ne4 h).trans ((xup_ne4 h).trans ((xup_ne4 h).trans (xup_ne4 h))))
theorem sbeg_ne {I : xF4 Int32} {k j t' k' j' s' : Nat} {x y z u : Int32} (h : ¬ (t' = 5 ∧ k' = k ∧ j' = j)) : sbegI I k j x y z u t' k' j' s' = I t' k' j' s' := (xup_ne4 h).trans ((xup_ne4 h).trans ((xup_ne4 h).trans ((xup_ne4 h).trans ((xup_ne4 h).trans ((xup_ne4 h).trans (xup_ne4 h))))))
/-- the court lent for the text, the reader's numbers -/
def FrZ (I I' : xF4 Int32) : Prop := ∀ t b j s, ¬ ((t = 1 ∨ t = 3 ∨ t = 5 ∨ t = 7) ∧ b = 1) → ¬ (t = 10 ∧ 2 ≤ s) → I' t b j s = I t b j s
theorem FrZ.rf {I : xF4 Int32} : FrZ I I := fun _ _ _ _ _ _ => rfl
theorem FrZ.tr {I I1 I2 : xF4 Int32} (h1 : FrZ I I1) (h2 : FrZ I1 I2) : FrZ I I2 := fun t b j s p q => (h2 t b j s p q).trans (h1 t b j s p q)
theorem FrL.u {I I' : xF4 Int32} (h : FrL I I') : FrZ I I' := fun t b j s _ q => h t b j s (fun z => q ⟨z.1, z.2.1⟩)
theorem FrC.u {I I' : xF4 Int32} (h : FrC 1 I I') : FrZ I I' := fun t b j s p _ => h t b j s p
theorem FrZ.tb {I I' : xF4 Int32} {n : Nat} {b : Nat → Nat} (h : FrZ I I') (ht : TB I n b) : TB I' n b := ⟨(h 10 0 0 1 (by omega) (by omega)).trans ht.1, fun i hi => (h 11 0 0 i (by omega) (by omega)).trans (ht.2 i hi)⟩
theorem FrC.jbeg {I : xF4 Int32} {k j : Nat} {x y z : Int32} : FrC k I (jbegI I k j x y z) := fun t b i s h => jbeg_ne (fun q => h ⟨Or.inr (Or.inl q.1), q.2.1⟩)
theorem FrC.sbeg {I : xF4 Int32} {k j : Nat} {x y z u : Int32} : FrC k I (sbegI I k j x y z u) := fun t b i s h => sbeg_ne (fun q => h ⟨Or.inr (Or.inr (Or.inl q.1)), q.2.1⟩)
theorem CourtIs.addJ {I I' : xF4 Int32} {k : Nat} {a : aA} (h : CourtIs I k a) {w x p : Nat} (e3 : I' 1 k 0 3 = nI (nJ a + 1)) (e0 : I' 3 k (nJ a) 0 = nI w) (e1 : I' 3 k (nJ a) 1 = nI x) (e2 : I' 3 k (nJ a) 2 = nI p) (ea : I' 3 k (nJ a) 3 = 0) (eb : I' 3 k (nJ a) 4 = 0)
    (er : ∀ t j s, ¬ (t = 1 ∧ j = 0 ∧ s = 3) → ¬ (t = 3 ∧ j = nJ a) → t < 10 → I' t k j s = I t k j s) : CourtIs I' k (adJ a w x p) := by
  obtain ⟨h1, h2, h3, h4, h5, h6, h7, h8⟩ := h
  refine ⟨e3, (er 1 0 4 (by omega) (by omega) (by omega)).trans h2, (er 1 0 5 (by omega) (by omega) (by omega)).trans h3, (er 1 0 6 (by omega) (by omega) (by omega)).trans h4, (er 1 0 7 (by omega) (by omega) (by omega)).trans h5, fun j hj => ?_, fun c hc => ⟨fun f hf h9 => (er 5 c f (by omega) (by omega) (by omega)).trans ((h7 c hc).1 f hf h9), (er 5 c 5 (by omega) (by omega) (by omega)).trans (h7 c hc).2⟩, fun i hi f hf => (er 7 i f (by omega) (by omega) (by omega)).trans (h8 i hi f hf)⟩
  by_cases e : j = nJ a
  · subst e
    refine ⟨fun f hf => ?_, ?_⟩
    · rcases (show f = 0 ∨ f = 1 ∨ f = 2 ∨ f = 3 by omega) with rfl | rfl | rfl | rfl
      · rw [e0]; simp [jF, adJ, mkA, up2]
      · rw [e1]; simp [jF, adJ, mkA, up2]
      · rw [e2]; simp [jF, adJ, mkA, up2]
      · rw [ea]; simp [jF, adJ, mkA, up2]; rfl
    · rw [eb]; simp [sC, adJ, mkA, up1]
  · have hj3 : j < nJ a + 1 := hj
    have q1 : ∀ f, jF (adJ a w x p) j f = jF a j f := fun f => by simp [jF, adJ, mkA, up2, e, JF]
    have q2 : sC (adJ a w x p) j = sC a j := by simp [sC, adJ, mkA, up1, e, SC]
    refine ⟨fun f hf => ?_, ?_⟩
    · rw [q1]
      exact (er 3 j f (by omega) (by omega) (by omega)).trans ((h6 j (by omega)).1 f hf)
    · rw [q2]
      exact (er 3 j 4 (by omega) (by omega) (by omega)).trans (h6 j (by omega)).2
theorem CourtIs.addS {I I' : xF4 Int32} {k : Nat} {a : aA} (h : CourtIs I k a) {s l m d : Nat} (e4 : I' 1 k 0 4 = nI (nC a + 1)) (f0 : I' 5 k (nC a) 0 = nI s) (f1 : I' 5 k (nC a) 1 = nI l) (f2 : I' 5 k (nC a) 2 = nI m) (f3 : I' 5 k (nC a) 3 = nI d) (f4 : I' 5 k (nC a) 4 = 0) (f5 : I' 5 k (nC a) 5 = -4) (f6 : I' 5 k (nC a) 6 = 0)
    (er : ∀ t j s, ¬ (t = 1 ∧ j = 0 ∧ s = 4) → ¬ (t = 5 ∧ j = nC a) → t < 10 → I' t k j s = I t k j s) : CourtIs I' k (adS a s l m d) := by
  obtain ⟨h1, h2, h3, h4, h5, h6, h7, h8⟩ := h
  refine ⟨(er 1 0 3 (by omega) (by omega) (by omega)).trans h1, e4, (er 1 0 5 (by omega) (by omega) (by omega)).trans h3, (er 1 0 6 (by omega) (by omega) (by omega)).trans h4, (er 1 0 7 (by omega) (by omega) (by omega)).trans h5, fun j hj => ⟨fun f hf => (er 3 j f (by omega) (by omega) (by omega)).trans ((h6 j hj).1 f hf), (er 3 j 4 (by omega) (by omega) (by omega)).trans (h6 j hj).2⟩, fun c hc => ?_, fun i hi f hf => (er 7 i f (by omega) (by omega) (by omega)).trans (h8 i hi f hf)⟩
  by_cases e : c = nC a
  · subst e
    refine ⟨fun f hf h9 => ?_, ?_⟩
    · rcases (show f = 0 ∨ f = 1 ∨ f = 2 ∨ f = 3 ∨ f = 4 ∨ f = 6 by omega) with rfl | rfl | rfl | rfl | rfl | rfl
      · rw [f0]; simp [sF, adS, mkA, up2]
      · rw [f1]; simp [sF, adS, mkA, up2]
      · rw [f2]; simp [sF, adS, mkA, up2]
      · rw [f3]; simp [sF, adS, mkA, up2]
      · rw [f4]; simp [sF, adS, mkA, up2]; rfl
      · rw [f6]; simp [sF, adS, mkA, up2]; rfl
    · rw [f5]; simp [bY, adS, mkA, up1, byI]
  · have hc3 : c < nC a + 1 := hc
    have q1 : ∀ f, sF (adS a s l m d) c f = sF a c f := fun f => by simp [sF, adS, mkA, up2, e, SF]
    have q2 : bY (adS a s l m d) c = bY a c := by simp [bY, adS, mkA, up1, e, BY]
    refine ⟨fun f hf h9 => ?_, ?_⟩
    · rw [q1]
      exact (er 5 c f (by omega) (by omega) (by omega)).trans ((h7 c (by omega)).1 f hf h9)
    · rw [q2]
      exact (er 5 c 5 (by omega) (by omega) (by omega)).trans (h7 c (by omega)).2
