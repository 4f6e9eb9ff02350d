/-! THE RELATION that every call keeps: one ghost state, held by the class's cells and by the reference's -/
abbrev gG : Type := aA × ((Nat → Option aA) × (Nat × ((Nat → Nat) × (Int32 × ((Nat → Option (Nat × (Nat × (Nat → Int32)))) × Int32)))))
abbrev gA (g : gG) : aA := g.1
abbrev gIm (g : gG) (k : Nat) : Option aA := g.2.1 k
abbrev gTn (g : gG) : Nat := g.2.2.1
abbrev gTb (g : gG) (i : Nat) : Nat := g.2.2.2.1 i
abbrev gFa (g : gG) : Int32 := g.2.2.2.2.1
abbrev gSh (g : gG) (k : Nat) : Option (Nat × (Nat × (Nat → Int32))) := g.2.2.2.2.2.1 k
abbrev gTo (g : gG) : Int32 := g.2.2.2.2.2.2
def ImC (I : xF4 Int32) (k : Nat) : Option aA → Prop
  | none => I 9 k 0 1 = 0
  | some b => I 9 k 0 1 = 1 ∧ CourtIs I (2 + k) b
def ImM (I : xF4 Int32) (k : Nat) : Option aA → Prop
  | none => I 33 0 0 k = 0
  | some b => I 33 0 0 k = 1 ∧ NowIs I 31 (76 * (k + 1)) b
def ShC (I : xF4 Int32) (k : Nat) : Option (Nat × (Nat × (Nat → Int32))) → Prop
  | none => I 20 k 0 1 = 0
  | some q => I 20 k 0 1 = 1 ∧ I 20 k 0 2 = nI q.1 ∧ I 20 k 0 3 = nI q.2.1 ∧ ∀ i, i < 40 → I 21 k 0 i = q.2.2 i
def ShM (I : xF4 Int32) (k : Nat) : Option (Nat × (Nat × (Nat → Int32))) → Prop
  | none => I 37 0 0 k = -4
  | some q => I 37 0 0 k = nI q.1 ∧ I 38 0 0 k = nI q.2.1 ∧ ∀ i, i < 40 → I 39 0 0 (40 * k + i) = q.2.2 i
def CH (I : xF4 Int32) (g : gG) : Prop := CourtIs I 0 (gA g) ∧ (∀ k, k < 2 → ImC I k (gIm g k)) ∧ I 10 0 0 1 = nI (gTn g) ∧ (∀ i, i < gTn g → I 11 0 0 i = nI (gTb g i)) ∧ I 10 0 0 2 = gFa g ∧ (∀ k, k < 4 → ShC I k (gSh g k)) ∧ I 0 0 0 8 = gTo g
def MH (I : xF4 Int32) (g : gG) : Prop := SI I (gA g) ∧ (∀ k, k < 2 → ImM I k (gIm g k)) ∧ I 30 0 0 10 = nI (gTn g) ∧ (∀ i, i < gTn g → I 35 0 0 i = nI (gTb g i)) ∧ I 30 0 0 15 = gFa g ∧ (∀ k, k < 4 → ShM I k (gSh g k)) ∧ I 30 0 0 26 = gTo g
def WG (g : gG) : Prop := WF (gA g) ∧ dY (gA g) ≤ 999 ∧ (∀ k, k < 2 → ∀ b, gIm g k = some b → WF b ∧ dY b ≤ 999 ∧ nJ b = nJ (gA g) ∧ nC b = nC (gA g)) ∧ gTn g ≤ 160 ∧ (∀ i, i < gTn g → gTb g i < 128) ∧ (∀ k, k < 4 → ∀ q, gSh g k = some q → q.1 < 3 ∧ q.2.1 ≤ 40)
def Inv (I : xF4 Int32) (_ : xF4 Int64) : Prop := ∃ g, WG g ∧ CH I g ∧ MH I g
/-- only the class's cells have changed; only the reference's -/
def Lo (I I' : xF4 Int32) : Prop := ∀ t b j s, 30 ≤ t → I' t b j s = I t b j s
def Hi (I I' : xF4 Int32) : Prop := ∀ t b j s, t < 30 → I' t b j s = I t b j s
theorem Lo.rf {I : xF4 Int32} : Lo I I := fun _ _ _ _ _ => rfl
theorem Hi.rf {I : xF4 Int32} : Hi I I := fun _ _ _ _ _ => rfl
theorem Lo.tr {I I1 I2 : xF4 Int32} (h1 : Lo I I1) (h2 : Lo I1 I2) : Lo I I2 := fun t b j s h => (h2 t b j s h).trans (h1 t b j s h)
theorem Hi.tr {I I1 I2 : xF4 Int32} (h1 : Hi I I1) (h2 : Hi I1 I2) : Hi I I2 := fun t b j s h => (h2 t b j s h).trans (h1 t b j s h)
theorem Lo.up {I : xF4 Int32} {t k j s : Nat} {v : Int32} (h : t < 30) : Lo I (xup I t k j s v) := fun _ _ _ _ h2 => xup_tag (by omega)
theorem Hi.up {I : xF4 Int32} {t k j s : Nat} {v : Int32} (h : 30 ≤ t) : Hi I (xup I t k j s v) := fun _ _ _ _ h2 => xup_tag (by omega)
theorem CourtIs.eqv {I I' : xF4 Int32} {k : Nat} {a : aA} (h : CourtIs I k a) (e : ∀ t j s, t = 1 ∨ t = 3 ∨ t = 5 ∨ t = 7 → I' t k j s = I t k j s) : CourtIs I' k a := by
  unfold CourtIs
  simp only [e 1 _ _ (Or.inl rfl), e 3 _ _ (Or.inr (Or.inl rfl)), e 5 _ _ (Or.inr (Or.inr (Or.inl rfl))), e 7 _ _ (Or.inr (Or.inr (Or.inr rfl)))]
  exact h
theorem ImC.eqv {I I' : xF4 Int32} {k : Nat} (e9 : I' 9 k 0 1 = I 9 k 0 1) (e : ∀ t j s, t = 1 ∨ t = 3 ∨ t = 5 ∨ t = 7 → I' t (2 + k) j s = I t (2 + k) j s) : ∀ {o : Option aA}, ImC I k o → ImC I' k o
  | none, h => e9.trans h
  | some _, h => ⟨e9.trans h.1, h.2.eqv e⟩
theorem ImM.eqv {I I' : xF4 Int32} {k : Nat} (e3 : I' 33 0 0 k = I 33 0 0 k) (e : ∀ s, I' 31 0 0 s = I 31 0 0 s) : ∀ {o : Option aA}, ImM I k o → ImM I' k o
  | none, h => e3.trans h
  | some _, h => ⟨e3.trans h.1, h.2.fr e⟩
theorem ShC.eqv {I I' : xF4 Int32} {k : Nat} (e0 : ∀ s, I' 20 k 0 s = I 20 k 0 s) (e1 : ∀ s, I' 21 k 0 s = I 21 k 0 s) : ∀ {o : Option (Nat × (Nat × (Nat → Int32)))}, ShC I k o → ShC I' k o
  | none, h => (e0 1).trans h
  | some _, h => ⟨(e0 1).trans h.1, (e0 2).trans h.2.1, (e0 3).trans h.2.2.1, fun i hi => (e1 i).trans (h.2.2.2 i hi)⟩
theorem ShM.eqv {I I' : xF4 Int32} {k : Nat} (e7 : I' 37 0 0 k = I 37 0 0 k) (e8 : I' 38 0 0 k = I 38 0 0 k) (e9 : ∀ i, i < 40 → I' 39 0 0 (40 * k + i) = I 39 0 0 (40 * k + i)) : ∀ {o : Option (Nat × (Nat × (Nat → Int32)))}, ShM I k o → ShM I' k o
  | none, h => e7.trans h
  | some _, h => ⟨e7.trans h.1, e8.trans h.2.1, fun i hi => (e9 i hi).trans (h.2.2 i hi)⟩
/-- what the class writes on as it reckons -/
def FrQ (I I' : xF4 Int32) : Prop := ∀ t b j s, ¬ ((t = 1 ∨ t = 3 ∨ t = 5 ∨ t = 7) ∧ b = 1) → ¬ (t = 10 ∧ 3 ≤ s) → ¬ (12 ≤ t ∧ t ≤ 18) → I' t b j s = I t b j s
/-- what the reference writes on as it reckons -/
def FrR (I I' : xF4 Int32) : Prop := ∀ t b j s, ¬ (t = 32 ∨ t = 34 ∨ t = 36 ∨ t = 40) → ¬ (t = 30 ∧ (s = 6 ∨ s = 7 ∨ s = 8 ∨ s = 11 ∨ s = 12 ∨ s = 13 ∨ s = 14 ∨ s = 16 ∨ s = 18 ∨ s = 19)) → I' t b j s = I t b j s
theorem FrQ.rf {I : xF4 Int32} : FrQ I I := fun _ _ _ _ _ _ _ => rfl
theorem FrR.rf {I : xF4 Int32} : FrR I I := fun _ _ _ _ _ _ => rfl
theorem FrQ.tr {I I1 I2 : xF4 Int32} (h1 : FrQ I I1) (h2 : FrQ I1 I2) : FrQ I I2 := fun t b j s p q r => (h2 t b j s p q r).trans (h1 t b j s p q r)
theorem FrR.tr {I I1 I2 : xF4 Int32} (h1 : FrR I I1) (h2 : FrR I1 I2) : FrR I I2 := fun t b j s p q => (h2 t b j s p q).trans (h1 t b j s p q)
theorem FrP.q {I I' : xF4 Int32} (h : FrP I I') : FrQ I I' := fun t b j s p _ r => h t b j s p (fun z => r (by omega))
theorem FrD.q {I I' : xF4 Int32} (h : FrD I I') : FrQ I I' := fun t b j s _ _ r => h t b j s (fun z => r (by omega)) (fun z => r (by omega))
theorem FrC.q {I I' : xF4 Int32} (h : FrC 1 I I') : FrQ I I' := fun t b j s p _ _ => h t b j s p
theorem FrM.r {I I' : xF4 Int32} (h : FrM I I') : FrR I I' := fun t b j s p q => h t b j s (by omega) (by omega) (by omega)
theorem FrG.r {I I' : xF4 Int32} (h : FrG I I') : FrR I I' := h.m.r
theorem FrT.r {I I' : xF4 Int32} (h : FrT 32 I I') : FrR I I' := h.m.r
theorem FrH.r {I I' : xF4 Int32} (h : FrH I I') : FrR I I' := h.m.r
theorem FrQ.up {I : xF4 Int32} {t k j s : Nat} {v : Int32} (h : (12 ≤ t ∧ t ≤ 18) ∨ (t = 10 ∧ 3 ≤ s)) : FrQ I (xup I t k j s v) := fun t' b' j' s' p q r => by
  unfold xup
  rw [if_neg]
  rintro ⟨rfl, rfl, rfl, rfl⟩
  exact h.elim r q
theorem FrR.up {I : xF4 Int32} {t k j s : Nat} {v : Int32} (h : (t = 32 ∨ t = 34 ∨ t = 36 ∨ t = 40) ∨ (t = 30 ∧ (s = 6 ∨ s = 7 ∨ s = 8 ∨ s = 11 ∨ s = 12 ∨ s = 13 ∨ s = 14 ∨ s = 16 ∨ s = 18 ∨ s = 19))) : FrR I (xup I t k j s v) := fun t' b' j' s' p q => by
  unfold xup
  rw [if_neg]
  rintro ⟨rfl, rfl, rfl, rfl⟩
  exact h.elim p q
theorem FrQ.court {I I' : xF4 Int32} {k : Nat} {a : aA} (h : FrQ I I') (hk : k ≠ 1) (hc : CourtIs I k a) : CourtIs I' k a := hc.eqv (fun t j s ht => h t k j s (by omega) (by omega) (by omega))
theorem FrQ.lo {I I' : xF4 Int32} (h : FrQ I I') : Lo I I' := fun t b j s ht => h t b j s (by omega) (by omega) (by omega)
theorem FrR.hi {I I' : xF4 Int32} (h : FrR I I') : Hi I I' := fun t b j s ht => h t b j s (by omega) (by omega)
theorem FrR.si {I I' : xF4 Int32} {a : aA} (h : FrR I I') (hs : SI I a) : SI I' a := ⟨(h 30 0 0 3 (by omega) (by omega)).trans hs.1, (h 30 0 0 4 (by omega) (by omega)).trans hs.2.1, hs.2.2.fr (fun x => h 31 0 0 x (by omega) (by omega))⟩
theorem CH.q {I I' : xF4 Int32} {g : gG} (h : CH I g) (f : FrQ I I') : CH I' g := by
  obtain ⟨h1, h2, h3, h4, h5, h6, h7⟩ := h
  exact ⟨f.court (by decide) h1, fun k hk => (h2 k hk).eqv (f 9 k 0 1 (by omega) (by omega) (by omega)) (fun t j s ht => f t (2 + k) j s (by omega) (by omega) (by omega)), (f 10 0 0 1 (by omega) (by omega) (by omega)).trans h3, fun i hi => (f 11 0 0 i (by omega) (by omega) (by omega)).trans (h4 i hi), (f 10 0 0 2 (by omega) (by omega) (by omega)).trans h5, fun k hk => (h6 k hk).eqv (fun s => f 20 k 0 s (by omega) (by omega) (by omega)) (fun s => f 21 k 0 s (by omega) (by omega) (by omega)), (f 0 0 0 8 (by omega) (by omega) (by omega)).trans h7⟩
theorem MH.r {I I' : xF4 Int32} {g : gG} (h : MH I g) (f : FrR I I') : MH I' g := by
  obtain ⟨h1, h2, h3, h4, h5, h6, h7⟩ := h
  exact ⟨f.si h1, fun k hk => (h2 k hk).eqv (f 33 0 0 k (by omega) (by omega)) (fun s => f 31 0 0 s (by omega) (by omega)), (f 30 0 0 10 (by omega) (by omega)).trans h3, fun i hi => (f 35 0 0 i (by omega) (by omega)).trans (h4 i hi), (f 30 0 0 15 (by omega) (by omega)).trans h5, fun k hk => (h6 k hk).eqv (f 37 0 0 k (by omega) (by omega)) (f 38 0 0 k (by omega) (by omega)) (fun i _ => f 39 0 0 _ (by omega) (by omega)), (f 30 0 0 26 (by omega) (by omega)).trans h7⟩
theorem CH.hi {I I' : xF4 Int32} {g : gG} (h : CH I g) (f : Hi I I') : CH I' g := by
  obtain ⟨h1, h2, h3, h4, h5, h6, h7⟩ := h
  exact ⟨h1.eqv (fun t j s ht => f t 0 j s (by omega)), fun k hk => (h2 k hk).eqv (f 9 k 0 1 (by omega)) (fun t j s ht => f t (2 + k) j s (by omega)), (f 10 0 0 1 (by omega)).trans h3, fun i hi => (f 11 0 0 i (by omega)).trans (h4 i hi), (f 10 0 0 2 (by omega)).trans h5, fun k hk => (h6 k hk).eqv (fun s => f 20 k 0 s (by omega)) (fun s => f 21 k 0 s (by omega)), (f 0 0 0 8 (by omega)).trans h7⟩
theorem SI.lo {I I' : xF4 Int32} {a : aA} (h : SI I a) (f : Lo I I') : SI I' a := ⟨(f 30 0 0 3 (by omega)).trans h.1, (f 30 0 0 4 (by omega)).trans h.2.1, h.2.2.fr (fun x => f 31 0 0 x (by omega))⟩
theorem MH.lo {I I' : xF4 Int32} {g : gG} (h : MH I g) (f : Lo I I') : MH I' g := by
  obtain ⟨h1, h2, h3, h4, h5, h6, h7⟩ := h
  exact ⟨h1.lo f, fun k hk => (h2 k hk).eqv (f 33 0 0 k (by omega)) (fun s => f 31 0 0 s (by omega)), (f 30 0 0 10 (by omega)).trans h3, fun i hi => (f 35 0 0 i (by omega)).trans (h4 i hi), (f 30 0 0 15 (by omega)).trans h5, fun k hk => (h6 k hk).eqv (f 37 0 0 k (by omega)) (f 38 0 0 k (by omega)) (fun i _ => f 39 0 0 _ (by omega)), (f 30 0 0 26 (by omega)).trans h7⟩
/-- the ends of a call: an answer, the next ghost -/
abbrev pCl (x : xV) (g : gG) (I : xF4 Int32) : Option xV → xM → Prop := fun v M => v = some x ∧ ∃ I1 L1, M = rM I1 L1 ∧ CH I1 g ∧ Lo I I1
abbrev pMo (x : xV) (g : gG) (I : xF4 Int32) : Option xV → xM → Prop := fun v M => v = some x ∧ ∃ I1 L1, M = rM I1 L1 ∧ MH I1 g ∧ Hi I I1
/-- .. of a call that leaves all as it was -/
abbrev pCq (x : xV) (I : xF4 Int32) : Option xV → xM → Prop := fun v M => v = some x ∧ ∃ I1 L1, M = rM I1 L1 ∧ FrQ I I1
abbrev pMq (x : xV) (I : xF4 Int32) : Option xV → xM → Prop := fun v M => v = some x ∧ ∃ I1 L1, M = rM I1 L1 ∧ FrR I I1
theorem Tri.imp {d nF : Nat} {mr : xMR} {as : List xV} {M : xM} {Q Q' : Option xV → xM → Prop} (h : Tri d nF mr as M Q) (hq : ∀ v M', Q v M' → Q' v M') : Tri d nF mr as M Q' := h.post (fun v M' _ => hq v M')
theorem sim_i {g g' : gG} {x : Int32} {mC mM : xMR} {as : List xV} {I : xF4 Int32} {L : xF4 Int64} (hg : WG g') (hm : MH I g) (hc : CH I g) (h1 : Tri 20 109 mC (vR 0 0 0 :: as) (rM I L) (pCl (vI x) g' I)) (h2 : ∀ I1 L1, MH I1 g → Tri 20 109 mM (vR 30 0 0 :: as) (rM I1 L1) (pMo (vI x) g' I1)) : SimI Inv mC mM as I L :=
  ⟨x, fun I1 L1 => CH I1 g' ∧ Lo I I1, h1, fun I1 L1 hp => (h2 I1 L1 (hm.lo hp.2)).imp (fun v M h => ⟨h.1, by obtain ⟨I2, L2, e, h3, h4⟩ := h.2; exact ⟨I2, L2, e, g', hg, hp.1.hi h4, h3⟩⟩)⟩
theorem sim_l {g g' : gG} {x : Int64} {mC mM : xMR} {as : List xV} {I : xF4 Int32} {L : xF4 Int64} (hg : WG g') (hm : MH I g) (hc : CH I g) (h1 : Tri 20 109 mC (vR 0 0 0 :: as) (rM I L) (pCl (vL x) g' I)) (h2 : ∀ I1 L1, MH I1 g → Tri 20 109 mM (vR 30 0 0 :: as) (rM I1 L1) (pMo (vL x) g' I1)) : SimL Inv mC mM as I L :=
  ⟨x, fun I1 L1 => CH I1 g' ∧ Lo I I1, h1, fun I1 L1 hp => (h2 I1 L1 (hm.lo hp.2)).imp (fun v M h => ⟨h.1, by obtain ⟨I2, L2, e, h3, h4⟩ := h.2; exact ⟨I2, L2, e, g', hg, hp.1.hi h4, h3⟩⟩)⟩
theorem sim_qi {g : gG} {x : Int32} {mC mM : xMR} {as : List xV} {I : xF4 Int32} {L : xF4 Int64} (hg : WG g) (hm : MH I g) (hc : CH I g) (h1 : Tri 20 109 mC (vR 0 0 0 :: as) (rM I L) (pCq (vI x) I)) (h2 : ∀ I1 L1, MH I1 g → Tri 20 109 mM (vR 30 0 0 :: as) (rM I1 L1) (pMq (vI x) I1)) : SimI Inv mC mM as I L :=
  sim_i hg hm hc (h1.imp (fun v M h => ⟨h.1, by obtain ⟨I2, L2, e, h3⟩ := h.2; exact ⟨I2, L2, e, hc.q h3, h3.lo⟩⟩)) (fun I1 L1 hm1 => (h2 I1 L1 hm1).imp (fun v M h => ⟨h.1, by obtain ⟨I2, L2, e, h3⟩ := h.2; exact ⟨I2, L2, e, hm1.r h3, h3.hi⟩⟩))
theorem sim_ql {g : gG} {x : Int64} {mC mM : xMR} {as : List xV} {I : xF4 Int32} {L : xF4 Int64} (hg : WG g) (hm : MH I g) (hc : CH I g) (h1 : Tri 20 109 mC (vR 0 0 0 :: as) (rM I L) (pCq (vL x) I)) (h2 : ∀ I1 L1, MH I1 g → Tri 20 109 mM (vR 30 0 0 :: as) (rM I1 L1) (pMq (vL x) I1)) : SimL Inv mC mM as I L :=
  sim_l hg hm hc (h1.imp (fun v M h => ⟨h.1, by obtain ⟨I2, L2, e, h3⟩ := h.2; exact ⟨I2, L2, e, hc.q h3, h3.lo⟩⟩)) (fun I1 L1 hm1 => (h2 I1 L1 hm1).imp (fun v M h => ⟨h.1, by obtain ⟨I2, L2, e, h3⟩ := h.2; exact ⟨I2, L2, e, hm1.r h3, h3.hi⟩⟩))
/-! numbers, whole -/
theorem z_nI {n : Nat} (h : n < 2 ^ 31) : (nI n).toInt = (n : Int) := nI_toInt h
theorem z_sub {a b : Nat} (ha : a < 2 ^ 30) (hb : b < 2 ^ 30) : (nI a - nI b).toInt = (a : Int) - b := pk_sub_toInt ha hb
/-- a number from 0 on below n, or not -/
theorem zcase (x : Int32) {n : Nat} (hn : n < 2 ^ 31) : (∃ j : Nat, j < n ∧ x = nI j) ∨ (x.toInt < 0 ∨ (n : Int) ≤ x.toInt) := by
  rcases xcase x hn with h | h | h
  · exact Or.inl h
  · exact Or.inr (Or.inl (i32_lt.mp h))
  · refine Or.inr (Or.inr ?_)
    have := i32_le.mp h
    rwa [nI_toInt hn] at this
theorem z_out {x : Int32} {n : Nat} (hn : n < 2 ^ 31) (h : x.toInt < 0 ∨ (n : Int) ≤ x.toInt) : x < 0 ∨ nI n ≤ x := by
  rcases h with h | h
  · exact Or.inl (i32_lt.mpr h)
  · exact Or.inr (i32_le.mpr (by rw [nI_toInt hn]; exact h))
theorem inZ {v lo hi : Int64} {x l h : Int32} {X A B : Int} (e1 : v = x.toInt64) (e2 : lo = l.toInt64) (e3 : hi = h.toInt64) (f1 : x.toInt = X) (f2 : l.toInt = A) (f3 : h.toInt = B) : bI (lo ≤ v ∧ v ≤ hi) = bI (A ≤ X ∧ X ≤ B) := by
  subst e1 e2 e3 f1 f2 f3
  exact bI_congr (by rw [long_le, long_le, i32_le, i32_le])
theorem wiZ {x l h : Int32} {X A B : Int} (f1 : x.toInt = X) (f2 : l.toInt = A) (f3 : h.toInt = B) : bI (l ≤ x ∧ x ≤ h) = bI (A ≤ X ∧ X ≤ B) := by
  subst f1 f2 f3
  exact bI_congr (by rw [i32_le, i32_le])
theorem zlt {x y : Int32} {X Y : Int} (f1 : x.toInt = X) (f2 : y.toInt = Y) : x < y ↔ X < Y := by subst f1 f2; exact i32_lt
theorem zle {x y : Int32} {X Y : Int} (f1 : x.toInt = X) (f2 : y.toInt = Y) : x ≤ y ↔ X ≤ Y := by subst f1 f2; exact i32_le
theorem zeq {x y : Int32} {X Y : Int} (f1 : x.toInt = X) (f2 : y.toInt = Y) : x = y ↔ X = Y := by subst f1 f2; exact Int32.toInt_inj.symm
theorem bI_of {p : Prop} [Decidable p] (x : Bool) (h : p ↔ x = true) : bI p = bI (x = true) := bI_congr h
theorem w_top {d nF : Nat} {mr : xMR} {pc : Nat} {ls : List (Option xV)} {st : List xV} {M : xM} {Q : Option xV → xM → Prop} {x y : Int32} (h : x = y) (k : Wp d nF mr pc ls (vI y :: st) M Q) : Wp d nF mr pc ls (vI x :: st) M Q := by subst h; exact k
theorem w_topL {d nF : Nat} {mr : xMR} {pc : Nat} {ls : List (Option xV)} {st : List xV} {M : xM} {Q : Option xV → xM → Prop} {x y : Int64} (h : x = y) (k : Wp d nF mr pc ls (vL y :: st) M Q) : Wp d nF mr pc ls (vL x :: st) M Q := by subst h; exact k
theorem w_ls {d nF : Nat} {mr : xMR} {pc : Nat} {ls ls' : List (Option xV)} {st : List xV} {M : xM} {Q : Option xV → xM → Prop} (h : ls = ls') (k : Wp d nF mr pc ls' st M Q) : Wp d nF mr pc ls st M Q := by subst h; exact k

theorem d_isJudge {I : xF4 Int32} {L : xF4 Int64} {n : Nat} (hn : I 30 0 0 3 = nI n) (h8 : n ≤ 8) {x : Int32} {X : Int} (hx : x.toInt = X) : Tri 1 109 m_X11_isJudge [vR 30 0 0, vI (x)] (rM I L) (pI (bI (0 ≤ X ∧ X ≤ (n : Int) - 1)) I L) := by
  refine ⟨k_X11_isJudge, Nat.le_of_ble_eq_true rfl, ?_⟩
  show Wp _ _ _ 0 [some (vR 30 0 0), some (vI (x))] [] (rM I L) _
  refine w_iload_n dX11_isJudge_0 rfl ?_
  refine w_i2l dX11_isJudge_1 ?_
  refine w_lconst (v := 0) dX11_isJudge_2 (by decide) ?_
  refine w_aload_n dX11_isJudge_3 rfl ?_
  refine w_getI ff_X11_58 rfl rfl dX11_isJudge_4 ?_
  rw [show (I 30 0 0 3 : Int32) = nI n from hn]
  refine w_iconst (v := 1) dX11_isJudge_7 (by decide) ?_
  refine w_isub dX11_isJudge_8 ?_
  refine w_i2l dX11_isJudge_9 ?_
  refine w_callS (as := [vL ((x : Int32).toInt64), vL (0), vL (((nI n) - (1) : Int32).toInt64)]) (st := []) (Tri.mono (d_in ((x : Int32).toInt64) (0) (((nI n) - (1) : Int32).toInt64)) (Nat.le_of_ble_eq_true rfl)) tg_X11_in lk_X11_66 sa_X11_in rfl dX11_isJudge_10 rfl (Nat.le_of_ble_eq_true rfl) (Nat.le_refl _) (Nat.le_refl _) ?_
  rintro _ _ ⟨rfl, rfl⟩ -
  refine w_top (y := bI (0 ≤ X ∧ X ≤ (n : Int) - 1)) (show (bI ((0) ≤ ((x : Int32).toInt64) ∧ ((x : Int32).toInt64) ≤ (((nI n) - (1) : Int32).toInt64)) : Int32) = bI (0 ≤ X ∧ X ≤ (n : Int) - 1) from inZ (x := x) (l := 0) (h := nI n - 1) rfl (by decide) rfl hx (by decide) (z_sub (b := 1) (by omega) (by omega))) ?_
  exact w_ireturn dX11_isJudge_13 rfl (bI_nar _) rfl (⟨rfl, rfl⟩)

theorem d_isCase {I : xF4 Int32} {L : xF4 Int64} {n : Nat} (hn : I 30 0 0 4 = nI n) (h8 : n ≤ 8) {x : Int32} {X : Int} (hx : x.toInt = X) : Tri 1 109 m_X11_isCase [vR 30 0 0, vI (x)] (rM I L) (pI (bI (0 ≤ X ∧ X ≤ (n : Int) - 1)) I L) := by
  refine ⟨k_X11_isCase, Nat.le_of_ble_eq_true rfl, ?_⟩
  show Wp _ _ _ 0 [some (vR 30 0 0), some (vI (x))] [] (rM I L) _
  refine w_iload_n dX11_isCase_0 rfl ?_
  refine w_i2l dX11_isCase_1 ?_
  refine w_lconst (v := 0) dX11_isCase_2 (by decide) ?_
  refine w_aload_n dX11_isCase_3 rfl ?_
  refine w_getI ff_X11_61 rfl rfl dX11_isCase_4 ?_
  rw [show (I 30 0 0 4 : Int32) = nI n from hn]
  refine w_iconst (v := 1) dX11_isCase_7 (by decide) ?_
  refine w_isub dX11_isCase_8 ?_
  refine w_i2l dX11_isCase_9 ?_
  refine w_callS (as := [vL ((x : Int32).toInt64), vL (0), vL (((nI n) - (1) : Int32).toInt64)]) (st := []) (Tri.mono (d_in ((x : Int32).toInt64) (0) (((nI n) - (1) : Int32).toInt64)) (Nat.le_of_ble_eq_true rfl)) tg_X11_in lk_X11_66 sa_X11_in rfl dX11_isCase_10 rfl (Nat.le_of_ble_eq_true rfl) (Nat.le_refl _) (Nat.le_refl _) ?_
  rintro _ _ ⟨rfl, rfl⟩ -
  refine w_top (y := bI (0 ≤ X ∧ X ≤ (n : Int) - 1)) (show (bI ((0) ≤ ((x : Int32).toInt64) ∧ ((x : Int32).toInt64) ≤ (((nI n) - (1) : Int32).toInt64)) : Int32) = bI (0 ≤ X ∧ X ≤ (n : Int) - 1) from inZ (x := x) (l := 0) (h := nI n - 1) rfl (by decide) rfl hx (by decide) (z_sub (b := 1) (by omega) (by omega))) ?_
  exact w_ireturn dX11_isCase_13 rfl (bI_nar _) rfl (⟨rfl, rfl⟩)

theorem d_isPart {I : xF4 Int32} {L : xF4 Int64} {x : Int32} {X : Int} (hx : x.toInt = X) : Tri 1 109 m_X11_isPart [vI (x)] (rM I L) (pI (bI (0 ≤ X ∧ X ≤ 1)) I L) := by
  refine ⟨k_X11_isPart, Nat.le_of_ble_eq_true rfl, ?_⟩
  show Wp _ _ _ 0 [some (vI (x))] [] (rM I L) _
  refine w_iload_n dX11_isPart_0 rfl ?_
  refine w_i2l dX11_isPart_1 ?_
  refine w_lconst (v := 0) dX11_isPart_2 (by decide) ?_
  refine w_lconst (v := 1) dX11_isPart_3 (by decide) ?_
  refine w_callS (as := [vL ((x : Int32).toInt64), vL (0), vL (1)]) (st := []) (Tri.mono (d_in ((x : Int32).toInt64) (0) (1)) (Nat.le_of_ble_eq_true rfl)) tg_X11_in lk_X11_66 sa_X11_in rfl dX11_isPart_4 rfl (Nat.le_of_ble_eq_true rfl) (Nat.le_refl _) (Nat.le_refl _) ?_
  rintro _ _ ⟨rfl, rfl⟩ -
  rw [show (bI ((0) ≤ ((x : Int32).toInt64) ∧ ((x : Int32).toInt64) ≤ (1)) : Int32) = bI (0 ≤ X ∧ X ≤ 1) from inZ (x := x) (l := 0) (h := 1) rfl (by decide) (by decide) hx (by decide) (by decide)]
  exact w_ireturn dX11_isPart_7 rfl (bI_nar _) rfl (⟨rfl, rfl⟩)

theorem d_isSheet {I : xF4 Int32} {L : xF4 Int64} {x : Int32} {X : Int} (hx : x.toInt = X) {y : Int32} {Y : Int} (hy : y.toInt = Y) : Tri 1 109 m_X11_isSheet [vI (x), vI (y)] (rM I L) (pI (bI ((0 ≤ X ∧ X ≤ 3) ∧ (0 ≤ Y ∧ Y ≤ 2))) I L) := by
  refine ⟨k_X11_isSheet, Nat.le_of_ble_eq_true rfl, ?_⟩
  show Wp _ _ _ 0 [some (vI (x)), some (vI (y))] [] (rM I L) _
  refine w_iload_n dX11_isSheet_0 rfl ?_
  refine w_i2l dX11_isSheet_1 ?_
  refine w_lconst (v := 0) dX11_isSheet_2 (by decide) ?_
  refine w_ldc2 dX11_isSheet_3 cq_X11_209 ?_
  refine w_callS (as := [vL ((x : Int32).toInt64), vL (0), vL (3)]) (st := []) (Tri.mono (d_in ((x : Int32).toInt64) (0) (3)) (Nat.le_of_ble_eq_true rfl)) tg_X11_in lk_X11_66 sa_X11_in rfl dX11_isSheet_6 rfl (Nat.le_of_ble_eq_true rfl) (Nat.le_refl _) (Nat.le_refl _) ?_
  rintro _ _ ⟨rfl, rfl⟩ -
  refine w_top (y := bI (0 ≤ X ∧ X ≤ 3)) (show (bI ((0) ≤ ((x : Int32).toInt64) ∧ ((x : Int32).toInt64) ≤ (3)) : Int32) = bI (0 ≤ X ∧ X ≤ 3) from inZ (x := x) (l := 0) (h := 3) rfl (by decide) (by decide) hx (by decide) (by decide)) ?_
  refine w_ifeq_b (tgt := 28) dX11_isSheet_9 (by decide) (fun h1 => ?_) (fun h1 => ?_)
  · skip
    first
    | (exfalso; omega)
    | skip
      refine w_iconst (v := 0) dX11_isSheet_28 (by decide) ?_
      exact w_ireturn dX11_isSheet_29 rfl (rfl) rfl (⟨by rw [bI_f (by omega)], rfl⟩)
  · skip
    first
    | (exfalso; omega)
    | skip
      refine w_iload_n dX11_isSheet_12 rfl ?_
      refine w_i2l dX11_isSheet_13 ?_
      refine w_lconst (v := 0) dX11_isSheet_14 (by decide) ?_
      refine w_ldc2 dX11_isSheet_15 cq_X11_293 ?_
      refine w_callS (as := [vL ((y : Int32).toInt64), vL (0), vL (2)]) (st := []) (Tri.mono (d_in ((y : Int32).toInt64) (0) (2)) (Nat.le_of_ble_eq_true rfl)) tg_X11_in lk_X11_66 sa_X11_in rfl dX11_isSheet_18 rfl (Nat.le_of_ble_eq_true rfl) (Nat.le_refl _) (Nat.le_refl _) ?_
      rintro _ _ ⟨rfl, rfl⟩ -
      refine w_top (y := bI (0 ≤ Y ∧ Y ≤ 2)) (show (bI ((0) ≤ ((y : Int32).toInt64) ∧ ((y : Int32).toInt64) ≤ (2)) : Int32) = bI (0 ≤ Y ∧ Y ≤ 2) from inZ (x := y) (l := 0) (h := 2) rfl (by decide) (by decide) hy (by decide) (by decide)) ?_
      refine w_ifeq_b (tgt := 28) dX11_isSheet_21 (by decide) (fun h2 => ?_) (fun h2 => ?_)
      · skip
        first
        | (exfalso; omega)
        | skip
          refine w_iconst (v := 0) dX11_isSheet_28 (by decide) ?_
          exact w_ireturn dX11_isSheet_29 rfl (rfl) rfl (⟨by rw [bI_f (by omega)], rfl⟩)
      · skip
        first
        | (exfalso; omega)
        | skip
          refine w_iconst (v := 1) dX11_isSheet_24 (by decide) ?_
          refine w_goto (tgt := 29) dX11_isSheet_25 (by decide) ?_
          exact w_ireturn dX11_isSheet_29 rfl (rfl) rfl (⟨by rw [bI_t (by omega)], rfl⟩)

theorem d_isHeard {I : xF4 Int32} {L : xF4 Int64} {a : aA} (hs : SI I a) (hw : WF a) {c : Nat} (hcc : c < nC a) : Tri 0 109 m_X11_isHeard [vR 30 0 0, vI (nI c)] (rM I L) (pI (bI (0 < sF a c 4)) I L) := by
  refine ⟨k_X11_isHeard, Nat.le_of_ble_eq_true rfl, ?_⟩
  show Wp _ _ _ 0 [some (vR 30 0 0), some (vI (nI c))] [] (rM I L) _
  obtain ⟨hJ, hC, hG, hD, hR, -⟩ := id hw
  obtain ⟨fc0, fc1, fc2, fc3, fc4, fc5, fc6, fc7, fc8⟩ := hw.2.2.2.2.2.2.1 c hcc
  refine w_aload_n dX11_isHeard_0 rfl ?_
  refine w_getR (w := some (31, 0, 0)) ff_X11_7 rfl rfl dX11_isHeard_1 rfl ?_
  refine w_bipush (v := 20) dX11_isHeard_4 (by decide) ?_
  refine w_bipush (v := 7) dX11_isHeard_6 (by decide) ?_
  refine w_iload_n dX11_isHeard_8 rfl ?_
  refine w_imul dX11_isHeard_9 ?_
  rw [show ((7) * (nI c) : Int32) = nI (7 * c) from ar_mul (p := 7) (q := c) rfl rfl (by first | rfl | omega)]
  refine w_iadd dX11_isHeard_10 ?_
  rw [show ((20) + (nI (7 * c)) : Int32) = nI (20 + (7 * c)) from ar_add (p := 20) (q := 7 * c) rfl rfl (by omega)]
  refine w_iconst (v := 4) dX11_isHeard_11 (by decide) ?_
  refine w_iadd dX11_isHeard_12 ?_
  rw [show ((nI (20 + (7 * c))) + (4) : Int32) = nI ((20 + (7 * c)) + 4) from ar_add (p := 20 + (7 * c)) (q := 4) rfl rfl (by omega)]
  refine w_iaload (a := (20 + (7 * c)) + 4) rfl (vp_in_nI (n := (20 + (7 * c)) + 4) (by omega) (by omega)) (nI_clamp (n := (20 + (7 * c)) + 4) (by omega)) dX11_isHeard_13 ?_
  rw [show (I 31 0 0 ((20 + (7 * c)) + 4) : Int32) = nI (sF a c 4) from hs.2.2.s hcc (f := 4) (by decide) (by decide) (by omega)]
  refine w_if_le (tgt := 21) dX11_isHeard_14 (by decide) (fun h1 => ?_) (fun h1 => ?_)
  · skip
    replace h1 : ((sF a c 4 : Nat) : Int) ≤ 0 := (zle (z_nI (by omega)) (by decide)).mp h1
    first
    | (exfalso; omega)
    | skip
      refine w_iconst (v := 0) dX11_isHeard_21 (by decide) ?_
      exact w_ireturn dX11_isHeard_22 rfl (rfl) rfl (⟨by rw [bI_f (by omega)], rfl⟩)
  · skip
    replace h1 : ¬ (((sF a c 4 : Nat) : Int) ≤ 0) := fun q => h1 ((zle (z_nI (by omega)) (by decide)).mpr q)
    first
    | (exfalso; omega)
    | skip
      refine w_iconst (v := 1) dX11_isHeard_17 (by decide) ?_
      refine w_goto (tgt := 22) dX11_isHeard_18 (by decide) ?_
      exact w_ireturn dX11_isHeard_22 rfl (rfl) rfl (⟨by rw [bI_t (by omega)], rfl⟩)

theorem c_imageAt {I : xF4 Int32} {L : xF4 Int64} {i : Nat} (hi : i < 2) : Tri 0 109 m_X10_imageAt [vR 0 0 0, vI (nI i)] (rM I L) (pO (some (9, i, 0)) I L) := by
  refine ⟨k_X10_imageAt, Nat.le_of_ble_eq_true rfl, ?_⟩
  show Wp _ _ _ 0 [some (vR 0 0 0), some (vI (nI i))] [] (rM I L) _
  refine w_iload_n dX10_imageAt_0 rfl ?_
  refine w_if_lt (tgt := 22) dX10_imageAt_1 (by decide) (fun h => absurd h (nI_pos (by omega))) (fun _ => ?_)
  refine w_iload_n dX10_imageAt_4 rfl ?_
  refine w_aload_n dX10_imageAt_5 rfl ?_
  refine w_getR (w := some (8, 0, 0)) ff_X10_21 rfl rfl dX10_imageAt_6 rfl ?_
  refine w_alen (v := 2) rfl rfl dX10_imageAt_9 ?_
  refine w_icmp_ge (tgt := 22) dX10_imageAt_10 (by decide) (fun h => absurd h (nI_ge (b := 2) hi (by omega))) (fun _ => ?_)
  refine w_aload_n dX10_imageAt_13 rfl ?_
  refine w_getR (w := some (8, 0, 0)) ff_X10_21 rfl rfl dX10_imageAt_14 rfl ?_
  refine w_iload_n dX10_imageAt_17 rfl ?_
  refine w_aaload (a := i) (w := some (9, i, 0)) rfl (by decide) (fun _ => rfl) (vp_in_nI (by omega) (by omega)) (nI_clamp (by omega)) (by show (if i < 2 then _ else _) = _; rw [if_pos (show i < 2 by omega)]) dX10_imageAt_18 ?_
  refine w_goto (tgt := 23) dX10_imageAt_19 (by decide) ?_
  exact w_areturn dX10_imageAt_23 rfl rfl (⟨rfl, rfl⟩)

theorem c_imageAtO {I : xF4 Int32} {L : xF4 Int64} {x : Int32} (hx : x.toInt < 0 ∨ ((2 : Nat) : Int) ≤ x.toInt) : Tri 0 109 m_X10_imageAt [vR 0 0 0, vI (x)] (rM I L) (pO none I L) := by
  refine ⟨k_X10_imageAt, Nat.le_of_ble_eq_true rfl, ?_⟩
  show Wp _ _ _ 0 [some (vR 0 0 0), some (vI (x))] [] (rM I L) _
  refine w_iload_n dX10_imageAt_0 rfl ?_
  refine w_if_lt (tgt := 22) dX10_imageAt_1 (by decide) (fun h1 => ?_) (fun h1 => ?_)
  · skip
    replace h1 : x.toInt < 0 := (zlt rfl (by decide)).mp h1
    first
    | (exfalso; omega)
    | skip
      refine w_null dX10_imageAt_22 ?_
      exact w_areturn dX10_imageAt_23 rfl rfl (⟨rfl, rfl⟩)
  · skip
    replace h1 : ¬ (x.toInt < 0) := fun q => h1 ((zlt rfl (by decide)).mpr q)
    first
    | (exfalso; omega)
    | skip
      refine w_iload_n dX10_imageAt_4 rfl ?_
      refine w_aload_n dX10_imageAt_5 rfl ?_
      refine w_getR (w := some (8, 0, 0)) ff_X10_21 rfl rfl dX10_imageAt_6 rfl ?_
      refine w_alen (v := 2) rfl rfl dX10_imageAt_9 ?_
      refine w_icmp_ge (tgt := 22) dX10_imageAt_10 (by decide) (fun h2 => ?_) (fun h2 => ?_)
      · skip
        replace h2 : 2 ≤ x.toInt := (zle (by decide) rfl).mp h2
        first
        | (exfalso; omega)
        | skip
          refine w_null dX10_imageAt_22 ?_
          exact w_areturn dX10_imageAt_23 rfl rfl (⟨rfl, rfl⟩)
      · skip
        replace h2 : ¬ (2 ≤ x.toInt) := fun q => h2 ((zle (by decide) rfl).mpr q)
        first
        | (exfalso; omega)
        | skip
          refine w_aload_n dX10_imageAt_13 rfl ?_
          refine w_getR (w := some (8, 0, 0)) ff_X10_21 rfl rfl dX10_imageAt_14 rfl ?_
          refine w_iload_n dX10_imageAt_17 rfl ?_
          exfalso
          omega

theorem c_sheetAt {I : xF4 Int32} {L : xF4 Int64} {i : Nat} (hi : i < 4) : Tri 0 109 m_X10_sheetAt [vR 0 0 0, vI (nI i)] (rM I L) (pO (some (20, i, 0)) I L) := by
  refine ⟨k_X10_sheetAt, Nat.le_of_ble_eq_true rfl, ?_⟩
  show Wp _ _ _ 0 [some (vR 0 0 0), some (vI (nI i))] [] (rM I L) _
  refine w_iload_n dX10_sheetAt_0 rfl ?_
  refine w_if_lt (tgt := 22) dX10_sheetAt_1 (by decide) (fun h => absurd h (nI_pos (by omega))) (fun _ => ?_)
  refine w_iload_n dX10_sheetAt_4 rfl ?_
  refine w_aload_n dX10_sheetAt_5 rfl ?_
  refine w_getR (w := some (19, 0, 0)) ff_X10_56 rfl rfl dX10_sheetAt_6 rfl ?_
  refine w_alen (v := 4) rfl rfl dX10_sheetAt_9 ?_
  refine w_icmp_ge (tgt := 22) dX10_sheetAt_10 (by decide) (fun h => absurd h (nI_ge (b := 4) hi (by omega))) (fun _ => ?_)
  refine w_aload_n dX10_sheetAt_13 rfl ?_
  refine w_getR (w := some (19, 0, 0)) ff_X10_56 rfl rfl dX10_sheetAt_14 rfl ?_
  refine w_iload_n dX10_sheetAt_17 rfl ?_
  refine w_aaload (a := i) (w := some (20, i, 0)) rfl (by decide) (fun _ => rfl) (vp_in_nI (by omega) (by omega)) (nI_clamp (by omega)) (by show (if i < 4 then _ else _) = _; rw [if_pos (show i < 4 by omega)]) dX10_sheetAt_18 ?_
  refine w_goto (tgt := 23) dX10_sheetAt_19 (by decide) ?_
  exact w_areturn dX10_sheetAt_23 rfl rfl (⟨rfl, rfl⟩)

theorem c_sheetAtO {I : xF4 Int32} {L : xF4 Int64} {x : Int32} (hx : x.toInt < 0 ∨ ((4 : Nat) : Int) ≤ x.toInt) : Tri 0 109 m_X10_sheetAt [vR 0 0 0, vI (x)] (rM I L) (pO none I L) := by
  refine ⟨k_X10_sheetAt, Nat.le_of_ble_eq_true rfl, ?_⟩
  show Wp _ _ _ 0 [some (vR 0 0 0), some (vI (x))] [] (rM I L) _
  refine w_iload_n dX10_sheetAt_0 rfl ?_
  refine w_if_lt (tgt := 22) dX10_sheetAt_1 (by decide) (fun h1 => ?_) (fun h1 => ?_)
  · skip
    replace h1 : x.toInt < 0 := (zlt rfl (by decide)).mp h1
    first
    | (exfalso; omega)
    | skip
      refine w_null dX10_sheetAt_22 ?_
      exact w_areturn dX10_sheetAt_23 rfl rfl (⟨rfl, rfl⟩)
  · skip
    replace h1 : ¬ (x.toInt < 0) := fun q => h1 ((zlt rfl (by decide)).mpr q)
    first
    | (exfalso; omega)
    | skip
      refine w_iload_n dX10_sheetAt_4 rfl ?_
      refine w_aload_n dX10_sheetAt_5 rfl ?_
      refine w_getR (w := some (19, 0, 0)) ff_X10_56 rfl rfl dX10_sheetAt_6 rfl ?_
      refine w_alen (v := 4) rfl rfl dX10_sheetAt_9 ?_
      refine w_icmp_ge (tgt := 22) dX10_sheetAt_10 (by decide) (fun h2 => ?_) (fun h2 => ?_)
      · skip
        replace h2 : 4 ≤ x.toInt := (zle (by decide) rfl).mp h2
        first
        | (exfalso; omega)
        | skip
          refine w_null dX10_sheetAt_22 ?_
          exact w_areturn dX10_sheetAt_23 rfl rfl (⟨rfl, rfl⟩)
      · skip
        replace h2 : ¬ (4 ≤ x.toInt) := fun q => h2 ((zle (by decide) rfl).mpr q)
        first
        | (exfalso; omega)
        | skip
          refine w_aload_n dX10_sheetAt_13 rfl ?_
          refine w_getR (w := some (19, 0, 0)) ff_X10_56 rfl rfl dX10_sheetAt_14 rfl ?_
          refine w_iload_n dX10_sheetAt_17 rfl ?_
          exfalso
          omega
