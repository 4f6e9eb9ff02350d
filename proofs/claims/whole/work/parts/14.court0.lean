/-! THE ABSTRACT COURT: how many judges, cases, sights; day, crime; judges' numbers, scars; cases' numbers, by whom; sights -/
abbrev aA : Type := Nat × (Nat × (Nat × (Nat × (Nat × ((Nat → Nat → Nat) × ((Nat → Int32) × ((Nat → Nat → Nat) × ((Nat → Option Nat) × (Nat → Nat → Nat)))))))))
abbrev nJ (a : aA) : Nat := a.1
abbrev nC (a : aA) : Nat := a.2.1
abbrev nG (a : aA) : Nat := a.2.2.1
abbrev dY (a : aA) : Nat := a.2.2.2.1
abbrev cR (a : aA) : Nat := a.2.2.2.2.1
abbrev jF (a : aA) (j f : Nat) : Nat := a.2.2.2.2.2.1 j f
abbrev sC (a : aA) (j : Nat) : Int32 := a.2.2.2.2.2.2.1 j
abbrev sF (a : aA) (c f : Nat) : Nat := a.2.2.2.2.2.2.2.1 c f
abbrev bY (a : aA) (c : Nat) : Option Nat := a.2.2.2.2.2.2.2.2.1 c
abbrev gF (a : aA) (i f : Nat) : Nat := a.2.2.2.2.2.2.2.2.2 i f
def up2 (f : Nat → Nat → Nat) (i s v : Nat) : Nat → Nat → Nat := fun i' s' => if i' = i ∧ s' = s then v else f i' s'
def up1 {α : Type} (f : Nat → α) (i : Nat) (v : α) : Nat → α := fun i' => if i' = i then v else f i'
def byI : Option Nat → Int32
  | some b => nI b
  | none => -4
def WF (a : aA) : Prop := nJ a ≤ 4 ∧ nC a ≤ 5 ∧ nG a ≤ 6 ∧ dY a ≤ 2000 ∧ cR a ≤ 99 ∧ (∀ j, j < nJ a → jF a j 0 < 4 ∧ jF a j 1 ≤ 20 ∧ jF a j 2 ≤ 99 ∧ jF a j 3 ≤ 5000) ∧
  (∀ c, c < nC a → sF a c 0 < 4 ∧ 1 ≤ sF a c 1 ∧ sF a c 1 ≤ sF a c 2 ∧ sF a c 2 ≤ 60 ∧ sF a c 3 ≤ 20 ∧ sF a c 4 ≤ 60 ∧ sF a c 6 ≤ 60 ∧ (sF a c 4 = 0 ↔ bY a c = none) ∧ ∀ b, bY a c = some b → b < nJ a) ∧
  (∀ i, i < nG a → gF a i 0 < nJ a ∧ gF a i 1 < nC a ∧ gF a i 2 ≤ 60)
/-- the court k of the memory is this abstract one -/
def CourtIs (I : xF4 Int32) (k : Nat) (a : aA) : Prop := I 1 k 0 3 = nI (nJ a) ∧ I 1 k 0 4 = nI (nC a) ∧ I 1 k 0 5 = nI (nG a) ∧ I 1 k 0 6 = nI (dY a) ∧ I 1 k 0 7 = nI (cR a) ∧
  (∀ j, j < nJ a → (∀ f, f < 4 → I 3 k j f = nI (jF a j f)) ∧ I 3 k j 4 = sC a j) ∧ (∀ c, c < nC a → (∀ f, f < 7 → f ≠ 5 → I 5 k c f = nI (sF a c f)) ∧ I 5 k c 5 = byI (bY a c)) ∧ (∀ i, i < nG a → ∀ f, f < 3 → I 7 k i f = nI (gF a i f))
theorem CourtIs.j {I : xF4 Int32} {k : Nat} {a : aA} (h : CourtIs I k a) {j f : Nat} (hj : j < nJ a) (hf : f < 4) : I 3 k j f = nI (jF a j f) := (h.2.2.2.2.2.1 j hj).1 f hf
theorem CourtIs.sc {I : xF4 Int32} {k : Nat} {a : aA} (h : CourtIs I k a) {j : Nat} (hj : j < nJ a) : I 3 k j 4 = sC a j := (h.2.2.2.2.2.1 j hj).2
theorem CourtIs.s {I : xF4 Int32} {k : Nat} {a : aA} (h : CourtIs I k a) {c f : Nat} (hc : c < nC a) (hf : f < 7) (h5 : f ≠ 5) : I 5 k c f = nI (sF a c f) := (h.2.2.2.2.2.2.1 c hc).1 f hf h5
theorem CourtIs.b {I : xF4 Int32} {k : Nat} {a : aA} (h : CourtIs I k a) {c : Nat} (hc : c < nC a) : I 5 k c 5 = byI (bY a c) := (h.2.2.2.2.2.2.1 c hc).2
theorem CourtIs.g {I : xF4 Int32} {k : Nat} {a : aA} (h : CourtIs I k a) {i f : Nat} (hi : i < nG a) (hf : f < 3) : I 7 k i f = nI (gF a i f) := h.2.2.2.2.2.2.2 i hi f hf
/-- nothing outside the court k has changed -/
def FrC (k : Nat) (I I' : xF4 Int32) : Prop := ∀ t b j s, ¬ ((t = 1 ∨ t = 3 ∨ t = 5 ∨ t = 7) ∧ b = k) → I' t b j s = I t b j s
theorem FrC.rf {k : Nat} {I : xF4 Int32} : FrC k I I := fun _ _ _ _ _ => rfl
theorem FrC.tr {k : Nat} {I I1 I2 : xF4 Int32} (h1 : FrC k I I1) (h2 : FrC k I1 I2) : FrC k I I2 := fun t b j s h => (h2 t b j s h).trans (h1 t b j s h)
theorem FrC.up {k : Nat} {I : xF4 Int32} {t j s : Nat} {v : Int32} (h : t = 1 ∨ t = 3 ∨ t = 5 ∨ t = 7) : FrC k I (xup I t k j s v) := fun t' b' j' s' hn => by
  unfold xup
  rw [if_neg]
  rintro ⟨rfl, rfl, -, -⟩
  exact hn ⟨h, rfl⟩
theorem FrC.court {k k' : Nat} {I I' : xF4 Int32} {a : aA} (h : FrC k I I') (hk : k' ≠ k) (hc : CourtIs I k' a) : CourtIs I' k' a := by
  have e : ∀ t j s, I' t k' j s = I t k' j s := fun t j s => h t k' j s (fun q => hk q.2)
  unfold CourtIs
  simp only [e]
  exact hc
/-! numbers -/
def tenN (kind n : Nat) : Nat := if kind = 0 then (n + 9) / 10 else if kind = 1 then (if 1 < (n + 9) / 10 - 1 then (n + 9) / 10 - 1 else 1) else if kind = 2 then ((n + 9) / 10 + 1) / 2 else 2 * (((n + 9) / 10 + 1) / 2)
theorem tenI_N0 : ∀ kind, kind < 4 → ∀ n, n < 61 → tenI (nI kind) (nI n) = nI (tenN kind n) ∧ tenN kind n ≤ 12 := by decide +kernel
theorem tenI_N {kind n : Nat} (h : kind < 4) (hn : n ≤ 60) : tenI (nI kind) (nI n) = nI (tenN kind n) := (tenI_N0 kind h n (by omega)).1
theorem tenN_le {kind n : Nat} (h : kind < 4) (hn : n ≤ 60) : tenN kind n ≤ 12 := (tenI_N0 kind h n (by omega)).2
theorem lessI_N0 : ∀ cr, cr < 100 → ∀ n, n < 61 → lessI (nI cr) (nI n) = nI (cr - n / 5) ∧ moreI (nI cr) (nI n) = nI (min 99 (cr + n / 5)) := by decide +kernel
theorem lessI_N {cr n : Nat} (h : cr ≤ 99) (hn : n ≤ 60) : lessI (nI cr) (nI n) = nI (cr - n / 5) := (lessI_N0 cr (by omega) n (by omega)).1
theorem moreI_N {cr n : Nat} (h : cr ≤ 99) (hn : n ≤ 60) : moreI (nI cr) (nI n) = nI (min 99 (cr + n / 5)) := (lessI_N0 cr (by omega) n (by omega)).2
theorem minI_N {x y : Nat} (hx : x < 2 ^ 31) (hy : y < 2 ^ 31) : minI (nI x) (nI y) = nI (min x y) := by
  unfold minI
  by_cases h : y < x
  · rw [if_pos (nI_lt h hx), show min x y = y by omega]
  · rw [if_neg (fun q => h ((nI_ltI hy hx).mp q)), show min x y = x by omega]
abbrev bearN (sort t pur hea : Nat) : Prop := (sort = 1 ∧ t ≤ pur) ∨ (¬ sort = 1 ∧ (¬ sort = 2 ∨ t < hea))
theorem nI_eq1 {a : Nat} {x : Int32} {b : Nat} (hx : x = nI b) (ha : a < 2 ^ 31) (hb : b < 2 ^ 31) : nI a = x ↔ a = b := by rw [hx]; exact nI_eq ha hb
theorem bearP_N {sort t pur hea : Nat} (h1 : sort < 4) (h2 : t ≤ 60) (h3 : pur ≤ 99) (h4 : hea ≤ 20) : bearP (nI sort) (nI t) (nI pur) (nI hea) ↔ bearN sort t pur hea := by
  unfold bearP bearN
  rw [nI_leI (by omega) (by omega), nI_ltI (by omega) (by omega), nI_eq1 (x := 1) (b := 1) (by decide) (by omega) (by omega), nI_eq1 (x := 2) (b := 2) (by decide) (by omega) (by omega)]
/-! what a court does -/
abbrev canN (a : aA) (c j n : Nat) : Prop := sF a c 4 = 0 ∧ sF a c 3 ≤ dY a ∧ jF a j 3 ≤ dY a ∧ bearN (sF a c 0) (tenN (jF a j 0) n) (jF a j 2) (jF a j 1)
def mkA (nj nc ng dy cr : Nat) (J : Nat → Nat → Nat) (sc : Nat → Int32) (S : Nat → Nat → Nat) (b : Nat → Option Nat) (G : Nat → Nat → Nat) : aA := (nj, nc, ng, dy, cr, J, sc, S, b, G)
def JF (a : aA) : Nat → Nat → Nat := a.2.2.2.2.2.1
def SC (a : aA) : Nat → Int32 := a.2.2.2.2.2.2.1
def SF (a : aA) : Nat → Nat → Nat := a.2.2.2.2.2.2.2.1
def BY (a : aA) : Nat → Option Nat := a.2.2.2.2.2.2.2.2.1
def GF (a : aA) : Nat → Nat → Nat := a.2.2.2.2.2.2.2.2.2
/-- the judge serves t of a case of this sort -/
def servN (a : aA) (j sort t : Nat) : aA := if sort = 0 then mkA (nJ a) (nC a) (nG a) (dY a) (cR a) (up2 (JF a) j 3 (dY a + t)) (SC a) (SF a) (BY a) (GF a)
  else if sort = 1 then mkA (nJ a) (nC a) (nG a) (dY a) (cR a) (up2 (JF a) j 2 (jF a j 2 - t)) (SC a) (SF a) (BY a) (GF a)
  else if sort = 2 then mkA (nJ a) (nC a) (nG a) (dY a) (cR a) (up2 (JF a) j 1 (jF a j 1 - t)) (up1 (SC a) j (sC a j + nI t)) (SF a) (BY a) (GF a)
  else mkA (nJ a) (nC a) (nG a) (dY a) (cR a) (up2 (JF a) j 3 (dY a + 1)) (up1 (SC a) j (sC a j + 1)) (SF a) (BY a) (GF a)
def regN (a : aA) (j sort t : Nat) : aA := if sort = 0 then mkA (nJ a) (nC a) (nG a) (dY a) (cR a) (up2 (JF a) j 3 (min (jF a j 3) (dY a))) (SC a) (SF a) (BY a) (GF a)
  else if sort = 1 then mkA (nJ a) (nC a) (nG a) (dY a) (cR a) (up2 (JF a) j 2 (min 99 (jF a j 2 + t))) (SC a) (SF a) (BY a) (GF a)
  else if sort = 2 then mkA (nJ a) (nC a) (nG a) (dY a) (cR a) (up2 (JF a) j 1 (min 20 (jF a j 1 + t))) (up1 (SC a) j (sC a j - nI t)) (SF a) (BY a) (GF a)
  else mkA (nJ a) (nC a) (nG a) (dY a) (cR a) (up2 (JF a) j 3 (min (jF a j 3) (dY a))) (up1 (SC a) j (sC a j - 1)) (SF a) (BY a) (GF a)
def closN (a : aA) (c n : Nat) (b : Option Nat) (t : Nat) : aA := mkA (nJ a) (nC a) (nG a) (dY a) (cR a) (JF a) (SC a) (up2 (up2 (SF a) c 4 n) c 6 t) (up1 (BY a) c b) (GF a)
def crimN (a : aA) (cr : Nat) : aA := mkA (nJ a) (nC a) (nG a) (dY a) cr (JF a) (SC a) (SF a) (BY a) (GF a)
/-- a sentence to n -/
def sentN (a : aA) (c j n : Nat) : aA := crimN (closN (servN a j (sF a c 0) (tenN (jF a j 0) n)) c n (some j) (tenN (jF a j 0) n)) (cR a - n / 5)
/-- an appeal -/
def undoN (a : aA) (c : Nat) : aA := closN (crimN (regN a ((bY a c).getD 0) (sF a c 0) (sF a c 6)) (min 99 (cR a + sF a c 4 / 5))) c 0 none 0
def waitN (a : aA) (d : Nat) : Nat → Nat
  | 0 => 0
  | c + 1 => waitN a d c + if sF a c 4 = 0 ∧ sF a c 3 ≤ d then 1 else 0
def dayN (a : aA) : aA := mkA (nJ a) (nC a) (nG a) (dY a + 1) (min 99 (cR a + waitN a (dY a + 1) (nC a))) (JF a) (SC a) (SF a) (BY a) (GF a)
/-- a set of numbers as bits -/
def bitN (p : Nat → Bool) : Nat → Nat
  | 0 => 0
  | c + 1 => bitN p c + if p c = true then 2 ^ c else 0
theorem bitN_lt (p : Nat → Bool) : ∀ c, bitN p c < 2 ^ c
  | 0 => Nat.zero_lt_one
  | c + 1 => by
    have := bitN_lt p c
    have e : 2 ^ (c + 1) = 2 ^ c + 2 ^ c := by rw [Nat.pow_succ]; omega
    rw [bitN, e]
    split <;> omega
theorem bit_or0 : ∀ c, c < 6 → ∀ v, v < 2 ^ c → nI v ||| ((1 : Int32) <<< (nI c &&& 31)) = nI (v + 2 ^ c) := by decide +kernel
theorem bit_or {p : Nat → Bool} {c : Nat} (hc : c < 6) (h : p c = true) : nI (bitN p c) ||| ((1 : Int32) <<< (nI c &&& 31)) = nI (bitN p (c + 1)) := by rw [bit_or0 c hc _ (bitN_lt p c), bitN, if_pos h]
theorem bit_no {p : Nat → Bool} {c : Nat} (h : ¬ p c = true) : nI (bitN p c) = nI (bitN p (c + 1)) := by rw [bitN, if_neg h, Nat.add_zero]
def heardN (a : aA) : Nat := bitN (fun c => decide (0 < sF a c 4)) (nC a)
def awayN (a : aA) : Nat := bitN (fun j => decide (dY a < jF a j 3)) (nJ a)
def sumN (f : Nat → Nat) : Nat → Nat
  | 0 => 0
  | n + 1 => sumN f n + f n
def sumI (f : Nat → Int32) : Nat → Int32
  | 0 => 0
  | n + 1 => sumI f n + f n
