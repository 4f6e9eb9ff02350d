/-! the abstract court through hearings and days -/
theorem up2_eq {f : Nat → Nat → Nat} {i s v : Nat} : up2 f i s v i s = v := by simp [up2]
theorem up2_ne {f : Nat → Nat → Nat} {i s v i' s' : Nat} (h : ¬ (i' = i ∧ s' = s)) : up2 f i s v i' s' = f i' s' := if_neg h
theorem up2_ns {f : Nat → Nat → Nat} {i s v i' s' : Nat} (h : s' ≠ s) : up2 f i s v i' s' = f i' s' := if_neg (fun q => h q.2)
theorem up1_eq {α : Type} {f : Nat → α} {i : Nat} {v : α} : up1 f i v i = v := by simp [up1]
theorem up1_ne {α : Type} {f : Nat → α} {i i' : Nat} {v : α} (h : i' ≠ i) : up1 f i v i' = f i' := if_neg h
theorem WF.of {a b : aA} (hw : WF a) (e1 : nJ b = nJ a) (e2 : nC b = nC a) (e3 : nG b = nG a) (h4 : dY b ≤ 2000) (h5 : cR b ≤ 99) (h6 : ∀ j, j < nJ a → jF b j 0 = jF a j 0 ∧ jF b j 1 ≤ 20 ∧ jF b j 2 ≤ 99 ∧ jF b j 3 ≤ 5000)
    (h7 : ∀ c, c < nC a → sF b c 0 = sF a c 0 ∧ sF b c 1 = sF a c 1 ∧ sF b c 2 = sF a c 2 ∧ sF b c 3 = sF a c 3 ∧ sF b c 4 ≤ 60 ∧ sF b c 6 ≤ 60 ∧ (sF b c 4 = 0 ↔ bY b c = none) ∧ ∀ x, bY b c = some x → x < nJ a) (h8 : ∀ i f, gF b i f = gF a i f) : WF b := by
  obtain ⟨w1, w2, w3, w4, w5, w6, w7, w8⟩ := hw
  refine ⟨by rw [e1]; exact w1, by rw [e2]; exact w2, by rw [e3]; exact w3, h4, h5, fun j hj => ?_, fun c hc => ?_, fun i hi => ?_⟩
  · rw [e1] at hj
    obtain ⟨a1, a2, a3, a4⟩ := h6 j hj
    exact ⟨by rw [a1]; exact (w6 j hj).1, a2, a3, a4⟩
  · rw [e2] at hc
    obtain ⟨a1, a2, a3, a4, a5, a6, a7, a8⟩ := h7 c hc
    obtain ⟨b1, b2, b3, b4, b5, b6, b7, b8, b9⟩ := w7 c hc
    exact ⟨by rw [a1]; exact b1, by rw [a2]; exact b2, by rw [a2, a3]; exact b3, by rw [a3]; exact b4, by rw [a4]; exact b5, a5, a6, a7, fun x hx => by rw [e1]; exact a8 x hx⟩
  · rw [e3] at hi
    rw [h8, h8, h8, e1, e2]
    exact w8 i hi
/-- what a service leaves as it was -/
theorem serv_j {a : aA} {j s t : Nat} (j' : Nat) : jF (servN a j s t) j' 0 = jF a j' 0 := by
  unfold servN
  split
  · exact up2_ns (by decide)
  · split
    · exact up2_ns (by decide)
    · split
      · exact up2_ns (by decide)
      · exact up2_ns (by decide)
theorem serv_o {a : aA} {j s t j' f : Nat} (h : j' ≠ j) : jF (servN a j s t) j' f = jF a j' f := by
  unfold servN
  split
  · exact up2_ne (fun q => h q.1)
  · split
    · exact up2_ne (fun q => h q.1)
    · split
      · exact up2_ne (fun q => h q.1)
      · exact up2_ne (fun q => h q.1)
theorem serv_k (a : aA) (j s t : Nat) : nJ (servN a j s t) = nJ a ∧ nC (servN a j s t) = nC a ∧ nG (servN a j s t) = nG a ∧ dY (servN a j s t) = dY a ∧ cR (servN a j s t) = cR a ∧ SF (servN a j s t) = SF a ∧ BY (servN a j s t) = BY a ∧ GF (servN a j s t) = GF a := by
  unfold servN
  split
  · exact ⟨rfl, rfl, rfl, rfl, rfl, rfl, rfl, rfl⟩
  · split
    · exact ⟨rfl, rfl, rfl, rfl, rfl, rfl, rfl, rfl⟩
    · split
      · exact ⟨rfl, rfl, rfl, rfl, rfl, rfl, rfl, rfl⟩
      · exact ⟨rfl, rfl, rfl, rfl, rfl, rfl, rfl, rfl⟩
theorem serv_b {a : aA} {j s t : Nat} (ht : t ≤ 60) (hd : dY a ≤ 2000) {j' : Nat} (h : jF a j' 1 ≤ 20 ∧ jF a j' 2 ≤ 99 ∧ jF a j' 3 ≤ 5000) : jF (servN a j s t) j' 1 ≤ 20 ∧ jF (servN a j s t) j' 2 ≤ 99 ∧ jF (servN a j s t) j' 3 ≤ 5000 := by
  by_cases e : j' = j
  · subst e
    unfold servN
    split
    · refine ⟨?_, ?_, ?_⟩
      · show up2 (JF a) j' 3 _ j' 1 ≤ _; rw [up2_ns (by decide)]; exact h.1
      · show up2 (JF a) j' 3 _ j' 2 ≤ _; rw [up2_ns (by decide)]; exact h.2.1
      · show up2 (JF a) j' 3 _ j' 3 ≤ _; rw [up2_eq]; omega
    · split
      · refine ⟨?_, ?_, ?_⟩
        · show up2 (JF a) j' 2 _ j' 1 ≤ _; rw [up2_ns (by decide)]; exact h.1
        · show up2 (JF a) j' 2 _ j' 2 ≤ _; rw [up2_eq]; omega
        · show up2 (JF a) j' 2 _ j' 3 ≤ _; rw [up2_ns (by decide)]; exact h.2.2
      · split
        · refine ⟨?_, ?_, ?_⟩
          · show up2 (JF a) j' 1 _ j' 1 ≤ _; rw [up2_eq]; omega
          · show up2 (JF a) j' 1 _ j' 2 ≤ _; rw [up2_ns (by decide)]; exact h.2.1
          · show up2 (JF a) j' 1 _ j' 3 ≤ _; rw [up2_ns (by decide)]; exact h.2.2
        · refine ⟨?_, ?_, ?_⟩
          · show up2 (JF a) j' 3 _ j' 1 ≤ _; rw [up2_ns (by decide)]; exact h.1
          · show up2 (JF a) j' 3 _ j' 2 ≤ _; rw [up2_ns (by decide)]; exact h.2.1
          · show up2 (JF a) j' 3 _ j' 3 ≤ _; rw [up2_eq]; omega
  · rw [serv_o e, serv_o e, serv_o e]; exact h
/-- a sentence's numbers -/
theorem sentN_k (a : aA) (c j n : Nat) : nJ (sentN a c j n) = nJ a ∧ nC (sentN a c j n) = nC a ∧ nG (sentN a c j n) = nG a ∧ dY (sentN a c j n) = dY a ∧ cR (sentN a c j n) = cR a - n / 5 ∧ GF (sentN a c j n) = GF a := by
  obtain ⟨k1, k2, k3, k4, k5, k6, k7, k8⟩ := serv_k a j (sF a c 0) (tenN (jF a j 0) n)
  exact ⟨k1, k2, k3, k4, rfl, k8⟩
theorem sentN_s {a : aA} {c j n c' f : Nat} : sF (sentN a c j n) c' f = up2 (up2 (SF a) c 4 n) c 6 (tenN (jF a j 0) n) c' f := by
  obtain ⟨k1, k2, k3, k4, k5, k6, k7, k8⟩ := serv_k a j (sF a c 0) (tenN (jF a j 0) n)
  show up2 (up2 (SF (servN a j _ _)) c 4 n) c 6 _ c' f = _
  rw [k6]
theorem sentN_b {a : aA} {c j n c' : Nat} : bY (sentN a c j n) c' = up1 (BY a) c (some j) c' := by
  obtain ⟨k1, k2, k3, k4, k5, k6, k7, k8⟩ := serv_k a j (sF a c 0) (tenN (jF a j 0) n)
  show up1 (BY (servN a j _ _)) c (some j) c' = _
  rw [k7]
theorem sentN_j {a : aA} {c j n j' f : Nat} : jF (sentN a c j n) j' f = jF (servN a j (sF a c 0) (tenN (jF a j 0) n)) j' f := rfl
theorem WF.sent {a : aA} (hw : WF a) {c j n : Nat} (hc : c < nC a) (hj : j < nJ a) (h1 : 1 ≤ n) (hn : n ≤ 60) : WF (sentN a c j n) := by
  obtain ⟨k1, k2, k3, k4, k5, k6⟩ := sentN_k a c j n
  have ht := tenN_le (hw.2.2.2.2.2.1 j hj).1 hn
  refine hw.of k1 k2 k3 (by rw [k4]; exact hw.2.2.2.1) (by rw [k5]; have := hw.2.2.2.2.1; omega) (fun j' hj' => ?_) (fun c' hc' => ?_) (fun i f => congrFun (congrFun k6 i) f)
  · obtain ⟨g0, g1, g2, g3⟩ := hw.2.2.2.2.2.1 j' hj'
    exact ⟨serv_j j', serv_b (by omega) hw.2.2.2.1 ⟨g1, g2, g3⟩⟩
  · obtain ⟨b1, b2, b3, b4, b5, b6, b7, b8, b9⟩ := hw.2.2.2.2.2.2.1 c' hc'
    have e4 : sF (sentN a c j n) c' 4 = if c' = c then n else sF a c' 4 := by
      rw [sentN_s, up2_ns (by decide)]; unfold up2; by_cases e : c' = c <;> simp [e, SF]
    have e6 : sF (sentN a c j n) c' 6 = if c' = c then tenN (jF a j 0) n else sF a c' 6 := by
      rw [sentN_s]; unfold up2; by_cases e : c' = c <;> simp [e, SF]
    have eb : bY (sentN a c j n) c' = if c' = c then some j else bY a c' := by rw [sentN_b]; rfl
    have en : ∀ f, f ≠ 4 → f ≠ 6 → sF (sentN a c j n) c' f = sF a c' f := fun f h4 h6 => by rw [sentN_s, up2_ns h6, up2_ns h4]; rfl
    refine ⟨en 0 (by decide) (by decide), en 1 (by decide) (by decide), en 2 (by decide) (by decide), en 3 (by decide) (by decide), ?_, ?_, ?_, ?_⟩
    · rw [e4]; split <;> omega
    · rw [e6]; split <;> omega
    · rw [e4, eb]
      by_cases e : c' = c
      · rw [if_pos e, if_pos e]; exact ⟨fun q => by omega, fun q => by cases q⟩
      · rw [if_neg e, if_neg e]; exact b8
    · intro x hx
      rw [eb] at hx
      by_cases e : c' = c
      · rw [if_pos e] at hx; cases hx; exact hj
      · rw [if_neg e] at hx; exact b9 x hx
theorem WF.dayA {a : aA} (hw : WF a) (hd : dY a + 1 ≤ 2000) : WF (dayN a) := by
  refine hw.of rfl rfl rfl hd (Nat.min_le_left _ _) (fun j hj => ?_) (fun c hc => ?_) (fun i f => rfl)
  · obtain ⟨g0, g1, g2, g3⟩ := hw.2.2.2.2.2.1 j hj
    exact ⟨rfl, g1, g2, g3⟩
  · obtain ⟨b1, b2, b3, b4, b5, b6, b7, b8, b9⟩ := hw.2.2.2.2.2.2.1 c hc
    exact ⟨rfl, rfl, rfl, rfl, b6, b7, b8, b9⟩
/-- the first case that a judge can hear now to its least, from c on -/
def ffF (a : aA) (j : Nat) : Nat → Nat → Option Nat
  | _, 0 => none
  | c, m + 1 => if canN a c j (sF a c 1) then some c else ffF a j (c + 1) m
def ffN (a : aA) (j : Nat) : Option Nat := ffF a j 0 (nC a)
theorem ffF_some {a : aA} {j : Nat} : ∀ {m c x : Nat}, ffF a j c m = some x → c ≤ x ∧ x < c + m ∧ canN a x j (sF a x 1)
  | 0, c, x, h => by cases h
  | m + 1, c, x, h => by
    rw [ffF] at h
    by_cases hc : canN a c j (sF a c 1)
    · rw [if_pos hc] at h; cases h; exact ⟨Nat.le_refl _, by omega, hc⟩
    · rw [if_neg hc] at h
      obtain ⟨h1, h2, h3⟩ := ffF_some h
      exact ⟨by omega, by omega, h3⟩
def hearO (a : aA) (j : Nat) : Option Nat → aA
  | some c => sentN a c j (sF a c 1)
  | none => a
def hearN (a : aA) (j : Nat) : aA := hearO a j (ffN a j)
theorem hearN_k (a : aA) (j : Nat) : nJ (hearN a j) = nJ a ∧ nC (hearN a j) = nC a ∧ nG (hearN a j) = nG a ∧ dY (hearN a j) = dY a := by
  unfold hearN hearO
  split
  · obtain ⟨k1, k2, k3, k4, k5, k6⟩ := sentN_k a _ j (sF a ‹_› 1)
    exact ⟨k1, k2, k3, k4⟩
  · exact ⟨rfl, rfl, rfl, rfl⟩
theorem WF.hear {a : aA} (hw : WF a) {j : Nat} (hj : j < nJ a) : WF (hearN a j) := by
  unfold hearN hearO
  split
  next c hc =>
    obtain ⟨h1, h2, h3⟩ := ffF_some hc
    obtain ⟨b1, b2, b3, b4, b5, b6, b7, b8, b9⟩ := hw.2.2.2.2.2.2.1 c (by omega)
    exact hw.sent (by omega) hj b2 (by omega)
  · exact hw
def dayS (ss : List Nat) (a : aA) : aA := dayN (ss.foldl hearN a)
def itN (ss : List Nat) (a : aA) : Nat → aA
  | 0 => a
  | d + 1 => dayS ss (itN ss a d)
theorem fold_k : ∀ (ss : List Nat) (a : aA), nJ (ss.foldl hearN a) = nJ a ∧ nC (ss.foldl hearN a) = nC a ∧ nG (ss.foldl hearN a) = nG a ∧ dY (ss.foldl hearN a) = dY a
  | [], a => ⟨rfl, rfl, rfl, rfl⟩
  | j :: ss, a => by
    obtain ⟨h1, h2, h3, h4⟩ := fold_k ss (hearN a j)
    obtain ⟨g1, g2, g3, g4⟩ := hearN_k a j
    exact ⟨h1.trans g1, h2.trans g2, h3.trans g3, h4.trans g4⟩
theorem WF.fold : ∀ (ss : List Nat) {a : aA}, WF a → (∀ j ∈ ss, j < nJ a) → WF (ss.foldl hearN a)
  | [], a, hw, _ => hw
  | j :: ss, a, hw, h => WF.fold ss (hw.hear (h j List.mem_cons_self)) (fun j' hj' => by rw [(hearN_k a j).1]; exact h j' (List.mem_cons_of_mem _ hj'))
theorem itN_k (ss : List Nat) (a : aA) : ∀ d, nJ (itN ss a d) = nJ a ∧ nC (itN ss a d) = nC a ∧ nG (itN ss a d) = nG a ∧ dY (itN ss a d) = dY a + d
  | 0 => ⟨rfl, rfl, rfl, rfl⟩
  | d + 1 => by
    obtain ⟨h1, h2, h3, h4⟩ := itN_k ss a d
    obtain ⟨g1, g2, g3, g4⟩ := fold_k ss (itN ss a d)
    exact ⟨g1.trans h1, g2.trans h2, g3.trans h3, (congrArg (· + 1) (g4.trans h4)).trans (Nat.add_assoc _ _ _)⟩
theorem WF.it {ss : List Nat} {a : aA} (hw : WF a) (hs : ∀ j ∈ ss, j < nJ a) : ∀ d, dY a + d ≤ 2000 → WF (itN ss a d)
  | 0, _ => hw
  | d + 1, h => by
    obtain ⟨h1, h2, h3, h4⟩ := itN_k ss a d
    have := WF.fold ss (WF.it hw hs d (by omega)) (fun j hj => by rw [h1]; exact hs j hj)
    exact this.dayA (by rw [(fold_k ss _).2.2.2, h4]; omega)
theorem clear_dec (a : aA) : clearN a ↔ (decide (awayN a = 0) && decide (cntN (fun c => decide (0 < sF a c 4)) (nC a) = nC a)) = true := by simp [clearN]
def clearB (a : aA) : Bool := decide (awayN a = 0) && decide (cntN (fun c => decide (0 < sF a c 4)) (nC a) = nC a)
theorem clearB_iff {a : aA} : clearB a = true ↔ clearN a := (clear_dec a).symm
/-- behind how many days first all is clear -/
def cbF (ss : List Nat) (a : aA) : Nat → Option Nat
  | 0 => if clearB a = true then some 0 else none
  | d + 1 => match cbF ss a d with
    | some x => some x
    | none => if clearB (itN ss a (d + 1)) = true then some (d + 1) else none
theorem cbF_le {ss : List Nat} {a : aA} : ∀ {d x : Nat}, cbF ss a d = some x → x ≤ d
  | 0, x, h => by
    rw [cbF] at h
    split at h <;> cases h
    exact Nat.le_refl _
  | d + 1, x, h => by
    rw [cbF] at h
    split at h
    next y hy => cases h; exact Nat.le_succ_of_le (cbF_le hy)
    · split at h <;> cases h
      exact Nat.le_refl _
/-- cases heard in one and not in another -/
def newN (v w : Nat) : Nat := bitN (fun c => v.testBit c && !w.testBit c) 5
theorem newN_0 : ∀ v, v < 32 → ∀ w, w < 32 → nI v &&& (nI w ^^^ (-1)) = nI (newN v w) := by decide +kernel
theorem heardN_lt {a : aA} (hw : WF a) : heardN a < 32 := Nat.lt_of_lt_of_le (bitN_lt _ _) (Nat.pow_le_pow_right (n := 2) (by decide) hw.2.1)
