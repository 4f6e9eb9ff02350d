/-! THE PURE WALKS. A value: int, long, reference (by an id), string constant (by its place). An id (tag, k, j) names an object; the memory: how many ids are made, references, ints, longs. -/
abbrev xId : Type := Nat × (Nat × Nat)
abbrev xV : Type := Int32 ⊕ (Int64 ⊕ (Option xId ⊕ Nat))
abbrev vI (x : Int32) : xV := .inl x
abbrev vL (x : Int64) : xV := .inr (.inl x)
abbrev vO (o : Option xId) : xV := .inr (.inr (.inl o))
abbrev vR (t k j : Nat) : xV := .inr (.inr (.inl (some (t, k, j))))
abbrev vN : xV := .inr (.inr (.inl none))
abbrev vS (k : Nat) : xV := .inr (.inr (.inr k))
abbrev xF4 (α : Type) : Type := Nat → Nat → Nat → Nat → α
abbrev xM : Type := Nat × (xF4 (Option xId) × (xF4 Int32 × xF4 Int64))
abbrev xMR : Type := Option (Nat × (Nat → Int32)) × (MethodName × (ByteArray × (Nat × Option FieldType)))
def xup {α : Type} (f : xF4 α) (t k j s : Nat) (v : α) : xF4 α := fun t' k' j' s' => if t' = t ∧ k' = k ∧ j' = j ∧ s' = s then v else f t' k' j' s'
/-- a new object: all at its default -/
def xz {α : Type} (f : xF4 α) (t k j : Nat) (v : α) : xF4 α := fun t' k' j' s' => if t' = t ∧ k' = k ∧ j' = j then v else f t' k' j' s'
def xCls : Nat → Option Nat
  | 0 => some 10 | 1 => some 1 | 3 => some 4 | 5 => some 8 | 7 => some 7 | 9 => some 3 | 10 => some 9 | 12 => some 2 | 14 => some 5 | 17 => some 0 | 20 => some 6 | 30 => some 11
  | _ => none
/-- arrays: the place of the type in xTys, the length -/
def xArr : Nat → Option (Nat × Nat)
  | 2 => some (3, 4) | 4 => some (4, 5) | 6 => some (5, 6) | 8 => some (6, 2) | 11 => some (1, 160) | 13 => some (0, 4) | 15 => some (0, 4) | 16 => some (0, 4) | 18 => some (0, 4) | 19 => some (7, 4) | 21 => some (0, 40)
  | 31 => some (0, 228) | 32 => some (0, 76) | 33 => some (2, 2) | 34 => some (0, 76) | 35 => some (0, 160) | 36 => some (0, 4) | 37 => some (0, 4) | 38 => some (0, 4) | 39 => some (0, 160) | 40 => some (0, 76)
  | _ => none
def xN (ci : Nat) : Nat := [1, 8, 6, 2, 5, 4, 4, 3, 7, 9, 9, 28].getD ci 0
/-- a slot's kind: 0 int or boolean, 1 long, 2 reference -/
def xSlots : List (List Nat) := [[2], [2, 2, 2, 0, 0, 0, 0, 0], [2, 0, 0, 0, 0, 0], [2, 0], [0, 0, 0, 0, 0], [2, 2, 0, 0], [2, 0, 0, 0], [0, 0, 0], [0, 0, 0, 0, 0, 0, 0], [2, 0, 0, 0, 0, 0, 0, 0, 0], [2, 2, 2, 2, 2, 2, 2, 2, 0], [2, 2, 2, 0, 0, 2, 0, 0, 0, 2, 0, 0, 0, 0, 0, 0, 0, 2, 0, 0, 1, 1, 1, 2, 2, 2, 0, 2]]
def xSl (ci s : Nat) : Nat := (xSlots.getD ci []).getD s 9
def xCourtIds (k : Nat) : List xId := [(1, k, 0), (2, k, 0), (3, k, 0), (3, k, 1), (3, k, 2), (3, k, 3), (4, k, 0), (5, k, 0), (5, k, 1), (5, k, 2), (5, k, 3), (5, k, 4), (6, k, 0), (7, k, 0), (7, k, 1), (7, k, 2), (7, k, 3), (7, k, 4), (7, k, 5)]
/-- the ids, in the order in which they are made -/
def xSeq : List xId := [(0, 0, 0)] ++ xCourtIds 0 ++ xCourtIds 1 ++ [(8, 0, 0), (9, 0, 0)] ++ xCourtIds 2 ++ [(9, 1, 0)] ++ xCourtIds 3 ++ [(10, 0, 0), (11, 0, 0), (12, 0, 0), (13, 0, 0), (14, 0, 0), (15, 0, 0), (16, 0, 0), (17, 0, 0), (18, 0, 0), (19, 0, 0), (20, 0, 0), (21, 0, 0), (20, 1, 0), (21, 1, 0), (20, 2, 0), (21, 2, 0), (20, 3, 0), (21, 3, 0), (30, 0, 0), (31, 0, 0), (32, 0, 0), (33, 0, 0), (34, 0, 0), (35, 0, 0), (36, 0, 0), (37, 0, 0), (38, 0, 0), (39, 0, 0), (40, 0, 0)]
def xSize (i : xId) : Nat := match xCls i.1 with
  | some ci => xN ci
  | none => match xArr i.1 with
    | some q => q.2
    | none => 0
def xCum (n : Nat) : Nat := ((xSeq.take n).map xSize).sum
theorem xSeq_len : xSeq.length = 109 := by decide +kernel
theorem xSeq_nd : xSeq.Nodup := by decide +kernel
theorem xSeq_cls : ∀ i ∈ xSeq, (xCls i.1).isSome = true ∨ (xArr i.1).isSome = true := by decide +kernel
def xLive (n : Nat) (i : xId) : Prop := i.1 = 99 ∨ ∃ q : Nat, q < n ∧ xSeq[q]? = some i
theorem xLive.mono {n n' : Nat} {i : xId} (h : xLive n i) (hn : n ≤ n') : xLive n' i := h.imp id fun ⟨q, h1, h2⟩ => ⟨q, Nat.lt_of_lt_of_le h1 hn, h2⟩
def xrv (loc : xId → Nat) (sa : Nat → Nat) : xV → Value
  | .inl x => .int x
  | .inr (.inl x) => .long x
  | .inr (.inr (.inl none)) => .null
  | .inr (.inr (.inl (some i))) => .ref (loc i)
  | .inr (.inr (.inr k)) => .ref (sa k)
def xok (n : Nat) : xV → Prop
  | .inr (.inr (.inl (some i))) => xLive n i
  | .inr (.inr (.inr k)) => k < 19
  | _ => True
def xokS (n : Nat) : List xV → Prop
  | [] => True
  | v :: r => xok n v ∧ xokS n r
def xokO (n : Nat) : Option xV → Prop
  | none => True
  | some v => xok n v
def xokL (n : Nat) (ls : List (Option xV)) : Prop := ∀ (i : Nat) (v : xV), ls[i]? = some (some v) → xok n v
theorem xok.mono {n n' : Nat} {v : xV} (h : xok n v) (hn : n ≤ n') : xok n' v := by
  rcases v with x | x | (_ | i) | k
  · trivial
  · trivial
  · trivial
  · exact xLive.mono h hn
  · exact h
theorem xokS.mono {n n' : Nat} : ∀ {st : List xV}, xokS n st → n ≤ n' → xokS n' st
  | [], _, _ => trivial
  | _ :: _, h, hn => ⟨h.1.mono hn, xokS.mono h.2 hn⟩
theorem xokS.app {n : Nat} : ∀ {a b : List xV}, xokS n a → xokS n b → xokS n (a ++ b)
  | [], _, _, hb => hb
  | _ :: _, _, ha, hb => ⟨ha.1, xokS.app ha.2 hb⟩
theorem xokS.left {n : Nat} : ∀ {a b : List xV}, xokS n (a ++ b) → xokS n a
  | [], _, _ => trivial
  | _ :: _, _, h => ⟨h.1, xokS.left h.2⟩
theorem xokS.right {n : Nat} : ∀ {a b : List xV}, xokS n (a ++ b) → xokS n b
  | [], _, h => h
  | _ :: _, _, h => xokS.right h.2
theorem xokS.all {n : Nat} : ∀ {a : List xV}, (∀ v ∈ a, xok n v) → xokS n a
  | [], _ => trivial
  | _ :: _, h => ⟨h _ List.mem_cons_self, xokS.all fun v hv => h v (List.mem_cons_of_mem _ hv)⟩
theorem xokS.mem {n : Nat} : ∀ {a : List xV}, xokS n a → ∀ v ∈ a, xok n v
  | [], _, _, hv => absurd hv List.not_mem_nil
  | _ :: _, h, v, hv => (List.mem_cons.mp hv).elim (fun e => e ▸ h.1) (fun hv => xokS.mem h.2 v hv)
theorem xokL.mono {n n' : Nat} {ls : List (Option xV)} (h : xokL n ls) (hn : n ≤ n') : xokL n' ls := fun i v hi => (h i v hi).mono hn
theorem xrv_eq {n : Nat} {loc loc' : xId → Nat} {sa : Nat → Nat} (hl : ∀ i, xLive n i → loc' i = loc i) {v : xV} (h : xok n v) : xrv loc' sa v = xrv loc sa v := by
  rcases v with x | x | (_ | i) | k
  · rfl
  · rfl
  · rfl
  · exact congrArg Value.ref (hl i h)
  · rfl
theorem xrv_eqS {n : Nat} {loc loc' : xId → Nat} {sa : Nat → Nat} (hl : ∀ i, xLive n i → loc' i = loc i) : ∀ {st : List xV}, xokS n st → st.map (xrv loc' sa) = st.map (xrv loc sa)
  | [], _ => rfl
  | v :: st, h => by rw [List.map_cons, List.map_cons, xrv_eq hl h.1, xrv_eqS hl h.2]
/-! locals -/
def xLsF (loc : xId → Nat) (sa : Nat → Nat) : Nat → List (Option xV) → List (Nat × Value)
  | _, [] => []
  | o, none :: r => xLsF loc sa (o + 1) r
  | o, some v :: r => (o, xrv loc sa v) :: xLsF loc sa (o + 1) r
theorem xLsF_get {loc : xId → Nat} {sa : Nat → Nat} : ∀ {ls : List (Option xV)} {o i : Nat} {v : xV}, ls[i]? = some (some v) → (o + i, xrv loc sa v) ∈ xLsF loc sa o ls
  | [], o, i, v, h => by simp at h
  | none :: r, o, 0, v, h => by simp at h
  | none :: r, o, i + 1, v, h => by
    have := xLsF_get (loc := loc) (sa := sa) (ls := r) (o := o + 1) (i := i) (v := v) (by simpa using h)
    rw [show o + (i + 1) = o + 1 + i by omega]
    exact this
  | some w :: r, o, 0, v, h => by
    have e : w = v := by simpa using h
    subst e
    exact List.mem_cons_self
  | some w :: r, o, i + 1, v, h => by
    have := xLsF_get (loc := loc) (sa := sa) (ls := r) (o := o + 1) (i := i) (v := v) (by simpa using h)
    rw [show o + (i + 1) = o + 1 + i by omega]
    exact List.mem_cons_of_mem _ this
theorem xLsF_mem {loc : xId → Nat} {sa : Nat → Nat} : ∀ {ls : List (Option xV)} {o j : Nat} {w : Value}, (j, w) ∈ xLsF loc sa o ls → ∃ (i : Nat) (v : xV), j = o + i ∧ ls[i]? = some (some v) ∧ w = xrv loc sa v
  | [], o, j, w, h => absurd h List.not_mem_nil
  | none :: r, o, j, w, h => by
    obtain ⟨i, v, h1, h2, h3⟩ := xLsF_mem (ls := r) (o := o + 1) h
    exact ⟨i + 1, v, by omega, by simpa using h2, h3⟩
  | some a :: r, o, j, w, h => by
    rcases List.mem_cons.mp h with h | h
    · cases h
      exact ⟨0, a, rfl, rfl, rfl⟩
    · obtain ⟨i, v, h1, h2, h3⟩ := xLsF_mem (ls := r) (o := o + 1) h
      exact ⟨i + 1, v, by omega, by simpa using h2, h3⟩
theorem xLsF_eq {n : Nat} {loc loc' : xId → Nat} {sa : Nat → Nat} (hl : ∀ i, xLive n i → loc' i = loc i) : ∀ {ls : List (Option xV)} {o : Nat}, xokL n ls → xLsF loc' sa o ls = xLsF loc sa o ls
  | [], _, _ => rfl
  | none :: r, o, h => xLsF_eq hl (ls := r) (o := o + 1) fun i v hi => h (i + 1) v (by simpa using hi)
  | some a :: r, o, h => by
    show (o, xrv loc' sa a) :: xLsF loc' sa (o + 1) r = (o, xrv loc sa a) :: xLsF loc sa (o + 1) r
    rw [xLsF_eq hl (ls := r) (o := o + 1) fun i v hi => h (i + 1) v (by simpa using hi), xrv_eq hl (h 0 a rfl)]
def xLong : Option xV → Bool
  | some (.inr (.inl _)) => true
  | _ => false
def xA0 (a : Option xV) : Nat → Option xV
  | 0 => cond (xLong a) none a
  | _ + 1 => a
def xSt1 : List (Option xV) → Nat → xV → Option (List (Option xV))
  | [], _, _ => none
  | _ :: r, 0, v => some (some v :: r)
  | a :: r, i + 1, v => match xSt1 r i v with
    | some r' => some (xA0 a i :: r')
    | none => none
def xClr : List (Option xV) → Nat → Option (List (Option xV))
  | [], _ => none
  | _ :: r, 0 => some (none :: r)
  | a :: r, i + 1 => match xClr r i with
    | some r' => some (a :: r')
    | none => none
def xSt2 (ls : List (Option xV)) (i : Nat) (v : xV) : Option (List (Option xV)) := match xSt1 ls i v with
  | some l => xClr l (i + 1)
  | none => none
theorem xSt1_spec : ∀ {ls : List (Option xV)} {i : Nat} {v : xV} {l' : List (Option xV)}, xSt1 ls i v = some l' → l'.length = ls.length ∧ i < ls.length ∧ ∀ (k : Nat) (w : xV), l'[k]? = some (some w) → (k = i ∧ w = v) ∨ (k ≠ i ∧ ls[k]? = some (some w) ∧ ¬ (k + 1 = i ∧ xLong (some w) = true))
  | [], i, v, l', h => by cases h
  | a :: r, 0, v, l', h => by
    cases h
    refine ⟨rfl, Nat.succ_pos _, fun k w hk => ?_⟩
    cases k with
    | zero => exact Or.inl ⟨rfl, by simpa using hk.symm⟩
    | succ k => exact Or.inr ⟨by omega, by simpa using hk, by omega⟩
  | a :: r, i + 1, v, l', h => by
    cases h0 : xSt1 r i v with
    | none => simp [xSt1, h0] at h
    | some r' =>
      obtain ⟨h1, h2, h3⟩ := xSt1_spec h0
      simp only [xSt1, h0] at h
      cases h
      refine ⟨by simpa using h1, by simpa using h2, fun k w hk => ?_⟩
      cases k with
      | zero =>
        have hk : xA0 a i = some w := by simpa using hk
        cases i with
        | zero =>
          cases hx : xLong a with
          | true => simp [xA0, hx] at hk
          | false =>
            have e : a = some w := by simpa [xA0, hx] using hk
            refine Or.inr ⟨by omega, by simp [e], fun q => ?_⟩
            rw [← e, hx] at q
            exact absurd q.2 (by decide)
        | succ i =>
          have e : a = some w := hk
          exact Or.inr ⟨by omega, by simp [e], by omega⟩
      | succ k =>
        rcases h3 k w (by simpa using hk) with ⟨q1, q2⟩ | ⟨q1, q2, q3⟩
        · exact Or.inl ⟨by omega, q2⟩
        · exact Or.inr ⟨by omega, by simpa using q2, fun q => q3 ⟨by omega, q.2⟩⟩
theorem xClr_spec : ∀ {ls : List (Option xV)} {i : Nat} {l' : List (Option xV)}, xClr ls i = some l' → l'.length = ls.length ∧ i < ls.length ∧ ∀ (k : Nat) (w : xV), l'[k]? = some (some w) → k ≠ i ∧ ls[k]? = some (some w)
  | [], i, l', h => by cases h
  | a :: r, 0, l', h => by
    cases h
    refine ⟨rfl, Nat.succ_pos _, fun k w hk => ?_⟩
    cases k with
    | zero => simp at hk
    | succ k => exact ⟨by omega, by simpa using hk⟩
  | a :: r, i + 1, l', h => by
    cases h0 : xClr r i with
    | none => simp [xClr, h0] at h
    | some r' =>
      obtain ⟨h1, h2, h3⟩ := xClr_spec h0
      simp only [xClr, h0] at h
      cases h
      refine ⟨by simpa using h1, by simpa using h2, fun k w hk => ?_⟩
      cases k with
      | zero => exact ⟨by omega, by simpa using hk⟩
      | succ k =>
        obtain ⟨q1, q2⟩ := h3 k w (by simpa using hk)
        exact ⟨by omega, by simpa using q2⟩
theorem xLong_cat {loc : xId → Nat} {sa : Nat → Nat} {w : xV} (h : (xrv loc sa w).category = 2) : xLong (some w) = true := by
  rcases w with x | x | (_ | i) | k
  · exact absurd h (by decide : ¬ (1 : Nat) = 2)
  · rfl
  · exact absurd h (by decide : ¬ (1 : Nat) = 2)
  · exact absurd h (by decide : ¬ (1 : Nat) = 2)
  · exact absurd h (by decide : ¬ (1 : Nat) = 2)
theorem xLs_st1 {loc : xId → Nat} {sa : Nat → Nat} {ls l' : List (Option xV)} {i : Nat} {v : xV} {nL : Nat} {lsB : Array Slot} (h : xSt1 ls i v = some l') (hB : lv_has lsB nL ((i, xrv loc sa v) :: (xLsF loc sa 0 ls).filter (fun q => !(q.1 == i) && !(q.1 + 1 == i && q.2.category == 2)))) : lv_has lsB nL (xLsF loc sa 0 l') := by
  refine ⟨hB.1, hB.2.1, fun q hq => hB.2.2 q ?_⟩
  obtain ⟨k, w, e1, e2, e3⟩ := xLsF_mem (j := q.1) (w := q.2) hq
  obtain ⟨q1, q2⟩ := q
  dsimp only at e1 e3
  rw [Nat.zero_add] at e1
  subst e1
  subst e3
  rcases (xSt1_spec h).2.2 _ w e2 with ⟨a, b⟩ | ⟨a, b, c⟩
  · subst a; subst b; exact List.mem_cons_self
  · refine List.mem_cons_of_mem _ (List.mem_filter.mpr ⟨?_, ?_⟩)
    · have := xLsF_get (loc := loc) (sa := sa) (o := 0) b
      rwa [Nat.zero_add] at this
    · have c2 : ¬ (q1 + 1 = i ∧ (xrv loc sa w).category = 2) := fun z => c ⟨z.1, xLong_cat z.2⟩
      simp only [Bool.and_eq_true, Bool.not_eq_true', beq_eq_false_iff_ne, ne_eq, Bool.and_eq_false_iff]
      refine ⟨a, ?_⟩
      by_cases z : q1 + 1 = i
      · exact Or.inr fun y => c2 ⟨z, y⟩
      · exact Or.inl z
theorem xLs_st2 {loc : xId → Nat} {sa : Nat → Nat} {ls l' : List (Option xV)} {i : Nat} {v : xV} {nL : Nat} {lsB : Array Slot} (h : xSt2 ls i v = some l') (hB : lv_has lsB nL ((i, xrv loc sa v) :: (xLsF loc sa 0 ls).filter (fun q => !(q.1 == i) && (!(q.1 == i + 1) && !(q.1 + 1 == i && q.2.category == 2))))) : lv_has lsB nL (xLsF loc sa 0 l') := by
  refine ⟨hB.1, hB.2.1, fun q hq => hB.2.2 q ?_⟩
  obtain ⟨k, w, e1, e2, e3⟩ := xLsF_mem (j := q.1) (w := q.2) hq
  obtain ⟨q1, q2⟩ := q
  dsimp only at e1 e3
  rw [Nat.zero_add] at e1
  subst e1
  subst e3
  cases h0 : xSt1 ls i v with
  | none => simp [xSt2, h0] at h
  | some l1 =>
    simp only [xSt2, h0] at h
    obtain ⟨n1, n2⟩ := (xClr_spec h).2.2 _ w e2
    rcases (xSt1_spec h0).2.2 _ w n2 with ⟨a, b⟩ | ⟨a, b, c⟩
    · subst a; subst b; exact List.mem_cons_self
    · refine List.mem_cons_of_mem _ (List.mem_filter.mpr ⟨?_, ?_⟩)
      · have := xLsF_get (loc := loc) (sa := sa) (o := 0) b
        rwa [Nat.zero_add] at this
      · have c2 : ¬ (q1 + 1 = i ∧ (xrv loc sa w).category = 2) := fun z => c ⟨z.1, xLong_cat z.2⟩
        simp only [Bool.and_eq_true, Bool.not_eq_true', beq_eq_false_iff_ne, ne_eq, Bool.and_eq_false_iff]
        refine ⟨a, n1, ?_⟩
        by_cases z : q1 + 1 = i
        · exact Or.inr fun y => c2 ⟨z, y⟩
        · exact Or.inl z
theorem xSt1_ok {n : Nat} {ls l' : List (Option xV)} {i : Nat} {v : xV} (h : xSt1 ls i v = some l') (hl : xokL n ls) (hv : xok n v) : xokL n l' := fun k w hk => by
  rcases (xSt1_spec h).2.2 k w hk with ⟨a, b⟩ | ⟨a, b, c⟩
  · subst b; exact hv
  · exact hl k w b
theorem xSt2_len {ls l' : List (Option xV)} {i : Nat} {v : xV} (h : xSt2 ls i v = some l') : l'.length = ls.length ∧ i + 1 < ls.length := by
  cases h0 : xSt1 ls i v with
  | none => simp [xSt2, h0] at h
  | some l1 =>
    simp only [xSt2, h0] at h
    have h1 := xClr_spec h
    have h2 := xSt1_spec h0
    exact ⟨h1.1.trans h2.1, by rw [← h2.1]; exact h1.2.1⟩
theorem xSt2_ok {n : Nat} {ls l' : List (Option xV)} {i : Nat} {v : xV} (h : xSt2 ls i v = some l') (hl : xokL n ls) (hv : xok n v) : xokL n l' := fun k w hk => by
  cases h0 : xSt1 ls i v with
  | none => simp [xSt2, h0] at h
  | some l1 =>
    simp only [xSt2, h0] at h
    exact xSt1_ok h0 hl hv k w ((xClr_spec h).2.2 k w hk).2
