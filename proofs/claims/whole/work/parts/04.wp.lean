/-! THE WORLD OF THE WALKS, and what a walk's goal says -/
def xTbl : List Cond := lw_tbl.filter goodWord
theorem xTbl_in {w : Cond} (h : w ∈ lw_tbl) (hg : goodWord w = true) : w ∈ xTbl := List.mem_filter.mpr ⟨h, hg⟩
theorem xTbl_good {L : List Cond} (h : ∀ w ∈ L, w ∈ xTbl) : GoodIn xTbl L := fun w hw => ⟨h w hw, good_of_word (List.mem_filter.mp (h w hw)).2⟩
def xNest : List Cond := [.methodLinkNest RX1 17 yX4_init RX10, .methodLinkNest RX1 24 yX8_init RX10, .methodLinkNest RX1 31 yX7_init RX10, .methodLinkNest RX9 106 yX10_within RX10, .methodLinkNest RX8 37 yX10_within RX10, .methodLinkNest RX1 108 yX10_tenthBy RX10, .methodLinkNest RX1 129 yX10_lessCrime RX10, .methodLinkNest RX1 147 yX10_moreCrime RX10, .methodLinkNest RX5 64 yX10_lessCrime RX10, .methodLinkNest RX2 32 yX10_seatIn RX10, .methodLinkNest RX0 57 yX10_tenthBy RX10]
def xAO : List String := [RX4, RX8, RX7, RX3, RX6]
def xTys (cA : Nat → ClassId) : List (ClassId × FieldType) := [(cA 0, .int), (cA 1, .byte), (cA 2, .boolean), (cA 3, .object RX4), (cA 4, .object RX8), (cA 5, .object RX7), (cA 6, .object RX3), (cA 7, .object RX6)]
def xEnv (D : va_G) (cA : Nat → ClassId) (U : State) : Prop := va_K D vwCl (xTys cA) U ∧ (∀ w ∈ xNest, va_Nw w U) ∧ ∀ C ∈ xAO, va_AO C U
theorem xNest_warm {s U : State} (hW : s.WarmedH U.vm) : ∀ w ∈ xNest, va_Nw w s → va_Nw w U := by
  intro w hw h
  simp only [xNest, List.mem_cons, List.not_mem_nil, or_false] at hw
  rcases hw with rfl | rfl | rfl | rfl | rfl | rfl | rfl | rfl | rfl | rfl | rfl <;> exact va_Nw.warmM hW h
theorem xEnv.warm {D : va_G} {cA : Nat → ClassId} {s U : State} (hW : s.WarmedH U.vm) (h : xEnv D cA s) : xEnv D cA U := ⟨va_K.moved hW.alike h.1, fun w hw => xNest_warm hW w hw (h.2.1 w hw), fun C hC => (h.2.2 C hC).moved hW.alike⟩
theorem xNest_same {s U : State} (hv : s.vm = U.vm) : ∀ w ∈ xNest, va_Nw w s → va_Nw w U := by
  intro w hw h
  simp only [xNest, List.mem_cons, List.not_mem_nil, or_false] at hw
  rcases hw with rfl | rfl | rfl | rfl | rfl | rfl | rfl | rfl | rfl | rfl | rfl <;> exact va_Nw.same rfl hv h
theorem xAlike_of {s U : State} (hv : s.vm = U.vm) : s.vm.Alike U.vm := hv ▸ Vm.Alike.refl s.vm
theorem xEnv.same {D : va_G} {cA : Nat → ClassId} {s U : State} (hv : s.vm = U.vm) (h : xEnv D cA s) : xEnv D cA U := ⟨va_K.moved (xAlike_of hv) h.1, fun w hw => xNest_same hv w hw (h.2.1 w hw), fun C hC => (h.2.2 C hC).moved (xAlike_of hv)⟩
/-! strings: the places of the constants, in the order plain, young, old, hermit, gaol, fine, lash, stocks, crime -/
def xStrT : List (Nat × String) := [(140, "plain"), (142, "young"), (144, "old"), (146, "hermit"), (148, "gaol"), (150, "fine"), (152, "lash"), (154, "stocks"), (156, "crime")]
def xLen : List Nat := [5, 5, 3, 6, 4, 4, 4, 6, 5]
def xByt : List (List Int32) := [[112, 108, 97, 105, 110], [121, 111, 117, 110, 103], [111, 108, 100], [104, 101, 114, 109, 105, 116], [103, 97, 111, 108], [102, 105, 110, 101], [108, 97, 115, 104], [115, 116, 111, 99, 107, 115], [99, 114, 105, 109, 101]]
def xStrW (sa : Nat → Nat) (U : State) : Prop := ∀ (k : Nat) (q : Nat × String), xStrT[k]? = some q → vk_R RX9 q.1 q.2 (sa k) U
/-- the statics of the JDK that charAt reads -/
def xStat (sa : Nat → Nat) (A : Nat → Prop) (U : State) (H : Heap) : Prop := va_Z "java/lang/String" "COMPACT_STRINGS" "Z" (.int 1) A U H ∧ (va_Z "jdk/internal/util/Preconditions" "SIOOBE_FORMATTER" "Ljava/util/function/BiFunction;" .null A U H ∨ va_Z "jdk/internal/util/Preconditions" "SIOOBE_FORMATTER" "Ljava/util/function/BiFunction;" (.ref (sa 18)) A U H)
/-- constants: sa 0 to 8 the strings, 9 to 17 their rows of bytes, 18 a static of the JDK -/
def xStr (sa : Nat → Nat) (A : Nat → Prop) (U : State) (H : Heap) : Prop := xStrW sa U ∧ vk_S 9 xLen xByt sa (fun i => sa (9 + i)) A U H ∧ xStat sa A U H
theorem xStrW.warm {sa : Nat → Nat} {s U : State} (hW : s.WarmedH U.vm) (h : xStrW sa s) : xStrW sa U := fun k q hq => (h k q hq).warm hW
theorem xStrW.same {sa : Nat → Nat} {s U : State} (hv : s.vm = U.vm) (h : xStrW sa s) : xStrW sa U := fun k q hq => (h k q hq).same hv.symm
theorem xStr.same {sa : Nat → Nat} {A : Nat → Prop} {s U : State} {H : Heap} (hv : s.vm = U.vm) (h : xStr sa A s H) : xStr sa A U H := ⟨h.1.same hv, h.2.1.moved (xAlike_of hv), h.2.2.1.moved (xAlike_of hv), h.2.2.2.imp (fun q => q.moved (xAlike_of hv)) (fun q => q.moved (xAlike_of hv))⟩
theorem xStr.to {sa : Nat → Nat} {A B : Nat → Prop} {s U : State} {H H1 : Heap} (hW : s.WarmedH U.vm) (h : xStr sa A s H) (hq : ∀ a : Nat, a < H.size → ¬ A a → H1[a]? = H[a]?) (hAB : ∀ q, B q → A q) : xStr sa B U H1 :=
  ⟨h.1.warm hW, ((h.2.1.moved hW.alike).kept hq).narrow hAB, ((h.2.2.1.moved hW.alike).kept hq).narrow hAB, h.2.2.2.imp (fun q => ((q.moved hW.alike).kept hq).narrow hAB) (fun q => ((q.moved hW.alike).kept hq).narrow hAB)⟩
/-! the cells -/
def xFv (loc : xId → Nat) (M : xM) (i : xId) (ci s : Nat) : Value := match xSl ci s with
  | 0 => .int (M.2.2.1 i.1 i.2.1 i.2.2 s)
  | 1 => .long (M.2.2.2 i.1 i.2.1 i.2.2 s)
  | _ => va_rf ((M.2.1 i.1 i.2.1 i.2.2 s).map loc)
def xFs (loc : xId → Nat) (M : xM) (i : xId) (ci : Nat) : List Value := (List.range (xN ci)).map (xFv loc M i ci)
def xAr (loc : xId → Nat) (M : xM) (i : xId) (e len : Nat) : vp_A := if e < 3 then (len, .inl (fun s => M.2.2.1 i.1 i.2.1 i.2.2 s)) else (len, .inr (.inr (.inr (.inr (fun s => (M.2.1 i.1 i.2.1 i.2.2 s).map loc)))))
def xEnt (cA : Nat → ClassId) (loc : xId → Nat) (M : xM) (i : xId) : va_E := match xCls i.1 with
  | some ci => .inr (ci, xFs loc M i ci)
  | none => match xArr i.1 with
    | some q => .inl (cA q.1, xAr loc M i q.1 q.2)
    | none => .inr (0, [])
def xW (cA : Nat → ClassId) (loc : xId → Nat) (M : xM) : va_W := (xSeq.take M.1).map fun i => (loc i, xEnt cA loc M i)
def xRep (D : va_G) (cA : Nat → ClassId) (loc : xId → Nat) (A : Nat → Prop) (M : xM) (H : Heap) : Prop :=
  va_P D vwCl (xW cA loc M) H ∧ va_D A (xW cA loc M) ∧ M.1 ≤ 109 ∧ ∀ (i : xId) (s : Nat) (x : xId), xLive M.1 i → M.2.1 i.1 i.2.1 i.2.2 s = some x → xLive M.1 x
theorem xW_get {cA : Nat → ClassId} {loc : xId → Nat} {M : xM} {i : xId} {q : Nat} (hq : q < M.1) (hs : xSeq[q]? = some i) : (xW cA loc M)[q]? = some (loc i, xEnt cA loc M i) := by
  unfold xW
  rw [List.getElem?_map, List.getElem?_take_of_lt hq, hs]
  rfl
theorem xW_len {cA : Nat → ClassId} {loc : xId → Nat} {M : xM} (h : M.1 ≤ 109) : (xW cA loc M).length = M.1 := by
  unfold xW
  rw [List.length_map, List.length_take, xSeq_len]
  omega
theorem xSeq_inj {a b : Nat} {i : xId} (ha : xSeq[a]? = some i) (hb : xSeq[b]? = some i) : a = b := by
  have la := (List.getElem?_eq_some_iff.mp ha).1
  exact (List.getElem?_inj la xSeq_nd).mp (by rw [ha, hb])
/-- one object's cell is another: what the others hold stays -/
theorem xW_set {cA : Nat → ClassId} {loc : xId → Nat} {M M' : xM} {i : xId} {q : Nat} {e : va_E} (hs : xSeq[q]? = some i) (hn : M'.1 = M.1) (he : e = xEnt cA loc M' i) (ho : ∀ i' ∈ xSeq, i' ≠ i → xEnt cA loc M' i' = xEnt cA loc M i') : (xW cA loc M).set q (loc i, e) = xW cA loc M' := by
  apply List.ext_getElem?
  intro k
  unfold xW
  rw [hn]
  by_cases hk : k < M.1
  · by_cases hkq : q = k
    · subst hkq
      by_cases hl : q < (List.map (fun i => (loc i, xEnt cA loc M i)) (List.take M.1 xSeq)).length
      · rw [List.getElem?_set_self hl, List.getElem?_map, List.getElem?_take_of_lt hk, hs, he]
        rfl
      · exfalso
        rw [List.length_map, List.length_take] at hl
        have := (List.getElem?_eq_some_iff.mp hs).1
        omega
    · rw [List.getElem?_set_ne hkq, List.getElem?_map, List.getElem?_map, List.getElem?_take_of_lt hk]
      cases hx : xSeq[k]? with
      | none => rfl
      | some i' =>
        have hne : i' ≠ i := fun z => hkq (xSeq_inj hs (z ▸ hx))
        show some (loc i', xEnt cA loc M i') = some (loc i', xEnt cA loc M' i')
        rw [ho i' (List.mem_of_getElem? hx) hne]
  · have h0 : (List.take M.1 xSeq)[k]? = none := by
      rw [List.getElem?_take_eq_none (by omega)]
    by_cases hkq : q = k
    · subst hkq
      rw [List.getElem?_eq_none (by rw [List.length_set, List.length_map, List.length_take]; omega), List.getElem?_map, h0]
      rfl
    · rw [List.getElem?_set_ne hkq, List.getElem?_map, List.getElem?_map, h0]
      rfl
/-- one object more -/
theorem xW_push {cA : Nat → ClassId} {loc loc' : xId → Nat} {M M' : xM} {i : xId} (hs : xSeq[M.1]? = some i) (hn : M'.1 = M.1 + 1) (hl : ∀ i' : xId, i' ≠ i → loc' i' = loc i') (he : ∀ (q : Nat) (i' : xId), q < M.1 → xSeq[q]? = some i' → xEnt cA loc' M' i' = xEnt cA loc M i') : xW cA loc' M' = xW cA loc M ++ [(loc' i, xEnt cA loc' M' i)] := by
  unfold xW
  rw [hn, List.take_add_one, hs, List.map_append]
  refine congrArg (fun l => l ++ [(loc' i, xEnt cA loc' M' i)]) ?_
  apply List.ext_getElem?
  intro k
  rw [List.getElem?_map, List.getElem?_map]
  by_cases hk : k < M.1
  · rw [List.getElem?_take_of_lt hk]
    cases hx : xSeq[k]? with
    | none => rfl
    | some i' =>
      have hne : i' ≠ i := fun z => Nat.ne_of_lt hk (xSeq_inj hx (z ▸ hs))
      show some (loc' i', xEnt cA loc' M' i') = some (loc i', xEnt cA loc M i')
      rw [he k i' hk hx, hl i' hne]
  · rw [List.getElem?_take_eq_none (by omega)]
    rfl
theorem xRep.pos {D : va_G} {cA : Nat → ClassId} {loc : xId → Nat} {A : Nat → Prop} {M : xM} {H : Heap} {i : xId} (hl : xLive M.1 i) (h99 : i.1 ≠ 99) : ∃ q : Nat, q < M.1 ∧ xSeq[q]? = some i := hl.elim (fun h => absurd h h99) id
theorem xCls_99 {t ci : Nat} (h : xCls t = some ci) : t ≠ 99 := fun e => by subst e; cases h
theorem xArr_99 {t : Nat} {q : Nat × Nat} (h : xArr t = some q) : t ≠ 99 := fun e => by subst e; cases h
theorem xCls_arr {t : Nat} {q : Nat × Nat} (h : xArr t = some q) : xCls t = none := by
  unfold xArr at h
  split at h <;> first | rfl | cases h
theorem xEnt_obj {cA : Nat → ClassId} {loc : xId → Nat} {M : xM} {t k j ci : Nat} (h : xCls t = some ci) : xEnt cA loc M (t, k, j) = .inr (ci, xFs loc M (t, k, j) ci) := by
  unfold xEnt
  show (match xCls t with | some ci => _ | none => _) = _
  rw [h]
theorem xEnt_arr {cA : Nat → ClassId} {loc : xId → Nat} {M : xM} {t k j e len : Nat} (h : xArr t = some (e, len)) : xEnt cA loc M (t, k, j) = .inl (cA e, xAr loc M (t, k, j) e len) := by
  unfold xEnt
  show (match xCls t with | some ci => _ | none => match xArr t with | some q => _ | none => _) = _
  rw [xCls_arr h, h]
theorem xFs_get {loc : xId → Nat} {M : xM} {i : xId} {ci s : Nat} (h : s < xN ci) : (xFs loc M i ci)[s]? = some (xFv loc M i ci s) := by
  unfold xFs
  rw [List.getElem?_map, List.getElem?_range h]
  rfl
theorem xFs_len {loc : xId → Nat} {M : xM} {i : xId} {ci : Nat} : (xFs loc M i ci).length = xN ci := by
  unfold xFs
  rw [List.length_map, List.length_range]
theorem xFs_set {loc : xId → Nat} {M M' : xM} {i : xId} {ci s : Nat} {v : Value} (hv : v = xFv loc M' i ci s) (ho : ∀ s', s' ≠ s → xFv loc M' i ci s' = xFv loc M i ci s') : (xFs loc M i ci).set s v = xFs loc M' i ci := by
  apply List.ext_getElem?
  intro k
  by_cases hk : k < xN ci
  · rw [xFs_get hk]
    by_cases hs : s = k
    · subst hs
      rw [List.getElem?_set_self (by rw [xFs_len]; exact hk), hv]
    · rw [List.getElem?_set_ne hs, xFs_get hk, ho k (Ne.symm hs)]
  · rw [List.getElem?_eq_none (by rw [List.length_set, xFs_len]; omega), List.getElem?_eq_none (by rw [xFs_len]; omega)]
theorem xEnt_same {cA : Nat → ClassId} {loc : xId → Nat} {M M' : xM} {i : xId} (hR : ∀ s, M'.2.1 i.1 i.2.1 i.2.2 s = M.2.1 i.1 i.2.1 i.2.2 s) (hI : ∀ s, M'.2.2.1 i.1 i.2.1 i.2.2 s = M.2.2.1 i.1 i.2.1 i.2.2 s) (hL : ∀ s, M'.2.2.2 i.1 i.2.1 i.2.2 s = M.2.2.2 i.1 i.2.1 i.2.2 s) : xEnt cA loc M' i = xEnt cA loc M i := by
  have e1 : M'.2.1 i.1 i.2.1 i.2.2 = M.2.1 i.1 i.2.1 i.2.2 := funext hR
  have e2 : M'.2.2.1 i.1 i.2.1 i.2.2 = M.2.2.1 i.1 i.2.1 i.2.2 := funext hI
  have e3 : M'.2.2.2 i.1 i.2.1 i.2.2 = M.2.2.2 i.1 i.2.1 i.2.2 := funext hL
  have e4 : ∀ ci, xFv loc M' i ci = xFv loc M i ci := fun ci => funext fun s => by unfold xFv; rw [e1, e2, e3]
  unfold xEnt xFs xAr
  simp only [e1, e2, e4]
theorem xup_self {α : Type} {f : xF4 α} {t k j s : Nat} {v : α} : xup f t k j s v t k j s = v := by simp [xup]
theorem xup_slot {α : Type} {f : xF4 α} {t k j s s' : Nat} {v : α} (h : s' ≠ s) : xup f t k j s v t k j s' = f t k j s' := by simp [xup, h]
theorem xup_id {α : Type} {f : xF4 α} {t k j s s' : Nat} {v : α} {i : xId} (h : i ≠ (t, k, j)) : xup f t k j s v i.1 i.2.1 i.2.2 s' = f i.1 i.2.1 i.2.2 s' := by
  unfold xup
  rw [if_neg]
  rintro ⟨rfl, rfl, rfl, -⟩
  exact h rfl
theorem xz_id {α : Type} {f : xF4 α} {t k j s' : Nat} {v : α} {i : xId} (h : i ≠ (t, k, j)) : xz f t k j v i.1 i.2.1 i.2.2 s' = f i.1 i.2.1 i.2.2 s' := by
  unfold xz
  rw [if_neg]
  rintro ⟨rfl, rfl, rfl⟩
  exact h rfl
theorem xz_self {α : Type} {f : xF4 α} {t k j s : Nat} {v : α} : xz f t k j v t k j s = v := by simp [xz]
/-! the goal -/
def xCtx (p : Program) (R : Room) (s : State) (m : MethodId) (args : Array Value) (meth : Method) (c : Code) (mr : xMR) (d : Nat) (sa : Nat → Nat) (D : va_G) (cA : Nat → ClassId) (A : Nat → Prop) (b99 : Nat) : Prop :=
  p.tables.exec = Jvm.exec ∧ c.code = mr.2.2.1 ∧ c.maxLocals = mr.2.2.2.1 ∧ s.vm.findClass mr.2.1.cls = some m.cls ∧ (∀ w ∈ xTbl, w.before args s = true) ∧ (d ≤ R.frames ∧ 40 * d ≤ R.locals) ∧ xEnv D cA s ∧ xStr sa A s s.heap ∧ (∀ q, s.heap.size ≤ q → A q) ∧ (mr.2.1.name = "<init>" → meth.name = "<init>") ∧
  ∀ S : Nat × (Nat → Int32), mr.1 = some S → va_X b99 S.1 S.2 s s.heap ∧ b99 < s.heap.size ∧ ¬ A b99
def xRet (mr : xMR) (v : Option xV) (pc : Nat) : Prop := match v with
  | none => decode mr.2.2.1 pc = .ok (.return_, 1) ∧ mr.2.2.2.2 = none
  | some (.inl x) => decode mr.2.2.1 pc = .ok (.ireturn, 1) ∧ ∃ ty, mr.2.2.2.2 = some ty ∧ narrow ty (.int x) = .int x
  | some (.inr (.inl _)) => decode mr.2.2.1 pc = .ok (.lreturn, 1) ∧ mr.2.2.2.2 = some .long
  | some (.inr (.inr _)) => decode mr.2.2.1 pc = .ok (.areturn, 1) ∧ ∃ n, mr.2.2.2.2 = some (.object n)
def Wp (d nF : Nat) (mr : xMR) (pc : Nat) (ls : List (Option xV)) (st : List xV) (M : xM) (Q : Option xV → xM → Prop) : Prop :=
  ∀ (l : Launch) (p : Program) (e : Env) (R : Room) (s : State) (m : MethodId) (args : Array Value) (below : List Frame) (meth : Method) (c : Code) (sa : Nat → Nat) (D : va_G) (cA : Nat → ClassId) (A : Nat → Prop) (loc : xId → Nat) (H : Heap) (locs : List Loc) (cells slots : Nat) (lsA : Array Slot) (Qm : State → Prop),
    xCtx p R s m args meth c mr d sa D cA A (loc (99, 0, 0)) → xRep D cA loc A M H → va_S A s.heap H locs → lv_has lsA mr.2.2.2.1 (xLsF loc sa 0 ls) → ls.length = mr.2.2.2.1 → xokL M.1 ls → xokS M.1 st →
    M.1 ≤ nF → cells + (nF - M.1) ≤ R.cells → slots + (xCum nF - xCum M.1) ≤ R.slots →
    (∀ (v : Option xV) (M' : xM) (loc' : xId → Nat) (H' : Heap) (locs' : List Loc) (pc' : Nat) (lsA' : Array Slot), Q v M' → M'.1 = nF → (∀ i, xLive M.1 i → loc' i = loc i) → xRep D cA loc' A M' H' → va_S A s.heap H' locs' → xokO nF v → xRet mr v pc' →
      W p l e R s m args below meth c H' locs' (cells + (nF - M.1)) (slots + (xCum nF - xCum M.1)) Qm (F0 m pc' lsA' (v.toList.map (xrv loc' sa)))) →
    W p l e R s m args below meth c H locs cells slots Qm (F0 m pc lsA (st.map (xrv loc sa)))
theorem xScr_eq {loc loc' : xId → Nat} {n : Nat} (h : ∀ i, xLive n i → loc' i = loc i) : loc' (99, 0, 0) = loc (99, 0, 0) := h _ (Or.inl rfl)
/-! a method's entry -/
def xArgs : List xV → List (Option xV)
  | [] => []
  | v :: r => cond (xLong (some v)) (some v :: none :: xArgs r) (some v :: xArgs r)
def xEntry (maxL : Nat) (as : List xV) : List (Option xV) := xArgs as ++ List.replicate (maxL - (xArgs as).length) none
theorem xcatL {loc : xId → Nat} {sa : Nat → Nat} {v : xV} (h : xLong (some v) = true) : (xrv loc sa v).category = 2 := by
  rcases v with x | x | (_ | i) | k
  · cases h
  · rfl
  · cases h
  · cases h
  · cases h
theorem xArgs_len {loc : xId → Nat} {sa : Nat → Nat} : ∀ as : List xV, (lg_sl (as.map (xrv loc sa))).length = (xArgs as).length
  | [] => rfl
  | v :: r => by
    have ih := xArgs_len (loc := loc) (sa := sa) r
    unfold lg_sl at ih ⊢
    rw [List.map_cons, List.flatMap_cons, List.length_append, ih]
    cases h : xLong (some v) with
    | true => rw [if_pos (xcatL h)]; simp [xArgs, h]; omega
    | false => rw [if_neg (fun q => by rw [xLong_cat q] at h; cases h)]; simp [xArgs, h]; omega
theorem xArgs_mem {loc : xId → Nat} {sa : Nat → Nat} : ∀ (as : List xV) (o nr : Nat) (q : Nat × Value), q ∈ xLsF loc sa o (xArgs as ++ List.replicate nr none) → q ∈ lv_args o (as.map (xrv loc sa))
  | [], o, nr, q, h => by
    exfalso
    obtain ⟨i, v, -, h2, -⟩ := xLsF_mem (j := q.1) (w := q.2) h
    simp only [xArgs, List.nil_append] at h2
    have := List.mem_of_getElem? h2
    rw [List.mem_replicate] at this
    cases this.2
  | v :: r, o, nr, q, h => by
    cases hv : xLong (some v) with
    | true =>
      simp only [xArgs, hv, cond_true, List.cons_append, xLsF] at h
      rcases List.mem_cons.mp h with h | h
      · rw [h]; exact List.mem_cons_self
      · have h1 := xArgs_mem r _ nr q h
        rw [List.map_cons, lv_args, if_pos (xcatL hv)]
        exact List.mem_cons_of_mem _ h1
    | false =>
      simp only [xArgs, hv, cond_false, List.cons_append, xLsF] at h
      rcases List.mem_cons.mp h with h | h
      · rw [h]; exact List.mem_cons_self
      · have h1 := xArgs_mem r _ nr q h
        rw [List.map_cons, lv_args, if_neg (fun q => by rw [xLong_cat q] at hv; cases hv)]
        exact List.mem_cons_of_mem _ h1
theorem xEntry_len {maxL : Nat} {as : List xV} (h : (xArgs as).length ≤ maxL) : (xEntry maxL as).length = maxL := by
  unfold xEntry
  rw [List.length_append, List.length_replicate]
  omega
theorem xArgs_ok {n : Nat} : ∀ (as : List xV) (nr : Nat), xokS n as → xokL n (xArgs as ++ List.replicate nr none)
  | [], nr, _, i, v, h => by
    exfalso
    simp only [xArgs, List.nil_append] at h
    have := List.mem_of_getElem? h
    rw [List.mem_replicate] at this
    cases this.2
  | a :: r, nr, hok, i, v, h => by
    cases hv : xLong (some a) with
    | true =>
      simp only [xArgs, hv, cond_true, List.cons_append] at h
      match i, h with
      | 0, h => cases h; exact hok.1
      | 1, h => cases h
      | i + 2, h => exact xArgs_ok r nr hok.2 i v (by simpa using h)
    | false =>
      simp only [xArgs, hv, cond_false, List.cons_append] at h
      match i, h with
      | 0, h => cases h; exact hok.1
      | i + 1, h => exact xArgs_ok r nr hok.2 i v (by simpa using h)
theorem xEntry_has {loc : xId → Nat} {sa : Nat → Nat} {maxL : Nat} {as : List xV} (h : (xArgs as).length ≤ maxL) : lv_has ((lg_sl (as.map (xrv loc sa)) ++ List.replicate (maxL - (lg_sl (as.map (xrv loc sa))).length) Slot.unset).toArray) maxL (xLsF loc sa 0 (xEntry maxL as)) := by
  have h1 := lv_entry (as.map (xrv loc sa)) (n := maxL) (by rw [xArgs_len]; exact h)
  exact ⟨h1.1, h1.2.1, fun q hq => h1.2.2 q (xArgs_mem as 0 _ q hq)⟩
