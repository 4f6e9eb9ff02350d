/-! CALLS: a method's contract out of its walk, and a call by it -/
def xMOK (mr : xMR) : Prop := mr.1 = none ∧ mr.2.2.2.1 ≤ 21 ∧ plainName mr.2.1.cls = true
def wY (mr : xMR) : List Cond := Cond.code mr.2.1 mr.2.2.1 mr.2.2.2.1 mr.2.2.2.2 :: xTbl
def xRm (d mc ms : Nat) : Room := { frames := d, cells := mc, slots := ms, locals := 40 * d }
/-- the method begun with these values comes to its end with Q; nF ids are made then -/
def Tri (d nF : Nat) (mr : xMR) (as : List xV) (M : xM) (Q : Option xV → xM → Prop) : Prop := xMOK mr ∧ (xArgs as).length ≤ mr.2.2.2.1 ∧ Wp d nF mr 0 (xEntry mr.2.2.2.1 as) [] M Q
def xPc (sa : Nat → Nat) (D : va_G) (cA : Nat → ClassId) (loc : xId → Nat) (sz : Nat) (as : List xV) (M : xM) : Array Value → State → Prop := fun v U =>
  v = (as.map (xrv loc sa)).toArray ∧ U.heap.size = sz ∧ xRep D cA loc (fun _ => True) M U.heap ∧ xEnv D cA U ∧ xStr sa (va_A (xW cA loc M) sz) U U.heap
def xQc (sa : Nat → Nat) (D : va_G) (cA : Nat → ClassId) (loc : xId → Nat) (sz nF : Nat) (M : xM) (Q : Option xV → xM → Prop) : Array Value → State → Outcome → State → Prop := fun _ st o t =>
  ∃ (v : Option xV) (M' : xM) (loc' : xId → Nat), o = .returned (v.map (xrv loc' sa)) ∧ Q v M' ∧ M'.1 = nF ∧ (∀ i, xLive M.1 i → loc' i = loc i) ∧ xRep D cA loc' (va_A (xW cA loc M) sz) M' t.heap ∧ xokO nF v ∧ va_F (va_A (xW cA loc M) sz) st t
theorem xPc_blind {sa : Nat → Nat} {D : va_G} {cA : Nat → ClassId} {loc : xId → Nat} {sz : Nat} {as : List xV} {M : xM} : FrameBlind (xPc sa D cA loc sz as M) := by
  intro a U g mk ⟨h1, h2, h3, h4, h5⟩
  exact ⟨h1, h2, h3, xEnv.same (s := U) (U := U.calling g mk a) rfl h4, xStr.same (s := U) (U := U.calling g mk a) rfl h5⟩
theorem xRep.wk {D : va_G} {cA : Nat → ClassId} {loc : xId → Nat} {A B : Nat → Prop} {M : xM} {H : Heap} (h : xRep D cA loc A M H) (hAB : ∀ q, A q → B q) : xRep D cA loc B M H := ⟨h.1, h.2.1.weaken (fun _ q _ hq => hAB q.1 hq), h.2.2⟩
set_option maxHeartbeats 1000000 in
theorem Tri.met {d nF : Nat} {mr : xMR} {as : List xV} {M : xM} {Q : Option xV → xM → Prop} (h : Tri d nF mr as M Q) (hok : xokS M.1 as) (hn : M.1 ≤ nF) (l : Launch) (sa : Nat → Nat) (D : va_G) (cA : Nat → ClassId) (loc : xId → Nat) (sz : Nat) :
    Met l mr.2.1 (wY mr) (xRm d (nF - M.1) (xCum nF - xCum M.1)) (xPc sa D cA loc sz as M) (xQc sa D cA loc sz nF M Q) (nF - M.1) (xCum nF - xCum M.1) (va_A (xW cA loc M) sz) := by
  obtain ⟨⟨hm1, hm2, hm3⟩, hal, hw⟩ := h
  refine Met.ofW (cc := mr.2.2.1) (maxL := mr.2.2.2.1) (ret := mr.2.2.2.2) hm3 rfl ?_
  intro p e s m args below meth c s₁ B hml hv
  obtain ⟨rfl, hsz, hrep, henv, hstr⟩ := hv
  subst hsz
  have hts := atoms_spec (ws := wY mr) B.pre
  have hlocks := B.notSynchronized
  have hr := B.returns
  rw [lg_entry_eq]
  have hD : xRep D cA loc (va_A (xW cA loc M) s.heap.size) M s.heap := ⟨hrep.1, hrep.2.1.self, hrep.2.2⟩
  have key := hw l p e (headSpec (wY mr) (xRm d (nF - M.1) (xCum nF - xCum M.1))).room s m (as.map (xrv loc sa)).toArray below meth c sa D cA (va_A (xW cA loc M) s.heap.size) loc s.heap [] 0 0 _ (MQ below (xQc sa D cA loc s.heap.size nF M Q) (as.map (xrv loc sa)).toArray s (nF - M.1) (xCum nF - xCum M.1) (va_A (xW cA loc M) s.heap.size))
    ⟨B.exec, B.bytes, hml, findClass_of_methodNamed B.named, fun w hw => hts w (List.mem_cons_of_mem _ hw), ⟨Nat.le_refl d, Nat.le_refl (40 * d)⟩, henv, hstr, fun q hq => Or.inr hq, fun hi => (name_of_methodNamed B.named B.method).1.trans hi, fun S hS => by rw [hm1] at hS; cases hS⟩
    hD va_S.rf (xEntry_has hal) (xEntry_len hal) (xArgs_ok as _ hok) trivial hn (by show 0 + (nF - M.1) ≤ nF - M.1; omega) (by show 0 + (xCum nF - xCum M.1) ≤ xCum nF - xCum M.1; omega)
    (fun v M' loc' H' locs' pc' lsA' h1 h2 h3 h4 h5 h6 h7 => by
      rw [Nat.zero_add, Nat.zero_add]
      have hq : ∀ t : State, t.heap = H' → xQc sa D cA loc s.heap.size nF M Q (as.map (xrv loc sa)).toArray s (.returned (v.map (xrv loc' sa))) t := fun t ht => ⟨v, M', loc', rfl, h1, h2, h3, by rw [ht]; exact h4, h6, h5.F ht⟩
      rcases v with _ | x | x | x
      · exact W.vret B.exec B.bytes (hr.trans h7.2) (fun t ht _ => hq t ht) h5.2.2 h7.1
      · obtain ⟨g1, ty, g2, g3⟩ := h7
        exact W.zret B.exec B.bytes (hr.trans g2) g3 (fun t ht _ => hq t ht) h5.2.2 g1
      · exact W.lret B.exec B.bytes (hr.trans h7.2) (fun t ht _ => hq t ht) h5.2.2 h7.1
      · obtain ⟨g1, nm, g2⟩ := h7
        refine W.aret B.exec B.bytes (hr.trans g2) (Or.inl ⟨nm, rfl⟩) ?_ (fun t ht _ => hq t ht) h5.2.2 g1
        rcases x with (_ | x) | x
        · exact Or.inl rfl
        · exact Or.inr ⟨_, rfl⟩
        · exact Or.inr ⟨_, rfl⟩)
  exact key
def xcat (v : xV) : Nat := cond (xLong (some v)) 2 1
theorem xcat_sum {loc : xId → Nat} {sa : Nat → Nat} : ∀ st : List xV, ((st.map (xrv loc sa)).map fun v => v.category).sum = (st.map xcat).sum
  | [] => rfl
  | v :: r => by
    rw [List.map_cons, List.map_cons, List.map_cons, List.sum_cons, List.sum_cons, xcat_sum r]
    cases h : xLong (some v) with
    | true => rw [xcatL h]; simp [xcat, h]
    | false => rw [xcat1 h]; simp [xcat, h]
section CALL
variable {d nF n1 : Nat} {mr mc : xMR} {pc idx na : Nat} {ls : List (Option xV)} {st as : List xV} {M : xM} {Q Q1 : Option xV → xM → Prop}
theorem xAfter {l : Launch} {p : Program} {e9 : Env} {R9 : Room} {s : State} {m : MethodId} {args a1 : Array Value} {below : List Frame} {meth : Method} {c : Code} {sa : Nat → Nat} {D : va_G} {cA : Nat → ClassId} {A : Nat → Prop} {loc : xId → Nat} {H : Heap} {locs : List Loc} {cells slots : Nat} {lsA : Array Slot} {st0 : List Value} {Qm : State → Prop}
    (kk : ∀ v M', Q1 v M' → M'.1 = n1 → Wp (d + 1) nF mr (pc + 3) ls (v.toList ++ st) M' Q) (hn0 : M.1 ≤ n1) (hn1 : n1 ≤ nF)
    (hr : va_Run p l e9 R9 s m args below meth c H locs cells slots (n1 - M.1) (xCum n1 - xCum M.1) (F0 m pc lsA st0) (st.map (xrv loc sa)) (xQc sa D cA loc H.size n1 M Q1 a1) (va_A (xW cA loc M) H.size))
    (hC : xCtx p R9 s m args meth c mr (d + 1) sa D cA A (loc (99, 0, 0))) (hP : xRep D cA loc A M H) (hS : va_S A s.heap H locs) (hL : lv_has lsA mr.2.2.2.1 (xLsF loc sa 0 ls)) (hl : ls.length = mr.2.2.2.1) (hoL : xokL M.1 ls) (hoS : xokS M.1 st) (hc : cells + (nF - M.1) ≤ R9.cells) (hs : slots + (xCum nF - xCum M.1) ≤ R9.slots)
    (hE : ∀ (v : Option xV) (M' : xM) (loc' : xId → Nat) (H' : Heap) (locs' : List Loc) (pc' : Nat) (lsA' : Array Slot), Q v M' → M'.1 = nF → (∀ i, xLive M.1 i → loc' i = loc i) → xRep D cA loc' A M' H' → va_S A s.heap H' locs' → xokO nF v → xRet mr v pc' →
      W p l e9 R9 s m args below meth c H' locs' (cells + (nF - M.1)) (slots + (xCum nF - xCum M.1)) Qm (F0 m pc' lsA' (v.toList.map (xrv loc' sa)))) :
    W p l e9 R9 s m args below meth c H locs cells slots Qm (F0 m pc lsA st0) := by
  have hfree : ∀ q, va_A (xW cA loc M) H.size q → A q := by
    rintro q (⟨k, e, h⟩ | h)
    · exact hP.2.1.2 k (q, e) h
    · exact hC.2.2.2.2.2.2.2.2.1 q (Nat.le_trans hS.1 h)
  intro T hT X
  obtain ⟨v0, st₀, t, T', Lc, h0, X', hLc, e1, e2, ⟨v, M', loc', ho, hq, hM', hag, hrep, hokv, hF1, hF2⟩, stp⟩ := hr T hT X
  have hv0 : v0 = v.map (xrv loc' sa) := by injection ho
  subst hv0
  rw [h0] at hF1 hF2
  have hrep' : xRep D cA loc' A M' T'.heap := by rw [e1]; exact hrep.wk hfree
  have hS' : va_S A s.heap T'.heap (locs ++ Lc) := ⟨Nat.le_trans hS.1 (by rw [e1]; exact hF1), fun q h1 h2 => by
      rw [e1, hF2 q (Nat.lt_of_lt_of_le h1 hS.1) (fun z => h2 (hfree q z))]
      exact hS.2.1 q h1 h2, fun q hq => by
      rcases List.mem_append.mp hq with h | h
      · exact hS.2.2 q h
      · exact hfree _ (hLc q h)⟩
  have hm1 := xCum_mono hn0
  have hm2 := xCum_mono hn1
  have hokst : xokS M'.1 (v.toList ++ st) := by
    rw [hM']
    refine xokS.app ?_ (hoS.mono hn0)
    cases v with
    | none => trivial
    | some w => exact ⟨hokv, trivial⟩
  have k2 := kk v M' hq hM' l p e9 R9 s m args below meth c sa D cA A loc' T'.heap (locs ++ Lc) (cells + (n1 - M.1)) (slots + (xCum n1 - xCum M.1)) lsA Qm (by rw [xScr_eq hag]; exact hC) hrep' hS' (by rw [xLsF_eq hag hoL]; exact hL) hl (by rw [hM']; exact hoL.mono hn0) hokst (by rw [hM']; exact hn1) (by rw [hM']; omega) (by rw [hM']; omega)
    (fun v2 M2 loc2 H2 locs2 pc2 lsA2 g1 g2 g3 g4 g5 g6 g7 => by
      have h8 := hE v2 M2 loc2 H2 locs2 pc2 lsA2 g1 g2 (fun i hi => (g3 i (hi.mono (by rw [hM']; exact hn0))).trans (hag i hi)) g4 g5 g6 g7
      have f1 : cells + (n1 - M.1) + (nF - M'.1) = cells + (nF - M.1) := by rw [hM']; omega
      have f2 : slots + (xCum n1 - xCum M.1) + (xCum nF - xCum M'.1) = slots + (xCum nF - xCum M.1) := by rw [hM']; omega
      rw [f1, f2]
      exact h8)
  have e3 : (v.toList ++ st).map (xrv loc' sa) = (v.map (xrv loc' sa)).toList ++ st.map (xrv loc sa) := by
    rw [List.map_append, xrv_eqS hag hoS]
    cases v <;> rfl
  rw [e3] at k2
  obtain ⟨t2, a1, b1⟩ := k2 T' rfl X'
  exact ⟨t2, stp t2 a1, b1⟩
theorem xPre {s : State} {sa : Nat → Nat} {D : va_G} {cA : Nat → ClassId} {A : Nat → Prop} {loc : xId → Nat} {H : Heap} {locs : List Loc} (hEnv : xEnv D cA s) (hStr : xStr sa A s s.heap) (hA : ∀ q, s.heap.size ≤ q → A q) (hP : xRep D cA loc A M H) (hS : va_S A s.heap H locs) : ∀ U : State, U.heap = H → s.WarmedH U.vm → xPc sa D cA loc H.size as M (as.map (xrv loc sa)).toArray U := by
  intro U hU hW
  have hfree : ∀ q, va_A (xW cA loc M) H.size q → A q := by
    rintro q (⟨k, e, h⟩ | h)
    · exact hP.2.1.2 k (q, e) h
    · exact hA q (Nat.le_trans hS.1 h)
  refine ⟨rfl, by rw [hU], by rw [hU]; exact hP.wk (fun _ _ => trivial), hEnv.warm hW, ?_⟩
  rw [hU]
  exact hStr.to hW (fun a h1 h2 => hS.2.1 a h1 h2) hfree
/-- what the tables say of a call's target -/
def xTg (mc : xMR) (na : Nat) : Prop := (mc.2.1.cls ≠ "java/lang/invoke/MethodHandle" ∧ mc.2.1.cls ≠ "java/lang/invoke/VarHandle" ∧ (parseMethodDescriptor mc.2.1.desc).map (fun d => d.parameters.length) = some na) ∧ Cond.code mc.2.1 mc.2.2.1 mc.2.2.2.1 mc.2.2.2.2 ∈ xTbl ∧ Cond.initialized mc.2.1.cls ∈ xTbl
def xLk (own : String) (idx : Nat) (mc : xMR) : Prop := Cond.methodLink own idx mc.2.1 ∈ xTbl
def xIns (mc : xMR) : Prop := Cond.instanceMethod mc.2.1 ∈ xTbl
def xSel (mc : xMR) : Prop := Cond.selects mc.2.1.cls mc.2.1 mc.2.1 ∈ xTbl
def xSta (mc : xMR) : Prop := Cond.static mc.2.1 ∈ xTbl
def xLkN (own : String) (idx : Nat) (mc : xMR) : Prop := Cond.methodLinkNest own idx mc.2.1 RX10 ∈ xNest
theorem wY_good {mc : xMR} (h : Cond.code mc.2.1 mc.2.2.1 mc.2.2.2.1 mc.2.2.2.2 ∈ xTbl) : ∀ w ∈ wY mc, w ∈ xTbl := fun w hw => (List.mem_cons.mp hw).elim (fun e => e ▸ h) id
def xCtxRoom (d : Nat) (R9 : Room) (maxL : Nat) (hm : maxL ≤ 21) (h : d + 1 ≤ R9.frames ∧ 40 * (d + 1) ≤ R9.locals) (mc9 ms9 : Nat) : (xRm d mc9 ms9).frames + 1 ≤ R9.frames ∧ 8 + (maxL + 11) + (xRm d mc9 ms9).locals ≤ R9.locals := ⟨h.1, by show 8 + (maxL + 11) + 40 * d ≤ _; omega⟩
/-- invokevirtual on an object of ours -/
theorem w_callV {t k j ci : Nat} {T9 : u_T} {N9 : Nat} {stk : List xV} (hT : Tri d n1 mc (vR t k j :: as) M Q1) (hcl : xCls t = some ci) (hci : vwCl[ci]? = some (mc.2.1.cls, T9, N9)) (htg : xTg mc na) (hlk : xLk mr.2.1.cls idx mc) (hins : xIns mc) (hsel : xSel mc) (hna : as.length = na) (hdg : decode mr.2.2.1 pc = .ok (.invokevirtual idx, 3)) (hstk : stk = as.reverse ++ vR t k j :: st) (hcat : (st.map xcat).sum ≤ 8) (hn0 : M.1 ≤ n1) (hn1 : n1 ≤ nF)
    (kk : ∀ v M', Q1 v M' → M'.1 = n1 → Wp (d + 1) nF mr (pc + 3) ls (v.toList ++ st) M' Q) : Wp (d + 1) nF mr pc ls stk M Q := by
  subst hstk
  intro l p e9 R9 s m args below meth c sa D cA A loc H locs cells slots lsA Qm hC hP hS hL hl hoL hoS hn hc hs hE
  have hmo1 := xCum_mono hn0
  have hmo2 := xCum_mono hn1
  have hoA : xokS M.1 as := xokS.all fun v hv => xokS.mem (xokS.left hoS) v (List.mem_reverse.mpr hv)
  have hoR := xokS.right hoS
  obtain ⟨q0, hq0, hsq⟩ := hoR.1.elim (fun h => absurd h (xCls_99 hcl)) id
  have he := xW_get (cA := cA) (loc := loc) (M := M) hq0 hsq
  rw [xEnt_obj hcl] at he
  have hts := hC.2.2.2.2.1
  have hMet := hT.met (Q := Q1) ⟨hoR.1, hoA⟩ hn0 l sa D cA loc H.size
  have cw := cwV (R := R9) (own := mr.2.1.cls) (C := mc.2.1.cls) (index := idx) (ws := wY mc) (rm := xRm d (n1 - M.1) (xCum n1 - xCum M.1)) na hts (xTbl_good (L := wsV mr.2.1.cls idx mc.2.1.cls mc.2.1 (wY mc)) (fun w hw => by
    rcases List.mem_append.mp hw with h | h
    · simp only [List.mem_cons, List.not_mem_nil, or_false] at h
      rcases h with rfl | rfl | rfl | rfl
      · exact hlk
      · exact hins
      · exact hsel
      · exact htg.2.2
    · exact wY_good htg.2.1 w h)) rfl rfl rfl ⟨rfl, htg.1⟩ (xCtxRoom d R9 mc.2.2.2.1 hT.1.2.1 hC.2.2.2.2.2.1 _ _)
  have hr := va_runV (g := F0 m pc lsA ((as.reverse ++ vR t k j :: st).map (xrv loc sa))) (rest := st.map (xrv loc sa)) (As := as.map (xrv loc sa)) (b := loc (t, k, j)) (cells := cells) (slots := slots) (locs := locs) (below := below) (meth := meth) (e := e9) ⟨hC.1, hC.2.1, hC.2.2.1, hC.2.2.2.1, hts⟩ hMet cw
    ⟨xPc_blind, va_recv hC.2.2.2.2.2.2.1.1 hP.1 hci he, fun U hU hW => xPre (as := vR t k j :: as) hC.2.2.2.2.2.2.1 hC.2.2.2.2.2.2.2.1 hC.2.2.2.2.2.2.2.2.1 hP hS U hU hW⟩ rfl (by rw [List.length_map]; exact hna) hL.1 (by simp [List.map_append, List.map_reverse]; rfl) (lv_room (by rw [xcat_sum]; exact hcat)) hdg ⟨by omega, by omega⟩
  exact xAfter kk hn0 hn1 hr hC hP hS hL hl hoL hoR.2 hc hs hE
/-- invokestatic -/
theorem w_callS {stk : List xV} (hT : Tri d n1 mc as M Q1) (htg : xTg mc na) (hlk : xLk mr.2.1.cls idx mc) (hsta : xSta mc) (hna : as.length = na) (hdg : decode mr.2.2.1 pc = .ok (.invokestatic idx, 3)) (hstk : stk = as.reverse ++ st) (hcat : (st.map xcat).sum ≤ 8) (hn0 : M.1 ≤ n1) (hn1 : n1 ≤ nF)
    (kk : ∀ v M', Q1 v M' → M'.1 = n1 → Wp (d + 1) nF mr (pc + 3) ls (v.toList ++ st) M' Q) : Wp (d + 1) nF mr pc ls stk M Q := by
  subst hstk
  intro l p e9 R9 s m args below meth c sa D cA A loc H locs cells slots lsA Qm hC hP hS hL hl hoL hoS hn hc hs hE
  have hmo1 := xCum_mono hn0
  have hmo2 := xCum_mono hn1
  have hoA : xokS M.1 as := xokS.all fun v hv => xokS.mem (xokS.left hoS) v (List.mem_reverse.mpr hv)
  have hoR := xokS.right hoS
  have hts := hC.2.2.2.2.1
  have hMet := hT.met (Q := Q1) hoA hn0 l sa D cA loc H.size
  have cw := va_cwS (R := R9) (own := mr.2.1.cls) (index := idx) (ws := wY mc) (rm := xRm d (n1 - M.1) (xCum n1 - xCum M.1)) na hts (xTbl_good (L := va_wsS mr.2.1.cls idx mc.2.1 (wY mc)) (fun w hw => by
    rcases List.mem_append.mp hw with h | h
    · simp only [List.mem_cons, List.not_mem_nil, or_false] at h
      rcases h with rfl | rfl | rfl
      · exact hlk
      · exact hsta
      · exact htg.2.2
    · exact wY_good htg.2.1 w h)) rfl rfl rfl htg.1 (xCtxRoom d R9 mc.2.2.2.1 hT.1.2.1 hC.2.2.2.2.2.1 _ _)
  have hr := va_runS (g := F0 m pc lsA ((as.reverse ++ st).map (xrv loc sa))) (rest := st.map (xrv loc sa)) (As := as.map (xrv loc sa)) (cells := cells) (slots := slots) (locs := locs) (below := below) (meth := meth) (e := e9) ⟨hC.1, hC.2.1, hC.2.2.1, hC.2.2.2.1, hts⟩ hMet cw
    ⟨xPc_blind, fun U hU hW => xPre (as := as) hC.2.2.2.2.2.2.1 hC.2.2.2.2.2.2.2.1 hC.2.2.2.2.2.2.2.2.1 hP hS U hU hW⟩ rfl (by rw [List.length_map]; exact hna) hL.1 (by simp [List.map_append, List.map_reverse]) (lv_room (by rw [xcat_sum]; exact hcat)) hdg ⟨by omega, by omega⟩
  exact xAfter kk hn0 hn1 hr hC hP hS hL hl hoL hoR hc hs hE
/-- invokestatic of a nest mate's private method -/
theorem w_callSN {stk : List xV} (hT : Tri d n1 mc as M Q1) (htg : xTg mc na) (hlk : xLkN mr.2.1.cls idx mc) (hsta : xSta mc) (hna : as.length = na) (hdg : decode mr.2.2.1 pc = .ok (.invokestatic idx, 3)) (hstk : stk = as.reverse ++ st) (hcat : (st.map xcat).sum ≤ 8) (hn0 : M.1 ≤ n1) (hn1 : n1 ≤ nF)
    (kk : ∀ v M', Q1 v M' → M'.1 = n1 → Wp (d + 1) nF mr (pc + 3) ls (v.toList ++ st) M' Q) : Wp (d + 1) nF mr pc ls stk M Q := by
  subst hstk
  intro l p e9 R9 s m args below meth c sa D cA A loc H locs cells slots lsA Qm hC hP hS hL hl hoL hoS hn hc hs hE
  have hmo1 := xCum_mono hn0
  have hmo2 := xCum_mono hn1
  have hoA : xokS M.1 as := xokS.all fun v hv => xokS.mem (xokS.left hoS) v (List.mem_reverse.mpr hv)
  have hoR := xokS.right hoS
  have hts := hC.2.2.2.2.1
  have hMet := hT.met (Q := Q1) hoA hn0 l sa D cA loc H.size
  have cw : va_CN R9 s args mr.2.1.cls idx mc.2.1 RX10 mc.2.2.1 mc.2.2.2.1 mc.2.2.2.2 (wY mc) (xRm d (n1 - M.1) (xCum n1 - xCum M.1)) (n1 - M.1) (xCum n1 - xCum M.1) na := va_cnB na hts (xTbl_good (wY_good htg.2.1)) rfl rfl rfl (hC.2.2.2.2.2.2.1.2.1 _ hlk) (hts _ htg.2.2) htg.1 (xCtxRoom d R9 mc.2.2.2.1 hT.1.2.1 hC.2.2.2.2.2.1 _ _)
  have hr := va_runSN (g := F0 m pc lsA ((as.reverse ++ st).map (xrv loc sa))) (rest := st.map (xrv loc sa)) (As := as.map (xrv loc sa)) (cells := cells) (slots := slots) (locs := locs) (below := below) (meth := meth) (e := e9) ⟨hC.1, hC.2.1, hC.2.2.1, hC.2.2.2.1, hts⟩ hMet ⟨cw, hts _ hsta, trivial⟩
    ⟨xPc_blind, fun U hU hW => xPre (as := as) hC.2.2.2.2.2.2.1 hC.2.2.2.2.2.2.2.1 hC.2.2.2.2.2.2.2.2.1 hP hS U hU hW⟩ rfl (by rw [List.length_map]; exact hna) hL.1 (by simp [List.map_append, List.map_reverse]) (lv_room (by rw [xcat_sum]; exact hcat)) hdg ⟨by omega, by omega⟩
  exact xAfter kk hn0 hn1 hr hC hP hS hL hl hoL hoR hc hs hE
/-- a constructor -/
theorem w_callI {t k j : Nat} {stk : List xV} (hT : Tri d n1 mc (vR t k j :: as) M Q1) (hret : mc.2.2.2.2 = none) (hnm : mc.2.1.name = "<init>") (htg : xTg mc na) (hlk : xLk mr.2.1.cls idx mc) (hins : xIns mc) (hna : as.length = na) (hdg : decode mr.2.2.1 pc = .ok (.invokespecial idx, 3)) (hstk : stk = as.reverse ++ vR t k j :: st) (hcat : (st.map xcat).sum ≤ 8) (hn0 : M.1 ≤ n1) (hn1 : n1 ≤ nF)
    (kk : ∀ v M', Q1 v M' → M'.1 = n1 → Wp (d + 1) nF mr (pc + 3) ls (v.toList ++ st) M' Q) : Wp (d + 1) nF mr pc ls stk M Q := by
  subst hstk
  intro l p e9 R9 s m args below meth c sa D cA A loc H locs cells slots lsA Qm hC hP hS hL hl hoL hoS hn hc hs hE
  have hmo1 := xCum_mono hn0
  have hmo2 := xCum_mono hn1
  have hoA : xokS M.1 as := xokS.all fun v hv => xokS.mem (xokS.left hoS) v (List.mem_reverse.mpr hv)
  have hoR := xokS.right hoS
  have hts := hC.2.2.2.2.1
  obtain ⟨c1, c2, c3, c4, c5⟩ := mc
  dsimp only at hret hnm
  subst hret
  have hMet := hT.met (Q := Q1) ⟨hoR.1, hoA⟩ hn0 l sa D cA loc H.size
  have cw := cwI (R := R9) (own := mr.2.1.cls) (index := idx) (ws := wY (c1, (c2, (c3, (c4, none))))) (rm := xRm d (n1 - M.1) (xCum n1 - xCum M.1)) na hts (xTbl_good (wY_good htg.2.1)) rfl rfl rfl (hts _ htg.2.2) (hts _ hlk) (hts _ hins) hnm htg.1 (xCtxRoom d R9 c4 hT.1.2.1 hC.2.2.2.2.2.1 _ _)
  have hr := va_runI (g := F0 m pc lsA ((as.reverse ++ vR t k j :: st).map (xrv loc sa))) (rest := st.map (xrv loc sa)) (As := as.map (xrv loc sa)) (b := loc (t, k, j)) (cells := cells) (slots := slots) (locs := locs) (below := below) (meth := meth) (e := e9) ⟨hC.1, hC.2.1, hC.2.2.1, hC.2.2.2.1, hts⟩ hMet cw
    ⟨xPc_blind, fun U hU hW => xPre (as := vR t k j :: as) hC.2.2.2.2.2.2.1 hC.2.2.2.2.2.2.2.1 hC.2.2.2.2.2.2.2.2.1 hP hS U hU hW⟩ rfl (by rw [List.length_map]; exact hna) hL.1 (by simp [List.map_append, List.map_reverse]; rfl) (lv_room (by rw [xcat_sum]; exact hcat)) hdg ⟨by omega, by omega⟩
  exact xAfter kk hn0 hn1 hr hC hP hS hL hl hoL hoR.2 hc hs hE
/-- a nest mate's private constructor -/
theorem w_callIN {t k j : Nat} {stk : List xV} (hT : Tri d n1 mc (vR t k j :: as) M Q1) (hret : mc.2.2.2.2 = none) (hnm : mc.2.1.name = "<init>") (htg : xTg mc na) (hlk : xLkN mr.2.1.cls idx mc) (hins : xIns mc) (hna : as.length = na) (hdg : decode mr.2.2.1 pc = .ok (.invokespecial idx, 3)) (hstk : stk = as.reverse ++ vR t k j :: st) (hcat : (st.map xcat).sum ≤ 8) (hn0 : M.1 ≤ n1) (hn1 : n1 ≤ nF)
    (kk : ∀ v M', Q1 v M' → M'.1 = n1 → Wp (d + 1) nF mr (pc + 3) ls (v.toList ++ st) M' Q) : Wp (d + 1) nF mr pc ls stk M Q := by
  subst hstk
  intro l p e9 R9 s m args below meth c sa D cA A loc H locs cells slots lsA Qm hC hP hS hL hl hoL hoS hn hc hs hE
  have hmo1 := xCum_mono hn0
  have hmo2 := xCum_mono hn1
  have hoA : xokS M.1 as := xokS.all fun v hv => xokS.mem (xokS.left hoS) v (List.mem_reverse.mpr hv)
  have hoR := xokS.right hoS
  have hts := hC.2.2.2.2.1
  obtain ⟨c1, c2, c3, c4, c5⟩ := mc
  dsimp only at hret hnm
  subst hret
  have hMet := hT.met (Q := Q1) ⟨hoR.1, hoA⟩ hn0 l sa D cA loc H.size
  have cw : va_CN R9 s args mr.2.1.cls idx c2 RX10 c3 c4 none (wY (c1, (c2, (c3, (c4, none))))) (xRm d (n1 - M.1) (xCum n1 - xCum M.1)) (n1 - M.1) (xCum n1 - xCum M.1) na := va_cnB na hts (xTbl_good (wY_good htg.2.1)) rfl rfl rfl (hC.2.2.2.2.2.2.1.2.1 _ hlk) (hts _ htg.2.2) htg.1 (xCtxRoom d R9 c4 hT.1.2.1 hC.2.2.2.2.2.1 _ _)
  have hr := va_runIN (g := F0 m pc lsA ((as.reverse ++ vR t k j :: st).map (xrv loc sa))) (rest := st.map (xrv loc sa)) (As := as.map (xrv loc sa)) (b := loc (t, k, j)) (cells := cells) (slots := slots) (locs := locs) (below := below) (meth := meth) (e := e9) ⟨hC.1, hC.2.1, hC.2.2.1, hC.2.2.2.1, hts⟩ hMet ⟨cw, hnm, hts _ hins⟩
    ⟨xPc_blind, fun U hU hW => xPre (as := vR t k j :: as) hC.2.2.2.2.2.2.1 hC.2.2.2.2.2.2.2.1 hC.2.2.2.2.2.2.2.2.1 hP hS U hU hW⟩ rfl (by rw [List.length_map]; exact hna) hL.1 (by simp [List.map_append, List.map_reverse]; rfl) (lv_room (by rw [xcat_sum]; exact hcat)) hdg ⟨by omega, by omega⟩
  exact xAfter kk hn0 hn1 hr hC hP hS hL hl hoL hoR.2 hc hs hE
end CALL
