/-! NEW OBJECTS, CALLS, and a method's contract out of its walk -/
def xDef : Nat → Value
  | 0 => .int 0
  | 1 => .long 0
  | _ => .null
def xNw (own : String) (idx ci : Nat) : Prop := ∃ (C : String) (T : u_T) (ty0 : Nat → FieldType), vwCl[ci]? = some (C, T, xN ci) ∧ (∀ w ∈ u_ws C T (xN ci), w ∈ xTbl) ∧ (∀ k, k < xN ci → parseFieldDescriptor (T k).2.2.1 = some (ty0 k)) ∧ (∀ k, k < xN ci → defaultValue (ty0 k) = xDef (xSl ci k)) ∧ Cond.classLink own idx C ∈ xTbl ∧ Cond.instantiable C (xN ci) ∈ xTbl ∧ Cond.initialized C ∈ xTbl
theorem xCum_succ {n : Nat} {i : xId} (h : xSeq[n]? = some i) : xCum (n + 1) = xCum n + xSize i := by
  unfold xCum
  rw [List.take_add_one, h, List.map_append, List.sum_append]
  simp
theorem xCum_mono {a b : Nat} (h : a ≤ b) : xCum a ≤ xCum b := by
  induction b with
  | zero => rw [Nat.le_zero.mp h]; exact Nat.le_refl _
  | succ b ih =>
    rcases Nat.lt_or_ge b a with q | q
    · rw [show a = b + 1 by omega]; exact Nat.le_refl _
    · refine Nat.le_trans (ih q) ?_
      cases hb : xSeq[b]? with
      | none =>
        have : xSeq.length ≤ b := List.getElem?_eq_none_iff.mp hb
        unfold xCum
        rw [List.take_of_length_le this, List.take_of_length_le (by omega)]
        exact Nat.le_refl _
      | some i => rw [xCum_succ hb]; exact Nat.le_add_right _ _
theorem xEnt_loc {cA : Nat → ClassId} {loc loc' : xId → Nat} {M : xM} {i : xId} (h : ∀ (s : Nat) (x : xId), M.2.1 i.1 i.2.1 i.2.2 s = some x → loc' x = loc x) : xEnt cA loc' M i = xEnt cA loc M i := by
  have e1 : ∀ s, (M.2.1 i.1 i.2.1 i.2.2 s).map loc' = (M.2.1 i.1 i.2.1 i.2.2 s).map loc := fun s => by
    cases hx : M.2.1 i.1 i.2.1 i.2.2 s with
    | none => rfl
    | some x => show some (loc' x) = some (loc x); rw [h s x hx]
  have e4 : ∀ ci, xFv loc' M i ci = xFv loc M i ci := fun ci => funext fun s => by unfold xFv; rw [e1]
  unfold xEnt xFs xAr
  simp only [e1, e4]
section ALLOC
variable {d nF : Nat} {mr : xMR} {pc : Nat} {ls : List (Option xV)} {st : List xV} {n : Nat} {R : xF4 (Option xId)} {I : xF4 Int32} {L : xF4 Int64} {Q : Option xV → xM → Prop} {t k j ci sl idx : Nat} {ty : FieldType} {fin : Bool}
/-- behind the making of a cell -/
theorem xAlloc (hsq : xSeq[n]? = some (t, k, j)) (h99 : t ≠ 99) (hnF : n + 1 ≤ nF) (hlen : n + 1 ≤ 109) (kk : Wp d nF mr pc ls (vR t k j :: st) (n + 1, (xz R t k j none, (xz I t k j 0, xz L t k j 0))) Q)
    {l : Launch} {p : Program} {e9 : Env} {R9 : Room} {s : State} {m : MethodId} {args : Array Value} {below : List Frame} {meth : Method} {c : Code} {sa : Nat → Nat} {D : va_G} {cA : Nat → ClassId} {A : Nat → Prop} {loc : xId → Nat} {H H1 : Heap} {locs : List Loc} {cells slots : Nat} {lsA : Array Slot} {Qm : State → Prop} {q : Nat} {ent : va_E}
    (hC : xCtx p R9 s m args meth c mr d sa D cA A (loc (99, 0, 0))) (hP : xRep D cA loc A (n, (R, (I, L))) H) (hL : lv_has lsA mr.2.2.2.1 (xLsF loc sa 0 ls)) (hl : ls.length = mr.2.2.2.1) (hoL : xokL n ls) (hoS : xokS n st) (hc : cells + (nF - n) ≤ R9.cells) (hs : slots + (xCum nF - xCum n) ≤ R9.slots)
    (hE : ∀ (v : Option xV) (M' : xM) (loc' : xId → Nat) (H' : Heap) (locs' : List Loc) (pc' : Nat) (lsA' : Array Slot), Q v M' → M'.1 = nF → (∀ i, xLive n i → loc' i = loc i) → xRep D cA loc' A M' H' → va_S A s.heap H' locs' → xokO nF v → xRet mr v pc' →
      W p l e9 R9 s m args below meth c H' locs' (cells + (nF - n)) (slots + (xCum nF - xCum n)) Qm (F0 m pc' lsA' (v.toList.map (xrv loc' sa))))
    (hent : ∀ loc', ent = xEnt cA loc' (n + 1, (xz R t k j none, (xz I t k j 0, xz L t k j 0))) (t, k, j))
    (hP1 : va_P D vwCl (xW cA loc (n, (R, (I, L))) ++ [(q, ent)]) H1) (hD1 : va_D A (xW cA loc (n, (R, (I, L))) ++ [(q, ent)])) (hS1 : va_S A s.heap H1 locs) :
    W p l e9 R9 s m args below meth c H1 locs (cells + 1) (slots + xSize (t, k, j)) Qm (F0 m pc lsA (.ref q :: st.map (xrv loc sa))) := by
  have hnl : ∀ i, xLive n i → i ≠ (t, k, j) := by
    rintro i (h | ⟨q9, h1, h2⟩) rfl
    · exact h99 h
    · exact absurd (xSeq_inj h2 hsq) (by omega)
  obtain ⟨loc', hloc'⟩ : ∃ f : xId → Nat, f = fun i => if i = (t, k, j) then q else loc i := ⟨_, rfl⟩
  have hq : loc' (t, k, j) = q := by rw [hloc']; exact if_pos rfl
  have hne : ∀ i, i ≠ (t, k, j) → loc' i = loc i := fun i h => by rw [hloc']; exact if_neg h
  have hag : ∀ i, xLive n i → loc' i = loc i := fun i h => hne i (hnl i h)
  have hW : xW cA loc' (n + 1, (xz R t k j none, (xz I t k j 0, xz L t k j 0))) = xW cA loc (n, (R, (I, L))) ++ [(q, ent)] := by
    rw [xW_push (loc := loc) (M := (n, (R, (I, L)))) hsq rfl hne, hq, ← hent loc']
    intro q9 i' h1 h2
    have h3 : i' ≠ (t, k, j) := hnl i' (Or.inr ⟨q9, h1, h2⟩)
    refine (xEnt_same (M := (n, (R, (I, L)))) (fun s => xz_id h3) (fun s => xz_id h3) (fun s => xz_id h3)).trans ?_
    exact xEnt_loc fun s x hx => hag x (hP.2.2.2 i' s x (Or.inr ⟨q9, h1, h2⟩) hx)
  have hlv : xLive (n + 1) (t, k, j) := Or.inr ⟨n, Nat.lt_succ_self n, hsq⟩
  have hsum := xCum_succ hsq
  have hmo := xCum_mono hnF
  have hsl : xCum nF - xCum n = xSize (t, k, j) + (xCum nF - xCum (n + 1)) := by omega
  have k2 := kk l p e9 R9 s m args below meth c sa D cA A loc' H1 locs (cells + 1) (slots + xSize (t, k, j)) lsA Qm (by rw [xScr_eq hag]; exact hC)
    ⟨by rw [hW]; exact hP1, by rw [hW]; exact hD1, hlen, fun i s x hi hx => by
      by_cases h3 : i = (t, k, j)
      · rw [h3] at hx
        have : xz R t k j none t k j s = some x := hx
        rw [xz_self] at this
        cases this
      · have hx2 : R i.1 i.2.1 i.2.2 s = some x := by rw [← xz_id (f := R) (v := none) h3]; exact hx
        have hi2 : xLive n i := hi.imp id fun ⟨q9, h1, h2⟩ => ⟨q9, by
          rcases Nat.lt_or_ge q9 n with h | h
          · exact h
          · have : q9 = n := by have : q9 < n + 1 := h1; omega
            subst this
            exact absurd (Option.some.inj (h2.symm.trans hsq)) h3, h2⟩
        exact (hP.2.2.2 i s x hi2 hx2).mono (Nat.le_succ n)⟩
    hS1 (by rw [xLsF_eq hag hoL]; exact hL) hl (hoL.mono (Nat.le_succ n)) ⟨hlv, hoS.mono (Nat.le_succ n)⟩ hnF (by show cells + 1 + (nF - (n + 1)) ≤ _; omega) (by show slots + xSize (t, k, j) + (xCum nF - xCum (n + 1)) ≤ _; omega)
    (fun v M' loc2 H' locs' pc' lsA' h1 h2 h3 h4 h5 h6 h7 => by
      have h8 := hE v M' loc2 H' locs' pc' lsA' h1 h2 (fun i hi => (h3 i (hi.mono (Nat.le_succ n))).trans (hag i hi)) h4 h5 h6 h7
      have e1 : cells + 1 + (nF - (n + 1)) = cells + (nF - n) := by omega
      have e2 : slots + xSize (t, k, j) + (xCum nF - xCum (n + 1)) = slots + (xCum nF - xCum n) := by omega
      show W p l e9 R9 s m args below meth c H' locs' (cells + 1 + (nF - (n + 1))) (slots + xSize (t, k, j) + (xCum nF - xCum (n + 1))) Qm _
      rw [e1, e2]
      exact h8)
  have e3 : (vR t k j :: st).map (xrv loc' sa) = .ref q :: st.map (xrv loc sa) := by
    rw [List.map_cons, xrv_eqS hag hoS]
    show Value.ref (loc' (t, k, j)) :: _ = _
    rw [hq]
  rw [e3] at k2
  exact k2
theorem w_new (hN : xNw mr.2.1.cls idx ci) (hsq : xSeq[n]? = some (t, k, j)) (hcl : xCls t = some ci) (hnF : n + 1 ≤ nF) (hlen : n + 1 ≤ 109) (hdg : decode mr.2.2.1 pc = .ok (.new idx, 3)) (kk : Wp d nF mr (pc + 3) ls (vR t k j :: st) (n + 1, (xz R t k j none, (xz I t k j 0, xz L t k j 0))) Q) : Wp d nF mr pc ls st (n, (R, (I, L))) Q := by
  intro l p e9 R9 s m args below meth c sa D cA A loc H locs cells slots lsA Qm hC hP hS hL hl hoL hoS hn hc hs hE
  obtain ⟨C, T, ty0, f1, f2, f3, f4, f5, f6, f7⟩ := hN
  have hc0 : cells + (nF - n) ≤ R9.cells := hc
  have hs0 : slots + (xCum nF - xCum n) ≤ R9.slots := hs
  have hsum := xCum_succ hsq
  have hmo := xCum_mono hnF
  have hsz : xSize (t, k, j) = xN ci := by unfold xSize; show (match xCls t with | some ci => _ | none => _) = _; rw [hcl]
  have hts := hC.2.2.2.2.1
  refine va_new (fs := (List.range (xN ci)).map fun s => xDef (xSl ci s)) hC.1 hC.2.1 hts f2 ty0 f3 hC.2.2.2.1 (hts _ f5) (hts _ f6) (hts _ f7) hC.2.2.2.2.2.2.1.1 hP.1 hP.2.1 hS hC.2.2.2.2.2.2.2.2.1 f1 (fun jj hj => by rw [f4 jj hj]; simp [vp_V, hj]) (by omega) (by omega) hdg fun q H1 hP1 hD1 hS1 => ?_
  rw [← hsz]
  refine xAlloc hsq (xCls_99 hcl) hnF hlen kk hC hP hL hl hoL hoS hc hs hE (fun loc' => ?_) hP1 hD1 hS1
  rw [xEnt_obj hcl]
  congr 2
  unfold xFs
  apply List.map_congr_left
  intro s hs9
  unfold xFv
  dsimp only
  rw [xz_self, xz_self, xz_self]
  rcases h : xSl ci s with _ | _ | w <;> rfl
theorem xRA_uniq {U : State} {a b : ClassId} {ty : FieldType} (h1 : va_RA U a ty) (h2 : va_RA U b ty) : a = b := by
  cases ty with
  | object C =>
    obtain ⟨_, _, -, -, -, q1⟩ := h1
    obtain ⟨_, _, -, -, -, q2⟩ := h2
    exact Option.some.inj (q1.symm.trans q2)
  | _ => exact Option.some.inj (Eq.trans (Eq.symm h1) h2)
theorem xSize_arr {t k j e len : Nat} (h : xArr t = some (e, len)) : xSize (t, k, j) = len := by
  unfold xSize
  show (match xCls t with | some ci => _ | none => match xArr t with | some q => q.2 | none => 0) = _
  rw [xCls_arr h, h]
theorem w_newa {e len : Nat} {v : Int32} {atype : ArrayType} (ha : xArr t = some (e, len)) (h3 : e < 3) (hty : newarray.typeOf atype = ty) (hxt : ∀ cA, (xTys cA)[e]? = some (cA e, ty)) (hdef : defaultValue ty = .int 0) (hw : Cond.arrayClass ty ∈ xTbl) (hv0 : ¬ v < 0) (hv : v.toNatClampNeg = len) (hby : len * componentBytes ty ≤ 536870912) (hsq : xSeq[n]? = some (t, k, j)) (hnF : n + 1 ≤ nF) (hlen : n + 1 ≤ 109) (hdg : decode mr.2.2.1 pc = .ok (.newarray atype, 2)) (kk : Wp d nF mr (pc + 2) ls (vR t k j :: st) (n + 1, (xz R t k j none, (xz I t k j 0, xz L t k j 0))) Q) : Wp d nF mr pc ls (vI v :: st) (n, (R, (I, L))) Q := by
  intro l p e9 R9 s m args below meth c sa D cA A loc H locs cells slots lsA Qm hC hP hS hL hl hoL hoS hn hc hs hE
  have hc0 : cells + (nF - n) ≤ R9.cells := hc
  have hs0 : slots + (xCum nF - xCum n) ≤ R9.slots := hs
  have hsum := xCum_succ hsq
  have hmo := xCum_mono hnF
  have hsz := xSize_arr (k := k) (j := j) ha
  have hts := hC.2.2.2.2.1
  have hK := hC.2.2.2.2.2.2.1.1
  refine va_newa (a0 := (len, .inl fun _ => 0)) hC.1 hC.2.1 (by rw [hty]; exact hts _ hw) hty hK hP.1 hP.2.1 hS hC.2.2.2.2.2.2.2.2.1 (fun cB => by rw [vp_cell_i, hdef]) hv0 hv hby (by omega) (by omega) hdg fun q cB H1 hK1 hP1 hD1 hS1 => ?_
  have e1 : cB = cA e := xRA_uniq (hK1.2 8 (cB, ty) rfl).2 (hK.2 e _ (hxt cA)).2
  subst e1
  rw [← hsz]
  refine xAlloc hsq (xArr_99 ha) hnF hlen kk hC hP hL hl hoL hoS.2 hc hs hE (fun loc' => ?_) hP1 hD1 hS1
  rw [xEnt_arr ha, xAr_i h3]
  congr 3
  refine congrArg Sum.inl (funext fun s => ?_)
  rw [xz_self]
theorem w_newq {e len : Nat} {v : Int32} {C : String} (ha : xArr t = some (e, len)) (h3 : ¬ e < 3) (hxt : ∀ cA, (xTys cA)[e]? = some (cA e, .object C)) (hao : C ∈ xAO) (hw : Cond.classLink mr.2.1.cls idx C ∈ xTbl) (hv0 : ¬ v < 0) (hv : v.toNatClampNeg = len) (hby : len * 4 ≤ 536870912) (hsq : xSeq[n]? = some (t, k, j)) (hnF : n + 1 ≤ nF) (hlen : n + 1 ≤ 109) (hdg : decode mr.2.2.1 pc = .ok (.anewarray idx, 3)) (kk : Wp d nF mr (pc + 3) ls (vR t k j :: st) (n + 1, (xz R t k j none, (xz I t k j 0, xz L t k j 0))) Q) : Wp d nF mr pc ls (vI v :: st) (n, (R, (I, L))) Q := by
  intro l p e9 R9 s m args below meth c sa D cA A loc H locs cells slots lsA Qm hC hP hS hL hl hoL hoS hn hc hs hE
  have hc0 : cells + (nF - n) ≤ R9.cells := hc
  have hs0 : slots + (xCum nF - xCum n) ≤ R9.slots := hs
  have hsum := xCum_succ hsq
  have hmo := xCum_mono hnF
  have hsz := xSize_arr (k := k) (j := j) ha
  have hts := hC.2.2.2.2.1
  have hK := hC.2.2.2.2.2.2.1.1
  refine va_newq hC.1 hC.2.1 hC.2.2.2.1 (hts _ hw) (hC.2.2.2.2.2.2.1.2.2 C hao) hK hP.1 hP.2.1 hS hC.2.2.2.2.2.2.2.2.1 hv0 hv hby (by omega) (by omega) hdg fun q cB H1 hK1 hP1 hD1 hS1 => ?_
  have e1 : cB = cA e := xRA_uniq (hK1.2 8 (cB, .object C) rfl).2 (hK.2 e _ (hxt cA)).2
  subst e1
  rw [← hsz]
  refine xAlloc hsq (xArr_99 ha) hnF hlen kk hC hP hL hl hoL hoS.2 hc hs hE (fun loc' => ?_) hP1 hD1 hS1
  rw [xEnt_arr ha, xAr_r h3]
  congr 6
  refine congrArg Sum.inr (funext fun s => ?_)
  rw [xz_self]
  rfl
/-- Object's constructor -/
theorem w_objInit {o : Option xId} (hl1 : Cond.methodLink mr.2.1.cls idx Lib.objectInit ∈ xTbl) (hl2 : Cond.instanceMethod Lib.objectInit ∈ xTbl) (hl3 : Cond.code Lib.objectInit ⟨#[0xb1]⟩ 1 none ∈ xTbl) (hd : 1 ≤ d) (hdg : decode mr.2.2.1 pc = .ok (.invokespecial idx, 3)) (hst : st = []) (kk : Wp d nF mr (pc + 3) ls st (n, (R, (I, L))) Q) : Wp d nF mr pc ls (vR t k j :: st) (n, (R, (I, L))) Q := by
  intro l p e9 R9 s m args below meth c sa D cA A loc H locs cells slots lsA Qm hC hP hS hL hl hoL hoS hn hc hs hE
  subst hst
  have hts := hC.2.2.2.2.1
  have hr := hC.2.2.2.2.2.1
  refine W.objInit hC.1 hC.2.1 hC.2.2.2.1 (hts _ hl1) (hts _ hl2) (hts _ hl3) (g := F0 m pc lsA ((vR t k j :: ([] : List xV)).map (xrv loc sa))) rfl (hL.1.trans hC.2.2.1.symm) rfl hdg (by omega) (by show 2 * 0 + 0 + 12 ≤ _; omega) ?_
  exact kk l p e9 R9 s m args below meth c sa D cA A loc H locs cells slots lsA Qm hC hP hS hL hl hoL hoS.2 hn hc hs hE
end ALLOC
