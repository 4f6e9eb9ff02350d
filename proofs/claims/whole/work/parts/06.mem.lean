/-! fields, arrays, new objects -/
def xFF0 (C : String) (T : u_T) (ty0 : Nat → FieldType) (own : String) (idx ci sl : Nat) (ty : FieldType) (fin : Bool) : Prop :=
  vwCl[ci]? = some (C, T, xN ci) ∧ (∀ w ∈ u_ws C T (xN ci), w ∈ xTbl) ∧ (∀ k, k < xN ci → parseFieldDescriptor (T k).2.2.1 = some (ty0 k)) ∧ (∀ a, a < xN ci → ∀ b, b < xN ci → a ≠ b → (T a).2.1 ≠ (T b).2.1) ∧ sl < xN ci ∧ (T sl).2.2.2 = fin ∧ parseFieldDescriptor (T sl).2.2.1 = some ty ∧ Cond.fieldLink own idx (T sl).1 (T sl).2.1 (T sl).2.2.1 ∈ xTbl
def xFF (own : String) (idx ci sl : Nat) (ty : FieldType) (fin : Bool) : Prop := ∃ (C : String) (T : u_T) (ty0 : Nat → FieldType), xFF0 C T ty0 own idx ci sl ty fin
def xFP (own : String) (idx ci sl : Nat) (ty : FieldType) : Prop := ∃ (C : String) (T : u_T) (ty0 : Nat → FieldType), xFF0 C T ty0 own idx ci sl ty true ∧ (T sl).1 = own
section MEM
variable {d nF : Nat} {mr : xMR} {pc : Nat} {ls : List (Option xV)} {st : List xV} {n : Nat} {R : xF4 (Option xId)} {I : xF4 Int32} {L : xF4 Int64} {Q : Option xV → xM → Prop} {t k j ci sl idx : Nat} {ty : FieldType} {fin : Bool}
theorem xFv_0 {loc : xId → Nat} (hs : xSl ci sl = 0) : xFv loc (n, (R, (I, L))) (t, k, j) ci sl = .int (I t k j sl) := by unfold xFv; rw [hs]; rfl
theorem xFv_1 {loc : xId → Nat} (hs : xSl ci sl = 1) : xFv loc (n, (R, (I, L))) (t, k, j) ci sl = .long (L t k j sl) := by unfold xFv; rw [hs]; rfl
theorem xFv_2 {loc : xId → Nat} (hs : xSl ci sl = 2) : xFv loc (n, (R, (I, L))) (t, k, j) ci sl = va_rf ((R t k j sl).map loc) := by unfold xFv; rw [hs]; rfl
theorem w_getI (hf : xFF mr.2.1.cls idx ci sl ty fin) (hcl : xCls t = some ci) (hsl : xSl ci sl = 0) (hdg : decode mr.2.2.1 pc = .ok (.getfield idx, 3)) (kk : Wp d nF mr (pc + 3) ls (vI (I t k j sl) :: st) (n, (R, (I, L))) Q) : Wp d nF mr pc ls (vR t k j :: st) (n, (R, (I, L))) Q := by
  intro l p e9 R9 s m args below meth c sa D cA A loc H locs cells slots lsA Qm hC hP hS hL hl hoL hoS hn hc hs hE
  obtain ⟨C, T, ty0, f1, f2, f3, f4, f5, f6, f7, f8⟩ := hf
  obtain ⟨q, hq, hsq⟩ := xRep.pos (D := D) (cA := cA) (loc := loc) (A := A) (M := (n, (R, (I, L)))) (H := H) hoS.1 (xCls_99 hcl)
  have he := xW_get (cA := cA) (loc := loc) (M := (n, (R, (I, L)))) hq hsq
  rw [xEnt_obj hcl] at he
  exact va_get (C := C) (T := T) (N := xN ci) (ref := (T sl).1) hC.1 hC.2.1 (hC.2.2.2.2.1) f2 hC.2.2.2.1 hC.2.2.2.2.2.2.1.1 hP.1 q he f1 sl f5 ((hC.2.2.2.2.1) _ f8) (fun _ h => h) (v := .int (I t k j sl)) (by rw [xFs_get f5, xFv_0 hsl]) hdg (kk l p e9 R9 s m args below meth c sa D cA A loc H locs cells slots lsA Qm hC hP hS hL hl hoL (⟨trivial, hoS.2⟩) hn hc hs hE)
theorem w_getL (hf : xFF mr.2.1.cls idx ci sl ty fin) (hcl : xCls t = some ci) (hsl : xSl ci sl = 1) (hdg : decode mr.2.2.1 pc = .ok (.getfield idx, 3)) (kk : Wp d nF mr (pc + 3) ls (vL (L t k j sl) :: st) (n, (R, (I, L))) Q) : Wp d nF mr pc ls (vR t k j :: st) (n, (R, (I, L))) Q := by
  intro l p e9 R9 s m args below meth c sa D cA A loc H locs cells slots lsA Qm hC hP hS hL hl hoL hoS hn hc hs hE
  obtain ⟨C, T, ty0, f1, f2, f3, f4, f5, f6, f7, f8⟩ := hf
  obtain ⟨q, hq, hsq⟩ := xRep.pos (D := D) (cA := cA) (loc := loc) (A := A) (M := (n, (R, (I, L)))) (H := H) hoS.1 (xCls_99 hcl)
  have he := xW_get (cA := cA) (loc := loc) (M := (n, (R, (I, L)))) hq hsq
  rw [xEnt_obj hcl] at he
  exact va_get (C := C) (T := T) (N := xN ci) (ref := (T sl).1) hC.1 hC.2.1 (hC.2.2.2.2.1) f2 hC.2.2.2.1 hC.2.2.2.2.2.2.1.1 hP.1 q he f1 sl f5 ((hC.2.2.2.2.1) _ f8) (fun _ h => h) (v := .long (L t k j sl)) (by rw [xFs_get f5, xFv_1 hsl]) hdg (kk l p e9 R9 s m args below meth c sa D cA A loc H locs cells slots lsA Qm hC hP hS hL hl hoL (⟨trivial, hoS.2⟩) hn hc hs hE)
theorem xrv_O {loc : xId → Nat} {sa : Nat → Nat} (o : Option xId) : va_rf (o.map loc) = xrv loc sa (vO o) := by cases o <;> rfl
theorem w_getR {w : Option xId} (hf : xFF mr.2.1.cls idx ci sl ty fin) (hcl : xCls t = some ci) (hsl : xSl ci sl = 2) (hdg : decode mr.2.2.1 pc = .ok (.getfield idx, 3)) (hR : R t k j sl = w) (kk : Wp d nF mr (pc + 3) ls (vO w :: st) (n, (R, (I, L))) Q) : Wp d nF mr pc ls (vR t k j :: st) (n, (R, (I, L))) Q := by
  intro l p e9 R9 s m args below meth c sa D cA A loc H locs cells slots lsA Qm hC hP hS hL hl hoL hoS hn hc hs hE
  obtain ⟨C, T, ty0, f1, f2, f3, f4, f5, f6, f7, f8⟩ := hf
  obtain ⟨q, hq, hsq⟩ := xRep.pos (D := D) (cA := cA) (loc := loc) (A := A) (M := (n, (R, (I, L)))) (H := H) hoS.1 (xCls_99 hcl)
  have he := xW_get (cA := cA) (loc := loc) (M := (n, (R, (I, L)))) hq hsq
  rw [xEnt_obj hcl] at he
  have hw : xok n (vO w) := by
    cases w with
    | none => trivial
    | some x => exact hP.2.2.2 (t, k, j) sl x hoS.1 hR
  have kk2 := kk l p e9 R9 s m args below meth c sa D cA A loc H locs cells slots lsA Qm hC hP hS hL hl hoL (⟨hw, hoS.2⟩) hn hc hs hE
  rw [List.map_cons, ← xrv_O w] at kk2
  exact va_get (C := C) (T := T) (N := xN ci) (ref := (T sl).1) hC.1 hC.2.1 (hC.2.2.2.2.1) f2 hC.2.2.2.1 hC.2.2.2.2.2.2.1.1 hP.1 q he f1 sl f5 ((hC.2.2.2.2.1) _ f8) (fun _ h => h) (v := va_rf (w.map loc)) (by rw [xFs_get f5, xFv_2 hsl, hR]) hdg kk2
theorem w_putI {v : Int32} (hf : xFF mr.2.1.cls idx ci sl ty false) (hcl : xCls t = some ci) (hsl : xSl ci sl = 0) (hnr : narrow ty (.int v) = .int v) (hft : fits ty (.int v) = true) (hdg : decode mr.2.2.1 pc = .ok (.putfield idx, 3)) (kk : Wp d nF mr (pc + 3) ls st (n, (R, (xup I t k j sl v, L))) Q) : Wp d nF mr pc ls (vI v :: vR t k j :: st) (n, (R, (I, L))) Q := by
  intro l p e9 R9 s m args below meth c sa D cA A loc H locs cells slots lsA Qm hC hP hS hL hl hoL hoS hn hc hs hE
  obtain ⟨C, T, ty0, f1, f2, f3, f4, f5, f6, f7, f8⟩ := hf
  obtain ⟨q, hq, hsq⟩ := xRep.pos (D := D) (cA := cA) (loc := loc) (A := A) (M := (n, (R, (I, L)))) (H := H) hoS.2.1 (xCls_99 hcl)
  have he := xW_get (cA := cA) (loc := loc) (M := (n, (R, (I, L)))) hq hsq
  rw [xEnt_obj hcl] at he
  have hset : (xW cA loc (n, (R, (I, L)))).set q (loc (t, k, j), .inr (ci, (xFs loc (n, (R, (I, L))) (t, k, j) ci).set sl (.int v))) = xW cA loc (n, (R, (xup I t k j sl v, L))) := by
    refine xW_set hsq rfl ?_ fun i' _ hne => xEnt_same (fun s => rfl) (fun s => xup_id hne) (fun s => rfl)
    rw [xEnt_obj hcl, xFs_set (M' := (n, (R, (xup I t k j sl v, L)))) (s := sl)]
    · rw [xFv_0 hsl, xup_self]
    · intro s' hs'
      unfold xFv
      dsimp only
      rw [xup_slot hs']
  refine va_put (C := C) (T := T) (N := xN ci) (ref := (T sl).1) (v := .int v) hC.1 hC.2.1 (hC.2.2.2.2.1) f2 ty0 f3 f4 hC.2.2.2.1 hC.2.2.2.2.2.2.1.1 hP.1 hP.2.1 hS q he f1 sl f5 ((hC.2.2.2.2.1) _ f8) (fun _ h => h) f6 f7 hnr hft (by rw [xFs_len]; exact f5) hdg fun H1 locs1 hP1 hD1 hS1 => ?_
  rw [hset] at hP1 hD1
  exact kk l p e9 R9 s m args below meth c sa D cA A loc H1 locs1 cells slots lsA Qm hC ⟨hP1, hD1, hP.2.2.1, hP.2.2.2⟩ hS1 hL hl hoL (hoS.2.2) hn hc hs hE
theorem w_putL {v : Int64} (hf : xFF mr.2.1.cls idx ci sl ty false) (hcl : xCls t = some ci) (hsl : xSl ci sl = 1) (hnr : narrow ty (.long v) = .long v) (hft : fits ty (.long v) = true) (hdg : decode mr.2.2.1 pc = .ok (.putfield idx, 3)) (kk : Wp d nF mr (pc + 3) ls st (n, (R, (I, xup L t k j sl v))) Q) : Wp d nF mr pc ls (vL v :: vR t k j :: st) (n, (R, (I, L))) Q := by
  intro l p e9 R9 s m args below meth c sa D cA A loc H locs cells slots lsA Qm hC hP hS hL hl hoL hoS hn hc hs hE
  obtain ⟨C, T, ty0, f1, f2, f3, f4, f5, f6, f7, f8⟩ := hf
  obtain ⟨q, hq, hsq⟩ := xRep.pos (D := D) (cA := cA) (loc := loc) (A := A) (M := (n, (R, (I, L)))) (H := H) hoS.2.1 (xCls_99 hcl)
  have he := xW_get (cA := cA) (loc := loc) (M := (n, (R, (I, L)))) hq hsq
  rw [xEnt_obj hcl] at he
  have hset : (xW cA loc (n, (R, (I, L)))).set q (loc (t, k, j), .inr (ci, (xFs loc (n, (R, (I, L))) (t, k, j) ci).set sl (.long v))) = xW cA loc (n, (R, (I, xup L t k j sl v))) := by
    refine xW_set hsq rfl ?_ fun i' _ hne => xEnt_same (fun s => rfl) (fun s => rfl) (fun s => xup_id hne)
    rw [xEnt_obj hcl, xFs_set (M' := (n, (R, (I, xup L t k j sl v)))) (s := sl)]
    · rw [xFv_1 hsl, xup_self]
    · intro s' hs'
      unfold xFv
      dsimp only
      rw [xup_slot hs']
  refine va_put (C := C) (T := T) (N := xN ci) (ref := (T sl).1) (v := .long v) hC.1 hC.2.1 (hC.2.2.2.2.1) f2 ty0 f3 f4 hC.2.2.2.1 hC.2.2.2.2.2.2.1.1 hP.1 hP.2.1 hS q he f1 sl f5 ((hC.2.2.2.2.1) _ f8) (fun _ h => h) f6 f7 hnr hft (by rw [xFs_len]; exact f5) hdg fun H1 locs1 hP1 hD1 hS1 => ?_
  rw [hset] at hP1 hD1
  exact kk l p e9 R9 s m args below meth c sa D cA A loc H1 locs1 cells slots lsA Qm hC ⟨hP1, hD1, hP.2.2.1, hP.2.2.2⟩ hS1 hL hl hoL (hoS.2.2) hn hc hs hE
theorem w_putR {w : xId} (hf : xFP mr.2.1.cls idx ci sl ty) (hcl : xCls t = some ci) (hsl : xSl ci sl = 2) (hini : mr.2.1.name = "<init>") (hnr : ∀ a, narrow ty (.ref a) = .ref a) (hft : ∀ a, fits ty (.ref a) = true) (hdg : decode mr.2.2.1 pc = .ok (.putfield idx, 3)) (kk : Wp d nF mr (pc + 3) ls st (n, (xup R t k j sl (some w), (I, L))) Q) : Wp d nF mr pc ls (vO (some w) :: vR t k j :: st) (n, (R, (I, L))) Q := by
  intro l p e9 R9 s m args below meth c sa D cA A loc H locs cells slots lsA Qm hC hP hS hL hl hoL hoS hn hc hs hE
  obtain ⟨C, T, ty0, ⟨f1, f2, f3, f4, f5, f6, f7, f8⟩, f9⟩ := hf
  obtain ⟨q, hq, hsq⟩ := xRep.pos (D := D) (cA := cA) (loc := loc) (A := A) (M := (n, (R, (I, L)))) (H := H) hoS.2.1 (xCls_99 hcl)
  have he := xW_get (cA := cA) (loc := loc) (M := (n, (R, (I, L)))) hq hsq
  rw [xEnt_obj hcl] at he
  have hset : (xW cA loc (n, (R, (I, L)))).set q (loc (t, k, j), .inr (ci, (xFs loc (n, (R, (I, L))) (t, k, j) ci).set sl (.ref (loc w)))) = xW cA loc (n, (xup R t k j sl (some w), (I, L))) := by
    refine xW_set hsq rfl ?_ fun i' _ hne => xEnt_same (fun s => xup_id hne) (fun s => rfl) (fun s => rfl)
    rw [xEnt_obj hcl, xFs_set (M' := (n, (xup R t k j sl (some w), (I, L)))) (s := sl)]
    · rw [xFv_2 hsl, xup_self]
      rfl
    · intro s' hs'
      unfold xFv
      dsimp only
      rw [xup_slot hs']
  have hcl2 : ∀ (i : xId) (s : Nat) (x : xId), xLive n i → xup R t k j sl (some w) i.1 i.2.1 i.2.2 s = some x → xLive n x := by
    intro i s x hi hx
    unfold xup at hx
    split at hx
    · cases hx; exact hoS.1
    · exact hP.2.2.2 i s x hi hx
  have hin2 : meth.name = "<init>" := hC.2.2.2.2.2.2.2.2.2.1 hini
  refine va_putF (C := C) (T := T) (N := xN ci) (ref := (T sl).1) (v := .ref (loc w)) hC.1 hC.2.1 (hC.2.2.2.2.1) f2 ty0 f3 f4 hC.2.2.2.1 hC.2.2.2.2.2.2.1.1 hP.1 hP.2.1 hS q he f1 sl f5 ((hC.2.2.2.2.1) _ f8) (fun _ h => h) f6 hin2 f9 f7 (hnr _) (hft _) (by rw [xFs_len]; exact f5) hdg fun H1 locs1 hP1 hD1 hS1 => ?_
  rw [hset] at hP1 hD1
  exact kk l p e9 R9 s m args below meth c sa D cA A loc H1 locs1 cells slots lsA Qm hC ⟨hP1, hD1, hP.2.2.1, hcl2⟩ hS1 hL hl hoL (hoS.2.2) hn hc hs hE
theorem xAr_i {loc : xId → Nat} {e len : Nat} (he : e < 3) : xAr loc (n, (R, (I, L))) (t, k, j) e len = (len, .inl (I t k j)) := by unfold xAr; rw [if_pos he]
theorem xAr_r {loc : xId → Nat} {e len : Nat} (he : ¬ e < 3) : xAr loc (n, (R, (I, L))) (t, k, j) e len = (len, .inr (.inr (.inr (.inr (fun s => (R t k j s).map loc))))) := by unfold xAr; rw [if_neg he]
theorem w_iaload {len a : Nat} {i : Int32} (ha : xArr t = some (0, len)) (hin : vp_in i len) (hi : i.toNatClampNeg = a) (hdg : decode mr.2.2.1 pc = .ok (.iaload, 1)) (kk : Wp d nF mr (pc + 1) ls (vI (I t k j a) :: st) (n, (R, (I, L))) Q) : Wp d nF mr pc ls (vI i :: vR t k j :: st) (n, (R, (I, L))) Q := by
  subst hi
  intro l p e9 R9 s m args below meth c sa D cA A loc H locs cells slots lsA Qm hC hP hS hL hl hoL hoS hn hc hs hE
  obtain ⟨q, hq, hsq⟩ := xRep.pos (D := D) (cA := cA) (loc := loc) (A := A) (M := (n, (R, (I, L)))) (H := H) hoS.2.1 (xArr_99 ha)
  have he := xW_get (cA := cA) (loc := loc) (M := (n, (R, (I, L)))) hq hsq
  rw [xEnt_arr ha] at he
  rw [xAr_i (by decide)] at he
  exact va_iald hC.1 hC.2.1 hC.2.2.2.2.2.2.1.1 hP.1 q 0 he rfl hin hdg (kk l p e9 R9 s m args below meth c sa D cA A loc H locs cells slots lsA Qm hC hP hS hL hl hoL (⟨trivial, hoS.2.2⟩) hn hc hs hE)
theorem w_baload {len a : Nat} {i : Int32} (ha : xArr t = some (1, len)) (hin : vp_in i len) (hi : i.toNatClampNeg = a) (hdg : decode mr.2.2.1 pc = .ok (.baload, 1)) (kk : Wp d nF mr (pc + 1) ls (vI (I t k j a) :: st) (n, (R, (I, L))) Q) : Wp d nF mr pc ls (vI i :: vR t k j :: st) (n, (R, (I, L))) Q := by
  subst hi
  intro l p e9 R9 s m args below meth c sa D cA A loc H locs cells slots lsA Qm hC hP hS hL hl hoL hoS hn hc hs hE
  obtain ⟨q, hq, hsq⟩ := xRep.pos (D := D) (cA := cA) (loc := loc) (A := A) (M := (n, (R, (I, L)))) (H := H) hoS.2.1 (xArr_99 ha)
  have he := xW_get (cA := cA) (loc := loc) (M := (n, (R, (I, L)))) hq hsq
  rw [xEnt_arr ha] at he
  rw [xAr_i (by decide)] at he
  exact va_bald hC.1 hC.2.1 hC.2.2.2.2.2.2.1.1 hP.1 q 1 he rfl hin hdg (kk l p e9 R9 s m args below meth c sa D cA A loc H locs cells slots lsA Qm hC hP hS hL hl hoL (⟨trivial, hoS.2.2⟩) hn hc hs hE)
theorem w_zaload {len a : Nat} {i : Int32} (ha : xArr t = some (2, len)) (hin : vp_in i len) (hi : i.toNatClampNeg = a) (hdg : decode mr.2.2.1 pc = .ok (.baload, 1)) (kk : Wp d nF mr (pc + 1) ls (vI (I t k j a) :: st) (n, (R, (I, L))) Q) : Wp d nF mr pc ls (vI i :: vR t k j :: st) (n, (R, (I, L))) Q := by
  subst hi
  intro l p e9 R9 s m args below meth c sa D cA A loc H locs cells slots lsA Qm hC hP hS hL hl hoL hoS hn hc hs hE
  obtain ⟨q, hq, hsq⟩ := xRep.pos (D := D) (cA := cA) (loc := loc) (A := A) (M := (n, (R, (I, L)))) (H := H) hoS.2.1 (xArr_99 ha)
  have he := xW_get (cA := cA) (loc := loc) (M := (n, (R, (I, L)))) hq hsq
  rw [xEnt_arr ha] at he
  rw [xAr_i (by decide)] at he
  exact va_zald hC.1 hC.2.1 hC.2.2.2.2.2.2.1.1 hP.1 q 2 he rfl hin hdg (kk l p e9 R9 s m args below meth c sa D cA A loc H locs cells slots lsA Qm hC hP hS hL hl hoL (⟨trivial, hoS.2.2⟩) hn hc hs hE)
theorem w_iastore {len a : Nat} {i x : Int32} (ha : xArr t = some (0, len)) (hin : vp_in i len) (hi : i.toNatClampNeg = a) (hdg : decode mr.2.2.1 pc = .ok (.iastore, 1)) (kk : Wp d nF mr (pc + 1) ls st (n, (R, (xup I t k j a x, L))) Q) : Wp d nF mr pc ls (vI x :: vI i :: vR t k j :: st) (n, (R, (I, L))) Q := by
  subst hi
  intro l p e9 R9 s m args below meth c sa D cA A loc H locs cells slots lsA Qm hC hP hS hL hl hoL hoS hn hc hs hE
  obtain ⟨q, hq, hsq⟩ := xRep.pos (D := D) (cA := cA) (loc := loc) (A := A) (M := (n, (R, (I, L)))) (H := H) hoS.2.2.1 (xArr_99 ha)
  have he := xW_get (cA := cA) (loc := loc) (M := (n, (R, (I, L)))) hq hsq
  rw [xEnt_arr ha] at he
  rw [xAr_i (by decide)] at he
  have hset : (xW cA loc (n, (R, (I, L)))).set q (loc (t, k, j), .inl (cA 0, (len, .inl (upd (I t k j) i.toNatClampNeg x)))) = xW cA loc (n, (R, (xup I t k j i.toNatClampNeg x, L))) := by
    refine xW_set hsq rfl ?_ fun i' _ hne => xEnt_same (fun s => rfl) (fun s => xup_id hne) (fun s => rfl)
    rw [xEnt_arr ha, xAr_i (by decide)]
    have e1 : upd (I t k j) i.toNatClampNeg x = xup I t k j i.toNatClampNeg x t k j := by
      funext s
      by_cases h : s = i.toNatClampNeg
      · subst h; rw [xup_self]; simp [upd]
      · rw [xup_slot h]; simp [upd, h]
    rw [e1]
  refine va_iast hC.1 hC.2.1 hC.2.2.2.2.2.2.1.1 hP.1 hP.2.1 hS q 0 he rfl hin hdg fun H1 locs1 hP1 hD1 hS1 => ?_
  rw [hset] at hP1 hD1
  exact kk l p e9 R9 s m args below meth c sa D cA A loc H1 locs1 cells slots lsA Qm hC ⟨hP1, hD1, hP.2.2.1, hP.2.2.2⟩ hS1 hL hl hoL (hoS.2.2.2) hn hc hs hE
theorem w_bastore {len a : Nat} {i x : Int32} (ha : xArr t = some (1, len)) (hin : vp_in i len) (hi : i.toNatClampNeg = a) (hdg : decode mr.2.2.1 pc = .ok (.bastore, 1)) (kk : Wp d nF mr (pc + 1) ls st (n, (R, (xup I t k j a (vp_nar .byte x), L))) Q) : Wp d nF mr pc ls (vI x :: vI i :: vR t k j :: st) (n, (R, (I, L))) Q := by
  subst hi
  intro l p e9 R9 s m args below meth c sa D cA A loc H locs cells slots lsA Qm hC hP hS hL hl hoL hoS hn hc hs hE
  obtain ⟨q, hq, hsq⟩ := xRep.pos (D := D) (cA := cA) (loc := loc) (A := A) (M := (n, (R, (I, L)))) (H := H) hoS.2.2.1 (xArr_99 ha)
  have he := xW_get (cA := cA) (loc := loc) (M := (n, (R, (I, L)))) hq hsq
  rw [xEnt_arr ha] at he
  rw [xAr_i (by decide)] at he
  have hset : (xW cA loc (n, (R, (I, L)))).set q (loc (t, k, j), .inl (cA 1, (len, .inl (upd (I t k j) i.toNatClampNeg (vp_nar .byte x))))) = xW cA loc (n, (R, (xup I t k j i.toNatClampNeg (vp_nar .byte x), L))) := by
    refine xW_set hsq rfl ?_ fun i' _ hne => xEnt_same (fun s => rfl) (fun s => xup_id hne) (fun s => rfl)
    rw [xEnt_arr ha, xAr_i (by decide)]
    have e1 : upd (I t k j) i.toNatClampNeg (vp_nar .byte x) = xup I t k j i.toNatClampNeg (vp_nar .byte x) t k j := by
      funext s
      by_cases h : s = i.toNatClampNeg
      · subst h; rw [xup_self]; simp [upd]
      · rw [xup_slot h]; simp [upd, h]
    rw [e1]
  refine va_bast hC.1 hC.2.1 hC.2.2.2.2.2.2.1.1 hP.1 hP.2.1 hS q 1 he rfl hin hdg fun H1 locs1 hP1 hD1 hS1 => ?_
  rw [hset] at hP1 hD1
  exact kk l p e9 R9 s m args below meth c sa D cA A loc H1 locs1 cells slots lsA Qm hC ⟨hP1, hD1, hP.2.2.1, hP.2.2.2⟩ hS1 hL hl hoL (hoS.2.2.2) hn hc hs hE
theorem w_zastore {len a : Nat} {i x : Int32} (ha : xArr t = some (2, len)) (hin : vp_in i len) (hi : i.toNatClampNeg = a) (hdg : decode mr.2.2.1 pc = .ok (.bastore, 1)) (kk : Wp d nF mr (pc + 1) ls st (n, (R, (xup I t k j a (vp_nar .boolean x), L))) Q) : Wp d nF mr pc ls (vI x :: vI i :: vR t k j :: st) (n, (R, (I, L))) Q := by
  subst hi
  intro l p e9 R9 s m args below meth c sa D cA A loc H locs cells slots lsA Qm hC hP hS hL hl hoL hoS hn hc hs hE
  obtain ⟨q, hq, hsq⟩ := xRep.pos (D := D) (cA := cA) (loc := loc) (A := A) (M := (n, (R, (I, L)))) (H := H) hoS.2.2.1 (xArr_99 ha)
  have he := xW_get (cA := cA) (loc := loc) (M := (n, (R, (I, L)))) hq hsq
  rw [xEnt_arr ha] at he
  rw [xAr_i (by decide)] at he
  have hset : (xW cA loc (n, (R, (I, L)))).set q (loc (t, k, j), .inl (cA 2, (len, .inl (upd (I t k j) i.toNatClampNeg (vp_nar .boolean x))))) = xW cA loc (n, (R, (xup I t k j i.toNatClampNeg (vp_nar .boolean x), L))) := by
    refine xW_set hsq rfl ?_ fun i' _ hne => xEnt_same (fun s => rfl) (fun s => xup_id hne) (fun s => rfl)
    rw [xEnt_arr ha, xAr_i (by decide)]
    have e1 : upd (I t k j) i.toNatClampNeg (vp_nar .boolean x) = xup I t k j i.toNatClampNeg (vp_nar .boolean x) t k j := by
      funext s
      by_cases h : s = i.toNatClampNeg
      · subst h; rw [xup_self]; simp [upd]
      · rw [xup_slot h]; simp [upd, h]
    rw [e1]
  refine va_zast hC.1 hC.2.1 hC.2.2.2.2.2.2.1.1 hP.1 hP.2.1 hS q 2 he rfl hin hdg fun H1 locs1 hP1 hD1 hS1 => ?_
  rw [hset] at hP1 hD1
  exact kk l p e9 R9 s m args below meth c sa D cA A loc H1 locs1 cells slots lsA Qm hC ⟨hP1, hD1, hP.2.2.1, hP.2.2.2⟩ hS1 hL hl hoL (hoS.2.2.2) hn hc hs hE
theorem w_aaload {e len a : Nat} {i : Int32} {w : Option xId} {C : String} (ha : xArr t = some (e, len)) (h3 : ¬ e < 3) (hty : ∀ cA, (xTys cA)[e]? = some (cA e, .object C)) (hin : vp_in i len) (hi : i.toNatClampNeg = a) (hR : R t k j a = w) (hdg : decode mr.2.2.1 pc = .ok (.aaload, 1)) (kk : Wp d nF mr (pc + 1) ls (vO w :: st) (n, (R, (I, L))) Q) : Wp d nF mr pc ls (vI i :: vR t k j :: st) (n, (R, (I, L))) Q := by
  subst hi
  intro l p e9 R9 s m args below meth c sa D cA A loc H locs cells slots lsA Qm hC hP hS hL hl hoL hoS hn hc hs hE
  obtain ⟨q, hq, hsq⟩ := xRep.pos (D := D) (cA := cA) (loc := loc) (A := A) (M := (n, (R, (I, L)))) (H := H) hoS.2.1 (xArr_99 ha)
  have he := xW_get (cA := cA) (loc := loc) (M := (n, (R, (I, L)))) hq hsq
  rw [xEnt_arr ha] at he
  rw [xAr_r h3] at he
  have hw : xok n (vO w) := by
    cases w with
    | none => trivial
    | some x => exact hP.2.2.2 (t, k, j) _ x hoS.2.1 hR
  have kk2 := kk l p e9 R9 s m args below meth c sa D cA A loc H locs cells slots lsA Qm hC hP hS hL hl hoL (⟨hw, hoS.2.2⟩) hn hc hs hE
  rw [List.map_cons, ← xrv_O w, ← hR] at kk2
  exact va_aldq hC.1 hC.2.1 hC.2.2.2.2.2.2.1.1 hP.1 q e he (hty cA) hin hdg kk2
theorem w_aastore {e len a t2 k2 j2 cv : Nat} {i : Int32} {C : vw_C} (ha : xArr t = some (e, len)) (h3 : ¬ e < 3) (hty : ∀ cA, (xTys cA)[e]? = some (cA e, .object C.1)) (hv : xCls t2 = some cv) (hcv : vwCl[cv]? = some C) (hin : vp_in i len) (hi : i.toNatClampNeg = a) (hdg : decode mr.2.2.1 pc = .ok (.aastore, 1)) (kk : Wp d nF mr (pc + 1) ls st (n, (xup R t k j a (some (t2, k2, j2)), (I, L))) Q) : Wp d nF mr pc ls (vR t2 k2 j2 :: vI i :: vR t k j :: st) (n, (R, (I, L))) Q := by
  subst hi
  intro l p e9 R9 s m args below meth c sa D cA A loc H locs cells slots lsA Qm hC hP hS hL hl hoL hoS hn hc hs hE
  obtain ⟨q, hq, hsq⟩ := xRep.pos (D := D) (cA := cA) (loc := loc) (A := A) (M := (n, (R, (I, L)))) (H := H) hoS.2.2.1 (xArr_99 ha)
  have he := xW_get (cA := cA) (loc := loc) (M := (n, (R, (I, L)))) hq hsq
  rw [xEnt_arr ha] at he
  rw [xAr_r h3] at he
  obtain ⟨q2, hq2, hsq2⟩ := xRep.pos (D := D) (cA := cA) (loc := loc) (A := A) (M := (n, (R, (I, L)))) (H := H) hoS.1 (xCls_99 hv)
  have he2 := xW_get (cA := cA) (loc := loc) (M := (n, (R, (I, L)))) hq2 hsq2
  rw [xEnt_obj hv] at he2
  have hset : (xW cA loc (n, (R, (I, L)))).set q (loc (t, k, j), .inl (cA e, (len, .inr (.inr (.inr (.inr (va_up (fun s => (R t k j s).map loc) i.toNatClampNeg (some (loc (t2, k2, j2)))))))))) = xW cA loc (n, (xup R t k j i.toNatClampNeg (some (t2, k2, j2)), (I, L))) := by
    refine xW_set hsq rfl ?_ fun i' _ hne => xEnt_same (fun s => xup_id hne) (fun s => rfl) (fun s => rfl)
    rw [xEnt_arr ha, xAr_r h3]
    have e1 : va_up (fun s => (R t k j s).map loc) i.toNatClampNeg (some (loc (t2, k2, j2))) = fun s => (xup R t k j i.toNatClampNeg (some (t2, k2, j2)) t k j s).map loc := by
      funext s
      by_cases h : s = i.toNatClampNeg
      · subst h; rw [xup_self]; simp [va_up]
      · rw [xup_slot h]; simp [va_up, h]
    rw [e1]
  have hcl2 : ∀ (i0 : xId) (s : Nat) (x : xId), xLive n i0 → xup R t k j i.toNatClampNeg (some (t2, k2, j2)) i0.1 i0.2.1 i0.2.2 s = some x → xLive n x := by
    intro i0 s x hi hx
    unfold xup at hx
    split at hx
    · cases hx; exact hoS.1
    · exact hP.2.2.2 i0 s x hi hx
  refine va_astq hC.1 hC.2.1 hC.2.2.2.2.2.2.1.1 hP.1 hP.2.1 hS q e q2 cv he (hty cA) he2 hcv hin hdg fun H1 locs1 hP1 hD1 hS1 => ?_
  rw [hset] at hP1 hD1
  exact kk l p e9 R9 s m args below meth c sa D cA A loc H1 locs1 cells slots lsA Qm hC ⟨hP1, hD1, hP.2.2.1, hcl2⟩ hS1 hL hl hoL (hoS.2.2.2) hn hc hs hE
theorem w_alen {e len : Nat} {v : Int32} (ha : xArr t = some (e, len)) (hv : Int32.ofNat len = v) (hdg : decode mr.2.2.1 pc = .ok (.arraylength, 1)) (kk : Wp d nF mr (pc + 1) ls (vI v :: st) (n, (R, (I, L))) Q) : Wp d nF mr pc ls (vR t k j :: st) (n, (R, (I, L))) Q := by
  intro l p e9 R9 s m args below meth c sa D cA A loc H locs cells slots lsA Qm hC hP hS hL hl hoL hoS hn hc hs hE
  obtain ⟨q, hq, hsq⟩ := xRep.pos (D := D) (cA := cA) (loc := loc) (A := A) (M := (n, (R, (I, L)))) (H := H) hoS.1 (xArr_99 ha)
  have he := xW_get (cA := cA) (loc := loc) (M := (n, (R, (I, L)))) hq hsq
  rw [xEnt_arr ha] at he
  have hty : ∃ ty, (xTys cA)[e]? = some (cA e, ty) := by
    have h8 : e < 8 := by
      unfold xArr at ha
      split at ha <;> (try cases ha) <;> decide
    rcases e with _ | _ | _ | _ | _ | _ | _ | _ | e <;> first | exact ⟨_, rfl⟩ | omega
  obtain ⟨ty9, hty⟩ := hty
  have hx1 : (xAr loc (n, (R, (I, L))) (t, k, j) e len).1 = len := by unfold xAr; split <;> rfl
  exact va_alen hC.1 hC.2.1 hC.2.2.2.2.2.2.1.1 hP.1 q e he hty (v := v) (by rw [hx1]; exact hv) hdg (kk l p e9 R9 s m args below meth c sa D cA A loc H locs cells slots lsA Qm hC hP hS hL hl hoL (⟨trivial, hoS.2⟩) hn hc hs hE)
end MEM
