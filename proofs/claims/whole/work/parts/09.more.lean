/-! Math, strings, statics, the script; weaker ends; another memory that is the same -/
section MORE
variable {d nF n1 : Nat} {mr mc : xMR} {pc idx na : Nat} {ls : List (Option xV)} {st as : List xV} {M : xM} {Q Q1 : Option xV → xM → Prop}
theorem Wp.mono {d' : Nat} (h : Wp d nF mr pc ls st M Q) (hd : d ≤ d') : Wp d' nF mr pc ls st M Q := by
  intro l p e9 R9 s m args below meth c sa D cA A loc H locs cells slots lsA Qm hC hP hS hL hl hoL hoS hn hc hs hE
  have hr := hC.2.2.2.2.2.1
  exact h l p e9 R9 s m args below meth c sa D cA A loc H locs cells slots lsA Qm ⟨hC.1, hC.2.1, hC.2.2.1, hC.2.2.2.1, hC.2.2.2.2.1, ⟨by omega, by omega⟩, hC.2.2.2.2.2.2⟩ hP hS hL hl hoL hoS hn hc hs hE
theorem Tri.mono {d' : Nat} (h : Tri d nF mr as M Q) (hd : d ≤ d') : Tri d' nF mr as M Q := ⟨h.1, h.2.1, h.2.2.mono hd⟩
theorem Wp.post {Q' : Option xV → xM → Prop} (h : Wp d nF mr pc ls st M Q) (hq : ∀ v M', M'.1 = nF → Q v M' → Q' v M') : Wp d nF mr pc ls st M Q' := by
  intro l p e9 R9 s m args below meth c sa D cA A loc H locs cells slots lsA Qm hC hP hS hL hl hoL hoS hn hc hs hE
  exact h l p e9 R9 s m args below meth c sa D cA A loc H locs cells slots lsA Qm hC hP hS hL hl hoL hoS hn hc hs (fun v M' loc' H' locs' pc' lsA' h1 h2 => hE v M' loc' H' locs' pc' lsA' (hq v M' h2 h1) h2)
theorem Tri.post {Q' : Option xV → xM → Prop} (h : Tri d nF mr as M Q) (hq : ∀ v M', M'.1 = nF → Q v M' → Q' v M') : Tri d nF mr as M Q' := ⟨h.1, h.2.1, h.2.2.post hq⟩
theorem Wp.congr {M' : xM} (h : Wp d nF mr pc ls st M' Q) (hn' : M'.1 = M.1) (hW : ∀ cA loc, xW cA loc M' = xW cA loc M) (hcl : ∀ (i : xId) (s : Nat) (x : xId), xLive M'.1 i → M'.2.1 i.1 i.2.1 i.2.2 s = some x → xLive M'.1 x) : Wp d nF mr pc ls st M Q := by
  intro l p e9 R9 s m args below meth c sa D cA A loc H locs cells slots lsA Qm hC hP hS hL hl hoL hoS hn hc hs hE
  rw [← hn'] at hoL hoS hn hc hs hE
  exact h l p e9 R9 s m args below meth c sa D cA A loc H locs cells slots lsA Qm hC ⟨by rw [hW]; exact hP.1, by rw [hW]; exact hP.2.1, by rw [hn']; exact hP.2.2.1, hcl⟩ hS hL hl hoL hoS hn hc hs hE
theorem w_max {x y : Int32} (hlk : Cond.methodLink mr.2.1.cls idx Lib.Math.max.name ∈ xTbl) (h2 : Cond.static Lib.Math.max.name ∈ xTbl) (h3 : Cond.initialized "java/lang/Math" ∈ xTbl) (h4 : Cond.code Lib.Math.max.name Lib.Math.max.code 2 (some .int) ∈ xTbl) (hd : 1 ≤ d) (hcat : (st.map xcat).sum ≤ 8) (hdg : decode mr.2.2.1 pc = .ok (.invokestatic idx, 3)) (k : Wp d nF mr (pc + 3) ls (vI (if x < y then y else x) :: st) M Q) : Wp d nF mr pc ls (vI y :: vI x :: st) M Q := by
  intro l p e9 R9 s m args below meth c sa D cA A loc H locs cells slots lsA Qm hC hP hS hL hl hoL hoS hn hc hs hE
  have hr := hC.2.2.2.2.2.1
  have hts := hC.2.2.2.2.1
  exact va_mmax hC.1 hC.2.1 (hC.2.2.1.trans hL.1.symm) hC.2.2.2.1 (hts _ hlk) (hts _ h2) (hts _ h3) (hts _ h4) (by omega) (by rw [xcat_sum]; omega) (by omega) (by omega) hdg (k l p e9 R9 s m args below meth c sa D cA A loc H locs cells slots lsA Qm hC hP hS hL hl hoL ⟨trivial, hoS.2.2⟩ hn hc hs hE)
theorem w_min {x y : Int32} (hlk : Cond.methodLink mr.2.1.cls idx Lib.Math.min.name ∈ xTbl) (h2 : Cond.static Lib.Math.min.name ∈ xTbl) (h3 : Cond.initialized "java/lang/Math" ∈ xTbl) (h4 : Cond.code Lib.Math.min.name Lib.Math.min.code 2 (some .int) ∈ xTbl) (hd : 1 ≤ d) (hcat : (st.map xcat).sum ≤ 8) (hdg : decode mr.2.2.1 pc = .ok (.invokestatic idx, 3)) (k : Wp d nF mr (pc + 3) ls (vI (if y < x then y else x) :: st) M Q) : Wp d nF mr pc ls (vI y :: vI x :: st) M Q := by
  intro l p e9 R9 s m args below meth c sa D cA A loc H locs cells slots lsA Qm hC hP hS hL hl hoL hoS hn hc hs hE
  have hr := hC.2.2.2.2.2.1
  have hts := hC.2.2.2.2.1
  exact va_mmin hC.1 hC.2.1 (hC.2.2.1.trans hL.1.symm) hC.2.2.2.1 (hts _ hlk) (hts _ h2) (hts _ h3) (hts _ h4) (by omega) (by rw [xcat_sum]; omega) (by omega) (by omega) hdg (k l p e9 R9 s m args below meth c sa D cA A loc H locs cells slots lsA Qm hC hP hS hL hl hoL ⟨trivial, hoS.2.2⟩ hn hc hs hE)
theorem w_ldcS {k : Nat} {tx : String} (hcl : mr.2.1.cls = RX9) (hk : xStrT[k]? = some (idx, tx)) (hdg : decode mr.2.2.1 pc = .ok (.ldc idx, 2)) (kk : Wp d nF mr (pc + 2) ls (vS k :: st) M Q) : Wp d nF mr pc ls st M Q := by
  intro l p e9 R9 s m args below meth c sa D cA A loc H locs cells slots lsA Qm hC hP hS hL hl hoL hoS hn hc hs hE
  have hlt : k < 9 := (List.getElem?_eq_some_iff.mp hk).1
  exact va_ldcS hC.1 hC.2.1 (own := RX9) (hcl ▸ hC.2.2.2.1) (hC.2.2.2.2.2.2.2.1.1 k _ hk) hdg (kk l p e9 R9 s m args below meth c sa D cA A loc H locs cells slots lsA Qm hC hP hS hL hl hoL ⟨Nat.lt_of_lt_of_le hlt (by decide), hoS⟩ hn hc hs hE)
theorem w_strV {k : Nat} (hk : k < 9) (hlk : Cond.fieldLink mr.2.1.cls idx "java/lang/String" "value" "[B" ∈ xTbl) (hdg : decode mr.2.2.1 pc = .ok (.getfield idx, 3)) (kk : Wp d nF mr (pc + 3) ls (vS (9 + k) :: st) M Q) : Wp d nF mr pc ls (vS k :: st) M Q := by
  intro l p e9 R9 s m args below meth c sa D cA A loc H locs cells slots lsA Qm hC hP hS hL hl hoL hoS hn hc hs hE
  exact vk_getf hC.1 hC.2.1 (hC.2.2.2.2.2.2.2.1.2.1.1 k hk).2.2.1 hS hC.2.2.2.1 (hC.2.2.2.2.1 _ hlk) (fun _ h => h) hdg (kk l p e9 R9 s m args below meth c sa D cA A loc H locs cells slots lsA Qm hC hP hS hL hl hoL ⟨show 9 + k < 19 by omega, hoS.2⟩ hn hc hs hE)
theorem w_strC {k : Nat} (hk : k < 9) (hlk : Cond.fieldLink mr.2.1.cls idx "java/lang/String" "coder" "B" ∈ xTbl) (hdg : decode mr.2.2.1 pc = .ok (.getfield idx, 3)) (kk : Wp d nF mr (pc + 3) ls (vI 0 :: st) M Q) : Wp d nF mr pc ls (vS k :: st) M Q := by
  intro l p e9 R9 s m args below meth c sa D cA A loc H locs cells slots lsA Qm hC hP hS hL hl hoL hoS hn hc hs hE
  exact vk_getf hC.1 hC.2.1 (hC.2.2.2.2.2.2.2.1.2.1.1 k hk).2.1 hS hC.2.2.2.1 (hC.2.2.2.2.1 _ hlk) (fun _ h => h) hdg (kk l p e9 R9 s m args below meth c sa D cA A loc H locs cells slots lsA Qm hC hP hS hL hl hoL ⟨trivial, hoS.2⟩ hn hc hs hE)
theorem w_strL {k : Nat} {v : Int32} (hk : k < 9) (hv : Int32.ofNat (xLen.getD k 0) = v) (hdg : decode mr.2.2.1 pc = .ok (.arraylength, 1)) (kk : Wp d nF mr (pc + 1) ls (vI v :: st) M Q) : Wp d nF mr pc ls (vS (9 + k) :: st) M Q := by
  subst hv
  intro l p e9 R9 s m args below meth c sa D cA A loc H locs cells slots lsA Qm hC hP hS hL hl hoL hoS hn hc hs hE
  obtain ⟨cell, h1, h2, h3, h4, h5, h6, h7⟩ := (hC.2.2.2.2.2.2.2.1.2.1.1 k hk).2.2.2
  have h8 : H[sa (9 + k)]? = some cell := by rw [hS.2.1 _ (Array.getElem?_eq_some_iff.mp h1).1 h7]; exact h1
  exact W.alen hC.1 hC.2.1 h8 h2 h5 rfl rfl hdg (kk l p e9 R9 s m args below meth c sa D cA A loc H locs cells slots lsA Qm hC hP hS hL hl hoL ⟨trivial, hoS.2⟩ hn hc hs hE)
theorem w_strB {k a : Nat} {i v : Int32} (hk : k < 9) (h0 : ¬ i < 0) (hi : i.toNatClampNeg = a) (ha : a < xLen.getD k 0) (hv : (xByt.getD k []).getD a 0 = v) (hdg : decode mr.2.2.1 pc = .ok (.baload, 1)) (kk : Wp d nF mr (pc + 1) ls (vI v :: st) M Q) : Wp d nF mr pc ls (vI i :: vS (9 + k) :: st) M Q := by
  subst hv
  subst hi
  intro l p e9 R9 s m args below meth c sa D cA A loc H locs cells slots lsA Qm hC hP hS hL hl hoL hoS hn hc hs hE
  obtain ⟨cell, h1, h2, h3, h4, h5, h6, h7⟩ := (hC.2.2.2.2.2.2.2.1.2.1.1 k hk).2.2.2
  have h8 : H[sa (9 + k)]? = some cell := by rw [hS.2.1 _ (Array.getElem?_eq_some_iff.mp h1).1 h7]; exact h1
  exact W.bald hC.1 hC.2.1 h8 h2 h3 (fun q => q.elim h0 (fun q => by omega)) (h6 _ ha) rfl rfl hdg (kk l p e9 R9 s m args below meth c sa D cA A loc H locs cells slots lsA Qm hC hP hS hL hl hoL ⟨trivial, hoS.2.2⟩ hn hc hs hE)
theorem w_getsC (hlk : Cond.fieldLink mr.2.1.cls idx "java/lang/String" "COMPACT_STRINGS" "Z" ∈ xTbl) (hdg : decode mr.2.2.1 pc = .ok (.getstatic idx, 3)) (kk : Wp d nF mr (pc + 3) ls (vI 1 :: st) M Q) : Wp d nF mr pc ls st M Q := by
  intro l p e9 R9 s m args below meth c sa D cA A loc H locs cells slots lsA Qm hC hP hS hL hl hoL hoS hn hc hs hE
  exact va_gets hC.1 hC.2.1 hC.2.2.2.2.2.2.2.1.2.2.1 hS hC.2.2.2.1 (hC.2.2.2.2.1 _ hlk) (fun _ h => h) hdg (kk l p e9 R9 s m args below meth c sa D cA A loc H locs cells slots lsA Qm hC hP hS hL hl hoL ⟨trivial, hoS⟩ hn hc hs hE)
theorem w_getsF (hlk : Cond.fieldLink mr.2.1.cls idx "jdk/internal/util/Preconditions" "SIOOBE_FORMATTER" "Ljava/util/function/BiFunction;" ∈ xTbl) (hdg : decode mr.2.2.1 pc = .ok (.getstatic idx, 3)) (kk : ∀ w : Option xId ⊕ Nat, Wp d nF mr (pc + 3) ls (.inr (.inr w) :: st) M Q) : Wp d nF mr pc ls st M Q := by
  intro l p e9 R9 s m args below meth c sa D cA A loc H locs cells slots lsA Qm hC hP hS hL hl hoL hoS hn hc hs hE
  rcases hC.2.2.2.2.2.2.2.1.2.2.2 with hz | hz
  · exact va_gets hC.1 hC.2.1 hz hS hC.2.2.2.1 (hC.2.2.2.2.1 _ hlk) (fun _ h => h) hdg (kk (.inl none) l p e9 R9 s m args below meth c sa D cA A loc H locs cells slots lsA Qm hC hP hS hL hl hoL ⟨trivial, hoS⟩ hn hc hs hE)
  · exact va_gets hC.1 hC.2.1 hz hS hC.2.2.2.1 (hC.2.2.2.2.1 _ hlk) (fun _ h => h) hdg (kk (.inr 18) l p e9 R9 s m args below meth c sa D cA A loc H locs cells slots lsA Qm hC hP hS hL hl hoL ⟨show 18 < 19 by decide, hoS⟩ hn hc hs hE)
/-- invokevirtual on a string constant -/
theorem w_callT {k : Nat} {stk : List xV} (hT : Tri d n1 mc (vS k :: as) M Q1) (hk : k < 9) (hmc : mc.2.1.cls = "java/lang/String") (htg : xTg mc na) (hlk : xLk mr.2.1.cls idx mc) (hins : xIns mc) (hsel : xSel mc) (hna : as.length = na) (hdg : decode mr.2.2.1 pc = .ok (.invokevirtual idx, 3)) (hstk : stk = as.reverse ++ vS k :: st) (hcat : (st.map xcat).sum ≤ 8) (hn0 : M.1 ≤ n1) (hn1 : n1 ≤ nF)
    (kk : ∀ v M', Q1 v M' → M'.1 = n1 → Wp (d + 1) nF mr (pc + 3) ls (v.toList ++ st) M' Q) : Wp (d + 1) nF mr pc ls stk M Q := by
  subst hstk
  intro l p e9 R9 s m args below meth c sa D cA A loc H locs cells slots lsA Qm hC hP hS hL hl hoL hoS hn hc hs hE
  have hmo1 := xCum_mono hn0
  have hmo2 := xCum_mono hn1
  have hoA : xokS M.1 as := xokS.all fun v hv => xokS.mem (xokS.left hoS) v (List.mem_reverse.mpr hv)
  have hoR := xokS.right hoS
  have hts := hC.2.2.2.2.1
  have hMet := hT.met (Q := Q1) ⟨hoR.1, hoA⟩ hn0 l sa D cA loc H.size
  have cw := cwV (R := R9) (own := mr.2.1.cls) (C := mc.2.1.cls) (index := idx) (ws := wY mc) (rm := xRm d (n1 - M.1) (xCum n1 - xCum M.1)) na hts (xTbl_good (L := wsV mr.2.1.cls idx mc.2.1.cls mc.2.1 (wY mc)) (fun w hw => by
    rcases List.mem_append.mp hw with h | h
    · simp only [List.mem_cons, List.not_mem_nil, or_false] at h
      rcases h with rfl | rfl | rfl | rfl
      · exact hlk
      · exact hins
      · exact hsel
      · exact htg.2.2
    · exact wY_good htg.2.1 w h)) rfl rfl rfl ⟨rfl, htg.1⟩ (xCtxRoom d R9 mc.2.2.2.1 hT.1.2.1 hC.2.2.2.2.2.1 _ _)
  have hrecv := vk_recv (i := k) hC.2.2.2.2.2.2.2.1.2.1 hk hS
  rw [← hmc] at hrecv
  have hr := va_runV (g := F0 m pc lsA ((as.reverse ++ vS k :: st).map (xrv loc sa))) (rest := st.map (xrv loc sa)) (As := as.map (xrv loc sa)) (b := sa k) (cells := cells) (slots := slots) (locs := locs) (below := below) (meth := meth) (e := e9) ⟨hC.1, hC.2.1, hC.2.2.1, hC.2.2.2.1, hts⟩ hMet cw
    ⟨xPc_blind, hrecv, fun U hU hW => xPre (as := vS k :: as) hC.2.2.2.2.2.2.1 hC.2.2.2.2.2.2.2.1 hC.2.2.2.2.2.2.2.2.1 hP hS U hU hW⟩ rfl (by rw [List.length_map]; exact hna) hL.1 (by simp [List.map_append, List.map_reverse]; rfl) (lv_room (by rw [xcat_sum]; exact hcat)) hdg ⟨by omega, by omega⟩
  exact xAfter kk hn0 hn1 hr hC hP hS hL hl hoL hoR.2 hc hs hE
/-- the law's script -/
theorem w_slen {S : Nat × (Nat → Int32)} (hS9 : mr.1 = some S) (hdg : decode mr.2.2.1 pc = .ok (.arraylength, 1)) (kk : Wp d nF mr (pc + 1) ls (vI (Int32.ofNat S.1) :: st) M Q) : Wp d nF mr pc ls (vR 99 0 0 :: st) M Q := by
  intro l p e9 R9 s m args below meth c sa D cA A loc H locs cells slots lsA Qm hC hP hS hL hl hoL hoS hn hc hs hE
  obtain ⟨g1, g2, g3⟩ := hC.2.2.2.2.2.2.2.2.2.2 S hS9
  exact va_slen hC.1 hC.2.1 g1 g2 g3 hS hdg (kk l p e9 R9 s m args below meth c sa D cA A loc H locs cells slots lsA Qm hC hP hS hL hl hoL ⟨trivial, hoS.2⟩ hn hc hs hE)
theorem w_sld {S : Nat × (Nat → Int32)} {i : Int32} {a : Nat} (hS9 : mr.1 = some S) (hin : vp_in i S.1) (hi : i.toNatClampNeg = a) (hdg : decode mr.2.2.1 pc = .ok (.iaload, 1)) (kk : Wp d nF mr (pc + 1) ls (vI (S.2 a) :: st) M Q) : Wp d nF mr pc ls (vI i :: vR 99 0 0 :: st) M Q := by
  subst hi
  intro l p e9 R9 s m args below meth c sa D cA A loc H locs cells slots lsA Qm hC hP hS hL hl hoL hoS hn hc hs hE
  obtain ⟨g1, g2, g3⟩ := hC.2.2.2.2.2.2.2.2.2.2 S hS9
  exact va_sld hC.1 hC.2.1 g1 g2 g3 hS hin hdg (kk l p e9 R9 s m args below meth c sa D cA A loc H locs cells slots lsA Qm hC hP hS hL hl hoL ⟨trivial, hoS.2.2⟩ hn hc hs hE)
end MORE
