/-! what changes the court, both ways (by wip/whole/gen/g74.py) -/
def setA (g : gG) (a' : aA) : gG := (a', g.2)
/-- the reference's own court and what it reckons with -/
def FrW (I I' : xF4 Int32) : Prop := ∀ t b j s, ¬ (t = 31 ∧ s < 76) → ¬ (t = 32 ∨ t = 34 ∨ t = 36 ∨ t = 40) → ¬ (t = 30 ∧ (s = 6 ∨ s = 7 ∨ s = 8 ∨ s = 11 ∨ s = 12 ∨ s = 13 ∨ s = 14 ∨ s = 16 ∨ s = 18 ∨ s = 19)) → I' t b j s = I t b j s
theorem FrW.rf {I : xF4 Int32} : FrW I I := fun _ _ _ _ _ _ _ => rfl
theorem FrW.tr {I I1 I2 : xF4 Int32} (h1 : FrW I I1) (h2 : FrW I1 I2) : FrW I I2 := fun t b j s p q r => (h2 t b j s p q r).trans (h1 t b j s p q r)
theorem FrR.w {I I1 : xF4 Int32} (h : FrR I I1) : FrW I I1 := fun t b j s _ q r => h t b j s q r
theorem FrU.w {I I1 : xF4 Int32} (h : FrU I I1) : FrW I I1 := fun t b j s p _ _ => h t b j s p
theorem FrW.hi {I I1 : xF4 Int32} (h : FrW I I1) : Hi I I1 := fun t b j s ht => h t b j s (by omega) (by omega) (by omega)
theorem FrW.up {I : xF4 Int32} {k : Nat} {v : Int32} (h : k < 76) : FrW I (xup I 31 0 0 k v) := fun t b j s p _ _ => by
  unfold xup
  rw [if_neg]
  rintro ⟨rfl, rfl, rfl, rfl⟩
  exact p ⟨rfl, h⟩
theorem NowIs.eqv {I I' : xF4 Int32} {t b : Nat} {a : aA} (h : NowIs I t b a) (hw : WF a) (e : ∀ x, x < 76 → I' t 0 0 (b + x) = I t 0 0 (b + x)) : NowIs I' t b a := h.to hw e
theorem CH.court {I I' : xF4 Int32} {g : gG} {a' : aA} (h : CH I g) (hc : CourtIs I' 0 a') (f : FrC 0 I I') : CH I' (setA g a') := by
  obtain ⟨h1, h2, h3, h4, h5, h6, h7⟩ := h
  exact ⟨hc, fun k hk => (h2 k hk).eqv (f 9 k 0 1 (by omega)) (fun t j s ht => f t (2 + k) j s (by omega)), (f 10 0 0 1 (by omega)).trans h3, fun i hi => (f 11 0 0 i (by omega)).trans (h4 i hi), (f 10 0 0 2 (by omega)).trans h5, fun k hk => (h6 k hk).eqv (fun s => f 20 k 0 s (by omega)) (fun s => f 21 k 0 s (by omega)), (f 0 0 0 8 (by omega)).trans h7⟩
theorem ImM.w {I I' : xF4 Int32} {k : Nat} (f : FrW I I') (hk : k < 2) : ∀ {o : Option aA}, (∀ b, o = some b → WF b) → ImM I k o → ImM I' k o
  | none, _, h => (f 33 0 0 k (by omega) (by omega) (by omega)).trans h
  | some b, hb, h => ⟨(f 33 0 0 k (by omega) (by omega) (by omega)).trans h.1, h.2.to (hb b rfl) (fun x hx => f 31 0 0 _ (by omega) (by omega) (by omega))⟩
theorem MH.court {I I' : xF4 Int32} {g : gG} {a' : aA} (h : MH I g) (hg : WG g) (hs : SI I' a') (f : FrW I I') : MH I' (setA g a') := by
  obtain ⟨h1, h2, h3, h4, h5, h6, h7⟩ := h
  exact ⟨hs, fun k hk => (h2 k hk).w f hk (fun b hb => (hg.2.2.1 k hk b hb).1), (f 30 0 0 10 (by omega) (by omega) (by omega)).trans h3, fun i hi => (f 35 0 0 i (by omega) (by omega) (by omega)).trans (h4 i hi), (f 30 0 0 15 (by omega) (by omega) (by omega)).trans h5, fun k hk => (h6 k hk).eqv (f 37 0 0 k (by omega) (by omega) (by omega)) (f 38 0 0 k (by omega) (by omega) (by omega)) (fun i _ => f 39 0 0 _ (by omega) (by omega) (by omega)), (f 30 0 0 26 (by omega) (by omega) (by omega)).trans h7⟩
theorem WG.setA {g : gG} (hg : WG g) {a' : aA} (hw : WF a') (hd : dY a' ≤ 999) (e1 : nJ a' = nJ (gA g)) (e2 : nC a' = nC (gA g)) : WG (setA g a') :=
  ⟨hw, hd, fun k hk b hb => by
    obtain ⟨q1, q2, q3, q4⟩ := hg.2.2.1 k hk b hb
    exact ⟨q1, q2, q3.trans e1.symm, q4.trans e2.symm⟩, hg.2.2.2⟩
abbrev pCc (x : Int32) (a' : aA) (I : xF4 Int32) : Option xV → xM → Prop := fun v M => v = some (vI x) ∧ ∃ I1 L1, M = rM I1 L1 ∧ CourtIs I1 0 a' ∧ FrC 0 I I1
abbrev pMc (x : Int32) (a' : aA) (I : xF4 Int32) : Option xV → xM → Prop := fun v M => v = some (vI x) ∧ ∃ I1 L1, M = rM I1 L1 ∧ SI I1 a' ∧ FrW I I1
theorem sim_c {g : gG} {a' : aA} {x : Int32} {mC mM : xMR} {as : List xV} {I : xF4 Int32} {L : xF4 Int64} (hg : WG g) (hm : MH I g) (hc : CH I g) (hw : WF a') (hd : dY a' ≤ 999) (e1 : nJ a' = nJ (gA g)) (e2 : nC a' = nC (gA g))
    (h1 : Tri 20 109 mC (vR 0 0 0 :: as) (rM I L) (pCc x a' I)) (h2 : ∀ I1 L1, SI I1 (gA g) → Tri 20 109 mM (vR 30 0 0 :: as) (rM I1 L1) (pMc x a' I1)) : SimI Inv mC mM as I L :=
  sim_i (hg.setA hw hd e1 e2) hm hc (h1.imp (fun v M h => ⟨h.1, by obtain ⟨I2, L2, e, h3, h4⟩ := h.2; exact ⟨I2, L2, e, hc.court h3 h4, fun t b j s ht => h4 t b j s (by omega)⟩⟩)) (fun I1 L1 hm1 => (h2 I1 L1 hm1.1).imp (fun v M h => ⟨h.1, by obtain ⟨I2, L2, e, h3, h4⟩ := h.2; exact ⟨I2, L2, e, hm1.court hg h3 h4, h4.hi⟩⟩))
theorem SI.up {I : xF4 Int32} {a a' : aA} (hs : SI I a) {k : Nat} {v : Int32} (hn : NowIs (xup I 31 0 0 k v) 31 0 a') (e1 : nJ a' = nJ a) (e2 : nC a' = nC a) : SI (xup I 31 0 0 k v) a' := ⟨by rw [e1]; exact (xup_tag (by decide)).trans hs.1, by rw [e2]; exact (xup_tag (by decide)).trans hs.2.1, hn⟩
/-! what stays well -/
theorem WF.aj {a : aA} (hw : WF a) {j f v : Nat} (h : (f = 0 ∧ v < 4) ∨ (f = 1 ∧ v ≤ 20) ∨ (f = 2 ∧ v ≤ 99)) : WF (ajF a j f v) := by
  obtain ⟨w1, w2, w3, w4, w5, w6, w7, w8⟩ := hw
  refine ⟨w1, w2, w3, w4, w5, fun j' hj' => ?_, w7, w8⟩
  obtain ⟨g0, g1, g2, g3⟩ := w6 j' hj'
  refine ⟨?_, ?_, ?_, ?_⟩
  · show up2 (JF a) j f v j' 0 < 4
    unfold up2
    split
    · omega
    · exact g0
  · show up2 (JF a) j f v j' 1 ≤ 20
    unfold up2
    split
    · omega
    · exact g1
  · show up2 (JF a) j f v j' 2 ≤ 99
    unfold up2
    split
    · omega
    · exact g2
  · show up2 (JF a) j f v j' 3 ≤ 5000
    rw [up2_ns (by omega)]
    exact g3
theorem WF.as {a : aA} (hw : WF a) {c f v : Nat} (h : (f = 0 ∧ v < 4) ∨ (f = 1 ∧ 1 ≤ v ∧ v ≤ sF a c 2) ∨ (f = 2 ∧ sF a c 1 ≤ v ∧ v ≤ 60) ∨ (f = 3 ∧ v ≤ 20)) : WF (asF a c f v) := by
  obtain ⟨w1, w2, w3, w4, w5, w6, w7, w8⟩ := hw
  refine ⟨w1, w2, w3, w4, w5, w6, fun c' hc' => ?_, w8⟩
  obtain ⟨b1, b2, b3, b4, b5, b6, b7, b8, b9⟩ := w7 c' hc'
  have e : ∀ x, sF (asF a c f v) c' x = if c' = c ∧ x = f then v else sF a c' x := fun x => rfl
  rw [e, e, e, e, e, e]
  by_cases hcc : c' = c
  · subst hcc
    rcases h with ⟨rfl, h⟩ | ⟨rfl, h1, h2⟩ | ⟨rfl, h1, h2⟩ | ⟨rfl, h⟩
    · simp; exact ⟨h, b2, b3, b4, b5, b6, b7, b8, b9⟩
    · simp; exact ⟨b1, h1, h2, b4, b5, b6, b7, b8, b9⟩
    · simp; exact ⟨b1, b2, h1, h2, b5, b6, b7, b8, b9⟩
    · simp; exact ⟨b1, b2, b3, b4, h, b6, b7, b8, b9⟩
  · simp [hcc]; exact ⟨b1, b2, b3, b4, b5, b6, b7, b8, b9⟩
theorem WF.crim {a : aA} (hw : WF a) {v : Nat} (h : v ≤ 99) : WF (crimN a v) := ⟨hw.1, hw.2.1, hw.2.2.1, hw.2.2.2.1, h, hw.2.2.2.2.2⟩
/-- the sights: one more; fewer -/
def seeN (a : aA) (j c t : Nat) : aA := mkA (nJ a) (nC a) (nG a + 1) (dY a) (cR a) (JF a) (SC a) (SF a) (BY a) (up2 (up2 (up2 (GF a) (nG a) 0 j) (nG a) 1 c) (nG a) 2 t)
def forgN (a : aA) (n : Nat) : aA := mkA (nJ a) (nC a) n (dY a) (cR a) (JF a) (SC a) (SF a) (BY a) (GF a)
theorem seeN_g {a : aA} {j c t i f : Nat} (hi : i < nG a + 1) (hf : f < 3) : gF (seeN a j c t) i f = if i = nG a then (if f = 0 then j else if f = 1 then c else t) else gF a i f := by
  show up2 (up2 (up2 (GF a) (nG a) 0 j) (nG a) 1 c) (nG a) 2 t i f = _
  unfold up2
  by_cases e : i = nG a
  · rw [if_pos e]
    rcases (show f = 0 ∨ f = 1 ∨ f = 2 by omega) with rfl | rfl | rfl <;> simp [e]
  · simp [e]
    rfl
theorem WF.see {a : aA} (hw : WF a) {j c t : Nat} (hg : nG a < 6) (hj : j < nJ a) (hc : c < nC a) (ht : t ≤ 60) : WF (seeN a j c t) := by
  refine ⟨hw.1, hw.2.1, hg, hw.2.2.2.1, hw.2.2.2.2.1, hw.2.2.2.2.2.1, hw.2.2.2.2.2.2.1, fun i hi => ?_⟩
  have hi' : i < nG a + 1 := hi
  rw [seeN_g hi' (by decide), seeN_g hi' (by decide), seeN_g hi' (by decide)]
  by_cases e : i = nG a
  · simp [e]; exact ⟨hj, hc, ht⟩
  · simp [e]; exact hw.2.2.2.2.2.2.2 i (by omega)
theorem WF.forg {a : aA} (hw : WF a) {n : Nat} (hn : n ≤ nG a) : WF (forgN a n) := ⟨hw.1, hw.2.1, Nat.le_trans hn hw.2.2.1, hw.2.2.2.1, hw.2.2.2.2.1, hw.2.2.2.2.2.1, hw.2.2.2.2.2.2.1, fun i hi => hw.2.2.2.2.2.2.2 i (Nat.lt_of_lt_of_le hi hn)⟩
theorem CourtIs.forg {I : xF4 Int32} {k : Nat} {a : aA} (h : CourtIs I k a) {n : Nat} (hn : n ≤ nG a) : CourtIs (xup I 1 k 0 5 (nI n)) k (forgN a n) := by
  obtain ⟨h1, h2, h3, h4, h5, h6, h7, h8⟩ := h
  exact ⟨(xup_slot (by decide)).trans h1, (xup_slot (by decide)).trans h2, xup_self, (xup_slot (by decide)).trans h4, (xup_slot (by decide)).trans h5, fun j' hj' => ⟨fun f' hf' => (xup_tag (by decide)).trans ((h6 j' hj').1 f' hf'), (xup_tag (by decide)).trans ((h6 j' hj').2)⟩, fun c' hc' => ⟨fun f' hf' h5' => (xup_tag (by decide)).trans ((h7 c' hc').1 f' hf' h5'), (xup_tag (by decide)).trans ((h7 c' hc').2)⟩, fun i hi f' hf' => (xup_tag (by decide)).trans (h8 i (Nat.lt_of_lt_of_le hi hn) f' hf')⟩
theorem NowIs.forg {I : xF4 Int32} {b : Nat} {a : aA} {t : Nat} (h : NowIs I t b a) (hw : WF a) {n : Nat} (hn : n ≤ nG a) {x : Nat} (hx : x = b + 57) : NowIs (xup I t 0 0 x (nI n)) t b (forgN a n) := by
  subst hx
  obtain ⟨h1, h2, h3, h4, h5', h6⟩ := h
  obtain ⟨w1, w2, w3, -⟩ := hw
  have q1 : ∀ j', j' < nJ (forgN a n) → j' < 4 := fun j' hj' => Nat.lt_of_lt_of_le hj' w1
  have q2 : ∀ j', j' < nC (forgN a n) → j' < 5 := fun j' hj' => Nat.lt_of_lt_of_le hj' w2
  exact ⟨fun j' hj' => ⟨fun f' hf' => (xup_slot (by have := q1 j' hj'; omega)).trans ((h1 j' hj').1 f' hf'), (xup_slot (by have := q1 j' hj'; omega)).trans (h1 j' hj').2⟩, fun c' hc' => ⟨fun f' hf' g5 => (xup_slot (by have := q2 c' hc'; omega)).trans ((h2 c' hc').1 f' hf' g5), (xup_slot (by have := q2 c' hc'; omega)).trans (h2 c' hc').2⟩, (xup_slot (by omega)).trans h3, (xup_slot (by omega)).trans h4, xup_self, fun i hi f' hf' => (xup_slot (by omega)).trans (h6 i (Nat.lt_of_lt_of_le hi hn) f' hf')⟩
theorem adm_0 {v l m : Int32} {X : Int} (h : v.toInt = X) : bI (admP 0 v l m) = bI (0 ≤ X ∧ X ≤ 3) := (bI_congr ⟨fun h => by rcases h with h | h | h | h; exact h.2; all_goals exact absurd h.1 (by decide), fun h => Or.inl ⟨rfl, h⟩⟩).trans (wiZ h (by decide) (by decide))
theorem adm_1 {v l m : Int32} {X B : Int} (h : v.toInt = X) (hm : m.toInt = B) : bI (admP 1 v l m) = bI (1 ≤ X ∧ X ≤ B) := (bI_congr ⟨fun h => by rcases h with h | h | h | h; exact absurd h.1 (by decide); exact h.2; all_goals exact absurd h.1 (by decide), fun h => Or.inr (Or.inl ⟨rfl, h⟩)⟩).trans (wiZ h (by decide) hm)
theorem adm_2 {v l m : Int32} {X B : Int} (h : v.toInt = X) (hl : l.toInt = B) : bI (admP 2 v l m) = bI (B ≤ X ∧ X ≤ 60) := (bI_congr ⟨fun h => by rcases h with h | h | h | h; exact absurd h.1 (by decide); exact absurd h.1 (by decide); exact h.2; exact absurd h.1 (by decide), fun h => Or.inr (Or.inr (Or.inl ⟨rfl, h⟩))⟩).trans (wiZ h hl (by decide))
theorem adm_3 {v l m : Int32} {X : Int} (h : v.toInt = X) : bI (admP 3 v l m) = bI (0 ≤ X ∧ X ≤ 20) := (bI_congr ⟨fun h => by rcases h with h | h | h | h; exact absurd h.1 (by decide); exact absurd h.1 (by decide); exact absurd h.1 (by decide); exact h.2, fun h => Or.inr (Or.inr (Or.inr ⟨rfl, h⟩))⟩).trans (wiZ h (by decide) (by decide))
theorem adm_o {w v l m : Int32} (h : w.toInt < 0 ∨ 4 ≤ w.toInt) : bI (admP w v l m) = 0 := bI_f (fun q => by
  rcases q with q | q | q | q
  · rw [q.1] at h; exact absurd h (by decide)
  · rw [q.1] at h; exact absurd h (by decide)
  · rw [q.1] at h; exact absurd h (by decide)
  · rw [q.1] at h; exact absurd h (by decide))
theorem repl_0 {I : xF4 Int32} {k c : Nat} {v : Int32} : replI I k c 0 v = xup I 5 k c 0 v ∧ replO I k c 0 = I 5 k c 0 := ⟨if_pos rfl, if_pos rfl⟩
theorem repl_1 {I : xF4 Int32} {k c : Nat} {v : Int32} : replI I k c 1 v = xup I 5 k c 1 v ∧ replO I k c 1 = I 5 k c 1 := ⟨(if_neg (by decide)).trans (if_pos rfl), (if_neg (by decide)).trans (if_pos rfl)⟩
theorem repl_2 {I : xF4 Int32} {k c : Nat} {v : Int32} : replI I k c 2 v = xup I 5 k c 2 v ∧ replO I k c 2 = I 5 k c 2 := ⟨(if_neg (by decide)).trans ((if_neg (by decide)).trans (if_pos rfl)), (if_neg (by decide)).trans ((if_neg (by decide)).trans (if_pos rfl))⟩
theorem repl_3 {I : xF4 Int32} {k c : Nat} {v : Int32} : replI I k c 3 v = xup I 5 k c 3 v ∧ replO I k c 3 = I 5 k c 3 := ⟨(if_neg (by decide)).trans ((if_neg (by decide)).trans (if_neg (by decide))), (if_neg (by decide)).trans ((if_neg (by decide)).trans (if_neg (by decide)))⟩

theorem d_becomes {I : xF4 Int32} {L : xF4 Int64} {k v : Nat} (hk : k < 228) : Tri 0 109 m_X11_becomes [vR 30 0 0, vI (nI k), vI (nI v)] (rM I L) (fun v9 M => v9 = some (vI (I 31 0 0 k)) ∧ M = rM (xup I 31 0 0 k (nI v)) L) := by
  refine ⟨k_X11_becomes, Nat.le_of_ble_eq_true rfl, ?_⟩
  show Wp _ _ _ 0 [some (vR 30 0 0), some (vI (nI k)), some (vI (nI v)), none] [] (rM I L) _
  refine w_aload_n dX11_becomes_0 rfl ?_
  refine w_getR (w := some (31, 0, 0)) ff_X11_7 rfl rfl dX11_becomes_1 rfl ?_
  refine w_iload_n dX11_becomes_4 rfl ?_
  refine w_iaload (a := k) rfl (vp_in_nI (n := k) (by omega) (by omega)) (nI_clamp (n := k) (by omega)) dX11_becomes_5 ?_
  refine w_istore_n (ls' := [some (vR 30 0 0), some (vI (nI k)), some (vI (nI v)), some (vI (I 31 0 0 (k)))]) dX11_becomes_6 rfl ?_
  refine w_aload_n dX11_becomes_7 rfl ?_
  refine w_getR (w := some (31, 0, 0)) ff_X11_7 rfl rfl dX11_becomes_8 rfl ?_
  refine w_iload_n dX11_becomes_11 rfl ?_
  refine w_iload_n dX11_becomes_12 rfl ?_
  refine w_iastore (a := k) rfl (vp_in_nI (n := k) (by omega) (by omega)) (nI_clamp (n := k) (by omega)) dX11_becomes_13 ?_
  refine w_iload_n dX11_becomes_14 rfl ?_
  exact w_ireturn dX11_becomes_15 rfl (rfl) rfl (⟨rfl, rfl⟩)

theorem p_alter_0 {I : xF4 Int32} {L : xF4 Int64} {a : aA} (hc : CourtIs I 0 a) (hw : WF a) {j : Nat} (hj : j < nJ a) {v : Nat} (hv : v < 4) : Tri 19 109 m_X10_alter [vR 0 0 0, vI (nI j), vI (0), vI (nI v)] (rM I L) (pCc (nI (jF a j 0)) (ajF a j 0 v) I) := by
  refine ⟨k_X10_alter, Nat.le_of_ble_eq_true rfl, ?_⟩
  show Wp _ _ _ 0 [some (vR 0 0 0), some (vI (nI j)), some (vI (0)), some (vI (nI v)), none, none] [] (rM I L) _
  obtain ⟨hJ, hC, hG, hD, hR, -⟩ := id hw
  refine w_aload_n dX10_alter_0 rfl ?_
  refine w_getR (w := some (1, 0, 0)) ff_X10_10 rfl rfl dX10_alter_1 rfl ?_
  refine w_iload_n dX10_alter_4 rfl ?_
  refine w_callV (as := [vI (nI j)]) (st := []) (Tri.mono (c_jAt hc hw hj) (Nat.le_of_ble_eq_true rfl)) rfl rfl tg_X1_judgeAt lk_X10_111 in_X1_judgeAt se_X1_judgeAt rfl dX10_alter_5 rfl (Nat.le_of_ble_eq_true rfl) (Nat.le_refl _) (Nat.le_refl _) ?_
  rintro _ _ ⟨rfl, rfl⟩ -
  refine w_astore (ls' := [some (vR 0 0 0), some (vI (nI j)), some (vI (0)), some (vI (nI v)), some (vR 3 0 j), none]) dX10_alter_8 rfl ?_
  refine w_aload dX10_alter_10 rfl ?_
  refine w_ifnonnull (tgt := 17) dX10_alter_12 (by decide) (fun _ _ => ?_) (fun h => by cases h)
  refine w_iload_n dX10_alter_17 rfl ?_
  refine w_if_ne (tgt := 46) dX10_alter_18 (by decide) (fun h => absurd (by decide) h) (fun _ => ?_)
  refine w_iload_n dX10_alter_21 rfl ?_
  refine w_iconst (v := 0) dX10_alter_22 (by decide) ?_
  refine w_iconst (v := 3) dX10_alter_23 (by decide) ?_
  refine w_callS (as := [vI (nI v), vI (0), vI (3)]) (st := []) (Tri.mono (c_X10_within (nI v) (0) (3)) (Nat.le_of_ble_eq_true rfl)) tg_X10_within lk_X10_158 sa_X10_within rfl dX10_alter_24 rfl (Nat.le_of_ble_eq_true rfl) (Nat.le_refl _) (Nat.le_refl _) ?_
  rintro _ _ ⟨rfl, rfl⟩ -
  refine w_top (y := bI (0 ≤ ((v : Nat) : Int) ∧ ((v : Nat) : Int) ≤ 3)) (show (bI ((0 : Int32) ≤ (nI v) ∧ (nI v) ≤ (3 : Int32)) : Int32) = bI (0 ≤ ((v : Nat) : Int) ∧ ((v : Nat) : Int) ≤ 3) from wiZ (X := ((v : Nat) : Int)) (A := 0) (B := 3) (z_nI (by omega)) (by decide) (by decide)) ?_
  refine w_ifeq_b (tgt := 46) dX10_alter_27 (by decide) (fun h1 => ?_) (fun h1 => ?_)
  · skip
    first
    | (exfalso; omega)
    | skip
      refine w_iload_n dX10_alter_46 rfl ?_
      refine w_iconst (v := 1) dX10_alter_47 (by decide) ?_
      refine w_icmp_ne (tgt := 77) dX10_alter_48 (by decide) (fun _ => ?_) (fun h => absurd h (by decide))
      refine w_iload_n dX10_alter_77 rfl ?_
      refine w_iconst (v := 2) dX10_alter_78 (by decide) ?_
      refine w_icmp_ne (tgt := 108) dX10_alter_79 (by decide) (fun _ => ?_) (fun h => absurd h (by decide))
      refine w_iconst (v := (-1)) dX10_alter_108 (by decide) ?_
      exact w_ireturn dX10_alter_109 rfl (rfl) rfl (⟨rfl, _, _, rfl, hc.upJ j (f := 0) (by decide) v, FrC.up (by decide)⟩)
  · skip
    first
    | (exfalso; omega)
    | skip
      refine w_aload dX10_alter_30 rfl ?_
      refine w_getI ff_X10_115 rfl rfl dX10_alter_32 ?_
      rw [show (I 3 0 j 0 : Int32) = nI (jF a j 0) from hc.j hj (by decide)]
      refine w_istore (ls' := [some (vR 0 0 0), some (vI (nI j)), some (vI (0)), some (vI (nI v)), some (vR 3 0 j), some (vI (nI (jF a j 0)))]) dX10_alter_35 rfl ?_
      refine w_aload dX10_alter_37 rfl ?_
      refine w_iload_n dX10_alter_39 rfl ?_
      refine w_putI ff_X10_115 rfl rfl rfl rfl dX10_alter_40 ?_
      refine w_goto (tgt := 110) dX10_alter_43 (by decide) ?_
      refine w_iload dX10_alter_110 rfl ?_
      exact w_ireturn dX10_alter_112 rfl (rfl) rfl (⟨rfl, _, _, rfl, hc.upJ j (f := 0) (by decide) v, FrC.up (by decide)⟩)

theorem q_alter_0 {I : xF4 Int32} {L : xF4 Int64} {a : aA} (hs : SI I a) (hw : WF a) {j : Nat} (hj : j < nJ a) {v : Nat} (hv : v < 4) : Tri 19 109 m_X11_alter [vR 30 0 0, vI (nI j), vI (0), vI (nI v)] (rM I L) (pMc (nI (jF a j 0)) (ajF a j 0 v) I) := by
  refine ⟨k_X11_alter, Nat.le_of_ble_eq_true rfl, ?_⟩
  show Wp _ _ _ 0 [some (vR 30 0 0), some (vI (nI j)), some (vI (0)), some (vI (nI v)), none] [] (rM I L) _
  obtain ⟨hJ, hC, hG, hD, hR, -⟩ := id hw
  refine w_iload_n dX11_alter_0 rfl ?_
  refine w_if_ne (tgt := 16) dX11_alter_1 (by decide) (fun h => absurd (by decide) h) (fun _ => ?_)
  refine w_iload_n dX11_alter_4 rfl ?_
  refine w_i2l dX11_alter_5 ?_
  refine w_lconst (v := 0) dX11_alter_6 (by decide) ?_
  refine w_ldc2 dX11_alter_7 cq_X11_209 ?_
  refine w_callS (as := [vL ((nI v : Int32).toInt64), vL (0), vL (3)]) (st := []) (Tri.mono (d_in ((nI v : Int32).toInt64) (0) (3)) (Nat.le_of_ble_eq_true rfl)) tg_X11_in lk_X11_66 sa_X11_in rfl dX11_alter_10 rfl (Nat.le_of_ble_eq_true rfl) (Nat.le_refl _) (Nat.le_refl _) ?_
  rintro _ _ ⟨rfl, rfl⟩ -
  refine w_top (y := bI (0 ≤ ((v : Nat) : Int) ∧ ((v : Nat) : Int) ≤ 3)) (show (bI ((0 : Int64) ≤ ((nI v : Int32).toInt64) ∧ ((nI v : Int32).toInt64) ≤ (3 : Int64)) : Int32) = bI (0 ≤ ((v : Nat) : Int) ∧ ((v : Nat) : Int) ≤ 3) from inZ (x := nI v) (l := 0) (h := 3) (X := ((v : Nat) : Int)) (A := 0) (B := 3) rfl (by decide) (by decide) (z_nI (by omega)) (by decide) (by decide)) ?_
  refine w_goto (tgt := 55) dX11_alter_13 (by decide) ?_
  refine w_istore (ls' := [some (vR 30 0 0), some (vI (nI j)), some (vI (0)), some (vI (nI v)), some (vI (bI (0 ≤ ((v : Nat) : Int) ∧ ((v : Nat) : Int) ≤ 3)))]) dX11_alter_55 rfl ?_
  refine w_aload_n dX11_alter_57 rfl ?_
  refine w_iload_n dX11_alter_58 rfl ?_
  refine w_callV (as := [vI (nI j)]) (st := []) (Tri.mono (d_isJudge (hs.1) (by omega) (x := nI j) (X := ((j : Nat) : Int)) (z_nI (by omega))) (Nat.le_of_ble_eq_true rfl)) rfl rfl tg_X11_isJudge lk_X11_198 in_X11_isJudge se_X11_isJudge rfl dX11_alter_59 rfl (Nat.le_of_ble_eq_true rfl) (Nat.le_refl _) (Nat.le_refl _) ?_
  rintro _ _ ⟨rfl, rfl⟩ -
  refine w_ifeq_b (tgt := 83) dX11_alter_62 (by decide) (fun h1 => ?_) (fun h1 => ?_)
  · skip
    first
    | (exfalso; omega)
    | skip
      refine w_iconst (v := (-1)) dX11_alter_83 (by decide) ?_
      exact w_ireturn dX11_alter_84 rfl (rfl) rfl (⟨rfl, _, _, rfl, hs.up (hs.2.2.upJ (j := j) (f := 0) (by omega) (by decide) (by omega) v) rfl rfl, FrW.up (by omega)⟩)
  · skip
    first
    | (exfalso; omega)
    | skip
      refine w_iload dX11_alter_65 rfl ?_
      refine w_ifeq_b (tgt := 83) dX11_alter_67 (by decide) (fun h2 => ?_) (fun h2 => ?_)
      · skip
        first
        | (exfalso; omega)
        | skip
          refine w_iconst (v := (-1)) dX11_alter_83 (by decide) ?_
          exact w_ireturn dX11_alter_84 rfl (rfl) rfl (⟨rfl, _, _, rfl, hs.up (hs.2.2.upJ (j := j) (f := 0) (by omega) (by decide) (by omega) v) rfl rfl, FrW.up (by omega)⟩)
      · skip
        first
        | (exfalso; omega)
        | skip
          refine w_aload_n dX11_alter_70 rfl ?_
          refine w_iconst (v := 5) dX11_alter_71 (by decide) ?_
          refine w_iload_n dX11_alter_72 rfl ?_
          refine w_imul dX11_alter_73 ?_
          rw [show ((5) * (nI j) : Int32) = nI (5 * j) from ar_mul (p := 5) (q := j) rfl rfl (by first | rfl | omega)]
          refine w_iload_n dX11_alter_74 rfl ?_
          refine w_iadd dX11_alter_75 ?_
          rw [show ((nI (5 * j)) + (0) : Int32) = nI (5 * j) from ar_add (p := 5 * j) (q := 0) rfl rfl (by omega)]
          refine w_iload_n dX11_alter_76 rfl ?_
          refine w_callV (as := [vI (nI (5 * j)), vI (nI v)]) (st := []) (Tri.mono (d_becomes (k := 5 * j) (v := v) (by omega)) (Nat.le_of_ble_eq_true rfl)) rfl rfl tg_X11_becomes lk_X11_215 in_X11_becomes se_X11_becomes rfl dX11_alter_77 rfl (Nat.le_of_ble_eq_true rfl) (Nat.le_refl _) (Nat.le_refl _) ?_
          rintro _ _ ⟨rfl, rfl⟩ -
          refine w_top (y := nI (jF a j 0)) (show (I 31 0 0 (5 * j) : Int32) = nI (jF a j 0) from hs.2.2.j hj (f := 0) (by decide) (by omega)) ?_
          refine w_goto (tgt := 84) dX11_alter_80 (by decide) ?_
          exact w_ireturn dX11_alter_84 rfl (rfl) rfl (⟨rfl, _, _, rfl, hs.up (hs.2.2.upJ (j := j) (f := 0) (by omega) (by decide) (by omega) v) rfl rfl, FrW.up (by omega)⟩)

theorem p_alter_1 {I : xF4 Int32} {L : xF4 Int64} {a : aA} (hc : CourtIs I 0 a) (hw : WF a) {j : Nat} (hj : j < nJ a) {v : Nat} (h1v : 1 ≤ v) (hv : v ≤ 20) : Tri 19 109 m_X10_alter [vR 0 0 0, vI (nI j), vI (1), vI (nI v)] (rM I L) (pCc (nI (jF a j 1)) (ajF a j 1 v) I) := by
  refine ⟨k_X10_alter, Nat.le_of_ble_eq_true rfl, ?_⟩
  show Wp _ _ _ 0 [some (vR 0 0 0), some (vI (nI j)), some (vI (1)), some (vI (nI v)), none, none] [] (rM I L) _
  obtain ⟨hJ, hC, hG, hD, hR, -⟩ := id hw
  refine w_aload_n dX10_alter_0 rfl ?_
  refine w_getR (w := some (1, 0, 0)) ff_X10_10 rfl rfl dX10_alter_1 rfl ?_
  refine w_iload_n dX10_alter_4 rfl ?_
  refine w_callV (as := [vI (nI j)]) (st := []) (Tri.mono (c_jAt hc hw hj) (Nat.le_of_ble_eq_true rfl)) rfl rfl tg_X1_judgeAt lk_X10_111 in_X1_judgeAt se_X1_judgeAt rfl dX10_alter_5 rfl (Nat.le_of_ble_eq_true rfl) (Nat.le_refl _) (Nat.le_refl _) ?_
  rintro _ _ ⟨rfl, rfl⟩ -
  refine w_astore (ls' := [some (vR 0 0 0), some (vI (nI j)), some (vI (1)), some (vI (nI v)), some (vR 3 0 j), none]) dX10_alter_8 rfl ?_
  refine w_aload dX10_alter_10 rfl ?_
  refine w_ifnonnull (tgt := 17) dX10_alter_12 (by decide) (fun _ _ => ?_) (fun h => by cases h)
  refine w_iload_n dX10_alter_17 rfl ?_
  refine w_if_ne (tgt := 46) dX10_alter_18 (by decide) (fun _ => ?_) (fun h => absurd h (by decide))
  refine w_iload_n dX10_alter_46 rfl ?_
  refine w_iconst (v := 1) dX10_alter_47 (by decide) ?_
  refine w_icmp_ne (tgt := 77) dX10_alter_48 (by decide) (fun h => absurd (by decide) h) (fun _ => ?_)
  refine w_iload_n dX10_alter_51 rfl ?_
  refine w_iconst (v := 1) dX10_alter_52 (by decide) ?_
  refine w_bipush (v := 20) dX10_alter_53 (by decide) ?_
  refine w_callS (as := [vI (nI v), vI (1), vI (20)]) (st := []) (Tri.mono (c_X10_within (nI v) (1) (20)) (Nat.le_of_ble_eq_true rfl)) tg_X10_within lk_X10_158 sa_X10_within rfl dX10_alter_55 rfl (Nat.le_of_ble_eq_true rfl) (Nat.le_refl _) (Nat.le_refl _) ?_
  rintro _ _ ⟨rfl, rfl⟩ -
  refine w_top (y := bI (1 ≤ ((v : Nat) : Int) ∧ ((v : Nat) : Int) ≤ 20)) (show (bI ((1 : Int32) ≤ (nI v) ∧ (nI v) ≤ (20 : Int32)) : Int32) = bI (1 ≤ ((v : Nat) : Int) ∧ ((v : Nat) : Int) ≤ 20) from wiZ (X := ((v : Nat) : Int)) (A := 1) (B := 20) (z_nI (by omega)) (by decide) (by decide)) ?_
  refine w_ifeq_b (tgt := 77) dX10_alter_58 (by decide) (fun h1 => ?_) (fun h1 => ?_)
  · skip
    first
    | (exfalso; omega)
    | skip
      refine w_iload_n dX10_alter_77 rfl ?_
      refine w_iconst (v := 2) dX10_alter_78 (by decide) ?_
      refine w_icmp_ne (tgt := 108) dX10_alter_79 (by decide) (fun _ => ?_) (fun h => absurd h (by decide))
      refine w_iconst (v := (-1)) dX10_alter_108 (by decide) ?_
      exact w_ireturn dX10_alter_109 rfl (rfl) rfl (⟨rfl, _, _, rfl, hc.upJ j (f := 1) (by decide) v, FrC.up (by decide)⟩)
  · skip
    first
    | (exfalso; omega)
    | skip
      refine w_aload dX10_alter_61 rfl ?_
      refine w_getI ff_X10_120 rfl rfl dX10_alter_63 ?_
      rw [show (I 3 0 j 1 : Int32) = nI (jF a j 1) from hc.j hj (by decide)]
      refine w_istore (ls' := [some (vR 0 0 0), some (vI (nI j)), some (vI (1)), some (vI (nI v)), some (vR 3 0 j), some (vI (nI (jF a j 1)))]) dX10_alter_66 rfl ?_
      refine w_aload dX10_alter_68 rfl ?_
      refine w_iload_n dX10_alter_70 rfl ?_
      refine w_putI ff_X10_120 rfl rfl rfl rfl dX10_alter_71 ?_
      refine w_goto (tgt := 110) dX10_alter_74 (by decide) ?_
      refine w_iload dX10_alter_110 rfl ?_
      exact w_ireturn dX10_alter_112 rfl (rfl) rfl (⟨rfl, _, _, rfl, hc.upJ j (f := 1) (by decide) v, FrC.up (by decide)⟩)

theorem q_alter_1 {I : xF4 Int32} {L : xF4 Int64} {a : aA} (hs : SI I a) (hw : WF a) {j : Nat} (hj : j < nJ a) {v : Nat} (h1v : 1 ≤ v) (hv : v ≤ 20) : Tri 19 109 m_X11_alter [vR 30 0 0, vI (nI j), vI (1), vI (nI v)] (rM I L) (pMc (nI (jF a j 1)) (ajF a j 1 v) I) := by
  refine ⟨k_X11_alter, Nat.le_of_ble_eq_true rfl, ?_⟩
  show Wp _ _ _ 0 [some (vR 30 0 0), some (vI (nI j)), some (vI (1)), some (vI (nI v)), none] [] (rM I L) _
  obtain ⟨hJ, hC, hG, hD, hR, -⟩ := id hw
  refine w_iload_n dX11_alter_0 rfl ?_
  refine w_if_ne (tgt := 16) dX11_alter_1 (by decide) (fun _ => ?_) (fun h => absurd h (by decide))
  refine w_iload_n dX11_alter_16 rfl ?_
  refine w_iconst (v := 1) dX11_alter_17 (by decide) ?_
  refine w_icmp_ne (tgt := 33) dX11_alter_18 (by decide) (fun h => absurd (by decide) h) (fun _ => ?_)
  refine w_iload_n dX11_alter_21 rfl ?_
  refine w_i2l dX11_alter_22 ?_
  refine w_lconst (v := 1) dX11_alter_23 (by decide) ?_
  refine w_ldc2 dX11_alter_24 cq_X11_211 ?_
  refine w_callS (as := [vL ((nI v : Int32).toInt64), vL (1), vL (20)]) (st := []) (Tri.mono (d_in ((nI v : Int32).toInt64) (1) (20)) (Nat.le_of_ble_eq_true rfl)) tg_X11_in lk_X11_66 sa_X11_in rfl dX11_alter_27 rfl (Nat.le_of_ble_eq_true rfl) (Nat.le_refl _) (Nat.le_refl _) ?_
  rintro _ _ ⟨rfl, rfl⟩ -
  refine w_top (y := bI (1 ≤ ((v : Nat) : Int) ∧ ((v : Nat) : Int) ≤ 20)) (show (bI ((1 : Int64) ≤ ((nI v : Int32).toInt64) ∧ ((nI v : Int32).toInt64) ≤ (20 : Int64)) : Int32) = bI (1 ≤ ((v : Nat) : Int) ∧ ((v : Nat) : Int) ≤ 20) from inZ (x := nI v) (l := 1) (h := 20) (X := ((v : Nat) : Int)) (A := 1) (B := 20) rfl (by decide) (by decide) (z_nI (by omega)) (by decide) (by decide)) ?_
  refine w_goto (tgt := 55) dX11_alter_30 (by decide) ?_
  refine w_istore (ls' := [some (vR 30 0 0), some (vI (nI j)), some (vI (1)), some (vI (nI v)), some (vI (bI (1 ≤ ((v : Nat) : Int) ∧ ((v : Nat) : Int) ≤ 20)))]) dX11_alter_55 rfl ?_
  refine w_aload_n dX11_alter_57 rfl ?_
  refine w_iload_n dX11_alter_58 rfl ?_
  refine w_callV (as := [vI (nI j)]) (st := []) (Tri.mono (d_isJudge (hs.1) (by omega) (x := nI j) (X := ((j : Nat) : Int)) (z_nI (by omega))) (Nat.le_of_ble_eq_true rfl)) rfl rfl tg_X11_isJudge lk_X11_198 in_X11_isJudge se_X11_isJudge rfl dX11_alter_59 rfl (Nat.le_of_ble_eq_true rfl) (Nat.le_refl _) (Nat.le_refl _) ?_
  rintro _ _ ⟨rfl, rfl⟩ -
  refine w_ifeq_b (tgt := 83) dX11_alter_62 (by decide) (fun h1 => ?_) (fun h1 => ?_)
  · skip
    first
    | (exfalso; omega)
    | skip
      refine w_iconst (v := (-1)) dX11_alter_83 (by decide) ?_
      exact w_ireturn dX11_alter_84 rfl (rfl) rfl (⟨rfl, _, _, rfl, hs.up (hs.2.2.upJ (j := j) (f := 1) (by omega) (by decide) (by omega) v) rfl rfl, FrW.up (by omega)⟩)
  · skip
    first
    | (exfalso; omega)
    | skip
      refine w_iload dX11_alter_65 rfl ?_
      refine w_ifeq_b (tgt := 83) dX11_alter_67 (by decide) (fun h2 => ?_) (fun h2 => ?_)
      · skip
        first
        | (exfalso; omega)
        | skip
          refine w_iconst (v := (-1)) dX11_alter_83 (by decide) ?_
          exact w_ireturn dX11_alter_84 rfl (rfl) rfl (⟨rfl, _, _, rfl, hs.up (hs.2.2.upJ (j := j) (f := 1) (by omega) (by decide) (by omega) v) rfl rfl, FrW.up (by omega)⟩)
      · skip
        first
        | (exfalso; omega)
        | skip
          refine w_aload_n dX11_alter_70 rfl ?_
          refine w_iconst (v := 5) dX11_alter_71 (by decide) ?_
          refine w_iload_n dX11_alter_72 rfl ?_
          refine w_imul dX11_alter_73 ?_
          rw [show ((5) * (nI j) : Int32) = nI (5 * j) from ar_mul (p := 5) (q := j) rfl rfl (by first | rfl | omega)]
          refine w_iload_n dX11_alter_74 rfl ?_
          refine w_iadd dX11_alter_75 ?_
          rw [show ((nI (5 * j)) + (1) : Int32) = nI ((5 * j) + 1) from ar_add (p := 5 * j) (q := 1) rfl rfl (by omega)]
          refine w_iload_n dX11_alter_76 rfl ?_
          refine w_callV (as := [vI (nI ((5 * j) + 1)), vI (nI v)]) (st := []) (Tri.mono (d_becomes (k := (5 * j) + 1) (v := v) (by omega)) (Nat.le_of_ble_eq_true rfl)) rfl rfl tg_X11_becomes lk_X11_215 in_X11_becomes se_X11_becomes rfl dX11_alter_77 rfl (Nat.le_of_ble_eq_true rfl) (Nat.le_refl _) (Nat.le_refl _) ?_
          rintro _ _ ⟨rfl, rfl⟩ -
          refine w_top (y := nI (jF a j 1)) (show (I 31 0 0 ((5 * j) + 1) : Int32) = nI (jF a j 1) from hs.2.2.j hj (f := 1) (by decide) (by omega)) ?_
          refine w_goto (tgt := 84) dX11_alter_80 (by decide) ?_
          exact w_ireturn dX11_alter_84 rfl (rfl) rfl (⟨rfl, _, _, rfl, hs.up (hs.2.2.upJ (j := j) (f := 1) (by omega) (by decide) (by omega) v) rfl rfl, FrW.up (by omega)⟩)

theorem p_alter_2 {I : xF4 Int32} {L : xF4 Int64} {a : aA} (hc : CourtIs I 0 a) (hw : WF a) {j : Nat} (hj : j < nJ a) {v : Nat} (hv : v ≤ 99) : Tri 19 109 m_X10_alter [vR 0 0 0, vI (nI j), vI (2), vI (nI v)] (rM I L) (pCc (nI (jF a j 2)) (ajF a j 2 v) I) := by
  refine ⟨k_X10_alter, Nat.le_of_ble_eq_true rfl, ?_⟩
  show Wp _ _ _ 0 [some (vR 0 0 0), some (vI (nI j)), some (vI (2)), some (vI (nI v)), none, none] [] (rM I L) _
  obtain ⟨hJ, hC, hG, hD, hR, -⟩ := id hw
  refine w_aload_n dX10_alter_0 rfl ?_
  refine w_getR (w := some (1, 0, 0)) ff_X10_10 rfl rfl dX10_alter_1 rfl ?_
  refine w_iload_n dX10_alter_4 rfl ?_
  refine w_callV (as := [vI (nI j)]) (st := []) (Tri.mono (c_jAt hc hw hj) (Nat.le_of_ble_eq_true rfl)) rfl rfl tg_X1_judgeAt lk_X10_111 in_X1_judgeAt se_X1_judgeAt rfl dX10_alter_5 rfl (Nat.le_of_ble_eq_true rfl) (Nat.le_refl _) (Nat.le_refl _) ?_
  rintro _ _ ⟨rfl, rfl⟩ -
  refine w_astore (ls' := [some (vR 0 0 0), some (vI (nI j)), some (vI (2)), some (vI (nI v)), some (vR 3 0 j), none]) dX10_alter_8 rfl ?_
  refine w_aload dX10_alter_10 rfl ?_
  refine w_ifnonnull (tgt := 17) dX10_alter_12 (by decide) (fun _ _ => ?_) (fun h => by cases h)
  refine w_iload_n dX10_alter_17 rfl ?_
  refine w_if_ne (tgt := 46) dX10_alter_18 (by decide) (fun _ => ?_) (fun h => absurd h (by decide))
  refine w_iload_n dX10_alter_46 rfl ?_
  refine w_iconst (v := 1) dX10_alter_47 (by decide) ?_
  refine w_icmp_ne (tgt := 77) dX10_alter_48 (by decide) (fun _ => ?_) (fun h => absurd h (by decide))
  refine w_iload_n dX10_alter_77 rfl ?_
  refine w_iconst (v := 2) dX10_alter_78 (by decide) ?_
  refine w_icmp_ne (tgt := 108) dX10_alter_79 (by decide) (fun h => absurd (by decide) h) (fun _ => ?_)
  refine w_iload_n dX10_alter_82 rfl ?_
  refine w_iconst (v := 0) dX10_alter_83 (by decide) ?_
  refine w_bipush (v := 99) dX10_alter_84 (by decide) ?_
  refine w_callS (as := [vI (nI v), vI (0), vI (99)]) (st := []) (Tri.mono (c_X10_within (nI v) (0) (99)) (Nat.le_of_ble_eq_true rfl)) tg_X10_within lk_X10_158 sa_X10_within rfl dX10_alter_86 rfl (Nat.le_of_ble_eq_true rfl) (Nat.le_refl _) (Nat.le_refl _) ?_
  rintro _ _ ⟨rfl, rfl⟩ -
  refine w_top (y := bI (0 ≤ ((v : Nat) : Int) ∧ ((v : Nat) : Int) ≤ 99)) (show (bI ((0 : Int32) ≤ (nI v) ∧ (nI v) ≤ (99 : Int32)) : Int32) = bI (0 ≤ ((v : Nat) : Int) ∧ ((v : Nat) : Int) ≤ 99) from wiZ (X := ((v : Nat) : Int)) (A := 0) (B := 99) (z_nI (by omega)) (by decide) (by decide)) ?_
  refine w_ifeq_b (tgt := 108) dX10_alter_89 (by decide) (fun h1 => ?_) (fun h1 => ?_)
  · skip
    first
    | (exfalso; omega)
    | skip
      refine w_iconst (v := (-1)) dX10_alter_108 (by decide) ?_
      exact w_ireturn dX10_alter_109 rfl (rfl) rfl (⟨rfl, _, _, rfl, hc.upJ j (f := 2) (by decide) v, FrC.up (by decide)⟩)
  · skip
    first
    | (exfalso; omega)
    | skip
      refine w_aload dX10_alter_92 rfl ?_
      refine w_getI ff_X10_123 rfl rfl dX10_alter_94 ?_
      rw [show (I 3 0 j 2 : Int32) = nI (jF a j 2) from hc.j hj (by decide)]
      refine w_istore (ls' := [some (vR 0 0 0), some (vI (nI j)), some (vI (2)), some (vI (nI v)), some (vR 3 0 j), some (vI (nI (jF a j 2)))]) dX10_alter_97 rfl ?_
      refine w_aload dX10_alter_99 rfl ?_
      refine w_iload_n dX10_alter_101 rfl ?_
      refine w_putI ff_X10_123 rfl rfl rfl rfl dX10_alter_102 ?_
      refine w_goto (tgt := 110) dX10_alter_105 (by decide) ?_
      refine w_iload dX10_alter_110 rfl ?_
      exact w_ireturn dX10_alter_112 rfl (rfl) rfl (⟨rfl, _, _, rfl, hc.upJ j (f := 2) (by decide) v, FrC.up (by decide)⟩)

theorem q_alter_2 {I : xF4 Int32} {L : xF4 Int64} {a : aA} (hs : SI I a) (hw : WF a) {j : Nat} (hj : j < nJ a) {v : Nat} (hv : v ≤ 99) : Tri 19 109 m_X11_alter [vR 30 0 0, vI (nI j), vI (2), vI (nI v)] (rM I L) (pMc (nI (jF a j 2)) (ajF a j 2 v) I) := by
  refine ⟨k_X11_alter, Nat.le_of_ble_eq_true rfl, ?_⟩
  show Wp _ _ _ 0 [some (vR 30 0 0), some (vI (nI j)), some (vI (2)), some (vI (nI v)), none] [] (rM I L) _
  obtain ⟨hJ, hC, hG, hD, hR, -⟩ := id hw
  refine w_iload_n dX11_alter_0 rfl ?_
  refine w_if_ne (tgt := 16) dX11_alter_1 (by decide) (fun _ => ?_) (fun h => absurd h (by decide))
  refine w_iload_n dX11_alter_16 rfl ?_
  refine w_iconst (v := 1) dX11_alter_17 (by decide) ?_
  refine w_icmp_ne (tgt := 33) dX11_alter_18 (by decide) (fun _ => ?_) (fun h => absurd h (by decide))
  refine w_iload_n dX11_alter_33 rfl ?_
  refine w_iconst (v := 2) dX11_alter_34 (by decide) ?_
  refine w_icmp_ne (tgt := 54) dX11_alter_35 (by decide) (fun h => absurd (by decide) h) (fun _ => ?_)
  refine w_iload_n dX11_alter_38 rfl ?_
  refine w_i2l dX11_alter_39 ?_
  refine w_lconst (v := 0) dX11_alter_40 (by decide) ?_
  refine w_ldc2 dX11_alter_41 cq_X11_213 ?_
  refine w_callS (as := [vL ((nI v : Int32).toInt64), vL (0), vL (99)]) (st := []) (Tri.mono (d_in ((nI v : Int32).toInt64) (0) (99)) (Nat.le_of_ble_eq_true rfl)) tg_X11_in lk_X11_66 sa_X11_in rfl dX11_alter_44 rfl (Nat.le_of_ble_eq_true rfl) (Nat.le_refl _) (Nat.le_refl _) ?_
  rintro _ _ ⟨rfl, rfl⟩ -
  refine w_top (y := bI (0 ≤ ((v : Nat) : Int) ∧ ((v : Nat) : Int) ≤ 99)) (show (bI ((0 : Int64) ≤ ((nI v : Int32).toInt64) ∧ ((nI v : Int32).toInt64) ≤ (99 : Int64)) : Int32) = bI (0 ≤ ((v : Nat) : Int) ∧ ((v : Nat) : Int) ≤ 99) from inZ (x := nI v) (l := 0) (h := 99) (X := ((v : Nat) : Int)) (A := 0) (B := 99) rfl (by decide) (by decide) (z_nI (by omega)) (by decide) (by decide)) ?_
  refine w_ifeq_b (tgt := 54) dX11_alter_47 (by decide) (fun h1 => ?_) (fun h1 => ?_)
  · skip
    first
    | (exfalso; omega)
    | skip
      refine w_iconst (v := 0) dX11_alter_54 (by decide) ?_
      refine w_istore (ls' := [some (vR 30 0 0), some (vI (nI j)), some (vI (2)), some (vI (nI v)), some (vI (0))]) dX11_alter_55 rfl ?_
      refine w_aload_n dX11_alter_57 rfl ?_
      refine w_iload_n dX11_alter_58 rfl ?_
      refine w_callV (as := [vI (nI j)]) (st := []) (Tri.mono (d_isJudge (hs.1) (by omega) (x := nI j) (X := ((j : Nat) : Int)) (z_nI (by omega))) (Nat.le_of_ble_eq_true rfl)) rfl rfl tg_X11_isJudge lk_X11_198 in_X11_isJudge se_X11_isJudge rfl dX11_alter_59 rfl (Nat.le_of_ble_eq_true rfl) (Nat.le_refl _) (Nat.le_refl _) ?_
      rintro _ _ ⟨rfl, rfl⟩ -
      refine w_ifeq_b (tgt := 83) dX11_alter_62 (by decide) (fun h2 => ?_) (fun h2 => ?_)
      · skip
        first
        | (exfalso; omega)
        | skip
          refine w_iconst (v := (-1)) dX11_alter_83 (by decide) ?_
          exact w_ireturn dX11_alter_84 rfl (rfl) rfl (⟨rfl, _, _, rfl, hs.up (hs.2.2.upJ (j := j) (f := 2) (by omega) (by decide) (by omega) v) rfl rfl, FrW.up (by omega)⟩)
      · skip
        first
        | (exfalso; omega)
        | skip
          refine w_iload dX11_alter_65 rfl ?_
          refine w_if_eq (tgt := 83) dX11_alter_67 (by decide) (fun _ => ?_) (fun h => absurd (by decide) h)
          refine w_iconst (v := (-1)) dX11_alter_83 (by decide) ?_
          exact w_ireturn dX11_alter_84 rfl (rfl) rfl (⟨rfl, _, _, rfl, hs.up (hs.2.2.upJ (j := j) (f := 2) (by omega) (by decide) (by omega) v) rfl rfl, FrW.up (by omega)⟩)
  · skip
    first
    | (exfalso; omega)
    | skip
      refine w_iconst (v := 1) dX11_alter_50 (by decide) ?_
      refine w_goto (tgt := 55) dX11_alter_51 (by decide) ?_
      refine w_istore (ls' := [some (vR 30 0 0), some (vI (nI j)), some (vI (2)), some (vI (nI v)), some (vI (1))]) dX11_alter_55 rfl ?_
      refine w_aload_n dX11_alter_57 rfl ?_
      refine w_iload_n dX11_alter_58 rfl ?_
      refine w_callV (as := [vI (nI j)]) (st := []) (Tri.mono (d_isJudge (hs.1) (by omega) (x := nI j) (X := ((j : Nat) : Int)) (z_nI (by omega))) (Nat.le_of_ble_eq_true rfl)) rfl rfl tg_X11_isJudge lk_X11_198 in_X11_isJudge se_X11_isJudge rfl dX11_alter_59 rfl (Nat.le_of_ble_eq_true rfl) (Nat.le_refl _) (Nat.le_refl _) ?_
      rintro _ _ ⟨rfl, rfl⟩ -
      refine w_ifeq_b (tgt := 83) dX11_alter_62 (by decide) (fun h2 => ?_) (fun h2 => ?_)
      · skip
        first
        | (exfalso; omega)
        | skip
          refine w_iconst (v := (-1)) dX11_alter_83 (by decide) ?_
          exact w_ireturn dX11_alter_84 rfl (rfl) rfl (⟨rfl, _, _, rfl, hs.up (hs.2.2.upJ (j := j) (f := 2) (by omega) (by decide) (by omega) v) rfl rfl, FrW.up (by omega)⟩)
      · skip
        first
        | (exfalso; omega)
        | skip
          refine w_iload dX11_alter_65 rfl ?_
          refine w_if_eq (tgt := 83) dX11_alter_67 (by decide) (fun h => absurd h (by decide)) (fun _ => ?_)
          refine w_aload_n dX11_alter_70 rfl ?_
          refine w_iconst (v := 5) dX11_alter_71 (by decide) ?_
          refine w_iload_n dX11_alter_72 rfl ?_
          refine w_imul dX11_alter_73 ?_
          rw [show ((5) * (nI j) : Int32) = nI (5 * j) from ar_mul (p := 5) (q := j) rfl rfl (by first | rfl | omega)]
          refine w_iload_n dX11_alter_74 rfl ?_
          refine w_iadd dX11_alter_75 ?_
          rw [show ((nI (5 * j)) + (2) : Int32) = nI ((5 * j) + 2) from ar_add (p := 5 * j) (q := 2) rfl rfl (by omega)]
          refine w_iload_n dX11_alter_76 rfl ?_
          refine w_callV (as := [vI (nI ((5 * j) + 2)), vI (nI v)]) (st := []) (Tri.mono (d_becomes (k := (5 * j) + 2) (v := v) (by omega)) (Nat.le_of_ble_eq_true rfl)) rfl rfl tg_X11_becomes lk_X11_215 in_X11_becomes se_X11_becomes rfl dX11_alter_77 rfl (Nat.le_of_ble_eq_true rfl) (Nat.le_refl _) (Nat.le_refl _) ?_
          rintro _ _ ⟨rfl, rfl⟩ -
          refine w_top (y := nI (jF a j 2)) (show (I 31 0 0 ((5 * j) + 2) : Int32) = nI (jF a j 2) from hs.2.2.j hj (f := 2) (by decide) (by omega)) ?_
          refine w_goto (tgt := 84) dX11_alter_80 (by decide) ?_
          exact w_ireturn dX11_alter_84 rfl (rfl) rfl (⟨rfl, _, _, rfl, hs.up (hs.2.2.upJ (j := j) (f := 2) (by omega) (by decide) (by omega) v) rfl rfl, FrW.up (by omega)⟩)

theorem p_alter_v0 {I : xF4 Int32} {L : xF4 Int64} {a : aA} (hc : CourtIs I 0 a) (hw : WF a) {j : Nat} (hj : j < nJ a) {v : Int32} (hx : v.toInt < ((0 : Nat) : Int) ∨ ((3 : Nat) : Int) < v.toInt) : Tri 19 109 m_X10_alter [vR 0 0 0, vI (nI j), vI (0), vI (v)] (rM I L) (pCq (vI (-1)) I) := by
  refine ⟨k_X10_alter, Nat.le_of_ble_eq_true rfl, ?_⟩
  show Wp _ _ _ 0 [some (vR 0 0 0), some (vI (nI j)), some (vI (0)), some (vI (v)), none, none] [] (rM I L) _
  obtain ⟨hJ, hC, hG, hD, hR, -⟩ := id hw
  refine w_aload_n dX10_alter_0 rfl ?_
  refine w_getR (w := some (1, 0, 0)) ff_X10_10 rfl rfl dX10_alter_1 rfl ?_
  refine w_iload_n dX10_alter_4 rfl ?_
  refine w_callV (as := [vI (nI j)]) (st := []) (Tri.mono (c_jAt hc hw hj) (Nat.le_of_ble_eq_true rfl)) rfl rfl tg_X1_judgeAt lk_X10_111 in_X1_judgeAt se_X1_judgeAt rfl dX10_alter_5 rfl (Nat.le_of_ble_eq_true rfl) (Nat.le_refl _) (Nat.le_refl _) ?_
  rintro _ _ ⟨rfl, rfl⟩ -
  refine w_astore (ls' := [some (vR 0 0 0), some (vI (nI j)), some (vI (0)), some (vI (v)), some (vR 3 0 j), none]) dX10_alter_8 rfl ?_
  refine w_aload dX10_alter_10 rfl ?_
  refine w_ifnonnull (tgt := 17) dX10_alter_12 (by decide) (fun _ _ => ?_) (fun h => by cases h)
  refine w_iload_n dX10_alter_17 rfl ?_
  refine w_if_ne (tgt := 46) dX10_alter_18 (by decide) (fun h => absurd (by decide) h) (fun _ => ?_)
  refine w_iload_n dX10_alter_21 rfl ?_
  refine w_iconst (v := 0) dX10_alter_22 (by decide) ?_
  refine w_iconst (v := 3) dX10_alter_23 (by decide) ?_
  refine w_callS (as := [vI (v), vI (0), vI (3)]) (st := []) (Tri.mono (c_X10_within (v) (0) (3)) (Nat.le_of_ble_eq_true rfl)) tg_X10_within lk_X10_158 sa_X10_within rfl dX10_alter_24 rfl (Nat.le_of_ble_eq_true rfl) (Nat.le_refl _) (Nat.le_refl _) ?_
  rintro _ _ ⟨rfl, rfl⟩ -
  refine w_top (y := bI (0 ≤ v.toInt ∧ v.toInt ≤ 3)) (show (bI ((0 : Int32) ≤ (v) ∧ (v) ≤ (3 : Int32)) : Int32) = bI (0 ≤ v.toInt ∧ v.toInt ≤ 3) from wiZ (X := v.toInt) (A := 0) (B := 3) rfl (by decide) (by decide)) ?_
  refine w_ifeq_b (tgt := 46) dX10_alter_27 (by decide) (fun h1 => ?_) (fun h1 => ?_)
  · skip
    first
    | (exfalso; omega)
    | skip
      refine w_iload_n dX10_alter_46 rfl ?_
      refine w_iconst (v := 1) dX10_alter_47 (by decide) ?_
      refine w_icmp_ne (tgt := 77) dX10_alter_48 (by decide) (fun _ => ?_) (fun h => absurd h (by decide))
      refine w_iload_n dX10_alter_77 rfl ?_
      refine w_iconst (v := 2) dX10_alter_78 (by decide) ?_
      refine w_icmp_ne (tgt := 108) dX10_alter_79 (by decide) (fun _ => ?_) (fun h => absurd h (by decide))
      refine w_iconst (v := (-1)) dX10_alter_108 (by decide) ?_
      exact w_ireturn dX10_alter_109 rfl (rfl) rfl (⟨rfl, _, _, rfl, FrQ.rf⟩)
  · skip
    first
    | (exfalso; omega)
    | skip
      refine w_aload dX10_alter_30 rfl ?_
      refine w_getI ff_X10_115 rfl rfl dX10_alter_32 ?_
      rw [show (I 3 0 j 0 : Int32) = nI (jF a j 0) from hc.j hj (by decide)]
      refine w_istore (ls' := [some (vR 0 0 0), some (vI (nI j)), some (vI (0)), some (vI (v)), some (vR 3 0 j), some (vI (nI (jF a j 0)))]) dX10_alter_35 rfl ?_
      refine w_aload dX10_alter_37 rfl ?_
      refine w_iload_n dX10_alter_39 rfl ?_
      refine w_putI ff_X10_115 rfl rfl rfl rfl dX10_alter_40 ?_
      refine w_goto (tgt := 110) dX10_alter_43 (by decide) ?_
      refine w_iload dX10_alter_110 rfl ?_
      exact w_ireturn dX10_alter_112 rfl (rfl) rfl (⟨rfl, _, _, rfl, FrQ.rf⟩)

theorem q_alter_v0 {I : xF4 Int32} {L : xF4 Int64} {a : aA} (hs : SI I a) (hw : WF a) {j : Nat} (hj : j < nJ a) {v : Int32} (hx : v.toInt < ((0 : Nat) : Int) ∨ ((3 : Nat) : Int) < v.toInt) : Tri 19 109 m_X11_alter [vR 30 0 0, vI (nI j), vI (0), vI (v)] (rM I L) (pMq (vI (-1)) I) := by
  refine ⟨k_X11_alter, Nat.le_of_ble_eq_true rfl, ?_⟩
  show Wp _ _ _ 0 [some (vR 30 0 0), some (vI (nI j)), some (vI (0)), some (vI (v)), none] [] (rM I L) _
  obtain ⟨hJ, hC, hG, hD, hR, -⟩ := id hw
  refine w_iload_n dX11_alter_0 rfl ?_
  refine w_if_ne (tgt := 16) dX11_alter_1 (by decide) (fun h => absurd (by decide) h) (fun _ => ?_)
  refine w_iload_n dX11_alter_4 rfl ?_
  refine w_i2l dX11_alter_5 ?_
  refine w_lconst (v := 0) dX11_alter_6 (by decide) ?_
  refine w_ldc2 dX11_alter_7 cq_X11_209 ?_
  refine w_callS (as := [vL ((v : Int32).toInt64), vL (0), vL (3)]) (st := []) (Tri.mono (d_in ((v : Int32).toInt64) (0) (3)) (Nat.le_of_ble_eq_true rfl)) tg_X11_in lk_X11_66 sa_X11_in rfl dX11_alter_10 rfl (Nat.le_of_ble_eq_true rfl) (Nat.le_refl _) (Nat.le_refl _) ?_
  rintro _ _ ⟨rfl, rfl⟩ -
  refine w_top (y := bI (0 ≤ v.toInt ∧ v.toInt ≤ 3)) (show (bI ((0 : Int64) ≤ ((v : Int32).toInt64) ∧ ((v : Int32).toInt64) ≤ (3 : Int64)) : Int32) = bI (0 ≤ v.toInt ∧ v.toInt ≤ 3) from inZ (x := v) (l := 0) (h := 3) (X := v.toInt) (A := 0) (B := 3) rfl (by decide) (by decide) rfl (by decide) (by decide)) ?_
  refine w_goto (tgt := 55) dX11_alter_13 (by decide) ?_
  refine w_istore (ls' := [some (vR 30 0 0), some (vI (nI j)), some (vI (0)), some (vI (v)), some (vI (bI (0 ≤ v.toInt ∧ v.toInt ≤ 3)))]) dX11_alter_55 rfl ?_
  refine w_aload_n dX11_alter_57 rfl ?_
  refine w_iload_n dX11_alter_58 rfl ?_
  refine w_callV (as := [vI (nI j)]) (st := []) (Tri.mono (d_isJudge (hs.1) (by omega) (x := nI j) (X := ((j : Nat) : Int)) (z_nI (by omega))) (Nat.le_of_ble_eq_true rfl)) rfl rfl tg_X11_isJudge lk_X11_198 in_X11_isJudge se_X11_isJudge rfl dX11_alter_59 rfl (Nat.le_of_ble_eq_true rfl) (Nat.le_refl _) (Nat.le_refl _) ?_
  rintro _ _ ⟨rfl, rfl⟩ -
  refine w_ifeq_b (tgt := 83) dX11_alter_62 (by decide) (fun h1 => ?_) (fun h1 => ?_)
  · skip
    first
    | (exfalso; omega)
    | skip
      refine w_iconst (v := (-1)) dX11_alter_83 (by decide) ?_
      exact w_ireturn dX11_alter_84 rfl (rfl) rfl (⟨rfl, _, _, rfl, FrR.rf⟩)
  · skip
    first
    | (exfalso; omega)
    | skip
      refine w_iload dX11_alter_65 rfl ?_
      refine w_ifeq_b (tgt := 83) dX11_alter_67 (by decide) (fun h2 => ?_) (fun h2 => ?_)
      · skip
        first
        | (exfalso; omega)
        | skip
          refine w_iconst (v := (-1)) dX11_alter_83 (by decide) ?_
          exact w_ireturn dX11_alter_84 rfl (rfl) rfl (⟨rfl, _, _, rfl, FrR.rf⟩)
      · skip
        first
        | (exfalso; omega)
        | skip
          refine w_aload_n dX11_alter_70 rfl ?_
          refine w_iconst (v := 5) dX11_alter_71 (by decide) ?_
          refine w_iload_n dX11_alter_72 rfl ?_
          refine w_imul dX11_alter_73 ?_
          rw [show ((5) * (nI j) : Int32) = nI (5 * j) from ar_mul (p := 5) (q := j) rfl rfl (by first | rfl | omega)]
          refine w_iload_n dX11_alter_74 rfl ?_
          refine w_iadd dX11_alter_75 ?_
          rw [show ((nI (5 * j)) + (0) : Int32) = nI (5 * j) from ar_add (p := 5 * j) (q := 0) rfl rfl (by omega)]
          refine w_iload_n dX11_alter_76 rfl ?_
          exfalso
          omega

theorem p_alter_v1 {I : xF4 Int32} {L : xF4 Int64} {a : aA} (hc : CourtIs I 0 a) (hw : WF a) {j : Nat} (hj : j < nJ a) {v : Int32} (hx : v.toInt < ((1 : Nat) : Int) ∨ ((20 : Nat) : Int) < v.toInt) : Tri 19 109 m_X10_alter [vR 0 0 0, vI (nI j), vI (1), vI (v)] (rM I L) (pCq (vI (-1)) I) := by
  refine ⟨k_X10_alter, Nat.le_of_ble_eq_true rfl, ?_⟩
  show Wp _ _ _ 0 [some (vR 0 0 0), some (vI (nI j)), some (vI (1)), some (vI (v)), none, none] [] (rM I L) _
  obtain ⟨hJ, hC, hG, hD, hR, -⟩ := id hw
  refine w_aload_n dX10_alter_0 rfl ?_
  refine w_getR (w := some (1, 0, 0)) ff_X10_10 rfl rfl dX10_alter_1 rfl ?_
  refine w_iload_n dX10_alter_4 rfl ?_
  refine w_callV (as := [vI (nI j)]) (st := []) (Tri.mono (c_jAt hc hw hj) (Nat.le_of_ble_eq_true rfl)) rfl rfl tg_X1_judgeAt lk_X10_111 in_X1_judgeAt se_X1_judgeAt rfl dX10_alter_5 rfl (Nat.le_of_ble_eq_true rfl) (Nat.le_refl _) (Nat.le_refl _) ?_
  rintro _ _ ⟨rfl, rfl⟩ -
  refine w_astore (ls' := [some (vR 0 0 0), some (vI (nI j)), some (vI (1)), some (vI (v)), some (vR 3 0 j), none]) dX10_alter_8 rfl ?_
  refine w_aload dX10_alter_10 rfl ?_
  refine w_ifnonnull (tgt := 17) dX10_alter_12 (by decide) (fun _ _ => ?_) (fun h => by cases h)
  refine w_iload_n dX10_alter_17 rfl ?_
  refine w_if_ne (tgt := 46) dX10_alter_18 (by decide) (fun _ => ?_) (fun h => absurd h (by decide))
  refine w_iload_n dX10_alter_46 rfl ?_
  refine w_iconst (v := 1) dX10_alter_47 (by decide) ?_
  refine w_icmp_ne (tgt := 77) dX10_alter_48 (by decide) (fun h => absurd (by decide) h) (fun _ => ?_)
  refine w_iload_n dX10_alter_51 rfl ?_
  refine w_iconst (v := 1) dX10_alter_52 (by decide) ?_
  refine w_bipush (v := 20) dX10_alter_53 (by decide) ?_
  refine w_callS (as := [vI (v), vI (1), vI (20)]) (st := []) (Tri.mono (c_X10_within (v) (1) (20)) (Nat.le_of_ble_eq_true rfl)) tg_X10_within lk_X10_158 sa_X10_within rfl dX10_alter_55 rfl (Nat.le_of_ble_eq_true rfl) (Nat.le_refl _) (Nat.le_refl _) ?_
  rintro _ _ ⟨rfl, rfl⟩ -
  refine w_top (y := bI (1 ≤ v.toInt ∧ v.toInt ≤ 20)) (show (bI ((1 : Int32) ≤ (v) ∧ (v) ≤ (20 : Int32)) : Int32) = bI (1 ≤ v.toInt ∧ v.toInt ≤ 20) from wiZ (X := v.toInt) (A := 1) (B := 20) rfl (by decide) (by decide)) ?_
  refine w_ifeq_b (tgt := 77) dX10_alter_58 (by decide) (fun h1 => ?_) (fun h1 => ?_)
  · skip
    first
    | (exfalso; omega)
    | skip
      refine w_iload_n dX10_alter_77 rfl ?_
      refine w_iconst (v := 2) dX10_alter_78 (by decide) ?_
      refine w_icmp_ne (tgt := 108) dX10_alter_79 (by decide) (fun _ => ?_) (fun h => absurd h (by decide))
      refine w_iconst (v := (-1)) dX10_alter_108 (by decide) ?_
      exact w_ireturn dX10_alter_109 rfl (rfl) rfl (⟨rfl, _, _, rfl, FrQ.rf⟩)
  · skip
    first
    | (exfalso; omega)
    | skip
      refine w_aload dX10_alter_61 rfl ?_
      refine w_getI ff_X10_120 rfl rfl dX10_alter_63 ?_
      rw [show (I 3 0 j 1 : Int32) = nI (jF a j 1) from hc.j hj (by decide)]
      refine w_istore (ls' := [some (vR 0 0 0), some (vI (nI j)), some (vI (1)), some (vI (v)), some (vR 3 0 j), some (vI (nI (jF a j 1)))]) dX10_alter_66 rfl ?_
      refine w_aload dX10_alter_68 rfl ?_
      refine w_iload_n dX10_alter_70 rfl ?_
      refine w_putI ff_X10_120 rfl rfl rfl rfl dX10_alter_71 ?_
      refine w_goto (tgt := 110) dX10_alter_74 (by decide) ?_
      refine w_iload dX10_alter_110 rfl ?_
      exact w_ireturn dX10_alter_112 rfl (rfl) rfl (⟨rfl, _, _, rfl, FrQ.rf⟩)

theorem q_alter_v1 {I : xF4 Int32} {L : xF4 Int64} {a : aA} (hs : SI I a) (hw : WF a) {j : Nat} (hj : j < nJ a) {v : Int32} (hx : v.toInt < ((1 : Nat) : Int) ∨ ((20 : Nat) : Int) < v.toInt) : Tri 19 109 m_X11_alter [vR 30 0 0, vI (nI j), vI (1), vI (v)] (rM I L) (pMq (vI (-1)) I) := by
  refine ⟨k_X11_alter, Nat.le_of_ble_eq_true rfl, ?_⟩
  show Wp _ _ _ 0 [some (vR 30 0 0), some (vI (nI j)), some (vI (1)), some (vI (v)), none] [] (rM I L) _
  obtain ⟨hJ, hC, hG, hD, hR, -⟩ := id hw
  refine w_iload_n dX11_alter_0 rfl ?_
  refine w_if_ne (tgt := 16) dX11_alter_1 (by decide) (fun _ => ?_) (fun h => absurd h (by decide))
  refine w_iload_n dX11_alter_16 rfl ?_
  refine w_iconst (v := 1) dX11_alter_17 (by decide) ?_
  refine w_icmp_ne (tgt := 33) dX11_alter_18 (by decide) (fun h => absurd (by decide) h) (fun _ => ?_)
  refine w_iload_n dX11_alter_21 rfl ?_
  refine w_i2l dX11_alter_22 ?_
  refine w_lconst (v := 1) dX11_alter_23 (by decide) ?_
  refine w_ldc2 dX11_alter_24 cq_X11_211 ?_
  refine w_callS (as := [vL ((v : Int32).toInt64), vL (1), vL (20)]) (st := []) (Tri.mono (d_in ((v : Int32).toInt64) (1) (20)) (Nat.le_of_ble_eq_true rfl)) tg_X11_in lk_X11_66 sa_X11_in rfl dX11_alter_27 rfl (Nat.le_of_ble_eq_true rfl) (Nat.le_refl _) (Nat.le_refl _) ?_
  rintro _ _ ⟨rfl, rfl⟩ -
  refine w_top (y := bI (1 ≤ v.toInt ∧ v.toInt ≤ 20)) (show (bI ((1 : Int64) ≤ ((v : Int32).toInt64) ∧ ((v : Int32).toInt64) ≤ (20 : Int64)) : Int32) = bI (1 ≤ v.toInt ∧ v.toInt ≤ 20) from inZ (x := v) (l := 1) (h := 20) (X := v.toInt) (A := 1) (B := 20) rfl (by decide) (by decide) rfl (by decide) (by decide)) ?_
  refine w_goto (tgt := 55) dX11_alter_30 (by decide) ?_
  refine w_istore (ls' := [some (vR 30 0 0), some (vI (nI j)), some (vI (1)), some (vI (v)), some (vI (bI (1 ≤ v.toInt ∧ v.toInt ≤ 20)))]) dX11_alter_55 rfl ?_
  refine w_aload_n dX11_alter_57 rfl ?_
  refine w_iload_n dX11_alter_58 rfl ?_
  refine w_callV (as := [vI (nI j)]) (st := []) (Tri.mono (d_isJudge (hs.1) (by omega) (x := nI j) (X := ((j : Nat) : Int)) (z_nI (by omega))) (Nat.le_of_ble_eq_true rfl)) rfl rfl tg_X11_isJudge lk_X11_198 in_X11_isJudge se_X11_isJudge rfl dX11_alter_59 rfl (Nat.le_of_ble_eq_true rfl) (Nat.le_refl _) (Nat.le_refl _) ?_
  rintro _ _ ⟨rfl, rfl⟩ -
  refine w_ifeq_b (tgt := 83) dX11_alter_62 (by decide) (fun h1 => ?_) (fun h1 => ?_)
  · skip
    first
    | (exfalso; omega)
    | skip
      refine w_iconst (v := (-1)) dX11_alter_83 (by decide) ?_
      exact w_ireturn dX11_alter_84 rfl (rfl) rfl (⟨rfl, _, _, rfl, FrR.rf⟩)
  · skip
    first
    | (exfalso; omega)
    | skip
      refine w_iload dX11_alter_65 rfl ?_
      refine w_ifeq_b (tgt := 83) dX11_alter_67 (by decide) (fun h2 => ?_) (fun h2 => ?_)
      · skip
        first
        | (exfalso; omega)
        | skip
          refine w_iconst (v := (-1)) dX11_alter_83 (by decide) ?_
          exact w_ireturn dX11_alter_84 rfl (rfl) rfl (⟨rfl, _, _, rfl, FrR.rf⟩)
      · skip
        first
        | (exfalso; omega)
        | skip
          refine w_aload_n dX11_alter_70 rfl ?_
          refine w_iconst (v := 5) dX11_alter_71 (by decide) ?_
          refine w_iload_n dX11_alter_72 rfl ?_
          refine w_imul dX11_alter_73 ?_
          rw [show ((5) * (nI j) : Int32) = nI (5 * j) from ar_mul (p := 5) (q := j) rfl rfl (by first | rfl | omega)]
          refine w_iload_n dX11_alter_74 rfl ?_
          refine w_iadd dX11_alter_75 ?_
          rw [show ((nI (5 * j)) + (1) : Int32) = nI ((5 * j) + 1) from ar_add (p := 5 * j) (q := 1) rfl rfl (by omega)]
          refine w_iload_n dX11_alter_76 rfl ?_
          exfalso
          omega

theorem p_alter_v2 {I : xF4 Int32} {L : xF4 Int64} {a : aA} (hc : CourtIs I 0 a) (hw : WF a) {j : Nat} (hj : j < nJ a) {v : Int32} (hx : v.toInt < ((0 : Nat) : Int) ∨ ((99 : Nat) : Int) < v.toInt) : Tri 19 109 m_X10_alter [vR 0 0 0, vI (nI j), vI (2), vI (v)] (rM I L) (pCq (vI (-1)) I) := by
  refine ⟨k_X10_alter, Nat.le_of_ble_eq_true rfl, ?_⟩
  show Wp _ _ _ 0 [some (vR 0 0 0), some (vI (nI j)), some (vI (2)), some (vI (v)), none, none] [] (rM I L) _
  obtain ⟨hJ, hC, hG, hD, hR, -⟩ := id hw
  refine w_aload_n dX10_alter_0 rfl ?_
  refine w_getR (w := some (1, 0, 0)) ff_X10_10 rfl rfl dX10_alter_1 rfl ?_
  refine w_iload_n dX10_alter_4 rfl ?_
  refine w_callV (as := [vI (nI j)]) (st := []) (Tri.mono (c_jAt hc hw hj) (Nat.le_of_ble_eq_true rfl)) rfl rfl tg_X1_judgeAt lk_X10_111 in_X1_judgeAt se_X1_judgeAt rfl dX10_alter_5 rfl (Nat.le_of_ble_eq_true rfl) (Nat.le_refl _) (Nat.le_refl _) ?_
  rintro _ _ ⟨rfl, rfl⟩ -
  refine w_astore (ls' := [some (vR 0 0 0), some (vI (nI j)), some (vI (2)), some (vI (v)), some (vR 3 0 j), none]) dX10_alter_8 rfl ?_
  refine w_aload dX10_alter_10 rfl ?_
  refine w_ifnonnull (tgt := 17) dX10_alter_12 (by decide) (fun _ _ => ?_) (fun h => by cases h)
  refine w_iload_n dX10_alter_17 rfl ?_
  refine w_if_ne (tgt := 46) dX10_alter_18 (by decide) (fun _ => ?_) (fun h => absurd h (by decide))
  refine w_iload_n dX10_alter_46 rfl ?_
  refine w_iconst (v := 1) dX10_alter_47 (by decide) ?_
  refine w_icmp_ne (tgt := 77) dX10_alter_48 (by decide) (fun _ => ?_) (fun h => absurd h (by decide))
  refine w_iload_n dX10_alter_77 rfl ?_
  refine w_iconst (v := 2) dX10_alter_78 (by decide) ?_
  refine w_icmp_ne (tgt := 108) dX10_alter_79 (by decide) (fun h => absurd (by decide) h) (fun _ => ?_)
  refine w_iload_n dX10_alter_82 rfl ?_
  refine w_iconst (v := 0) dX10_alter_83 (by decide) ?_
  refine w_bipush (v := 99) dX10_alter_84 (by decide) ?_
  refine w_callS (as := [vI (v), vI (0), vI (99)]) (st := []) (Tri.mono (c_X10_within (v) (0) (99)) (Nat.le_of_ble_eq_true rfl)) tg_X10_within lk_X10_158 sa_X10_within rfl dX10_alter_86 rfl (Nat.le_of_ble_eq_true rfl) (Nat.le_refl _) (Nat.le_refl _) ?_
  rintro _ _ ⟨rfl, rfl⟩ -
  refine w_top (y := bI (0 ≤ v.toInt ∧ v.toInt ≤ 99)) (show (bI ((0 : Int32) ≤ (v) ∧ (v) ≤ (99 : Int32)) : Int32) = bI (0 ≤ v.toInt ∧ v.toInt ≤ 99) from wiZ (X := v.toInt) (A := 0) (B := 99) rfl (by decide) (by decide)) ?_
  refine w_ifeq_b (tgt := 108) dX10_alter_89 (by decide) (fun h1 => ?_) (fun h1 => ?_)
  · skip
    first
    | (exfalso; omega)
    | skip
      refine w_iconst (v := (-1)) dX10_alter_108 (by decide) ?_
      exact w_ireturn dX10_alter_109 rfl (rfl) rfl (⟨rfl, _, _, rfl, FrQ.rf⟩)
  · skip
    first
    | (exfalso; omega)
    | skip
      refine w_aload dX10_alter_92 rfl ?_
      refine w_getI ff_X10_123 rfl rfl dX10_alter_94 ?_
      rw [show (I 3 0 j 2 : Int32) = nI (jF a j 2) from hc.j hj (by decide)]
      refine w_istore (ls' := [some (vR 0 0 0), some (vI (nI j)), some (vI (2)), some (vI (v)), some (vR 3 0 j), some (vI (nI (jF a j 2)))]) dX10_alter_97 rfl ?_
      refine w_aload dX10_alter_99 rfl ?_
      refine w_iload_n dX10_alter_101 rfl ?_
      refine w_putI ff_X10_123 rfl rfl rfl rfl dX10_alter_102 ?_
      refine w_goto (tgt := 110) dX10_alter_105 (by decide) ?_
      refine w_iload dX10_alter_110 rfl ?_
      exact w_ireturn dX10_alter_112 rfl (rfl) rfl (⟨rfl, _, _, rfl, FrQ.rf⟩)

theorem q_alter_v2 {I : xF4 Int32} {L : xF4 Int64} {a : aA} (hs : SI I a) (hw : WF a) {j : Nat} (hj : j < nJ a) {v : Int32} (hx : v.toInt < ((0 : Nat) : Int) ∨ ((99 : Nat) : Int) < v.toInt) : Tri 19 109 m_X11_alter [vR 30 0 0, vI (nI j), vI (2), vI (v)] (rM I L) (pMq (vI (-1)) I) := by
  refine ⟨k_X11_alter, Nat.le_of_ble_eq_true rfl, ?_⟩
  show Wp _ _ _ 0 [some (vR 30 0 0), some (vI (nI j)), some (vI (2)), some (vI (v)), none] [] (rM I L) _
  obtain ⟨hJ, hC, hG, hD, hR, -⟩ := id hw
  refine w_iload_n dX11_alter_0 rfl ?_
  refine w_if_ne (tgt := 16) dX11_alter_1 (by decide) (fun _ => ?_) (fun h => absurd h (by decide))
  refine w_iload_n dX11_alter_16 rfl ?_
  refine w_iconst (v := 1) dX11_alter_17 (by decide) ?_
  refine w_icmp_ne (tgt := 33) dX11_alter_18 (by decide) (fun _ => ?_) (fun h => absurd h (by decide))
  refine w_iload_n dX11_alter_33 rfl ?_
  refine w_iconst (v := 2) dX11_alter_34 (by decide) ?_
  refine w_icmp_ne (tgt := 54) dX11_alter_35 (by decide) (fun h => absurd (by decide) h) (fun _ => ?_)
  refine w_iload_n dX11_alter_38 rfl ?_
  refine w_i2l dX11_alter_39 ?_
  refine w_lconst (v := 0) dX11_alter_40 (by decide) ?_
  refine w_ldc2 dX11_alter_41 cq_X11_213 ?_
  refine w_callS (as := [vL ((v : Int32).toInt64), vL (0), vL (99)]) (st := []) (Tri.mono (d_in ((v : Int32).toInt64) (0) (99)) (Nat.le_of_ble_eq_true rfl)) tg_X11_in lk_X11_66 sa_X11_in rfl dX11_alter_44 rfl (Nat.le_of_ble_eq_true rfl) (Nat.le_refl _) (Nat.le_refl _) ?_
  rintro _ _ ⟨rfl, rfl⟩ -
  refine w_top (y := bI (0 ≤ v.toInt ∧ v.toInt ≤ 99)) (show (bI ((0 : Int64) ≤ ((v : Int32).toInt64) ∧ ((v : Int32).toInt64) ≤ (99 : Int64)) : Int32) = bI (0 ≤ v.toInt ∧ v.toInt ≤ 99) from inZ (x := v) (l := 0) (h := 99) (X := v.toInt) (A := 0) (B := 99) rfl (by decide) (by decide) rfl (by decide) (by decide)) ?_
  refine w_ifeq_b (tgt := 54) dX11_alter_47 (by decide) (fun h1 => ?_) (fun h1 => ?_)
  · skip
    first
    | (exfalso; omega)
    | skip
      refine w_iconst (v := 0) dX11_alter_54 (by decide) ?_
      refine w_istore (ls' := [some (vR 30 0 0), some (vI (nI j)), some (vI (2)), some (vI (v)), some (vI (0))]) dX11_alter_55 rfl ?_
      refine w_aload_n dX11_alter_57 rfl ?_
      refine w_iload_n dX11_alter_58 rfl ?_
      refine w_callV (as := [vI (nI j)]) (st := []) (Tri.mono (d_isJudge (hs.1) (by omega) (x := nI j) (X := ((j : Nat) : Int)) (z_nI (by omega))) (Nat.le_of_ble_eq_true rfl)) rfl rfl tg_X11_isJudge lk_X11_198 in_X11_isJudge se_X11_isJudge rfl dX11_alter_59 rfl (Nat.le_of_ble_eq_true rfl) (Nat.le_refl _) (Nat.le_refl _) ?_
      rintro _ _ ⟨rfl, rfl⟩ -
      refine w_ifeq_b (tgt := 83) dX11_alter_62 (by decide) (fun h2 => ?_) (fun h2 => ?_)
      · skip
        first
        | (exfalso; omega)
        | skip
          refine w_iconst (v := (-1)) dX11_alter_83 (by decide) ?_
          exact w_ireturn dX11_alter_84 rfl (rfl) rfl (⟨rfl, _, _, rfl, FrR.rf⟩)
      · skip
        first
        | (exfalso; omega)
        | skip
          refine w_iload dX11_alter_65 rfl ?_
          refine w_if_eq (tgt := 83) dX11_alter_67 (by decide) (fun _ => ?_) (fun h => absurd (by decide) h)
          refine w_iconst (v := (-1)) dX11_alter_83 (by decide) ?_
          exact w_ireturn dX11_alter_84 rfl (rfl) rfl (⟨rfl, _, _, rfl, FrR.rf⟩)
  · skip
    first
    | (exfalso; omega)
    | skip
      refine w_iconst (v := 1) dX11_alter_50 (by decide) ?_
      refine w_goto (tgt := 55) dX11_alter_51 (by decide) ?_
      refine w_istore (ls' := [some (vR 30 0 0), some (vI (nI j)), some (vI (2)), some (vI (v)), some (vI (1))]) dX11_alter_55 rfl ?_
      refine w_aload_n dX11_alter_57 rfl ?_
      refine w_iload_n dX11_alter_58 rfl ?_
      refine w_callV (as := [vI (nI j)]) (st := []) (Tri.mono (d_isJudge (hs.1) (by omega) (x := nI j) (X := ((j : Nat) : Int)) (z_nI (by omega))) (Nat.le_of_ble_eq_true rfl)) rfl rfl tg_X11_isJudge lk_X11_198 in_X11_isJudge se_X11_isJudge rfl dX11_alter_59 rfl (Nat.le_of_ble_eq_true rfl) (Nat.le_refl _) (Nat.le_refl _) ?_
      rintro _ _ ⟨rfl, rfl⟩ -
      refine w_ifeq_b (tgt := 83) dX11_alter_62 (by decide) (fun h2 => ?_) (fun h2 => ?_)
      · skip
        first
        | (exfalso; omega)
        | skip
          refine w_iconst (v := (-1)) dX11_alter_83 (by decide) ?_
          exact w_ireturn dX11_alter_84 rfl (rfl) rfl (⟨rfl, _, _, rfl, FrR.rf⟩)
      · skip
        first
        | (exfalso; omega)
        | skip
          refine w_iload dX11_alter_65 rfl ?_
          refine w_if_eq (tgt := 83) dX11_alter_67 (by decide) (fun h => absurd h (by decide)) (fun _ => ?_)
          refine w_aload_n dX11_alter_70 rfl ?_
          refine w_iconst (v := 5) dX11_alter_71 (by decide) ?_
          refine w_iload_n dX11_alter_72 rfl ?_
          refine w_imul dX11_alter_73 ?_
          rw [show ((5) * (nI j) : Int32) = nI (5 * j) from ar_mul (p := 5) (q := j) rfl rfl (by first | rfl | omega)]
          refine w_iload_n dX11_alter_74 rfl ?_
          refine w_iadd dX11_alter_75 ?_
          rw [show ((nI (5 * j)) + (2) : Int32) = nI ((5 * j) + 2) from ar_add (p := 5 * j) (q := 2) rfl rfl (by omega)]
          refine w_iload_n dX11_alter_76 rfl ?_
          exfalso
          omega

theorem p_alter_w {I : xF4 Int32} {L : xF4 Int64} {a : aA} (hc : CourtIs I 0 a) (hw : WF a) {j : Nat} (hj : j < nJ a) {what v : Int32} (hx : what.toInt < 0 ∨ ((3 : Nat) : Int) ≤ what.toInt) : Tri 19 109 m_X10_alter [vR 0 0 0, vI (nI j), vI (what), vI (v)] (rM I L) (pCq (vI (-1)) I) := by
  refine ⟨k_X10_alter, Nat.le_of_ble_eq_true rfl, ?_⟩
  show Wp _ _ _ 0 [some (vR 0 0 0), some (vI (nI j)), some (vI (what)), some (vI (v)), none, none] [] (rM I L) _
  obtain ⟨hJ, hC, hG, hD, hR, -⟩ := id hw
  refine w_aload_n dX10_alter_0 rfl ?_
  refine w_getR (w := some (1, 0, 0)) ff_X10_10 rfl rfl dX10_alter_1 rfl ?_
  refine w_iload_n dX10_alter_4 rfl ?_
  refine w_callV (as := [vI (nI j)]) (st := []) (Tri.mono (c_jAt hc hw hj) (Nat.le_of_ble_eq_true rfl)) rfl rfl tg_X1_judgeAt lk_X10_111 in_X1_judgeAt se_X1_judgeAt rfl dX10_alter_5 rfl (Nat.le_of_ble_eq_true rfl) (Nat.le_refl _) (Nat.le_refl _) ?_
  rintro _ _ ⟨rfl, rfl⟩ -
  refine w_astore (ls' := [some (vR 0 0 0), some (vI (nI j)), some (vI (what)), some (vI (v)), some (vR 3 0 j), none]) dX10_alter_8 rfl ?_
  refine w_aload dX10_alter_10 rfl ?_
  refine w_ifnonnull (tgt := 17) dX10_alter_12 (by decide) (fun _ _ => ?_) (fun h => by cases h)
  refine w_iload_n dX10_alter_17 rfl ?_
  refine w_if_ne (tgt := 46) dX10_alter_18 (by decide) (fun h1 => ?_) (fun h1 => ?_)
  · skip
    replace h1 : ¬ (what.toInt = 0) := fun q => h1 ((zeq rfl (by decide)).mpr q)
    first
    | (exfalso; omega)
    | skip
      refine w_iload_n dX10_alter_46 rfl ?_
      refine w_iconst (v := 1) dX10_alter_47 (by decide) ?_
      refine w_icmp_ne (tgt := 77) dX10_alter_48 (by decide) (fun h2 => ?_) (fun h2 => ?_)
      · skip
        replace h2 : ¬ (what.toInt = 1) := fun q => h2 ((zeq rfl (by decide)).mpr q)
        first
        | (exfalso; omega)
        | skip
          refine w_iload_n dX10_alter_77 rfl ?_
          refine w_iconst (v := 2) dX10_alter_78 (by decide) ?_
          refine w_icmp_ne (tgt := 108) dX10_alter_79 (by decide) (fun h3 => ?_) (fun h3 => ?_)
          · skip
            replace h3 : ¬ (what.toInt = 2) := fun q => h3 ((zeq rfl (by decide)).mpr q)
            first
            | (exfalso; omega)
            | skip
              refine w_iconst (v := (-1)) dX10_alter_108 (by decide) ?_
              exact w_ireturn dX10_alter_109 rfl (rfl) rfl (⟨rfl, _, _, rfl, FrQ.rf⟩)
          · skip
            replace h3 : what.toInt = 2 := (zeq rfl (by decide)).mp h3
            first
            | (exfalso; omega)
            | skip
              refine w_iload_n dX10_alter_82 rfl ?_
              refine w_iconst (v := 0) dX10_alter_83 (by decide) ?_
              refine w_bipush (v := 99) dX10_alter_84 (by decide) ?_
              refine w_callS (as := [vI (v), vI (0), vI (99)]) (st := []) (Tri.mono (c_X10_within (v) (0) (99)) (Nat.le_of_ble_eq_true rfl)) tg_X10_within lk_X10_158 sa_X10_within rfl dX10_alter_86 rfl (Nat.le_of_ble_eq_true rfl) (Nat.le_refl _) (Nat.le_refl _) ?_
              rintro _ _ ⟨rfl, rfl⟩ -
              refine w_top (y := bI (0 ≤ v.toInt ∧ v.toInt ≤ 99)) (show (bI ((0 : Int32) ≤ (v) ∧ (v) ≤ (99 : Int32)) : Int32) = bI (0 ≤ v.toInt ∧ v.toInt ≤ 99) from wiZ (X := v.toInt) (A := 0) (B := 99) rfl (by decide) (by decide)) ?_
              refine w_ifeq_b (tgt := 108) dX10_alter_89 (by decide) (fun h4 => ?_) (fun h4 => ?_)
              · skip
                first
                | (exfalso; omega)
                | skip
                  refine w_iconst (v := (-1)) dX10_alter_108 (by decide) ?_
                  exact w_ireturn dX10_alter_109 rfl (rfl) rfl (⟨rfl, _, _, rfl, FrQ.rf⟩)
              · skip
                first
                | (exfalso; omega)
                | skip
                  refine w_aload dX10_alter_92 rfl ?_
                  refine w_getI ff_X10_123 rfl rfl dX10_alter_94 ?_
                  rw [show (I 3 0 j 2 : Int32) = nI (jF a j 2) from hc.j hj (by decide)]
                  refine w_istore (ls' := [some (vR 0 0 0), some (vI (nI j)), some (vI (what)), some (vI (v)), some (vR 3 0 j), some (vI (nI (jF a j 2)))]) dX10_alter_97 rfl ?_
                  refine w_aload dX10_alter_99 rfl ?_
                  refine w_iload_n dX10_alter_101 rfl ?_
                  refine w_putI ff_X10_123 rfl rfl rfl rfl dX10_alter_102 ?_
                  refine w_goto (tgt := 110) dX10_alter_105 (by decide) ?_
                  refine w_iload dX10_alter_110 rfl ?_
                  exact w_ireturn dX10_alter_112 rfl (rfl) rfl (⟨rfl, _, _, rfl, FrQ.rf⟩)
      · skip
        replace h2 : what.toInt = 1 := (zeq rfl (by decide)).mp h2
        first
        | (exfalso; omega)
        | skip
          refine w_iload_n dX10_alter_51 rfl ?_
          refine w_iconst (v := 1) dX10_alter_52 (by decide) ?_
          refine w_bipush (v := 20) dX10_alter_53 (by decide) ?_
          refine w_callS (as := [vI (v), vI (1), vI (20)]) (st := []) (Tri.mono (c_X10_within (v) (1) (20)) (Nat.le_of_ble_eq_true rfl)) tg_X10_within lk_X10_158 sa_X10_within rfl dX10_alter_55 rfl (Nat.le_of_ble_eq_true rfl) (Nat.le_refl _) (Nat.le_refl _) ?_
          rintro _ _ ⟨rfl, rfl⟩ -
          refine w_top (y := bI (1 ≤ v.toInt ∧ v.toInt ≤ 20)) (show (bI ((1 : Int32) ≤ (v) ∧ (v) ≤ (20 : Int32)) : Int32) = bI (1 ≤ v.toInt ∧ v.toInt ≤ 20) from wiZ (X := v.toInt) (A := 1) (B := 20) rfl (by decide) (by decide)) ?_
          refine w_ifeq_b (tgt := 77) dX10_alter_58 (by decide) (fun h3 => ?_) (fun h3 => ?_)
          · skip
            first
            | (exfalso; omega)
            | skip
              refine w_iload_n dX10_alter_77 rfl ?_
              refine w_iconst (v := 2) dX10_alter_78 (by decide) ?_
              refine w_icmp_ne (tgt := 108) dX10_alter_79 (by decide) (fun h4 => ?_) (fun h4 => ?_)
              · skip
                replace h4 : ¬ (what.toInt = 2) := fun q => h4 ((zeq rfl (by decide)).mpr q)
                first
                | (exfalso; omega)
                | skip
                  refine w_iconst (v := (-1)) dX10_alter_108 (by decide) ?_
                  exact w_ireturn dX10_alter_109 rfl (rfl) rfl (⟨rfl, _, _, rfl, FrQ.rf⟩)
              · skip
                replace h4 : what.toInt = 2 := (zeq rfl (by decide)).mp h4
                first
                | (exfalso; omega)
                | skip
                  refine w_iload_n dX10_alter_82 rfl ?_
                  refine w_iconst (v := 0) dX10_alter_83 (by decide) ?_
                  refine w_bipush (v := 99) dX10_alter_84 (by decide) ?_
                  refine w_callS (as := [vI (v), vI (0), vI (99)]) (st := []) (Tri.mono (c_X10_within (v) (0) (99)) (Nat.le_of_ble_eq_true rfl)) tg_X10_within lk_X10_158 sa_X10_within rfl dX10_alter_86 rfl (Nat.le_of_ble_eq_true rfl) (Nat.le_refl _) (Nat.le_refl _) ?_
                  rintro _ _ ⟨rfl, rfl⟩ -
                  refine w_top (y := bI (0 ≤ v.toInt ∧ v.toInt ≤ 99)) (show (bI ((0 : Int32) ≤ (v) ∧ (v) ≤ (99 : Int32)) : Int32) = bI (0 ≤ v.toInt ∧ v.toInt ≤ 99) from wiZ (X := v.toInt) (A := 0) (B := 99) rfl (by decide) (by decide)) ?_
                  refine w_ifeq_b (tgt := 108) dX10_alter_89 (by decide) (fun h5 => ?_) (fun h5 => ?_)
                  · skip
                    first
                    | (exfalso; omega)
                    | skip
                      refine w_iconst (v := (-1)) dX10_alter_108 (by decide) ?_
                      exact w_ireturn dX10_alter_109 rfl (rfl) rfl (⟨rfl, _, _, rfl, FrQ.rf⟩)
                  · skip
                    first
                    | (exfalso; omega)
                    | skip
                      refine w_aload dX10_alter_92 rfl ?_
                      refine w_getI ff_X10_123 rfl rfl dX10_alter_94 ?_
                      rw [show (I 3 0 j 2 : Int32) = nI (jF a j 2) from hc.j hj (by decide)]
                      refine w_istore (ls' := [some (vR 0 0 0), some (vI (nI j)), some (vI (what)), some (vI (v)), some (vR 3 0 j), some (vI (nI (jF a j 2)))]) dX10_alter_97 rfl ?_
                      refine w_aload dX10_alter_99 rfl ?_
                      refine w_iload_n dX10_alter_101 rfl ?_
                      refine w_putI ff_X10_123 rfl rfl rfl rfl dX10_alter_102 ?_
                      refine w_goto (tgt := 110) dX10_alter_105 (by decide) ?_
                      refine w_iload dX10_alter_110 rfl ?_
                      exact w_ireturn dX10_alter_112 rfl (rfl) rfl (⟨rfl, _, _, rfl, FrQ.rf⟩)
          · skip
            first
            | (exfalso; omega)
            | skip
              refine w_aload dX10_alter_61 rfl ?_
              refine w_getI ff_X10_120 rfl rfl dX10_alter_63 ?_
              rw [show (I 3 0 j 1 : Int32) = nI (jF a j 1) from hc.j hj (by decide)]
              refine w_istore (ls' := [some (vR 0 0 0), some (vI (nI j)), some (vI (what)), some (vI (v)), some (vR 3 0 j), some (vI (nI (jF a j 1)))]) dX10_alter_66 rfl ?_
              refine w_aload dX10_alter_68 rfl ?_
              refine w_iload_n dX10_alter_70 rfl ?_
              refine w_putI ff_X10_120 rfl rfl rfl rfl dX10_alter_71 ?_
              refine w_goto (tgt := 110) dX10_alter_74 (by decide) ?_
              refine w_iload dX10_alter_110 rfl ?_
              exact w_ireturn dX10_alter_112 rfl (rfl) rfl (⟨rfl, _, _, rfl, FrQ.rf⟩)
  · skip
    replace h1 : what.toInt = 0 := (zeq rfl (by decide)).mp h1
    first
    | (exfalso; omega)
    | skip
      refine w_iload_n dX10_alter_21 rfl ?_
      refine w_iconst (v := 0) dX10_alter_22 (by decide) ?_
      refine w_iconst (v := 3) dX10_alter_23 (by decide) ?_
      refine w_callS (as := [vI (v), vI (0), vI (3)]) (st := []) (Tri.mono (c_X10_within (v) (0) (3)) (Nat.le_of_ble_eq_true rfl)) tg_X10_within lk_X10_158 sa_X10_within rfl dX10_alter_24 rfl (Nat.le_of_ble_eq_true rfl) (Nat.le_refl _) (Nat.le_refl _) ?_
      rintro _ _ ⟨rfl, rfl⟩ -
      refine w_top (y := bI (0 ≤ v.toInt ∧ v.toInt ≤ 3)) (show (bI ((0 : Int32) ≤ (v) ∧ (v) ≤ (3 : Int32)) : Int32) = bI (0 ≤ v.toInt ∧ v.toInt ≤ 3) from wiZ (X := v.toInt) (A := 0) (B := 3) rfl (by decide) (by decide)) ?_
      refine w_ifeq_b (tgt := 46) dX10_alter_27 (by decide) (fun h2 => ?_) (fun h2 => ?_)
      · skip
        first
        | (exfalso; omega)
        | skip
          refine w_iload_n dX10_alter_46 rfl ?_
          refine w_iconst (v := 1) dX10_alter_47 (by decide) ?_
          refine w_icmp_ne (tgt := 77) dX10_alter_48 (by decide) (fun h3 => ?_) (fun h3 => ?_)
          · skip
            replace h3 : ¬ (what.toInt = 1) := fun q => h3 ((zeq rfl (by decide)).mpr q)
            first
            | (exfalso; omega)
            | skip
              refine w_iload_n dX10_alter_77 rfl ?_
              refine w_iconst (v := 2) dX10_alter_78 (by decide) ?_
              refine w_icmp_ne (tgt := 108) dX10_alter_79 (by decide) (fun h4 => ?_) (fun h4 => ?_)
              · skip
                replace h4 : ¬ (what.toInt = 2) := fun q => h4 ((zeq rfl (by decide)).mpr q)
                first
                | (exfalso; omega)
                | skip
                  refine w_iconst (v := (-1)) dX10_alter_108 (by decide) ?_
                  exact w_ireturn dX10_alter_109 rfl (rfl) rfl (⟨rfl, _, _, rfl, FrQ.rf⟩)
              · skip
                replace h4 : what.toInt = 2 := (zeq rfl (by decide)).mp h4
                first
                | (exfalso; omega)
                | skip
                  refine w_iload_n dX10_alter_82 rfl ?_
                  refine w_iconst (v := 0) dX10_alter_83 (by decide) ?_
                  refine w_bipush (v := 99) dX10_alter_84 (by decide) ?_
                  refine w_callS (as := [vI (v), vI (0), vI (99)]) (st := []) (Tri.mono (c_X10_within (v) (0) (99)) (Nat.le_of_ble_eq_true rfl)) tg_X10_within lk_X10_158 sa_X10_within rfl dX10_alter_86 rfl (Nat.le_of_ble_eq_true rfl) (Nat.le_refl _) (Nat.le_refl _) ?_
                  rintro _ _ ⟨rfl, rfl⟩ -
                  refine w_top (y := bI (0 ≤ v.toInt ∧ v.toInt ≤ 99)) (show (bI ((0 : Int32) ≤ (v) ∧ (v) ≤ (99 : Int32)) : Int32) = bI (0 ≤ v.toInt ∧ v.toInt ≤ 99) from wiZ (X := v.toInt) (A := 0) (B := 99) rfl (by decide) (by decide)) ?_
                  refine w_ifeq_b (tgt := 108) dX10_alter_89 (by decide) (fun h5 => ?_) (fun h5 => ?_)
                  · skip
                    first
                    | (exfalso; omega)
                    | skip
                      refine w_iconst (v := (-1)) dX10_alter_108 (by decide) ?_
                      exact w_ireturn dX10_alter_109 rfl (rfl) rfl (⟨rfl, _, _, rfl, FrQ.rf⟩)
                  · skip
                    first
                    | (exfalso; omega)
                    | skip
                      refine w_aload dX10_alter_92 rfl ?_
                      refine w_getI ff_X10_123 rfl rfl dX10_alter_94 ?_
                      rw [show (I 3 0 j 2 : Int32) = nI (jF a j 2) from hc.j hj (by decide)]
                      refine w_istore (ls' := [some (vR 0 0 0), some (vI (nI j)), some (vI (what)), some (vI (v)), some (vR 3 0 j), some (vI (nI (jF a j 2)))]) dX10_alter_97 rfl ?_
                      refine w_aload dX10_alter_99 rfl ?_
                      refine w_iload_n dX10_alter_101 rfl ?_
                      refine w_putI ff_X10_123 rfl rfl rfl rfl dX10_alter_102 ?_
                      refine w_goto (tgt := 110) dX10_alter_105 (by decide) ?_
                      refine w_iload dX10_alter_110 rfl ?_
                      exact w_ireturn dX10_alter_112 rfl (rfl) rfl (⟨rfl, _, _, rfl, FrQ.rf⟩)
          · skip
            replace h3 : what.toInt = 1 := (zeq rfl (by decide)).mp h3
            first
            | (exfalso; omega)
            | skip
              refine w_iload_n dX10_alter_51 rfl ?_
              refine w_iconst (v := 1) dX10_alter_52 (by decide) ?_
              refine w_bipush (v := 20) dX10_alter_53 (by decide) ?_
              refine w_callS (as := [vI (v), vI (1), vI (20)]) (st := []) (Tri.mono (c_X10_within (v) (1) (20)) (Nat.le_of_ble_eq_true rfl)) tg_X10_within lk_X10_158 sa_X10_within rfl dX10_alter_55 rfl (Nat.le_of_ble_eq_true rfl) (Nat.le_refl _) (Nat.le_refl _) ?_
              rintro _ _ ⟨rfl, rfl⟩ -
              refine w_top (y := bI (1 ≤ v.toInt ∧ v.toInt ≤ 20)) (show (bI ((1 : Int32) ≤ (v) ∧ (v) ≤ (20 : Int32)) : Int32) = bI (1 ≤ v.toInt ∧ v.toInt ≤ 20) from wiZ (X := v.toInt) (A := 1) (B := 20) rfl (by decide) (by decide)) ?_
              refine w_ifeq_b (tgt := 77) dX10_alter_58 (by decide) (fun h4 => ?_) (fun h4 => ?_)
              · skip
                first
                | (exfalso; omega)
                | skip
                  refine w_iload_n dX10_alter_77 rfl ?_
                  refine w_iconst (v := 2) dX10_alter_78 (by decide) ?_
                  refine w_icmp_ne (tgt := 108) dX10_alter_79 (by decide) (fun h5 => ?_) (fun h5 => ?_)
                  · skip
                    replace h5 : ¬ (what.toInt = 2) := fun q => h5 ((zeq rfl (by decide)).mpr q)
                    first
                    | (exfalso; omega)
                    | skip
                      refine w_iconst (v := (-1)) dX10_alter_108 (by decide) ?_
                      exact w_ireturn dX10_alter_109 rfl (rfl) rfl (⟨rfl, _, _, rfl, FrQ.rf⟩)
                  · skip
                    replace h5 : what.toInt = 2 := (zeq rfl (by decide)).mp h5
                    first
                    | (exfalso; omega)
                    | skip
                      refine w_iload_n dX10_alter_82 rfl ?_
                      refine w_iconst (v := 0) dX10_alter_83 (by decide) ?_
                      refine w_bipush (v := 99) dX10_alter_84 (by decide) ?_
                      refine w_callS (as := [vI (v), vI (0), vI (99)]) (st := []) (Tri.mono (c_X10_within (v) (0) (99)) (Nat.le_of_ble_eq_true rfl)) tg_X10_within lk_X10_158 sa_X10_within rfl dX10_alter_86 rfl (Nat.le_of_ble_eq_true rfl) (Nat.le_refl _) (Nat.le_refl _) ?_
                      rintro _ _ ⟨rfl, rfl⟩ -
                      refine w_top (y := bI (0 ≤ v.toInt ∧ v.toInt ≤ 99)) (show (bI ((0 : Int32) ≤ (v) ∧ (v) ≤ (99 : Int32)) : Int32) = bI (0 ≤ v.toInt ∧ v.toInt ≤ 99) from wiZ (X := v.toInt) (A := 0) (B := 99) rfl (by decide) (by decide)) ?_
                      refine w_ifeq_b (tgt := 108) dX10_alter_89 (by decide) (fun h6 => ?_) (fun h6 => ?_)
                      · skip
                        first
                        | (exfalso; omega)
                        | skip
                          refine w_iconst (v := (-1)) dX10_alter_108 (by decide) ?_
                          exact w_ireturn dX10_alter_109 rfl (rfl) rfl (⟨rfl, _, _, rfl, FrQ.rf⟩)
                      · skip
                        first
                        | (exfalso; omega)
                        | skip
                          refine w_aload dX10_alter_92 rfl ?_
                          refine w_getI ff_X10_123 rfl rfl dX10_alter_94 ?_
                          rw [show (I 3 0 j 2 : Int32) = nI (jF a j 2) from hc.j hj (by decide)]
                          refine w_istore (ls' := [some (vR 0 0 0), some (vI (nI j)), some (vI (what)), some (vI (v)), some (vR 3 0 j), some (vI (nI (jF a j 2)))]) dX10_alter_97 rfl ?_
                          refine w_aload dX10_alter_99 rfl ?_
                          refine w_iload_n dX10_alter_101 rfl ?_
                          refine w_putI ff_X10_123 rfl rfl rfl rfl dX10_alter_102 ?_
                          refine w_goto (tgt := 110) dX10_alter_105 (by decide) ?_
                          refine w_iload dX10_alter_110 rfl ?_
                          exact w_ireturn dX10_alter_112 rfl (rfl) rfl (⟨rfl, _, _, rfl, FrQ.rf⟩)
              · skip
                first
                | (exfalso; omega)
                | skip
                  refine w_aload dX10_alter_61 rfl ?_
                  refine w_getI ff_X10_120 rfl rfl dX10_alter_63 ?_
                  rw [show (I 3 0 j 1 : Int32) = nI (jF a j 1) from hc.j hj (by decide)]
                  refine w_istore (ls' := [some (vR 0 0 0), some (vI (nI j)), some (vI (what)), some (vI (v)), some (vR 3 0 j), some (vI (nI (jF a j 1)))]) dX10_alter_66 rfl ?_
                  refine w_aload dX10_alter_68 rfl ?_
                  refine w_iload_n dX10_alter_70 rfl ?_
                  refine w_putI ff_X10_120 rfl rfl rfl rfl dX10_alter_71 ?_
                  refine w_goto (tgt := 110) dX10_alter_74 (by decide) ?_
                  refine w_iload dX10_alter_110 rfl ?_
                  exact w_ireturn dX10_alter_112 rfl (rfl) rfl (⟨rfl, _, _, rfl, FrQ.rf⟩)
      · skip
        first
        | (exfalso; omega)
        | skip
          refine w_aload dX10_alter_30 rfl ?_
          refine w_getI ff_X10_115 rfl rfl dX10_alter_32 ?_
          rw [show (I 3 0 j 0 : Int32) = nI (jF a j 0) from hc.j hj (by decide)]
          refine w_istore (ls' := [some (vR 0 0 0), some (vI (nI j)), some (vI (what)), some (vI (v)), some (vR 3 0 j), some (vI (nI (jF a j 0)))]) dX10_alter_35 rfl ?_
          refine w_aload dX10_alter_37 rfl ?_
          refine w_iload_n dX10_alter_39 rfl ?_
          refine w_putI ff_X10_115 rfl rfl rfl rfl dX10_alter_40 ?_
          refine w_goto (tgt := 110) dX10_alter_43 (by decide) ?_
          refine w_iload dX10_alter_110 rfl ?_
          exact w_ireturn dX10_alter_112 rfl (rfl) rfl (⟨rfl, _, _, rfl, FrQ.rf⟩)

theorem q_alter_w {I : xF4 Int32} {L : xF4 Int64} {a : aA} (hs : SI I a) (hw : WF a) {j : Nat} (hj : j < nJ a) {what v : Int32} (hx : what.toInt < 0 ∨ ((3 : Nat) : Int) ≤ what.toInt) : Tri 19 109 m_X11_alter [vR 30 0 0, vI (nI j), vI (what), vI (v)] (rM I L) (pMq (vI (-1)) I) := by
  refine ⟨k_X11_alter, Nat.le_of_ble_eq_true rfl, ?_⟩
  show Wp _ _ _ 0 [some (vR 30 0 0), some (vI (nI j)), some (vI (what)), some (vI (v)), none] [] (rM I L) _
  obtain ⟨hJ, hC, hG, hD, hR, -⟩ := id hw
  refine w_iload_n dX11_alter_0 rfl ?_
  refine w_if_ne (tgt := 16) dX11_alter_1 (by decide) (fun h1 => ?_) (fun h1 => ?_)
  · skip
    replace h1 : ¬ (what.toInt = 0) := fun q => h1 ((zeq rfl (by decide)).mpr q)
    first
    | (exfalso; omega)
    | skip
      refine w_iload_n dX11_alter_16 rfl ?_
      refine w_iconst (v := 1) dX11_alter_17 (by decide) ?_
      refine w_icmp_ne (tgt := 33) dX11_alter_18 (by decide) (fun h2 => ?_) (fun h2 => ?_)
      · skip
        replace h2 : ¬ (what.toInt = 1) := fun q => h2 ((zeq rfl (by decide)).mpr q)
        first
        | (exfalso; omega)
        | skip
          refine w_iload_n dX11_alter_33 rfl ?_
          refine w_iconst (v := 2) dX11_alter_34 (by decide) ?_
          refine w_icmp_ne (tgt := 54) dX11_alter_35 (by decide) (fun h3 => ?_) (fun h3 => ?_)
          · skip
            replace h3 : ¬ (what.toInt = 2) := fun q => h3 ((zeq rfl (by decide)).mpr q)
            first
            | (exfalso; omega)
            | skip
              refine w_iconst (v := 0) dX11_alter_54 (by decide) ?_
              refine w_istore (ls' := [some (vR 30 0 0), some (vI (nI j)), some (vI (what)), some (vI (v)), some (vI (0))]) dX11_alter_55 rfl ?_
              refine w_aload_n dX11_alter_57 rfl ?_
              refine w_iload_n dX11_alter_58 rfl ?_
              refine w_callV (as := [vI (nI j)]) (st := []) (Tri.mono (d_isJudge (hs.1) (by omega) (x := nI j) (X := ((j : Nat) : Int)) (z_nI (by omega))) (Nat.le_of_ble_eq_true rfl)) rfl rfl tg_X11_isJudge lk_X11_198 in_X11_isJudge se_X11_isJudge rfl dX11_alter_59 rfl (Nat.le_of_ble_eq_true rfl) (Nat.le_refl _) (Nat.le_refl _) ?_
              rintro _ _ ⟨rfl, rfl⟩ -
              refine w_ifeq_b (tgt := 83) dX11_alter_62 (by decide) (fun h4 => ?_) (fun h4 => ?_)
              · skip
                first
                | (exfalso; omega)
                | skip
                  refine w_iconst (v := (-1)) dX11_alter_83 (by decide) ?_
                  exact w_ireturn dX11_alter_84 rfl (rfl) rfl (⟨rfl, _, _, rfl, FrR.rf⟩)
              · skip
                first
                | (exfalso; omega)
                | skip
                  refine w_iload dX11_alter_65 rfl ?_
                  refine w_if_eq (tgt := 83) dX11_alter_67 (by decide) (fun _ => ?_) (fun h => absurd (by decide) h)
                  refine w_iconst (v := (-1)) dX11_alter_83 (by decide) ?_
                  exact w_ireturn dX11_alter_84 rfl (rfl) rfl (⟨rfl, _, _, rfl, FrR.rf⟩)
          · skip
            replace h3 : what.toInt = 2 := (zeq rfl (by decide)).mp h3
            first
            | (exfalso; omega)
            | skip
              refine w_iload_n dX11_alter_38 rfl ?_
              refine w_i2l dX11_alter_39 ?_
              refine w_lconst (v := 0) dX11_alter_40 (by decide) ?_
              refine w_ldc2 dX11_alter_41 cq_X11_213 ?_
              refine w_callS (as := [vL ((v : Int32).toInt64), vL (0), vL (99)]) (st := []) (Tri.mono (d_in ((v : Int32).toInt64) (0) (99)) (Nat.le_of_ble_eq_true rfl)) tg_X11_in lk_X11_66 sa_X11_in rfl dX11_alter_44 rfl (Nat.le_of_ble_eq_true rfl) (Nat.le_refl _) (Nat.le_refl _) ?_
              rintro _ _ ⟨rfl, rfl⟩ -
              refine w_top (y := bI (0 ≤ v.toInt ∧ v.toInt ≤ 99)) (show (bI ((0 : Int64) ≤ ((v : Int32).toInt64) ∧ ((v : Int32).toInt64) ≤ (99 : Int64)) : Int32) = bI (0 ≤ v.toInt ∧ v.toInt ≤ 99) from inZ (x := v) (l := 0) (h := 99) (X := v.toInt) (A := 0) (B := 99) rfl (by decide) (by decide) rfl (by decide) (by decide)) ?_
              refine w_ifeq_b (tgt := 54) dX11_alter_47 (by decide) (fun h4 => ?_) (fun h4 => ?_)
              · skip
                first
                | (exfalso; omega)
                | skip
                  refine w_iconst (v := 0) dX11_alter_54 (by decide) ?_
                  refine w_istore (ls' := [some (vR 30 0 0), some (vI (nI j)), some (vI (what)), some (vI (v)), some (vI (0))]) dX11_alter_55 rfl ?_
                  refine w_aload_n dX11_alter_57 rfl ?_
                  refine w_iload_n dX11_alter_58 rfl ?_
                  refine w_callV (as := [vI (nI j)]) (st := []) (Tri.mono (d_isJudge (hs.1) (by omega) (x := nI j) (X := ((j : Nat) : Int)) (z_nI (by omega))) (Nat.le_of_ble_eq_true rfl)) rfl rfl tg_X11_isJudge lk_X11_198 in_X11_isJudge se_X11_isJudge rfl dX11_alter_59 rfl (Nat.le_of_ble_eq_true rfl) (Nat.le_refl _) (Nat.le_refl _) ?_
                  rintro _ _ ⟨rfl, rfl⟩ -
                  refine w_ifeq_b (tgt := 83) dX11_alter_62 (by decide) (fun h5 => ?_) (fun h5 => ?_)
                  · skip
                    first
                    | (exfalso; omega)
                    | skip
                      refine w_iconst (v := (-1)) dX11_alter_83 (by decide) ?_
                      exact w_ireturn dX11_alter_84 rfl (rfl) rfl (⟨rfl, _, _, rfl, FrR.rf⟩)
                  · skip
                    first
                    | (exfalso; omega)
                    | skip
                      refine w_iload dX11_alter_65 rfl ?_
                      refine w_if_eq (tgt := 83) dX11_alter_67 (by decide) (fun _ => ?_) (fun h => absurd (by decide) h)
                      refine w_iconst (v := (-1)) dX11_alter_83 (by decide) ?_
                      exact w_ireturn dX11_alter_84 rfl (rfl) rfl (⟨rfl, _, _, rfl, FrR.rf⟩)
              · skip
                first
                | (exfalso; omega)
                | skip
                  refine w_iconst (v := 1) dX11_alter_50 (by decide) ?_
                  refine w_goto (tgt := 55) dX11_alter_51 (by decide) ?_
                  refine w_istore (ls' := [some (vR 30 0 0), some (vI (nI j)), some (vI (what)), some (vI (v)), some (vI (1))]) dX11_alter_55 rfl ?_
                  refine w_aload_n dX11_alter_57 rfl ?_
                  refine w_iload_n dX11_alter_58 rfl ?_
                  refine w_callV (as := [vI (nI j)]) (st := []) (Tri.mono (d_isJudge (hs.1) (by omega) (x := nI j) (X := ((j : Nat) : Int)) (z_nI (by omega))) (Nat.le_of_ble_eq_true rfl)) rfl rfl tg_X11_isJudge lk_X11_198 in_X11_isJudge se_X11_isJudge rfl dX11_alter_59 rfl (Nat.le_of_ble_eq_true rfl) (Nat.le_refl _) (Nat.le_refl _) ?_
                  rintro _ _ ⟨rfl, rfl⟩ -
                  refine w_ifeq_b (tgt := 83) dX11_alter_62 (by decide) (fun h5 => ?_) (fun h5 => ?_)
                  · skip
                    first
                    | (exfalso; omega)
                    | skip
                      refine w_iconst (v := (-1)) dX11_alter_83 (by decide) ?_
                      exact w_ireturn dX11_alter_84 rfl (rfl) rfl (⟨rfl, _, _, rfl, FrR.rf⟩)
                  · skip
                    first
                    | (exfalso; omega)
                    | skip
                      refine w_iload dX11_alter_65 rfl ?_
                      refine w_if_eq (tgt := 83) dX11_alter_67 (by decide) (fun h => absurd h (by decide)) (fun _ => ?_)
                      refine w_aload_n dX11_alter_70 rfl ?_
                      refine w_iconst (v := 5) dX11_alter_71 (by decide) ?_
                      refine w_iload_n dX11_alter_72 rfl ?_
                      refine w_imul dX11_alter_73 ?_
                      rw [show ((5) * (nI j) : Int32) = nI (5 * j) from ar_mul (p := 5) (q := j) rfl rfl (by first | rfl | omega)]
                      refine w_iload_n dX11_alter_74 rfl ?_
                      refine w_iadd dX11_alter_75 ?_
                      refine w_iload_n dX11_alter_76 rfl ?_
                      exfalso
                      omega
      · skip
        replace h2 : what.toInt = 1 := (zeq rfl (by decide)).mp h2
        first
        | (exfalso; omega)
        | skip
          refine w_iload_n dX11_alter_21 rfl ?_
          refine w_i2l dX11_alter_22 ?_
          refine w_lconst (v := 1) dX11_alter_23 (by decide) ?_
          refine w_ldc2 dX11_alter_24 cq_X11_211 ?_
          refine w_callS (as := [vL ((v : Int32).toInt64), vL (1), vL (20)]) (st := []) (Tri.mono (d_in ((v : Int32).toInt64) (1) (20)) (Nat.le_of_ble_eq_true rfl)) tg_X11_in lk_X11_66 sa_X11_in rfl dX11_alter_27 rfl (Nat.le_of_ble_eq_true rfl) (Nat.le_refl _) (Nat.le_refl _) ?_
          rintro _ _ ⟨rfl, rfl⟩ -
          refine w_top (y := bI (1 ≤ v.toInt ∧ v.toInt ≤ 20)) (show (bI ((1 : Int64) ≤ ((v : Int32).toInt64) ∧ ((v : Int32).toInt64) ≤ (20 : Int64)) : Int32) = bI (1 ≤ v.toInt ∧ v.toInt ≤ 20) from inZ (x := v) (l := 1) (h := 20) (X := v.toInt) (A := 1) (B := 20) rfl (by decide) (by decide) rfl (by decide) (by decide)) ?_
          refine w_goto (tgt := 55) dX11_alter_30 (by decide) ?_
          refine w_istore (ls' := [some (vR 30 0 0), some (vI (nI j)), some (vI (what)), some (vI (v)), some (vI (bI (1 ≤ v.toInt ∧ v.toInt ≤ 20)))]) dX11_alter_55 rfl ?_
          refine w_aload_n dX11_alter_57 rfl ?_
          refine w_iload_n dX11_alter_58 rfl ?_
          refine w_callV (as := [vI (nI j)]) (st := []) (Tri.mono (d_isJudge (hs.1) (by omega) (x := nI j) (X := ((j : Nat) : Int)) (z_nI (by omega))) (Nat.le_of_ble_eq_true rfl)) rfl rfl tg_X11_isJudge lk_X11_198 in_X11_isJudge se_X11_isJudge rfl dX11_alter_59 rfl (Nat.le_of_ble_eq_true rfl) (Nat.le_refl _) (Nat.le_refl _) ?_
          rintro _ _ ⟨rfl, rfl⟩ -
          refine w_ifeq_b (tgt := 83) dX11_alter_62 (by decide) (fun h3 => ?_) (fun h3 => ?_)
          · skip
            first
            | (exfalso; omega)
            | skip
              refine w_iconst (v := (-1)) dX11_alter_83 (by decide) ?_
              exact w_ireturn dX11_alter_84 rfl (rfl) rfl (⟨rfl, _, _, rfl, FrR.rf⟩)
          · skip
            first
            | (exfalso; omega)
            | skip
              refine w_iload dX11_alter_65 rfl ?_
              refine w_ifeq_b (tgt := 83) dX11_alter_67 (by decide) (fun h4 => ?_) (fun h4 => ?_)
              · skip
                first
                | (exfalso; omega)
                | skip
                  refine w_iconst (v := (-1)) dX11_alter_83 (by decide) ?_
                  exact w_ireturn dX11_alter_84 rfl (rfl) rfl (⟨rfl, _, _, rfl, FrR.rf⟩)
              · skip
                first
                | (exfalso; omega)
                | skip
                  refine w_aload_n dX11_alter_70 rfl ?_
                  refine w_iconst (v := 5) dX11_alter_71 (by decide) ?_
                  refine w_iload_n dX11_alter_72 rfl ?_
                  refine w_imul dX11_alter_73 ?_
                  rw [show ((5) * (nI j) : Int32) = nI (5 * j) from ar_mul (p := 5) (q := j) rfl rfl (by first | rfl | omega)]
                  refine w_iload_n dX11_alter_74 rfl ?_
                  refine w_iadd dX11_alter_75 ?_
                  refine w_iload_n dX11_alter_76 rfl ?_
                  exfalso
                  omega
  · skip
    replace h1 : what.toInt = 0 := (zeq rfl (by decide)).mp h1
    first
    | (exfalso; omega)
    | skip
      refine w_iload_n dX11_alter_4 rfl ?_
      refine w_i2l dX11_alter_5 ?_
      refine w_lconst (v := 0) dX11_alter_6 (by decide) ?_
      refine w_ldc2 dX11_alter_7 cq_X11_209 ?_
      refine w_callS (as := [vL ((v : Int32).toInt64), vL (0), vL (3)]) (st := []) (Tri.mono (d_in ((v : Int32).toInt64) (0) (3)) (Nat.le_of_ble_eq_true rfl)) tg_X11_in lk_X11_66 sa_X11_in rfl dX11_alter_10 rfl (Nat.le_of_ble_eq_true rfl) (Nat.le_refl _) (Nat.le_refl _) ?_
      rintro _ _ ⟨rfl, rfl⟩ -
      refine w_top (y := bI (0 ≤ v.toInt ∧ v.toInt ≤ 3)) (show (bI ((0 : Int64) ≤ ((v : Int32).toInt64) ∧ ((v : Int32).toInt64) ≤ (3 : Int64)) : Int32) = bI (0 ≤ v.toInt ∧ v.toInt ≤ 3) from inZ (x := v) (l := 0) (h := 3) (X := v.toInt) (A := 0) (B := 3) rfl (by decide) (by decide) rfl (by decide) (by decide)) ?_
      refine w_goto (tgt := 55) dX11_alter_13 (by decide) ?_
      refine w_istore (ls' := [some (vR 30 0 0), some (vI (nI j)), some (vI (what)), some (vI (v)), some (vI (bI (0 ≤ v.toInt ∧ v.toInt ≤ 3)))]) dX11_alter_55 rfl ?_
      refine w_aload_n dX11_alter_57 rfl ?_
      refine w_iload_n dX11_alter_58 rfl ?_
      refine w_callV (as := [vI (nI j)]) (st := []) (Tri.mono (d_isJudge (hs.1) (by omega) (x := nI j) (X := ((j : Nat) : Int)) (z_nI (by omega))) (Nat.le_of_ble_eq_true rfl)) rfl rfl tg_X11_isJudge lk_X11_198 in_X11_isJudge se_X11_isJudge rfl dX11_alter_59 rfl (Nat.le_of_ble_eq_true rfl) (Nat.le_refl _) (Nat.le_refl _) ?_
      rintro _ _ ⟨rfl, rfl⟩ -
      refine w_ifeq_b (tgt := 83) dX11_alter_62 (by decide) (fun h2 => ?_) (fun h2 => ?_)
      · skip
        first
        | (exfalso; omega)
        | skip
          refine w_iconst (v := (-1)) dX11_alter_83 (by decide) ?_
          exact w_ireturn dX11_alter_84 rfl (rfl) rfl (⟨rfl, _, _, rfl, FrR.rf⟩)
      · skip
        first
        | (exfalso; omega)
        | skip
          refine w_iload dX11_alter_65 rfl ?_
          refine w_ifeq_b (tgt := 83) dX11_alter_67 (by decide) (fun h3 => ?_) (fun h3 => ?_)
          · skip
            first
            | (exfalso; omega)
            | skip
              refine w_iconst (v := (-1)) dX11_alter_83 (by decide) ?_
              exact w_ireturn dX11_alter_84 rfl (rfl) rfl (⟨rfl, _, _, rfl, FrR.rf⟩)
          · skip
            first
            | (exfalso; omega)
            | skip
              refine w_aload_n dX11_alter_70 rfl ?_
              refine w_iconst (v := 5) dX11_alter_71 (by decide) ?_
              refine w_iload_n dX11_alter_72 rfl ?_
              refine w_imul dX11_alter_73 ?_
              rw [show ((5) * (nI j) : Int32) = nI (5 * j) from ar_mul (p := 5) (q := j) rfl rfl (by first | rfl | omega)]
              refine w_iload_n dX11_alter_74 rfl ?_
              refine w_iadd dX11_alter_75 ?_
              refine w_iload_n dX11_alter_76 rfl ?_
              exfalso
              omega

theorem p_alter_o {I : xF4 Int32} {L : xF4 Int64} {a : aA} (hc : CourtIs I 0 a) (hw : WF a) {j what v : Int32} (hx : j.toInt < 0 ∨ ((nJ a : Nat) : Int) ≤ j.toInt) : Tri 19 109 m_X10_alter [vR 0 0 0, vI (j), vI (what), vI (v)] (rM I L) (pCq (vI (-1)) I) := by
  refine ⟨k_X10_alter, Nat.le_of_ble_eq_true rfl, ?_⟩
  show Wp _ _ _ 0 [some (vR 0 0 0), some (vI (j)), some (vI (what)), some (vI (v)), none, none] [] (rM I L) _
  obtain ⟨hJ, hC, hG, hD, hR, -⟩ := id hw
  refine w_aload_n dX10_alter_0 rfl ?_
  refine w_getR (w := some (1, 0, 0)) ff_X10_10 rfl rfl dX10_alter_1 rfl ?_
  refine w_iload_n dX10_alter_4 rfl ?_
  refine w_callV (as := [vI (j)]) (st := []) (Tri.mono (c_jAtO hc hw (z_out (by omega) hx)) (Nat.le_of_ble_eq_true rfl)) rfl rfl tg_X1_judgeAt lk_X10_111 in_X1_judgeAt se_X1_judgeAt rfl dX10_alter_5 rfl (Nat.le_of_ble_eq_true rfl) (Nat.le_refl _) (Nat.le_refl _) ?_
  rintro _ _ ⟨rfl, rfl⟩ -
  refine w_astore (ls' := [some (vR 0 0 0), some (vI (j)), some (vI (what)), some (vI (v)), some (vN), none]) dX10_alter_8 rfl ?_
  refine w_aload dX10_alter_10 rfl ?_
  refine w_ifnonnull (tgt := 17) dX10_alter_12 (by decide) (fun _ h => by cases h) (fun _ => ?_)
  refine w_iconst (v := (-1)) dX10_alter_15 (by decide) ?_
  exact w_ireturn dX10_alter_16 rfl (rfl) rfl (⟨rfl, _, _, rfl, FrQ.rf⟩)

theorem q_alter_o {I : xF4 Int32} {L : xF4 Int64} {a : aA} (hs : SI I a) (hw : WF a) {j what v : Int32} (hx : j.toInt < 0 ∨ ((nJ a : Nat) : Int) ≤ j.toInt) : Tri 19 109 m_X11_alter [vR 30 0 0, vI (j), vI (what), vI (v)] (rM I L) (pMq (vI (-1)) I) := by
  refine ⟨k_X11_alter, Nat.le_of_ble_eq_true rfl, ?_⟩
  show Wp _ _ _ 0 [some (vR 30 0 0), some (vI (j)), some (vI (what)), some (vI (v)), none] [] (rM I L) _
  obtain ⟨hJ, hC, hG, hD, hR, -⟩ := id hw
  refine w_iload_n dX11_alter_0 rfl ?_
  refine w_if_ne (tgt := 16) dX11_alter_1 (by decide) (fun h1 => ?_) (fun h1 => ?_)
  · skip
    replace h1 : ¬ (what.toInt = 0) := fun q => h1 ((zeq rfl (by decide)).mpr q)
    first
    | (exfalso; omega)
    | skip
      refine w_iload_n dX11_alter_16 rfl ?_
      refine w_iconst (v := 1) dX11_alter_17 (by decide) ?_
      refine w_icmp_ne (tgt := 33) dX11_alter_18 (by decide) (fun h2 => ?_) (fun h2 => ?_)
      · skip
        replace h2 : ¬ (what.toInt = 1) := fun q => h2 ((zeq rfl (by decide)).mpr q)
        first
        | (exfalso; omega)
        | skip
          refine w_iload_n dX11_alter_33 rfl ?_
          refine w_iconst (v := 2) dX11_alter_34 (by decide) ?_
          refine w_icmp_ne (tgt := 54) dX11_alter_35 (by decide) (fun h3 => ?_) (fun h3 => ?_)
          · skip
            replace h3 : ¬ (what.toInt = 2) := fun q => h3 ((zeq rfl (by decide)).mpr q)
            first
            | (exfalso; omega)
            | skip
              refine w_iconst (v := 0) dX11_alter_54 (by decide) ?_
              refine w_istore (ls' := [some (vR 30 0 0), some (vI (j)), some (vI (what)), some (vI (v)), some (vI (0))]) dX11_alter_55 rfl ?_
              refine w_aload_n dX11_alter_57 rfl ?_
              refine w_iload_n dX11_alter_58 rfl ?_
              refine w_callV (as := [vI (j)]) (st := []) (Tri.mono (d_isJudge (hs.1) (by omega) (x := j) (X := j.toInt) rfl) (Nat.le_of_ble_eq_true rfl)) rfl rfl tg_X11_isJudge lk_X11_198 in_X11_isJudge se_X11_isJudge rfl dX11_alter_59 rfl (Nat.le_of_ble_eq_true rfl) (Nat.le_refl _) (Nat.le_refl _) ?_
              rintro _ _ ⟨rfl, rfl⟩ -
              refine w_ifeq_b (tgt := 83) dX11_alter_62 (by decide) (fun h4 => ?_) (fun h4 => ?_)
              · skip
                first
                | (exfalso; omega)
                | skip
                  refine w_iconst (v := (-1)) dX11_alter_83 (by decide) ?_
                  exact w_ireturn dX11_alter_84 rfl (rfl) rfl (⟨rfl, _, _, rfl, FrR.rf⟩)
              · skip
                first
                | (exfalso; omega)
                | skip
                  refine w_iload dX11_alter_65 rfl ?_
                  refine w_if_eq (tgt := 83) dX11_alter_67 (by decide) (fun _ => ?_) (fun h => absurd (by decide) h)
                  refine w_iconst (v := (-1)) dX11_alter_83 (by decide) ?_
                  exact w_ireturn dX11_alter_84 rfl (rfl) rfl (⟨rfl, _, _, rfl, FrR.rf⟩)
          · skip
            replace h3 : what.toInt = 2 := (zeq rfl (by decide)).mp h3
            first
            | (exfalso; omega)
            | skip
              refine w_iload_n dX11_alter_38 rfl ?_
              refine w_i2l dX11_alter_39 ?_
              refine w_lconst (v := 0) dX11_alter_40 (by decide) ?_
              refine w_ldc2 dX11_alter_41 cq_X11_213 ?_
              refine w_callS (as := [vL ((v : Int32).toInt64), vL (0), vL (99)]) (st := []) (Tri.mono (d_in ((v : Int32).toInt64) (0) (99)) (Nat.le_of_ble_eq_true rfl)) tg_X11_in lk_X11_66 sa_X11_in rfl dX11_alter_44 rfl (Nat.le_of_ble_eq_true rfl) (Nat.le_refl _) (Nat.le_refl _) ?_
              rintro _ _ ⟨rfl, rfl⟩ -
              refine w_top (y := bI (0 ≤ v.toInt ∧ v.toInt ≤ 99)) (show (bI ((0 : Int64) ≤ ((v : Int32).toInt64) ∧ ((v : Int32).toInt64) ≤ (99 : Int64)) : Int32) = bI (0 ≤ v.toInt ∧ v.toInt ≤ 99) from inZ (x := v) (l := 0) (h := 99) (X := v.toInt) (A := 0) (B := 99) rfl (by decide) (by decide) rfl (by decide) (by decide)) ?_
              refine w_ifeq_b (tgt := 54) dX11_alter_47 (by decide) (fun h4 => ?_) (fun h4 => ?_)
              · skip
                first
                | (exfalso; omega)
                | skip
                  refine w_iconst (v := 0) dX11_alter_54 (by decide) ?_
                  refine w_istore (ls' := [some (vR 30 0 0), some (vI (j)), some (vI (what)), some (vI (v)), some (vI (0))]) dX11_alter_55 rfl ?_
                  refine w_aload_n dX11_alter_57 rfl ?_
                  refine w_iload_n dX11_alter_58 rfl ?_
                  refine w_callV (as := [vI (j)]) (st := []) (Tri.mono (d_isJudge (hs.1) (by omega) (x := j) (X := j.toInt) rfl) (Nat.le_of_ble_eq_true rfl)) rfl rfl tg_X11_isJudge lk_X11_198 in_X11_isJudge se_X11_isJudge rfl dX11_alter_59 rfl (Nat.le_of_ble_eq_true rfl) (Nat.le_refl _) (Nat.le_refl _) ?_
                  rintro _ _ ⟨rfl, rfl⟩ -
                  refine w_ifeq_b (tgt := 83) dX11_alter_62 (by decide) (fun h5 => ?_) (fun h5 => ?_)
                  · skip
                    first
                    | (exfalso; omega)
                    | skip
                      refine w_iconst (v := (-1)) dX11_alter_83 (by decide) ?_
                      exact w_ireturn dX11_alter_84 rfl (rfl) rfl (⟨rfl, _, _, rfl, FrR.rf⟩)
                  · skip
                    first
                    | (exfalso; omega)
                    | skip
                      refine w_iload dX11_alter_65 rfl ?_
                      refine w_if_eq (tgt := 83) dX11_alter_67 (by decide) (fun _ => ?_) (fun h => absurd (by decide) h)
                      refine w_iconst (v := (-1)) dX11_alter_83 (by decide) ?_
                      exact w_ireturn dX11_alter_84 rfl (rfl) rfl (⟨rfl, _, _, rfl, FrR.rf⟩)
              · skip
                first
                | (exfalso; omega)
                | skip
                  refine w_iconst (v := 1) dX11_alter_50 (by decide) ?_
                  refine w_goto (tgt := 55) dX11_alter_51 (by decide) ?_
                  refine w_istore (ls' := [some (vR 30 0 0), some (vI (j)), some (vI (what)), some (vI (v)), some (vI (1))]) dX11_alter_55 rfl ?_
                  refine w_aload_n dX11_alter_57 rfl ?_
                  refine w_iload_n dX11_alter_58 rfl ?_
                  refine w_callV (as := [vI (j)]) (st := []) (Tri.mono (d_isJudge (hs.1) (by omega) (x := j) (X := j.toInt) rfl) (Nat.le_of_ble_eq_true rfl)) rfl rfl tg_X11_isJudge lk_X11_198 in_X11_isJudge se_X11_isJudge rfl dX11_alter_59 rfl (Nat.le_of_ble_eq_true rfl) (Nat.le_refl _) (Nat.le_refl _) ?_
                  rintro _ _ ⟨rfl, rfl⟩ -
                  refine w_ifeq_b (tgt := 83) dX11_alter_62 (by decide) (fun h5 => ?_) (fun h5 => ?_)
                  · skip
                    first
                    | (exfalso; omega)
                    | skip
                      refine w_iconst (v := (-1)) dX11_alter_83 (by decide) ?_
                      exact w_ireturn dX11_alter_84 rfl (rfl) rfl (⟨rfl, _, _, rfl, FrR.rf⟩)
                  · skip
                    first
                    | (exfalso; omega)
                    | skip
                      refine w_iload dX11_alter_65 rfl ?_
                      refine w_if_eq (tgt := 83) dX11_alter_67 (by decide) (fun h => absurd h (by decide)) (fun _ => ?_)
                      refine w_aload_n dX11_alter_70 rfl ?_
                      refine w_iconst (v := 5) dX11_alter_71 (by decide) ?_
                      refine w_iload_n dX11_alter_72 rfl ?_
                      refine w_imul dX11_alter_73 ?_
                      refine w_iload_n dX11_alter_74 rfl ?_
                      refine w_iadd dX11_alter_75 ?_
                      refine w_iload_n dX11_alter_76 rfl ?_
                      exfalso
                      omega
      · skip
        replace h2 : what.toInt = 1 := (zeq rfl (by decide)).mp h2
        first
        | (exfalso; omega)
        | skip
          refine w_iload_n dX11_alter_21 rfl ?_
          refine w_i2l dX11_alter_22 ?_
          refine w_lconst (v := 1) dX11_alter_23 (by decide) ?_
          refine w_ldc2 dX11_alter_24 cq_X11_211 ?_
          refine w_callS (as := [vL ((v : Int32).toInt64), vL (1), vL (20)]) (st := []) (Tri.mono (d_in ((v : Int32).toInt64) (1) (20)) (Nat.le_of_ble_eq_true rfl)) tg_X11_in lk_X11_66 sa_X11_in rfl dX11_alter_27 rfl (Nat.le_of_ble_eq_true rfl) (Nat.le_refl _) (Nat.le_refl _) ?_
          rintro _ _ ⟨rfl, rfl⟩ -
          refine w_top (y := bI (1 ≤ v.toInt ∧ v.toInt ≤ 20)) (show (bI ((1 : Int64) ≤ ((v : Int32).toInt64) ∧ ((v : Int32).toInt64) ≤ (20 : Int64)) : Int32) = bI (1 ≤ v.toInt ∧ v.toInt ≤ 20) from inZ (x := v) (l := 1) (h := 20) (X := v.toInt) (A := 1) (B := 20) rfl (by decide) (by decide) rfl (by decide) (by decide)) ?_
          refine w_goto (tgt := 55) dX11_alter_30 (by decide) ?_
          refine w_istore (ls' := [some (vR 30 0 0), some (vI (j)), some (vI (what)), some (vI (v)), some (vI (bI (1 ≤ v.toInt ∧ v.toInt ≤ 20)))]) dX11_alter_55 rfl ?_
          refine w_aload_n dX11_alter_57 rfl ?_
          refine w_iload_n dX11_alter_58 rfl ?_
          refine w_callV (as := [vI (j)]) (st := []) (Tri.mono (d_isJudge (hs.1) (by omega) (x := j) (X := j.toInt) rfl) (Nat.le_of_ble_eq_true rfl)) rfl rfl tg_X11_isJudge lk_X11_198 in_X11_isJudge se_X11_isJudge rfl dX11_alter_59 rfl (Nat.le_of_ble_eq_true rfl) (Nat.le_refl _) (Nat.le_refl _) ?_
          rintro _ _ ⟨rfl, rfl⟩ -
          refine w_ifeq_b (tgt := 83) dX11_alter_62 (by decide) (fun h3 => ?_) (fun h3 => ?_)
          · skip
            first
            | (exfalso; omega)
            | skip
              refine w_iconst (v := (-1)) dX11_alter_83 (by decide) ?_
              exact w_ireturn dX11_alter_84 rfl (rfl) rfl (⟨rfl, _, _, rfl, FrR.rf⟩)
          · skip
            first
            | (exfalso; omega)
            | skip
              refine w_iload dX11_alter_65 rfl ?_
              refine w_ifeq_b (tgt := 83) dX11_alter_67 (by decide) (fun h4 => ?_) (fun h4 => ?_)
              · skip
                first
                | (exfalso; omega)
                | skip
                  refine w_iconst (v := (-1)) dX11_alter_83 (by decide) ?_
                  exact w_ireturn dX11_alter_84 rfl (rfl) rfl (⟨rfl, _, _, rfl, FrR.rf⟩)
              · skip
                first
                | (exfalso; omega)
                | skip
                  refine w_aload_n dX11_alter_70 rfl ?_
                  refine w_iconst (v := 5) dX11_alter_71 (by decide) ?_
                  refine w_iload_n dX11_alter_72 rfl ?_
                  refine w_imul dX11_alter_73 ?_
                  refine w_iload_n dX11_alter_74 rfl ?_
                  refine w_iadd dX11_alter_75 ?_
                  refine w_iload_n dX11_alter_76 rfl ?_
                  exfalso
                  omega
  · skip
    replace h1 : what.toInt = 0 := (zeq rfl (by decide)).mp h1
    first
    | (exfalso; omega)
    | skip
      refine w_iload_n dX11_alter_4 rfl ?_
      refine w_i2l dX11_alter_5 ?_
      refine w_lconst (v := 0) dX11_alter_6 (by decide) ?_
      refine w_ldc2 dX11_alter_7 cq_X11_209 ?_
      refine w_callS (as := [vL ((v : Int32).toInt64), vL (0), vL (3)]) (st := []) (Tri.mono (d_in ((v : Int32).toInt64) (0) (3)) (Nat.le_of_ble_eq_true rfl)) tg_X11_in lk_X11_66 sa_X11_in rfl dX11_alter_10 rfl (Nat.le_of_ble_eq_true rfl) (Nat.le_refl _) (Nat.le_refl _) ?_
      rintro _ _ ⟨rfl, rfl⟩ -
      refine w_top (y := bI (0 ≤ v.toInt ∧ v.toInt ≤ 3)) (show (bI ((0 : Int64) ≤ ((v : Int32).toInt64) ∧ ((v : Int32).toInt64) ≤ (3 : Int64)) : Int32) = bI (0 ≤ v.toInt ∧ v.toInt ≤ 3) from inZ (x := v) (l := 0) (h := 3) (X := v.toInt) (A := 0) (B := 3) rfl (by decide) (by decide) rfl (by decide) (by decide)) ?_
      refine w_goto (tgt := 55) dX11_alter_13 (by decide) ?_
      refine w_istore (ls' := [some (vR 30 0 0), some (vI (j)), some (vI (what)), some (vI (v)), some (vI (bI (0 ≤ v.toInt ∧ v.toInt ≤ 3)))]) dX11_alter_55 rfl ?_
      refine w_aload_n dX11_alter_57 rfl ?_
      refine w_iload_n dX11_alter_58 rfl ?_
      refine w_callV (as := [vI (j)]) (st := []) (Tri.mono (d_isJudge (hs.1) (by omega) (x := j) (X := j.toInt) rfl) (Nat.le_of_ble_eq_true rfl)) rfl rfl tg_X11_isJudge lk_X11_198 in_X11_isJudge se_X11_isJudge rfl dX11_alter_59 rfl (Nat.le_of_ble_eq_true rfl) (Nat.le_refl _) (Nat.le_refl _) ?_
      rintro _ _ ⟨rfl, rfl⟩ -
      refine w_ifeq_b (tgt := 83) dX11_alter_62 (by decide) (fun h2 => ?_) (fun h2 => ?_)
      · skip
        first
        | (exfalso; omega)
        | skip
          refine w_iconst (v := (-1)) dX11_alter_83 (by decide) ?_
          exact w_ireturn dX11_alter_84 rfl (rfl) rfl (⟨rfl, _, _, rfl, FrR.rf⟩)
      · skip
        first
        | (exfalso; omega)
        | skip
          refine w_iload dX11_alter_65 rfl ?_
          refine w_ifeq_b (tgt := 83) dX11_alter_67 (by decide) (fun h3 => ?_) (fun h3 => ?_)
          · skip
            first
            | (exfalso; omega)
            | skip
              refine w_iconst (v := (-1)) dX11_alter_83 (by decide) ?_
              exact w_ireturn dX11_alter_84 rfl (rfl) rfl (⟨rfl, _, _, rfl, FrR.rf⟩)
          · skip
            first
            | (exfalso; omega)
            | skip
              refine w_aload_n dX11_alter_70 rfl ?_
              refine w_iconst (v := 5) dX11_alter_71 (by decide) ?_
              refine w_iload_n dX11_alter_72 rfl ?_
              refine w_imul dX11_alter_73 ?_
              refine w_iload_n dX11_alter_74 rfl ?_
              refine w_iadd dX11_alter_75 ?_
              refine w_iload_n dX11_alter_76 rfl ?_
              exfalso
              omega

theorem p_amend_0 {I : xF4 Int32} {L : xF4 Int64} {a : aA} (hc : CourtIs I 0 a) (hw : WF a) {c : Nat} (hcc : c < nC a) {v : Nat} (hv : v < 4) (h4 : ¬ 0 < sF a c 4) : Tri 19 109 m_X10_amend [vR 0 0 0, vI (nI c), vI (0), vI (nI v)] (rM I L) (pCc (nI (sF a c 0)) (asF a c 0 v) I) := by
  refine ⟨k_X10_amend, Nat.le_of_ble_eq_true rfl, ?_⟩
  show Wp _ _ _ 0 [some (vR 0 0 0), some (vI (nI c)), some (vI (0)), some (vI (nI v)), none] [] (rM I L) _
  obtain ⟨hJ, hC, hG, hD, hR, -⟩ := id hw
  obtain ⟨fc0, fc1, fc2, fc3, fc4, fc5, fc6, fc7, fc8⟩ := hw.2.2.2.2.2.2.1 c hcc
  have hrp := (repl_0 (I := I) (k := 0) (c := c) (v := nI v)).1
  refine w_aload_n dX10_amend_0 rfl ?_
  refine w_getR (w := some (1, 0, 0)) ff_X10_10 rfl rfl dX10_amend_1 rfl ?_
  refine w_iload_n dX10_amend_4 rfl ?_
  refine w_callV (as := [vI (nI c)]) (st := []) (Tri.mono (c_sAt hc hw hcc) (Nat.le_of_ble_eq_true rfl)) rfl rfl tg_X1_suitAt lk_X10_136 in_X1_suitAt se_X1_suitAt rfl dX10_amend_5 rfl (Nat.le_of_ble_eq_true rfl) (Nat.le_refl _) (Nat.le_refl _) ?_
  rintro _ _ ⟨rfl, rfl⟩ -
  refine w_astore (ls' := [some (vR 0 0 0), some (vI (nI c)), some (vI (0)), some (vI (nI v)), some (vR 5 0 c)]) dX10_amend_8 rfl ?_
  refine w_aload dX10_amend_10 rfl ?_
  refine w_ifnull (tgt := 25) dX10_amend_12 (by decide) (fun h => by cases h) (fun _ _ => ?_)
  refine w_aload dX10_amend_15 rfl ?_
  refine w_iload_n dX10_amend_17 rfl ?_
  refine w_iload_n dX10_amend_18 rfl ?_
  refine w_callV (as := [vI (0), vI (nI v)]) (st := []) (Tri.mono (c_X8_admits 0 c (0) (nI v)) (Nat.le_of_ble_eq_true rfl)) rfl rfl tg_X8_admits lk_X10_166 in_X8_admits se_X8_admits rfl dX10_amend_19 rfl (Nat.le_of_ble_eq_true rfl) (Nat.le_refl _) (Nat.le_refl _) ?_
  rintro _ _ ⟨rfl, rfl⟩ -
  refine w_top (y := bI (0 ≤ ((v : Nat) : Int) ∧ ((v : Nat) : Int) ≤ 3)) (show (bI (admP (0) (nI v) (I 5 0 c 1) (I 5 0 c 2)) : Int32) = bI (0 ≤ ((v : Nat) : Int) ∧ ((v : Nat) : Int) ≤ 3) from adm_0 (z_nI (by omega))) ?_
  refine w_ifne_b (tgt := 27) dX10_amend_22 (by decide) (fun h1 => ?_) (fun h1 => ?_)
  · skip
    first
    | (exfalso; omega)
    | skip
      refine w_aload dX10_amend_27 rfl ?_
      refine w_callV (as := []) (st := []) (Tri.mono (c_X8_isHeard 0 c) (Nat.le_of_ble_eq_true rfl)) rfl rfl tg_X8_isHeard lk_X10_170 in_X8_isHeard se_X8_isHeard rfl dX10_amend_29 rfl (Nat.le_of_ble_eq_true rfl) (Nat.le_refl _) (Nat.le_refl _) ?_
      rintro _ _ ⟨rfl, rfl⟩ -
      rw [show (bI (0 < I 5 0 c 4) : Int32) = bI (0 < sF a c 4) from isH hc hw hcc]
      refine w_ifeq_b (tgt := 40) dX10_amend_32 (by decide) (fun h2 => ?_) (fun h2 => ?_)
      · skip
        first
        | (exfalso; omega)
        | skip
          refine w_aload dX10_amend_40 rfl ?_
          refine w_iload_n dX10_amend_42 rfl ?_
          refine w_iload_n dX10_amend_43 rfl ?_
          refine w_callV (as := [vI (0), vI (nI v)]) (st := []) (Tri.mono (c_X8_replace 0 c (0) (nI v)) (Nat.le_of_ble_eq_true rfl)) rfl rfl tg_X8_replace lk_X10_174 in_X8_replace se_X8_replace rfl dX10_amend_44 rfl (Nat.le_of_ble_eq_true rfl) (Nat.le_refl _) (Nat.le_refl _) ?_
          rintro _ _ ⟨rfl, rfl⟩ -
          refine w_top (y := nI (sF a c 0)) (show (replO I 0 c 0 : Int32) = nI (sF a c 0) from (repl_0 (v := 0)).2.trans (hc.s hcc (f := 0) (by decide) (by decide))) ?_
          exact w_ireturn dX10_amend_47 rfl (rfl) rfl (⟨rfl, _, _, rfl, by rw [hrp]; exact hc.upS c (f := 0) (by decide) v, by rw [hrp]; exact FrC.up (by decide)⟩)
      · skip
        first
        | (exfalso; omega)
        | skip
          refine w_bipush (v := (-2)) dX10_amend_35 (by decide) ?_
          refine w_goto (tgt := 47) dX10_amend_37 (by decide) ?_
          exact w_ireturn dX10_amend_47 rfl (rfl) rfl (⟨rfl, _, _, rfl, by rw [hrp]; exact hc.upS c (f := 0) (by decide) v, by rw [hrp]; exact FrC.up (by decide)⟩)
  · skip
    first
    | (exfalso; omega)
    | skip
      refine w_iconst (v := (-1)) dX10_amend_25 (by decide) ?_
      exact w_ireturn dX10_amend_26 rfl (rfl) rfl (⟨rfl, _, _, rfl, by rw [hrp]; exact hc.upS c (f := 0) (by decide) v, by rw [hrp]; exact FrC.up (by decide)⟩)

theorem q_amend_0 {I : xF4 Int32} {L : xF4 Int64} {a : aA} (hs : SI I a) (hw : WF a) {c : Nat} (hcc : c < nC a) {v : Nat} (hv : v < 4) (h4 : ¬ 0 < sF a c 4) : Tri 19 109 m_X11_amend [vR 30 0 0, vI (nI c), vI (0), vI (nI v)] (rM I L) (pMc (nI (sF a c 0)) (asF a c 0 v) I) := by
  refine ⟨k_X11_amend, Nat.le_of_ble_eq_true rfl, ?_⟩
  show Wp _ _ _ 0 [some (vR 30 0 0), some (vI (nI c)), some (vI (0)), some (vI (nI v)), none, none] [] (rM I L) _
  obtain ⟨hJ, hC, hG, hD, hR, -⟩ := id hw
  obtain ⟨fc0, fc1, fc2, fc3, fc4, fc5, fc6, fc7, fc8⟩ := hw.2.2.2.2.2.2.1 c hcc
  refine w_aload_n dX11_amend_0 rfl ?_
  refine w_iload_n dX11_amend_1 rfl ?_
  refine w_callV (as := [vI (nI c)]) (st := []) (Tri.mono (d_isCase (hs.2.1) (by omega) (x := nI c) (X := ((c : Nat) : Int)) (z_nI (by omega))) (Nat.le_of_ble_eq_true rfl)) rfl rfl tg_X11_isCase lk_X11_204 in_X11_isCase se_X11_isCase rfl dX11_amend_2 rfl (Nat.le_of_ble_eq_true rfl) (Nat.le_refl _) (Nat.le_refl _) ?_
  rintro _ _ ⟨rfl, rfl⟩ -
  refine w_ifne_b (tgt := 10) dX11_amend_5 (by decide) (fun h1 => ?_) (fun h1 => ?_)
  · skip
    first
    | (exfalso; omega)
    | skip
      refine w_bipush (v := 20) dX11_amend_10 (by decide) ?_
      refine w_bipush (v := 7) dX11_amend_12 (by decide) ?_
      refine w_iload_n dX11_amend_14 rfl ?_
      refine w_imul dX11_amend_15 ?_
      rw [show ((7) * (nI c) : Int32) = nI (7 * c) from ar_mul (p := 7) (q := c) rfl rfl (by first | rfl | omega)]
      refine w_iadd dX11_amend_16 ?_
      rw [show ((20) + (nI (7 * c)) : Int32) = nI (20 + (7 * c)) from ar_add (p := 20) (q := 7 * c) rfl rfl (by omega)]
      refine w_istore (ls' := [some (vR 30 0 0), some (vI (nI c)), some (vI (0)), some (vI (nI v)), some (vI (nI (20 + (7 * c)))), none]) dX11_amend_17 rfl ?_
      refine w_iload_n dX11_amend_19 rfl ?_
      refine w_if_ne (tgt := 35) dX11_amend_20 (by decide) (fun h => absurd (by decide) h) (fun _ => ?_)
      refine w_iload_n dX11_amend_23 rfl ?_
      refine w_i2l dX11_amend_24 ?_
      refine w_lconst (v := 0) dX11_amend_25 (by decide) ?_
      refine w_ldc2 dX11_amend_26 cq_X11_209 ?_
      refine w_callS (as := [vL ((nI v : Int32).toInt64), vL (0), vL (3)]) (st := []) (Tri.mono (d_in ((nI v : Int32).toInt64) (0) (3)) (Nat.le_of_ble_eq_true rfl)) tg_X11_in lk_X11_66 sa_X11_in rfl dX11_amend_29 rfl (Nat.le_of_ble_eq_true rfl) (Nat.le_refl _) (Nat.le_refl _) ?_
      rintro _ _ ⟨rfl, rfl⟩ -
      refine w_top (y := bI (0 ≤ ((v : Nat) : Int) ∧ ((v : Nat) : Int) ≤ 3)) (show (bI ((0 : Int64) ≤ ((nI v : Int32).toInt64) ∧ ((nI v : Int32).toInt64) ≤ (3 : Int64)) : Int32) = bI (0 ≤ ((v : Nat) : Int) ∧ ((v : Nat) : Int) ≤ 3) from inZ (x := nI v) (l := 0) (h := 3) (X := ((v : Nat) : Int)) (A := 0) (B := 3) rfl (by decide) (by decide) (z_nI (by omega)) (by decide) (by decide)) ?_
      refine w_goto (tgt := 107) dX11_amend_32 (by decide) ?_
      refine w_istore (ls' := [some (vR 30 0 0), some (vI (nI c)), some (vI (0)), some (vI (nI v)), some (vI (nI (20 + (7 * c)))), some (vI (bI (0 ≤ ((v : Nat) : Int) ∧ ((v : Nat) : Int) ≤ 3)))]) dX11_amend_107 rfl ?_
      refine w_iload dX11_amend_109 rfl ?_
      refine w_ifne_b (tgt := 116) dX11_amend_111 (by decide) (fun h2 => ?_) (fun h2 => ?_)
      · skip
        first
        | (exfalso; omega)
        | skip
          refine w_aload_n dX11_amend_116 rfl ?_
          refine w_iload_n dX11_amend_117 rfl ?_
          refine w_callV (as := [vI (nI c)]) (st := []) (Tri.mono (d_isHeard hs hw hcc) (Nat.le_of_ble_eq_true rfl)) rfl rfl tg_X11_isHeard lk_X11_218 in_X11_isHeard se_X11_isHeard rfl dX11_amend_118 rfl (Nat.le_of_ble_eq_true rfl) (Nat.le_refl _) (Nat.le_refl _) ?_
          rintro _ _ ⟨rfl, rfl⟩ -
          refine w_ifeq_b (tgt := 129) dX11_amend_121 (by decide) (fun h3 => ?_) (fun h3 => ?_)
          · skip
            first
            | (exfalso; omega)
            | skip
              refine w_aload_n dX11_amend_129 rfl ?_
              refine w_iload dX11_amend_130 rfl ?_
              refine w_iload_n dX11_amend_132 rfl ?_
              refine w_iadd dX11_amend_133 ?_
              rw [show ((nI (20 + (7 * c))) + (0) : Int32) = nI (20 + (7 * c)) from ar_add (p := 20 + (7 * c)) (q := 0) rfl rfl (by omega)]
              refine w_iload_n dX11_amend_134 rfl ?_
              refine w_callV (as := [vI (nI (20 + (7 * c))), vI (nI v)]) (st := []) (Tri.mono (d_becomes (k := 20 + (7 * c)) (v := v) (by omega)) (Nat.le_of_ble_eq_true rfl)) rfl rfl tg_X11_becomes lk_X11_215 in_X11_becomes se_X11_becomes rfl dX11_amend_135 rfl (Nat.le_of_ble_eq_true rfl) (Nat.le_refl _) (Nat.le_refl _) ?_
              rintro _ _ ⟨rfl, rfl⟩ -
              refine w_top (y := nI (sF a c 0)) (show (I 31 0 0 (20 + (7 * c)) : Int32) = nI (sF a c 0) from hs.2.2.s hcc (f := 0) (by decide) (by decide) (by omega)) ?_
              exact w_ireturn dX11_amend_138 rfl (rfl) rfl (⟨rfl, _, _, rfl, hs.up (hs.2.2.upS hJ (c := c) (f := 0) (by omega) (by decide) (by decide) (by omega) v) rfl rfl, FrW.up (by omega)⟩)
          · skip
            first
            | (exfalso; omega)
            | skip
              refine w_bipush (v := (-2)) dX11_amend_124 (by decide) ?_
              refine w_goto (tgt := 138) dX11_amend_126 (by decide) ?_
              exact w_ireturn dX11_amend_138 rfl (rfl) rfl (⟨rfl, _, _, rfl, hs.up (hs.2.2.upS hJ (c := c) (f := 0) (by omega) (by decide) (by decide) (by omega) v) rfl rfl, FrW.up (by omega)⟩)
      · skip
        first
        | (exfalso; omega)
        | skip
          refine w_iconst (v := (-1)) dX11_amend_114 (by decide) ?_
          exact w_ireturn dX11_amend_115 rfl (rfl) rfl (⟨rfl, _, _, rfl, hs.up (hs.2.2.upS hJ (c := c) (f := 0) (by omega) (by decide) (by decide) (by omega) v) rfl rfl, FrW.up (by omega)⟩)
  · skip
    first
    | (exfalso; omega)
    | skip
      refine w_iconst (v := (-1)) dX11_amend_8 (by decide) ?_
      exact w_ireturn dX11_amend_9 rfl (rfl) rfl (⟨rfl, _, _, rfl, hs.up (hs.2.2.upS hJ (c := c) (f := 0) (by omega) (by decide) (by decide) (by omega) v) rfl rfl, FrW.up (by omega)⟩)

theorem p_amend_h0 {I : xF4 Int32} {L : xF4 Int64} {a : aA} (hc : CourtIs I 0 a) (hw : WF a) {c : Nat} (hcc : c < nC a) {v : Nat} (hv : v < 4) (h4 : 0 < sF a c 4) : Tri 19 109 m_X10_amend [vR 0 0 0, vI (nI c), vI (0), vI (nI v)] (rM I L) (pCq (vI (-2)) I) := by
  refine ⟨k_X10_amend, Nat.le_of_ble_eq_true rfl, ?_⟩
  show Wp _ _ _ 0 [some (vR 0 0 0), some (vI (nI c)), some (vI (0)), some (vI (nI v)), none] [] (rM I L) _
  obtain ⟨hJ, hC, hG, hD, hR, -⟩ := id hw
  obtain ⟨fc0, fc1, fc2, fc3, fc4, fc5, fc6, fc7, fc8⟩ := hw.2.2.2.2.2.2.1 c hcc
  refine w_aload_n dX10_amend_0 rfl ?_
  refine w_getR (w := some (1, 0, 0)) ff_X10_10 rfl rfl dX10_amend_1 rfl ?_
  refine w_iload_n dX10_amend_4 rfl ?_
  refine w_callV (as := [vI (nI c)]) (st := []) (Tri.mono (c_sAt hc hw hcc) (Nat.le_of_ble_eq_true rfl)) rfl rfl tg_X1_suitAt lk_X10_136 in_X1_suitAt se_X1_suitAt rfl dX10_amend_5 rfl (Nat.le_of_ble_eq_true rfl) (Nat.le_refl _) (Nat.le_refl _) ?_
  rintro _ _ ⟨rfl, rfl⟩ -
  refine w_astore (ls' := [some (vR 0 0 0), some (vI (nI c)), some (vI (0)), some (vI (nI v)), some (vR 5 0 c)]) dX10_amend_8 rfl ?_
  refine w_aload dX10_amend_10 rfl ?_
  refine w_ifnull (tgt := 25) dX10_amend_12 (by decide) (fun h => by cases h) (fun _ _ => ?_)
  refine w_aload dX10_amend_15 rfl ?_
  refine w_iload_n dX10_amend_17 rfl ?_
  refine w_iload_n dX10_amend_18 rfl ?_
  refine w_callV (as := [vI (0), vI (nI v)]) (st := []) (Tri.mono (c_X8_admits 0 c (0) (nI v)) (Nat.le_of_ble_eq_true rfl)) rfl rfl tg_X8_admits lk_X10_166 in_X8_admits se_X8_admits rfl dX10_amend_19 rfl (Nat.le_of_ble_eq_true rfl) (Nat.le_refl _) (Nat.le_refl _) ?_
  rintro _ _ ⟨rfl, rfl⟩ -
  refine w_top (y := bI (0 ≤ ((v : Nat) : Int) ∧ ((v : Nat) : Int) ≤ 3)) (show (bI (admP (0) (nI v) (I 5 0 c 1) (I 5 0 c 2)) : Int32) = bI (0 ≤ ((v : Nat) : Int) ∧ ((v : Nat) : Int) ≤ 3) from adm_0 (z_nI (by omega))) ?_
  refine w_ifne_b (tgt := 27) dX10_amend_22 (by decide) (fun h1 => ?_) (fun h1 => ?_)
  · skip
    first
    | (exfalso; omega)
    | skip
      refine w_aload dX10_amend_27 rfl ?_
      refine w_callV (as := []) (st := []) (Tri.mono (c_X8_isHeard 0 c) (Nat.le_of_ble_eq_true rfl)) rfl rfl tg_X8_isHeard lk_X10_170 in_X8_isHeard se_X8_isHeard rfl dX10_amend_29 rfl (Nat.le_of_ble_eq_true rfl) (Nat.le_refl _) (Nat.le_refl _) ?_
      rintro _ _ ⟨rfl, rfl⟩ -
      rw [show (bI (0 < I 5 0 c 4) : Int32) = bI (0 < sF a c 4) from isH hc hw hcc]
      refine w_ifeq_b (tgt := 40) dX10_amend_32 (by decide) (fun h2 => ?_) (fun h2 => ?_)
      · skip
        first
        | (exfalso; omega)
        | skip
          refine w_aload dX10_amend_40 rfl ?_
          refine w_iload_n dX10_amend_42 rfl ?_
          refine w_iload_n dX10_amend_43 rfl ?_
          refine w_callV (as := [vI (0), vI (nI v)]) (st := []) (Tri.mono (c_X8_replace 0 c (0) (nI v)) (Nat.le_of_ble_eq_true rfl)) rfl rfl tg_X8_replace lk_X10_174 in_X8_replace se_X8_replace rfl dX10_amend_44 rfl (Nat.le_of_ble_eq_true rfl) (Nat.le_refl _) (Nat.le_refl _) ?_
          rintro _ _ ⟨rfl, rfl⟩ -
          refine w_top (y := nI (sF a c 0)) (show (replO I 0 c 0 : Int32) = nI (sF a c 0) from (repl_0 (v := 0)).2.trans (hc.s hcc (f := 0) (by decide) (by decide))) ?_
          exact w_ireturn dX10_amend_47 rfl (rfl) rfl (⟨rfl, _, _, rfl, FrQ.rf⟩)
      · skip
        first
        | (exfalso; omega)
        | skip
          refine w_bipush (v := (-2)) dX10_amend_35 (by decide) ?_
          refine w_goto (tgt := 47) dX10_amend_37 (by decide) ?_
          exact w_ireturn dX10_amend_47 rfl (rfl) rfl (⟨rfl, _, _, rfl, FrQ.rf⟩)
  · skip
    first
    | (exfalso; omega)
    | skip
      refine w_iconst (v := (-1)) dX10_amend_25 (by decide) ?_
      exact w_ireturn dX10_amend_26 rfl (rfl) rfl (⟨rfl, _, _, rfl, FrQ.rf⟩)

theorem q_amend_h0 {I : xF4 Int32} {L : xF4 Int64} {a : aA} (hs : SI I a) (hw : WF a) {c : Nat} (hcc : c < nC a) {v : Nat} (hv : v < 4) (h4 : 0 < sF a c 4) : Tri 19 109 m_X11_amend [vR 30 0 0, vI (nI c), vI (0), vI (nI v)] (rM I L) (pMq (vI (-2)) I) := by
  refine ⟨k_X11_amend, Nat.le_of_ble_eq_true rfl, ?_⟩
  show Wp _ _ _ 0 [some (vR 30 0 0), some (vI (nI c)), some (vI (0)), some (vI (nI v)), none, none] [] (rM I L) _
  obtain ⟨hJ, hC, hG, hD, hR, -⟩ := id hw
  obtain ⟨fc0, fc1, fc2, fc3, fc4, fc5, fc6, fc7, fc8⟩ := hw.2.2.2.2.2.2.1 c hcc
  refine w_aload_n dX11_amend_0 rfl ?_
  refine w_iload_n dX11_amend_1 rfl ?_
  refine w_callV (as := [vI (nI c)]) (st := []) (Tri.mono (d_isCase (hs.2.1) (by omega) (x := nI c) (X := ((c : Nat) : Int)) (z_nI (by omega))) (Nat.le_of_ble_eq_true rfl)) rfl rfl tg_X11_isCase lk_X11_204 in_X11_isCase se_X11_isCase rfl dX11_amend_2 rfl (Nat.le_of_ble_eq_true rfl) (Nat.le_refl _) (Nat.le_refl _) ?_
  rintro _ _ ⟨rfl, rfl⟩ -
  refine w_ifne_b (tgt := 10) dX11_amend_5 (by decide) (fun h1 => ?_) (fun h1 => ?_)
  · skip
    first
    | (exfalso; omega)
    | skip
      refine w_bipush (v := 20) dX11_amend_10 (by decide) ?_
      refine w_bipush (v := 7) dX11_amend_12 (by decide) ?_
      refine w_iload_n dX11_amend_14 rfl ?_
      refine w_imul dX11_amend_15 ?_
      rw [show ((7) * (nI c) : Int32) = nI (7 * c) from ar_mul (p := 7) (q := c) rfl rfl (by first | rfl | omega)]
      refine w_iadd dX11_amend_16 ?_
      rw [show ((20) + (nI (7 * c)) : Int32) = nI (20 + (7 * c)) from ar_add (p := 20) (q := 7 * c) rfl rfl (by omega)]
      refine w_istore (ls' := [some (vR 30 0 0), some (vI (nI c)), some (vI (0)), some (vI (nI v)), some (vI (nI (20 + (7 * c)))), none]) dX11_amend_17 rfl ?_
      refine w_iload_n dX11_amend_19 rfl ?_
      refine w_if_ne (tgt := 35) dX11_amend_20 (by decide) (fun h => absurd (by decide) h) (fun _ => ?_)
      refine w_iload_n dX11_amend_23 rfl ?_
      refine w_i2l dX11_amend_24 ?_
      refine w_lconst (v := 0) dX11_amend_25 (by decide) ?_
      refine w_ldc2 dX11_amend_26 cq_X11_209 ?_
      refine w_callS (as := [vL ((nI v : Int32).toInt64), vL (0), vL (3)]) (st := []) (Tri.mono (d_in ((nI v : Int32).toInt64) (0) (3)) (Nat.le_of_ble_eq_true rfl)) tg_X11_in lk_X11_66 sa_X11_in rfl dX11_amend_29 rfl (Nat.le_of_ble_eq_true rfl) (Nat.le_refl _) (Nat.le_refl _) ?_
      rintro _ _ ⟨rfl, rfl⟩ -
      refine w_top (y := bI (0 ≤ ((v : Nat) : Int) ∧ ((v : Nat) : Int) ≤ 3)) (show (bI ((0 : Int64) ≤ ((nI v : Int32).toInt64) ∧ ((nI v : Int32).toInt64) ≤ (3 : Int64)) : Int32) = bI (0 ≤ ((v : Nat) : Int) ∧ ((v : Nat) : Int) ≤ 3) from inZ (x := nI v) (l := 0) (h := 3) (X := ((v : Nat) : Int)) (A := 0) (B := 3) rfl (by decide) (by decide) (z_nI (by omega)) (by decide) (by decide)) ?_
      refine w_goto (tgt := 107) dX11_amend_32 (by decide) ?_
      refine w_istore (ls' := [some (vR 30 0 0), some (vI (nI c)), some (vI (0)), some (vI (nI v)), some (vI (nI (20 + (7 * c)))), some (vI (bI (0 ≤ ((v : Nat) : Int) ∧ ((v : Nat) : Int) ≤ 3)))]) dX11_amend_107 rfl ?_
      refine w_iload dX11_amend_109 rfl ?_
      refine w_ifne_b (tgt := 116) dX11_amend_111 (by decide) (fun h2 => ?_) (fun h2 => ?_)
      · skip
        first
        | (exfalso; omega)
        | skip
          refine w_aload_n dX11_amend_116 rfl ?_
          refine w_iload_n dX11_amend_117 rfl ?_
          refine w_callV (as := [vI (nI c)]) (st := []) (Tri.mono (d_isHeard hs hw hcc) (Nat.le_of_ble_eq_true rfl)) rfl rfl tg_X11_isHeard lk_X11_218 in_X11_isHeard se_X11_isHeard rfl dX11_amend_118 rfl (Nat.le_of_ble_eq_true rfl) (Nat.le_refl _) (Nat.le_refl _) ?_
          rintro _ _ ⟨rfl, rfl⟩ -
          refine w_ifeq_b (tgt := 129) dX11_amend_121 (by decide) (fun h3 => ?_) (fun h3 => ?_)
          · skip
            first
            | (exfalso; omega)
            | skip
              refine w_aload_n dX11_amend_129 rfl ?_
              refine w_iload dX11_amend_130 rfl ?_
              refine w_iload_n dX11_amend_132 rfl ?_
              refine w_iadd dX11_amend_133 ?_
              rw [show ((nI (20 + (7 * c))) + (0) : Int32) = nI (20 + (7 * c)) from ar_add (p := 20 + (7 * c)) (q := 0) rfl rfl (by omega)]
              refine w_iload_n dX11_amend_134 rfl ?_
              refine w_callV (as := [vI (nI (20 + (7 * c))), vI (nI v)]) (st := []) (Tri.mono (d_becomes (k := 20 + (7 * c)) (v := v) (by omega)) (Nat.le_of_ble_eq_true rfl)) rfl rfl tg_X11_becomes lk_X11_215 in_X11_becomes se_X11_becomes rfl dX11_amend_135 rfl (Nat.le_of_ble_eq_true rfl) (Nat.le_refl _) (Nat.le_refl _) ?_
              rintro _ _ ⟨rfl, rfl⟩ -
              refine w_top (y := nI (sF a c 0)) (show (I 31 0 0 (20 + (7 * c)) : Int32) = nI (sF a c 0) from hs.2.2.s hcc (f := 0) (by decide) (by decide) (by omega)) ?_
              exact w_ireturn dX11_amend_138 rfl (rfl) rfl (⟨rfl, _, _, rfl, FrR.rf⟩)
          · skip
            first
            | (exfalso; omega)
            | skip
              refine w_bipush (v := (-2)) dX11_amend_124 (by decide) ?_
              refine w_goto (tgt := 138) dX11_amend_126 (by decide) ?_
              exact w_ireturn dX11_amend_138 rfl (rfl) rfl (⟨rfl, _, _, rfl, FrR.rf⟩)
      · skip
        first
        | (exfalso; omega)
        | skip
          refine w_iconst (v := (-1)) dX11_amend_114 (by decide) ?_
          exact w_ireturn dX11_amend_115 rfl (rfl) rfl (⟨rfl, _, _, rfl, FrR.rf⟩)
  · skip
    first
    | (exfalso; omega)
    | skip
      refine w_iconst (v := (-1)) dX11_amend_8 (by decide) ?_
      exact w_ireturn dX11_amend_9 rfl (rfl) rfl (⟨rfl, _, _, rfl, FrR.rf⟩)

theorem p_amend_1 {I : xF4 Int32} {L : xF4 Int64} {a : aA} (hc : CourtIs I 0 a) (hw : WF a) {c : Nat} (hcc : c < nC a) {v : Nat} (h1v : 1 ≤ v) (hv : v ≤ sF a c 2) (h4 : ¬ 0 < sF a c 4) : Tri 19 109 m_X10_amend [vR 0 0 0, vI (nI c), vI (1), vI (nI v)] (rM I L) (pCc (nI (sF a c 1)) (asF a c 1 v) I) := by
  refine ⟨k_X10_amend, Nat.le_of_ble_eq_true rfl, ?_⟩
  show Wp _ _ _ 0 [some (vR 0 0 0), some (vI (nI c)), some (vI (1)), some (vI (nI v)), none] [] (rM I L) _
  obtain ⟨hJ, hC, hG, hD, hR, -⟩ := id hw
  obtain ⟨fc0, fc1, fc2, fc3, fc4, fc5, fc6, fc7, fc8⟩ := hw.2.2.2.2.2.2.1 c hcc
  have hrp := (repl_1 (I := I) (k := 0) (c := c) (v := nI v)).1
  refine w_aload_n dX10_amend_0 rfl ?_
  refine w_getR (w := some (1, 0, 0)) ff_X10_10 rfl rfl dX10_amend_1 rfl ?_
  refine w_iload_n dX10_amend_4 rfl ?_
  refine w_callV (as := [vI (nI c)]) (st := []) (Tri.mono (c_sAt hc hw hcc) (Nat.le_of_ble_eq_true rfl)) rfl rfl tg_X1_suitAt lk_X10_136 in_X1_suitAt se_X1_suitAt rfl dX10_amend_5 rfl (Nat.le_of_ble_eq_true rfl) (Nat.le_refl _) (Nat.le_refl _) ?_
  rintro _ _ ⟨rfl, rfl⟩ -
  refine w_astore (ls' := [some (vR 0 0 0), some (vI (nI c)), some (vI (1)), some (vI (nI v)), some (vR 5 0 c)]) dX10_amend_8 rfl ?_
  refine w_aload dX10_amend_10 rfl ?_
  refine w_ifnull (tgt := 25) dX10_amend_12 (by decide) (fun h => by cases h) (fun _ _ => ?_)
  refine w_aload dX10_amend_15 rfl ?_
  refine w_iload_n dX10_amend_17 rfl ?_
  refine w_iload_n dX10_amend_18 rfl ?_
  refine w_callV (as := [vI (1), vI (nI v)]) (st := []) (Tri.mono (c_X8_admits 0 c (1) (nI v)) (Nat.le_of_ble_eq_true rfl)) rfl rfl tg_X8_admits lk_X10_166 in_X8_admits se_X8_admits rfl dX10_amend_19 rfl (Nat.le_of_ble_eq_true rfl) (Nat.le_refl _) (Nat.le_refl _) ?_
  rintro _ _ ⟨rfl, rfl⟩ -
  refine w_top (y := bI (1 ≤ ((v : Nat) : Int) ∧ ((v : Nat) : Int) ≤ ((sF a c 2 : Nat) : Int))) (show (bI (admP (1) (nI v) (I 5 0 c 1) (I 5 0 c 2)) : Int32) = bI (1 ≤ ((v : Nat) : Int) ∧ ((v : Nat) : Int) ≤ ((sF a c 2 : Nat) : Int)) from adm_1 (z_nI (by omega)) (by rw [hc.s hcc (f := 2) (by decide) (by decide)]; exact z_nI (by omega))) ?_
  refine w_ifne_b (tgt := 27) dX10_amend_22 (by decide) (fun h1 => ?_) (fun h1 => ?_)
  · skip
    first
    | (exfalso; omega)
    | skip
      refine w_aload dX10_amend_27 rfl ?_
      refine w_callV (as := []) (st := []) (Tri.mono (c_X8_isHeard 0 c) (Nat.le_of_ble_eq_true rfl)) rfl rfl tg_X8_isHeard lk_X10_170 in_X8_isHeard se_X8_isHeard rfl dX10_amend_29 rfl (Nat.le_of_ble_eq_true rfl) (Nat.le_refl _) (Nat.le_refl _) ?_
      rintro _ _ ⟨rfl, rfl⟩ -
      rw [show (bI (0 < I 5 0 c 4) : Int32) = bI (0 < sF a c 4) from isH hc hw hcc]
      refine w_ifeq_b (tgt := 40) dX10_amend_32 (by decide) (fun h2 => ?_) (fun h2 => ?_)
      · skip
        first
        | (exfalso; omega)
        | skip
          refine w_aload dX10_amend_40 rfl ?_
          refine w_iload_n dX10_amend_42 rfl ?_
          refine w_iload_n dX10_amend_43 rfl ?_
          refine w_callV (as := [vI (1), vI (nI v)]) (st := []) (Tri.mono (c_X8_replace 0 c (1) (nI v)) (Nat.le_of_ble_eq_true rfl)) rfl rfl tg_X8_replace lk_X10_174 in_X8_replace se_X8_replace rfl dX10_amend_44 rfl (Nat.le_of_ble_eq_true rfl) (Nat.le_refl _) (Nat.le_refl _) ?_
          rintro _ _ ⟨rfl, rfl⟩ -
          refine w_top (y := nI (sF a c 1)) (show (replO I 0 c 1 : Int32) = nI (sF a c 1) from (repl_1 (v := 0)).2.trans (hc.s hcc (f := 1) (by decide) (by decide))) ?_
          exact w_ireturn dX10_amend_47 rfl (rfl) rfl (⟨rfl, _, _, rfl, by rw [hrp]; exact hc.upS c (f := 1) (by decide) v, by rw [hrp]; exact FrC.up (by decide)⟩)
      · skip
        first
        | (exfalso; omega)
        | skip
          refine w_bipush (v := (-2)) dX10_amend_35 (by decide) ?_
          refine w_goto (tgt := 47) dX10_amend_37 (by decide) ?_
          exact w_ireturn dX10_amend_47 rfl (rfl) rfl (⟨rfl, _, _, rfl, by rw [hrp]; exact hc.upS c (f := 1) (by decide) v, by rw [hrp]; exact FrC.up (by decide)⟩)
  · skip
    first
    | (exfalso; omega)
    | skip
      refine w_iconst (v := (-1)) dX10_amend_25 (by decide) ?_
      exact w_ireturn dX10_amend_26 rfl (rfl) rfl (⟨rfl, _, _, rfl, by rw [hrp]; exact hc.upS c (f := 1) (by decide) v, by rw [hrp]; exact FrC.up (by decide)⟩)

theorem q_amend_1 {I : xF4 Int32} {L : xF4 Int64} {a : aA} (hs : SI I a) (hw : WF a) {c : Nat} (hcc : c < nC a) {v : Nat} (h1v : 1 ≤ v) (hv : v ≤ sF a c 2) (h4 : ¬ 0 < sF a c 4) : Tri 19 109 m_X11_amend [vR 30 0 0, vI (nI c), vI (1), vI (nI v)] (rM I L) (pMc (nI (sF a c 1)) (asF a c 1 v) I) := by
  refine ⟨k_X11_amend, Nat.le_of_ble_eq_true rfl, ?_⟩
  show Wp _ _ _ 0 [some (vR 30 0 0), some (vI (nI c)), some (vI (1)), some (vI (nI v)), none, none] [] (rM I L) _
  obtain ⟨hJ, hC, hG, hD, hR, -⟩ := id hw
  obtain ⟨fc0, fc1, fc2, fc3, fc4, fc5, fc6, fc7, fc8⟩ := hw.2.2.2.2.2.2.1 c hcc
  refine w_aload_n dX11_amend_0 rfl ?_
  refine w_iload_n dX11_amend_1 rfl ?_
  refine w_callV (as := [vI (nI c)]) (st := []) (Tri.mono (d_isCase (hs.2.1) (by omega) (x := nI c) (X := ((c : Nat) : Int)) (z_nI (by omega))) (Nat.le_of_ble_eq_true rfl)) rfl rfl tg_X11_isCase lk_X11_204 in_X11_isCase se_X11_isCase rfl dX11_amend_2 rfl (Nat.le_of_ble_eq_true rfl) (Nat.le_refl _) (Nat.le_refl _) ?_
  rintro _ _ ⟨rfl, rfl⟩ -
  refine w_ifne_b (tgt := 10) dX11_amend_5 (by decide) (fun h1 => ?_) (fun h1 => ?_)
  · skip
    first
    | (exfalso; omega)
    | skip
      refine w_bipush (v := 20) dX11_amend_10 (by decide) ?_
      refine w_bipush (v := 7) dX11_amend_12 (by decide) ?_
      refine w_iload_n dX11_amend_14 rfl ?_
      refine w_imul dX11_amend_15 ?_
      rw [show ((7) * (nI c) : Int32) = nI (7 * c) from ar_mul (p := 7) (q := c) rfl rfl (by first | rfl | omega)]
      refine w_iadd dX11_amend_16 ?_
      rw [show ((20) + (nI (7 * c)) : Int32) = nI (20 + (7 * c)) from ar_add (p := 20) (q := 7 * c) rfl rfl (by omega)]
      refine w_istore (ls' := [some (vR 30 0 0), some (vI (nI c)), some (vI (1)), some (vI (nI v)), some (vI (nI (20 + (7 * c)))), none]) dX11_amend_17 rfl ?_
      refine w_iload_n dX11_amend_19 rfl ?_
      refine w_if_ne (tgt := 35) dX11_amend_20 (by decide) (fun _ => ?_) (fun h => absurd h (by decide))
      refine w_iload_n dX11_amend_35 rfl ?_
      refine w_iconst (v := 1) dX11_amend_36 (by decide) ?_
      refine w_icmp_ne (tgt := 59) dX11_amend_37 (by decide) (fun h => absurd (by decide) h) (fun _ => ?_)
      refine w_iload_n dX11_amend_40 rfl ?_
      refine w_i2l dX11_amend_41 ?_
      refine w_lconst (v := 1) dX11_amend_42 (by decide) ?_
      refine w_aload_n dX11_amend_43 rfl ?_
      refine w_getR (w := some (31, 0, 0)) ff_X11_7 rfl rfl dX11_amend_44 rfl ?_
      refine w_iload dX11_amend_47 rfl ?_
      refine w_iconst (v := 2) dX11_amend_49 (by decide) ?_
      refine w_iadd dX11_amend_50 ?_
      rw [show ((nI (20 + (7 * c))) + (2) : Int32) = nI ((20 + (7 * c)) + 2) from ar_add (p := 20 + (7 * c)) (q := 2) rfl rfl (by omega)]
      refine w_iaload (a := (20 + (7 * c)) + 2) rfl (vp_in_nI (n := (20 + (7 * c)) + 2) (by omega) (by omega)) (nI_clamp (n := (20 + (7 * c)) + 2) (by omega)) dX11_amend_51 ?_
      rw [show (I 31 0 0 ((20 + (7 * c)) + 2) : Int32) = nI (sF a c 2) from hs.2.2.s hcc (f := 2) (by decide) (by decide) (by omega)]
      refine w_i2l dX11_amend_52 ?_
      refine w_callS (as := [vL ((nI v : Int32).toInt64), vL (1), vL ((nI (sF a c 2) : Int32).toInt64)]) (st := []) (Tri.mono (d_in ((nI v : Int32).toInt64) (1) ((nI (sF a c 2) : Int32).toInt64)) (Nat.le_of_ble_eq_true rfl)) tg_X11_in lk_X11_66 sa_X11_in rfl dX11_amend_53 rfl (Nat.le_of_ble_eq_true rfl) (Nat.le_refl _) (Nat.le_refl _) ?_
      rintro _ _ ⟨rfl, rfl⟩ -
      refine w_top (y := bI (1 ≤ ((v : Nat) : Int) ∧ ((v : Nat) : Int) ≤ ((sF a c 2 : Nat) : Int))) (show (bI ((1 : Int64) ≤ ((nI v : Int32).toInt64) ∧ ((nI v : Int32).toInt64) ≤ ((nI (sF a c 2) : Int32).toInt64)) : Int32) = bI (1 ≤ ((v : Nat) : Int) ∧ ((v : Nat) : Int) ≤ ((sF a c 2 : Nat) : Int)) from inZ (x := nI v) (l := 1) (h := nI (sF a c 2)) (X := ((v : Nat) : Int)) (A := 1) (B := ((sF a c 2 : Nat) : Int)) rfl (by decide) rfl (z_nI (by omega)) (by decide) (z_nI (by omega))) ?_
      refine w_goto (tgt := 107) dX11_amend_56 (by decide) ?_
      refine w_istore (ls' := [some (vR 30 0 0), some (vI (nI c)), some (vI (1)), some (vI (nI v)), some (vI (nI (20 + (7 * c)))), some (vI (bI (1 ≤ ((v : Nat) : Int) ∧ ((v : Nat) : Int) ≤ ((sF a c 2 : Nat) : Int))))]) dX11_amend_107 rfl ?_
      refine w_iload dX11_amend_109 rfl ?_
      refine w_ifne_b (tgt := 116) dX11_amend_111 (by decide) (fun h2 => ?_) (fun h2 => ?_)
      · skip
        first
        | (exfalso; omega)
        | skip
          refine w_aload_n dX11_amend_116 rfl ?_
          refine w_iload_n dX11_amend_117 rfl ?_
          refine w_callV (as := [vI (nI c)]) (st := []) (Tri.mono (d_isHeard hs hw hcc) (Nat.le_of_ble_eq_true rfl)) rfl rfl tg_X11_isHeard lk_X11_218 in_X11_isHeard se_X11_isHeard rfl dX11_amend_118 rfl (Nat.le_of_ble_eq_true rfl) (Nat.le_refl _) (Nat.le_refl _) ?_
          rintro _ _ ⟨rfl, rfl⟩ -
          refine w_ifeq_b (tgt := 129) dX11_amend_121 (by decide) (fun h3 => ?_) (fun h3 => ?_)
          · skip
            first
            | (exfalso; omega)
            | skip
              refine w_aload_n dX11_amend_129 rfl ?_
              refine w_iload dX11_amend_130 rfl ?_
              refine w_iload_n dX11_amend_132 rfl ?_
              refine w_iadd dX11_amend_133 ?_
              rw [show ((nI (20 + (7 * c))) + (1) : Int32) = nI ((20 + (7 * c)) + 1) from ar_add (p := 20 + (7 * c)) (q := 1) rfl rfl (by omega)]
              refine w_iload_n dX11_amend_134 rfl ?_
              refine w_callV (as := [vI (nI ((20 + (7 * c)) + 1)), vI (nI v)]) (st := []) (Tri.mono (d_becomes (k := (20 + (7 * c)) + 1) (v := v) (by omega)) (Nat.le_of_ble_eq_true rfl)) rfl rfl tg_X11_becomes lk_X11_215 in_X11_becomes se_X11_becomes rfl dX11_amend_135 rfl (Nat.le_of_ble_eq_true rfl) (Nat.le_refl _) (Nat.le_refl _) ?_
              rintro _ _ ⟨rfl, rfl⟩ -
              refine w_top (y := nI (sF a c 1)) (show (I 31 0 0 ((20 + (7 * c)) + 1) : Int32) = nI (sF a c 1) from hs.2.2.s hcc (f := 1) (by decide) (by decide) (by omega)) ?_
              exact w_ireturn dX11_amend_138 rfl (rfl) rfl (⟨rfl, _, _, rfl, hs.up (hs.2.2.upS hJ (c := c) (f := 1) (by omega) (by decide) (by decide) (by omega) v) rfl rfl, FrW.up (by omega)⟩)
          · skip
            first
            | (exfalso; omega)
            | skip
              refine w_bipush (v := (-2)) dX11_amend_124 (by decide) ?_
              refine w_goto (tgt := 138) dX11_amend_126 (by decide) ?_
              exact w_ireturn dX11_amend_138 rfl (rfl) rfl (⟨rfl, _, _, rfl, hs.up (hs.2.2.upS hJ (c := c) (f := 1) (by omega) (by decide) (by decide) (by omega) v) rfl rfl, FrW.up (by omega)⟩)
      · skip
        first
        | (exfalso; omega)
        | skip
          refine w_iconst (v := (-1)) dX11_amend_114 (by decide) ?_
          exact w_ireturn dX11_amend_115 rfl (rfl) rfl (⟨rfl, _, _, rfl, hs.up (hs.2.2.upS hJ (c := c) (f := 1) (by omega) (by decide) (by decide) (by omega) v) rfl rfl, FrW.up (by omega)⟩)
  · skip
    first
    | (exfalso; omega)
    | skip
      refine w_iconst (v := (-1)) dX11_amend_8 (by decide) ?_
      exact w_ireturn dX11_amend_9 rfl (rfl) rfl (⟨rfl, _, _, rfl, hs.up (hs.2.2.upS hJ (c := c) (f := 1) (by omega) (by decide) (by decide) (by omega) v) rfl rfl, FrW.up (by omega)⟩)

theorem p_amend_h1 {I : xF4 Int32} {L : xF4 Int64} {a : aA} (hc : CourtIs I 0 a) (hw : WF a) {c : Nat} (hcc : c < nC a) {v : Nat} (h1v : 1 ≤ v) (hv : v ≤ sF a c 2) (h4 : 0 < sF a c 4) : Tri 19 109 m_X10_amend [vR 0 0 0, vI (nI c), vI (1), vI (nI v)] (rM I L) (pCq (vI (-2)) I) := by
  refine ⟨k_X10_amend, Nat.le_of_ble_eq_true rfl, ?_⟩
  show Wp _ _ _ 0 [some (vR 0 0 0), some (vI (nI c)), some (vI (1)), some (vI (nI v)), none] [] (rM I L) _
  obtain ⟨hJ, hC, hG, hD, hR, -⟩ := id hw
  obtain ⟨fc0, fc1, fc2, fc3, fc4, fc5, fc6, fc7, fc8⟩ := hw.2.2.2.2.2.2.1 c hcc
  refine w_aload_n dX10_amend_0 rfl ?_
  refine w_getR (w := some (1, 0, 0)) ff_X10_10 rfl rfl dX10_amend_1 rfl ?_
  refine w_iload_n dX10_amend_4 rfl ?_
  refine w_callV (as := [vI (nI c)]) (st := []) (Tri.mono (c_sAt hc hw hcc) (Nat.le_of_ble_eq_true rfl)) rfl rfl tg_X1_suitAt lk_X10_136 in_X1_suitAt se_X1_suitAt rfl dX10_amend_5 rfl (Nat.le_of_ble_eq_true rfl) (Nat.le_refl _) (Nat.le_refl _) ?_
  rintro _ _ ⟨rfl, rfl⟩ -
  refine w_astore (ls' := [some (vR 0 0 0), some (vI (nI c)), some (vI (1)), some (vI (nI v)), some (vR 5 0 c)]) dX10_amend_8 rfl ?_
  refine w_aload dX10_amend_10 rfl ?_
  refine w_ifnull (tgt := 25) dX10_amend_12 (by decide) (fun h => by cases h) (fun _ _ => ?_)
  refine w_aload dX10_amend_15 rfl ?_
  refine w_iload_n dX10_amend_17 rfl ?_
  refine w_iload_n dX10_amend_18 rfl ?_
  refine w_callV (as := [vI (1), vI (nI v)]) (st := []) (Tri.mono (c_X8_admits 0 c (1) (nI v)) (Nat.le_of_ble_eq_true rfl)) rfl rfl tg_X8_admits lk_X10_166 in_X8_admits se_X8_admits rfl dX10_amend_19 rfl (Nat.le_of_ble_eq_true rfl) (Nat.le_refl _) (Nat.le_refl _) ?_
  rintro _ _ ⟨rfl, rfl⟩ -
  refine w_top (y := bI (1 ≤ ((v : Nat) : Int) ∧ ((v : Nat) : Int) ≤ ((sF a c 2 : Nat) : Int))) (show (bI (admP (1) (nI v) (I 5 0 c 1) (I 5 0 c 2)) : Int32) = bI (1 ≤ ((v : Nat) : Int) ∧ ((v : Nat) : Int) ≤ ((sF a c 2 : Nat) : Int)) from adm_1 (z_nI (by omega)) (by rw [hc.s hcc (f := 2) (by decide) (by decide)]; exact z_nI (by omega))) ?_
  refine w_ifne_b (tgt := 27) dX10_amend_22 (by decide) (fun h1 => ?_) (fun h1 => ?_)
  · skip
    first
    | (exfalso; omega)
    | skip
      refine w_aload dX10_amend_27 rfl ?_
      refine w_callV (as := []) (st := []) (Tri.mono (c_X8_isHeard 0 c) (Nat.le_of_ble_eq_true rfl)) rfl rfl tg_X8_isHeard lk_X10_170 in_X8_isHeard se_X8_isHeard rfl dX10_amend_29 rfl (Nat.le_of_ble_eq_true rfl) (Nat.le_refl _) (Nat.le_refl _) ?_
      rintro _ _ ⟨rfl, rfl⟩ -
      rw [show (bI (0 < I 5 0 c 4) : Int32) = bI (0 < sF a c 4) from isH hc hw hcc]
      refine w_ifeq_b (tgt := 40) dX10_amend_32 (by decide) (fun h2 => ?_) (fun h2 => ?_)
      · skip
        first
        | (exfalso; omega)
        | skip
          refine w_aload dX10_amend_40 rfl ?_
          refine w_iload_n dX10_amend_42 rfl ?_
          refine w_iload_n dX10_amend_43 rfl ?_
          refine w_callV (as := [vI (1), vI (nI v)]) (st := []) (Tri.mono (c_X8_replace 0 c (1) (nI v)) (Nat.le_of_ble_eq_true rfl)) rfl rfl tg_X8_replace lk_X10_174 in_X8_replace se_X8_replace rfl dX10_amend_44 rfl (Nat.le_of_ble_eq_true rfl) (Nat.le_refl _) (Nat.le_refl _) ?_
          rintro _ _ ⟨rfl, rfl⟩ -
          refine w_top (y := nI (sF a c 1)) (show (replO I 0 c 1 : Int32) = nI (sF a c 1) from (repl_1 (v := 0)).2.trans (hc.s hcc (f := 1) (by decide) (by decide))) ?_
          exact w_ireturn dX10_amend_47 rfl (rfl) rfl (⟨rfl, _, _, rfl, FrQ.rf⟩)
      · skip
        first
        | (exfalso; omega)
        | skip
          refine w_bipush (v := (-2)) dX10_amend_35 (by decide) ?_
          refine w_goto (tgt := 47) dX10_amend_37 (by decide) ?_
          exact w_ireturn dX10_amend_47 rfl (rfl) rfl (⟨rfl, _, _, rfl, FrQ.rf⟩)
  · skip
    first
    | (exfalso; omega)
    | skip
      refine w_iconst (v := (-1)) dX10_amend_25 (by decide) ?_
      exact w_ireturn dX10_amend_26 rfl (rfl) rfl (⟨rfl, _, _, rfl, FrQ.rf⟩)

theorem q_amend_h1 {I : xF4 Int32} {L : xF4 Int64} {a : aA} (hs : SI I a) (hw : WF a) {c : Nat} (hcc : c < nC a) {v : Nat} (h1v : 1 ≤ v) (hv : v ≤ sF a c 2) (h4 : 0 < sF a c 4) : Tri 19 109 m_X11_amend [vR 30 0 0, vI (nI c), vI (1), vI (nI v)] (rM I L) (pMq (vI (-2)) I) := by
  refine ⟨k_X11_amend, Nat.le_of_ble_eq_true rfl, ?_⟩
  show Wp _ _ _ 0 [some (vR 30 0 0), some (vI (nI c)), some (vI (1)), some (vI (nI v)), none, none] [] (rM I L) _
  obtain ⟨hJ, hC, hG, hD, hR, -⟩ := id hw
  obtain ⟨fc0, fc1, fc2, fc3, fc4, fc5, fc6, fc7, fc8⟩ := hw.2.2.2.2.2.2.1 c hcc
  refine w_aload_n dX11_amend_0 rfl ?_
  refine w_iload_n dX11_amend_1 rfl ?_
  refine w_callV (as := [vI (nI c)]) (st := []) (Tri.mono (d_isCase (hs.2.1) (by omega) (x := nI c) (X := ((c : Nat) : Int)) (z_nI (by omega))) (Nat.le_of_ble_eq_true rfl)) rfl rfl tg_X11_isCase lk_X11_204 in_X11_isCase se_X11_isCase rfl dX11_amend_2 rfl (Nat.le_of_ble_eq_true rfl) (Nat.le_refl _) (Nat.le_refl _) ?_
  rintro _ _ ⟨rfl, rfl⟩ -
  refine w_ifne_b (tgt := 10) dX11_amend_5 (by decide) (fun h1 => ?_) (fun h1 => ?_)
  · skip
    first
    | (exfalso; omega)
    | skip
      refine w_bipush (v := 20) dX11_amend_10 (by decide) ?_
      refine w_bipush (v := 7) dX11_amend_12 (by decide) ?_
      refine w_iload_n dX11_amend_14 rfl ?_
      refine w_imul dX11_amend_15 ?_
      rw [show ((7) * (nI c) : Int32) = nI (7 * c) from ar_mul (p := 7) (q := c) rfl rfl (by first | rfl | omega)]
      refine w_iadd dX11_amend_16 ?_
      rw [show ((20) + (nI (7 * c)) : Int32) = nI (20 + (7 * c)) from ar_add (p := 20) (q := 7 * c) rfl rfl (by omega)]
      refine w_istore (ls' := [some (vR 30 0 0), some (vI (nI c)), some (vI (1)), some (vI (nI v)), some (vI (nI (20 + (7 * c)))), none]) dX11_amend_17 rfl ?_
      refine w_iload_n dX11_amend_19 rfl ?_
      refine w_if_ne (tgt := 35) dX11_amend_20 (by decide) (fun _ => ?_) (fun h => absurd h (by decide))
      refine w_iload_n dX11_amend_35 rfl ?_
      refine w_iconst (v := 1) dX11_amend_36 (by decide) ?_
      refine w_icmp_ne (tgt := 59) dX11_amend_37 (by decide) (fun h => absurd (by decide) h) (fun _ => ?_)
      refine w_iload_n dX11_amend_40 rfl ?_
      refine w_i2l dX11_amend_41 ?_
      refine w_lconst (v := 1) dX11_amend_42 (by decide) ?_
      refine w_aload_n dX11_amend_43 rfl ?_
      refine w_getR (w := some (31, 0, 0)) ff_X11_7 rfl rfl dX11_amend_44 rfl ?_
      refine w_iload dX11_amend_47 rfl ?_
      refine w_iconst (v := 2) dX11_amend_49 (by decide) ?_
      refine w_iadd dX11_amend_50 ?_
      rw [show ((nI (20 + (7 * c))) + (2) : Int32) = nI ((20 + (7 * c)) + 2) from ar_add (p := 20 + (7 * c)) (q := 2) rfl rfl (by omega)]
      refine w_iaload (a := (20 + (7 * c)) + 2) rfl (vp_in_nI (n := (20 + (7 * c)) + 2) (by omega) (by omega)) (nI_clamp (n := (20 + (7 * c)) + 2) (by omega)) dX11_amend_51 ?_
      rw [show (I 31 0 0 ((20 + (7 * c)) + 2) : Int32) = nI (sF a c 2) from hs.2.2.s hcc (f := 2) (by decide) (by decide) (by omega)]
      refine w_i2l dX11_amend_52 ?_
      refine w_callS (as := [vL ((nI v : Int32).toInt64), vL (1), vL ((nI (sF a c 2) : Int32).toInt64)]) (st := []) (Tri.mono (d_in ((nI v : Int32).toInt64) (1) ((nI (sF a c 2) : Int32).toInt64)) (Nat.le_of_ble_eq_true rfl)) tg_X11_in lk_X11_66 sa_X11_in rfl dX11_amend_53 rfl (Nat.le_of_ble_eq_true rfl) (Nat.le_refl _) (Nat.le_refl _) ?_
      rintro _ _ ⟨rfl, rfl⟩ -
      refine w_top (y := bI (1 ≤ ((v : Nat) : Int) ∧ ((v : Nat) : Int) ≤ ((sF a c 2 : Nat) : Int))) (show (bI ((1 : Int64) ≤ ((nI v : Int32).toInt64) ∧ ((nI v : Int32).toInt64) ≤ ((nI (sF a c 2) : Int32).toInt64)) : Int32) = bI (1 ≤ ((v : Nat) : Int) ∧ ((v : Nat) : Int) ≤ ((sF a c 2 : Nat) : Int)) from inZ (x := nI v) (l := 1) (h := nI (sF a c 2)) (X := ((v : Nat) : Int)) (A := 1) (B := ((sF a c 2 : Nat) : Int)) rfl (by decide) rfl (z_nI (by omega)) (by decide) (z_nI (by omega))) ?_
      refine w_goto (tgt := 107) dX11_amend_56 (by decide) ?_
      refine w_istore (ls' := [some (vR 30 0 0), some (vI (nI c)), some (vI (1)), some (vI (nI v)), some (vI (nI (20 + (7 * c)))), some (vI (bI (1 ≤ ((v : Nat) : Int) ∧ ((v : Nat) : Int) ≤ ((sF a c 2 : Nat) : Int))))]) dX11_amend_107 rfl ?_
      refine w_iload dX11_amend_109 rfl ?_
      refine w_ifne_b (tgt := 116) dX11_amend_111 (by decide) (fun h2 => ?_) (fun h2 => ?_)
      · skip
        first
        | (exfalso; omega)
        | skip
          refine w_aload_n dX11_amend_116 rfl ?_
          refine w_iload_n dX11_amend_117 rfl ?_
          refine w_callV (as := [vI (nI c)]) (st := []) (Tri.mono (d_isHeard hs hw hcc) (Nat.le_of_ble_eq_true rfl)) rfl rfl tg_X11_isHeard lk_X11_218 in_X11_isHeard se_X11_isHeard rfl dX11_amend_118 rfl (Nat.le_of_ble_eq_true rfl) (Nat.le_refl _) (Nat.le_refl _) ?_
          rintro _ _ ⟨rfl, rfl⟩ -
          refine w_ifeq_b (tgt := 129) dX11_amend_121 (by decide) (fun h3 => ?_) (fun h3 => ?_)
          · skip
            first
            | (exfalso; omega)
            | skip
              refine w_aload_n dX11_amend_129 rfl ?_
              refine w_iload dX11_amend_130 rfl ?_
              refine w_iload_n dX11_amend_132 rfl ?_
              refine w_iadd dX11_amend_133 ?_
              rw [show ((nI (20 + (7 * c))) + (1) : Int32) = nI ((20 + (7 * c)) + 1) from ar_add (p := 20 + (7 * c)) (q := 1) rfl rfl (by omega)]
              refine w_iload_n dX11_amend_134 rfl ?_
              refine w_callV (as := [vI (nI ((20 + (7 * c)) + 1)), vI (nI v)]) (st := []) (Tri.mono (d_becomes (k := (20 + (7 * c)) + 1) (v := v) (by omega)) (Nat.le_of_ble_eq_true rfl)) rfl rfl tg_X11_becomes lk_X11_215 in_X11_becomes se_X11_becomes rfl dX11_amend_135 rfl (Nat.le_of_ble_eq_true rfl) (Nat.le_refl _) (Nat.le_refl _) ?_
              rintro _ _ ⟨rfl, rfl⟩ -
              refine w_top (y := nI (sF a c 1)) (show (I 31 0 0 ((20 + (7 * c)) + 1) : Int32) = nI (sF a c 1) from hs.2.2.s hcc (f := 1) (by decide) (by decide) (by omega)) ?_
              exact w_ireturn dX11_amend_138 rfl (rfl) rfl (⟨rfl, _, _, rfl, FrR.rf⟩)
          · skip
            first
            | (exfalso; omega)
            | skip
              refine w_bipush (v := (-2)) dX11_amend_124 (by decide) ?_
              refine w_goto (tgt := 138) dX11_amend_126 (by decide) ?_
              exact w_ireturn dX11_amend_138 rfl (rfl) rfl (⟨rfl, _, _, rfl, FrR.rf⟩)
      · skip
        first
        | (exfalso; omega)
        | skip
          refine w_iconst (v := (-1)) dX11_amend_114 (by decide) ?_
          exact w_ireturn dX11_amend_115 rfl (rfl) rfl (⟨rfl, _, _, rfl, FrR.rf⟩)
  · skip
    first
    | (exfalso; omega)
    | skip
      refine w_iconst (v := (-1)) dX11_amend_8 (by decide) ?_
      exact w_ireturn dX11_amend_9 rfl (rfl) rfl (⟨rfl, _, _, rfl, FrR.rf⟩)

theorem p_amend_2 {I : xF4 Int32} {L : xF4 Int64} {a : aA} (hc : CourtIs I 0 a) (hw : WF a) {c : Nat} (hcc : c < nC a) {v : Nat} (h1v : sF a c 1 ≤ v) (hv : v ≤ 60) (h4 : ¬ 0 < sF a c 4) : Tri 19 109 m_X10_amend [vR 0 0 0, vI (nI c), vI (2), vI (nI v)] (rM I L) (pCc (nI (sF a c 2)) (asF a c 2 v) I) := by
  refine ⟨k_X10_amend, Nat.le_of_ble_eq_true rfl, ?_⟩
  show Wp _ _ _ 0 [some (vR 0 0 0), some (vI (nI c)), some (vI (2)), some (vI (nI v)), none] [] (rM I L) _
  obtain ⟨hJ, hC, hG, hD, hR, -⟩ := id hw
  obtain ⟨fc0, fc1, fc2, fc3, fc4, fc5, fc6, fc7, fc8⟩ := hw.2.2.2.2.2.2.1 c hcc
  have hrp := (repl_2 (I := I) (k := 0) (c := c) (v := nI v)).1
  refine w_aload_n dX10_amend_0 rfl ?_
  refine w_getR (w := some (1, 0, 0)) ff_X10_10 rfl rfl dX10_amend_1 rfl ?_
  refine w_iload_n dX10_amend_4 rfl ?_
  refine w_callV (as := [vI (nI c)]) (st := []) (Tri.mono (c_sAt hc hw hcc) (Nat.le_of_ble_eq_true rfl)) rfl rfl tg_X1_suitAt lk_X10_136 in_X1_suitAt se_X1_suitAt rfl dX10_amend_5 rfl (Nat.le_of_ble_eq_true rfl) (Nat.le_refl _) (Nat.le_refl _) ?_
  rintro _ _ ⟨rfl, rfl⟩ -
  refine w_astore (ls' := [some (vR 0 0 0), some (vI (nI c)), some (vI (2)), some (vI (nI v)), some (vR 5 0 c)]) dX10_amend_8 rfl ?_
  refine w_aload dX10_amend_10 rfl ?_
  refine w_ifnull (tgt := 25) dX10_amend_12 (by decide) (fun h => by cases h) (fun _ _ => ?_)
  refine w_aload dX10_amend_15 rfl ?_
  refine w_iload_n dX10_amend_17 rfl ?_
  refine w_iload_n dX10_amend_18 rfl ?_
  refine w_callV (as := [vI (2), vI (nI v)]) (st := []) (Tri.mono (c_X8_admits 0 c (2) (nI v)) (Nat.le_of_ble_eq_true rfl)) rfl rfl tg_X8_admits lk_X10_166 in_X8_admits se_X8_admits rfl dX10_amend_19 rfl (Nat.le_of_ble_eq_true rfl) (Nat.le_refl _) (Nat.le_refl _) ?_
  rintro _ _ ⟨rfl, rfl⟩ -
  refine w_top (y := bI (((sF a c 1 : Nat) : Int) ≤ ((v : Nat) : Int) ∧ ((v : Nat) : Int) ≤ 60)) (show (bI (admP (2) (nI v) (I 5 0 c 1) (I 5 0 c 2)) : Int32) = bI (((sF a c 1 : Nat) : Int) ≤ ((v : Nat) : Int) ∧ ((v : Nat) : Int) ≤ 60) from adm_2 (z_nI (by omega)) (by rw [hc.s hcc (f := 1) (by decide) (by decide)]; exact z_nI (by omega))) ?_
  refine w_ifne_b (tgt := 27) dX10_amend_22 (by decide) (fun h1 => ?_) (fun h1 => ?_)
  · skip
    first
    | (exfalso; omega)
    | skip
      refine w_aload dX10_amend_27 rfl ?_
      refine w_callV (as := []) (st := []) (Tri.mono (c_X8_isHeard 0 c) (Nat.le_of_ble_eq_true rfl)) rfl rfl tg_X8_isHeard lk_X10_170 in_X8_isHeard se_X8_isHeard rfl dX10_amend_29 rfl (Nat.le_of_ble_eq_true rfl) (Nat.le_refl _) (Nat.le_refl _) ?_
      rintro _ _ ⟨rfl, rfl⟩ -
      rw [show (bI (0 < I 5 0 c 4) : Int32) = bI (0 < sF a c 4) from isH hc hw hcc]
      refine w_ifeq_b (tgt := 40) dX10_amend_32 (by decide) (fun h2 => ?_) (fun h2 => ?_)
      · skip
        first
        | (exfalso; omega)
        | skip
          refine w_aload dX10_amend_40 rfl ?_
          refine w_iload_n dX10_amend_42 rfl ?_
          refine w_iload_n dX10_amend_43 rfl ?_
          refine w_callV (as := [vI (2), vI (nI v)]) (st := []) (Tri.mono (c_X8_replace 0 c (2) (nI v)) (Nat.le_of_ble_eq_true rfl)) rfl rfl tg_X8_replace lk_X10_174 in_X8_replace se_X8_replace rfl dX10_amend_44 rfl (Nat.le_of_ble_eq_true rfl) (Nat.le_refl _) (Nat.le_refl _) ?_
          rintro _ _ ⟨rfl, rfl⟩ -
          refine w_top (y := nI (sF a c 2)) (show (replO I 0 c 2 : Int32) = nI (sF a c 2) from (repl_2 (v := 0)).2.trans (hc.s hcc (f := 2) (by decide) (by decide))) ?_
          exact w_ireturn dX10_amend_47 rfl (rfl) rfl (⟨rfl, _, _, rfl, by rw [hrp]; exact hc.upS c (f := 2) (by decide) v, by rw [hrp]; exact FrC.up (by decide)⟩)
      · skip
        first
        | (exfalso; omega)
        | skip
          refine w_bipush (v := (-2)) dX10_amend_35 (by decide) ?_
          refine w_goto (tgt := 47) dX10_amend_37 (by decide) ?_
          exact w_ireturn dX10_amend_47 rfl (rfl) rfl (⟨rfl, _, _, rfl, by rw [hrp]; exact hc.upS c (f := 2) (by decide) v, by rw [hrp]; exact FrC.up (by decide)⟩)
  · skip
    first
    | (exfalso; omega)
    | skip
      refine w_iconst (v := (-1)) dX10_amend_25 (by decide) ?_
      exact w_ireturn dX10_amend_26 rfl (rfl) rfl (⟨rfl, _, _, rfl, by rw [hrp]; exact hc.upS c (f := 2) (by decide) v, by rw [hrp]; exact FrC.up (by decide)⟩)

theorem q_amend_2 {I : xF4 Int32} {L : xF4 Int64} {a : aA} (hs : SI I a) (hw : WF a) {c : Nat} (hcc : c < nC a) {v : Nat} (h1v : sF a c 1 ≤ v) (hv : v ≤ 60) (h4 : ¬ 0 < sF a c 4) : Tri 19 109 m_X11_amend [vR 30 0 0, vI (nI c), vI (2), vI (nI v)] (rM I L) (pMc (nI (sF a c 2)) (asF a c 2 v) I) := by
  refine ⟨k_X11_amend, Nat.le_of_ble_eq_true rfl, ?_⟩
  show Wp _ _ _ 0 [some (vR 30 0 0), some (vI (nI c)), some (vI (2)), some (vI (nI v)), none, none] [] (rM I L) _
  obtain ⟨hJ, hC, hG, hD, hR, -⟩ := id hw
  obtain ⟨fc0, fc1, fc2, fc3, fc4, fc5, fc6, fc7, fc8⟩ := hw.2.2.2.2.2.2.1 c hcc
  refine w_aload_n dX11_amend_0 rfl ?_
  refine w_iload_n dX11_amend_1 rfl ?_
  refine w_callV (as := [vI (nI c)]) (st := []) (Tri.mono (d_isCase (hs.2.1) (by omega) (x := nI c) (X := ((c : Nat) : Int)) (z_nI (by omega))) (Nat.le_of_ble_eq_true rfl)) rfl rfl tg_X11_isCase lk_X11_204 in_X11_isCase se_X11_isCase rfl dX11_amend_2 rfl (Nat.le_of_ble_eq_true rfl) (Nat.le_refl _) (Nat.le_refl _) ?_
  rintro _ _ ⟨rfl, rfl⟩ -
  refine w_ifne_b (tgt := 10) dX11_amend_5 (by decide) (fun h1 => ?_) (fun h1 => ?_)
  · skip
    first
    | (exfalso; omega)
    | skip
      refine w_bipush (v := 20) dX11_amend_10 (by decide) ?_
      refine w_bipush (v := 7) dX11_amend_12 (by decide) ?_
      refine w_iload_n dX11_amend_14 rfl ?_
      refine w_imul dX11_amend_15 ?_
      rw [show ((7) * (nI c) : Int32) = nI (7 * c) from ar_mul (p := 7) (q := c) rfl rfl (by first | rfl | omega)]
      refine w_iadd dX11_amend_16 ?_
      rw [show ((20) + (nI (7 * c)) : Int32) = nI (20 + (7 * c)) from ar_add (p := 20) (q := 7 * c) rfl rfl (by omega)]
      refine w_istore (ls' := [some (vR 30 0 0), some (vI (nI c)), some (vI (2)), some (vI (nI v)), some (vI (nI (20 + (7 * c)))), none]) dX11_amend_17 rfl ?_
      refine w_iload_n dX11_amend_19 rfl ?_
      refine w_if_ne (tgt := 35) dX11_amend_20 (by decide) (fun _ => ?_) (fun h => absurd h (by decide))
      refine w_iload_n dX11_amend_35 rfl ?_
      refine w_iconst (v := 1) dX11_amend_36 (by decide) ?_
      refine w_icmp_ne (tgt := 59) dX11_amend_37 (by decide) (fun _ => ?_) (fun h => absurd h (by decide))
      refine w_iload_n dX11_amend_59 rfl ?_
      refine w_iconst (v := 2) dX11_amend_60 (by decide) ?_
      refine w_icmp_ne (tgt := 85) dX11_amend_61 (by decide) (fun h => absurd (by decide) h) (fun _ => ?_)
      refine w_iload_n dX11_amend_64 rfl ?_
      refine w_i2l dX11_amend_65 ?_
      refine w_aload_n dX11_amend_66 rfl ?_
      refine w_getR (w := some (31, 0, 0)) ff_X11_7 rfl rfl dX11_amend_67 rfl ?_
      refine w_iload dX11_amend_70 rfl ?_
      refine w_iconst (v := 1) dX11_amend_72 (by decide) ?_
      refine w_iadd dX11_amend_73 ?_
      rw [show ((nI (20 + (7 * c))) + (1) : Int32) = nI ((20 + (7 * c)) + 1) from ar_add (p := 20 + (7 * c)) (q := 1) rfl rfl (by omega)]
      refine w_iaload (a := (20 + (7 * c)) + 1) rfl (vp_in_nI (n := (20 + (7 * c)) + 1) (by omega) (by omega)) (nI_clamp (n := (20 + (7 * c)) + 1) (by omega)) dX11_amend_74 ?_
      rw [show (I 31 0 0 ((20 + (7 * c)) + 1) : Int32) = nI (sF a c 1) from hs.2.2.s hcc (f := 1) (by decide) (by decide) (by omega)]
      refine w_i2l dX11_amend_75 ?_
      refine w_ldc2 dX11_amend_76 cq_X11_207 ?_
      refine w_callS (as := [vL ((nI v : Int32).toInt64), vL ((nI (sF a c 1) : Int32).toInt64), vL (60)]) (st := []) (Tri.mono (d_in ((nI v : Int32).toInt64) ((nI (sF a c 1) : Int32).toInt64) (60)) (Nat.le_of_ble_eq_true rfl)) tg_X11_in lk_X11_66 sa_X11_in rfl dX11_amend_79 rfl (Nat.le_of_ble_eq_true rfl) (Nat.le_refl _) (Nat.le_refl _) ?_
      rintro _ _ ⟨rfl, rfl⟩ -
      refine w_top (y := bI (((sF a c 1 : Nat) : Int) ≤ ((v : Nat) : Int) ∧ ((v : Nat) : Int) ≤ 60)) (show (bI (((nI (sF a c 1) : Int32).toInt64) ≤ ((nI v : Int32).toInt64) ∧ ((nI v : Int32).toInt64) ≤ (60 : Int64)) : Int32) = bI (((sF a c 1 : Nat) : Int) ≤ ((v : Nat) : Int) ∧ ((v : Nat) : Int) ≤ 60) from inZ (x := nI v) (l := nI (sF a c 1)) (h := 60) (X := ((v : Nat) : Int)) (A := ((sF a c 1 : Nat) : Int)) (B := 60) rfl rfl (by decide) (z_nI (by omega)) (z_nI (by omega)) (by decide)) ?_
      refine w_goto (tgt := 107) dX11_amend_82 (by decide) ?_
      refine w_istore (ls' := [some (vR 30 0 0), some (vI (nI c)), some (vI (2)), some (vI (nI v)), some (vI (nI (20 + (7 * c)))), some (vI (bI (((sF a c 1 : Nat) : Int) ≤ ((v : Nat) : Int) ∧ ((v : Nat) : Int) ≤ 60)))]) dX11_amend_107 rfl ?_
      refine w_iload dX11_amend_109 rfl ?_
      refine w_ifne_b (tgt := 116) dX11_amend_111 (by decide) (fun h2 => ?_) (fun h2 => ?_)
      · skip
        first
        | (exfalso; omega)
        | skip
          refine w_aload_n dX11_amend_116 rfl ?_
          refine w_iload_n dX11_amend_117 rfl ?_
          refine w_callV (as := [vI (nI c)]) (st := []) (Tri.mono (d_isHeard hs hw hcc) (Nat.le_of_ble_eq_true rfl)) rfl rfl tg_X11_isHeard lk_X11_218 in_X11_isHeard se_X11_isHeard rfl dX11_amend_118 rfl (Nat.le_of_ble_eq_true rfl) (Nat.le_refl _) (Nat.le_refl _) ?_
          rintro _ _ ⟨rfl, rfl⟩ -
          refine w_ifeq_b (tgt := 129) dX11_amend_121 (by decide) (fun h3 => ?_) (fun h3 => ?_)
          · skip
            first
            | (exfalso; omega)
            | skip
              refine w_aload_n dX11_amend_129 rfl ?_
              refine w_iload dX11_amend_130 rfl ?_
              refine w_iload_n dX11_amend_132 rfl ?_
              refine w_iadd dX11_amend_133 ?_
              rw [show ((nI (20 + (7 * c))) + (2) : Int32) = nI ((20 + (7 * c)) + 2) from ar_add (p := 20 + (7 * c)) (q := 2) rfl rfl (by omega)]
              refine w_iload_n dX11_amend_134 rfl ?_
              refine w_callV (as := [vI (nI ((20 + (7 * c)) + 2)), vI (nI v)]) (st := []) (Tri.mono (d_becomes (k := (20 + (7 * c)) + 2) (v := v) (by omega)) (Nat.le_of_ble_eq_true rfl)) rfl rfl tg_X11_becomes lk_X11_215 in_X11_becomes se_X11_becomes rfl dX11_amend_135 rfl (Nat.le_of_ble_eq_true rfl) (Nat.le_refl _) (Nat.le_refl _) ?_
              rintro _ _ ⟨rfl, rfl⟩ -
              refine w_top (y := nI (sF a c 2)) (show (I 31 0 0 ((20 + (7 * c)) + 2) : Int32) = nI (sF a c 2) from hs.2.2.s hcc (f := 2) (by decide) (by decide) (by omega)) ?_
              exact w_ireturn dX11_amend_138 rfl (rfl) rfl (⟨rfl, _, _, rfl, hs.up (hs.2.2.upS hJ (c := c) (f := 2) (by omega) (by decide) (by decide) (by omega) v) rfl rfl, FrW.up (by omega)⟩)
          · skip
            first
            | (exfalso; omega)
            | skip
              refine w_bipush (v := (-2)) dX11_amend_124 (by decide) ?_
              refine w_goto (tgt := 138) dX11_amend_126 (by decide) ?_
              exact w_ireturn dX11_amend_138 rfl (rfl) rfl (⟨rfl, _, _, rfl, hs.up (hs.2.2.upS hJ (c := c) (f := 2) (by omega) (by decide) (by decide) (by omega) v) rfl rfl, FrW.up (by omega)⟩)
      · skip
        first
        | (exfalso; omega)
        | skip
          refine w_iconst (v := (-1)) dX11_amend_114 (by decide) ?_
          exact w_ireturn dX11_amend_115 rfl (rfl) rfl (⟨rfl, _, _, rfl, hs.up (hs.2.2.upS hJ (c := c) (f := 2) (by omega) (by decide) (by decide) (by omega) v) rfl rfl, FrW.up (by omega)⟩)
  · skip
    first
    | (exfalso; omega)
    | skip
      refine w_iconst (v := (-1)) dX11_amend_8 (by decide) ?_
      exact w_ireturn dX11_amend_9 rfl (rfl) rfl (⟨rfl, _, _, rfl, hs.up (hs.2.2.upS hJ (c := c) (f := 2) (by omega) (by decide) (by decide) (by omega) v) rfl rfl, FrW.up (by omega)⟩)

theorem p_amend_h2 {I : xF4 Int32} {L : xF4 Int64} {a : aA} (hc : CourtIs I 0 a) (hw : WF a) {c : Nat} (hcc : c < nC a) {v : Nat} (h1v : sF a c 1 ≤ v) (hv : v ≤ 60) (h4 : 0 < sF a c 4) : Tri 19 109 m_X10_amend [vR 0 0 0, vI (nI c), vI (2), vI (nI v)] (rM I L) (pCq (vI (-2)) I) := by
  refine ⟨k_X10_amend, Nat.le_of_ble_eq_true rfl, ?_⟩
  show Wp _ _ _ 0 [some (vR 0 0 0), some (vI (nI c)), some (vI (2)), some (vI (nI v)), none] [] (rM I L) _
  obtain ⟨hJ, hC, hG, hD, hR, -⟩ := id hw
  obtain ⟨fc0, fc1, fc2, fc3, fc4, fc5, fc6, fc7, fc8⟩ := hw.2.2.2.2.2.2.1 c hcc
  refine w_aload_n dX10_amend_0 rfl ?_
  refine w_getR (w := some (1, 0, 0)) ff_X10_10 rfl rfl dX10_amend_1 rfl ?_
  refine w_iload_n dX10_amend_4 rfl ?_
  refine w_callV (as := [vI (nI c)]) (st := []) (Tri.mono (c_sAt hc hw hcc) (Nat.le_of_ble_eq_true rfl)) rfl rfl tg_X1_suitAt lk_X10_136 in_X1_suitAt se_X1_suitAt rfl dX10_amend_5 rfl (Nat.le_of_ble_eq_true rfl) (Nat.le_refl _) (Nat.le_refl _) ?_
  rintro _ _ ⟨rfl, rfl⟩ -
  refine w_astore (ls' := [some (vR 0 0 0), some (vI (nI c)), some (vI (2)), some (vI (nI v)), some (vR 5 0 c)]) dX10_amend_8 rfl ?_
  refine w_aload dX10_amend_10 rfl ?_
  refine w_ifnull (tgt := 25) dX10_amend_12 (by decide) (fun h => by cases h) (fun _ _ => ?_)
  refine w_aload dX10_amend_15 rfl ?_
  refine w_iload_n dX10_amend_17 rfl ?_
  refine w_iload_n dX10_amend_18 rfl ?_
  refine w_callV (as := [vI (2), vI (nI v)]) (st := []) (Tri.mono (c_X8_admits 0 c (2) (nI v)) (Nat.le_of_ble_eq_true rfl)) rfl rfl tg_X8_admits lk_X10_166 in_X8_admits se_X8_admits rfl dX10_amend_19 rfl (Nat.le_of_ble_eq_true rfl) (Nat.le_refl _) (Nat.le_refl _) ?_
  rintro _ _ ⟨rfl, rfl⟩ -
  refine w_top (y := bI (((sF a c 1 : Nat) : Int) ≤ ((v : Nat) : Int) ∧ ((v : Nat) : Int) ≤ 60)) (show (bI (admP (2) (nI v) (I 5 0 c 1) (I 5 0 c 2)) : Int32) = bI (((sF a c 1 : Nat) : Int) ≤ ((v : Nat) : Int) ∧ ((v : Nat) : Int) ≤ 60) from adm_2 (z_nI (by omega)) (by rw [hc.s hcc (f := 1) (by decide) (by decide)]; exact z_nI (by omega))) ?_
  refine w_ifne_b (tgt := 27) dX10_amend_22 (by decide) (fun h1 => ?_) (fun h1 => ?_)
  · skip
    first
    | (exfalso; omega)
    | skip
      refine w_aload dX10_amend_27 rfl ?_
      refine w_callV (as := []) (st := []) (Tri.mono (c_X8_isHeard 0 c) (Nat.le_of_ble_eq_true rfl)) rfl rfl tg_X8_isHeard lk_X10_170 in_X8_isHeard se_X8_isHeard rfl dX10_amend_29 rfl (Nat.le_of_ble_eq_true rfl) (Nat.le_refl _) (Nat.le_refl _) ?_
      rintro _ _ ⟨rfl, rfl⟩ -
      rw [show (bI (0 < I 5 0 c 4) : Int32) = bI (0 < sF a c 4) from isH hc hw hcc]
      refine w_ifeq_b (tgt := 40) dX10_amend_32 (by decide) (fun h2 => ?_) (fun h2 => ?_)
      · skip
        first
        | (exfalso; omega)
        | skip
          refine w_aload dX10_amend_40 rfl ?_
          refine w_iload_n dX10_amend_42 rfl ?_
          refine w_iload_n dX10_amend_43 rfl ?_
          refine w_callV (as := [vI (2), vI (nI v)]) (st := []) (Tri.mono (c_X8_replace 0 c (2) (nI v)) (Nat.le_of_ble_eq_true rfl)) rfl rfl tg_X8_replace lk_X10_174 in_X8_replace se_X8_replace rfl dX10_amend_44 rfl (Nat.le_of_ble_eq_true rfl) (Nat.le_refl _) (Nat.le_refl _) ?_
          rintro _ _ ⟨rfl, rfl⟩ -
          refine w_top (y := nI (sF a c 2)) (show (replO I 0 c 2 : Int32) = nI (sF a c 2) from (repl_2 (v := 0)).2.trans (hc.s hcc (f := 2) (by decide) (by decide))) ?_
          exact w_ireturn dX10_amend_47 rfl (rfl) rfl (⟨rfl, _, _, rfl, FrQ.rf⟩)
      · skip
        first
        | (exfalso; omega)
        | skip
          refine w_bipush (v := (-2)) dX10_amend_35 (by decide) ?_
          refine w_goto (tgt := 47) dX10_amend_37 (by decide) ?_
          exact w_ireturn dX10_amend_47 rfl (rfl) rfl (⟨rfl, _, _, rfl, FrQ.rf⟩)
  · skip
    first
    | (exfalso; omega)
    | skip
      refine w_iconst (v := (-1)) dX10_amend_25 (by decide) ?_
      exact w_ireturn dX10_amend_26 rfl (rfl) rfl (⟨rfl, _, _, rfl, FrQ.rf⟩)

theorem q_amend_h2 {I : xF4 Int32} {L : xF4 Int64} {a : aA} (hs : SI I a) (hw : WF a) {c : Nat} (hcc : c < nC a) {v : Nat} (h1v : sF a c 1 ≤ v) (hv : v ≤ 60) (h4 : 0 < sF a c 4) : Tri 19 109 m_X11_amend [vR 30 0 0, vI (nI c), vI (2), vI (nI v)] (rM I L) (pMq (vI (-2)) I) := by
  refine ⟨k_X11_amend, Nat.le_of_ble_eq_true rfl, ?_⟩
  show Wp _ _ _ 0 [some (vR 30 0 0), some (vI (nI c)), some (vI (2)), some (vI (nI v)), none, none] [] (rM I L) _
  obtain ⟨hJ, hC, hG, hD, hR, -⟩ := id hw
  obtain ⟨fc0, fc1, fc2, fc3, fc4, fc5, fc6, fc7, fc8⟩ := hw.2.2.2.2.2.2.1 c hcc
  refine w_aload_n dX11_amend_0 rfl ?_
  refine w_iload_n dX11_amend_1 rfl ?_
  refine w_callV (as := [vI (nI c)]) (st := []) (Tri.mono (d_isCase (hs.2.1) (by omega) (x := nI c) (X := ((c : Nat) : Int)) (z_nI (by omega))) (Nat.le_of_ble_eq_true rfl)) rfl rfl tg_X11_isCase lk_X11_204 in_X11_isCase se_X11_isCase rfl dX11_amend_2 rfl (Nat.le_of_ble_eq_true rfl) (Nat.le_refl _) (Nat.le_refl _) ?_
  rintro _ _ ⟨rfl, rfl⟩ -
  refine w_ifne_b (tgt := 10) dX11_amend_5 (by decide) (fun h1 => ?_) (fun h1 => ?_)
  · skip
    first
    | (exfalso; omega)
    | skip
      refine w_bipush (v := 20) dX11_amend_10 (by decide) ?_
      refine w_bipush (v := 7) dX11_amend_12 (by decide) ?_
      refine w_iload_n dX11_amend_14 rfl ?_
      refine w_imul dX11_amend_15 ?_
      rw [show ((7) * (nI c) : Int32) = nI (7 * c) from ar_mul (p := 7) (q := c) rfl rfl (by first | rfl | omega)]
      refine w_iadd dX11_amend_16 ?_
      rw [show ((20) + (nI (7 * c)) : Int32) = nI (20 + (7 * c)) from ar_add (p := 20) (q := 7 * c) rfl rfl (by omega)]
      refine w_istore (ls' := [some (vR 30 0 0), some (vI (nI c)), some (vI (2)), some (vI (nI v)), some (vI (nI (20 + (7 * c)))), none]) dX11_amend_17 rfl ?_
      refine w_iload_n dX11_amend_19 rfl ?_
      refine w_if_ne (tgt := 35) dX11_amend_20 (by decide) (fun _ => ?_) (fun h => absurd h (by decide))
      refine w_iload_n dX11_amend_35 rfl ?_
      refine w_iconst (v := 1) dX11_amend_36 (by decide) ?_
      refine w_icmp_ne (tgt := 59) dX11_amend_37 (by decide) (fun _ => ?_) (fun h => absurd h (by decide))
      refine w_iload_n dX11_amend_59 rfl ?_
      refine w_iconst (v := 2) dX11_amend_60 (by decide) ?_
      refine w_icmp_ne (tgt := 85) dX11_amend_61 (by decide) (fun h => absurd (by decide) h) (fun _ => ?_)
      refine w_iload_n dX11_amend_64 rfl ?_
      refine w_i2l dX11_amend_65 ?_
      refine w_aload_n dX11_amend_66 rfl ?_
      refine w_getR (w := some (31, 0, 0)) ff_X11_7 rfl rfl dX11_amend_67 rfl ?_
      refine w_iload dX11_amend_70 rfl ?_
      refine w_iconst (v := 1) dX11_amend_72 (by decide) ?_
      refine w_iadd dX11_amend_73 ?_
      rw [show ((nI (20 + (7 * c))) + (1) : Int32) = nI ((20 + (7 * c)) + 1) from ar_add (p := 20 + (7 * c)) (q := 1) rfl rfl (by omega)]
      refine w_iaload (a := (20 + (7 * c)) + 1) rfl (vp_in_nI (n := (20 + (7 * c)) + 1) (by omega) (by omega)) (nI_clamp (n := (20 + (7 * c)) + 1) (by omega)) dX11_amend_74 ?_
      rw [show (I 31 0 0 ((20 + (7 * c)) + 1) : Int32) = nI (sF a c 1) from hs.2.2.s hcc (f := 1) (by decide) (by decide) (by omega)]
      refine w_i2l dX11_amend_75 ?_
      refine w_ldc2 dX11_amend_76 cq_X11_207 ?_
      refine w_callS (as := [vL ((nI v : Int32).toInt64), vL ((nI (sF a c 1) : Int32).toInt64), vL (60)]) (st := []) (Tri.mono (d_in ((nI v : Int32).toInt64) ((nI (sF a c 1) : Int32).toInt64) (60)) (Nat.le_of_ble_eq_true rfl)) tg_X11_in lk_X11_66 sa_X11_in rfl dX11_amend_79 rfl (Nat.le_of_ble_eq_true rfl) (Nat.le_refl _) (Nat.le_refl _) ?_
      rintro _ _ ⟨rfl, rfl⟩ -
      refine w_top (y := bI (((sF a c 1 : Nat) : Int) ≤ ((v : Nat) : Int) ∧ ((v : Nat) : Int) ≤ 60)) (show (bI (((nI (sF a c 1) : Int32).toInt64) ≤ ((nI v : Int32).toInt64) ∧ ((nI v : Int32).toInt64) ≤ (60 : Int64)) : Int32) = bI (((sF a c 1 : Nat) : Int) ≤ ((v : Nat) : Int) ∧ ((v : Nat) : Int) ≤ 60) from inZ (x := nI v) (l := nI (sF a c 1)) (h := 60) (X := ((v : Nat) : Int)) (A := ((sF a c 1 : Nat) : Int)) (B := 60) rfl rfl (by decide) (z_nI (by omega)) (z_nI (by omega)) (by decide)) ?_
      refine w_goto (tgt := 107) dX11_amend_82 (by decide) ?_
      refine w_istore (ls' := [some (vR 30 0 0), some (vI (nI c)), some (vI (2)), some (vI (nI v)), some (vI (nI (20 + (7 * c)))), some (vI (bI (((sF a c 1 : Nat) : Int) ≤ ((v : Nat) : Int) ∧ ((v : Nat) : Int) ≤ 60)))]) dX11_amend_107 rfl ?_
      refine w_iload dX11_amend_109 rfl ?_
      refine w_ifne_b (tgt := 116) dX11_amend_111 (by decide) (fun h2 => ?_) (fun h2 => ?_)
      · skip
        first
        | (exfalso; omega)
        | skip
          refine w_aload_n dX11_amend_116 rfl ?_
          refine w_iload_n dX11_amend_117 rfl ?_
          refine w_callV (as := [vI (nI c)]) (st := []) (Tri.mono (d_isHeard hs hw hcc) (Nat.le_of_ble_eq_true rfl)) rfl rfl tg_X11_isHeard lk_X11_218 in_X11_isHeard se_X11_isHeard rfl dX11_amend_118 rfl (Nat.le_of_ble_eq_true rfl) (Nat.le_refl _) (Nat.le_refl _) ?_
          rintro _ _ ⟨rfl, rfl⟩ -
          refine w_ifeq_b (tgt := 129) dX11_amend_121 (by decide) (fun h3 => ?_) (fun h3 => ?_)
          · skip
            first
            | (exfalso; omega)
            | skip
              refine w_aload_n dX11_amend_129 rfl ?_
              refine w_iload dX11_amend_130 rfl ?_
              refine w_iload_n dX11_amend_132 rfl ?_
              refine w_iadd dX11_amend_133 ?_
              rw [show ((nI (20 + (7 * c))) + (2) : Int32) = nI ((20 + (7 * c)) + 2) from ar_add (p := 20 + (7 * c)) (q := 2) rfl rfl (by omega)]
              refine w_iload_n dX11_amend_134 rfl ?_
              refine w_callV (as := [vI (nI ((20 + (7 * c)) + 2)), vI (nI v)]) (st := []) (Tri.mono (d_becomes (k := (20 + (7 * c)) + 2) (v := v) (by omega)) (Nat.le_of_ble_eq_true rfl)) rfl rfl tg_X11_becomes lk_X11_215 in_X11_becomes se_X11_becomes rfl dX11_amend_135 rfl (Nat.le_of_ble_eq_true rfl) (Nat.le_refl _) (Nat.le_refl _) ?_
              rintro _ _ ⟨rfl, rfl⟩ -
              refine w_top (y := nI (sF a c 2)) (show (I 31 0 0 ((20 + (7 * c)) + 2) : Int32) = nI (sF a c 2) from hs.2.2.s hcc (f := 2) (by decide) (by decide) (by omega)) ?_
              exact w_ireturn dX11_amend_138 rfl (rfl) rfl (⟨rfl, _, _, rfl, FrR.rf⟩)
          · skip
            first
            | (exfalso; omega)
            | skip
              refine w_bipush (v := (-2)) dX11_amend_124 (by decide) ?_
              refine w_goto (tgt := 138) dX11_amend_126 (by decide) ?_
              exact w_ireturn dX11_amend_138 rfl (rfl) rfl (⟨rfl, _, _, rfl, FrR.rf⟩)
      · skip
        first
        | (exfalso; omega)
        | skip
          refine w_iconst (v := (-1)) dX11_amend_114 (by decide) ?_
          exact w_ireturn dX11_amend_115 rfl (rfl) rfl (⟨rfl, _, _, rfl, FrR.rf⟩)
  · skip
    first
    | (exfalso; omega)
    | skip
      refine w_iconst (v := (-1)) dX11_amend_8 (by decide) ?_
      exact w_ireturn dX11_amend_9 rfl (rfl) rfl (⟨rfl, _, _, rfl, FrR.rf⟩)

theorem p_amend_3 {I : xF4 Int32} {L : xF4 Int64} {a : aA} (hc : CourtIs I 0 a) (hw : WF a) {c : Nat} (hcc : c < nC a) {v : Nat} (hv : v ≤ 20) (h4 : ¬ 0 < sF a c 4) : Tri 19 109 m_X10_amend [vR 0 0 0, vI (nI c), vI (3), vI (nI v)] (rM I L) (pCc (nI (sF a c 3)) (asF a c 3 v) I) := by
  refine ⟨k_X10_amend, Nat.le_of_ble_eq_true rfl, ?_⟩
  show Wp _ _ _ 0 [some (vR 0 0 0), some (vI (nI c)), some (vI (3)), some (vI (nI v)), none] [] (rM I L) _
  obtain ⟨hJ, hC, hG, hD, hR, -⟩ := id hw
  obtain ⟨fc0, fc1, fc2, fc3, fc4, fc5, fc6, fc7, fc8⟩ := hw.2.2.2.2.2.2.1 c hcc
  have hrp := (repl_3 (I := I) (k := 0) (c := c) (v := nI v)).1
  refine w_aload_n dX10_amend_0 rfl ?_
  refine w_getR (w := some (1, 0, 0)) ff_X10_10 rfl rfl dX10_amend_1 rfl ?_
  refine w_iload_n dX10_amend_4 rfl ?_
  refine w_callV (as := [vI (nI c)]) (st := []) (Tri.mono (c_sAt hc hw hcc) (Nat.le_of_ble_eq_true rfl)) rfl rfl tg_X1_suitAt lk_X10_136 in_X1_suitAt se_X1_suitAt rfl dX10_amend_5 rfl (Nat.le_of_ble_eq_true rfl) (Nat.le_refl _) (Nat.le_refl _) ?_
  rintro _ _ ⟨rfl, rfl⟩ -
  refine w_astore (ls' := [some (vR 0 0 0), some (vI (nI c)), some (vI (3)), some (vI (nI v)), some (vR 5 0 c)]) dX10_amend_8 rfl ?_
  refine w_aload dX10_amend_10 rfl ?_
  refine w_ifnull (tgt := 25) dX10_amend_12 (by decide) (fun h => by cases h) (fun _ _ => ?_)
  refine w_aload dX10_amend_15 rfl ?_
  refine w_iload_n dX10_amend_17 rfl ?_
  refine w_iload_n dX10_amend_18 rfl ?_
  refine w_callV (as := [vI (3), vI (nI v)]) (st := []) (Tri.mono (c_X8_admits 0 c (3) (nI v)) (Nat.le_of_ble_eq_true rfl)) rfl rfl tg_X8_admits lk_X10_166 in_X8_admits se_X8_admits rfl dX10_amend_19 rfl (Nat.le_of_ble_eq_true rfl) (Nat.le_refl _) (Nat.le_refl _) ?_
  rintro _ _ ⟨rfl, rfl⟩ -
  refine w_top (y := bI (0 ≤ ((v : Nat) : Int) ∧ ((v : Nat) : Int) ≤ 20)) (show (bI (admP (3) (nI v) (I 5 0 c 1) (I 5 0 c 2)) : Int32) = bI (0 ≤ ((v : Nat) : Int) ∧ ((v : Nat) : Int) ≤ 20) from adm_3 (z_nI (by omega))) ?_
  refine w_ifne_b (tgt := 27) dX10_amend_22 (by decide) (fun h1 => ?_) (fun h1 => ?_)
  · skip
    first
    | (exfalso; omega)
    | skip
      refine w_aload dX10_amend_27 rfl ?_
      refine w_callV (as := []) (st := []) (Tri.mono (c_X8_isHeard 0 c) (Nat.le_of_ble_eq_true rfl)) rfl rfl tg_X8_isHeard lk_X10_170 in_X8_isHeard se_X8_isHeard rfl dX10_amend_29 rfl (Nat.le_of_ble_eq_true rfl) (Nat.le_refl _) (Nat.le_refl _) ?_
      rintro _ _ ⟨rfl, rfl⟩ -
      rw [show (bI (0 < I 5 0 c 4) : Int32) = bI (0 < sF a c 4) from isH hc hw hcc]
      refine w_ifeq_b (tgt := 40) dX10_amend_32 (by decide) (fun h2 => ?_) (fun h2 => ?_)
      · skip
        first
        | (exfalso; omega)
        | skip
          refine w_aload dX10_amend_40 rfl ?_
          refine w_iload_n dX10_amend_42 rfl ?_
          refine w_iload_n dX10_amend_43 rfl ?_
          refine w_callV (as := [vI (3), vI (nI v)]) (st := []) (Tri.mono (c_X8_replace 0 c (3) (nI v)) (Nat.le_of_ble_eq_true rfl)) rfl rfl tg_X8_replace lk_X10_174 in_X8_replace se_X8_replace rfl dX10_amend_44 rfl (Nat.le_of_ble_eq_true rfl) (Nat.le_refl _) (Nat.le_refl _) ?_
          rintro _ _ ⟨rfl, rfl⟩ -
          refine w_top (y := nI (sF a c 3)) (show (replO I 0 c 3 : Int32) = nI (sF a c 3) from (repl_3 (v := 0)).2.trans (hc.s hcc (f := 3) (by decide) (by decide))) ?_
          exact w_ireturn dX10_amend_47 rfl (rfl) rfl (⟨rfl, _, _, rfl, by rw [hrp]; exact hc.upS c (f := 3) (by decide) v, by rw [hrp]; exact FrC.up (by decide)⟩)
      · skip
        first
        | (exfalso; omega)
        | skip
          refine w_bipush (v := (-2)) dX10_amend_35 (by decide) ?_
          refine w_goto (tgt := 47) dX10_amend_37 (by decide) ?_
          exact w_ireturn dX10_amend_47 rfl (rfl) rfl (⟨rfl, _, _, rfl, by rw [hrp]; exact hc.upS c (f := 3) (by decide) v, by rw [hrp]; exact FrC.up (by decide)⟩)
  · skip
    first
    | (exfalso; omega)
    | skip
      refine w_iconst (v := (-1)) dX10_amend_25 (by decide) ?_
      exact w_ireturn dX10_amend_26 rfl (rfl) rfl (⟨rfl, _, _, rfl, by rw [hrp]; exact hc.upS c (f := 3) (by decide) v, by rw [hrp]; exact FrC.up (by decide)⟩)

theorem q_amend_3 {I : xF4 Int32} {L : xF4 Int64} {a : aA} (hs : SI I a) (hw : WF a) {c : Nat} (hcc : c < nC a) {v : Nat} (hv : v ≤ 20) (h4 : ¬ 0 < sF a c 4) : Tri 19 109 m_X11_amend [vR 30 0 0, vI (nI c), vI (3), vI (nI v)] (rM I L) (pMc (nI (sF a c 3)) (asF a c 3 v) I) := by
  refine ⟨k_X11_amend, Nat.le_of_ble_eq_true rfl, ?_⟩
  show Wp _ _ _ 0 [some (vR 30 0 0), some (vI (nI c)), some (vI (3)), some (vI (nI v)), none, none] [] (rM I L) _
  obtain ⟨hJ, hC, hG, hD, hR, -⟩ := id hw
  obtain ⟨fc0, fc1, fc2, fc3, fc4, fc5, fc6, fc7, fc8⟩ := hw.2.2.2.2.2.2.1 c hcc
  refine w_aload_n dX11_amend_0 rfl ?_
  refine w_iload_n dX11_amend_1 rfl ?_
  refine w_callV (as := [vI (nI c)]) (st := []) (Tri.mono (d_isCase (hs.2.1) (by omega) (x := nI c) (X := ((c : Nat) : Int)) (z_nI (by omega))) (Nat.le_of_ble_eq_true rfl)) rfl rfl tg_X11_isCase lk_X11_204 in_X11_isCase se_X11_isCase rfl dX11_amend_2 rfl (Nat.le_of_ble_eq_true rfl) (Nat.le_refl _) (Nat.le_refl _) ?_
  rintro _ _ ⟨rfl, rfl⟩ -
  refine w_ifne_b (tgt := 10) dX11_amend_5 (by decide) (fun h1 => ?_) (fun h1 => ?_)
  · skip
    first
    | (exfalso; omega)
    | skip
      refine w_bipush (v := 20) dX11_amend_10 (by decide) ?_
      refine w_bipush (v := 7) dX11_amend_12 (by decide) ?_
      refine w_iload_n dX11_amend_14 rfl ?_
      refine w_imul dX11_amend_15 ?_
      rw [show ((7) * (nI c) : Int32) = nI (7 * c) from ar_mul (p := 7) (q := c) rfl rfl (by first | rfl | omega)]
      refine w_iadd dX11_amend_16 ?_
      rw [show ((20) + (nI (7 * c)) : Int32) = nI (20 + (7 * c)) from ar_add (p := 20) (q := 7 * c) rfl rfl (by omega)]
      refine w_istore (ls' := [some (vR 30 0 0), some (vI (nI c)), some (vI (3)), some (vI (nI v)), some (vI (nI (20 + (7 * c)))), none]) dX11_amend_17 rfl ?_
      refine w_iload_n dX11_amend_19 rfl ?_
      refine w_if_ne (tgt := 35) dX11_amend_20 (by decide) (fun _ => ?_) (fun h => absurd h (by decide))
      refine w_iload_n dX11_amend_35 rfl ?_
      refine w_iconst (v := 1) dX11_amend_36 (by decide) ?_
      refine w_icmp_ne (tgt := 59) dX11_amend_37 (by decide) (fun _ => ?_) (fun h => absurd h (by decide))
      refine w_iload_n dX11_amend_59 rfl ?_
      refine w_iconst (v := 2) dX11_amend_60 (by decide) ?_
      refine w_icmp_ne (tgt := 85) dX11_amend_61 (by decide) (fun _ => ?_) (fun h => absurd h (by decide))
      refine w_iload_n dX11_amend_85 rfl ?_
      refine w_iconst (v := 3) dX11_amend_86 (by decide) ?_
      refine w_icmp_ne (tgt := 106) dX11_amend_87 (by decide) (fun h => absurd (by decide) h) (fun _ => ?_)
      refine w_iload_n dX11_amend_90 rfl ?_
      refine w_i2l dX11_amend_91 ?_
      refine w_lconst (v := 0) dX11_amend_92 (by decide) ?_
      refine w_ldc2 dX11_amend_93 cq_X11_211 ?_
      refine w_callS (as := [vL ((nI v : Int32).toInt64), vL (0), vL (20)]) (st := []) (Tri.mono (d_in ((nI v : Int32).toInt64) (0) (20)) (Nat.le_of_ble_eq_true rfl)) tg_X11_in lk_X11_66 sa_X11_in rfl dX11_amend_96 rfl (Nat.le_of_ble_eq_true rfl) (Nat.le_refl _) (Nat.le_refl _) ?_
      rintro _ _ ⟨rfl, rfl⟩ -
      refine w_top (y := bI (0 ≤ ((v : Nat) : Int) ∧ ((v : Nat) : Int) ≤ 20)) (show (bI ((0 : Int64) ≤ ((nI v : Int32).toInt64) ∧ ((nI v : Int32).toInt64) ≤ (20 : Int64)) : Int32) = bI (0 ≤ ((v : Nat) : Int) ∧ ((v : Nat) : Int) ≤ 20) from inZ (x := nI v) (l := 0) (h := 20) (X := ((v : Nat) : Int)) (A := 0) (B := 20) rfl (by decide) (by decide) (z_nI (by omega)) (by decide) (by decide)) ?_
      refine w_ifeq_b (tgt := 106) dX11_amend_99 (by decide) (fun h2 => ?_) (fun h2 => ?_)
      · skip
        first
        | (exfalso; omega)
        | skip
          refine w_iconst (v := 0) dX11_amend_106 (by decide) ?_
          refine w_istore (ls' := [some (vR 30 0 0), some (vI (nI c)), some (vI (3)), some (vI (nI v)), some (vI (nI (20 + (7 * c)))), some (vI (0))]) dX11_amend_107 rfl ?_
          refine w_iload dX11_amend_109 rfl ?_
          refine w_if_ne (tgt := 116) dX11_amend_111 (by decide) (fun h => absurd (by decide) h) (fun _ => ?_)
          refine w_iconst (v := (-1)) dX11_amend_114 (by decide) ?_
          exact w_ireturn dX11_amend_115 rfl (rfl) rfl (⟨rfl, _, _, rfl, hs.up (hs.2.2.upS hJ (c := c) (f := 3) (by omega) (by decide) (by decide) (by omega) v) rfl rfl, FrW.up (by omega)⟩)
      · skip
        first
        | (exfalso; omega)
        | skip
          refine w_iconst (v := 1) dX11_amend_102 (by decide) ?_
          refine w_goto (tgt := 107) dX11_amend_103 (by decide) ?_
          refine w_istore (ls' := [some (vR 30 0 0), some (vI (nI c)), some (vI (3)), some (vI (nI v)), some (vI (nI (20 + (7 * c)))), some (vI (1))]) dX11_amend_107 rfl ?_
          refine w_iload dX11_amend_109 rfl ?_
          refine w_if_ne (tgt := 116) dX11_amend_111 (by decide) (fun _ => ?_) (fun h => absurd h (by decide))
          refine w_aload_n dX11_amend_116 rfl ?_
          refine w_iload_n dX11_amend_117 rfl ?_
          refine w_callV (as := [vI (nI c)]) (st := []) (Tri.mono (d_isHeard hs hw hcc) (Nat.le_of_ble_eq_true rfl)) rfl rfl tg_X11_isHeard lk_X11_218 in_X11_isHeard se_X11_isHeard rfl dX11_amend_118 rfl (Nat.le_of_ble_eq_true rfl) (Nat.le_refl _) (Nat.le_refl _) ?_
          rintro _ _ ⟨rfl, rfl⟩ -
          refine w_ifeq_b (tgt := 129) dX11_amend_121 (by decide) (fun h3 => ?_) (fun h3 => ?_)
          · skip
            first
            | (exfalso; omega)
            | skip
              refine w_aload_n dX11_amend_129 rfl ?_
              refine w_iload dX11_amend_130 rfl ?_
              refine w_iload_n dX11_amend_132 rfl ?_
              refine w_iadd dX11_amend_133 ?_
              rw [show ((nI (20 + (7 * c))) + (3) : Int32) = nI ((20 + (7 * c)) + 3) from ar_add (p := 20 + (7 * c)) (q := 3) rfl rfl (by omega)]
              refine w_iload_n dX11_amend_134 rfl ?_
              refine w_callV (as := [vI (nI ((20 + (7 * c)) + 3)), vI (nI v)]) (st := []) (Tri.mono (d_becomes (k := (20 + (7 * c)) + 3) (v := v) (by omega)) (Nat.le_of_ble_eq_true rfl)) rfl rfl tg_X11_becomes lk_X11_215 in_X11_becomes se_X11_becomes rfl dX11_amend_135 rfl (Nat.le_of_ble_eq_true rfl) (Nat.le_refl _) (Nat.le_refl _) ?_
              rintro _ _ ⟨rfl, rfl⟩ -
              refine w_top (y := nI (sF a c 3)) (show (I 31 0 0 ((20 + (7 * c)) + 3) : Int32) = nI (sF a c 3) from hs.2.2.s hcc (f := 3) (by decide) (by decide) (by omega)) ?_
              exact w_ireturn dX11_amend_138 rfl (rfl) rfl (⟨rfl, _, _, rfl, hs.up (hs.2.2.upS hJ (c := c) (f := 3) (by omega) (by decide) (by decide) (by omega) v) rfl rfl, FrW.up (by omega)⟩)
          · skip
            first
            | (exfalso; omega)
            | skip
              refine w_bipush (v := (-2)) dX11_amend_124 (by decide) ?_
              refine w_goto (tgt := 138) dX11_amend_126 (by decide) ?_
              exact w_ireturn dX11_amend_138 rfl (rfl) rfl (⟨rfl, _, _, rfl, hs.up (hs.2.2.upS hJ (c := c) (f := 3) (by omega) (by decide) (by decide) (by omega) v) rfl rfl, FrW.up (by omega)⟩)
  · skip
    first
    | (exfalso; omega)
    | skip
      refine w_iconst (v := (-1)) dX11_amend_8 (by decide) ?_
      exact w_ireturn dX11_amend_9 rfl (rfl) rfl (⟨rfl, _, _, rfl, hs.up (hs.2.2.upS hJ (c := c) (f := 3) (by omega) (by decide) (by decide) (by omega) v) rfl rfl, FrW.up (by omega)⟩)

theorem p_amend_h3 {I : xF4 Int32} {L : xF4 Int64} {a : aA} (hc : CourtIs I 0 a) (hw : WF a) {c : Nat} (hcc : c < nC a) {v : Nat} (hv : v ≤ 20) (h4 : 0 < sF a c 4) : Tri 19 109 m_X10_amend [vR 0 0 0, vI (nI c), vI (3), vI (nI v)] (rM I L) (pCq (vI (-2)) I) := by
  refine ⟨k_X10_amend, Nat.le_of_ble_eq_true rfl, ?_⟩
  show Wp _ _ _ 0 [some (vR 0 0 0), some (vI (nI c)), some (vI (3)), some (vI (nI v)), none] [] (rM I L) _
  obtain ⟨hJ, hC, hG, hD, hR, -⟩ := id hw
  obtain ⟨fc0, fc1, fc2, fc3, fc4, fc5, fc6, fc7, fc8⟩ := hw.2.2.2.2.2.2.1 c hcc
  refine w_aload_n dX10_amend_0 rfl ?_
  refine w_getR (w := some (1, 0, 0)) ff_X10_10 rfl rfl dX10_amend_1 rfl ?_
  refine w_iload_n dX10_amend_4 rfl ?_
  refine w_callV (as := [vI (nI c)]) (st := []) (Tri.mono (c_sAt hc hw hcc) (Nat.le_of_ble_eq_true rfl)) rfl rfl tg_X1_suitAt lk_X10_136 in_X1_suitAt se_X1_suitAt rfl dX10_amend_5 rfl (Nat.le_of_ble_eq_true rfl) (Nat.le_refl _) (Nat.le_refl _) ?_
  rintro _ _ ⟨rfl, rfl⟩ -
  refine w_astore (ls' := [some (vR 0 0 0), some (vI (nI c)), some (vI (3)), some (vI (nI v)), some (vR 5 0 c)]) dX10_amend_8 rfl ?_
  refine w_aload dX10_amend_10 rfl ?_
  refine w_ifnull (tgt := 25) dX10_amend_12 (by decide) (fun h => by cases h) (fun _ _ => ?_)
  refine w_aload dX10_amend_15 rfl ?_
  refine w_iload_n dX10_amend_17 rfl ?_
  refine w_iload_n dX10_amend_18 rfl ?_
  refine w_callV (as := [vI (3), vI (nI v)]) (st := []) (Tri.mono (c_X8_admits 0 c (3) (nI v)) (Nat.le_of_ble_eq_true rfl)) rfl rfl tg_X8_admits lk_X10_166 in_X8_admits se_X8_admits rfl dX10_amend_19 rfl (Nat.le_of_ble_eq_true rfl) (Nat.le_refl _) (Nat.le_refl _) ?_
  rintro _ _ ⟨rfl, rfl⟩ -
  refine w_top (y := bI (0 ≤ ((v : Nat) : Int) ∧ ((v : Nat) : Int) ≤ 20)) (show (bI (admP (3) (nI v) (I 5 0 c 1) (I 5 0 c 2)) : Int32) = bI (0 ≤ ((v : Nat) : Int) ∧ ((v : Nat) : Int) ≤ 20) from adm_3 (z_nI (by omega))) ?_
  refine w_ifne_b (tgt := 27) dX10_amend_22 (by decide) (fun h1 => ?_) (fun h1 => ?_)
  · skip
    first
    | (exfalso; omega)
    | skip
      refine w_aload dX10_amend_27 rfl ?_
      refine w_callV (as := []) (st := []) (Tri.mono (c_X8_isHeard 0 c) (Nat.le_of_ble_eq_true rfl)) rfl rfl tg_X8_isHeard lk_X10_170 in_X8_isHeard se_X8_isHeard rfl dX10_amend_29 rfl (Nat.le_of_ble_eq_true rfl) (Nat.le_refl _) (Nat.le_refl _) ?_
      rintro _ _ ⟨rfl, rfl⟩ -
      rw [show (bI (0 < I 5 0 c 4) : Int32) = bI (0 < sF a c 4) from isH hc hw hcc]
      refine w_ifeq_b (tgt := 40) dX10_amend_32 (by decide) (fun h2 => ?_) (fun h2 => ?_)
      · skip
        first
        | (exfalso; omega)
        | skip
          refine w_aload dX10_amend_40 rfl ?_
          refine w_iload_n dX10_amend_42 rfl ?_
          refine w_iload_n dX10_amend_43 rfl ?_
          refine w_callV (as := [vI (3), vI (nI v)]) (st := []) (Tri.mono (c_X8_replace 0 c (3) (nI v)) (Nat.le_of_ble_eq_true rfl)) rfl rfl tg_X8_replace lk_X10_174 in_X8_replace se_X8_replace rfl dX10_amend_44 rfl (Nat.le_of_ble_eq_true rfl) (Nat.le_refl _) (Nat.le_refl _) ?_
          rintro _ _ ⟨rfl, rfl⟩ -
          refine w_top (y := nI (sF a c 3)) (show (replO I 0 c 3 : Int32) = nI (sF a c 3) from (repl_3 (v := 0)).2.trans (hc.s hcc (f := 3) (by decide) (by decide))) ?_
          exact w_ireturn dX10_amend_47 rfl (rfl) rfl (⟨rfl, _, _, rfl, FrQ.rf⟩)
      · skip
        first
        | (exfalso; omega)
        | skip
          refine w_bipush (v := (-2)) dX10_amend_35 (by decide) ?_
          refine w_goto (tgt := 47) dX10_amend_37 (by decide) ?_
          exact w_ireturn dX10_amend_47 rfl (rfl) rfl (⟨rfl, _, _, rfl, FrQ.rf⟩)
  · skip
    first
    | (exfalso; omega)
    | skip
      refine w_iconst (v := (-1)) dX10_amend_25 (by decide) ?_
      exact w_ireturn dX10_amend_26 rfl (rfl) rfl (⟨rfl, _, _, rfl, FrQ.rf⟩)

theorem q_amend_h3 {I : xF4 Int32} {L : xF4 Int64} {a : aA} (hs : SI I a) (hw : WF a) {c : Nat} (hcc : c < nC a) {v : Nat} (hv : v ≤ 20) (h4 : 0 < sF a c 4) : Tri 19 109 m_X11_amend [vR 30 0 0, vI (nI c), vI (3), vI (nI v)] (rM I L) (pMq (vI (-2)) I) := by
  refine ⟨k_X11_amend, Nat.le_of_ble_eq_true rfl, ?_⟩
  show Wp _ _ _ 0 [some (vR 30 0 0), some (vI (nI c)), some (vI (3)), some (vI (nI v)), none, none] [] (rM I L) _
  obtain ⟨hJ, hC, hG, hD, hR, -⟩ := id hw
  obtain ⟨fc0, fc1, fc2, fc3, fc4, fc5, fc6, fc7, fc8⟩ := hw.2.2.2.2.2.2.1 c hcc
  refine w_aload_n dX11_amend_0 rfl ?_
  refine w_iload_n dX11_amend_1 rfl ?_
  refine w_callV (as := [vI (nI c)]) (st := []) (Tri.mono (d_isCase (hs.2.1) (by omega) (x := nI c) (X := ((c : Nat) : Int)) (z_nI (by omega))) (Nat.le_of_ble_eq_true rfl)) rfl rfl tg_X11_isCase lk_X11_204 in_X11_isCase se_X11_isCase rfl dX11_amend_2 rfl (Nat.le_of_ble_eq_true rfl) (Nat.le_refl _) (Nat.le_refl _) ?_
  rintro _ _ ⟨rfl, rfl⟩ -
  refine w_ifne_b (tgt := 10) dX11_amend_5 (by decide) (fun h1 => ?_) (fun h1 => ?_)
  · skip
    first
    | (exfalso; omega)
    | skip
      refine w_bipush (v := 20) dX11_amend_10 (by decide) ?_
      refine w_bipush (v := 7) dX11_amend_12 (by decide) ?_
      refine w_iload_n dX11_amend_14 rfl ?_
      refine w_imul dX11_amend_15 ?_
      rw [show ((7) * (nI c) : Int32) = nI (7 * c) from ar_mul (p := 7) (q := c) rfl rfl (by first | rfl | omega)]
      refine w_iadd dX11_amend_16 ?_
      rw [show ((20) + (nI (7 * c)) : Int32) = nI (20 + (7 * c)) from ar_add (p := 20) (q := 7 * c) rfl rfl (by omega)]
      refine w_istore (ls' := [some (vR 30 0 0), some (vI (nI c)), some (vI (3)), some (vI (nI v)), some (vI (nI (20 + (7 * c)))), none]) dX11_amend_17 rfl ?_
      refine w_iload_n dX11_amend_19 rfl ?_
      refine w_if_ne (tgt := 35) dX11_amend_20 (by decide) (fun _ => ?_) (fun h => absurd h (by decide))
      refine w_iload_n dX11_amend_35 rfl ?_
      refine w_iconst (v := 1) dX11_amend_36 (by decide) ?_
      refine w_icmp_ne (tgt := 59) dX11_amend_37 (by decide) (fun _ => ?_) (fun h => absurd h (by decide))
      refine w_iload_n dX11_amend_59 rfl ?_
      refine w_iconst (v := 2) dX11_amend_60 (by decide) ?_
      refine w_icmp_ne (tgt := 85) dX11_amend_61 (by decide) (fun _ => ?_) (fun h => absurd h (by decide))
      refine w_iload_n dX11_amend_85 rfl ?_
      refine w_iconst (v := 3) dX11_amend_86 (by decide) ?_
      refine w_icmp_ne (tgt := 106) dX11_amend_87 (by decide) (fun h => absurd (by decide) h) (fun _ => ?_)
      refine w_iload_n dX11_amend_90 rfl ?_
      refine w_i2l dX11_amend_91 ?_
      refine w_lconst (v := 0) dX11_amend_92 (by decide) ?_
      refine w_ldc2 dX11_amend_93 cq_X11_211 ?_
      refine w_callS (as := [vL ((nI v : Int32).toInt64), vL (0), vL (20)]) (st := []) (Tri.mono (d_in ((nI v : Int32).toInt64) (0) (20)) (Nat.le_of_ble_eq_true rfl)) tg_X11_in lk_X11_66 sa_X11_in rfl dX11_amend_96 rfl (Nat.le_of_ble_eq_true rfl) (Nat.le_refl _) (Nat.le_refl _) ?_
      rintro _ _ ⟨rfl, rfl⟩ -
      refine w_top (y := bI (0 ≤ ((v : Nat) : Int) ∧ ((v : Nat) : Int) ≤ 20)) (show (bI ((0 : Int64) ≤ ((nI v : Int32).toInt64) ∧ ((nI v : Int32).toInt64) ≤ (20 : Int64)) : Int32) = bI (0 ≤ ((v : Nat) : Int) ∧ ((v : Nat) : Int) ≤ 20) from inZ (x := nI v) (l := 0) (h := 20) (X := ((v : Nat) : Int)) (A := 0) (B := 20) rfl (by decide) (by decide) (z_nI (by omega)) (by decide) (by decide)) ?_
      refine w_ifeq_b (tgt := 106) dX11_amend_99 (by decide) (fun h2 => ?_) (fun h2 => ?_)
      · skip
        first
        | (exfalso; omega)
        | skip
          refine w_iconst (v := 0) dX11_amend_106 (by decide) ?_
          refine w_istore (ls' := [some (vR 30 0 0), some (vI (nI c)), some (vI (3)), some (vI (nI v)), some (vI (nI (20 + (7 * c)))), some (vI (0))]) dX11_amend_107 rfl ?_
          refine w_iload dX11_amend_109 rfl ?_
          refine w_if_ne (tgt := 116) dX11_amend_111 (by decide) (fun h => absurd (by decide) h) (fun _ => ?_)
          refine w_iconst (v := (-1)) dX11_amend_114 (by decide) ?_
          exact w_ireturn dX11_amend_115 rfl (rfl) rfl (⟨rfl, _, _, rfl, FrR.rf⟩)
      · skip
        first
        | (exfalso; omega)
        | skip
          refine w_iconst (v := 1) dX11_amend_102 (by decide) ?_
          refine w_goto (tgt := 107) dX11_amend_103 (by decide) ?_
          refine w_istore (ls' := [some (vR 30 0 0), some (vI (nI c)), some (vI (3)), some (vI (nI v)), some (vI (nI (20 + (7 * c)))), some (vI (1))]) dX11_amend_107 rfl ?_
          refine w_iload dX11_amend_109 rfl ?_
          refine w_if_ne (tgt := 116) dX11_amend_111 (by decide) (fun _ => ?_) (fun h => absurd h (by decide))
          refine w_aload_n dX11_amend_116 rfl ?_
          refine w_iload_n dX11_amend_117 rfl ?_
          refine w_callV (as := [vI (nI c)]) (st := []) (Tri.mono (d_isHeard hs hw hcc) (Nat.le_of_ble_eq_true rfl)) rfl rfl tg_X11_isHeard lk_X11_218 in_X11_isHeard se_X11_isHeard rfl dX11_amend_118 rfl (Nat.le_of_ble_eq_true rfl) (Nat.le_refl _) (Nat.le_refl _) ?_
          rintro _ _ ⟨rfl, rfl⟩ -
          refine w_ifeq_b (tgt := 129) dX11_amend_121 (by decide) (fun h3 => ?_) (fun h3 => ?_)
          · skip
            first
            | (exfalso; omega)
            | skip
              refine w_aload_n dX11_amend_129 rfl ?_
              refine w_iload dX11_amend_130 rfl ?_
              refine w_iload_n dX11_amend_132 rfl ?_
              refine w_iadd dX11_amend_133 ?_
              rw [show ((nI (20 + (7 * c))) + (3) : Int32) = nI ((20 + (7 * c)) + 3) from ar_add (p := 20 + (7 * c)) (q := 3) rfl rfl (by omega)]
              refine w_iload_n dX11_amend_134 rfl ?_
              refine w_callV (as := [vI (nI ((20 + (7 * c)) + 3)), vI (nI v)]) (st := []) (Tri.mono (d_becomes (k := (20 + (7 * c)) + 3) (v := v) (by omega)) (Nat.le_of_ble_eq_true rfl)) rfl rfl tg_X11_becomes lk_X11_215 in_X11_becomes se_X11_becomes rfl dX11_amend_135 rfl (Nat.le_of_ble_eq_true rfl) (Nat.le_refl _) (Nat.le_refl _) ?_
              rintro _ _ ⟨rfl, rfl⟩ -
              refine w_top (y := nI (sF a c 3)) (show (I 31 0 0 ((20 + (7 * c)) + 3) : Int32) = nI (sF a c 3) from hs.2.2.s hcc (f := 3) (by decide) (by decide) (by omega)) ?_
              exact w_ireturn dX11_amend_138 rfl (rfl) rfl (⟨rfl, _, _, rfl, FrR.rf⟩)
          · skip
            first
            | (exfalso; omega)
            | skip
              refine w_bipush (v := (-2)) dX11_amend_124 (by decide) ?_
              refine w_goto (tgt := 138) dX11_amend_126 (by decide) ?_
              exact w_ireturn dX11_amend_138 rfl (rfl) rfl (⟨rfl, _, _, rfl, FrR.rf⟩)
  · skip
    first
    | (exfalso; omega)
    | skip
      refine w_iconst (v := (-1)) dX11_amend_8 (by decide) ?_
      exact w_ireturn dX11_amend_9 rfl (rfl) rfl (⟨rfl, _, _, rfl, FrR.rf⟩)

theorem p_amend_v0 {I : xF4 Int32} {L : xF4 Int64} {a : aA} (hc : CourtIs I 0 a) (hw : WF a) {c : Nat} (hcc : c < nC a) {v : Int32} (hx : v.toInt < 0 ∨ 3 < v.toInt) : Tri 19 109 m_X10_amend [vR 0 0 0, vI (nI c), vI (0), vI (v)] (rM I L) (pCq (vI (-1)) I) := by
  refine ⟨k_X10_amend, Nat.le_of_ble_eq_true rfl, ?_⟩
  show Wp _ _ _ 0 [some (vR 0 0 0), some (vI (nI c)), some (vI (0)), some (vI (v)), none] [] (rM I L) _
  obtain ⟨hJ, hC, hG, hD, hR, -⟩ := id hw
  obtain ⟨fc0, fc1, fc2, fc3, fc4, fc5, fc6, fc7, fc8⟩ := hw.2.2.2.2.2.2.1 c hcc
  refine w_aload_n dX10_amend_0 rfl ?_
  refine w_getR (w := some (1, 0, 0)) ff_X10_10 rfl rfl dX10_amend_1 rfl ?_
  refine w_iload_n dX10_amend_4 rfl ?_
  refine w_callV (as := [vI (nI c)]) (st := []) (Tri.mono (c_sAt hc hw hcc) (Nat.le_of_ble_eq_true rfl)) rfl rfl tg_X1_suitAt lk_X10_136 in_X1_suitAt se_X1_suitAt rfl dX10_amend_5 rfl (Nat.le_of_ble_eq_true rfl) (Nat.le_refl _) (Nat.le_refl _) ?_
  rintro _ _ ⟨rfl, rfl⟩ -
  refine w_astore (ls' := [some (vR 0 0 0), some (vI (nI c)), some (vI (0)), some (vI (v)), some (vR 5 0 c)]) dX10_amend_8 rfl ?_
  refine w_aload dX10_amend_10 rfl ?_
  refine w_ifnull (tgt := 25) dX10_amend_12 (by decide) (fun h => by cases h) (fun _ _ => ?_)
  refine w_aload dX10_amend_15 rfl ?_
  refine w_iload_n dX10_amend_17 rfl ?_
  refine w_iload_n dX10_amend_18 rfl ?_
  refine w_callV (as := [vI (0), vI (v)]) (st := []) (Tri.mono (c_X8_admits 0 c (0) (v)) (Nat.le_of_ble_eq_true rfl)) rfl rfl tg_X8_admits lk_X10_166 in_X8_admits se_X8_admits rfl dX10_amend_19 rfl (Nat.le_of_ble_eq_true rfl) (Nat.le_refl _) (Nat.le_refl _) ?_
  rintro _ _ ⟨rfl, rfl⟩ -
  refine w_top (y := bI (0 ≤ v.toInt ∧ v.toInt ≤ 3)) (show (bI (admP (0) (v) (I 5 0 c 1) (I 5 0 c 2)) : Int32) = bI (0 ≤ v.toInt ∧ v.toInt ≤ 3) from adm_0 rfl) ?_
  refine w_ifne_b (tgt := 27) dX10_amend_22 (by decide) (fun h1 => ?_) (fun h1 => ?_)
  · skip
    first
    | (exfalso; omega)
    | skip
      exfalso
      omega
  · skip
    first
    | (exfalso; omega)
    | skip
      refine w_iconst (v := (-1)) dX10_amend_25 (by decide) ?_
      exact w_ireturn dX10_amend_26 rfl (rfl) rfl (⟨rfl, _, _, rfl, FrQ.rf⟩)

theorem q_amend_v0 {I : xF4 Int32} {L : xF4 Int64} {a : aA} (hs : SI I a) (hw : WF a) {c : Nat} (hcc : c < nC a) {v : Int32} (hx : v.toInt < 0 ∨ 3 < v.toInt) : Tri 19 109 m_X11_amend [vR 30 0 0, vI (nI c), vI (0), vI (v)] (rM I L) (pMq (vI (-1)) I) := by
  refine ⟨k_X11_amend, Nat.le_of_ble_eq_true rfl, ?_⟩
  show Wp _ _ _ 0 [some (vR 30 0 0), some (vI (nI c)), some (vI (0)), some (vI (v)), none, none] [] (rM I L) _
  obtain ⟨hJ, hC, hG, hD, hR, -⟩ := id hw
  obtain ⟨fc0, fc1, fc2, fc3, fc4, fc5, fc6, fc7, fc8⟩ := hw.2.2.2.2.2.2.1 c hcc
  refine w_aload_n dX11_amend_0 rfl ?_
  refine w_iload_n dX11_amend_1 rfl ?_
  refine w_callV (as := [vI (nI c)]) (st := []) (Tri.mono (d_isCase (hs.2.1) (by omega) (x := nI c) (X := ((c : Nat) : Int)) (z_nI (by omega))) (Nat.le_of_ble_eq_true rfl)) rfl rfl tg_X11_isCase lk_X11_204 in_X11_isCase se_X11_isCase rfl dX11_amend_2 rfl (Nat.le_of_ble_eq_true rfl) (Nat.le_refl _) (Nat.le_refl _) ?_
  rintro _ _ ⟨rfl, rfl⟩ -
  refine w_ifne_b (tgt := 10) dX11_amend_5 (by decide) (fun h1 => ?_) (fun h1 => ?_)
  · skip
    first
    | (exfalso; omega)
    | skip
      refine w_bipush (v := 20) dX11_amend_10 (by decide) ?_
      refine w_bipush (v := 7) dX11_amend_12 (by decide) ?_
      refine w_iload_n dX11_amend_14 rfl ?_
      refine w_imul dX11_amend_15 ?_
      rw [show ((7) * (nI c) : Int32) = nI (7 * c) from ar_mul (p := 7) (q := c) rfl rfl (by first | rfl | omega)]
      refine w_iadd dX11_amend_16 ?_
      rw [show ((20) + (nI (7 * c)) : Int32) = nI (20 + (7 * c)) from ar_add (p := 20) (q := 7 * c) rfl rfl (by omega)]
      refine w_istore (ls' := [some (vR 30 0 0), some (vI (nI c)), some (vI (0)), some (vI (v)), some (vI (nI (20 + (7 * c)))), none]) dX11_amend_17 rfl ?_
      refine w_iload_n dX11_amend_19 rfl ?_
      refine w_if_ne (tgt := 35) dX11_amend_20 (by decide) (fun h => absurd (by decide) h) (fun _ => ?_)
      refine w_iload_n dX11_amend_23 rfl ?_
      refine w_i2l dX11_amend_24 ?_
      refine w_lconst (v := 0) dX11_amend_25 (by decide) ?_
      refine w_ldc2 dX11_amend_26 cq_X11_209 ?_
      refine w_callS (as := [vL ((v : Int32).toInt64), vL (0), vL (3)]) (st := []) (Tri.mono (d_in ((v : Int32).toInt64) (0) (3)) (Nat.le_of_ble_eq_true rfl)) tg_X11_in lk_X11_66 sa_X11_in rfl dX11_amend_29 rfl (Nat.le_of_ble_eq_true rfl) (Nat.le_refl _) (Nat.le_refl _) ?_
      rintro _ _ ⟨rfl, rfl⟩ -
      refine w_top (y := bI (0 ≤ v.toInt ∧ v.toInt ≤ 3)) (show (bI ((0 : Int64) ≤ ((v : Int32).toInt64) ∧ ((v : Int32).toInt64) ≤ (3 : Int64)) : Int32) = bI (0 ≤ v.toInt ∧ v.toInt ≤ 3) from inZ (x := v) (l := 0) (h := 3) (X := v.toInt) (A := 0) (B := 3) rfl (by decide) (by decide) rfl (by decide) (by decide)) ?_
      refine w_goto (tgt := 107) dX11_amend_32 (by decide) ?_
      refine w_istore (ls' := [some (vR 30 0 0), some (vI (nI c)), some (vI (0)), some (vI (v)), some (vI (nI (20 + (7 * c)))), some (vI (bI (0 ≤ v.toInt ∧ v.toInt ≤ 3)))]) dX11_amend_107 rfl ?_
      refine w_iload dX11_amend_109 rfl ?_
      refine w_ifne_b (tgt := 116) dX11_amend_111 (by decide) (fun h2 => ?_) (fun h2 => ?_)
      · skip
        first
        | (exfalso; omega)
        | skip
          refine w_aload_n dX11_amend_116 rfl ?_
          refine w_iload_n dX11_amend_117 rfl ?_
          refine w_callV (as := [vI (nI c)]) (st := []) (Tri.mono (d_isHeard hs hw hcc) (Nat.le_of_ble_eq_true rfl)) rfl rfl tg_X11_isHeard lk_X11_218 in_X11_isHeard se_X11_isHeard rfl dX11_amend_118 rfl (Nat.le_of_ble_eq_true rfl) (Nat.le_refl _) (Nat.le_refl _) ?_
          rintro _ _ ⟨rfl, rfl⟩ -
          refine w_ifeq_b (tgt := 129) dX11_amend_121 (by decide) (fun h3 => ?_) (fun h3 => ?_)
          · skip
            first
            | (exfalso; omega)
            | skip
              refine w_aload_n dX11_amend_129 rfl ?_
              refine w_iload dX11_amend_130 rfl ?_
              refine w_iload_n dX11_amend_132 rfl ?_
              refine w_iadd dX11_amend_133 ?_
              rw [show ((nI (20 + (7 * c))) + (0) : Int32) = nI (20 + (7 * c)) from ar_add (p := 20 + (7 * c)) (q := 0) rfl rfl (by omega)]
              refine w_iload_n dX11_amend_134 rfl ?_
              exfalso
              omega
          · skip
            first
            | (exfalso; omega)
            | skip
              refine w_bipush (v := (-2)) dX11_amend_124 (by decide) ?_
              refine w_goto (tgt := 138) dX11_amend_126 (by decide) ?_
              exact w_ireturn dX11_amend_138 rfl (rfl) rfl (⟨rfl, _, _, rfl, FrR.rf⟩)
      · skip
        first
        | (exfalso; omega)
        | skip
          refine w_iconst (v := (-1)) dX11_amend_114 (by decide) ?_
          exact w_ireturn dX11_amend_115 rfl (rfl) rfl (⟨rfl, _, _, rfl, FrR.rf⟩)
  · skip
    first
    | (exfalso; omega)
    | skip
      refine w_iconst (v := (-1)) dX11_amend_8 (by decide) ?_
      exact w_ireturn dX11_amend_9 rfl (rfl) rfl (⟨rfl, _, _, rfl, FrR.rf⟩)

theorem p_amend_v1 {I : xF4 Int32} {L : xF4 Int64} {a : aA} (hc : CourtIs I 0 a) (hw : WF a) {c : Nat} (hcc : c < nC a) {v : Int32} (hx : v.toInt < 1 ∨ ((sF a c 2 : Nat) : Int) < v.toInt) : Tri 19 109 m_X10_amend [vR 0 0 0, vI (nI c), vI (1), vI (v)] (rM I L) (pCq (vI (-1)) I) := by
  refine ⟨k_X10_amend, Nat.le_of_ble_eq_true rfl, ?_⟩
  show Wp _ _ _ 0 [some (vR 0 0 0), some (vI (nI c)), some (vI (1)), some (vI (v)), none] [] (rM I L) _
  obtain ⟨hJ, hC, hG, hD, hR, -⟩ := id hw
  obtain ⟨fc0, fc1, fc2, fc3, fc4, fc5, fc6, fc7, fc8⟩ := hw.2.2.2.2.2.2.1 c hcc
  refine w_aload_n dX10_amend_0 rfl ?_
  refine w_getR (w := some (1, 0, 0)) ff_X10_10 rfl rfl dX10_amend_1 rfl ?_
  refine w_iload_n dX10_amend_4 rfl ?_
  refine w_callV (as := [vI (nI c)]) (st := []) (Tri.mono (c_sAt hc hw hcc) (Nat.le_of_ble_eq_true rfl)) rfl rfl tg_X1_suitAt lk_X10_136 in_X1_suitAt se_X1_suitAt rfl dX10_amend_5 rfl (Nat.le_of_ble_eq_true rfl) (Nat.le_refl _) (Nat.le_refl _) ?_
  rintro _ _ ⟨rfl, rfl⟩ -
  refine w_astore (ls' := [some (vR 0 0 0), some (vI (nI c)), some (vI (1)), some (vI (v)), some (vR 5 0 c)]) dX10_amend_8 rfl ?_
  refine w_aload dX10_amend_10 rfl ?_
  refine w_ifnull (tgt := 25) dX10_amend_12 (by decide) (fun h => by cases h) (fun _ _ => ?_)
  refine w_aload dX10_amend_15 rfl ?_
  refine w_iload_n dX10_amend_17 rfl ?_
  refine w_iload_n dX10_amend_18 rfl ?_
  refine w_callV (as := [vI (1), vI (v)]) (st := []) (Tri.mono (c_X8_admits 0 c (1) (v)) (Nat.le_of_ble_eq_true rfl)) rfl rfl tg_X8_admits lk_X10_166 in_X8_admits se_X8_admits rfl dX10_amend_19 rfl (Nat.le_of_ble_eq_true rfl) (Nat.le_refl _) (Nat.le_refl _) ?_
  rintro _ _ ⟨rfl, rfl⟩ -
  refine w_top (y := bI (1 ≤ v.toInt ∧ v.toInt ≤ ((sF a c 2 : Nat) : Int))) (show (bI (admP (1) (v) (I 5 0 c 1) (I 5 0 c 2)) : Int32) = bI (1 ≤ v.toInt ∧ v.toInt ≤ ((sF a c 2 : Nat) : Int)) from adm_1 rfl (by rw [hc.s hcc (f := 2) (by decide) (by decide)]; exact z_nI (by omega))) ?_
  refine w_ifne_b (tgt := 27) dX10_amend_22 (by decide) (fun h1 => ?_) (fun h1 => ?_)
  · skip
    first
    | (exfalso; omega)
    | skip
      exfalso
      omega
  · skip
    first
    | (exfalso; omega)
    | skip
      refine w_iconst (v := (-1)) dX10_amend_25 (by decide) ?_
      exact w_ireturn dX10_amend_26 rfl (rfl) rfl (⟨rfl, _, _, rfl, FrQ.rf⟩)

theorem q_amend_v1 {I : xF4 Int32} {L : xF4 Int64} {a : aA} (hs : SI I a) (hw : WF a) {c : Nat} (hcc : c < nC a) {v : Int32} (hx : v.toInt < 1 ∨ ((sF a c 2 : Nat) : Int) < v.toInt) : Tri 19 109 m_X11_amend [vR 30 0 0, vI (nI c), vI (1), vI (v)] (rM I L) (pMq (vI (-1)) I) := by
  refine ⟨k_X11_amend, Nat.le_of_ble_eq_true rfl, ?_⟩
  show Wp _ _ _ 0 [some (vR 30 0 0), some (vI (nI c)), some (vI (1)), some (vI (v)), none, none] [] (rM I L) _
  obtain ⟨hJ, hC, hG, hD, hR, -⟩ := id hw
  obtain ⟨fc0, fc1, fc2, fc3, fc4, fc5, fc6, fc7, fc8⟩ := hw.2.2.2.2.2.2.1 c hcc
  refine w_aload_n dX11_amend_0 rfl ?_
  refine w_iload_n dX11_amend_1 rfl ?_
  refine w_callV (as := [vI (nI c)]) (st := []) (Tri.mono (d_isCase (hs.2.1) (by omega) (x := nI c) (X := ((c : Nat) : Int)) (z_nI (by omega))) (Nat.le_of_ble_eq_true rfl)) rfl rfl tg_X11_isCase lk_X11_204 in_X11_isCase se_X11_isCase rfl dX11_amend_2 rfl (Nat.le_of_ble_eq_true rfl) (Nat.le_refl _) (Nat.le_refl _) ?_
  rintro _ _ ⟨rfl, rfl⟩ -
  refine w_ifne_b (tgt := 10) dX11_amend_5 (by decide) (fun h1 => ?_) (fun h1 => ?_)
  · skip
    first
    | (exfalso; omega)
    | skip
      refine w_bipush (v := 20) dX11_amend_10 (by decide) ?_
      refine w_bipush (v := 7) dX11_amend_12 (by decide) ?_
      refine w_iload_n dX11_amend_14 rfl ?_
      refine w_imul dX11_amend_15 ?_
      rw [show ((7) * (nI c) : Int32) = nI (7 * c) from ar_mul (p := 7) (q := c) rfl rfl (by first | rfl | omega)]
      refine w_iadd dX11_amend_16 ?_
      rw [show ((20) + (nI (7 * c)) : Int32) = nI (20 + (7 * c)) from ar_add (p := 20) (q := 7 * c) rfl rfl (by omega)]
      refine w_istore (ls' := [some (vR 30 0 0), some (vI (nI c)), some (vI (1)), some (vI (v)), some (vI (nI (20 + (7 * c)))), none]) dX11_amend_17 rfl ?_
      refine w_iload_n dX11_amend_19 rfl ?_
      refine w_if_ne (tgt := 35) dX11_amend_20 (by decide) (fun _ => ?_) (fun h => absurd h (by decide))
      refine w_iload_n dX11_amend_35 rfl ?_
      refine w_iconst (v := 1) dX11_amend_36 (by decide) ?_
      refine w_icmp_ne (tgt := 59) dX11_amend_37 (by decide) (fun h => absurd (by decide) h) (fun _ => ?_)
      refine w_iload_n dX11_amend_40 rfl ?_
      refine w_i2l dX11_amend_41 ?_
      refine w_lconst (v := 1) dX11_amend_42 (by decide) ?_
      refine w_aload_n dX11_amend_43 rfl ?_
      refine w_getR (w := some (31, 0, 0)) ff_X11_7 rfl rfl dX11_amend_44 rfl ?_
      refine w_iload dX11_amend_47 rfl ?_
      refine w_iconst (v := 2) dX11_amend_49 (by decide) ?_
      refine w_iadd dX11_amend_50 ?_
      rw [show ((nI (20 + (7 * c))) + (2) : Int32) = nI ((20 + (7 * c)) + 2) from ar_add (p := 20 + (7 * c)) (q := 2) rfl rfl (by omega)]
      refine w_iaload (a := (20 + (7 * c)) + 2) rfl (vp_in_nI (n := (20 + (7 * c)) + 2) (by omega) (by omega)) (nI_clamp (n := (20 + (7 * c)) + 2) (by omega)) dX11_amend_51 ?_
      rw [show (I 31 0 0 ((20 + (7 * c)) + 2) : Int32) = nI (sF a c 2) from hs.2.2.s hcc (f := 2) (by decide) (by decide) (by omega)]
      refine w_i2l dX11_amend_52 ?_
      refine w_callS (as := [vL ((v : Int32).toInt64), vL (1), vL ((nI (sF a c 2) : Int32).toInt64)]) (st := []) (Tri.mono (d_in ((v : Int32).toInt64) (1) ((nI (sF a c 2) : Int32).toInt64)) (Nat.le_of_ble_eq_true rfl)) tg_X11_in lk_X11_66 sa_X11_in rfl dX11_amend_53 rfl (Nat.le_of_ble_eq_true rfl) (Nat.le_refl _) (Nat.le_refl _) ?_
      rintro _ _ ⟨rfl, rfl⟩ -
      refine w_top (y := bI (1 ≤ v.toInt ∧ v.toInt ≤ ((sF a c 2 : Nat) : Int))) (show (bI ((1 : Int64) ≤ ((v : Int32).toInt64) ∧ ((v : Int32).toInt64) ≤ ((nI (sF a c 2) : Int32).toInt64)) : Int32) = bI (1 ≤ v.toInt ∧ v.toInt ≤ ((sF a c 2 : Nat) : Int)) from inZ (x := v) (l := 1) (h := nI (sF a c 2)) (X := v.toInt) (A := 1) (B := ((sF a c 2 : Nat) : Int)) rfl (by decide) rfl rfl (by decide) (z_nI (by omega))) ?_
      refine w_goto (tgt := 107) dX11_amend_56 (by decide) ?_
      refine w_istore (ls' := [some (vR 30 0 0), some (vI (nI c)), some (vI (1)), some (vI (v)), some (vI (nI (20 + (7 * c)))), some (vI (bI (1 ≤ v.toInt ∧ v.toInt ≤ ((sF a c 2 : Nat) : Int))))]) dX11_amend_107 rfl ?_
      refine w_iload dX11_amend_109 rfl ?_
      refine w_ifne_b (tgt := 116) dX11_amend_111 (by decide) (fun h2 => ?_) (fun h2 => ?_)
      · skip
        first
        | (exfalso; omega)
        | skip
          refine w_aload_n dX11_amend_116 rfl ?_
          refine w_iload_n dX11_amend_117 rfl ?_
          refine w_callV (as := [vI (nI c)]) (st := []) (Tri.mono (d_isHeard hs hw hcc) (Nat.le_of_ble_eq_true rfl)) rfl rfl tg_X11_isHeard lk_X11_218 in_X11_isHeard se_X11_isHeard rfl dX11_amend_118 rfl (Nat.le_of_ble_eq_true rfl) (Nat.le_refl _) (Nat.le_refl _) ?_
          rintro _ _ ⟨rfl, rfl⟩ -
          refine w_ifeq_b (tgt := 129) dX11_amend_121 (by decide) (fun h3 => ?_) (fun h3 => ?_)
          · skip
            first
            | (exfalso; omega)
            | skip
              refine w_aload_n dX11_amend_129 rfl ?_
              refine w_iload dX11_amend_130 rfl ?_
              refine w_iload_n dX11_amend_132 rfl ?_
              refine w_iadd dX11_amend_133 ?_
              rw [show ((nI (20 + (7 * c))) + (1) : Int32) = nI ((20 + (7 * c)) + 1) from ar_add (p := 20 + (7 * c)) (q := 1) rfl rfl (by omega)]
              refine w_iload_n dX11_amend_134 rfl ?_
              exfalso
              omega
          · skip
            first
            | (exfalso; omega)
            | skip
              refine w_bipush (v := (-2)) dX11_amend_124 (by decide) ?_
              refine w_goto (tgt := 138) dX11_amend_126 (by decide) ?_
              exact w_ireturn dX11_amend_138 rfl (rfl) rfl (⟨rfl, _, _, rfl, FrR.rf⟩)
      · skip
        first
        | (exfalso; omega)
        | skip
          refine w_iconst (v := (-1)) dX11_amend_114 (by decide) ?_
          exact w_ireturn dX11_amend_115 rfl (rfl) rfl (⟨rfl, _, _, rfl, FrR.rf⟩)
  · skip
    first
    | (exfalso; omega)
    | skip
      refine w_iconst (v := (-1)) dX11_amend_8 (by decide) ?_
      exact w_ireturn dX11_amend_9 rfl (rfl) rfl (⟨rfl, _, _, rfl, FrR.rf⟩)

theorem p_amend_v2 {I : xF4 Int32} {L : xF4 Int64} {a : aA} (hc : CourtIs I 0 a) (hw : WF a) {c : Nat} (hcc : c < nC a) {v : Int32} (hx : v.toInt < ((sF a c 1 : Nat) : Int) ∨ 60 < v.toInt) : Tri 19 109 m_X10_amend [vR 0 0 0, vI (nI c), vI (2), vI (v)] (rM I L) (pCq (vI (-1)) I) := by
  refine ⟨k_X10_amend, Nat.le_of_ble_eq_true rfl, ?_⟩
  show Wp _ _ _ 0 [some (vR 0 0 0), some (vI (nI c)), some (vI (2)), some (vI (v)), none] [] (rM I L) _
  obtain ⟨hJ, hC, hG, hD, hR, -⟩ := id hw
  obtain ⟨fc0, fc1, fc2, fc3, fc4, fc5, fc6, fc7, fc8⟩ := hw.2.2.2.2.2.2.1 c hcc
  refine w_aload_n dX10_amend_0 rfl ?_
  refine w_getR (w := some (1, 0, 0)) ff_X10_10 rfl rfl dX10_amend_1 rfl ?_
  refine w_iload_n dX10_amend_4 rfl ?_
  refine w_callV (as := [vI (nI c)]) (st := []) (Tri.mono (c_sAt hc hw hcc) (Nat.le_of_ble_eq_true rfl)) rfl rfl tg_X1_suitAt lk_X10_136 in_X1_suitAt se_X1_suitAt rfl dX10_amend_5 rfl (Nat.le_of_ble_eq_true rfl) (Nat.le_refl _) (Nat.le_refl _) ?_
  rintro _ _ ⟨rfl, rfl⟩ -
  refine w_astore (ls' := [some (vR 0 0 0), some (vI (nI c)), some (vI (2)), some (vI (v)), some (vR 5 0 c)]) dX10_amend_8 rfl ?_
  refine w_aload dX10_amend_10 rfl ?_
  refine w_ifnull (tgt := 25) dX10_amend_12 (by decide) (fun h => by cases h) (fun _ _ => ?_)
  refine w_aload dX10_amend_15 rfl ?_
  refine w_iload_n dX10_amend_17 rfl ?_
  refine w_iload_n dX10_amend_18 rfl ?_
  refine w_callV (as := [vI (2), vI (v)]) (st := []) (Tri.mono (c_X8_admits 0 c (2) (v)) (Nat.le_of_ble_eq_true rfl)) rfl rfl tg_X8_admits lk_X10_166 in_X8_admits se_X8_admits rfl dX10_amend_19 rfl (Nat.le_of_ble_eq_true rfl) (Nat.le_refl _) (Nat.le_refl _) ?_
  rintro _ _ ⟨rfl, rfl⟩ -
  refine w_top (y := bI (((sF a c 1 : Nat) : Int) ≤ v.toInt ∧ v.toInt ≤ 60)) (show (bI (admP (2) (v) (I 5 0 c 1) (I 5 0 c 2)) : Int32) = bI (((sF a c 1 : Nat) : Int) ≤ v.toInt ∧ v.toInt ≤ 60) from adm_2 rfl (by rw [hc.s hcc (f := 1) (by decide) (by decide)]; exact z_nI (by omega))) ?_
  refine w_ifne_b (tgt := 27) dX10_amend_22 (by decide) (fun h1 => ?_) (fun h1 => ?_)
  · skip
    first
    | (exfalso; omega)
    | skip
      exfalso
      omega
  · skip
    first
    | (exfalso; omega)
    | skip
      refine w_iconst (v := (-1)) dX10_amend_25 (by decide) ?_
      exact w_ireturn dX10_amend_26 rfl (rfl) rfl (⟨rfl, _, _, rfl, FrQ.rf⟩)

theorem q_amend_v2 {I : xF4 Int32} {L : xF4 Int64} {a : aA} (hs : SI I a) (hw : WF a) {c : Nat} (hcc : c < nC a) {v : Int32} (hx : v.toInt < ((sF a c 1 : Nat) : Int) ∨ 60 < v.toInt) : Tri 19 109 m_X11_amend [vR 30 0 0, vI (nI c), vI (2), vI (v)] (rM I L) (pMq (vI (-1)) I) := by
  refine ⟨k_X11_amend, Nat.le_of_ble_eq_true rfl, ?_⟩
  show Wp _ _ _ 0 [some (vR 30 0 0), some (vI (nI c)), some (vI (2)), some (vI (v)), none, none] [] (rM I L) _
  obtain ⟨hJ, hC, hG, hD, hR, -⟩ := id hw
  obtain ⟨fc0, fc1, fc2, fc3, fc4, fc5, fc6, fc7, fc8⟩ := hw.2.2.2.2.2.2.1 c hcc
  refine w_aload_n dX11_amend_0 rfl ?_
  refine w_iload_n dX11_amend_1 rfl ?_
  refine w_callV (as := [vI (nI c)]) (st := []) (Tri.mono (d_isCase (hs.2.1) (by omega) (x := nI c) (X := ((c : Nat) : Int)) (z_nI (by omega))) (Nat.le_of_ble_eq_true rfl)) rfl rfl tg_X11_isCase lk_X11_204 in_X11_isCase se_X11_isCase rfl dX11_amend_2 rfl (Nat.le_of_ble_eq_true rfl) (Nat.le_refl _) (Nat.le_refl _) ?_
  rintro _ _ ⟨rfl, rfl⟩ -
  refine w_ifne_b (tgt := 10) dX11_amend_5 (by decide) (fun h1 => ?_) (fun h1 => ?_)
  · skip
    first
    | (exfalso; omega)
    | skip
      refine w_bipush (v := 20) dX11_amend_10 (by decide) ?_
      refine w_bipush (v := 7) dX11_amend_12 (by decide) ?_
      refine w_iload_n dX11_amend_14 rfl ?_
      refine w_imul dX11_amend_15 ?_
      rw [show ((7) * (nI c) : Int32) = nI (7 * c) from ar_mul (p := 7) (q := c) rfl rfl (by first | rfl | omega)]
      refine w_iadd dX11_amend_16 ?_
      rw [show ((20) + (nI (7 * c)) : Int32) = nI (20 + (7 * c)) from ar_add (p := 20) (q := 7 * c) rfl rfl (by omega)]
      refine w_istore (ls' := [some (vR 30 0 0), some (vI (nI c)), some (vI (2)), some (vI (v)), some (vI (nI (20 + (7 * c)))), none]) dX11_amend_17 rfl ?_
      refine w_iload_n dX11_amend_19 rfl ?_
      refine w_if_ne (tgt := 35) dX11_amend_20 (by decide) (fun _ => ?_) (fun h => absurd h (by decide))
      refine w_iload_n dX11_amend_35 rfl ?_
      refine w_iconst (v := 1) dX11_amend_36 (by decide) ?_
      refine w_icmp_ne (tgt := 59) dX11_amend_37 (by decide) (fun _ => ?_) (fun h => absurd h (by decide))
      refine w_iload_n dX11_amend_59 rfl ?_
      refine w_iconst (v := 2) dX11_amend_60 (by decide) ?_
      refine w_icmp_ne (tgt := 85) dX11_amend_61 (by decide) (fun h => absurd (by decide) h) (fun _ => ?_)
      refine w_iload_n dX11_amend_64 rfl ?_
      refine w_i2l dX11_amend_65 ?_
      refine w_aload_n dX11_amend_66 rfl ?_
      refine w_getR (w := some (31, 0, 0)) ff_X11_7 rfl rfl dX11_amend_67 rfl ?_
      refine w_iload dX11_amend_70 rfl ?_
      refine w_iconst (v := 1) dX11_amend_72 (by decide) ?_
      refine w_iadd dX11_amend_73 ?_
      rw [show ((nI (20 + (7 * c))) + (1) : Int32) = nI ((20 + (7 * c)) + 1) from ar_add (p := 20 + (7 * c)) (q := 1) rfl rfl (by omega)]
      refine w_iaload (a := (20 + (7 * c)) + 1) rfl (vp_in_nI (n := (20 + (7 * c)) + 1) (by omega) (by omega)) (nI_clamp (n := (20 + (7 * c)) + 1) (by omega)) dX11_amend_74 ?_
      rw [show (I 31 0 0 ((20 + (7 * c)) + 1) : Int32) = nI (sF a c 1) from hs.2.2.s hcc (f := 1) (by decide) (by decide) (by omega)]
      refine w_i2l dX11_amend_75 ?_
      refine w_ldc2 dX11_amend_76 cq_X11_207 ?_
      refine w_callS (as := [vL ((v : Int32).toInt64), vL ((nI (sF a c 1) : Int32).toInt64), vL (60)]) (st := []) (Tri.mono (d_in ((v : Int32).toInt64) ((nI (sF a c 1) : Int32).toInt64) (60)) (Nat.le_of_ble_eq_true rfl)) tg_X11_in lk_X11_66 sa_X11_in rfl dX11_amend_79 rfl (Nat.le_of_ble_eq_true rfl) (Nat.le_refl _) (Nat.le_refl _) ?_
      rintro _ _ ⟨rfl, rfl⟩ -
      refine w_top (y := bI (((sF a c 1 : Nat) : Int) ≤ v.toInt ∧ v.toInt ≤ 60)) (show (bI (((nI (sF a c 1) : Int32).toInt64) ≤ ((v : Int32).toInt64) ∧ ((v : Int32).toInt64) ≤ (60 : Int64)) : Int32) = bI (((sF a c 1 : Nat) : Int) ≤ v.toInt ∧ v.toInt ≤ 60) from inZ (x := v) (l := nI (sF a c 1)) (h := 60) (X := v.toInt) (A := ((sF a c 1 : Nat) : Int)) (B := 60) rfl rfl (by decide) rfl (z_nI (by omega)) (by decide)) ?_
      refine w_goto (tgt := 107) dX11_amend_82 (by decide) ?_
      refine w_istore (ls' := [some (vR 30 0 0), some (vI (nI c)), some (vI (2)), some (vI (v)), some (vI (nI (20 + (7 * c)))), some (vI (bI (((sF a c 1 : Nat) : Int) ≤ v.toInt ∧ v.toInt ≤ 60)))]) dX11_amend_107 rfl ?_
      refine w_iload dX11_amend_109 rfl ?_
      refine w_ifne_b (tgt := 116) dX11_amend_111 (by decide) (fun h2 => ?_) (fun h2 => ?_)
      · skip
        first
        | (exfalso; omega)
        | skip
          refine w_aload_n dX11_amend_116 rfl ?_
          refine w_iload_n dX11_amend_117 rfl ?_
          refine w_callV (as := [vI (nI c)]) (st := []) (Tri.mono (d_isHeard hs hw hcc) (Nat.le_of_ble_eq_true rfl)) rfl rfl tg_X11_isHeard lk_X11_218 in_X11_isHeard se_X11_isHeard rfl dX11_amend_118 rfl (Nat.le_of_ble_eq_true rfl) (Nat.le_refl _) (Nat.le_refl _) ?_
          rintro _ _ ⟨rfl, rfl⟩ -
          refine w_ifeq_b (tgt := 129) dX11_amend_121 (by decide) (fun h3 => ?_) (fun h3 => ?_)
          · skip
            first
            | (exfalso; omega)
            | skip
              refine w_aload_n dX11_amend_129 rfl ?_
              refine w_iload dX11_amend_130 rfl ?_
              refine w_iload_n dX11_amend_132 rfl ?_
              refine w_iadd dX11_amend_133 ?_
              rw [show ((nI (20 + (7 * c))) + (2) : Int32) = nI ((20 + (7 * c)) + 2) from ar_add (p := 20 + (7 * c)) (q := 2) rfl rfl (by omega)]
              refine w_iload_n dX11_amend_134 rfl ?_
              exfalso
              omega
          · skip
            first
            | (exfalso; omega)
            | skip
              refine w_bipush (v := (-2)) dX11_amend_124 (by decide) ?_
              refine w_goto (tgt := 138) dX11_amend_126 (by decide) ?_
              exact w_ireturn dX11_amend_138 rfl (rfl) rfl (⟨rfl, _, _, rfl, FrR.rf⟩)
      · skip
        first
        | (exfalso; omega)
        | skip
          refine w_iconst (v := (-1)) dX11_amend_114 (by decide) ?_
          exact w_ireturn dX11_amend_115 rfl (rfl) rfl (⟨rfl, _, _, rfl, FrR.rf⟩)
  · skip
    first
    | (exfalso; omega)
    | skip
      refine w_iconst (v := (-1)) dX11_amend_8 (by decide) ?_
      exact w_ireturn dX11_amend_9 rfl (rfl) rfl (⟨rfl, _, _, rfl, FrR.rf⟩)

theorem p_amend_v3 {I : xF4 Int32} {L : xF4 Int64} {a : aA} (hc : CourtIs I 0 a) (hw : WF a) {c : Nat} (hcc : c < nC a) {v : Int32} (hx : v.toInt < 0 ∨ 20 < v.toInt) : Tri 19 109 m_X10_amend [vR 0 0 0, vI (nI c), vI (3), vI (v)] (rM I L) (pCq (vI (-1)) I) := by
  refine ⟨k_X10_amend, Nat.le_of_ble_eq_true rfl, ?_⟩
  show Wp _ _ _ 0 [some (vR 0 0 0), some (vI (nI c)), some (vI (3)), some (vI (v)), none] [] (rM I L) _
  obtain ⟨hJ, hC, hG, hD, hR, -⟩ := id hw
  obtain ⟨fc0, fc1, fc2, fc3, fc4, fc5, fc6, fc7, fc8⟩ := hw.2.2.2.2.2.2.1 c hcc
  refine w_aload_n dX10_amend_0 rfl ?_
  refine w_getR (w := some (1, 0, 0)) ff_X10_10 rfl rfl dX10_amend_1 rfl ?_
  refine w_iload_n dX10_amend_4 rfl ?_
  refine w_callV (as := [vI (nI c)]) (st := []) (Tri.mono (c_sAt hc hw hcc) (Nat.le_of_ble_eq_true rfl)) rfl rfl tg_X1_suitAt lk_X10_136 in_X1_suitAt se_X1_suitAt rfl dX10_amend_5 rfl (Nat.le_of_ble_eq_true rfl) (Nat.le_refl _) (Nat.le_refl _) ?_
  rintro _ _ ⟨rfl, rfl⟩ -
  refine w_astore (ls' := [some (vR 0 0 0), some (vI (nI c)), some (vI (3)), some (vI (v)), some (vR 5 0 c)]) dX10_amend_8 rfl ?_
  refine w_aload dX10_amend_10 rfl ?_
  refine w_ifnull (tgt := 25) dX10_amend_12 (by decide) (fun h => by cases h) (fun _ _ => ?_)
  refine w_aload dX10_amend_15 rfl ?_
  refine w_iload_n dX10_amend_17 rfl ?_
  refine w_iload_n dX10_amend_18 rfl ?_
  refine w_callV (as := [vI (3), vI (v)]) (st := []) (Tri.mono (c_X8_admits 0 c (3) (v)) (Nat.le_of_ble_eq_true rfl)) rfl rfl tg_X8_admits lk_X10_166 in_X8_admits se_X8_admits rfl dX10_amend_19 rfl (Nat.le_of_ble_eq_true rfl) (Nat.le_refl _) (Nat.le_refl _) ?_
  rintro _ _ ⟨rfl, rfl⟩ -
  refine w_top (y := bI (0 ≤ v.toInt ∧ v.toInt ≤ 20)) (show (bI (admP (3) (v) (I 5 0 c 1) (I 5 0 c 2)) : Int32) = bI (0 ≤ v.toInt ∧ v.toInt ≤ 20) from adm_3 rfl) ?_
  refine w_ifne_b (tgt := 27) dX10_amend_22 (by decide) (fun h1 => ?_) (fun h1 => ?_)
  · skip
    first
    | (exfalso; omega)
    | skip
      exfalso
      omega
  · skip
    first
    | (exfalso; omega)
    | skip
      refine w_iconst (v := (-1)) dX10_amend_25 (by decide) ?_
      exact w_ireturn dX10_amend_26 rfl (rfl) rfl (⟨rfl, _, _, rfl, FrQ.rf⟩)

theorem q_amend_v3 {I : xF4 Int32} {L : xF4 Int64} {a : aA} (hs : SI I a) (hw : WF a) {c : Nat} (hcc : c < nC a) {v : Int32} (hx : v.toInt < 0 ∨ 20 < v.toInt) : Tri 19 109 m_X11_amend [vR 30 0 0, vI (nI c), vI (3), vI (v)] (rM I L) (pMq (vI (-1)) I) := by
  refine ⟨k_X11_amend, Nat.le_of_ble_eq_true rfl, ?_⟩
  show Wp _ _ _ 0 [some (vR 30 0 0), some (vI (nI c)), some (vI (3)), some (vI (v)), none, none] [] (rM I L) _
  obtain ⟨hJ, hC, hG, hD, hR, -⟩ := id hw
  obtain ⟨fc0, fc1, fc2, fc3, fc4, fc5, fc6, fc7, fc8⟩ := hw.2.2.2.2.2.2.1 c hcc
  refine w_aload_n dX11_amend_0 rfl ?_
  refine w_iload_n dX11_amend_1 rfl ?_
  refine w_callV (as := [vI (nI c)]) (st := []) (Tri.mono (d_isCase (hs.2.1) (by omega) (x := nI c) (X := ((c : Nat) : Int)) (z_nI (by omega))) (Nat.le_of_ble_eq_true rfl)) rfl rfl tg_X11_isCase lk_X11_204 in_X11_isCase se_X11_isCase rfl dX11_amend_2 rfl (Nat.le_of_ble_eq_true rfl) (Nat.le_refl _) (Nat.le_refl _) ?_
  rintro _ _ ⟨rfl, rfl⟩ -
  refine w_ifne_b (tgt := 10) dX11_amend_5 (by decide) (fun h1 => ?_) (fun h1 => ?_)
  · skip
    first
    | (exfalso; omega)
    | skip
      refine w_bipush (v := 20) dX11_amend_10 (by decide) ?_
      refine w_bipush (v := 7) dX11_amend_12 (by decide) ?_
      refine w_iload_n dX11_amend_14 rfl ?_
      refine w_imul dX11_amend_15 ?_
      rw [show ((7) * (nI c) : Int32) = nI (7 * c) from ar_mul (p := 7) (q := c) rfl rfl (by first | rfl | omega)]
      refine w_iadd dX11_amend_16 ?_
      rw [show ((20) + (nI (7 * c)) : Int32) = nI (20 + (7 * c)) from ar_add (p := 20) (q := 7 * c) rfl rfl (by omega)]
      refine w_istore (ls' := [some (vR 30 0 0), some (vI (nI c)), some (vI (3)), some (vI (v)), some (vI (nI (20 + (7 * c)))), none]) dX11_amend_17 rfl ?_
      refine w_iload_n dX11_amend_19 rfl ?_
      refine w_if_ne (tgt := 35) dX11_amend_20 (by decide) (fun _ => ?_) (fun h => absurd h (by decide))
      refine w_iload_n dX11_amend_35 rfl ?_
      refine w_iconst (v := 1) dX11_amend_36 (by decide) ?_
      refine w_icmp_ne (tgt := 59) dX11_amend_37 (by decide) (fun _ => ?_) (fun h => absurd h (by decide))
      refine w_iload_n dX11_amend_59 rfl ?_
      refine w_iconst (v := 2) dX11_amend_60 (by decide) ?_
      refine w_icmp_ne (tgt := 85) dX11_amend_61 (by decide) (fun _ => ?_) (fun h => absurd h (by decide))
      refine w_iload_n dX11_amend_85 rfl ?_
      refine w_iconst (v := 3) dX11_amend_86 (by decide) ?_
      refine w_icmp_ne (tgt := 106) dX11_amend_87 (by decide) (fun h => absurd (by decide) h) (fun _ => ?_)
      refine w_iload_n dX11_amend_90 rfl ?_
      refine w_i2l dX11_amend_91 ?_
      refine w_lconst (v := 0) dX11_amend_92 (by decide) ?_
      refine w_ldc2 dX11_amend_93 cq_X11_211 ?_
      refine w_callS (as := [vL ((v : Int32).toInt64), vL (0), vL (20)]) (st := []) (Tri.mono (d_in ((v : Int32).toInt64) (0) (20)) (Nat.le_of_ble_eq_true rfl)) tg_X11_in lk_X11_66 sa_X11_in rfl dX11_amend_96 rfl (Nat.le_of_ble_eq_true rfl) (Nat.le_refl _) (Nat.le_refl _) ?_
      rintro _ _ ⟨rfl, rfl⟩ -
      refine w_top (y := bI (0 ≤ v.toInt ∧ v.toInt ≤ 20)) (show (bI ((0 : Int64) ≤ ((v : Int32).toInt64) ∧ ((v : Int32).toInt64) ≤ (20 : Int64)) : Int32) = bI (0 ≤ v.toInt ∧ v.toInt ≤ 20) from inZ (x := v) (l := 0) (h := 20) (X := v.toInt) (A := 0) (B := 20) rfl (by decide) (by decide) rfl (by decide) (by decide)) ?_
      refine w_ifeq_b (tgt := 106) dX11_amend_99 (by decide) (fun h2 => ?_) (fun h2 => ?_)
      · skip
        first
        | (exfalso; omega)
        | skip
          refine w_iconst (v := 0) dX11_amend_106 (by decide) ?_
          refine w_istore (ls' := [some (vR 30 0 0), some (vI (nI c)), some (vI (3)), some (vI (v)), some (vI (nI (20 + (7 * c)))), some (vI (0))]) dX11_amend_107 rfl ?_
          refine w_iload dX11_amend_109 rfl ?_
          refine w_if_ne (tgt := 116) dX11_amend_111 (by decide) (fun h => absurd (by decide) h) (fun _ => ?_)
          refine w_iconst (v := (-1)) dX11_amend_114 (by decide) ?_
          exact w_ireturn dX11_amend_115 rfl (rfl) rfl (⟨rfl, _, _, rfl, FrR.rf⟩)
      · skip
        first
        | (exfalso; omega)
        | skip
          refine w_iconst (v := 1) dX11_amend_102 (by decide) ?_
          refine w_goto (tgt := 107) dX11_amend_103 (by decide) ?_
          refine w_istore (ls' := [some (vR 30 0 0), some (vI (nI c)), some (vI (3)), some (vI (v)), some (vI (nI (20 + (7 * c)))), some (vI (1))]) dX11_amend_107 rfl ?_
          refine w_iload dX11_amend_109 rfl ?_
          refine w_if_ne (tgt := 116) dX11_amend_111 (by decide) (fun _ => ?_) (fun h => absurd h (by decide))
          refine w_aload_n dX11_amend_116 rfl ?_
          refine w_iload_n dX11_amend_117 rfl ?_
          refine w_callV (as := [vI (nI c)]) (st := []) (Tri.mono (d_isHeard hs hw hcc) (Nat.le_of_ble_eq_true rfl)) rfl rfl tg_X11_isHeard lk_X11_218 in_X11_isHeard se_X11_isHeard rfl dX11_amend_118 rfl (Nat.le_of_ble_eq_true rfl) (Nat.le_refl _) (Nat.le_refl _) ?_
          rintro _ _ ⟨rfl, rfl⟩ -
          refine w_ifeq_b (tgt := 129) dX11_amend_121 (by decide) (fun h3 => ?_) (fun h3 => ?_)
          · skip
            first
            | (exfalso; omega)
            | skip
              refine w_aload_n dX11_amend_129 rfl ?_
              refine w_iload dX11_amend_130 rfl ?_
              refine w_iload_n dX11_amend_132 rfl ?_
              refine w_iadd dX11_amend_133 ?_
              rw [show ((nI (20 + (7 * c))) + (3) : Int32) = nI ((20 + (7 * c)) + 3) from ar_add (p := 20 + (7 * c)) (q := 3) rfl rfl (by omega)]
              refine w_iload_n dX11_amend_134 rfl ?_
              exfalso
              omega
          · skip
            first
            | (exfalso; omega)
            | skip
              refine w_bipush (v := (-2)) dX11_amend_124 (by decide) ?_
              refine w_goto (tgt := 138) dX11_amend_126 (by decide) ?_
              exact w_ireturn dX11_amend_138 rfl (rfl) rfl (⟨rfl, _, _, rfl, FrR.rf⟩)
  · skip
    first
    | (exfalso; omega)
    | skip
      refine w_iconst (v := (-1)) dX11_amend_8 (by decide) ?_
      exact w_ireturn dX11_amend_9 rfl (rfl) rfl (⟨rfl, _, _, rfl, FrR.rf⟩)

theorem p_amend_w {I : xF4 Int32} {L : xF4 Int64} {a : aA} (hc : CourtIs I 0 a) (hw : WF a) {c : Nat} (hcc : c < nC a) {what v : Int32} (hx : what.toInt < 0 ∨ ((4 : Nat) : Int) ≤ what.toInt) : Tri 19 109 m_X10_amend [vR 0 0 0, vI (nI c), vI (what), vI (v)] (rM I L) (pCq (vI (-1)) I) := by
  refine ⟨k_X10_amend, Nat.le_of_ble_eq_true rfl, ?_⟩
  show Wp _ _ _ 0 [some (vR 0 0 0), some (vI (nI c)), some (vI (what)), some (vI (v)), none] [] (rM I L) _
  obtain ⟨hJ, hC, hG, hD, hR, -⟩ := id hw
  obtain ⟨fc0, fc1, fc2, fc3, fc4, fc5, fc6, fc7, fc8⟩ := hw.2.2.2.2.2.2.1 c hcc
  refine w_aload_n dX10_amend_0 rfl ?_
  refine w_getR (w := some (1, 0, 0)) ff_X10_10 rfl rfl dX10_amend_1 rfl ?_
  refine w_iload_n dX10_amend_4 rfl ?_
  refine w_callV (as := [vI (nI c)]) (st := []) (Tri.mono (c_sAt hc hw hcc) (Nat.le_of_ble_eq_true rfl)) rfl rfl tg_X1_suitAt lk_X10_136 in_X1_suitAt se_X1_suitAt rfl dX10_amend_5 rfl (Nat.le_of_ble_eq_true rfl) (Nat.le_refl _) (Nat.le_refl _) ?_
  rintro _ _ ⟨rfl, rfl⟩ -
  refine w_astore (ls' := [some (vR 0 0 0), some (vI (nI c)), some (vI (what)), some (vI (v)), some (vR 5 0 c)]) dX10_amend_8 rfl ?_
  refine w_aload dX10_amend_10 rfl ?_
  refine w_ifnull (tgt := 25) dX10_amend_12 (by decide) (fun h => by cases h) (fun _ _ => ?_)
  refine w_aload dX10_amend_15 rfl ?_
  refine w_iload_n dX10_amend_17 rfl ?_
  refine w_iload_n dX10_amend_18 rfl ?_
  refine w_callV (as := [vI (what), vI (v)]) (st := []) (Tri.mono (c_X8_admits 0 c (what) (v)) (Nat.le_of_ble_eq_true rfl)) rfl rfl tg_X8_admits lk_X10_166 in_X8_admits se_X8_admits rfl dX10_amend_19 rfl (Nat.le_of_ble_eq_true rfl) (Nat.le_refl _) (Nat.le_refl _) ?_
  rintro _ _ ⟨rfl, rfl⟩ -
  refine w_top (y := 0) (show (bI (admP (what) (v) (I 5 0 c 1) (I 5 0 c 2)) : Int32) = 0 from adm_o (by omega)) ?_
  refine w_if_ne (tgt := 27) dX10_amend_22 (by decide) (fun h => absurd (by decide) h) (fun _ => ?_)
  refine w_iconst (v := (-1)) dX10_amend_25 (by decide) ?_
  exact w_ireturn dX10_amend_26 rfl (rfl) rfl (⟨rfl, _, _, rfl, FrQ.rf⟩)

theorem q_amend_w {I : xF4 Int32} {L : xF4 Int64} {a : aA} (hs : SI I a) (hw : WF a) {c : Nat} (hcc : c < nC a) {what v : Int32} (hx : what.toInt < 0 ∨ ((4 : Nat) : Int) ≤ what.toInt) : Tri 19 109 m_X11_amend [vR 30 0 0, vI (nI c), vI (what), vI (v)] (rM I L) (pMq (vI (-1)) I) := by
  refine ⟨k_X11_amend, Nat.le_of_ble_eq_true rfl, ?_⟩
  show Wp _ _ _ 0 [some (vR 30 0 0), some (vI (nI c)), some (vI (what)), some (vI (v)), none, none] [] (rM I L) _
  obtain ⟨hJ, hC, hG, hD, hR, -⟩ := id hw
  obtain ⟨fc0, fc1, fc2, fc3, fc4, fc5, fc6, fc7, fc8⟩ := hw.2.2.2.2.2.2.1 c hcc
  refine w_aload_n dX11_amend_0 rfl ?_
  refine w_iload_n dX11_amend_1 rfl ?_
  refine w_callV (as := [vI (nI c)]) (st := []) (Tri.mono (d_isCase (hs.2.1) (by omega) (x := nI c) (X := ((c : Nat) : Int)) (z_nI (by omega))) (Nat.le_of_ble_eq_true rfl)) rfl rfl tg_X11_isCase lk_X11_204 in_X11_isCase se_X11_isCase rfl dX11_amend_2 rfl (Nat.le_of_ble_eq_true rfl) (Nat.le_refl _) (Nat.le_refl _) ?_
  rintro _ _ ⟨rfl, rfl⟩ -
  refine w_ifne_b (tgt := 10) dX11_amend_5 (by decide) (fun h1 => ?_) (fun h1 => ?_)
  · skip
    first
    | (exfalso; omega)
    | skip
      refine w_bipush (v := 20) dX11_amend_10 (by decide) ?_
      refine w_bipush (v := 7) dX11_amend_12 (by decide) ?_
      refine w_iload_n dX11_amend_14 rfl ?_
      refine w_imul dX11_amend_15 ?_
      rw [show ((7) * (nI c) : Int32) = nI (7 * c) from ar_mul (p := 7) (q := c) rfl rfl (by first | rfl | omega)]
      refine w_iadd dX11_amend_16 ?_
      rw [show ((20) + (nI (7 * c)) : Int32) = nI (20 + (7 * c)) from ar_add (p := 20) (q := 7 * c) rfl rfl (by omega)]
      refine w_istore (ls' := [some (vR 30 0 0), some (vI (nI c)), some (vI (what)), some (vI (v)), some (vI (nI (20 + (7 * c)))), none]) dX11_amend_17 rfl ?_
      refine w_iload_n dX11_amend_19 rfl ?_
      refine w_if_ne (tgt := 35) dX11_amend_20 (by decide) (fun h2 => ?_) (fun h2 => ?_)
      · skip
        replace h2 : ¬ (what.toInt = 0) := fun q => h2 ((zeq rfl (by decide)).mpr q)
        first
        | (exfalso; omega)
        | skip
          refine w_iload_n dX11_amend_35 rfl ?_
          refine w_iconst (v := 1) dX11_amend_36 (by decide) ?_
          refine w_icmp_ne (tgt := 59) dX11_amend_37 (by decide) (fun h3 => ?_) (fun h3 => ?_)
          · skip
            replace h3 : ¬ (what.toInt = 1) := fun q => h3 ((zeq rfl (by decide)).mpr q)
            first
            | (exfalso; omega)
            | skip
              refine w_iload_n dX11_amend_59 rfl ?_
              refine w_iconst (v := 2) dX11_amend_60 (by decide) ?_
              refine w_icmp_ne (tgt := 85) dX11_amend_61 (by decide) (fun h4 => ?_) (fun h4 => ?_)
              · skip
                replace h4 : ¬ (what.toInt = 2) := fun q => h4 ((zeq rfl (by decide)).mpr q)
                first
                | (exfalso; omega)
                | skip
                  refine w_iload_n dX11_amend_85 rfl ?_
                  refine w_iconst (v := 3) dX11_amend_86 (by decide) ?_
                  refine w_icmp_ne (tgt := 106) dX11_amend_87 (by decide) (fun h5 => ?_) (fun h5 => ?_)
                  · skip
                    replace h5 : ¬ (what.toInt = 3) := fun q => h5 ((zeq rfl (by decide)).mpr q)
                    first
                    | (exfalso; omega)
                    | skip
                      refine w_iconst (v := 0) dX11_amend_106 (by decide) ?_
                      refine w_istore (ls' := [some (vR 30 0 0), some (vI (nI c)), some (vI (what)), some (vI (v)), some (vI (nI (20 + (7 * c)))), some (vI (0))]) dX11_amend_107 rfl ?_
                      refine w_iload dX11_amend_109 rfl ?_
                      refine w_if_ne (tgt := 116) dX11_amend_111 (by decide) (fun h => absurd (by decide) h) (fun _ => ?_)
                      refine w_iconst (v := (-1)) dX11_amend_114 (by decide) ?_
                      exact w_ireturn dX11_amend_115 rfl (rfl) rfl (⟨rfl, _, _, rfl, FrR.rf⟩)
                  · skip
                    replace h5 : what.toInt = 3 := (zeq rfl (by decide)).mp h5
                    first
                    | (exfalso; omega)
                    | skip
                      refine w_iload_n dX11_amend_90 rfl ?_
                      refine w_i2l dX11_amend_91 ?_
                      refine w_lconst (v := 0) dX11_amend_92 (by decide) ?_
                      refine w_ldc2 dX11_amend_93 cq_X11_211 ?_
                      refine w_callS (as := [vL ((v : Int32).toInt64), vL (0), vL (20)]) (st := []) (Tri.mono (d_in ((v : Int32).toInt64) (0) (20)) (Nat.le_of_ble_eq_true rfl)) tg_X11_in lk_X11_66 sa_X11_in rfl dX11_amend_96 rfl (Nat.le_of_ble_eq_true rfl) (Nat.le_refl _) (Nat.le_refl _) ?_
                      rintro _ _ ⟨rfl, rfl⟩ -
                      refine w_top (y := bI (0 ≤ v.toInt ∧ v.toInt ≤ 20)) (show (bI ((0 : Int64) ≤ ((v : Int32).toInt64) ∧ ((v : Int32).toInt64) ≤ (20 : Int64)) : Int32) = bI (0 ≤ v.toInt ∧ v.toInt ≤ 20) from inZ (x := v) (l := 0) (h := 20) (X := v.toInt) (A := 0) (B := 20) rfl (by decide) (by decide) rfl (by decide) (by decide)) ?_
                      refine w_ifeq_b (tgt := 106) dX11_amend_99 (by decide) (fun h6 => ?_) (fun h6 => ?_)
                      · skip
                        first
                        | (exfalso; omega)
                        | skip
                          refine w_iconst (v := 0) dX11_amend_106 (by decide) ?_
                          refine w_istore (ls' := [some (vR 30 0 0), some (vI (nI c)), some (vI (what)), some (vI (v)), some (vI (nI (20 + (7 * c)))), some (vI (0))]) dX11_amend_107 rfl ?_
                          refine w_iload dX11_amend_109 rfl ?_
                          refine w_if_ne (tgt := 116) dX11_amend_111 (by decide) (fun h => absurd (by decide) h) (fun _ => ?_)
                          refine w_iconst (v := (-1)) dX11_amend_114 (by decide) ?_
                          exact w_ireturn dX11_amend_115 rfl (rfl) rfl (⟨rfl, _, _, rfl, FrR.rf⟩)
                      · skip
                        first
                        | (exfalso; omega)
                        | skip
                          refine w_iconst (v := 1) dX11_amend_102 (by decide) ?_
                          refine w_goto (tgt := 107) dX11_amend_103 (by decide) ?_
                          refine w_istore (ls' := [some (vR 30 0 0), some (vI (nI c)), some (vI (what)), some (vI (v)), some (vI (nI (20 + (7 * c)))), some (vI (1))]) dX11_amend_107 rfl ?_
                          refine w_iload dX11_amend_109 rfl ?_
                          refine w_if_ne (tgt := 116) dX11_amend_111 (by decide) (fun _ => ?_) (fun h => absurd h (by decide))
                          refine w_aload_n dX11_amend_116 rfl ?_
                          refine w_iload_n dX11_amend_117 rfl ?_
                          refine w_callV (as := [vI (nI c)]) (st := []) (Tri.mono (d_isHeard hs hw hcc) (Nat.le_of_ble_eq_true rfl)) rfl rfl tg_X11_isHeard lk_X11_218 in_X11_isHeard se_X11_isHeard rfl dX11_amend_118 rfl (Nat.le_of_ble_eq_true rfl) (Nat.le_refl _) (Nat.le_refl _) ?_
                          rintro _ _ ⟨rfl, rfl⟩ -
                          refine w_ifeq_b (tgt := 129) dX11_amend_121 (by decide) (fun h7 => ?_) (fun h7 => ?_)
                          · skip
                            first
                            | (exfalso; omega)
                            | skip
                              refine w_aload_n dX11_amend_129 rfl ?_
                              refine w_iload dX11_amend_130 rfl ?_
                              refine w_iload_n dX11_amend_132 rfl ?_
                              refine w_iadd dX11_amend_133 ?_
                              refine w_iload_n dX11_amend_134 rfl ?_
                              exfalso
                              omega
                          · skip
                            first
                            | (exfalso; omega)
                            | skip
                              refine w_bipush (v := (-2)) dX11_amend_124 (by decide) ?_
                              refine w_goto (tgt := 138) dX11_amend_126 (by decide) ?_
                              exact w_ireturn dX11_amend_138 rfl (rfl) rfl (⟨rfl, _, _, rfl, FrR.rf⟩)
              · skip
                replace h4 : what.toInt = 2 := (zeq rfl (by decide)).mp h4
                first
                | (exfalso; omega)
                | skip
                  refine w_iload_n dX11_amend_64 rfl ?_
                  refine w_i2l dX11_amend_65 ?_
                  refine w_aload_n dX11_amend_66 rfl ?_
                  refine w_getR (w := some (31, 0, 0)) ff_X11_7 rfl rfl dX11_amend_67 rfl ?_
                  refine w_iload dX11_amend_70 rfl ?_
                  refine w_iconst (v := 1) dX11_amend_72 (by decide) ?_
                  refine w_iadd dX11_amend_73 ?_
                  rw [show ((nI (20 + (7 * c))) + (1) : Int32) = nI ((20 + (7 * c)) + 1) from ar_add (p := 20 + (7 * c)) (q := 1) rfl rfl (by omega)]
                  refine w_iaload (a := (20 + (7 * c)) + 1) rfl (vp_in_nI (n := (20 + (7 * c)) + 1) (by omega) (by omega)) (nI_clamp (n := (20 + (7 * c)) + 1) (by omega)) dX11_amend_74 ?_
                  rw [show (I 31 0 0 ((20 + (7 * c)) + 1) : Int32) = nI (sF a c 1) from hs.2.2.s hcc (f := 1) (by decide) (by decide) (by omega)]
                  refine w_i2l dX11_amend_75 ?_
                  refine w_ldc2 dX11_amend_76 cq_X11_207 ?_
                  refine w_callS (as := [vL ((v : Int32).toInt64), vL ((nI (sF a c 1) : Int32).toInt64), vL (60)]) (st := []) (Tri.mono (d_in ((v : Int32).toInt64) ((nI (sF a c 1) : Int32).toInt64) (60)) (Nat.le_of_ble_eq_true rfl)) tg_X11_in lk_X11_66 sa_X11_in rfl dX11_amend_79 rfl (Nat.le_of_ble_eq_true rfl) (Nat.le_refl _) (Nat.le_refl _) ?_
                  rintro _ _ ⟨rfl, rfl⟩ -
                  refine w_top (y := bI (((sF a c 1 : Nat) : Int) ≤ v.toInt ∧ v.toInt ≤ 60)) (show (bI (((nI (sF a c 1) : Int32).toInt64) ≤ ((v : Int32).toInt64) ∧ ((v : Int32).toInt64) ≤ (60 : Int64)) : Int32) = bI (((sF a c 1 : Nat) : Int) ≤ v.toInt ∧ v.toInt ≤ 60) from inZ (x := v) (l := nI (sF a c 1)) (h := 60) (X := v.toInt) (A := ((sF a c 1 : Nat) : Int)) (B := 60) rfl rfl (by decide) rfl (z_nI (by omega)) (by decide)) ?_
                  refine w_goto (tgt := 107) dX11_amend_82 (by decide) ?_
                  refine w_istore (ls' := [some (vR 30 0 0), some (vI (nI c)), some (vI (what)), some (vI (v)), some (vI (nI (20 + (7 * c)))), some (vI (bI (((sF a c 1 : Nat) : Int) ≤ v.toInt ∧ v.toInt ≤ 60)))]) dX11_amend_107 rfl ?_
                  refine w_iload dX11_amend_109 rfl ?_
                  refine w_ifne_b (tgt := 116) dX11_amend_111 (by decide) (fun h5 => ?_) (fun h5 => ?_)
                  · skip
                    first
                    | (exfalso; omega)
                    | skip
                      refine w_aload_n dX11_amend_116 rfl ?_
                      refine w_iload_n dX11_amend_117 rfl ?_
                      refine w_callV (as := [vI (nI c)]) (st := []) (Tri.mono (d_isHeard hs hw hcc) (Nat.le_of_ble_eq_true rfl)) rfl rfl tg_X11_isHeard lk_X11_218 in_X11_isHeard se_X11_isHeard rfl dX11_amend_118 rfl (Nat.le_of_ble_eq_true rfl) (Nat.le_refl _) (Nat.le_refl _) ?_
                      rintro _ _ ⟨rfl, rfl⟩ -
                      refine w_ifeq_b (tgt := 129) dX11_amend_121 (by decide) (fun h6 => ?_) (fun h6 => ?_)
                      · skip
                        first
                        | (exfalso; omega)
                        | skip
                          refine w_aload_n dX11_amend_129 rfl ?_
                          refine w_iload dX11_amend_130 rfl ?_
                          refine w_iload_n dX11_amend_132 rfl ?_
                          refine w_iadd dX11_amend_133 ?_
                          refine w_iload_n dX11_amend_134 rfl ?_
                          exfalso
                          omega
                      · skip
                        first
                        | (exfalso; omega)
                        | skip
                          refine w_bipush (v := (-2)) dX11_amend_124 (by decide) ?_
                          refine w_goto (tgt := 138) dX11_amend_126 (by decide) ?_
                          exact w_ireturn dX11_amend_138 rfl (rfl) rfl (⟨rfl, _, _, rfl, FrR.rf⟩)
                  · skip
                    first
                    | (exfalso; omega)
                    | skip
                      refine w_iconst (v := (-1)) dX11_amend_114 (by decide) ?_
                      exact w_ireturn dX11_amend_115 rfl (rfl) rfl (⟨rfl, _, _, rfl, FrR.rf⟩)
          · skip
            replace h3 : what.toInt = 1 := (zeq rfl (by decide)).mp h3
            first
            | (exfalso; omega)
            | skip
              refine w_iload_n dX11_amend_40 rfl ?_
              refine w_i2l dX11_amend_41 ?_
              refine w_lconst (v := 1) dX11_amend_42 (by decide) ?_
              refine w_aload_n dX11_amend_43 rfl ?_
              refine w_getR (w := some (31, 0, 0)) ff_X11_7 rfl rfl dX11_amend_44 rfl ?_
              refine w_iload dX11_amend_47 rfl ?_
              refine w_iconst (v := 2) dX11_amend_49 (by decide) ?_
              refine w_iadd dX11_amend_50 ?_
              rw [show ((nI (20 + (7 * c))) + (2) : Int32) = nI ((20 + (7 * c)) + 2) from ar_add (p := 20 + (7 * c)) (q := 2) rfl rfl (by omega)]
              refine w_iaload (a := (20 + (7 * c)) + 2) rfl (vp_in_nI (n := (20 + (7 * c)) + 2) (by omega) (by omega)) (nI_clamp (n := (20 + (7 * c)) + 2) (by omega)) dX11_amend_51 ?_
              rw [show (I 31 0 0 ((20 + (7 * c)) + 2) : Int32) = nI (sF a c 2) from hs.2.2.s hcc (f := 2) (by decide) (by decide) (by omega)]
              refine w_i2l dX11_amend_52 ?_
              refine w_callS (as := [vL ((v : Int32).toInt64), vL (1), vL ((nI (sF a c 2) : Int32).toInt64)]) (st := []) (Tri.mono (d_in ((v : Int32).toInt64) (1) ((nI (sF a c 2) : Int32).toInt64)) (Nat.le_of_ble_eq_true rfl)) tg_X11_in lk_X11_66 sa_X11_in rfl dX11_amend_53 rfl (Nat.le_of_ble_eq_true rfl) (Nat.le_refl _) (Nat.le_refl _) ?_
              rintro _ _ ⟨rfl, rfl⟩ -
              refine w_top (y := bI (1 ≤ v.toInt ∧ v.toInt ≤ ((sF a c 2 : Nat) : Int))) (show (bI ((1 : Int64) ≤ ((v : Int32).toInt64) ∧ ((v : Int32).toInt64) ≤ ((nI (sF a c 2) : Int32).toInt64)) : Int32) = bI (1 ≤ v.toInt ∧ v.toInt ≤ ((sF a c 2 : Nat) : Int)) from inZ (x := v) (l := 1) (h := nI (sF a c 2)) (X := v.toInt) (A := 1) (B := ((sF a c 2 : Nat) : Int)) rfl (by decide) rfl rfl (by decide) (z_nI (by omega))) ?_
              refine w_goto (tgt := 107) dX11_amend_56 (by decide) ?_
              refine w_istore (ls' := [some (vR 30 0 0), some (vI (nI c)), some (vI (what)), some (vI (v)), some (vI (nI (20 + (7 * c)))), some (vI (bI (1 ≤ v.toInt ∧ v.toInt ≤ ((sF a c 2 : Nat) : Int))))]) dX11_amend_107 rfl ?_
              refine w_iload dX11_amend_109 rfl ?_
              refine w_ifne_b (tgt := 116) dX11_amend_111 (by decide) (fun h4 => ?_) (fun h4 => ?_)
              · skip
                first
                | (exfalso; omega)
                | skip
                  refine w_aload_n dX11_amend_116 rfl ?_
                  refine w_iload_n dX11_amend_117 rfl ?_
                  refine w_callV (as := [vI (nI c)]) (st := []) (Tri.mono (d_isHeard hs hw hcc) (Nat.le_of_ble_eq_true rfl)) rfl rfl tg_X11_isHeard lk_X11_218 in_X11_isHeard se_X11_isHeard rfl dX11_amend_118 rfl (Nat.le_of_ble_eq_true rfl) (Nat.le_refl _) (Nat.le_refl _) ?_
                  rintro _ _ ⟨rfl, rfl⟩ -
                  refine w_ifeq_b (tgt := 129) dX11_amend_121 (by decide) (fun h5 => ?_) (fun h5 => ?_)
                  · skip
                    first
                    | (exfalso; omega)
                    | skip
                      refine w_aload_n dX11_amend_129 rfl ?_
                      refine w_iload dX11_amend_130 rfl ?_
                      refine w_iload_n dX11_amend_132 rfl ?_
                      refine w_iadd dX11_amend_133 ?_
                      refine w_iload_n dX11_amend_134 rfl ?_
                      exfalso
                      omega
                  · skip
                    first
                    | (exfalso; omega)
                    | skip
                      refine w_bipush (v := (-2)) dX11_amend_124 (by decide) ?_
                      refine w_goto (tgt := 138) dX11_amend_126 (by decide) ?_
                      exact w_ireturn dX11_amend_138 rfl (rfl) rfl (⟨rfl, _, _, rfl, FrR.rf⟩)
              · skip
                first
                | (exfalso; omega)
                | skip
                  refine w_iconst (v := (-1)) dX11_amend_114 (by decide) ?_
                  exact w_ireturn dX11_amend_115 rfl (rfl) rfl (⟨rfl, _, _, rfl, FrR.rf⟩)
      · skip
        replace h2 : what.toInt = 0 := (zeq rfl (by decide)).mp h2
        first
        | (exfalso; omega)
        | skip
          refine w_iload_n dX11_amend_23 rfl ?_
          refine w_i2l dX11_amend_24 ?_
          refine w_lconst (v := 0) dX11_amend_25 (by decide) ?_
          refine w_ldc2 dX11_amend_26 cq_X11_209 ?_
          refine w_callS (as := [vL ((v : Int32).toInt64), vL (0), vL (3)]) (st := []) (Tri.mono (d_in ((v : Int32).toInt64) (0) (3)) (Nat.le_of_ble_eq_true rfl)) tg_X11_in lk_X11_66 sa_X11_in rfl dX11_amend_29 rfl (Nat.le_of_ble_eq_true rfl) (Nat.le_refl _) (Nat.le_refl _) ?_
          rintro _ _ ⟨rfl, rfl⟩ -
          refine w_top (y := bI (0 ≤ v.toInt ∧ v.toInt ≤ 3)) (show (bI ((0 : Int64) ≤ ((v : Int32).toInt64) ∧ ((v : Int32).toInt64) ≤ (3 : Int64)) : Int32) = bI (0 ≤ v.toInt ∧ v.toInt ≤ 3) from inZ (x := v) (l := 0) (h := 3) (X := v.toInt) (A := 0) (B := 3) rfl (by decide) (by decide) rfl (by decide) (by decide)) ?_
          refine w_goto (tgt := 107) dX11_amend_32 (by decide) ?_
          refine w_istore (ls' := [some (vR 30 0 0), some (vI (nI c)), some (vI (what)), some (vI (v)), some (vI (nI (20 + (7 * c)))), some (vI (bI (0 ≤ v.toInt ∧ v.toInt ≤ 3)))]) dX11_amend_107 rfl ?_
          refine w_iload dX11_amend_109 rfl ?_
          refine w_ifne_b (tgt := 116) dX11_amend_111 (by decide) (fun h3 => ?_) (fun h3 => ?_)
          · skip
            first
            | (exfalso; omega)
            | skip
              refine w_aload_n dX11_amend_116 rfl ?_
              refine w_iload_n dX11_amend_117 rfl ?_
              refine w_callV (as := [vI (nI c)]) (st := []) (Tri.mono (d_isHeard hs hw hcc) (Nat.le_of_ble_eq_true rfl)) rfl rfl tg_X11_isHeard lk_X11_218 in_X11_isHeard se_X11_isHeard rfl dX11_amend_118 rfl (Nat.le_of_ble_eq_true rfl) (Nat.le_refl _) (Nat.le_refl _) ?_
              rintro _ _ ⟨rfl, rfl⟩ -
              refine w_ifeq_b (tgt := 129) dX11_amend_121 (by decide) (fun h4 => ?_) (fun h4 => ?_)
              · skip
                first
                | (exfalso; omega)
                | skip
                  refine w_aload_n dX11_amend_129 rfl ?_
                  refine w_iload dX11_amend_130 rfl ?_
                  refine w_iload_n dX11_amend_132 rfl ?_
                  refine w_iadd dX11_amend_133 ?_
                  refine w_iload_n dX11_amend_134 rfl ?_
                  exfalso
                  omega
              · skip
                first
                | (exfalso; omega)
                | skip
                  refine w_bipush (v := (-2)) dX11_amend_124 (by decide) ?_
                  refine w_goto (tgt := 138) dX11_amend_126 (by decide) ?_
                  exact w_ireturn dX11_amend_138 rfl (rfl) rfl (⟨rfl, _, _, rfl, FrR.rf⟩)
          · skip
            first
            | (exfalso; omega)
            | skip
              refine w_iconst (v := (-1)) dX11_amend_114 (by decide) ?_
              exact w_ireturn dX11_amend_115 rfl (rfl) rfl (⟨rfl, _, _, rfl, FrR.rf⟩)
  · skip
    first
    | (exfalso; omega)
    | skip
      refine w_iconst (v := (-1)) dX11_amend_8 (by decide) ?_
      exact w_ireturn dX11_amend_9 rfl (rfl) rfl (⟨rfl, _, _, rfl, FrR.rf⟩)

theorem p_amend_o {I : xF4 Int32} {L : xF4 Int64} {a : aA} (hc : CourtIs I 0 a) (hw : WF a) {c what v : Int32} (hx : c.toInt < 0 ∨ ((nC a : Nat) : Int) ≤ c.toInt) : Tri 19 109 m_X10_amend [vR 0 0 0, vI (c), vI (what), vI (v)] (rM I L) (pCq (vI (-1)) I) := by
  refine ⟨k_X10_amend, Nat.le_of_ble_eq_true rfl, ?_⟩
  show Wp _ _ _ 0 [some (vR 0 0 0), some (vI (c)), some (vI (what)), some (vI (v)), none] [] (rM I L) _
  obtain ⟨hJ, hC, hG, hD, hR, -⟩ := id hw
  refine w_aload_n dX10_amend_0 rfl ?_
  refine w_getR (w := some (1, 0, 0)) ff_X10_10 rfl rfl dX10_amend_1 rfl ?_
  refine w_iload_n dX10_amend_4 rfl ?_
  refine w_callV (as := [vI (c)]) (st := []) (Tri.mono (c_sAtO hc hw (z_out (by omega) hx)) (Nat.le_of_ble_eq_true rfl)) rfl rfl tg_X1_suitAt lk_X10_136 in_X1_suitAt se_X1_suitAt rfl dX10_amend_5 rfl (Nat.le_of_ble_eq_true rfl) (Nat.le_refl _) (Nat.le_refl _) ?_
  rintro _ _ ⟨rfl, rfl⟩ -
  refine w_astore (ls' := [some (vR 0 0 0), some (vI (c)), some (vI (what)), some (vI (v)), some (vN)]) dX10_amend_8 rfl ?_
  refine w_aload dX10_amend_10 rfl ?_
  refine w_ifnull (tgt := 25) dX10_amend_12 (by decide) (fun _ => ?_) (fun _ h => by cases h)
  refine w_iconst (v := (-1)) dX10_amend_25 (by decide) ?_
  exact w_ireturn dX10_amend_26 rfl (rfl) rfl (⟨rfl, _, _, rfl, FrQ.rf⟩)

theorem q_amend_o {I : xF4 Int32} {L : xF4 Int64} {a : aA} (hs : SI I a) (hw : WF a) {c what v : Int32} (hx : c.toInt < 0 ∨ ((nC a : Nat) : Int) ≤ c.toInt) : Tri 19 109 m_X11_amend [vR 30 0 0, vI (c), vI (what), vI (v)] (rM I L) (pMq (vI (-1)) I) := by
  refine ⟨k_X11_amend, Nat.le_of_ble_eq_true rfl, ?_⟩
  show Wp _ _ _ 0 [some (vR 30 0 0), some (vI (c)), some (vI (what)), some (vI (v)), none, none] [] (rM I L) _
  obtain ⟨hJ, hC, hG, hD, hR, -⟩ := id hw
  refine w_aload_n dX11_amend_0 rfl ?_
  refine w_iload_n dX11_amend_1 rfl ?_
  refine w_callV (as := [vI (c)]) (st := []) (Tri.mono (d_isCase (hs.2.1) (by omega) (x := c) (X := c.toInt) rfl) (Nat.le_of_ble_eq_true rfl)) rfl rfl tg_X11_isCase lk_X11_204 in_X11_isCase se_X11_isCase rfl dX11_amend_2 rfl (Nat.le_of_ble_eq_true rfl) (Nat.le_refl _) (Nat.le_refl _) ?_
  rintro _ _ ⟨rfl, rfl⟩ -
  refine w_ifne_b (tgt := 10) dX11_amend_5 (by decide) (fun h1 => ?_) (fun h1 => ?_)
  · skip
    first
    | (exfalso; omega)
    | skip
      exfalso
      omega
  · skip
    first
    | (exfalso; omega)
    | skip
      refine w_iconst (v := (-1)) dX11_amend_8 (by decide) ?_
      exact w_ireturn dX11_amend_9 rfl (rfl) rfl (⟨rfl, _, _, rfl, FrR.rf⟩)

theorem p_crime {I : xF4 Int32} {L : xF4 Int64} {a : aA} (hc : CourtIs I 0 a) (hw : WF a) {v : Nat} (hv : v ≤ 99) : Tri 19 109 m_X10_crime [vR 0 0 0, vI (nI v)] (rM I L) (pCc (nI (cR a)) (crimN a v) I) := by
  refine ⟨k_X10_crime, Nat.le_of_ble_eq_true rfl, ?_⟩
  show Wp _ _ _ 0 [some (vR 0 0 0), some (vI (nI v)), none] [] (rM I L) _
  obtain ⟨hJ, hC, hG, hD, hR, -⟩ := id hw
  refine w_iload_n dX10_crime_0 rfl ?_
  refine w_iconst (v := 0) dX10_crime_1 (by decide) ?_
  refine w_bipush (v := 99) dX10_crime_2 (by decide) ?_
  refine w_callS (as := [vI (nI v), vI (0), vI (99)]) (st := []) (Tri.mono (c_X10_within (nI v) (0) (99)) (Nat.le_of_ble_eq_true rfl)) tg_X10_within lk_X10_158 sa_X10_within rfl dX10_crime_4 rfl (Nat.le_of_ble_eq_true rfl) (Nat.le_refl _) (Nat.le_refl _) ?_
  rintro _ _ ⟨rfl, rfl⟩ -
  refine w_top (y := bI (0 ≤ ((v : Nat) : Int) ∧ ((v : Nat) : Int) ≤ 99)) (show (bI ((0 : Int32) ≤ (nI v) ∧ (nI v) ≤ (99 : Int32)) : Int32) = bI (0 ≤ ((v : Nat) : Int) ∧ ((v : Nat) : Int) ≤ 99) from wiZ (X := ((v : Nat) : Int)) (A := 0) (B := 99) (z_nI (by omega)) (by decide) (by decide)) ?_
  refine w_ifne_b (tgt := 12) dX10_crime_7 (by decide) (fun h1 => ?_) (fun h1 => ?_)
  · skip
    first
    | (exfalso; omega)
    | skip
      refine w_aload_n dX10_crime_12 rfl ?_
      refine w_getR (w := some (1, 0, 0)) ff_X10_10 rfl rfl dX10_crime_13 rfl ?_
      refine w_getI ff_X10_98 rfl rfl dX10_crime_16 ?_
      rw [show (I 1 0 0 7 : Int32) = nI (cR a) from hc.2.2.2.2.1]
      refine w_istore_n (ls' := [some (vR 0 0 0), some (vI (nI v)), some (vI (nI (cR a)))]) dX10_crime_19 rfl ?_
      refine w_aload_n dX10_crime_20 rfl ?_
      refine w_getR (w := some (1, 0, 0)) ff_X10_10 rfl rfl dX10_crime_21 rfl ?_
      refine w_iload_n dX10_crime_24 rfl ?_
      refine w_putI ff_X10_98 rfl rfl rfl rfl dX10_crime_25 ?_
      refine w_iload_n dX10_crime_28 rfl ?_
      exact w_ireturn dX10_crime_29 rfl (rfl) rfl (⟨rfl, _, _, rfl, hc.upCr v, FrC.up (by decide)⟩)
  · skip
    first
    | (exfalso; omega)
    | skip
      refine w_iconst (v := (-1)) dX10_crime_10 (by decide) ?_
      exact w_ireturn dX10_crime_11 rfl (rfl) rfl (⟨rfl, _, _, rfl, hc.upCr v, FrC.up (by decide)⟩)

theorem q_crime {I : xF4 Int32} {L : xF4 Int64} {a : aA} (hs : SI I a) (hw : WF a) {v : Nat} (hv : v ≤ 99) : Tri 19 109 m_X11_crime [vR 30 0 0, vI (nI v)] (rM I L) (pMc (nI (cR a)) (crimN a v) I) := by
  refine ⟨k_X11_crime, Nat.le_of_ble_eq_true rfl, ?_⟩
  show Wp _ _ _ 0 [some (vR 30 0 0), some (vI (nI v))] [] (rM I L) _
  obtain ⟨hJ, hC, hG, hD, hR, -⟩ := id hw
  refine w_iload_n dX11_crime_0 rfl ?_
  refine w_i2l dX11_crime_1 ?_
  refine w_lconst (v := 0) dX11_crime_2 (by decide) ?_
  refine w_ldc2 dX11_crime_3 cq_X11_213 ?_
  refine w_callS (as := [vL ((nI v : Int32).toInt64), vL (0), vL (99)]) (st := []) (Tri.mono (d_in ((nI v : Int32).toInt64) (0) (99)) (Nat.le_of_ble_eq_true rfl)) tg_X11_in lk_X11_66 sa_X11_in rfl dX11_crime_6 rfl (Nat.le_of_ble_eq_true rfl) (Nat.le_refl _) (Nat.le_refl _) ?_
  rintro _ _ ⟨rfl, rfl⟩ -
  refine w_top (y := bI (0 ≤ ((v : Nat) : Int) ∧ ((v : Nat) : Int) ≤ 99)) (show (bI ((0 : Int64) ≤ ((nI v : Int32).toInt64) ∧ ((nI v : Int32).toInt64) ≤ (99 : Int64)) : Int32) = bI (0 ≤ ((v : Nat) : Int) ∧ ((v : Nat) : Int) ≤ 99) from inZ (x := nI v) (l := 0) (h := 99) (X := ((v : Nat) : Int)) (A := 0) (B := 99) rfl (by decide) (by decide) (z_nI (by omega)) (by decide) (by decide)) ?_
  refine w_ifeq_b (tgt := 22) dX11_crime_9 (by decide) (fun h1 => ?_) (fun h1 => ?_)
  · skip
    first
    | (exfalso; omega)
    | skip
      refine w_iconst (v := (-1)) dX11_crime_22 (by decide) ?_
      exact w_ireturn dX11_crime_23 rfl (rfl) rfl (⟨rfl, _, _, rfl, hs.up (upCr2 hs.2.2 hJ hC rfl v) rfl rfl, FrW.up (by omega)⟩)
  · skip
    first
    | (exfalso; omega)
    | skip
      refine w_aload_n dX11_crime_12 rfl ?_
      refine w_bipush (v := 56) dX11_crime_13 (by decide) ?_
      refine w_iload_n dX11_crime_15 rfl ?_
      refine w_callV (as := [vI (56), vI (nI v)]) (st := []) (Tri.mono (d_becomes (k := 56) (v := v) (by omega)) (Nat.le_of_ble_eq_true rfl)) rfl rfl tg_X11_becomes lk_X11_215 in_X11_becomes se_X11_becomes rfl dX11_crime_16 rfl (Nat.le_of_ble_eq_true rfl) (Nat.le_refl _) (Nat.le_refl _) ?_
      rintro _ _ ⟨rfl, rfl⟩ -
      refine w_top (y := nI (cR a)) (show (I 31 0 0 (56) : Int32) = nI (cR a) from hs.2.2.cr rfl) ?_
      refine w_goto (tgt := 23) dX11_crime_19 (by decide) ?_
      exact w_ireturn dX11_crime_23 rfl (rfl) rfl (⟨rfl, _, _, rfl, hs.up (upCr2 hs.2.2 hJ hC rfl v) rfl rfl, FrW.up (by omega)⟩)

theorem p_crime_v {I : xF4 Int32} {L : xF4 Int64} {a : aA} (hc : CourtIs I 0 a) (hw : WF a) {v : Int32} (hx : v.toInt < 0 ∨ 99 < v.toInt) : Tri 19 109 m_X10_crime [vR 0 0 0, vI (v)] (rM I L) (pCq (vI (-1)) I) := by
  refine ⟨k_X10_crime, Nat.le_of_ble_eq_true rfl, ?_⟩
  show Wp _ _ _ 0 [some (vR 0 0 0), some (vI (v)), none] [] (rM I L) _
  obtain ⟨hJ, hC, hG, hD, hR, -⟩ := id hw
  refine w_iload_n dX10_crime_0 rfl ?_
  refine w_iconst (v := 0) dX10_crime_1 (by decide) ?_
  refine w_bipush (v := 99) dX10_crime_2 (by decide) ?_
  refine w_callS (as := [vI (v), vI (0), vI (99)]) (st := []) (Tri.mono (c_X10_within (v) (0) (99)) (Nat.le_of_ble_eq_true rfl)) tg_X10_within lk_X10_158 sa_X10_within rfl dX10_crime_4 rfl (Nat.le_of_ble_eq_true rfl) (Nat.le_refl _) (Nat.le_refl _) ?_
  rintro _ _ ⟨rfl, rfl⟩ -
  refine w_top (y := bI (0 ≤ v.toInt ∧ v.toInt ≤ 99)) (show (bI ((0 : Int32) ≤ (v) ∧ (v) ≤ (99 : Int32)) : Int32) = bI (0 ≤ v.toInt ∧ v.toInt ≤ 99) from wiZ (X := v.toInt) (A := 0) (B := 99) rfl (by decide) (by decide)) ?_
  refine w_ifne_b (tgt := 12) dX10_crime_7 (by decide) (fun h1 => ?_) (fun h1 => ?_)
  · skip
    first
    | (exfalso; omega)
    | skip
      exfalso
      omega
  · skip
    first
    | (exfalso; omega)
    | skip
      refine w_iconst (v := (-1)) dX10_crime_10 (by decide) ?_
      exact w_ireturn dX10_crime_11 rfl (rfl) rfl (⟨rfl, _, _, rfl, FrQ.rf⟩)

theorem q_crime_v {I : xF4 Int32} {L : xF4 Int64} {a : aA} (hs : SI I a) (hw : WF a) {v : Int32} (hx : v.toInt < 0 ∨ 99 < v.toInt) : Tri 19 109 m_X11_crime [vR 30 0 0, vI (v)] (rM I L) (pMq (vI (-1)) I) := by
  refine ⟨k_X11_crime, Nat.le_of_ble_eq_true rfl, ?_⟩
  show Wp _ _ _ 0 [some (vR 30 0 0), some (vI (v))] [] (rM I L) _
  obtain ⟨hJ, hC, hG, hD, hR, -⟩ := id hw
  refine w_iload_n dX11_crime_0 rfl ?_
  refine w_i2l dX11_crime_1 ?_
  refine w_lconst (v := 0) dX11_crime_2 (by decide) ?_
  refine w_ldc2 dX11_crime_3 cq_X11_213 ?_
  refine w_callS (as := [vL ((v : Int32).toInt64), vL (0), vL (99)]) (st := []) (Tri.mono (d_in ((v : Int32).toInt64) (0) (99)) (Nat.le_of_ble_eq_true rfl)) tg_X11_in lk_X11_66 sa_X11_in rfl dX11_crime_6 rfl (Nat.le_of_ble_eq_true rfl) (Nat.le_refl _) (Nat.le_refl _) ?_
  rintro _ _ ⟨rfl, rfl⟩ -
  refine w_top (y := bI (0 ≤ v.toInt ∧ v.toInt ≤ 99)) (show (bI ((0 : Int64) ≤ ((v : Int32).toInt64) ∧ ((v : Int32).toInt64) ≤ (99 : Int64)) : Int32) = bI (0 ≤ v.toInt ∧ v.toInt ≤ 99) from inZ (x := v) (l := 0) (h := 99) (X := v.toInt) (A := 0) (B := 99) rfl (by decide) (by decide) rfl (by decide) (by decide)) ?_
  refine w_ifeq_b (tgt := 22) dX11_crime_9 (by decide) (fun h1 => ?_) (fun h1 => ?_)
  · skip
    first
    | (exfalso; omega)
    | skip
      refine w_iconst (v := (-1)) dX11_crime_22 (by decide) ?_
      exact w_ireturn dX11_crime_23 rfl (rfl) rfl (⟨rfl, _, _, rfl, FrR.rf⟩)
  · skip
    first
    | (exfalso; omega)
    | skip
      refine w_aload_n dX11_crime_12 rfl ?_
      refine w_bipush (v := 56) dX11_crime_13 (by decide) ?_
      refine w_iload_n dX11_crime_15 rfl ?_
      exfalso
      omega

theorem p_forget {I : xF4 Int32} {L : xF4 Int64} {a : aA} (hc : CourtIs I 0 a) (hw : WF a) {n : Nat} (hn : n ≤ nG a) : Tri 19 109 m_X10_forget [vR 0 0 0, vI (nI n)] (rM I L) (pCc (nI (nG a)) (forgN a n) I) := by
  refine ⟨k_X10_forget, Nat.le_of_ble_eq_true rfl, ?_⟩
  show Wp _ _ _ 0 [some (vR 0 0 0), some (vI (nI n)), none] [] (rM I L) _
  obtain ⟨hJ, hC, hG, hD, hR, -⟩ := id hw
  refine w_aload_n dX10_forget_0 rfl ?_
  refine w_getR (w := some (1, 0, 0)) ff_X10_10 rfl rfl dX10_forget_1 rfl ?_
  refine w_getI ff_X10_270 rfl rfl dX10_forget_4 ?_
  rw [show (I 1 0 0 5 : Int32) = nI (nG a) from hc.2.2.1]
  refine w_istore_n (ls' := [some (vR 0 0 0), some (vI (nI n)), some (vI (nI (nG a)))]) dX10_forget_7 rfl ?_
  refine w_iload_n dX10_forget_8 rfl ?_
  refine w_if_lt (tgt := 17) dX10_forget_9 (by decide) (fun h1 => ?_) (fun h1 => ?_)
  · skip
    replace h1 : ((n : Nat) : Int) < 0 := (zlt (z_nI (by omega)) (by decide)).mp h1
    first
    | (exfalso; omega)
    | skip
      refine w_iconst (v := (-1)) dX10_forget_17 (by decide) ?_
      exact w_ireturn dX10_forget_18 rfl (rfl) rfl (⟨rfl, _, _, rfl, hc.forg hn, FrC.up (by decide)⟩)
  · skip
    replace h1 : ¬ (((n : Nat) : Int) < 0) := fun q => h1 ((zlt (z_nI (by omega)) (by decide)).mpr q)
    first
    | (exfalso; omega)
    | skip
      refine w_iload_n dX10_forget_12 rfl ?_
      refine w_iload_n dX10_forget_13 rfl ?_
      refine w_icmp_le (tgt := 19) dX10_forget_14 (by decide) (fun h2 => ?_) (fun h2 => ?_)
      · skip
        replace h2 : ((n : Nat) : Int) ≤ ((nG a : Nat) : Int) := (zle (z_nI (by omega)) (z_nI (by omega))).mp h2
        first
        | (exfalso; omega)
        | skip
          refine w_aload_n dX10_forget_19 rfl ?_
          refine w_getR (w := some (1, 0, 0)) ff_X10_10 rfl rfl dX10_forget_20 rfl ?_
          refine w_iload_n dX10_forget_23 rfl ?_
          refine w_putI ff_X10_270 rfl rfl rfl rfl dX10_forget_24 ?_
          refine w_iload_n dX10_forget_27 rfl ?_
          exact w_ireturn dX10_forget_28 rfl (rfl) rfl (⟨rfl, _, _, rfl, hc.forg hn, FrC.up (by decide)⟩)
      · skip
        replace h2 : ¬ (((n : Nat) : Int) ≤ ((nG a : Nat) : Int)) := fun q => h2 ((zle (z_nI (by omega)) (z_nI (by omega))).mpr q)
        first
        | (exfalso; omega)
        | skip
          refine w_iconst (v := (-1)) dX10_forget_17 (by decide) ?_
          exact w_ireturn dX10_forget_18 rfl (rfl) rfl (⟨rfl, _, _, rfl, hc.forg hn, FrC.up (by decide)⟩)

theorem q_forget {I : xF4 Int32} {L : xF4 Int64} {a : aA} (hs : SI I a) (hw : WF a) {n : Nat} (hn : n ≤ nG a) : Tri 19 109 m_X11_forget [vR 30 0 0, vI (nI n)] (rM I L) (pMc (nI (nG a)) (forgN a n) I) := by
  refine ⟨k_X11_forget, Nat.le_of_ble_eq_true rfl, ?_⟩
  show Wp _ _ _ 0 [some (vR 30 0 0), some (vI (nI n))] [] (rM I L) _
  obtain ⟨hJ, hC, hG, hD, hR, -⟩ := id hw
  refine w_iload_n dX11_forget_0 rfl ?_
  refine w_i2l dX11_forget_1 ?_
  refine w_lconst (v := 0) dX11_forget_2 (by decide) ?_
  refine w_aload_n dX11_forget_3 rfl ?_
  refine w_getR (w := some (31, 0, 0)) ff_X11_7 rfl rfl dX11_forget_4 rfl ?_
  refine w_bipush (v := 57) dX11_forget_7 (by decide) ?_
  refine w_iaload (a := 57) rfl (vp_in_nI (n := 57) (by omega) (by omega)) (nI_clamp (n := 57) (by omega)) dX11_forget_9 ?_
  rw [show (I 31 0 0 (57) : Int32) = nI (nG a) from hs.2.2.ng rfl]
  refine w_i2l dX11_forget_10 ?_
  refine w_callS (as := [vL ((nI n : Int32).toInt64), vL (0), vL ((nI (nG a) : Int32).toInt64)]) (st := []) (Tri.mono (d_in ((nI n : Int32).toInt64) (0) ((nI (nG a) : Int32).toInt64)) (Nat.le_of_ble_eq_true rfl)) tg_X11_in lk_X11_66 sa_X11_in rfl dX11_forget_11 rfl (Nat.le_of_ble_eq_true rfl) (Nat.le_refl _) (Nat.le_refl _) ?_
  rintro _ _ ⟨rfl, rfl⟩ -
  refine w_top (y := bI (0 ≤ ((n : Nat) : Int) ∧ ((n : Nat) : Int) ≤ ((nG a : Nat) : Int))) (show (bI ((0 : Int64) ≤ ((nI n : Int32).toInt64) ∧ ((nI n : Int32).toInt64) ≤ ((nI (nG a) : Int32).toInt64)) : Int32) = bI (0 ≤ ((n : Nat) : Int) ∧ ((n : Nat) : Int) ≤ ((nG a : Nat) : Int)) from inZ (x := nI n) (l := 0) (h := nI (nG a)) (X := ((n : Nat) : Int)) (A := 0) (B := ((nG a : Nat) : Int)) rfl (by decide) rfl (z_nI (by omega)) (by decide) (z_nI (by omega))) ?_
  refine w_ifeq_b (tgt := 27) dX11_forget_14 (by decide) (fun h1 => ?_) (fun h1 => ?_)
  · skip
    first
    | (exfalso; omega)
    | skip
      refine w_iconst (v := (-1)) dX11_forget_27 (by decide) ?_
      exact w_ireturn dX11_forget_28 rfl (rfl) rfl (⟨rfl, _, _, rfl, hs.up (hs.2.2.forg hw hn rfl) rfl rfl, FrW.up (by omega)⟩)
  · skip
    first
    | (exfalso; omega)
    | skip
      refine w_aload_n dX11_forget_17 rfl ?_
      refine w_bipush (v := 57) dX11_forget_18 (by decide) ?_
      refine w_iload_n dX11_forget_20 rfl ?_
      refine w_callV (as := [vI (57), vI (nI n)]) (st := []) (Tri.mono (d_becomes (k := 57) (v := n) (by omega)) (Nat.le_of_ble_eq_true rfl)) rfl rfl tg_X11_becomes lk_X11_215 in_X11_becomes se_X11_becomes rfl dX11_forget_21 rfl (Nat.le_of_ble_eq_true rfl) (Nat.le_refl _) (Nat.le_refl _) ?_
      rintro _ _ ⟨rfl, rfl⟩ -
      refine w_top (y := nI (nG a)) (show (I 31 0 0 (57) : Int32) = nI (nG a) from hs.2.2.ng rfl) ?_
      refine w_goto (tgt := 28) dX11_forget_24 (by decide) ?_
      exact w_ireturn dX11_forget_28 rfl (rfl) rfl (⟨rfl, _, _, rfl, hs.up (hs.2.2.forg hw hn rfl) rfl rfl, FrW.up (by omega)⟩)

theorem p_forget_n {I : xF4 Int32} {L : xF4 Int64} {a : aA} (hc : CourtIs I 0 a) (hw : WF a) {n : Int32} (hx : n.toInt < 0 ∨ ((nG a : Nat) : Int) < n.toInt) : Tri 19 109 m_X10_forget [vR 0 0 0, vI (n)] (rM I L) (pCq (vI (-1)) I) := by
  refine ⟨k_X10_forget, Nat.le_of_ble_eq_true rfl, ?_⟩
  show Wp _ _ _ 0 [some (vR 0 0 0), some (vI (n)), none] [] (rM I L) _
  obtain ⟨hJ, hC, hG, hD, hR, -⟩ := id hw
  refine w_aload_n dX10_forget_0 rfl ?_
  refine w_getR (w := some (1, 0, 0)) ff_X10_10 rfl rfl dX10_forget_1 rfl ?_
  refine w_getI ff_X10_270 rfl rfl dX10_forget_4 ?_
  rw [show (I 1 0 0 5 : Int32) = nI (nG a) from hc.2.2.1]
  refine w_istore_n (ls' := [some (vR 0 0 0), some (vI (n)), some (vI (nI (nG a)))]) dX10_forget_7 rfl ?_
  refine w_iload_n dX10_forget_8 rfl ?_
  refine w_if_lt (tgt := 17) dX10_forget_9 (by decide) (fun h1 => ?_) (fun h1 => ?_)
  · skip
    replace h1 : n.toInt < 0 := (zlt rfl (by decide)).mp h1
    first
    | (exfalso; omega)
    | skip
      refine w_iconst (v := (-1)) dX10_forget_17 (by decide) ?_
      exact w_ireturn dX10_forget_18 rfl (rfl) rfl (⟨rfl, _, _, rfl, FrQ.rf⟩)
  · skip
    replace h1 : ¬ (n.toInt < 0) := fun q => h1 ((zlt rfl (by decide)).mpr q)
    first
    | (exfalso; omega)
    | skip
      refine w_iload_n dX10_forget_12 rfl ?_
      refine w_iload_n dX10_forget_13 rfl ?_
      refine w_icmp_le (tgt := 19) dX10_forget_14 (by decide) (fun h2 => ?_) (fun h2 => ?_)
      · skip
        replace h2 : n.toInt ≤ ((nG a : Nat) : Int) := (zle rfl (z_nI (by omega))).mp h2
        first
        | (exfalso; omega)
        | skip
          exfalso
          omega
      · skip
        replace h2 : ¬ (n.toInt ≤ ((nG a : Nat) : Int)) := fun q => h2 ((zle rfl (z_nI (by omega))).mpr q)
        first
        | (exfalso; omega)
        | skip
          refine w_iconst (v := (-1)) dX10_forget_17 (by decide) ?_
          exact w_ireturn dX10_forget_18 rfl (rfl) rfl (⟨rfl, _, _, rfl, FrQ.rf⟩)

theorem q_forget_n {I : xF4 Int32} {L : xF4 Int64} {a : aA} (hs : SI I a) (hw : WF a) {n : Int32} (hx : n.toInt < 0 ∨ ((nG a : Nat) : Int) < n.toInt) : Tri 19 109 m_X11_forget [vR 30 0 0, vI (n)] (rM I L) (pMq (vI (-1)) I) := by
  refine ⟨k_X11_forget, Nat.le_of_ble_eq_true rfl, ?_⟩
  show Wp _ _ _ 0 [some (vR 30 0 0), some (vI (n))] [] (rM I L) _
  obtain ⟨hJ, hC, hG, hD, hR, -⟩ := id hw
  refine w_iload_n dX11_forget_0 rfl ?_
  refine w_i2l dX11_forget_1 ?_
  refine w_lconst (v := 0) dX11_forget_2 (by decide) ?_
  refine w_aload_n dX11_forget_3 rfl ?_
  refine w_getR (w := some (31, 0, 0)) ff_X11_7 rfl rfl dX11_forget_4 rfl ?_
  refine w_bipush (v := 57) dX11_forget_7 (by decide) ?_
  refine w_iaload (a := 57) rfl (vp_in_nI (n := 57) (by omega) (by omega)) (nI_clamp (n := 57) (by omega)) dX11_forget_9 ?_
  rw [show (I 31 0 0 (57) : Int32) = nI (nG a) from hs.2.2.ng rfl]
  refine w_i2l dX11_forget_10 ?_
  refine w_callS (as := [vL ((n : Int32).toInt64), vL (0), vL ((nI (nG a) : Int32).toInt64)]) (st := []) (Tri.mono (d_in ((n : Int32).toInt64) (0) ((nI (nG a) : Int32).toInt64)) (Nat.le_of_ble_eq_true rfl)) tg_X11_in lk_X11_66 sa_X11_in rfl dX11_forget_11 rfl (Nat.le_of_ble_eq_true rfl) (Nat.le_refl _) (Nat.le_refl _) ?_
  rintro _ _ ⟨rfl, rfl⟩ -
  refine w_top (y := bI (0 ≤ n.toInt ∧ n.toInt ≤ ((nG a : Nat) : Int))) (show (bI ((0 : Int64) ≤ ((n : Int32).toInt64) ∧ ((n : Int32).toInt64) ≤ ((nI (nG a) : Int32).toInt64)) : Int32) = bI (0 ≤ n.toInt ∧ n.toInt ≤ ((nG a : Nat) : Int)) from inZ (x := n) (l := 0) (h := nI (nG a)) (X := n.toInt) (A := 0) (B := ((nG a : Nat) : Int)) rfl (by decide) rfl rfl (by decide) (z_nI (by omega))) ?_
  refine w_ifeq_b (tgt := 27) dX11_forget_14 (by decide) (fun h1 => ?_) (fun h1 => ?_)
  · skip
    first
    | (exfalso; omega)
    | skip
      refine w_iconst (v := (-1)) dX11_forget_27 (by decide) ?_
      exact w_ireturn dX11_forget_28 rfl (rfl) rfl (⟨rfl, _, _, rfl, FrR.rf⟩)
  · skip
    first
    | (exfalso; omega)
    | skip
      refine w_aload_n dX11_forget_17 rfl ?_
      refine w_bipush (v := 57) dX11_forget_18 (by decide) ?_
      refine w_iload_n dX11_forget_20 rfl ?_
      exfalso
      omega
