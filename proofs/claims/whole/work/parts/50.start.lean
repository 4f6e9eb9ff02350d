/-! the law from its entry (by wip/whole/gen/g50.py) -/
theorem ib_X0 : Cond.instantiable RX0 1 ∈ xTbl := xTbl_in (List.mem_of_getElem? (i := 350) (by decide +kernel)) rfl
theorem ib_X1 : Cond.instantiable RX1 8 ∈ xTbl := xTbl_in (List.mem_of_getElem? (i := 94) (by decide +kernel)) rfl
theorem ib_X2 : Cond.instantiable RX2 6 ∈ xTbl := xTbl_in (List.mem_of_getElem? (i := 299) (by decide +kernel)) rfl
theorem ib_X3 : Cond.instantiable RX3 2 ∈ xTbl := xTbl_in (List.mem_of_getElem? (i := 244) (by decide +kernel)) rfl
theorem ib_X4 : Cond.instantiable RX4 5 ∈ xTbl := xTbl_in (List.mem_of_getElem? (i := 101) (by decide +kernel)) rfl
theorem ib_X5 : Cond.instantiable RX5 4 ∈ xTbl := xTbl_in (List.mem_of_getElem? (i := 329) (by decide +kernel)) rfl
theorem ib_X6 : Cond.instantiable RX6 4 ∈ xTbl := xTbl_in (List.mem_of_getElem? (i := 361) (by decide +kernel)) rfl
theorem ib_X7 : Cond.instantiable RX7 3 ∈ xTbl := xTbl_in (List.mem_of_getElem? (i := 178) (by decide +kernel)) rfl
theorem ib_X8 : Cond.instantiable RX8 7 ∈ xTbl := xTbl_in (List.mem_of_getElem? (i := 134) (by decide +kernel)) rfl
theorem ib_X9 : Cond.instantiable RX9 9 ∈ xTbl := xTbl_in (List.mem_of_getElem? (i := 261) (by decide +kernel)) rfl
theorem ib_X10 : Cond.instantiable RX10 9 ∈ xTbl := xTbl_in (List.mem_of_getElem? (i := 86) (by decide +kernel)) rfl
theorem ib_X11 : Cond.instantiable RX11 28 ∈ xTbl := xTbl_in (List.mem_of_getElem? (i := 1005) (by decide +kernel)) rfl
theorem ao_Judge : Cond.arrayOver (.object RX4) ∈ lw_tbl := List.mem_of_getElem? (i := 100) (by decide +kernel)
theorem ao_Suit : Cond.arrayOver (.object RX8) ∈ lw_tbl := List.mem_of_getElem? (i := 133) (by decide +kernel)
theorem ao_Sight : Cond.arrayOver (.object RX7) ∈ lw_tbl := List.mem_of_getElem? (i := 177) (by decide +kernel)
theorem ao_Image : Cond.arrayOver (.object RX3) ∈ lw_tbl := List.mem_of_getElem? (i := 243) (by decide +kernel)
theorem ao_Sheet : Cond.arrayOver (.object RX6) ∈ lw_tbl := List.mem_of_getElem? (i := 360) (by decide +kernel)
theorem nest_in : ∀ w ∈ xNest, w ∈ lw_tbl := by
  have h : ∀ i, i < 11 → xNest[i]? = lw_tbl[([102, 135, 179, 442, 666, 684, 706, 727, 815, 838, 906] : List Nat).getD i 0]? ∧ (xNest[i]?).isSome = true := by decide +kernel
  intro w hw
  obtain ⟨i, hi⟩ := List.getElem?_of_mem hw
  have hlt : i < 11 := (List.getElem?_eq_some_iff.mp hi).1
  exact List.mem_of_getElem? (i := ([102, 135, 179, 442, 666, 684, 706, 727, 815, 838, 906] : List Nat).getD i 0) (by rw [← (h i hlt).1]; exact hi)
theorem nest_ot : ∀ w ∈ xNest, w.onTables = true := by decide +kernel
theorem str_in : ∀ (k : Nat) (q : Nat × String), xStrT[k]? = some q → Cond.stringRef RX9 q.1 q.2 ∈ lw_tbl := by
  have h : ∀ k, k < 9 → ((xStrT[k]?).map fun q => Cond.stringRef RX9 q.1 q.2) = lw_tbl[([464, 465, 466, 467, 468, 469, 470, 471, 472] : List Nat).getD k 0]? := by decide +kernel
  intro k q hq
  have hlt : k < 9 := (List.getElem?_eq_some_iff.mp hq).1
  have h1 := h k hlt
  rw [hq] at h1
  exact List.mem_of_getElem? h1.symm
def strTm (i : Nat) : Term := .string "JudgeFirst$Tape" (([140, 142, 144, 146, 148, 150, 152, 154, 156] : List Nat).getD i 0)
abbrev gvn : Cond := Jvm.Cond.and given_1 narrow_1
theorem arrT {s : State} {args : Array Value} {ty : FieldType} (h : (Cond.arrayClass ty).before args s = true) (hn : ∀ C, ty ≠ .object C) : ∃ cA : ClassId, ArrOfT s cA ty ∧ va_RA s cA ty := by
  obtain ⟨c, k, comp, h1, h2, h3⟩ := Cond.arrayClass_spec h
  refine ⟨c, fun n z => ⟨fun k h => (by cases h), k, h2, comp, h3⟩, ?_⟩
  cases ty <;> first | exact h1 | exact absurd rfl (hn _)
theorem arrQ {s : State} {args : Array Value} {C : String} (h : (Cond.arrayOver (.object C)).before args s = true) : ∃ cA : ClassId, ArrOfT s cA (.object C) ∧ va_RA s cA (.object C) := by
  obtain ⟨comp, c, k, h1, h2, h3, h4, h5⟩ := Cond.arrayOver_spec h
  exact ⟨c, fun n z => ⟨fun k h => (by cases h), k, h3, comp, h4⟩, k, comp, h3, h4, h1, h5⟩
set_option maxHeartbeats 4000000 in
set_option maxRecDepth 100000 in
theorem law_ctx {p : Program} {s : State} {m : MethodId} {meth : Method} {c : Code} {b L : Nat} {xs : Nat → Int32} (C0 : lw_At p s m meth c b L xs) : ∃ (sa : Nat → Nat) (D : va_G) (cA : Nat → ClassId), xCtx p room_1 s m #[Value.ref b] meth c (m_law (L, xs)) 30 sa D cA (fun q => s.heap.size ≤ q) b := by
  obtain ⟨hx, hb, hr, hml, hown, hts, hX, hbl, hlocks, hgv⟩ := C0
  have htx : ∀ w ∈ xTbl, w.before #[Value.ref b] s = true := fun w hw => hts w (List.mem_filter.mp hw).1
  have hA : ∀ q : Nat, s.heap.size ≤ q → (fun q : Nat => s.heap.size ≤ q) q := fun _ h => h
  have hnA : ∀ a : Nat, a < s.heap.size → ¬ (fun q : Nat => s.heap.size ≤ q) a := fun a h q => Nat.not_le.mpr h q
  obtain ⟨c0, iS0, hKn0⟩ := u_known (C := RX0) (T := TX0) (N := 1) (n := 1) htx cw_X0 (htx _ ib_X0)
  obtain ⟨c1, iS1, hKn1⟩ := u_known (C := RX1) (T := TX1) (N := 8) (n := 8) htx cw_X1 (htx _ ib_X1)
  obtain ⟨c2, iS2, hKn2⟩ := u_known (C := RX2) (T := TX2) (N := 6) (n := 6) htx cw_X2 (htx _ ib_X2)
  obtain ⟨c3, iS3, hKn3⟩ := u_known (C := RX3) (T := TX3) (N := 2) (n := 2) htx cw_X3 (htx _ ib_X3)
  obtain ⟨c4, iS4, hKn4⟩ := u_known (C := RX4) (T := TX4) (N := 5) (n := 5) htx cw_X4 (htx _ ib_X4)
  obtain ⟨c5, iS5, hKn5⟩ := u_known (C := RX5) (T := TX5) (N := 4) (n := 4) htx cw_X5 (htx _ ib_X5)
  obtain ⟨c6, iS6, hKn6⟩ := u_known (C := RX6) (T := TX6) (N := 4) (n := 4) htx cw_X6 (htx _ ib_X6)
  obtain ⟨c7, iS7, hKn7⟩ := u_known (C := RX7) (T := TX7) (N := 3) (n := 3) htx cw_X7 (htx _ ib_X7)
  obtain ⟨c8, iS8, hKn8⟩ := u_known (C := RX8) (T := TX8) (N := 7) (n := 7) htx cw_X8 (htx _ ib_X8)
  obtain ⟨c9, iS9, hKn9⟩ := u_known (C := RX9) (T := TX9) (N := 9) (n := 9) htx cw_X9 (htx _ ib_X9)
  obtain ⟨c10, iS10, hKn10⟩ := u_known (C := RX10) (T := TX10) (N := 9) (n := 9) htx cw_X10 (htx _ ib_X10)
  obtain ⟨c11, iS11, hKn11⟩ := u_known (C := RX11) (T := TX11) (N := 28) (n := 28) htx cw_X11 (htx _ ib_X11)
  obtain ⟨dC, dI, hKc⟩ : ∃ (dC : Nat → ClassId) (dI : Nat → Nat → Nat), ∀ (k : Nat) (q : vw_C), vwCl[k]? = some q → u_Kn s q.1 q.2.1 q.2.2 (dC k) (dI k) := by
    refine ⟨fun k => ([c0, c1, c2, c3, c4, c5, c6, c7, c8, c9, c10, c11] : List ClassId).getD k 0, fun k => ([iS0, iS1, iS2, iS3, iS4, iS5, iS6, iS7, iS8, iS9, iS10, iS11] : List (Nat → Nat)).getD k (fun _ => 0), ?_⟩
    intro k q hq
    match k, hq with
    | 0, hq => cases hq; exact hKn0
    | 1, hq => cases hq; exact hKn1
    | 2, hq => cases hq; exact hKn2
    | 3, hq => cases hq; exact hKn3
    | 4, hq => cases hq; exact hKn4
    | 5, hq => cases hq; exact hKn5
    | 6, hq => cases hq; exact hKn6
    | 7, hq => cases hq; exact hKn7
    | 8, hq => cases hq; exact hKn8
    | 9, hq => cases hq; exact hKn9
    | 10, hq => cases hq; exact hKn10
    | 11, hq => cases hq; exact hKn11
    | k + 12, hq => simp [vwCl] at hq
  obtain ⟨a0, ha0⟩ := arrT (ty := .int) (htx _ ac_int) (fun C h => by cases h)
  obtain ⟨a1, ha1⟩ := arrT (ty := .byte) (htx _ ac_byte) (fun C h => by cases h)
  obtain ⟨a2, ha2⟩ := arrT (ty := .boolean) (htx _ ac_boolean) (fun C h => by cases h)
  obtain ⟨a3, ha3⟩ := arrQ (hts _ ao_Judge)
  obtain ⟨a4, ha4⟩ := arrQ (hts _ ao_Suit)
  obtain ⟨a5, ha5⟩ := arrQ (hts _ ao_Sight)
  obtain ⟨a6, ha6⟩ := arrQ (hts _ ao_Image)
  obtain ⟨a7, ha7⟩ := arrQ (hts _ ao_Sheet)
  have hs := flat_of_before gvn hgv
  have q1 : ∀ i, i < 9 → Cond.exactly (strTm i) "java/lang/String" ∈ flatC gvn := by decide +kernel
  have q2 : ∀ i, i < 9 → Cond.eq (.field (strTm i) "java/lang/String" "coder" "B") (.int 0) ∈ flatC gvn := by decide +kernel
  have q3 : ∀ i, i < 9 → Cond.arrayOf (.field (strTm i) "java/lang/String" "value" "[B") .byte ∈ flatC gvn := by decide +kernel
  have q4 : ∀ i, i < 9 → Cond.eq (.length (.field (strTm i) "java/lang/String" "value" "[B")) (.int (Int32.ofNat (xLen.getD i 0))) ∈ flatC gvn := by decide +kernel
  have q5 : ∀ i, i < 9 → ∀ j, j < xLen.getD i 0 → Cond.eq (.elem (.field (strTm i) "java/lang/String" "value" "[B") (.int (Int32.ofNat j))) (.int ((xByt.getD i []).getD j 0)) ∈ flatC gvn := by decide +kernel
  have q6 : ∀ i, i < 9 → ∀ j, j < 9 → i ≠ j → Cond.not (Cond.eq (strTm i) (strTm j)) ∈ flatC gvn ∨ Cond.not (Cond.eq (strTm j) (strTm i)) ∈ flatC gvn := by decide +kernel
  obtain ⟨adK, adV, hvs, hev⟩ := vk_Sof (args := #[Value.ref b]) (s := s) (N := 9) (tm := strTm) (len := xLen) (byt := xByt) (A := fun q => s.heap.size ≤ q) (by decide +kernel) (fun i hi => hs _ (q1 i hi)) (fun i hi => hs _ (q2 i hi)) (fun i hi => hs _ (q3 i hi)) (fun i hi => hs _ (q4 i hi)) (fun i hi j hj => hs _ (q5 i hi j hj)) (fun i j hi hj hij => (q6 i hi j hj hij).imp (hs _) (hs _)) hnA
  have hz1 : va_Z "java/lang/String" "COMPACT_STRINGS" "Z" (.int 1) (fun q => s.heap.size ≤ q) s s.heap := va_Zof (hts _ (List.mem_of_getElem? (i := 486) (by decide +kernel))) (htx _ tg_J0_length_8abf5.2.2) (va_eqi (hs _ (by decide +kernel))) hnA
  have hz2 : va_Zq "jdk/internal/util/Preconditions" "SIOOBE_FORMATTER" "Ljava/util/function/BiFunction;" (fun q => s.heap.size ≤ q) s s.heap := va_Zqof (hts _ (List.mem_of_getElem? (i := 502) (by decide +kernel))) (htx _ tg_J3_checkIndex_8e157.2.2) (hs _ (by decide +kernel)) hnA
  obtain ⟨t18, hz3⟩ : ∃ t18 : Nat, va_Z "jdk/internal/util/Preconditions" "SIOOBE_FORMATTER" "Ljava/util/function/BiFunction;" .null (fun q => s.heap.size ≤ q) s s.heap ∨ va_Z "jdk/internal/util/Preconditions" "SIOOBE_FORMATTER" "Ljava/util/function/BiFunction;" (.ref t18) (fun q => s.heap.size ≤ q) s s.heap := by
    rcases hz2 with h | ⟨t, h⟩
    · exact ⟨0, Or.inl h⟩
    · exact ⟨t, Or.inr h⟩
  obtain ⟨sa, hsa1, hsa2, hsa3⟩ : ∃ sa : Nat → Nat, (∀ i, i < 9 → sa i = adK i) ∧ (∀ i, i < 9 → sa (9 + i) = adV i) ∧ sa 18 = t18 := by
    refine ⟨fun i => if i < 9 then adK i else if i < 18 then adV (i - 9) else t18, fun i hi => if_pos hi, fun i hi => ?_, rfl⟩
    show (if 9 + i < 9 then _ else if 9 + i < 18 then adV (9 + i - 9) else t18) = _
    rw [if_neg (by omega), if_pos (by omega), show 9 + i - 9 = i by omega]
  have hvs2 : vk_S 9 xLen xByt sa (fun i => sa (9 + i)) (fun q => s.heap.size ≤ q) s s.heap := by
    refine ⟨fun i hi => ?_, fun i j hi hj e => ?_⟩
    · have h := hvs.1 i hi
      dsimp only
      rw [hsa1 i hi, hsa2 i hi]
      exact h
    · rw [hsa1 i hi, hsa1 j hj] at e
      exact hvs.2 i j hi hj e
  have hsw : xStrW sa s := by
    intro k q hq
    have hlt : k < 9 := (List.getElem?_eq_some_iff.mp hq).1
    refine vk_R.of (hts _ (str_in k q hq)) ?_
    rw [hsa1 k hlt, ← hev k hlt]
    have e : ∀ k, k < 9 → ∀ q ∈ xStrT[k]?, strTm k = .string RX9 q.1 := by
      intro k hk q hq
      rcases (show k = 0 ∨ k = 1 ∨ k = 2 ∨ k = 3 ∨ k = 4 ∨ k = 5 ∨ k = 6 ∨ k = 7 ∨ k = 8 by omega) with rfl | rfl | rfl | rfl | rfl | rfl | rfl | rfl | rfl <;> (cases hq; rfl)
    rw [e k hlt q hq]
  refine ⟨sa, (dC, dI), fun e => ([a0, a1, a2, a3, a4, a5, a6, a7] : List ClassId).getD e 0, hx, hb, hml, hown, htx, ⟨by decide, by decide⟩, ⟨⟨hKc, ?_⟩, ?_, ?_⟩, ⟨hsw, hvs2, hz1, by rw [hsa3]; exact hz3⟩, hA, (fun h => absurd (show "law" = "<init>" from h) (by decide)), ?_⟩
  · intro k q hq
    match k, hq with
    | 0, hq => cases hq; exact ha0
    | 1, hq => cases hq; exact ha1
    | 2, hq => cases hq; exact ha2
    | 3, hq => cases hq; exact ha3
    | 4, hq => cases hq; exact ha4
    | 5, hq => cases hq; exact ha5
    | 6, hq => cases hq; exact ha6
    | 7, hq => cases hq; exact ha7
    | k + 8, hq => simp [xTys] at hq
  · exact fun w hw => va_Nw.of (nest_ot w hw) (hts w (nest_in w hw))
  · intro C hC
    simp only [xAO, List.mem_cons, List.not_mem_nil, or_false] at hC
    rcases hC with rfl | rfl | rfl | rfl | rfl
    · exact va_AO.of (hts _ ao_Judge)
    · exact va_AO.of (hts _ ao_Suit)
    · exact va_AO.of (hts _ ao_Sight)
    · exact va_AO.of (hts _ ao_Image)
    · exact va_AO.of (hts _ ao_Sheet)
  · intro S hS
    cases hS
    exact ⟨hX, hbl, Nat.not_le.mpr hbl⟩
