/-! the reference's numbers and words (by wip/whole/gen/g86.py) -/
abbrev pR9 (n : Nat) (b : Nat → Nat) (u : tS) (I : xF4 Int32) (L : xF4 Int64) : Option xV → xM → Prop := fun v M => v = some (vI (nI (vlS u))) ∧ ∃ I', M = rM I' L ∧ TM I' (tkT n b u) ∧ FrN I I'
theorem sp_e0 : ∀ j, j < 9 → ∀ k, k < 9 → wLen j = wLen k → (∀ i, i < wLen j → wCh j i = wCh k i) → j = k := by decide +kernel
theorem sp_ex {b : Nat → Nat} {st nx j k : Nat} (hj : j < 9) (hk : k < 9) (h1 : spT b j st nx) (h2 : spT b k st nx) : j = k := by
  have e : wLen j = wLen k := by
    have := h1.1
    have := h2.1
    omega
  exact sp_e0 j hj k hk e (fun i hi => (h1.2 i hi).symm.trans (h2.2 i (by omega)))
theorem wd_is {b : Nat → Nat} {st nx k : Nat} (hk : k < 9) (h : spT b k st nx) : wdT b st nx = k := by
  have e : ∀ j, j < 9 → j ≠ k → ¬ spT b j st nx := fun j hj hn z => hn (sp_ex hj hk z h)
  rcases (show k = 0 ∨ k = 1 ∨ k = 2 ∨ k = 3 ∨ k = 4 ∨ k = 5 ∨ k = 6 ∨ k = 7 ∨ k = 8 by omega) with rfl | rfl | rfl | rfl | rfl | rfl | rfl | rfl | rfl
  · unfold wdT
    rw [if_pos h]
  · unfold wdT
    rw [if_neg (e 0 (by decide) (by decide)), if_pos h]
  · unfold wdT
    rw [if_neg (e 0 (by decide) (by decide)), if_neg (e 1 (by decide) (by decide)), if_pos h]
  · unfold wdT
    rw [if_neg (e 0 (by decide) (by decide)), if_neg (e 1 (by decide) (by decide)), if_neg (e 2 (by decide) (by decide)), if_pos h]
  · unfold wdT
    rw [if_neg (e 0 (by decide) (by decide)), if_neg (e 1 (by decide) (by decide)), if_neg (e 2 (by decide) (by decide)), if_neg (e 3 (by decide) (by decide)), if_pos h]
  · unfold wdT
    rw [if_neg (e 0 (by decide) (by decide)), if_neg (e 1 (by decide) (by decide)), if_neg (e 2 (by decide) (by decide)), if_neg (e 3 (by decide) (by decide)), if_neg (e 4 (by decide) (by decide)), if_pos h]
  · unfold wdT
    rw [if_neg (e 0 (by decide) (by decide)), if_neg (e 1 (by decide) (by decide)), if_neg (e 2 (by decide) (by decide)), if_neg (e 3 (by decide) (by decide)), if_neg (e 4 (by decide) (by decide)), if_neg (e 5 (by decide) (by decide)), if_pos h]
  · unfold wdT
    rw [if_neg (e 0 (by decide) (by decide)), if_neg (e 1 (by decide) (by decide)), if_neg (e 2 (by decide) (by decide)), if_neg (e 3 (by decide) (by decide)), if_neg (e 4 (by decide) (by decide)), if_neg (e 5 (by decide) (by decide)), if_neg (e 6 (by decide) (by decide)), if_pos h]
  · unfold wdT
    rw [if_neg (e 0 (by decide) (by decide)), if_neg (e 1 (by decide) (by decide)), if_neg (e 2 (by decide) (by decide)), if_neg (e 3 (by decide) (by decide)), if_neg (e 4 (by decide) (by decide)), if_neg (e 5 (by decide) (by decide)), if_neg (e 6 (by decide) (by decide)), if_neg (e 7 (by decide) (by decide)), if_pos h]
theorem wd_no {b : Nat → Nat} {st nx : Nat} (h : ∀ j, j < 9 → ¬ spT b j st nx) : wdT b st nx = 9 := by
  unfold wdT
  rw [if_neg (h 0 (by decide)), if_neg (h 1 (by decide)), if_neg (h 2 (by decide)), if_neg (h 3 (by decide)), if_neg (h 4 (by decide)), if_neg (h 5 (by decide)), if_neg (h 6 (by decide)), if_neg (h 7 (by decide)), if_neg (h 8 (by decide))]

theorem sp_0 {n : Nat} {b : Nat → Nat} {st nx : Nat} (hk : BK n b) (hnx : nx ≤ n) : spT b 0 st nx ↔ nx = st + 5 ∧ b st = 112 ∧ b (st + 1) = 108 ∧ b (st + 2) = 97 ∧ b (st + 3) = 105 ∧ b (st + 4) = 110 :=
  ⟨fun h => by
    have e := h.1
    have e : nx = st + 5 := e
    exact ⟨e, (nI_eq (Nat.lt_of_lt_of_le (hk.2 _ (by omega)) (by decide)) (by decide)).mp (h.2 0 (by decide)), (nI_eq (Nat.lt_of_lt_of_le (hk.2 _ (by omega)) (by decide)) (by decide)).mp (h.2 1 (by decide)), (nI_eq (Nat.lt_of_lt_of_le (hk.2 _ (by omega)) (by decide)) (by decide)).mp (h.2 2 (by decide)), (nI_eq (Nat.lt_of_lt_of_le (hk.2 _ (by omega)) (by decide)) (by decide)).mp (h.2 3 (by decide)), (nI_eq (Nat.lt_of_lt_of_le (hk.2 _ (by omega)) (by decide)) (by decide)).mp (h.2 4 (by decide))⟩, fun h => ⟨h.1, fun i hi => by
    have hi : i < 5 := hi
    rcases (show i = 0 ∨ i = 1 ∨ i = 2 ∨ i = 3 ∨ i = 4 by omega) with rfl | rfl | rfl | rfl | rfl
    · exact congrArg nI h.2.1
    · exact congrArg nI h.2.2.1
    · exact congrArg nI h.2.2.2.1
    · exact congrArg nI h.2.2.2.2.1
    · exact congrArg nI h.2.2.2.2.2⟩⟩
theorem sp_1 {n : Nat} {b : Nat → Nat} {st nx : Nat} (hk : BK n b) (hnx : nx ≤ n) : spT b 1 st nx ↔ nx = st + 5 ∧ b st = 121 ∧ b (st + 1) = 111 ∧ b (st + 2) = 117 ∧ b (st + 3) = 110 ∧ b (st + 4) = 103 :=
  ⟨fun h => by
    have e := h.1
    have e : nx = st + 5 := e
    exact ⟨e, (nI_eq (Nat.lt_of_lt_of_le (hk.2 _ (by omega)) (by decide)) (by decide)).mp (h.2 0 (by decide)), (nI_eq (Nat.lt_of_lt_of_le (hk.2 _ (by omega)) (by decide)) (by decide)).mp (h.2 1 (by decide)), (nI_eq (Nat.lt_of_lt_of_le (hk.2 _ (by omega)) (by decide)) (by decide)).mp (h.2 2 (by decide)), (nI_eq (Nat.lt_of_lt_of_le (hk.2 _ (by omega)) (by decide)) (by decide)).mp (h.2 3 (by decide)), (nI_eq (Nat.lt_of_lt_of_le (hk.2 _ (by omega)) (by decide)) (by decide)).mp (h.2 4 (by decide))⟩, fun h => ⟨h.1, fun i hi => by
    have hi : i < 5 := hi
    rcases (show i = 0 ∨ i = 1 ∨ i = 2 ∨ i = 3 ∨ i = 4 by omega) with rfl | rfl | rfl | rfl | rfl
    · exact congrArg nI h.2.1
    · exact congrArg nI h.2.2.1
    · exact congrArg nI h.2.2.2.1
    · exact congrArg nI h.2.2.2.2.1
    · exact congrArg nI h.2.2.2.2.2⟩⟩
theorem sp_2 {n : Nat} {b : Nat → Nat} {st nx : Nat} (hk : BK n b) (hnx : nx ≤ n) : spT b 2 st nx ↔ nx = st + 3 ∧ b st = 111 ∧ b (st + 1) = 108 ∧ b (st + 2) = 100 :=
  ⟨fun h => by
    have e := h.1
    have e : nx = st + 3 := e
    exact ⟨e, (nI_eq (Nat.lt_of_lt_of_le (hk.2 _ (by omega)) (by decide)) (by decide)).mp (h.2 0 (by decide)), (nI_eq (Nat.lt_of_lt_of_le (hk.2 _ (by omega)) (by decide)) (by decide)).mp (h.2 1 (by decide)), (nI_eq (Nat.lt_of_lt_of_le (hk.2 _ (by omega)) (by decide)) (by decide)).mp (h.2 2 (by decide))⟩, fun h => ⟨h.1, fun i hi => by
    have hi : i < 3 := hi
    rcases (show i = 0 ∨ i = 1 ∨ i = 2 by omega) with rfl | rfl | rfl
    · exact congrArg nI h.2.1
    · exact congrArg nI h.2.2.1
    · exact congrArg nI h.2.2.2⟩⟩
theorem sp_3 {n : Nat} {b : Nat → Nat} {st nx : Nat} (hk : BK n b) (hnx : nx ≤ n) : spT b 3 st nx ↔ nx = st + 6 ∧ b st = 104 ∧ b (st + 1) = 101 ∧ b (st + 2) = 114 ∧ b (st + 3) = 109 ∧ b (st + 4) = 105 ∧ b (st + 5) = 116 :=
  ⟨fun h => by
    have e := h.1
    have e : nx = st + 6 := e
    exact ⟨e, (nI_eq (Nat.lt_of_lt_of_le (hk.2 _ (by omega)) (by decide)) (by decide)).mp (h.2 0 (by decide)), (nI_eq (Nat.lt_of_lt_of_le (hk.2 _ (by omega)) (by decide)) (by decide)).mp (h.2 1 (by decide)), (nI_eq (Nat.lt_of_lt_of_le (hk.2 _ (by omega)) (by decide)) (by decide)).mp (h.2 2 (by decide)), (nI_eq (Nat.lt_of_lt_of_le (hk.2 _ (by omega)) (by decide)) (by decide)).mp (h.2 3 (by decide)), (nI_eq (Nat.lt_of_lt_of_le (hk.2 _ (by omega)) (by decide)) (by decide)).mp (h.2 4 (by decide)), (nI_eq (Nat.lt_of_lt_of_le (hk.2 _ (by omega)) (by decide)) (by decide)).mp (h.2 5 (by decide))⟩, fun h => ⟨h.1, fun i hi => by
    have hi : i < 6 := hi
    rcases (show i = 0 ∨ i = 1 ∨ i = 2 ∨ i = 3 ∨ i = 4 ∨ i = 5 by omega) with rfl | rfl | rfl | rfl | rfl | rfl
    · exact congrArg nI h.2.1
    · exact congrArg nI h.2.2.1
    · exact congrArg nI h.2.2.2.1
    · exact congrArg nI h.2.2.2.2.1
    · exact congrArg nI h.2.2.2.2.2.1
    · exact congrArg nI h.2.2.2.2.2.2⟩⟩
theorem sp_4 {n : Nat} {b : Nat → Nat} {st nx : Nat} (hk : BK n b) (hnx : nx ≤ n) : spT b 4 st nx ↔ nx = st + 4 ∧ b st = 103 ∧ b (st + 1) = 97 ∧ b (st + 2) = 111 ∧ b (st + 3) = 108 :=
  ⟨fun h => by
    have e := h.1
    have e : nx = st + 4 := e
    exact ⟨e, (nI_eq (Nat.lt_of_lt_of_le (hk.2 _ (by omega)) (by decide)) (by decide)).mp (h.2 0 (by decide)), (nI_eq (Nat.lt_of_lt_of_le (hk.2 _ (by omega)) (by decide)) (by decide)).mp (h.2 1 (by decide)), (nI_eq (Nat.lt_of_lt_of_le (hk.2 _ (by omega)) (by decide)) (by decide)).mp (h.2 2 (by decide)), (nI_eq (Nat.lt_of_lt_of_le (hk.2 _ (by omega)) (by decide)) (by decide)).mp (h.2 3 (by decide))⟩, fun h => ⟨h.1, fun i hi => by
    have hi : i < 4 := hi
    rcases (show i = 0 ∨ i = 1 ∨ i = 2 ∨ i = 3 by omega) with rfl | rfl | rfl | rfl
    · exact congrArg nI h.2.1
    · exact congrArg nI h.2.2.1
    · exact congrArg nI h.2.2.2.1
    · exact congrArg nI h.2.2.2.2⟩⟩
theorem sp_5 {n : Nat} {b : Nat → Nat} {st nx : Nat} (hk : BK n b) (hnx : nx ≤ n) : spT b 5 st nx ↔ nx = st + 4 ∧ b st = 102 ∧ b (st + 1) = 105 ∧ b (st + 2) = 110 ∧ b (st + 3) = 101 :=
  ⟨fun h => by
    have e := h.1
    have e : nx = st + 4 := e
    exact ⟨e, (nI_eq (Nat.lt_of_lt_of_le (hk.2 _ (by omega)) (by decide)) (by decide)).mp (h.2 0 (by decide)), (nI_eq (Nat.lt_of_lt_of_le (hk.2 _ (by omega)) (by decide)) (by decide)).mp (h.2 1 (by decide)), (nI_eq (Nat.lt_of_lt_of_le (hk.2 _ (by omega)) (by decide)) (by decide)).mp (h.2 2 (by decide)), (nI_eq (Nat.lt_of_lt_of_le (hk.2 _ (by omega)) (by decide)) (by decide)).mp (h.2 3 (by decide))⟩, fun h => ⟨h.1, fun i hi => by
    have hi : i < 4 := hi
    rcases (show i = 0 ∨ i = 1 ∨ i = 2 ∨ i = 3 by omega) with rfl | rfl | rfl | rfl
    · exact congrArg nI h.2.1
    · exact congrArg nI h.2.2.1
    · exact congrArg nI h.2.2.2.1
    · exact congrArg nI h.2.2.2.2⟩⟩
theorem sp_6 {n : Nat} {b : Nat → Nat} {st nx : Nat} (hk : BK n b) (hnx : nx ≤ n) : spT b 6 st nx ↔ nx = st + 4 ∧ b st = 108 ∧ b (st + 1) = 97 ∧ b (st + 2) = 115 ∧ b (st + 3) = 104 :=
  ⟨fun h => by
    have e := h.1
    have e : nx = st + 4 := e
    exact ⟨e, (nI_eq (Nat.lt_of_lt_of_le (hk.2 _ (by omega)) (by decide)) (by decide)).mp (h.2 0 (by decide)), (nI_eq (Nat.lt_of_lt_of_le (hk.2 _ (by omega)) (by decide)) (by decide)).mp (h.2 1 (by decide)), (nI_eq (Nat.lt_of_lt_of_le (hk.2 _ (by omega)) (by decide)) (by decide)).mp (h.2 2 (by decide)), (nI_eq (Nat.lt_of_lt_of_le (hk.2 _ (by omega)) (by decide)) (by decide)).mp (h.2 3 (by decide))⟩, fun h => ⟨h.1, fun i hi => by
    have hi : i < 4 := hi
    rcases (show i = 0 ∨ i = 1 ∨ i = 2 ∨ i = 3 by omega) with rfl | rfl | rfl | rfl
    · exact congrArg nI h.2.1
    · exact congrArg nI h.2.2.1
    · exact congrArg nI h.2.2.2.1
    · exact congrArg nI h.2.2.2.2⟩⟩
theorem sp_7 {n : Nat} {b : Nat → Nat} {st nx : Nat} (hk : BK n b) (hnx : nx ≤ n) : spT b 7 st nx ↔ nx = st + 6 ∧ b st = 115 ∧ b (st + 1) = 116 ∧ b (st + 2) = 111 ∧ b (st + 3) = 99 ∧ b (st + 4) = 107 ∧ b (st + 5) = 115 :=
  ⟨fun h => by
    have e := h.1
    have e : nx = st + 6 := e
    exact ⟨e, (nI_eq (Nat.lt_of_lt_of_le (hk.2 _ (by omega)) (by decide)) (by decide)).mp (h.2 0 (by decide)), (nI_eq (Nat.lt_of_lt_of_le (hk.2 _ (by omega)) (by decide)) (by decide)).mp (h.2 1 (by decide)), (nI_eq (Nat.lt_of_lt_of_le (hk.2 _ (by omega)) (by decide)) (by decide)).mp (h.2 2 (by decide)), (nI_eq (Nat.lt_of_lt_of_le (hk.2 _ (by omega)) (by decide)) (by decide)).mp (h.2 3 (by decide)), (nI_eq (Nat.lt_of_lt_of_le (hk.2 _ (by omega)) (by decide)) (by decide)).mp (h.2 4 (by decide)), (nI_eq (Nat.lt_of_lt_of_le (hk.2 _ (by omega)) (by decide)) (by decide)).mp (h.2 5 (by decide))⟩, fun h => ⟨h.1, fun i hi => by
    have hi : i < 6 := hi
    rcases (show i = 0 ∨ i = 1 ∨ i = 2 ∨ i = 3 ∨ i = 4 ∨ i = 5 by omega) with rfl | rfl | rfl | rfl | rfl | rfl
    · exact congrArg nI h.2.1
    · exact congrArg nI h.2.2.1
    · exact congrArg nI h.2.2.2.1
    · exact congrArg nI h.2.2.2.2.1
    · exact congrArg nI h.2.2.2.2.2.1
    · exact congrArg nI h.2.2.2.2.2.2⟩⟩
theorem sp_8 {n : Nat} {b : Nat → Nat} {st nx : Nat} (hk : BK n b) (hnx : nx ≤ n) : spT b 8 st nx ↔ nx = st + 5 ∧ b st = 99 ∧ b (st + 1) = 114 ∧ b (st + 2) = 105 ∧ b (st + 3) = 109 ∧ b (st + 4) = 101 :=
  ⟨fun h => by
    have e := h.1
    have e : nx = st + 5 := e
    exact ⟨e, (nI_eq (Nat.lt_of_lt_of_le (hk.2 _ (by omega)) (by decide)) (by decide)).mp (h.2 0 (by decide)), (nI_eq (Nat.lt_of_lt_of_le (hk.2 _ (by omega)) (by decide)) (by decide)).mp (h.2 1 (by decide)), (nI_eq (Nat.lt_of_lt_of_le (hk.2 _ (by omega)) (by decide)) (by decide)).mp (h.2 2 (by decide)), (nI_eq (Nat.lt_of_lt_of_le (hk.2 _ (by omega)) (by decide)) (by decide)).mp (h.2 3 (by decide)), (nI_eq (Nat.lt_of_lt_of_le (hk.2 _ (by omega)) (by decide)) (by decide)).mp (h.2 4 (by decide))⟩, fun h => ⟨h.1, fun i hi => by
    have hi : i < 5 := hi
    rcases (show i = 0 ∨ i = 1 ∨ i = 2 ∨ i = 3 ∨ i = 4 by omega) with rfl | rfl | rfl | rfl | rfl
    · exact congrArg nI h.2.1
    · exact congrArg nI h.2.2.1
    · exact congrArg nI h.2.2.2.1
    · exact congrArg nI h.2.2.2.2.1
    · exact congrArg nI h.2.2.2.2.2⟩⟩
theorem d_is {I : xF4 Int32} {L : xF4 Int64} {n : Nat} {b : Nat → Nat} (hk : BK n b) (ht : TN I n b) {st nx : Nat} (z12 : I 30 0 0 12 = nI st) (z11 : I 30 0 0 11 = nI nx) (hst : st ≤ nx) (hnx : nx ≤ n) {k a c d : Nat} {k9 a9 c9 d9 : Int32} (ek : k9.toInt = k) (ea : a9.toInt = a) (ec : c9.toInt = c) (ed : d9.toInt = d) (h3 : 3 ≤ k) : Tri 1 109 m_X11_is [vR 30 0 0, vI (k9), vI (a9), vI (c9), vI (d9)] (rM I L) (pI (bI (nx = st + k ∧ b st = a ∧ b (st + 1) = c ∧ b (st + 2) = d)) I L) := by
  refine ⟨k_X11_is, Nat.le_of_ble_eq_true rfl, ?_⟩
  show Wp _ _ _ 0 [some (vR 30 0 0), some (vI (k9)), some (vI (a9)), some (vI (c9)), some (vI (d9))] [] (rM I L) _
  obtain ⟨k1, k2⟩ := id hk
  refine w_aload_n dX11_is_0 rfl ?_
  refine w_getI ff_X11_82 rfl rfl dX11_is_1 ?_
  rw [show (I 30 0 0 11 : Int32) = nI nx from z11]
  refine w_aload_n dX11_is_4 rfl ?_
  refine w_getI ff_X11_76 rfl rfl dX11_is_5 ?_
  rw [show (I 30 0 0 12 : Int32) = nI st from z12]
  refine w_isub dX11_is_8 ?_
  refine w_iload_n dX11_is_9 rfl ?_
  refine w_icmp_ne (tgt := 58) dX11_is_10 (by decide) (fun h1 => ?_) (fun h1 => ?_)
  · skip
    replace h1 : ¬ (((nx : Nat) : Int) - ((st : Nat) : Int) = k9.toInt) := fun q => h1 ((zeq (z_sub (a := nx) (b := st) (by omega) (by omega)) rfl).mpr q)
    first
    | (exfalso; omega)
    | skip
      refine w_iconst (v := 0) dX11_is_58 (by decide) ?_
      exact w_ireturn dX11_is_59 rfl (rfl) rfl (⟨congrArg (fun z => some (vI z)) (bI_f (by omega)).symm, rfl⟩)
  · skip
    replace h1 : ((nx : Nat) : Int) - ((st : Nat) : Int) = k9.toInt := (zeq (z_sub (a := nx) (b := st) (by omega) (by omega)) rfl).mp h1
    first
    | (exfalso; omega)
    | skip
      refine w_aload_n dX11_is_13 rfl ?_
      refine w_aload_n dX11_is_14 rfl ?_
      refine w_getI ff_X11_76 rfl rfl dX11_is_15 ?_
      rw [show (I 30 0 0 12 : Int32) = nI st from z12]
      have k8 := k2 (st) (by omega)
      refine w_callV (as := [vI (nI st)]) (st := []) (Tri.mono (d_byteAt hk ht (i := st) (by omega)) (Nat.le_of_ble_eq_true rfl)) rfl rfl tg_X11_byteAt lk_X11_85 in_X11_byteAt se_X11_byteAt rfl dX11_is_18 rfl (Nat.le_of_ble_eq_true rfl) (Nat.le_refl _) (Nat.le_refl _) ?_
      rintro _ _ ⟨rfl, rfl⟩ -
      refine w_iload_n dX11_is_21 rfl ?_
      refine w_icmp_ne (tgt := 58) dX11_is_22 (by decide) (fun h2 => ?_) (fun h2 => ?_)
      · skip
        replace h2 : ¬ (((b st : Nat) : Int) = a9.toInt) := fun q => h2 ((zeq (z_nI (by omega)) rfl).mpr q)
        first
        | (exfalso; omega)
        | skip
          refine w_iconst (v := 0) dX11_is_58 (by decide) ?_
          exact w_ireturn dX11_is_59 rfl (rfl) rfl (⟨congrArg (fun z => some (vI z)) (bI_f (by omega)).symm, rfl⟩)
      · skip
        replace h2 : ((b st : Nat) : Int) = a9.toInt := (zeq (z_nI (by omega)) rfl).mp h2
        first
        | (exfalso; omega)
        | skip
          refine w_aload_n dX11_is_25 rfl ?_
          refine w_aload_n dX11_is_26 rfl ?_
          refine w_getI ff_X11_76 rfl rfl dX11_is_27 ?_
          rw [show (I 30 0 0 12 : Int32) = nI st from z12]
          refine w_iconst (v := 1) dX11_is_30 (by decide) ?_
          refine w_iadd dX11_is_31 ?_
          rw [show ((nI st) + (1) : Int32) = nI (st + 1) from ar_add (p := st) (q := 1) rfl rfl (by omega)]
          have k8 := k2 (st + 1) (by omega)
          refine w_callV (as := [vI (nI (st + 1))]) (st := []) (Tri.mono (d_byteAt hk ht (i := st + 1) (by omega)) (Nat.le_of_ble_eq_true rfl)) rfl rfl tg_X11_byteAt lk_X11_85 in_X11_byteAt se_X11_byteAt rfl dX11_is_32 rfl (Nat.le_of_ble_eq_true rfl) (Nat.le_refl _) (Nat.le_refl _) ?_
          rintro _ _ ⟨rfl, rfl⟩ -
          refine w_iload_n dX11_is_35 rfl ?_
          refine w_icmp_ne (tgt := 58) dX11_is_36 (by decide) (fun h3 => ?_) (fun h3 => ?_)
          · skip
            replace h3 : ¬ (((b (st + 1) : Nat) : Int) = c9.toInt) := fun q => h3 ((zeq (z_nI (by omega)) rfl).mpr q)
            first
            | (exfalso; omega)
            | skip
              refine w_iconst (v := 0) dX11_is_58 (by decide) ?_
              exact w_ireturn dX11_is_59 rfl (rfl) rfl (⟨congrArg (fun z => some (vI z)) (bI_f (by omega)).symm, rfl⟩)
          · skip
            replace h3 : ((b (st + 1) : Nat) : Int) = c9.toInt := (zeq (z_nI (by omega)) rfl).mp h3
            first
            | (exfalso; omega)
            | skip
              refine w_aload_n dX11_is_39 rfl ?_
              refine w_aload_n dX11_is_40 rfl ?_
              refine w_getI ff_X11_76 rfl rfl dX11_is_41 ?_
              rw [show (I 30 0 0 12 : Int32) = nI st from z12]
              refine w_iconst (v := 2) dX11_is_44 (by decide) ?_
              refine w_iadd dX11_is_45 ?_
              rw [show ((nI st) + (2) : Int32) = nI (st + 2) from ar_add (p := st) (q := 2) rfl rfl (by omega)]
              have k8 := k2 (st + 2) (by omega)
              refine w_callV (as := [vI (nI (st + 2))]) (st := []) (Tri.mono (d_byteAt hk ht (i := st + 2) (by omega)) (Nat.le_of_ble_eq_true rfl)) rfl rfl tg_X11_byteAt lk_X11_85 in_X11_byteAt se_X11_byteAt rfl dX11_is_46 rfl (Nat.le_of_ble_eq_true rfl) (Nat.le_refl _) (Nat.le_refl _) ?_
              rintro _ _ ⟨rfl, rfl⟩ -
              refine w_iload dX11_is_49 rfl ?_
              refine w_icmp_ne (tgt := 58) dX11_is_51 (by decide) (fun h4 => ?_) (fun h4 => ?_)
              · skip
                replace h4 : ¬ (((b (st + 2) : Nat) : Int) = d9.toInt) := fun q => h4 ((zeq (z_nI (by omega)) rfl).mpr q)
                first
                | (exfalso; omega)
                | skip
                  refine w_iconst (v := 0) dX11_is_58 (by decide) ?_
                  exact w_ireturn dX11_is_59 rfl (rfl) rfl (⟨congrArg (fun z => some (vI z)) (bI_f (by omega)).symm, rfl⟩)
              · skip
                replace h4 : ((b (st + 2) : Nat) : Int) = d9.toInt := (zeq (z_nI (by omega)) rfl).mp h4
                first
                | (exfalso; omega)
                | skip
                  refine w_iconst (v := 1) dX11_is_54 (by decide) ?_
                  refine w_goto (tgt := 59) dX11_is_55 (by decide) ?_
                  exact w_ireturn dX11_is_59 rfl (rfl) rfl (⟨congrArg (fun z => some (vI z)) (bI_t (by omega)).symm, rfl⟩)

theorem d_ends {I : xF4 Int32} {L : xF4 Int64} {n : Nat} {b : Nat → Nat} (hk : BK n b) (ht : TN I n b) {st nx : Nat} (z12 : I 30 0 0 12 = nI st) (z11 : I 30 0 0 11 = nI nx) (hst : st ≤ nx) (hnx : nx ≤ n) {a c d : Nat} {a9 c9 d9 : Int32} (ea : a9.toInt = a) (ec : c9.toInt = c) (ed : d9.toInt = d) (h3 : st + 3 < nx) (h4 : c = 0 ∨ st + 4 < nx) (h5 : d = 0 ∨ st + 5 < nx) : Tri 1 109 m_X11_ends [vR 30 0 0, vI (a9), vI (c9), vI (d9)] (rM I L) (pI (bI (b (st + 3) = a ∧ (c = 0 ∨ b (st + 4) = c) ∧ (d = 0 ∨ b (st + 5) = d))) I L) := by
  refine ⟨k_X11_ends, Nat.le_of_ble_eq_true rfl, ?_⟩
  show Wp _ _ _ 0 [some (vR 30 0 0), some (vI (a9)), some (vI (c9)), some (vI (d9))] [] (rM I L) _
  obtain ⟨k1, k2⟩ := id hk
  refine w_aload_n dX11_ends_0 rfl ?_
  refine w_aload_n dX11_ends_1 rfl ?_
  refine w_getI ff_X11_76 rfl rfl dX11_ends_2 ?_
  rw [show (I 30 0 0 12 : Int32) = nI st from z12]
  refine w_iconst (v := 3) dX11_ends_5 (by decide) ?_
  refine w_iadd dX11_ends_6 ?_
  rw [show ((nI st) + (3) : Int32) = nI (st + 3) from ar_add (p := st) (q := 3) rfl rfl (by omega)]
  have k8 := k2 (st + 3) (by omega)
  refine w_callV (as := [vI (nI (st + 3))]) (st := []) (Tri.mono (d_byteAt hk ht (i := st + 3) (by omega)) (Nat.le_of_ble_eq_true rfl)) rfl rfl tg_X11_byteAt lk_X11_85 in_X11_byteAt se_X11_byteAt rfl dX11_ends_7 rfl (Nat.le_of_ble_eq_true rfl) (Nat.le_refl _) (Nat.le_refl _) ?_
  rintro _ _ ⟨rfl, rfl⟩ -
  refine w_iload_n dX11_ends_10 rfl ?_
  refine w_icmp_ne (tgt := 54) dX11_ends_11 (by decide) (fun y1 => ?_) (fun y1 => ?_)
  · skip
    replace y1 : ¬ (((b (st + 3) : Nat) : Int) = a9.toInt) := fun q => y1 ((zeq (z_nI (by omega)) rfl).mpr q)
    first
    | (exfalso; omega)
    | skip
      refine w_iconst (v := 0) dX11_ends_54 (by decide) ?_
      exact w_ireturn dX11_ends_55 rfl (rfl) rfl (⟨congrArg (fun z => some (vI z)) (bI_f (by omega)).symm, rfl⟩)
  · skip
    replace y1 : ((b (st + 3) : Nat) : Int) = a9.toInt := (zeq (z_nI (by omega)) rfl).mp y1
    first
    | (exfalso; omega)
    | skip
      refine w_iload_n dX11_ends_14 rfl ?_
      refine w_if_eq (tgt := 32) dX11_ends_15 (by decide) (fun y2 => ?_) (fun y2 => ?_)
      · skip
        replace y2 : c9.toInt = 0 := (zeq rfl (by decide)).mp y2
        first
        | (exfalso; omega)
        | skip
          refine w_iload_n dX11_ends_32 rfl ?_
          refine w_if_eq (tgt := 50) dX11_ends_33 (by decide) (fun h3 => ?_) (fun h3 => ?_)
          · skip
            replace h3 : d9.toInt = 0 := (zeq rfl (by decide)).mp h3
            first
            | (exfalso; omega)
            | skip
              refine w_iconst (v := 1) dX11_ends_50 (by decide) ?_
              refine w_goto (tgt := 55) dX11_ends_51 (by decide) ?_
              exact w_ireturn dX11_ends_55 rfl (rfl) rfl (⟨congrArg (fun z => some (vI z)) (bI_t (by omega)).symm, rfl⟩)
          · skip
            replace h3 : ¬ (d9.toInt = 0) := fun q => h3 ((zeq rfl (by decide)).mpr q)
            first
            | (exfalso; omega)
            | skip
              refine w_aload_n dX11_ends_36 rfl ?_
              refine w_aload_n dX11_ends_37 rfl ?_
              refine w_getI ff_X11_76 rfl rfl dX11_ends_38 ?_
              rw [show (I 30 0 0 12 : Int32) = nI st from z12]
              refine w_iconst (v := 5) dX11_ends_41 (by decide) ?_
              refine w_iadd dX11_ends_42 ?_
              rw [show ((nI st) + (5) : Int32) = nI (st + 5) from ar_add (p := st) (q := 5) rfl rfl (by omega)]
              have k8 := k2 (st + 5) (by omega)
              refine w_callV (as := [vI (nI (st + 5))]) (st := []) (Tri.mono (d_byteAt hk ht (i := st + 5) (by omega)) (Nat.le_of_ble_eq_true rfl)) rfl rfl tg_X11_byteAt lk_X11_85 in_X11_byteAt se_X11_byteAt rfl dX11_ends_43 rfl (Nat.le_of_ble_eq_true rfl) (Nat.le_refl _) (Nat.le_refl _) ?_
              rintro _ _ ⟨rfl, rfl⟩ -
              refine w_iload_n dX11_ends_46 rfl ?_
              refine w_icmp_ne (tgt := 54) dX11_ends_47 (by decide) (fun h4 => ?_) (fun h4 => ?_)
              · skip
                replace h4 : ¬ (((b (st + 5) : Nat) : Int) = d9.toInt) := fun q => h4 ((zeq (z_nI (by omega)) rfl).mpr q)
                first
                | (exfalso; omega)
                | skip
                  refine w_iconst (v := 0) dX11_ends_54 (by decide) ?_
                  exact w_ireturn dX11_ends_55 rfl (rfl) rfl (⟨congrArg (fun z => some (vI z)) (bI_f (by omega)).symm, rfl⟩)
              · skip
                replace h4 : ((b (st + 5) : Nat) : Int) = d9.toInt := (zeq (z_nI (by omega)) rfl).mp h4
                first
                | (exfalso; omega)
                | skip
                  refine w_iconst (v := 1) dX11_ends_50 (by decide) ?_
                  refine w_goto (tgt := 55) dX11_ends_51 (by decide) ?_
                  exact w_ireturn dX11_ends_55 rfl (rfl) rfl (⟨congrArg (fun z => some (vI z)) (bI_t (by omega)).symm, rfl⟩)
      · skip
        replace y2 : ¬ (c9.toInt = 0) := fun q => y2 ((zeq rfl (by decide)).mpr q)
        first
        | (exfalso; omega)
        | skip
          refine w_aload_n dX11_ends_18 rfl ?_
          refine w_aload_n dX11_ends_19 rfl ?_
          refine w_getI ff_X11_76 rfl rfl dX11_ends_20 ?_
          rw [show (I 30 0 0 12 : Int32) = nI st from z12]
          refine w_iconst (v := 4) dX11_ends_23 (by decide) ?_
          refine w_iadd dX11_ends_24 ?_
          rw [show ((nI st) + (4) : Int32) = nI (st + 4) from ar_add (p := st) (q := 4) rfl rfl (by omega)]
          have k8 := k2 (st + 4) (by omega)
          refine w_callV (as := [vI (nI (st + 4))]) (st := []) (Tri.mono (d_byteAt hk ht (i := st + 4) (by omega)) (Nat.le_of_ble_eq_true rfl)) rfl rfl tg_X11_byteAt lk_X11_85 in_X11_byteAt se_X11_byteAt rfl dX11_ends_25 rfl (Nat.le_of_ble_eq_true rfl) (Nat.le_refl _) (Nat.le_refl _) ?_
          rintro _ _ ⟨rfl, rfl⟩ -
          refine w_iload_n dX11_ends_28 rfl ?_
          refine w_icmp_ne (tgt := 54) dX11_ends_29 (by decide) (fun h3 => ?_) (fun h3 => ?_)
          · skip
            replace h3 : ¬ (((b (st + 4) : Nat) : Int) = c9.toInt) := fun q => h3 ((zeq (z_nI (by omega)) rfl).mpr q)
            first
            | (exfalso; omega)
            | skip
              refine w_iconst (v := 0) dX11_ends_54 (by decide) ?_
              exact w_ireturn dX11_ends_55 rfl (rfl) rfl (⟨congrArg (fun z => some (vI z)) (bI_f (by omega)).symm, rfl⟩)
          · skip
            replace h3 : ((b (st + 4) : Nat) : Int) = c9.toInt := (zeq (z_nI (by omega)) rfl).mp h3
            first
            | (exfalso; omega)
            | skip
              refine w_iload_n dX11_ends_32 rfl ?_
              refine w_if_eq (tgt := 50) dX11_ends_33 (by decide) (fun h4 => ?_) (fun h4 => ?_)
              · skip
                replace h4 : d9.toInt = 0 := (zeq rfl (by decide)).mp h4
                first
                | (exfalso; omega)
                | skip
                  refine w_iconst (v := 1) dX11_ends_50 (by decide) ?_
                  refine w_goto (tgt := 55) dX11_ends_51 (by decide) ?_
                  exact w_ireturn dX11_ends_55 rfl (rfl) rfl (⟨congrArg (fun z => some (vI z)) (bI_t (by omega)).symm, rfl⟩)
              · skip
                replace h4 : ¬ (d9.toInt = 0) := fun q => h4 ((zeq rfl (by decide)).mpr q)
                first
                | (exfalso; omega)
                | skip
                  refine w_aload_n dX11_ends_36 rfl ?_
                  refine w_aload_n dX11_ends_37 rfl ?_
                  refine w_getI ff_X11_76 rfl rfl dX11_ends_38 ?_
                  rw [show (I 30 0 0 12 : Int32) = nI st from z12]
                  refine w_iconst (v := 5) dX11_ends_41 (by decide) ?_
                  refine w_iadd dX11_ends_42 ?_
                  rw [show ((nI st) + (5) : Int32) = nI (st + 5) from ar_add (p := st) (q := 5) rfl rfl (by omega)]
                  have k8 := k2 (st + 5) (by omega)
                  refine w_callV (as := [vI (nI (st + 5))]) (st := []) (Tri.mono (d_byteAt hk ht (i := st + 5) (by omega)) (Nat.le_of_ble_eq_true rfl)) rfl rfl tg_X11_byteAt lk_X11_85 in_X11_byteAt se_X11_byteAt rfl dX11_ends_43 rfl (Nat.le_of_ble_eq_true rfl) (Nat.le_refl _) (Nat.le_refl _) ?_
                  rintro _ _ ⟨rfl, rfl⟩ -
                  refine w_iload_n dX11_ends_46 rfl ?_
                  refine w_icmp_ne (tgt := 54) dX11_ends_47 (by decide) (fun h5 => ?_) (fun h5 => ?_)
                  · skip
                    replace h5 : ¬ (((b (st + 5) : Nat) : Int) = d9.toInt) := fun q => h5 ((zeq (z_nI (by omega)) rfl).mpr q)
                    first
                    | (exfalso; omega)
                    | skip
                      refine w_iconst (v := 0) dX11_ends_54 (by decide) ?_
                      exact w_ireturn dX11_ends_55 rfl (rfl) rfl (⟨congrArg (fun z => some (vI z)) (bI_f (by omega)).symm, rfl⟩)
                  · skip
                    replace h5 : ((b (st + 5) : Nat) : Int) = d9.toInt := (zeq (z_nI (by omega)) rfl).mp h5
                    first
                    | (exfalso; omega)
                    | skip
                      refine w_iconst (v := 1) dX11_ends_50 (by decide) ?_
                      refine w_goto (tgt := 55) dX11_ends_51 (by decide) ?_
                      exact w_ireturn dX11_ends_55 rfl (rfl) rfl (⟨congrArg (fun z => some (vI z)) (bI_t (by omega)).symm, rfl⟩)

theorem d_judgeNow {I : xF4 Int32} {L : xF4 Int64} {n : Nat} {b : Nat → Nat} (hk : BK n b) (ht : TN I n b) {st nx : Nat} (z12 : I 30 0 0 12 = nI st) (z11 : I 30 0 0 11 = nI nx) (hst : st ≤ nx) (hnx : nx ≤ n) (y4 : ¬ spT b 4 st nx) (y5 : ¬ spT b 5 st nx) (y6 : ¬ spT b 6 st nx) (y7 : ¬ spT b 7 st nx) (y8 : ¬ spT b 8 st nx) : Tri 2 109 m_X11_judgeNow [vR 30 0 0] (rM I L) (pI (if wdT b st nx = 9 then (-4) else nI (wdT b st nx)) I L) := by
  refine ⟨k_X11_judgeNow, Nat.le_of_ble_eq_true rfl, ?_⟩
  show Wp _ _ _ 0 [some (vR 30 0 0)] [] (rM I L) _
  refine w_aload_n dX11_judgeNow_0 rfl ?_
  refine w_iconst (v := 5) dX11_judgeNow_1 (by decide) ?_
  refine w_bipush (v := 112) dX11_judgeNow_2 (by decide) ?_
  refine w_bipush (v := 108) dX11_judgeNow_4 (by decide) ?_
  refine w_bipush (v := 97) dX11_judgeNow_6 (by decide) ?_
  refine w_callV (as := [vI (5), vI (112), vI (108), vI (97)]) (st := []) (Tri.mono (d_is hk ht z12 z11 hst hnx (k := 5) (a := 112) (c := 108) (d := 97) (by decide) (by decide) (by decide) (by decide) (by decide)) (Nat.le_of_ble_eq_true rfl)) rfl rfl tg_X11_is lk_X11_89 in_X11_is se_X11_is rfl dX11_judgeNow_8 rfl (Nat.le_of_ble_eq_true rfl) (Nat.le_refl _) (Nat.le_refl _) ?_
  rintro _ _ ⟨rfl, rfl⟩ -
  refine w_ifeq_b (tgt := 28) dX11_judgeNow_11 (by decide) (fun h1 => ?_) (fun h1 => ?_)
  · skip
    first
    | (exfalso; omega)
    | skip
      refine w_aload_n dX11_judgeNow_28 rfl ?_
      refine w_iconst (v := 5) dX11_judgeNow_29 (by decide) ?_
      refine w_bipush (v := 121) dX11_judgeNow_30 (by decide) ?_
      refine w_bipush (v := 111) dX11_judgeNow_32 (by decide) ?_
      refine w_bipush (v := 117) dX11_judgeNow_34 (by decide) ?_
      refine w_callV (as := [vI (5), vI (121), vI (111), vI (117)]) (st := []) (Tri.mono (d_is hk ht z12 z11 hst hnx (k := 5) (a := 121) (c := 111) (d := 117) (by decide) (by decide) (by decide) (by decide) (by decide)) (Nat.le_of_ble_eq_true rfl)) rfl rfl tg_X11_is lk_X11_89 in_X11_is se_X11_is rfl dX11_judgeNow_36 rfl (Nat.le_of_ble_eq_true rfl) (Nat.le_refl _) (Nat.le_refl _) ?_
      rintro _ _ ⟨rfl, rfl⟩ -
      refine w_ifeq_b (tgt := 56) dX11_judgeNow_39 (by decide) (fun h2 => ?_) (fun h2 => ?_)
      · skip
        first
        | (exfalso; omega)
        | skip
          refine w_aload_n dX11_judgeNow_56 rfl ?_
          refine w_iconst (v := 3) dX11_judgeNow_57 (by decide) ?_
          refine w_bipush (v := 111) dX11_judgeNow_58 (by decide) ?_
          refine w_bipush (v := 108) dX11_judgeNow_60 (by decide) ?_
          refine w_bipush (v := 100) dX11_judgeNow_62 (by decide) ?_
          refine w_callV (as := [vI (3), vI (111), vI (108), vI (100)]) (st := []) (Tri.mono (d_is hk ht z12 z11 hst hnx (k := 3) (a := 111) (c := 108) (d := 100) (by decide) (by decide) (by decide) (by decide) (by decide)) (Nat.le_of_ble_eq_true rfl)) rfl rfl tg_X11_is lk_X11_89 in_X11_is se_X11_is rfl dX11_judgeNow_64 rfl (Nat.le_of_ble_eq_true rfl) (Nat.le_refl _) (Nat.le_refl _) ?_
          rintro _ _ ⟨rfl, rfl⟩ -
          refine w_ifeq_b (tgt := 74) dX11_judgeNow_67 (by decide) (fun h3 => ?_) (fun h3 => ?_)
          · skip
            first
            | (exfalso; omega)
            | skip
              refine w_aload_n dX11_judgeNow_74 rfl ?_
              refine w_bipush (v := 6) dX11_judgeNow_75 (by decide) ?_
              refine w_bipush (v := 104) dX11_judgeNow_77 (by decide) ?_
              refine w_bipush (v := 101) dX11_judgeNow_79 (by decide) ?_
              refine w_bipush (v := 114) dX11_judgeNow_81 (by decide) ?_
              refine w_callV (as := [vI (6), vI (104), vI (101), vI (114)]) (st := []) (Tri.mono (d_is hk ht z12 z11 hst hnx (k := 6) (a := 104) (c := 101) (d := 114) (by decide) (by decide) (by decide) (by decide) (by decide)) (Nat.le_of_ble_eq_true rfl)) rfl rfl tg_X11_is lk_X11_89 in_X11_is se_X11_is rfl dX11_judgeNow_83 rfl (Nat.le_of_ble_eq_true rfl) (Nat.le_refl _) (Nat.le_refl _) ?_
              rintro _ _ ⟨rfl, rfl⟩ -
              refine w_ifeq_b (tgt := 106) dX11_judgeNow_86 (by decide) (fun h4 => ?_) (fun h4 => ?_)
              · skip
                first
                | (exfalso; omega)
                | skip
                  refine w_bipush (v := (-4)) dX11_judgeNow_106 (by decide) ?_
                  have w9 : wdT b st nx = 9 := wd_no (fun j hj => by
                    rcases (show j = 0 ∨ j = 1 ∨ j = 2 ∨ j = 3 ∨ j = 4 ∨ j = 5 ∨ j = 6 ∨ j = 7 ∨ j = 8 by omega) with rfl | rfl | rfl | rfl | rfl | rfl | rfl | rfl | rfl
                    · intro z; have := (sp_0 hk hnx).mp z; omega
                    · intro z; have := (sp_1 hk hnx).mp z; omega
                    · intro z; have := (sp_2 hk hnx).mp z; omega
                    · intro z; have := (sp_3 hk hnx).mp z; omega
                    · exact y4
                    · exact y5
                    · exact y6
                    · exact y7
                    · exact y8)
                  rw [if_pos w9]
                  exact w_ireturn dX11_judgeNow_108 rfl (rfl) rfl (⟨rfl, rfl⟩)
              · skip
                first
                | (exfalso; omega)
                | skip
                  refine w_aload_n dX11_judgeNow_89 rfl ?_
                  refine w_bipush (v := 109) dX11_judgeNow_90 (by decide) ?_
                  refine w_bipush (v := 105) dX11_judgeNow_92 (by decide) ?_
                  refine w_bipush (v := 116) dX11_judgeNow_94 (by decide) ?_
                  refine w_callV (as := [vI (109), vI (105), vI (116)]) (st := []) (Tri.mono (d_ends hk ht z12 z11 hst hnx (a := 109) (c := 105) (d := 116) (by decide) (by decide) (by decide) (by omega) (by omega) (by omega)) (Nat.le_of_ble_eq_true rfl)) rfl rfl tg_X11_ends lk_X11_93 in_X11_ends se_X11_ends rfl dX11_judgeNow_96 rfl (Nat.le_of_ble_eq_true rfl) (Nat.le_refl _) (Nat.le_refl _) ?_
                  rintro _ _ ⟨rfl, rfl⟩ -
                  refine w_ifeq_b (tgt := 106) dX11_judgeNow_99 (by decide) (fun h5 => ?_) (fun h5 => ?_)
                  · skip
                    first
                    | (exfalso; omega)
                    | skip
                      refine w_bipush (v := (-4)) dX11_judgeNow_106 (by decide) ?_
                      have w9 : wdT b st nx = 9 := wd_no (fun j hj => by
                        rcases (show j = 0 ∨ j = 1 ∨ j = 2 ∨ j = 3 ∨ j = 4 ∨ j = 5 ∨ j = 6 ∨ j = 7 ∨ j = 8 by omega) with rfl | rfl | rfl | rfl | rfl | rfl | rfl | rfl | rfl
                        · intro z; have := (sp_0 hk hnx).mp z; omega
                        · intro z; have := (sp_1 hk hnx).mp z; omega
                        · intro z; have := (sp_2 hk hnx).mp z; omega
                        · intro z; have := (sp_3 hk hnx).mp z; omega
                        · exact y4
                        · exact y5
                        · exact y6
                        · exact y7
                        · exact y8)
                      rw [if_pos w9]
                      exact w_ireturn dX11_judgeNow_108 rfl (rfl) rfl (⟨rfl, rfl⟩)
                  · skip
                    first
                    | (exfalso; omega)
                    | skip
                      refine w_iconst (v := 3) dX11_judgeNow_102 (by decide) ?_
                      refine w_goto (tgt := 108) dX11_judgeNow_103 (by decide) ?_
                      have w9 : wdT b st nx = 3 := wd_is (by decide) ((sp_3 hk hnx).mpr (by omega))
                      rw [w9, if_neg (by decide)]
                      exact w_ireturn dX11_judgeNow_108 rfl (rfl) rfl (⟨rfl, rfl⟩)
          · skip
            first
            | (exfalso; omega)
            | skip
              refine w_iconst (v := 2) dX11_judgeNow_70 (by decide) ?_
              refine w_goto (tgt := 108) dX11_judgeNow_71 (by decide) ?_
              have w9 : wdT b st nx = 2 := wd_is (by decide) ((sp_2 hk hnx).mpr (by omega))
              rw [w9, if_neg (by decide)]
              exact w_ireturn dX11_judgeNow_108 rfl (rfl) rfl (⟨rfl, rfl⟩)
      · skip
        first
        | (exfalso; omega)
        | skip
          refine w_aload_n dX11_judgeNow_42 rfl ?_
          refine w_bipush (v := 110) dX11_judgeNow_43 (by decide) ?_
          refine w_bipush (v := 103) dX11_judgeNow_45 (by decide) ?_
          refine w_iconst (v := 0) dX11_judgeNow_47 (by decide) ?_
          refine w_callV (as := [vI (110), vI (103), vI (0)]) (st := []) (Tri.mono (d_ends hk ht z12 z11 hst hnx (a := 110) (c := 103) (d := 0) (by decide) (by decide) (by decide) (by omega) (by omega) (by omega)) (Nat.le_of_ble_eq_true rfl)) rfl rfl tg_X11_ends lk_X11_93 in_X11_ends se_X11_ends rfl dX11_judgeNow_48 rfl (Nat.le_of_ble_eq_true rfl) (Nat.le_refl _) (Nat.le_refl _) ?_
          rintro _ _ ⟨rfl, rfl⟩ -
          refine w_ifeq_b (tgt := 56) dX11_judgeNow_51 (by decide) (fun h3 => ?_) (fun h3 => ?_)
          · skip
            first
            | (exfalso; omega)
            | skip
              refine w_aload_n dX11_judgeNow_56 rfl ?_
              refine w_iconst (v := 3) dX11_judgeNow_57 (by decide) ?_
              refine w_bipush (v := 111) dX11_judgeNow_58 (by decide) ?_
              refine w_bipush (v := 108) dX11_judgeNow_60 (by decide) ?_
              refine w_bipush (v := 100) dX11_judgeNow_62 (by decide) ?_
              refine w_callV (as := [vI (3), vI (111), vI (108), vI (100)]) (st := []) (Tri.mono (d_is hk ht z12 z11 hst hnx (k := 3) (a := 111) (c := 108) (d := 100) (by decide) (by decide) (by decide) (by decide) (by decide)) (Nat.le_of_ble_eq_true rfl)) rfl rfl tg_X11_is lk_X11_89 in_X11_is se_X11_is rfl dX11_judgeNow_64 rfl (Nat.le_of_ble_eq_true rfl) (Nat.le_refl _) (Nat.le_refl _) ?_
              rintro _ _ ⟨rfl, rfl⟩ -
              refine w_ifeq_b (tgt := 74) dX11_judgeNow_67 (by decide) (fun h4 => ?_) (fun h4 => ?_)
              · skip
                first
                | (exfalso; omega)
                | skip
                  refine w_aload_n dX11_judgeNow_74 rfl ?_
                  refine w_bipush (v := 6) dX11_judgeNow_75 (by decide) ?_
                  refine w_bipush (v := 104) dX11_judgeNow_77 (by decide) ?_
                  refine w_bipush (v := 101) dX11_judgeNow_79 (by decide) ?_
                  refine w_bipush (v := 114) dX11_judgeNow_81 (by decide) ?_
                  refine w_callV (as := [vI (6), vI (104), vI (101), vI (114)]) (st := []) (Tri.mono (d_is hk ht z12 z11 hst hnx (k := 6) (a := 104) (c := 101) (d := 114) (by decide) (by decide) (by decide) (by decide) (by decide)) (Nat.le_of_ble_eq_true rfl)) rfl rfl tg_X11_is lk_X11_89 in_X11_is se_X11_is rfl dX11_judgeNow_83 rfl (Nat.le_of_ble_eq_true rfl) (Nat.le_refl _) (Nat.le_refl _) ?_
                  rintro _ _ ⟨rfl, rfl⟩ -
                  refine w_ifeq_b (tgt := 106) dX11_judgeNow_86 (by decide) (fun h5 => ?_) (fun h5 => ?_)
                  · skip
                    first
                    | (exfalso; omega)
                    | skip
                      refine w_bipush (v := (-4)) dX11_judgeNow_106 (by decide) ?_
                      have w9 : wdT b st nx = 9 := wd_no (fun j hj => by
                        rcases (show j = 0 ∨ j = 1 ∨ j = 2 ∨ j = 3 ∨ j = 4 ∨ j = 5 ∨ j = 6 ∨ j = 7 ∨ j = 8 by omega) with rfl | rfl | rfl | rfl | rfl | rfl | rfl | rfl | rfl
                        · intro z; have := (sp_0 hk hnx).mp z; omega
                        · intro z; have := (sp_1 hk hnx).mp z; omega
                        · intro z; have := (sp_2 hk hnx).mp z; omega
                        · intro z; have := (sp_3 hk hnx).mp z; omega
                        · exact y4
                        · exact y5
                        · exact y6
                        · exact y7
                        · exact y8)
                      rw [if_pos w9]
                      exact w_ireturn dX11_judgeNow_108 rfl (rfl) rfl (⟨rfl, rfl⟩)
                  · skip
                    first
                    | (exfalso; omega)
                    | skip
                      refine w_aload_n dX11_judgeNow_89 rfl ?_
                      refine w_bipush (v := 109) dX11_judgeNow_90 (by decide) ?_
                      refine w_bipush (v := 105) dX11_judgeNow_92 (by decide) ?_
                      refine w_bipush (v := 116) dX11_judgeNow_94 (by decide) ?_
                      refine w_callV (as := [vI (109), vI (105), vI (116)]) (st := []) (Tri.mono (d_ends hk ht z12 z11 hst hnx (a := 109) (c := 105) (d := 116) (by decide) (by decide) (by decide) (by omega) (by omega) (by omega)) (Nat.le_of_ble_eq_true rfl)) rfl rfl tg_X11_ends lk_X11_93 in_X11_ends se_X11_ends rfl dX11_judgeNow_96 rfl (Nat.le_of_ble_eq_true rfl) (Nat.le_refl _) (Nat.le_refl _) ?_
                      rintro _ _ ⟨rfl, rfl⟩ -
                      refine w_ifeq_b (tgt := 106) dX11_judgeNow_99 (by decide) (fun h6 => ?_) (fun h6 => ?_)
                      · skip
                        first
                        | (exfalso; omega)
                        | skip
                          refine w_bipush (v := (-4)) dX11_judgeNow_106 (by decide) ?_
                          have w9 : wdT b st nx = 9 := wd_no (fun j hj => by
                            rcases (show j = 0 ∨ j = 1 ∨ j = 2 ∨ j = 3 ∨ j = 4 ∨ j = 5 ∨ j = 6 ∨ j = 7 ∨ j = 8 by omega) with rfl | rfl | rfl | rfl | rfl | rfl | rfl | rfl | rfl
                            · intro z; have := (sp_0 hk hnx).mp z; omega
                            · intro z; have := (sp_1 hk hnx).mp z; omega
                            · intro z; have := (sp_2 hk hnx).mp z; omega
                            · intro z; have := (sp_3 hk hnx).mp z; omega
                            · exact y4
                            · exact y5
                            · exact y6
                            · exact y7
                            · exact y8)
                          rw [if_pos w9]
                          exact w_ireturn dX11_judgeNow_108 rfl (rfl) rfl (⟨rfl, rfl⟩)
                      · skip
                        first
                        | (exfalso; omega)
                        | skip
                          refine w_iconst (v := 3) dX11_judgeNow_102 (by decide) ?_
                          refine w_goto (tgt := 108) dX11_judgeNow_103 (by decide) ?_
                          have w9 : wdT b st nx = 3 := wd_is (by decide) ((sp_3 hk hnx).mpr (by omega))
                          rw [w9, if_neg (by decide)]
                          exact w_ireturn dX11_judgeNow_108 rfl (rfl) rfl (⟨rfl, rfl⟩)
              · skip
                first
                | (exfalso; omega)
                | skip
                  refine w_iconst (v := 2) dX11_judgeNow_70 (by decide) ?_
                  refine w_goto (tgt := 108) dX11_judgeNow_71 (by decide) ?_
                  have w9 : wdT b st nx = 2 := wd_is (by decide) ((sp_2 hk hnx).mpr (by omega))
                  rw [w9, if_neg (by decide)]
                  exact w_ireturn dX11_judgeNow_108 rfl (rfl) rfl (⟨rfl, rfl⟩)
          · skip
            first
            | (exfalso; omega)
            | skip
              refine w_iconst (v := 1) dX11_judgeNow_54 (by decide) ?_
              have w9 : wdT b st nx = 1 := wd_is (by decide) ((sp_1 hk hnx).mpr (by omega))
              rw [w9, if_neg (by decide)]
              exact w_ireturn dX11_judgeNow_55 rfl (rfl) rfl (⟨rfl, rfl⟩)
  · skip
    first
    | (exfalso; omega)
    | skip
      refine w_aload_n dX11_judgeNow_14 rfl ?_
      refine w_bipush (v := 105) dX11_judgeNow_15 (by decide) ?_
      refine w_bipush (v := 110) dX11_judgeNow_17 (by decide) ?_
      refine w_iconst (v := 0) dX11_judgeNow_19 (by decide) ?_
      refine w_callV (as := [vI (105), vI (110), vI (0)]) (st := []) (Tri.mono (d_ends hk ht z12 z11 hst hnx (a := 105) (c := 110) (d := 0) (by decide) (by decide) (by decide) (by omega) (by omega) (by omega)) (Nat.le_of_ble_eq_true rfl)) rfl rfl tg_X11_ends lk_X11_93 in_X11_ends se_X11_ends rfl dX11_judgeNow_20 rfl (Nat.le_of_ble_eq_true rfl) (Nat.le_refl _) (Nat.le_refl _) ?_
      rintro _ _ ⟨rfl, rfl⟩ -
      refine w_ifeq_b (tgt := 28) dX11_judgeNow_23 (by decide) (fun h2 => ?_) (fun h2 => ?_)
      · skip
        first
        | (exfalso; omega)
        | skip
          refine w_aload_n dX11_judgeNow_28 rfl ?_
          refine w_iconst (v := 5) dX11_judgeNow_29 (by decide) ?_
          refine w_bipush (v := 121) dX11_judgeNow_30 (by decide) ?_
          refine w_bipush (v := 111) dX11_judgeNow_32 (by decide) ?_
          refine w_bipush (v := 117) dX11_judgeNow_34 (by decide) ?_
          refine w_callV (as := [vI (5), vI (121), vI (111), vI (117)]) (st := []) (Tri.mono (d_is hk ht z12 z11 hst hnx (k := 5) (a := 121) (c := 111) (d := 117) (by decide) (by decide) (by decide) (by decide) (by decide)) (Nat.le_of_ble_eq_true rfl)) rfl rfl tg_X11_is lk_X11_89 in_X11_is se_X11_is rfl dX11_judgeNow_36 rfl (Nat.le_of_ble_eq_true rfl) (Nat.le_refl _) (Nat.le_refl _) ?_
          rintro _ _ ⟨rfl, rfl⟩ -
          refine w_ifeq_b (tgt := 56) dX11_judgeNow_39 (by decide) (fun h3 => ?_) (fun h3 => ?_)
          · skip
            first
            | (exfalso; omega)
            | skip
              refine w_aload_n dX11_judgeNow_56 rfl ?_
              refine w_iconst (v := 3) dX11_judgeNow_57 (by decide) ?_
              refine w_bipush (v := 111) dX11_judgeNow_58 (by decide) ?_
              refine w_bipush (v := 108) dX11_judgeNow_60 (by decide) ?_
              refine w_bipush (v := 100) dX11_judgeNow_62 (by decide) ?_
              refine w_callV (as := [vI (3), vI (111), vI (108), vI (100)]) (st := []) (Tri.mono (d_is hk ht z12 z11 hst hnx (k := 3) (a := 111) (c := 108) (d := 100) (by decide) (by decide) (by decide) (by decide) (by decide)) (Nat.le_of_ble_eq_true rfl)) rfl rfl tg_X11_is lk_X11_89 in_X11_is se_X11_is rfl dX11_judgeNow_64 rfl (Nat.le_of_ble_eq_true rfl) (Nat.le_refl _) (Nat.le_refl _) ?_
              rintro _ _ ⟨rfl, rfl⟩ -
              refine w_ifeq_b (tgt := 74) dX11_judgeNow_67 (by decide) (fun h4 => ?_) (fun h4 => ?_)
              · skip
                first
                | (exfalso; omega)
                | skip
                  refine w_aload_n dX11_judgeNow_74 rfl ?_
                  refine w_bipush (v := 6) dX11_judgeNow_75 (by decide) ?_
                  refine w_bipush (v := 104) dX11_judgeNow_77 (by decide) ?_
                  refine w_bipush (v := 101) dX11_judgeNow_79 (by decide) ?_
                  refine w_bipush (v := 114) dX11_judgeNow_81 (by decide) ?_
                  refine w_callV (as := [vI (6), vI (104), vI (101), vI (114)]) (st := []) (Tri.mono (d_is hk ht z12 z11 hst hnx (k := 6) (a := 104) (c := 101) (d := 114) (by decide) (by decide) (by decide) (by decide) (by decide)) (Nat.le_of_ble_eq_true rfl)) rfl rfl tg_X11_is lk_X11_89 in_X11_is se_X11_is rfl dX11_judgeNow_83 rfl (Nat.le_of_ble_eq_true rfl) (Nat.le_refl _) (Nat.le_refl _) ?_
                  rintro _ _ ⟨rfl, rfl⟩ -
                  refine w_ifeq_b (tgt := 106) dX11_judgeNow_86 (by decide) (fun h5 => ?_) (fun h5 => ?_)
                  · skip
                    first
                    | (exfalso; omega)
                    | skip
                      refine w_bipush (v := (-4)) dX11_judgeNow_106 (by decide) ?_
                      have w9 : wdT b st nx = 9 := wd_no (fun j hj => by
                        rcases (show j = 0 ∨ j = 1 ∨ j = 2 ∨ j = 3 ∨ j = 4 ∨ j = 5 ∨ j = 6 ∨ j = 7 ∨ j = 8 by omega) with rfl | rfl | rfl | rfl | rfl | rfl | rfl | rfl | rfl
                        · intro z; have := (sp_0 hk hnx).mp z; omega
                        · intro z; have := (sp_1 hk hnx).mp z; omega
                        · intro z; have := (sp_2 hk hnx).mp z; omega
                        · intro z; have := (sp_3 hk hnx).mp z; omega
                        · exact y4
                        · exact y5
                        · exact y6
                        · exact y7
                        · exact y8)
                      rw [if_pos w9]
                      exact w_ireturn dX11_judgeNow_108 rfl (rfl) rfl (⟨rfl, rfl⟩)
                  · skip
                    first
                    | (exfalso; omega)
                    | skip
                      refine w_aload_n dX11_judgeNow_89 rfl ?_
                      refine w_bipush (v := 109) dX11_judgeNow_90 (by decide) ?_
                      refine w_bipush (v := 105) dX11_judgeNow_92 (by decide) ?_
                      refine w_bipush (v := 116) dX11_judgeNow_94 (by decide) ?_
                      refine w_callV (as := [vI (109), vI (105), vI (116)]) (st := []) (Tri.mono (d_ends hk ht z12 z11 hst hnx (a := 109) (c := 105) (d := 116) (by decide) (by decide) (by decide) (by omega) (by omega) (by omega)) (Nat.le_of_ble_eq_true rfl)) rfl rfl tg_X11_ends lk_X11_93 in_X11_ends se_X11_ends rfl dX11_judgeNow_96 rfl (Nat.le_of_ble_eq_true rfl) (Nat.le_refl _) (Nat.le_refl _) ?_
                      rintro _ _ ⟨rfl, rfl⟩ -
                      refine w_ifeq_b (tgt := 106) dX11_judgeNow_99 (by decide) (fun h6 => ?_) (fun h6 => ?_)
                      · skip
                        first
                        | (exfalso; omega)
                        | skip
                          refine w_bipush (v := (-4)) dX11_judgeNow_106 (by decide) ?_
                          have w9 : wdT b st nx = 9 := wd_no (fun j hj => by
                            rcases (show j = 0 ∨ j = 1 ∨ j = 2 ∨ j = 3 ∨ j = 4 ∨ j = 5 ∨ j = 6 ∨ j = 7 ∨ j = 8 by omega) with rfl | rfl | rfl | rfl | rfl | rfl | rfl | rfl | rfl
                            · intro z; have := (sp_0 hk hnx).mp z; omega
                            · intro z; have := (sp_1 hk hnx).mp z; omega
                            · intro z; have := (sp_2 hk hnx).mp z; omega
                            · intro z; have := (sp_3 hk hnx).mp z; omega
                            · exact y4
                            · exact y5
                            · exact y6
                            · exact y7
                            · exact y8)
                          rw [if_pos w9]
                          exact w_ireturn dX11_judgeNow_108 rfl (rfl) rfl (⟨rfl, rfl⟩)
                      · skip
                        first
                        | (exfalso; omega)
                        | skip
                          refine w_iconst (v := 3) dX11_judgeNow_102 (by decide) ?_
                          refine w_goto (tgt := 108) dX11_judgeNow_103 (by decide) ?_
                          have w9 : wdT b st nx = 3 := wd_is (by decide) ((sp_3 hk hnx).mpr (by omega))
                          rw [w9, if_neg (by decide)]
                          exact w_ireturn dX11_judgeNow_108 rfl (rfl) rfl (⟨rfl, rfl⟩)
              · skip
                first
                | (exfalso; omega)
                | skip
                  refine w_iconst (v := 2) dX11_judgeNow_70 (by decide) ?_
                  refine w_goto (tgt := 108) dX11_judgeNow_71 (by decide) ?_
                  have w9 : wdT b st nx = 2 := wd_is (by decide) ((sp_2 hk hnx).mpr (by omega))
                  rw [w9, if_neg (by decide)]
                  exact w_ireturn dX11_judgeNow_108 rfl (rfl) rfl (⟨rfl, rfl⟩)
          · skip
            first
            | (exfalso; omega)
            | skip
              refine w_aload_n dX11_judgeNow_42 rfl ?_
              refine w_bipush (v := 110) dX11_judgeNow_43 (by decide) ?_
              refine w_bipush (v := 103) dX11_judgeNow_45 (by decide) ?_
              refine w_iconst (v := 0) dX11_judgeNow_47 (by decide) ?_
              refine w_callV (as := [vI (110), vI (103), vI (0)]) (st := []) (Tri.mono (d_ends hk ht z12 z11 hst hnx (a := 110) (c := 103) (d := 0) (by decide) (by decide) (by decide) (by omega) (by omega) (by omega)) (Nat.le_of_ble_eq_true rfl)) rfl rfl tg_X11_ends lk_X11_93 in_X11_ends se_X11_ends rfl dX11_judgeNow_48 rfl (Nat.le_of_ble_eq_true rfl) (Nat.le_refl _) (Nat.le_refl _) ?_
              rintro _ _ ⟨rfl, rfl⟩ -
              refine w_ifeq_b (tgt := 56) dX11_judgeNow_51 (by decide) (fun h4 => ?_) (fun h4 => ?_)
              · skip
                first
                | (exfalso; omega)
                | skip
                  refine w_aload_n dX11_judgeNow_56 rfl ?_
                  refine w_iconst (v := 3) dX11_judgeNow_57 (by decide) ?_
                  refine w_bipush (v := 111) dX11_judgeNow_58 (by decide) ?_
                  refine w_bipush (v := 108) dX11_judgeNow_60 (by decide) ?_
                  refine w_bipush (v := 100) dX11_judgeNow_62 (by decide) ?_
                  refine w_callV (as := [vI (3), vI (111), vI (108), vI (100)]) (st := []) (Tri.mono (d_is hk ht z12 z11 hst hnx (k := 3) (a := 111) (c := 108) (d := 100) (by decide) (by decide) (by decide) (by decide) (by decide)) (Nat.le_of_ble_eq_true rfl)) rfl rfl tg_X11_is lk_X11_89 in_X11_is se_X11_is rfl dX11_judgeNow_64 rfl (Nat.le_of_ble_eq_true rfl) (Nat.le_refl _) (Nat.le_refl _) ?_
                  rintro _ _ ⟨rfl, rfl⟩ -
                  refine w_ifeq_b (tgt := 74) dX11_judgeNow_67 (by decide) (fun h5 => ?_) (fun h5 => ?_)
                  · skip
                    first
                    | (exfalso; omega)
                    | skip
                      refine w_aload_n dX11_judgeNow_74 rfl ?_
                      refine w_bipush (v := 6) dX11_judgeNow_75 (by decide) ?_
                      refine w_bipush (v := 104) dX11_judgeNow_77 (by decide) ?_
                      refine w_bipush (v := 101) dX11_judgeNow_79 (by decide) ?_
                      refine w_bipush (v := 114) dX11_judgeNow_81 (by decide) ?_
                      refine w_callV (as := [vI (6), vI (104), vI (101), vI (114)]) (st := []) (Tri.mono (d_is hk ht z12 z11 hst hnx (k := 6) (a := 104) (c := 101) (d := 114) (by decide) (by decide) (by decide) (by decide) (by decide)) (Nat.le_of_ble_eq_true rfl)) rfl rfl tg_X11_is lk_X11_89 in_X11_is se_X11_is rfl dX11_judgeNow_83 rfl (Nat.le_of_ble_eq_true rfl) (Nat.le_refl _) (Nat.le_refl _) ?_
                      rintro _ _ ⟨rfl, rfl⟩ -
                      refine w_ifeq_b (tgt := 106) dX11_judgeNow_86 (by decide) (fun h6 => ?_) (fun h6 => ?_)
                      · skip
                        first
                        | (exfalso; omega)
                        | skip
                          refine w_bipush (v := (-4)) dX11_judgeNow_106 (by decide) ?_
                          have w9 : wdT b st nx = 9 := wd_no (fun j hj => by
                            rcases (show j = 0 ∨ j = 1 ∨ j = 2 ∨ j = 3 ∨ j = 4 ∨ j = 5 ∨ j = 6 ∨ j = 7 ∨ j = 8 by omega) with rfl | rfl | rfl | rfl | rfl | rfl | rfl | rfl | rfl
                            · intro z; have := (sp_0 hk hnx).mp z; omega
                            · intro z; have := (sp_1 hk hnx).mp z; omega
                            · intro z; have := (sp_2 hk hnx).mp z; omega
                            · intro z; have := (sp_3 hk hnx).mp z; omega
                            · exact y4
                            · exact y5
                            · exact y6
                            · exact y7
                            · exact y8)
                          rw [if_pos w9]
                          exact w_ireturn dX11_judgeNow_108 rfl (rfl) rfl (⟨rfl, rfl⟩)
                      · skip
                        first
                        | (exfalso; omega)
                        | skip
                          refine w_aload_n dX11_judgeNow_89 rfl ?_
                          refine w_bipush (v := 109) dX11_judgeNow_90 (by decide) ?_
                          refine w_bipush (v := 105) dX11_judgeNow_92 (by decide) ?_
                          refine w_bipush (v := 116) dX11_judgeNow_94 (by decide) ?_
                          refine w_callV (as := [vI (109), vI (105), vI (116)]) (st := []) (Tri.mono (d_ends hk ht z12 z11 hst hnx (a := 109) (c := 105) (d := 116) (by decide) (by decide) (by decide) (by omega) (by omega) (by omega)) (Nat.le_of_ble_eq_true rfl)) rfl rfl tg_X11_ends lk_X11_93 in_X11_ends se_X11_ends rfl dX11_judgeNow_96 rfl (Nat.le_of_ble_eq_true rfl) (Nat.le_refl _) (Nat.le_refl _) ?_
                          rintro _ _ ⟨rfl, rfl⟩ -
                          refine w_ifeq_b (tgt := 106) dX11_judgeNow_99 (by decide) (fun h7 => ?_) (fun h7 => ?_)
                          · skip
                            first
                            | (exfalso; omega)
                            | skip
                              refine w_bipush (v := (-4)) dX11_judgeNow_106 (by decide) ?_
                              have w9 : wdT b st nx = 9 := wd_no (fun j hj => by
                                rcases (show j = 0 ∨ j = 1 ∨ j = 2 ∨ j = 3 ∨ j = 4 ∨ j = 5 ∨ j = 6 ∨ j = 7 ∨ j = 8 by omega) with rfl | rfl | rfl | rfl | rfl | rfl | rfl | rfl | rfl
                                · intro z; have := (sp_0 hk hnx).mp z; omega
                                · intro z; have := (sp_1 hk hnx).mp z; omega
                                · intro z; have := (sp_2 hk hnx).mp z; omega
                                · intro z; have := (sp_3 hk hnx).mp z; omega
                                · exact y4
                                · exact y5
                                · exact y6
                                · exact y7
                                · exact y8)
                              rw [if_pos w9]
                              exact w_ireturn dX11_judgeNow_108 rfl (rfl) rfl (⟨rfl, rfl⟩)
                          · skip
                            first
                            | (exfalso; omega)
                            | skip
                              refine w_iconst (v := 3) dX11_judgeNow_102 (by decide) ?_
                              refine w_goto (tgt := 108) dX11_judgeNow_103 (by decide) ?_
                              have w9 : wdT b st nx = 3 := wd_is (by decide) ((sp_3 hk hnx).mpr (by omega))
                              rw [w9, if_neg (by decide)]
                              exact w_ireturn dX11_judgeNow_108 rfl (rfl) rfl (⟨rfl, rfl⟩)
                  · skip
                    first
                    | (exfalso; omega)
                    | skip
                      refine w_iconst (v := 2) dX11_judgeNow_70 (by decide) ?_
                      refine w_goto (tgt := 108) dX11_judgeNow_71 (by decide) ?_
                      have w9 : wdT b st nx = 2 := wd_is (by decide) ((sp_2 hk hnx).mpr (by omega))
                      rw [w9, if_neg (by decide)]
                      exact w_ireturn dX11_judgeNow_108 rfl (rfl) rfl (⟨rfl, rfl⟩)
              · skip
                first
                | (exfalso; omega)
                | skip
                  refine w_iconst (v := 1) dX11_judgeNow_54 (by decide) ?_
                  have w9 : wdT b st nx = 1 := wd_is (by decide) ((sp_1 hk hnx).mpr (by omega))
                  rw [w9, if_neg (by decide)]
                  exact w_ireturn dX11_judgeNow_55 rfl (rfl) rfl (⟨rfl, rfl⟩)
      · skip
        first
        | (exfalso; omega)
        | skip
          refine w_iconst (v := 0) dX11_judgeNow_26 (by decide) ?_
          have w9 : wdT b st nx = 0 := wd_is (by decide) ((sp_0 hk hnx).mpr (by omega))
          rw [w9, if_neg (by decide)]
          exact w_ireturn dX11_judgeNow_27 rfl (rfl) rfl (⟨rfl, rfl⟩)

theorem d_lineNow {I : xF4 Int32} {L : xF4 Int64} {n : Nat} {b : Nat → Nat} (hk : BK n b) (ht : TN I n b) {st nx : Nat} (z12 : I 30 0 0 12 = nI st) (z11 : I 30 0 0 11 = nI nx) (hst : st ≤ nx) (hnx : nx ≤ n) : Tri 3 109 m_X11_lineNow [vR 30 0 0] (rM I L) (pI (if wdT b st nx = 9 then (-4) else nI (wdT b st nx)) I L) := by
  refine ⟨k_X11_lineNow, Nat.le_of_ble_eq_true rfl, ?_⟩
  show Wp _ _ _ 0 [some (vR 30 0 0)] [] (rM I L) _
  refine w_aload_n dX11_lineNow_0 rfl ?_
  refine w_iconst (v := 4) dX11_lineNow_1 (by decide) ?_
  refine w_bipush (v := 103) dX11_lineNow_2 (by decide) ?_
  refine w_bipush (v := 97) dX11_lineNow_4 (by decide) ?_
  refine w_bipush (v := 111) dX11_lineNow_6 (by decide) ?_
  refine w_callV (as := [vI (4), vI (103), vI (97), vI (111)]) (st := []) (Tri.mono (d_is hk ht z12 z11 hst hnx (k := 4) (a := 103) (c := 97) (d := 111) (by decide) (by decide) (by decide) (by decide) (by decide)) (Nat.le_of_ble_eq_true rfl)) rfl rfl tg_X11_is lk_X11_89 in_X11_is se_X11_is rfl dX11_lineNow_8 rfl (Nat.le_of_ble_eq_true rfl) (Nat.le_refl _) (Nat.le_refl _) ?_
  rintro _ _ ⟨rfl, rfl⟩ -
  refine w_ifeq_b (tgt := 27) dX11_lineNow_11 (by decide) (fun h1 => ?_) (fun h1 => ?_)
  · skip
    first
    | (exfalso; omega)
    | skip
      refine w_aload_n dX11_lineNow_27 rfl ?_
      refine w_iconst (v := 4) dX11_lineNow_28 (by decide) ?_
      refine w_bipush (v := 102) dX11_lineNow_29 (by decide) ?_
      refine w_bipush (v := 105) dX11_lineNow_31 (by decide) ?_
      refine w_bipush (v := 110) dX11_lineNow_33 (by decide) ?_
      refine w_callV (as := [vI (4), vI (102), vI (105), vI (110)]) (st := []) (Tri.mono (d_is hk ht z12 z11 hst hnx (k := 4) (a := 102) (c := 105) (d := 110) (by decide) (by decide) (by decide) (by decide) (by decide)) (Nat.le_of_ble_eq_true rfl)) rfl rfl tg_X11_is lk_X11_89 in_X11_is se_X11_is rfl dX11_lineNow_35 rfl (Nat.le_of_ble_eq_true rfl) (Nat.le_refl _) (Nat.le_refl _) ?_
      rintro _ _ ⟨rfl, rfl⟩ -
      refine w_ifeq_b (tgt := 54) dX11_lineNow_38 (by decide) (fun h2 => ?_) (fun h2 => ?_)
      · skip
        first
        | (exfalso; omega)
        | skip
          refine w_aload_n dX11_lineNow_54 rfl ?_
          refine w_iconst (v := 4) dX11_lineNow_55 (by decide) ?_
          refine w_bipush (v := 108) dX11_lineNow_56 (by decide) ?_
          refine w_bipush (v := 97) dX11_lineNow_58 (by decide) ?_
          refine w_bipush (v := 115) dX11_lineNow_60 (by decide) ?_
          refine w_callV (as := [vI (4), vI (108), vI (97), vI (115)]) (st := []) (Tri.mono (d_is hk ht z12 z11 hst hnx (k := 4) (a := 108) (c := 97) (d := 115) (by decide) (by decide) (by decide) (by decide) (by decide)) (Nat.le_of_ble_eq_true rfl)) rfl rfl tg_X11_is lk_X11_89 in_X11_is se_X11_is rfl dX11_lineNow_62 rfl (Nat.le_of_ble_eq_true rfl) (Nat.le_refl _) (Nat.le_refl _) ?_
          rintro _ _ ⟨rfl, rfl⟩ -
          refine w_ifeq_b (tgt := 82) dX11_lineNow_65 (by decide) (fun h3 => ?_) (fun h3 => ?_)
          · skip
            first
            | (exfalso; omega)
            | skip
              refine w_aload_n dX11_lineNow_82 rfl ?_
              refine w_bipush (v := 6) dX11_lineNow_83 (by decide) ?_
              refine w_bipush (v := 115) dX11_lineNow_85 (by decide) ?_
              refine w_bipush (v := 116) dX11_lineNow_87 (by decide) ?_
              refine w_bipush (v := 111) dX11_lineNow_89 (by decide) ?_
              refine w_callV (as := [vI (6), vI (115), vI (116), vI (111)]) (st := []) (Tri.mono (d_is hk ht z12 z11 hst hnx (k := 6) (a := 115) (c := 116) (d := 111) (by decide) (by decide) (by decide) (by decide) (by decide)) (Nat.le_of_ble_eq_true rfl)) rfl rfl tg_X11_is lk_X11_89 in_X11_is se_X11_is rfl dX11_lineNow_91 rfl (Nat.le_of_ble_eq_true rfl) (Nat.le_refl _) (Nat.le_refl _) ?_
              rintro _ _ ⟨rfl, rfl⟩ -
              refine w_ifeq_b (tgt := 113) dX11_lineNow_94 (by decide) (fun h4 => ?_) (fun h4 => ?_)
              · skip
                first
                | (exfalso; omega)
                | skip
                  refine w_aload_n dX11_lineNow_113 rfl ?_
                  refine w_iconst (v := 5) dX11_lineNow_114 (by decide) ?_
                  refine w_bipush (v := 99) dX11_lineNow_115 (by decide) ?_
                  refine w_bipush (v := 114) dX11_lineNow_117 (by decide) ?_
                  refine w_bipush (v := 105) dX11_lineNow_119 (by decide) ?_
                  refine w_callV (as := [vI (5), vI (99), vI (114), vI (105)]) (st := []) (Tri.mono (d_is hk ht z12 z11 hst hnx (k := 5) (a := 99) (c := 114) (d := 105) (by decide) (by decide) (by decide) (by decide) (by decide)) (Nat.le_of_ble_eq_true rfl)) rfl rfl tg_X11_is lk_X11_89 in_X11_is se_X11_is rfl dX11_lineNow_121 rfl (Nat.le_of_ble_eq_true rfl) (Nat.le_refl _) (Nat.le_refl _) ?_
                  rintro _ _ ⟨rfl, rfl⟩ -
                  refine w_ifeq_b (tgt := 144) dX11_lineNow_124 (by decide) (fun h5 => ?_) (fun h5 => ?_)
                  · skip
                    first
                    | (exfalso; omega)
                    | skip
                      refine w_aload_n dX11_lineNow_144 rfl ?_
                      refine w_callV (as := []) (st := []) (Tri.mono (d_judgeNow hk ht z12 z11 hst hnx (fun z => by have := (sp_4 hk hnx).mp z; omega) (fun z => by have := (sp_5 hk hnx).mp z; omega) (fun z => by have := (sp_6 hk hnx).mp z; omega) (fun z => by have := (sp_7 hk hnx).mp z; omega) (fun z => by have := (sp_8 hk hnx).mp z; omega)) (Nat.le_of_ble_eq_true rfl)) rfl rfl tg_X11_judgeNow lk_X11_97 in_X11_judgeNow se_X11_judgeNow rfl dX11_lineNow_145 rfl (Nat.le_of_ble_eq_true rfl) (Nat.le_refl _) (Nat.le_refl _) ?_
                      rintro _ _ ⟨rfl, rfl⟩ -
                      exact w_ireturn dX11_lineNow_148 rfl (rfl) rfl (⟨rfl, rfl⟩)
                  · skip
                    first
                    | (exfalso; omega)
                    | skip
                      refine w_aload_n dX11_lineNow_127 rfl ?_
                      refine w_bipush (v := 109) dX11_lineNow_128 (by decide) ?_
                      refine w_bipush (v := 101) dX11_lineNow_130 (by decide) ?_
                      refine w_iconst (v := 0) dX11_lineNow_132 (by decide) ?_
                      refine w_callV (as := [vI (109), vI (101), vI (0)]) (st := []) (Tri.mono (d_ends hk ht z12 z11 hst hnx (a := 109) (c := 101) (d := 0) (by decide) (by decide) (by decide) (by omega) (by omega) (by omega)) (Nat.le_of_ble_eq_true rfl)) rfl rfl tg_X11_ends lk_X11_93 in_X11_ends se_X11_ends rfl dX11_lineNow_133 rfl (Nat.le_of_ble_eq_true rfl) (Nat.le_refl _) (Nat.le_refl _) ?_
                      rintro _ _ ⟨rfl, rfl⟩ -
                      refine w_ifeq_b (tgt := 144) dX11_lineNow_136 (by decide) (fun h6 => ?_) (fun h6 => ?_)
                      · skip
                        first
                        | (exfalso; omega)
                        | skip
                          refine w_aload_n dX11_lineNow_144 rfl ?_
                          refine w_callV (as := []) (st := []) (Tri.mono (d_judgeNow hk ht z12 z11 hst hnx (fun z => by have := (sp_4 hk hnx).mp z; omega) (fun z => by have := (sp_5 hk hnx).mp z; omega) (fun z => by have := (sp_6 hk hnx).mp z; omega) (fun z => by have := (sp_7 hk hnx).mp z; omega) (fun z => by have := (sp_8 hk hnx).mp z; omega)) (Nat.le_of_ble_eq_true rfl)) rfl rfl tg_X11_judgeNow lk_X11_97 in_X11_judgeNow se_X11_judgeNow rfl dX11_lineNow_145 rfl (Nat.le_of_ble_eq_true rfl) (Nat.le_refl _) (Nat.le_refl _) ?_
                          rintro _ _ ⟨rfl, rfl⟩ -
                          exact w_ireturn dX11_lineNow_148 rfl (rfl) rfl (⟨rfl, rfl⟩)
                      · skip
                        first
                        | (exfalso; omega)
                        | skip
                          refine w_bipush (v := 8) dX11_lineNow_139 (by decide) ?_
                          refine w_goto (tgt := 148) dX11_lineNow_141 (by decide) ?_
                          have w9 : wdT b st nx = 8 := wd_is (by decide) ((sp_8 hk hnx).mpr (by omega))
                          rw [w9, if_neg (by decide)]
                          exact w_ireturn dX11_lineNow_148 rfl (rfl) rfl (⟨rfl, rfl⟩)
              · skip
                first
                | (exfalso; omega)
                | skip
                  refine w_aload_n dX11_lineNow_97 rfl ?_
                  refine w_bipush (v := 99) dX11_lineNow_98 (by decide) ?_
                  refine w_bipush (v := 107) dX11_lineNow_100 (by decide) ?_
                  refine w_bipush (v := 115) dX11_lineNow_102 (by decide) ?_
                  refine w_callV (as := [vI (99), vI (107), vI (115)]) (st := []) (Tri.mono (d_ends hk ht z12 z11 hst hnx (a := 99) (c := 107) (d := 115) (by decide) (by decide) (by decide) (by omega) (by omega) (by omega)) (Nat.le_of_ble_eq_true rfl)) rfl rfl tg_X11_ends lk_X11_93 in_X11_ends se_X11_ends rfl dX11_lineNow_104 rfl (Nat.le_of_ble_eq_true rfl) (Nat.le_refl _) (Nat.le_refl _) ?_
                  rintro _ _ ⟨rfl, rfl⟩ -
                  refine w_ifeq_b (tgt := 113) dX11_lineNow_107 (by decide) (fun h5 => ?_) (fun h5 => ?_)
                  · skip
                    first
                    | (exfalso; omega)
                    | skip
                      refine w_aload_n dX11_lineNow_113 rfl ?_
                      refine w_iconst (v := 5) dX11_lineNow_114 (by decide) ?_
                      refine w_bipush (v := 99) dX11_lineNow_115 (by decide) ?_
                      refine w_bipush (v := 114) dX11_lineNow_117 (by decide) ?_
                      refine w_bipush (v := 105) dX11_lineNow_119 (by decide) ?_
                      refine w_callV (as := [vI (5), vI (99), vI (114), vI (105)]) (st := []) (Tri.mono (d_is hk ht z12 z11 hst hnx (k := 5) (a := 99) (c := 114) (d := 105) (by decide) (by decide) (by decide) (by decide) (by decide)) (Nat.le_of_ble_eq_true rfl)) rfl rfl tg_X11_is lk_X11_89 in_X11_is se_X11_is rfl dX11_lineNow_121 rfl (Nat.le_of_ble_eq_true rfl) (Nat.le_refl _) (Nat.le_refl _) ?_
                      rintro _ _ ⟨rfl, rfl⟩ -
                      refine w_ifeq_b (tgt := 144) dX11_lineNow_124 (by decide) (fun h6 => ?_) (fun h6 => ?_)
                      · skip
                        first
                        | (exfalso; omega)
                        | skip
                          refine w_aload_n dX11_lineNow_144 rfl ?_
                          refine w_callV (as := []) (st := []) (Tri.mono (d_judgeNow hk ht z12 z11 hst hnx (fun z => by have := (sp_4 hk hnx).mp z; omega) (fun z => by have := (sp_5 hk hnx).mp z; omega) (fun z => by have := (sp_6 hk hnx).mp z; omega) (fun z => by have := (sp_7 hk hnx).mp z; omega) (fun z => by have := (sp_8 hk hnx).mp z; omega)) (Nat.le_of_ble_eq_true rfl)) rfl rfl tg_X11_judgeNow lk_X11_97 in_X11_judgeNow se_X11_judgeNow rfl dX11_lineNow_145 rfl (Nat.le_of_ble_eq_true rfl) (Nat.le_refl _) (Nat.le_refl _) ?_
                          rintro _ _ ⟨rfl, rfl⟩ -
                          exact w_ireturn dX11_lineNow_148 rfl (rfl) rfl (⟨rfl, rfl⟩)
                      · skip
                        first
                        | (exfalso; omega)
                        | skip
                          refine w_aload_n dX11_lineNow_127 rfl ?_
                          refine w_bipush (v := 109) dX11_lineNow_128 (by decide) ?_
                          refine w_bipush (v := 101) dX11_lineNow_130 (by decide) ?_
                          refine w_iconst (v := 0) dX11_lineNow_132 (by decide) ?_
                          refine w_callV (as := [vI (109), vI (101), vI (0)]) (st := []) (Tri.mono (d_ends hk ht z12 z11 hst hnx (a := 109) (c := 101) (d := 0) (by decide) (by decide) (by decide) (by omega) (by omega) (by omega)) (Nat.le_of_ble_eq_true rfl)) rfl rfl tg_X11_ends lk_X11_93 in_X11_ends se_X11_ends rfl dX11_lineNow_133 rfl (Nat.le_of_ble_eq_true rfl) (Nat.le_refl _) (Nat.le_refl _) ?_
                          rintro _ _ ⟨rfl, rfl⟩ -
                          refine w_ifeq_b (tgt := 144) dX11_lineNow_136 (by decide) (fun h7 => ?_) (fun h7 => ?_)
                          · skip
                            first
                            | (exfalso; omega)
                            | skip
                              refine w_aload_n dX11_lineNow_144 rfl ?_
                              refine w_callV (as := []) (st := []) (Tri.mono (d_judgeNow hk ht z12 z11 hst hnx (fun z => by have := (sp_4 hk hnx).mp z; omega) (fun z => by have := (sp_5 hk hnx).mp z; omega) (fun z => by have := (sp_6 hk hnx).mp z; omega) (fun z => by have := (sp_7 hk hnx).mp z; omega) (fun z => by have := (sp_8 hk hnx).mp z; omega)) (Nat.le_of_ble_eq_true rfl)) rfl rfl tg_X11_judgeNow lk_X11_97 in_X11_judgeNow se_X11_judgeNow rfl dX11_lineNow_145 rfl (Nat.le_of_ble_eq_true rfl) (Nat.le_refl _) (Nat.le_refl _) ?_
                              rintro _ _ ⟨rfl, rfl⟩ -
                              exact w_ireturn dX11_lineNow_148 rfl (rfl) rfl (⟨rfl, rfl⟩)
                          · skip
                            first
                            | (exfalso; omega)
                            | skip
                              refine w_bipush (v := 8) dX11_lineNow_139 (by decide) ?_
                              refine w_goto (tgt := 148) dX11_lineNow_141 (by decide) ?_
                              have w9 : wdT b st nx = 8 := wd_is (by decide) ((sp_8 hk hnx).mpr (by omega))
                              rw [w9, if_neg (by decide)]
                              exact w_ireturn dX11_lineNow_148 rfl (rfl) rfl (⟨rfl, rfl⟩)
                  · skip
                    first
                    | (exfalso; omega)
                    | skip
                      refine w_bipush (v := 7) dX11_lineNow_110 (by decide) ?_
                      have w9 : wdT b st nx = 7 := wd_is (by decide) ((sp_7 hk hnx).mpr (by omega))
                      rw [w9, if_neg (by decide)]
                      exact w_ireturn dX11_lineNow_112 rfl (rfl) rfl (⟨rfl, rfl⟩)
          · skip
            first
            | (exfalso; omega)
            | skip
              refine w_aload_n dX11_lineNow_68 rfl ?_
              refine w_bipush (v := 104) dX11_lineNow_69 (by decide) ?_
              refine w_iconst (v := 0) dX11_lineNow_71 (by decide) ?_
              refine w_iconst (v := 0) dX11_lineNow_72 (by decide) ?_
              refine w_callV (as := [vI (104), vI (0), vI (0)]) (st := []) (Tri.mono (d_ends hk ht z12 z11 hst hnx (a := 104) (c := 0) (d := 0) (by decide) (by decide) (by decide) (by omega) (by omega) (by omega)) (Nat.le_of_ble_eq_true rfl)) rfl rfl tg_X11_ends lk_X11_93 in_X11_ends se_X11_ends rfl dX11_lineNow_73 rfl (Nat.le_of_ble_eq_true rfl) (Nat.le_refl _) (Nat.le_refl _) ?_
              rintro _ _ ⟨rfl, rfl⟩ -
              refine w_ifeq_b (tgt := 82) dX11_lineNow_76 (by decide) (fun h4 => ?_) (fun h4 => ?_)
              · skip
                first
                | (exfalso; omega)
                | skip
                  refine w_aload_n dX11_lineNow_82 rfl ?_
                  refine w_bipush (v := 6) dX11_lineNow_83 (by decide) ?_
                  refine w_bipush (v := 115) dX11_lineNow_85 (by decide) ?_
                  refine w_bipush (v := 116) dX11_lineNow_87 (by decide) ?_
                  refine w_bipush (v := 111) dX11_lineNow_89 (by decide) ?_
                  refine w_callV (as := [vI (6), vI (115), vI (116), vI (111)]) (st := []) (Tri.mono (d_is hk ht z12 z11 hst hnx (k := 6) (a := 115) (c := 116) (d := 111) (by decide) (by decide) (by decide) (by decide) (by decide)) (Nat.le_of_ble_eq_true rfl)) rfl rfl tg_X11_is lk_X11_89 in_X11_is se_X11_is rfl dX11_lineNow_91 rfl (Nat.le_of_ble_eq_true rfl) (Nat.le_refl _) (Nat.le_refl _) ?_
                  rintro _ _ ⟨rfl, rfl⟩ -
                  refine w_ifeq_b (tgt := 113) dX11_lineNow_94 (by decide) (fun h5 => ?_) (fun h5 => ?_)
                  · skip
                    first
                    | (exfalso; omega)
                    | skip
                      refine w_aload_n dX11_lineNow_113 rfl ?_
                      refine w_iconst (v := 5) dX11_lineNow_114 (by decide) ?_
                      refine w_bipush (v := 99) dX11_lineNow_115 (by decide) ?_
                      refine w_bipush (v := 114) dX11_lineNow_117 (by decide) ?_
                      refine w_bipush (v := 105) dX11_lineNow_119 (by decide) ?_
                      refine w_callV (as := [vI (5), vI (99), vI (114), vI (105)]) (st := []) (Tri.mono (d_is hk ht z12 z11 hst hnx (k := 5) (a := 99) (c := 114) (d := 105) (by decide) (by decide) (by decide) (by decide) (by decide)) (Nat.le_of_ble_eq_true rfl)) rfl rfl tg_X11_is lk_X11_89 in_X11_is se_X11_is rfl dX11_lineNow_121 rfl (Nat.le_of_ble_eq_true rfl) (Nat.le_refl _) (Nat.le_refl _) ?_
                      rintro _ _ ⟨rfl, rfl⟩ -
                      refine w_ifeq_b (tgt := 144) dX11_lineNow_124 (by decide) (fun h6 => ?_) (fun h6 => ?_)
                      · skip
                        first
                        | (exfalso; omega)
                        | skip
                          refine w_aload_n dX11_lineNow_144 rfl ?_
                          refine w_callV (as := []) (st := []) (Tri.mono (d_judgeNow hk ht z12 z11 hst hnx (fun z => by have := (sp_4 hk hnx).mp z; omega) (fun z => by have := (sp_5 hk hnx).mp z; omega) (fun z => by have := (sp_6 hk hnx).mp z; omega) (fun z => by have := (sp_7 hk hnx).mp z; omega) (fun z => by have := (sp_8 hk hnx).mp z; omega)) (Nat.le_of_ble_eq_true rfl)) rfl rfl tg_X11_judgeNow lk_X11_97 in_X11_judgeNow se_X11_judgeNow rfl dX11_lineNow_145 rfl (Nat.le_of_ble_eq_true rfl) (Nat.le_refl _) (Nat.le_refl _) ?_
                          rintro _ _ ⟨rfl, rfl⟩ -
                          exact w_ireturn dX11_lineNow_148 rfl (rfl) rfl (⟨rfl, rfl⟩)
                      · skip
                        first
                        | (exfalso; omega)
                        | skip
                          refine w_aload_n dX11_lineNow_127 rfl ?_
                          refine w_bipush (v := 109) dX11_lineNow_128 (by decide) ?_
                          refine w_bipush (v := 101) dX11_lineNow_130 (by decide) ?_
                          refine w_iconst (v := 0) dX11_lineNow_132 (by decide) ?_
                          refine w_callV (as := [vI (109), vI (101), vI (0)]) (st := []) (Tri.mono (d_ends hk ht z12 z11 hst hnx (a := 109) (c := 101) (d := 0) (by decide) (by decide) (by decide) (by omega) (by omega) (by omega)) (Nat.le_of_ble_eq_true rfl)) rfl rfl tg_X11_ends lk_X11_93 in_X11_ends se_X11_ends rfl dX11_lineNow_133 rfl (Nat.le_of_ble_eq_true rfl) (Nat.le_refl _) (Nat.le_refl _) ?_
                          rintro _ _ ⟨rfl, rfl⟩ -
                          refine w_ifeq_b (tgt := 144) dX11_lineNow_136 (by decide) (fun h7 => ?_) (fun h7 => ?_)
                          · skip
                            first
                            | (exfalso; omega)
                            | skip
                              refine w_aload_n dX11_lineNow_144 rfl ?_
                              refine w_callV (as := []) (st := []) (Tri.mono (d_judgeNow hk ht z12 z11 hst hnx (fun z => by have := (sp_4 hk hnx).mp z; omega) (fun z => by have := (sp_5 hk hnx).mp z; omega) (fun z => by have := (sp_6 hk hnx).mp z; omega) (fun z => by have := (sp_7 hk hnx).mp z; omega) (fun z => by have := (sp_8 hk hnx).mp z; omega)) (Nat.le_of_ble_eq_true rfl)) rfl rfl tg_X11_judgeNow lk_X11_97 in_X11_judgeNow se_X11_judgeNow rfl dX11_lineNow_145 rfl (Nat.le_of_ble_eq_true rfl) (Nat.le_refl _) (Nat.le_refl _) ?_
                              rintro _ _ ⟨rfl, rfl⟩ -
                              exact w_ireturn dX11_lineNow_148 rfl (rfl) rfl (⟨rfl, rfl⟩)
                          · skip
                            first
                            | (exfalso; omega)
                            | skip
                              refine w_bipush (v := 8) dX11_lineNow_139 (by decide) ?_
                              refine w_goto (tgt := 148) dX11_lineNow_141 (by decide) ?_
                              have w9 : wdT b st nx = 8 := wd_is (by decide) ((sp_8 hk hnx).mpr (by omega))
                              rw [w9, if_neg (by decide)]
                              exact w_ireturn dX11_lineNow_148 rfl (rfl) rfl (⟨rfl, rfl⟩)
                  · skip
                    first
                    | (exfalso; omega)
                    | skip
                      refine w_aload_n dX11_lineNow_97 rfl ?_
                      refine w_bipush (v := 99) dX11_lineNow_98 (by decide) ?_
                      refine w_bipush (v := 107) dX11_lineNow_100 (by decide) ?_
                      refine w_bipush (v := 115) dX11_lineNow_102 (by decide) ?_
                      refine w_callV (as := [vI (99), vI (107), vI (115)]) (st := []) (Tri.mono (d_ends hk ht z12 z11 hst hnx (a := 99) (c := 107) (d := 115) (by decide) (by decide) (by decide) (by omega) (by omega) (by omega)) (Nat.le_of_ble_eq_true rfl)) rfl rfl tg_X11_ends lk_X11_93 in_X11_ends se_X11_ends rfl dX11_lineNow_104 rfl (Nat.le_of_ble_eq_true rfl) (Nat.le_refl _) (Nat.le_refl _) ?_
                      rintro _ _ ⟨rfl, rfl⟩ -
                      refine w_ifeq_b (tgt := 113) dX11_lineNow_107 (by decide) (fun h6 => ?_) (fun h6 => ?_)
                      · skip
                        first
                        | (exfalso; omega)
                        | skip
                          refine w_aload_n dX11_lineNow_113 rfl ?_
                          refine w_iconst (v := 5) dX11_lineNow_114 (by decide) ?_
                          refine w_bipush (v := 99) dX11_lineNow_115 (by decide) ?_
                          refine w_bipush (v := 114) dX11_lineNow_117 (by decide) ?_
                          refine w_bipush (v := 105) dX11_lineNow_119 (by decide) ?_
                          refine w_callV (as := [vI (5), vI (99), vI (114), vI (105)]) (st := []) (Tri.mono (d_is hk ht z12 z11 hst hnx (k := 5) (a := 99) (c := 114) (d := 105) (by decide) (by decide) (by decide) (by decide) (by decide)) (Nat.le_of_ble_eq_true rfl)) rfl rfl tg_X11_is lk_X11_89 in_X11_is se_X11_is rfl dX11_lineNow_121 rfl (Nat.le_of_ble_eq_true rfl) (Nat.le_refl _) (Nat.le_refl _) ?_
                          rintro _ _ ⟨rfl, rfl⟩ -
                          refine w_ifeq_b (tgt := 144) dX11_lineNow_124 (by decide) (fun h7 => ?_) (fun h7 => ?_)
                          · skip
                            first
                            | (exfalso; omega)
                            | skip
                              refine w_aload_n dX11_lineNow_144 rfl ?_
                              refine w_callV (as := []) (st := []) (Tri.mono (d_judgeNow hk ht z12 z11 hst hnx (fun z => by have := (sp_4 hk hnx).mp z; omega) (fun z => by have := (sp_5 hk hnx).mp z; omega) (fun z => by have := (sp_6 hk hnx).mp z; omega) (fun z => by have := (sp_7 hk hnx).mp z; omega) (fun z => by have := (sp_8 hk hnx).mp z; omega)) (Nat.le_of_ble_eq_true rfl)) rfl rfl tg_X11_judgeNow lk_X11_97 in_X11_judgeNow se_X11_judgeNow rfl dX11_lineNow_145 rfl (Nat.le_of_ble_eq_true rfl) (Nat.le_refl _) (Nat.le_refl _) ?_
                              rintro _ _ ⟨rfl, rfl⟩ -
                              exact w_ireturn dX11_lineNow_148 rfl (rfl) rfl (⟨rfl, rfl⟩)
                          · skip
                            first
                            | (exfalso; omega)
                            | skip
                              refine w_aload_n dX11_lineNow_127 rfl ?_
                              refine w_bipush (v := 109) dX11_lineNow_128 (by decide) ?_
                              refine w_bipush (v := 101) dX11_lineNow_130 (by decide) ?_
                              refine w_iconst (v := 0) dX11_lineNow_132 (by decide) ?_
                              refine w_callV (as := [vI (109), vI (101), vI (0)]) (st := []) (Tri.mono (d_ends hk ht z12 z11 hst hnx (a := 109) (c := 101) (d := 0) (by decide) (by decide) (by decide) (by omega) (by omega) (by omega)) (Nat.le_of_ble_eq_true rfl)) rfl rfl tg_X11_ends lk_X11_93 in_X11_ends se_X11_ends rfl dX11_lineNow_133 rfl (Nat.le_of_ble_eq_true rfl) (Nat.le_refl _) (Nat.le_refl _) ?_
                              rintro _ _ ⟨rfl, rfl⟩ -
                              refine w_ifeq_b (tgt := 144) dX11_lineNow_136 (by decide) (fun h8 => ?_) (fun h8 => ?_)
                              · skip
                                first
                                | (exfalso; omega)
                                | skip
                                  refine w_aload_n dX11_lineNow_144 rfl ?_
                                  refine w_callV (as := []) (st := []) (Tri.mono (d_judgeNow hk ht z12 z11 hst hnx (fun z => by have := (sp_4 hk hnx).mp z; omega) (fun z => by have := (sp_5 hk hnx).mp z; omega) (fun z => by have := (sp_6 hk hnx).mp z; omega) (fun z => by have := (sp_7 hk hnx).mp z; omega) (fun z => by have := (sp_8 hk hnx).mp z; omega)) (Nat.le_of_ble_eq_true rfl)) rfl rfl tg_X11_judgeNow lk_X11_97 in_X11_judgeNow se_X11_judgeNow rfl dX11_lineNow_145 rfl (Nat.le_of_ble_eq_true rfl) (Nat.le_refl _) (Nat.le_refl _) ?_
                                  rintro _ _ ⟨rfl, rfl⟩ -
                                  exact w_ireturn dX11_lineNow_148 rfl (rfl) rfl (⟨rfl, rfl⟩)
                              · skip
                                first
                                | (exfalso; omega)
                                | skip
                                  refine w_bipush (v := 8) dX11_lineNow_139 (by decide) ?_
                                  refine w_goto (tgt := 148) dX11_lineNow_141 (by decide) ?_
                                  have w9 : wdT b st nx = 8 := wd_is (by decide) ((sp_8 hk hnx).mpr (by omega))
                                  rw [w9, if_neg (by decide)]
                                  exact w_ireturn dX11_lineNow_148 rfl (rfl) rfl (⟨rfl, rfl⟩)
                      · skip
                        first
                        | (exfalso; omega)
                        | skip
                          refine w_bipush (v := 7) dX11_lineNow_110 (by decide) ?_
                          have w9 : wdT b st nx = 7 := wd_is (by decide) ((sp_7 hk hnx).mpr (by omega))
                          rw [w9, if_neg (by decide)]
                          exact w_ireturn dX11_lineNow_112 rfl (rfl) rfl (⟨rfl, rfl⟩)
              · skip
                first
                | (exfalso; omega)
                | skip
                  refine w_bipush (v := 6) dX11_lineNow_79 (by decide) ?_
                  have w9 : wdT b st nx = 6 := wd_is (by decide) ((sp_6 hk hnx).mpr (by omega))
                  rw [w9, if_neg (by decide)]
                  exact w_ireturn dX11_lineNow_81 rfl (rfl) rfl (⟨rfl, rfl⟩)
      · skip
        first
        | (exfalso; omega)
        | skip
          refine w_aload_n dX11_lineNow_41 rfl ?_
          refine w_bipush (v := 101) dX11_lineNow_42 (by decide) ?_
          refine w_iconst (v := 0) dX11_lineNow_44 (by decide) ?_
          refine w_iconst (v := 0) dX11_lineNow_45 (by decide) ?_
          refine w_callV (as := [vI (101), vI (0), vI (0)]) (st := []) (Tri.mono (d_ends hk ht z12 z11 hst hnx (a := 101) (c := 0) (d := 0) (by decide) (by decide) (by decide) (by omega) (by omega) (by omega)) (Nat.le_of_ble_eq_true rfl)) rfl rfl tg_X11_ends lk_X11_93 in_X11_ends se_X11_ends rfl dX11_lineNow_46 rfl (Nat.le_of_ble_eq_true rfl) (Nat.le_refl _) (Nat.le_refl _) ?_
          rintro _ _ ⟨rfl, rfl⟩ -
          refine w_ifeq_b (tgt := 54) dX11_lineNow_49 (by decide) (fun h3 => ?_) (fun h3 => ?_)
          · skip
            first
            | (exfalso; omega)
            | skip
              refine w_aload_n dX11_lineNow_54 rfl ?_
              refine w_iconst (v := 4) dX11_lineNow_55 (by decide) ?_
              refine w_bipush (v := 108) dX11_lineNow_56 (by decide) ?_
              refine w_bipush (v := 97) dX11_lineNow_58 (by decide) ?_
              refine w_bipush (v := 115) dX11_lineNow_60 (by decide) ?_
              refine w_callV (as := [vI (4), vI (108), vI (97), vI (115)]) (st := []) (Tri.mono (d_is hk ht z12 z11 hst hnx (k := 4) (a := 108) (c := 97) (d := 115) (by decide) (by decide) (by decide) (by decide) (by decide)) (Nat.le_of_ble_eq_true rfl)) rfl rfl tg_X11_is lk_X11_89 in_X11_is se_X11_is rfl dX11_lineNow_62 rfl (Nat.le_of_ble_eq_true rfl) (Nat.le_refl _) (Nat.le_refl _) ?_
              rintro _ _ ⟨rfl, rfl⟩ -
              refine w_ifeq_b (tgt := 82) dX11_lineNow_65 (by decide) (fun h4 => ?_) (fun h4 => ?_)
              · skip
                first
                | (exfalso; omega)
                | skip
                  refine w_aload_n dX11_lineNow_82 rfl ?_
                  refine w_bipush (v := 6) dX11_lineNow_83 (by decide) ?_
                  refine w_bipush (v := 115) dX11_lineNow_85 (by decide) ?_
                  refine w_bipush (v := 116) dX11_lineNow_87 (by decide) ?_
                  refine w_bipush (v := 111) dX11_lineNow_89 (by decide) ?_
                  refine w_callV (as := [vI (6), vI (115), vI (116), vI (111)]) (st := []) (Tri.mono (d_is hk ht z12 z11 hst hnx (k := 6) (a := 115) (c := 116) (d := 111) (by decide) (by decide) (by decide) (by decide) (by decide)) (Nat.le_of_ble_eq_true rfl)) rfl rfl tg_X11_is lk_X11_89 in_X11_is se_X11_is rfl dX11_lineNow_91 rfl (Nat.le_of_ble_eq_true rfl) (Nat.le_refl _) (Nat.le_refl _) ?_
                  rintro _ _ ⟨rfl, rfl⟩ -
                  refine w_ifeq_b (tgt := 113) dX11_lineNow_94 (by decide) (fun h5 => ?_) (fun h5 => ?_)
                  · skip
                    first
                    | (exfalso; omega)
                    | skip
                      refine w_aload_n dX11_lineNow_113 rfl ?_
                      refine w_iconst (v := 5) dX11_lineNow_114 (by decide) ?_
                      refine w_bipush (v := 99) dX11_lineNow_115 (by decide) ?_
                      refine w_bipush (v := 114) dX11_lineNow_117 (by decide) ?_
                      refine w_bipush (v := 105) dX11_lineNow_119 (by decide) ?_
                      refine w_callV (as := [vI (5), vI (99), vI (114), vI (105)]) (st := []) (Tri.mono (d_is hk ht z12 z11 hst hnx (k := 5) (a := 99) (c := 114) (d := 105) (by decide) (by decide) (by decide) (by decide) (by decide)) (Nat.le_of_ble_eq_true rfl)) rfl rfl tg_X11_is lk_X11_89 in_X11_is se_X11_is rfl dX11_lineNow_121 rfl (Nat.le_of_ble_eq_true rfl) (Nat.le_refl _) (Nat.le_refl _) ?_
                      rintro _ _ ⟨rfl, rfl⟩ -
                      refine w_ifeq_b (tgt := 144) dX11_lineNow_124 (by decide) (fun h6 => ?_) (fun h6 => ?_)
                      · skip
                        first
                        | (exfalso; omega)
                        | skip
                          refine w_aload_n dX11_lineNow_144 rfl ?_
                          refine w_callV (as := []) (st := []) (Tri.mono (d_judgeNow hk ht z12 z11 hst hnx (fun z => by have := (sp_4 hk hnx).mp z; omega) (fun z => by have := (sp_5 hk hnx).mp z; omega) (fun z => by have := (sp_6 hk hnx).mp z; omega) (fun z => by have := (sp_7 hk hnx).mp z; omega) (fun z => by have := (sp_8 hk hnx).mp z; omega)) (Nat.le_of_ble_eq_true rfl)) rfl rfl tg_X11_judgeNow lk_X11_97 in_X11_judgeNow se_X11_judgeNow rfl dX11_lineNow_145 rfl (Nat.le_of_ble_eq_true rfl) (Nat.le_refl _) (Nat.le_refl _) ?_
                          rintro _ _ ⟨rfl, rfl⟩ -
                          exact w_ireturn dX11_lineNow_148 rfl (rfl) rfl (⟨rfl, rfl⟩)
                      · skip
                        first
                        | (exfalso; omega)
                        | skip
                          refine w_aload_n dX11_lineNow_127 rfl ?_
                          refine w_bipush (v := 109) dX11_lineNow_128 (by decide) ?_
                          refine w_bipush (v := 101) dX11_lineNow_130 (by decide) ?_
                          refine w_iconst (v := 0) dX11_lineNow_132 (by decide) ?_
                          refine w_callV (as := [vI (109), vI (101), vI (0)]) (st := []) (Tri.mono (d_ends hk ht z12 z11 hst hnx (a := 109) (c := 101) (d := 0) (by decide) (by decide) (by decide) (by omega) (by omega) (by omega)) (Nat.le_of_ble_eq_true rfl)) rfl rfl tg_X11_ends lk_X11_93 in_X11_ends se_X11_ends rfl dX11_lineNow_133 rfl (Nat.le_of_ble_eq_true rfl) (Nat.le_refl _) (Nat.le_refl _) ?_
                          rintro _ _ ⟨rfl, rfl⟩ -
                          refine w_ifeq_b (tgt := 144) dX11_lineNow_136 (by decide) (fun h7 => ?_) (fun h7 => ?_)
                          · skip
                            first
                            | (exfalso; omega)
                            | skip
                              refine w_aload_n dX11_lineNow_144 rfl ?_
                              refine w_callV (as := []) (st := []) (Tri.mono (d_judgeNow hk ht z12 z11 hst hnx (fun z => by have := (sp_4 hk hnx).mp z; omega) (fun z => by have := (sp_5 hk hnx).mp z; omega) (fun z => by have := (sp_6 hk hnx).mp z; omega) (fun z => by have := (sp_7 hk hnx).mp z; omega) (fun z => by have := (sp_8 hk hnx).mp z; omega)) (Nat.le_of_ble_eq_true rfl)) rfl rfl tg_X11_judgeNow lk_X11_97 in_X11_judgeNow se_X11_judgeNow rfl dX11_lineNow_145 rfl (Nat.le_of_ble_eq_true rfl) (Nat.le_refl _) (Nat.le_refl _) ?_
                              rintro _ _ ⟨rfl, rfl⟩ -
                              exact w_ireturn dX11_lineNow_148 rfl (rfl) rfl (⟨rfl, rfl⟩)
                          · skip
                            first
                            | (exfalso; omega)
                            | skip
                              refine w_bipush (v := 8) dX11_lineNow_139 (by decide) ?_
                              refine w_goto (tgt := 148) dX11_lineNow_141 (by decide) ?_
                              have w9 : wdT b st nx = 8 := wd_is (by decide) ((sp_8 hk hnx).mpr (by omega))
                              rw [w9, if_neg (by decide)]
                              exact w_ireturn dX11_lineNow_148 rfl (rfl) rfl (⟨rfl, rfl⟩)
                  · skip
                    first
                    | (exfalso; omega)
                    | skip
                      refine w_aload_n dX11_lineNow_97 rfl ?_
                      refine w_bipush (v := 99) dX11_lineNow_98 (by decide) ?_
                      refine w_bipush (v := 107) dX11_lineNow_100 (by decide) ?_
                      refine w_bipush (v := 115) dX11_lineNow_102 (by decide) ?_
                      refine w_callV (as := [vI (99), vI (107), vI (115)]) (st := []) (Tri.mono (d_ends hk ht z12 z11 hst hnx (a := 99) (c := 107) (d := 115) (by decide) (by decide) (by decide) (by omega) (by omega) (by omega)) (Nat.le_of_ble_eq_true rfl)) rfl rfl tg_X11_ends lk_X11_93 in_X11_ends se_X11_ends rfl dX11_lineNow_104 rfl (Nat.le_of_ble_eq_true rfl) (Nat.le_refl _) (Nat.le_refl _) ?_
                      rintro _ _ ⟨rfl, rfl⟩ -
                      refine w_ifeq_b (tgt := 113) dX11_lineNow_107 (by decide) (fun h6 => ?_) (fun h6 => ?_)
                      · skip
                        first
                        | (exfalso; omega)
                        | skip
                          refine w_aload_n dX11_lineNow_113 rfl ?_
                          refine w_iconst (v := 5) dX11_lineNow_114 (by decide) ?_
                          refine w_bipush (v := 99) dX11_lineNow_115 (by decide) ?_
                          refine w_bipush (v := 114) dX11_lineNow_117 (by decide) ?_
                          refine w_bipush (v := 105) dX11_lineNow_119 (by decide) ?_
                          refine w_callV (as := [vI (5), vI (99), vI (114), vI (105)]) (st := []) (Tri.mono (d_is hk ht z12 z11 hst hnx (k := 5) (a := 99) (c := 114) (d := 105) (by decide) (by decide) (by decide) (by decide) (by decide)) (Nat.le_of_ble_eq_true rfl)) rfl rfl tg_X11_is lk_X11_89 in_X11_is se_X11_is rfl dX11_lineNow_121 rfl (Nat.le_of_ble_eq_true rfl) (Nat.le_refl _) (Nat.le_refl _) ?_
                          rintro _ _ ⟨rfl, rfl⟩ -
                          refine w_ifeq_b (tgt := 144) dX11_lineNow_124 (by decide) (fun h7 => ?_) (fun h7 => ?_)
                          · skip
                            first
                            | (exfalso; omega)
                            | skip
                              refine w_aload_n dX11_lineNow_144 rfl ?_
                              refine w_callV (as := []) (st := []) (Tri.mono (d_judgeNow hk ht z12 z11 hst hnx (fun z => by have := (sp_4 hk hnx).mp z; omega) (fun z => by have := (sp_5 hk hnx).mp z; omega) (fun z => by have := (sp_6 hk hnx).mp z; omega) (fun z => by have := (sp_7 hk hnx).mp z; omega) (fun z => by have := (sp_8 hk hnx).mp z; omega)) (Nat.le_of_ble_eq_true rfl)) rfl rfl tg_X11_judgeNow lk_X11_97 in_X11_judgeNow se_X11_judgeNow rfl dX11_lineNow_145 rfl (Nat.le_of_ble_eq_true rfl) (Nat.le_refl _) (Nat.le_refl _) ?_
                              rintro _ _ ⟨rfl, rfl⟩ -
                              exact w_ireturn dX11_lineNow_148 rfl (rfl) rfl (⟨rfl, rfl⟩)
                          · skip
                            first
                            | (exfalso; omega)
                            | skip
                              refine w_aload_n dX11_lineNow_127 rfl ?_
                              refine w_bipush (v := 109) dX11_lineNow_128 (by decide) ?_
                              refine w_bipush (v := 101) dX11_lineNow_130 (by decide) ?_
                              refine w_iconst (v := 0) dX11_lineNow_132 (by decide) ?_
                              refine w_callV (as := [vI (109), vI (101), vI (0)]) (st := []) (Tri.mono (d_ends hk ht z12 z11 hst hnx (a := 109) (c := 101) (d := 0) (by decide) (by decide) (by decide) (by omega) (by omega) (by omega)) (Nat.le_of_ble_eq_true rfl)) rfl rfl tg_X11_ends lk_X11_93 in_X11_ends se_X11_ends rfl dX11_lineNow_133 rfl (Nat.le_of_ble_eq_true rfl) (Nat.le_refl _) (Nat.le_refl _) ?_
                              rintro _ _ ⟨rfl, rfl⟩ -
                              refine w_ifeq_b (tgt := 144) dX11_lineNow_136 (by decide) (fun h8 => ?_) (fun h8 => ?_)
                              · skip
                                first
                                | (exfalso; omega)
                                | skip
                                  refine w_aload_n dX11_lineNow_144 rfl ?_
                                  refine w_callV (as := []) (st := []) (Tri.mono (d_judgeNow hk ht z12 z11 hst hnx (fun z => by have := (sp_4 hk hnx).mp z; omega) (fun z => by have := (sp_5 hk hnx).mp z; omega) (fun z => by have := (sp_6 hk hnx).mp z; omega) (fun z => by have := (sp_7 hk hnx).mp z; omega) (fun z => by have := (sp_8 hk hnx).mp z; omega)) (Nat.le_of_ble_eq_true rfl)) rfl rfl tg_X11_judgeNow lk_X11_97 in_X11_judgeNow se_X11_judgeNow rfl dX11_lineNow_145 rfl (Nat.le_of_ble_eq_true rfl) (Nat.le_refl _) (Nat.le_refl _) ?_
                                  rintro _ _ ⟨rfl, rfl⟩ -
                                  exact w_ireturn dX11_lineNow_148 rfl (rfl) rfl (⟨rfl, rfl⟩)
                              · skip
                                first
                                | (exfalso; omega)
                                | skip
                                  refine w_bipush (v := 8) dX11_lineNow_139 (by decide) ?_
                                  refine w_goto (tgt := 148) dX11_lineNow_141 (by decide) ?_
                                  have w9 : wdT b st nx = 8 := wd_is (by decide) ((sp_8 hk hnx).mpr (by omega))
                                  rw [w9, if_neg (by decide)]
                                  exact w_ireturn dX11_lineNow_148 rfl (rfl) rfl (⟨rfl, rfl⟩)
                      · skip
                        first
                        | (exfalso; omega)
                        | skip
                          refine w_bipush (v := 7) dX11_lineNow_110 (by decide) ?_
                          have w9 : wdT b st nx = 7 := wd_is (by decide) ((sp_7 hk hnx).mpr (by omega))
                          rw [w9, if_neg (by decide)]
                          exact w_ireturn dX11_lineNow_112 rfl (rfl) rfl (⟨rfl, rfl⟩)
              · skip
                first
                | (exfalso; omega)
                | skip
                  refine w_aload_n dX11_lineNow_68 rfl ?_
                  refine w_bipush (v := 104) dX11_lineNow_69 (by decide) ?_
                  refine w_iconst (v := 0) dX11_lineNow_71 (by decide) ?_
                  refine w_iconst (v := 0) dX11_lineNow_72 (by decide) ?_
                  refine w_callV (as := [vI (104), vI (0), vI (0)]) (st := []) (Tri.mono (d_ends hk ht z12 z11 hst hnx (a := 104) (c := 0) (d := 0) (by decide) (by decide) (by decide) (by omega) (by omega) (by omega)) (Nat.le_of_ble_eq_true rfl)) rfl rfl tg_X11_ends lk_X11_93 in_X11_ends se_X11_ends rfl dX11_lineNow_73 rfl (Nat.le_of_ble_eq_true rfl) (Nat.le_refl _) (Nat.le_refl _) ?_
                  rintro _ _ ⟨rfl, rfl⟩ -
                  refine w_ifeq_b (tgt := 82) dX11_lineNow_76 (by decide) (fun h5 => ?_) (fun h5 => ?_)
                  · skip
                    first
                    | (exfalso; omega)
                    | skip
                      refine w_aload_n dX11_lineNow_82 rfl ?_
                      refine w_bipush (v := 6) dX11_lineNow_83 (by decide) ?_
                      refine w_bipush (v := 115) dX11_lineNow_85 (by decide) ?_
                      refine w_bipush (v := 116) dX11_lineNow_87 (by decide) ?_
                      refine w_bipush (v := 111) dX11_lineNow_89 (by decide) ?_
                      refine w_callV (as := [vI (6), vI (115), vI (116), vI (111)]) (st := []) (Tri.mono (d_is hk ht z12 z11 hst hnx (k := 6) (a := 115) (c := 116) (d := 111) (by decide) (by decide) (by decide) (by decide) (by decide)) (Nat.le_of_ble_eq_true rfl)) rfl rfl tg_X11_is lk_X11_89 in_X11_is se_X11_is rfl dX11_lineNow_91 rfl (Nat.le_of_ble_eq_true rfl) (Nat.le_refl _) (Nat.le_refl _) ?_
                      rintro _ _ ⟨rfl, rfl⟩ -
                      refine w_ifeq_b (tgt := 113) dX11_lineNow_94 (by decide) (fun h6 => ?_) (fun h6 => ?_)
                      · skip
                        first
                        | (exfalso; omega)
                        | skip
                          refine w_aload_n dX11_lineNow_113 rfl ?_
                          refine w_iconst (v := 5) dX11_lineNow_114 (by decide) ?_
                          refine w_bipush (v := 99) dX11_lineNow_115 (by decide) ?_
                          refine w_bipush (v := 114) dX11_lineNow_117 (by decide) ?_
                          refine w_bipush (v := 105) dX11_lineNow_119 (by decide) ?_
                          refine w_callV (as := [vI (5), vI (99), vI (114), vI (105)]) (st := []) (Tri.mono (d_is hk ht z12 z11 hst hnx (k := 5) (a := 99) (c := 114) (d := 105) (by decide) (by decide) (by decide) (by decide) (by decide)) (Nat.le_of_ble_eq_true rfl)) rfl rfl tg_X11_is lk_X11_89 in_X11_is se_X11_is rfl dX11_lineNow_121 rfl (Nat.le_of_ble_eq_true rfl) (Nat.le_refl _) (Nat.le_refl _) ?_
                          rintro _ _ ⟨rfl, rfl⟩ -
                          refine w_ifeq_b (tgt := 144) dX11_lineNow_124 (by decide) (fun h7 => ?_) (fun h7 => ?_)
                          · skip
                            first
                            | (exfalso; omega)
                            | skip
                              refine w_aload_n dX11_lineNow_144 rfl ?_
                              refine w_callV (as := []) (st := []) (Tri.mono (d_judgeNow hk ht z12 z11 hst hnx (fun z => by have := (sp_4 hk hnx).mp z; omega) (fun z => by have := (sp_5 hk hnx).mp z; omega) (fun z => by have := (sp_6 hk hnx).mp z; omega) (fun z => by have := (sp_7 hk hnx).mp z; omega) (fun z => by have := (sp_8 hk hnx).mp z; omega)) (Nat.le_of_ble_eq_true rfl)) rfl rfl tg_X11_judgeNow lk_X11_97 in_X11_judgeNow se_X11_judgeNow rfl dX11_lineNow_145 rfl (Nat.le_of_ble_eq_true rfl) (Nat.le_refl _) (Nat.le_refl _) ?_
                              rintro _ _ ⟨rfl, rfl⟩ -
                              exact w_ireturn dX11_lineNow_148 rfl (rfl) rfl (⟨rfl, rfl⟩)
                          · skip
                            first
                            | (exfalso; omega)
                            | skip
                              refine w_aload_n dX11_lineNow_127 rfl ?_
                              refine w_bipush (v := 109) dX11_lineNow_128 (by decide) ?_
                              refine w_bipush (v := 101) dX11_lineNow_130 (by decide) ?_
                              refine w_iconst (v := 0) dX11_lineNow_132 (by decide) ?_
                              refine w_callV (as := [vI (109), vI (101), vI (0)]) (st := []) (Tri.mono (d_ends hk ht z12 z11 hst hnx (a := 109) (c := 101) (d := 0) (by decide) (by decide) (by decide) (by omega) (by omega) (by omega)) (Nat.le_of_ble_eq_true rfl)) rfl rfl tg_X11_ends lk_X11_93 in_X11_ends se_X11_ends rfl dX11_lineNow_133 rfl (Nat.le_of_ble_eq_true rfl) (Nat.le_refl _) (Nat.le_refl _) ?_
                              rintro _ _ ⟨rfl, rfl⟩ -
                              refine w_ifeq_b (tgt := 144) dX11_lineNow_136 (by decide) (fun h8 => ?_) (fun h8 => ?_)
                              · skip
                                first
                                | (exfalso; omega)
                                | skip
                                  refine w_aload_n dX11_lineNow_144 rfl ?_
                                  refine w_callV (as := []) (st := []) (Tri.mono (d_judgeNow hk ht z12 z11 hst hnx (fun z => by have := (sp_4 hk hnx).mp z; omega) (fun z => by have := (sp_5 hk hnx).mp z; omega) (fun z => by have := (sp_6 hk hnx).mp z; omega) (fun z => by have := (sp_7 hk hnx).mp z; omega) (fun z => by have := (sp_8 hk hnx).mp z; omega)) (Nat.le_of_ble_eq_true rfl)) rfl rfl tg_X11_judgeNow lk_X11_97 in_X11_judgeNow se_X11_judgeNow rfl dX11_lineNow_145 rfl (Nat.le_of_ble_eq_true rfl) (Nat.le_refl _) (Nat.le_refl _) ?_
                                  rintro _ _ ⟨rfl, rfl⟩ -
                                  exact w_ireturn dX11_lineNow_148 rfl (rfl) rfl (⟨rfl, rfl⟩)
                              · skip
                                first
                                | (exfalso; omega)
                                | skip
                                  refine w_bipush (v := 8) dX11_lineNow_139 (by decide) ?_
                                  refine w_goto (tgt := 148) dX11_lineNow_141 (by decide) ?_
                                  have w9 : wdT b st nx = 8 := wd_is (by decide) ((sp_8 hk hnx).mpr (by omega))
                                  rw [w9, if_neg (by decide)]
                                  exact w_ireturn dX11_lineNow_148 rfl (rfl) rfl (⟨rfl, rfl⟩)
                      · skip
                        first
                        | (exfalso; omega)
                        | skip
                          refine w_aload_n dX11_lineNow_97 rfl ?_
                          refine w_bipush (v := 99) dX11_lineNow_98 (by decide) ?_
                          refine w_bipush (v := 107) dX11_lineNow_100 (by decide) ?_
                          refine w_bipush (v := 115) dX11_lineNow_102 (by decide) ?_
                          refine w_callV (as := [vI (99), vI (107), vI (115)]) (st := []) (Tri.mono (d_ends hk ht z12 z11 hst hnx (a := 99) (c := 107) (d := 115) (by decide) (by decide) (by decide) (by omega) (by omega) (by omega)) (Nat.le_of_ble_eq_true rfl)) rfl rfl tg_X11_ends lk_X11_93 in_X11_ends se_X11_ends rfl dX11_lineNow_104 rfl (Nat.le_of_ble_eq_true rfl) (Nat.le_refl _) (Nat.le_refl _) ?_
                          rintro _ _ ⟨rfl, rfl⟩ -
                          refine w_ifeq_b (tgt := 113) dX11_lineNow_107 (by decide) (fun h7 => ?_) (fun h7 => ?_)
                          · skip
                            first
                            | (exfalso; omega)
                            | skip
                              refine w_aload_n dX11_lineNow_113 rfl ?_
                              refine w_iconst (v := 5) dX11_lineNow_114 (by decide) ?_
                              refine w_bipush (v := 99) dX11_lineNow_115 (by decide) ?_
                              refine w_bipush (v := 114) dX11_lineNow_117 (by decide) ?_
                              refine w_bipush (v := 105) dX11_lineNow_119 (by decide) ?_
                              refine w_callV (as := [vI (5), vI (99), vI (114), vI (105)]) (st := []) (Tri.mono (d_is hk ht z12 z11 hst hnx (k := 5) (a := 99) (c := 114) (d := 105) (by decide) (by decide) (by decide) (by decide) (by decide)) (Nat.le_of_ble_eq_true rfl)) rfl rfl tg_X11_is lk_X11_89 in_X11_is se_X11_is rfl dX11_lineNow_121 rfl (Nat.le_of_ble_eq_true rfl) (Nat.le_refl _) (Nat.le_refl _) ?_
                              rintro _ _ ⟨rfl, rfl⟩ -
                              refine w_ifeq_b (tgt := 144) dX11_lineNow_124 (by decide) (fun h8 => ?_) (fun h8 => ?_)
                              · skip
                                first
                                | (exfalso; omega)
                                | skip
                                  refine w_aload_n dX11_lineNow_144 rfl ?_
                                  refine w_callV (as := []) (st := []) (Tri.mono (d_judgeNow hk ht z12 z11 hst hnx (fun z => by have := (sp_4 hk hnx).mp z; omega) (fun z => by have := (sp_5 hk hnx).mp z; omega) (fun z => by have := (sp_6 hk hnx).mp z; omega) (fun z => by have := (sp_7 hk hnx).mp z; omega) (fun z => by have := (sp_8 hk hnx).mp z; omega)) (Nat.le_of_ble_eq_true rfl)) rfl rfl tg_X11_judgeNow lk_X11_97 in_X11_judgeNow se_X11_judgeNow rfl dX11_lineNow_145 rfl (Nat.le_of_ble_eq_true rfl) (Nat.le_refl _) (Nat.le_refl _) ?_
                                  rintro _ _ ⟨rfl, rfl⟩ -
                                  exact w_ireturn dX11_lineNow_148 rfl (rfl) rfl (⟨rfl, rfl⟩)
                              · skip
                                first
                                | (exfalso; omega)
                                | skip
                                  refine w_aload_n dX11_lineNow_127 rfl ?_
                                  refine w_bipush (v := 109) dX11_lineNow_128 (by decide) ?_
                                  refine w_bipush (v := 101) dX11_lineNow_130 (by decide) ?_
                                  refine w_iconst (v := 0) dX11_lineNow_132 (by decide) ?_
                                  refine w_callV (as := [vI (109), vI (101), vI (0)]) (st := []) (Tri.mono (d_ends hk ht z12 z11 hst hnx (a := 109) (c := 101) (d := 0) (by decide) (by decide) (by decide) (by omega) (by omega) (by omega)) (Nat.le_of_ble_eq_true rfl)) rfl rfl tg_X11_ends lk_X11_93 in_X11_ends se_X11_ends rfl dX11_lineNow_133 rfl (Nat.le_of_ble_eq_true rfl) (Nat.le_refl _) (Nat.le_refl _) ?_
                                  rintro _ _ ⟨rfl, rfl⟩ -
                                  refine w_ifeq_b (tgt := 144) dX11_lineNow_136 (by decide) (fun h9 => ?_) (fun h9 => ?_)
                                  · skip
                                    first
                                    | (exfalso; omega)
                                    | skip
                                      refine w_aload_n dX11_lineNow_144 rfl ?_
                                      refine w_callV (as := []) (st := []) (Tri.mono (d_judgeNow hk ht z12 z11 hst hnx (fun z => by have := (sp_4 hk hnx).mp z; omega) (fun z => by have := (sp_5 hk hnx).mp z; omega) (fun z => by have := (sp_6 hk hnx).mp z; omega) (fun z => by have := (sp_7 hk hnx).mp z; omega) (fun z => by have := (sp_8 hk hnx).mp z; omega)) (Nat.le_of_ble_eq_true rfl)) rfl rfl tg_X11_judgeNow lk_X11_97 in_X11_judgeNow se_X11_judgeNow rfl dX11_lineNow_145 rfl (Nat.le_of_ble_eq_true rfl) (Nat.le_refl _) (Nat.le_refl _) ?_
                                      rintro _ _ ⟨rfl, rfl⟩ -
                                      exact w_ireturn dX11_lineNow_148 rfl (rfl) rfl (⟨rfl, rfl⟩)
                                  · skip
                                    first
                                    | (exfalso; omega)
                                    | skip
                                      refine w_bipush (v := 8) dX11_lineNow_139 (by decide) ?_
                                      refine w_goto (tgt := 148) dX11_lineNow_141 (by decide) ?_
                                      have w9 : wdT b st nx = 8 := wd_is (by decide) ((sp_8 hk hnx).mpr (by omega))
                                      rw [w9, if_neg (by decide)]
                                      exact w_ireturn dX11_lineNow_148 rfl (rfl) rfl (⟨rfl, rfl⟩)
                          · skip
                            first
                            | (exfalso; omega)
                            | skip
                              refine w_bipush (v := 7) dX11_lineNow_110 (by decide) ?_
                              have w9 : wdT b st nx = 7 := wd_is (by decide) ((sp_7 hk hnx).mpr (by omega))
                              rw [w9, if_neg (by decide)]
                              exact w_ireturn dX11_lineNow_112 rfl (rfl) rfl (⟨rfl, rfl⟩)
                  · skip
                    first
                    | (exfalso; omega)
                    | skip
                      refine w_bipush (v := 6) dX11_lineNow_79 (by decide) ?_
                      have w9 : wdT b st nx = 6 := wd_is (by decide) ((sp_6 hk hnx).mpr (by omega))
                      rw [w9, if_neg (by decide)]
                      exact w_ireturn dX11_lineNow_81 rfl (rfl) rfl (⟨rfl, rfl⟩)
          · skip
            first
            | (exfalso; omega)
            | skip
              refine w_iconst (v := 5) dX11_lineNow_52 (by decide) ?_
              have w9 : wdT b st nx = 5 := wd_is (by decide) ((sp_5 hk hnx).mpr (by omega))
              rw [w9, if_neg (by decide)]
              exact w_ireturn dX11_lineNow_53 rfl (rfl) rfl (⟨rfl, rfl⟩)
  · skip
    first
    | (exfalso; omega)
    | skip
      refine w_aload_n dX11_lineNow_14 rfl ?_
      refine w_bipush (v := 108) dX11_lineNow_15 (by decide) ?_
      refine w_iconst (v := 0) dX11_lineNow_17 (by decide) ?_
      refine w_iconst (v := 0) dX11_lineNow_18 (by decide) ?_
      refine w_callV (as := [vI (108), vI (0), vI (0)]) (st := []) (Tri.mono (d_ends hk ht z12 z11 hst hnx (a := 108) (c := 0) (d := 0) (by decide) (by decide) (by decide) (by omega) (by omega) (by omega)) (Nat.le_of_ble_eq_true rfl)) rfl rfl tg_X11_ends lk_X11_93 in_X11_ends se_X11_ends rfl dX11_lineNow_19 rfl (Nat.le_of_ble_eq_true rfl) (Nat.le_refl _) (Nat.le_refl _) ?_
      rintro _ _ ⟨rfl, rfl⟩ -
      refine w_ifeq_b (tgt := 27) dX11_lineNow_22 (by decide) (fun h2 => ?_) (fun h2 => ?_)
      · skip
        first
        | (exfalso; omega)
        | skip
          refine w_aload_n dX11_lineNow_27 rfl ?_
          refine w_iconst (v := 4) dX11_lineNow_28 (by decide) ?_
          refine w_bipush (v := 102) dX11_lineNow_29 (by decide) ?_
          refine w_bipush (v := 105) dX11_lineNow_31 (by decide) ?_
          refine w_bipush (v := 110) dX11_lineNow_33 (by decide) ?_
          refine w_callV (as := [vI (4), vI (102), vI (105), vI (110)]) (st := []) (Tri.mono (d_is hk ht z12 z11 hst hnx (k := 4) (a := 102) (c := 105) (d := 110) (by decide) (by decide) (by decide) (by decide) (by decide)) (Nat.le_of_ble_eq_true rfl)) rfl rfl tg_X11_is lk_X11_89 in_X11_is se_X11_is rfl dX11_lineNow_35 rfl (Nat.le_of_ble_eq_true rfl) (Nat.le_refl _) (Nat.le_refl _) ?_
          rintro _ _ ⟨rfl, rfl⟩ -
          refine w_ifeq_b (tgt := 54) dX11_lineNow_38 (by decide) (fun h3 => ?_) (fun h3 => ?_)
          · skip
            first
            | (exfalso; omega)
            | skip
              refine w_aload_n dX11_lineNow_54 rfl ?_
              refine w_iconst (v := 4) dX11_lineNow_55 (by decide) ?_
              refine w_bipush (v := 108) dX11_lineNow_56 (by decide) ?_
              refine w_bipush (v := 97) dX11_lineNow_58 (by decide) ?_
              refine w_bipush (v := 115) dX11_lineNow_60 (by decide) ?_
              refine w_callV (as := [vI (4), vI (108), vI (97), vI (115)]) (st := []) (Tri.mono (d_is hk ht z12 z11 hst hnx (k := 4) (a := 108) (c := 97) (d := 115) (by decide) (by decide) (by decide) (by decide) (by decide)) (Nat.le_of_ble_eq_true rfl)) rfl rfl tg_X11_is lk_X11_89 in_X11_is se_X11_is rfl dX11_lineNow_62 rfl (Nat.le_of_ble_eq_true rfl) (Nat.le_refl _) (Nat.le_refl _) ?_
              rintro _ _ ⟨rfl, rfl⟩ -
              refine w_ifeq_b (tgt := 82) dX11_lineNow_65 (by decide) (fun h4 => ?_) (fun h4 => ?_)
              · skip
                first
                | (exfalso; omega)
                | skip
                  refine w_aload_n dX11_lineNow_82 rfl ?_
                  refine w_bipush (v := 6) dX11_lineNow_83 (by decide) ?_
                  refine w_bipush (v := 115) dX11_lineNow_85 (by decide) ?_
                  refine w_bipush (v := 116) dX11_lineNow_87 (by decide) ?_
                  refine w_bipush (v := 111) dX11_lineNow_89 (by decide) ?_
                  refine w_callV (as := [vI (6), vI (115), vI (116), vI (111)]) (st := []) (Tri.mono (d_is hk ht z12 z11 hst hnx (k := 6) (a := 115) (c := 116) (d := 111) (by decide) (by decide) (by decide) (by decide) (by decide)) (Nat.le_of_ble_eq_true rfl)) rfl rfl tg_X11_is lk_X11_89 in_X11_is se_X11_is rfl dX11_lineNow_91 rfl (Nat.le_of_ble_eq_true rfl) (Nat.le_refl _) (Nat.le_refl _) ?_
                  rintro _ _ ⟨rfl, rfl⟩ -
                  refine w_ifeq_b (tgt := 113) dX11_lineNow_94 (by decide) (fun h5 => ?_) (fun h5 => ?_)
                  · skip
                    first
                    | (exfalso; omega)
                    | skip
                      refine w_aload_n dX11_lineNow_113 rfl ?_
                      refine w_iconst (v := 5) dX11_lineNow_114 (by decide) ?_
                      refine w_bipush (v := 99) dX11_lineNow_115 (by decide) ?_
                      refine w_bipush (v := 114) dX11_lineNow_117 (by decide) ?_
                      refine w_bipush (v := 105) dX11_lineNow_119 (by decide) ?_
                      refine w_callV (as := [vI (5), vI (99), vI (114), vI (105)]) (st := []) (Tri.mono (d_is hk ht z12 z11 hst hnx (k := 5) (a := 99) (c := 114) (d := 105) (by decide) (by decide) (by decide) (by decide) (by decide)) (Nat.le_of_ble_eq_true rfl)) rfl rfl tg_X11_is lk_X11_89 in_X11_is se_X11_is rfl dX11_lineNow_121 rfl (Nat.le_of_ble_eq_true rfl) (Nat.le_refl _) (Nat.le_refl _) ?_
                      rintro _ _ ⟨rfl, rfl⟩ -
                      refine w_ifeq_b (tgt := 144) dX11_lineNow_124 (by decide) (fun h6 => ?_) (fun h6 => ?_)
                      · skip
                        first
                        | (exfalso; omega)
                        | skip
                          refine w_aload_n dX11_lineNow_144 rfl ?_
                          refine w_callV (as := []) (st := []) (Tri.mono (d_judgeNow hk ht z12 z11 hst hnx (fun z => by have := (sp_4 hk hnx).mp z; omega) (fun z => by have := (sp_5 hk hnx).mp z; omega) (fun z => by have := (sp_6 hk hnx).mp z; omega) (fun z => by have := (sp_7 hk hnx).mp z; omega) (fun z => by have := (sp_8 hk hnx).mp z; omega)) (Nat.le_of_ble_eq_true rfl)) rfl rfl tg_X11_judgeNow lk_X11_97 in_X11_judgeNow se_X11_judgeNow rfl dX11_lineNow_145 rfl (Nat.le_of_ble_eq_true rfl) (Nat.le_refl _) (Nat.le_refl _) ?_
                          rintro _ _ ⟨rfl, rfl⟩ -
                          exact w_ireturn dX11_lineNow_148 rfl (rfl) rfl (⟨rfl, rfl⟩)
                      · skip
                        first
                        | (exfalso; omega)
                        | skip
                          refine w_aload_n dX11_lineNow_127 rfl ?_
                          refine w_bipush (v := 109) dX11_lineNow_128 (by decide) ?_
                          refine w_bipush (v := 101) dX11_lineNow_130 (by decide) ?_
                          refine w_iconst (v := 0) dX11_lineNow_132 (by decide) ?_
                          refine w_callV (as := [vI (109), vI (101), vI (0)]) (st := []) (Tri.mono (d_ends hk ht z12 z11 hst hnx (a := 109) (c := 101) (d := 0) (by decide) (by decide) (by decide) (by omega) (by omega) (by omega)) (Nat.le_of_ble_eq_true rfl)) rfl rfl tg_X11_ends lk_X11_93 in_X11_ends se_X11_ends rfl dX11_lineNow_133 rfl (Nat.le_of_ble_eq_true rfl) (Nat.le_refl _) (Nat.le_refl _) ?_
                          rintro _ _ ⟨rfl, rfl⟩ -
                          refine w_ifeq_b (tgt := 144) dX11_lineNow_136 (by decide) (fun h7 => ?_) (fun h7 => ?_)
                          · skip
                            first
                            | (exfalso; omega)
                            | skip
                              refine w_aload_n dX11_lineNow_144 rfl ?_
                              refine w_callV (as := []) (st := []) (Tri.mono (d_judgeNow hk ht z12 z11 hst hnx (fun z => by have := (sp_4 hk hnx).mp z; omega) (fun z => by have := (sp_5 hk hnx).mp z; omega) (fun z => by have := (sp_6 hk hnx).mp z; omega) (fun z => by have := (sp_7 hk hnx).mp z; omega) (fun z => by have := (sp_8 hk hnx).mp z; omega)) (Nat.le_of_ble_eq_true rfl)) rfl rfl tg_X11_judgeNow lk_X11_97 in_X11_judgeNow se_X11_judgeNow rfl dX11_lineNow_145 rfl (Nat.le_of_ble_eq_true rfl) (Nat.le_refl _) (Nat.le_refl _) ?_
                              rintro _ _ ⟨rfl, rfl⟩ -
                              exact w_ireturn dX11_lineNow_148 rfl (rfl) rfl (⟨rfl, rfl⟩)
                          · skip
                            first
                            | (exfalso; omega)
                            | skip
                              refine w_bipush (v := 8) dX11_lineNow_139 (by decide) ?_
                              refine w_goto (tgt := 148) dX11_lineNow_141 (by decide) ?_
                              have w9 : wdT b st nx = 8 := wd_is (by decide) ((sp_8 hk hnx).mpr (by omega))
                              rw [w9, if_neg (by decide)]
                              exact w_ireturn dX11_lineNow_148 rfl (rfl) rfl (⟨rfl, rfl⟩)
                  · skip
                    first
                    | (exfalso; omega)
                    | skip
                      refine w_aload_n dX11_lineNow_97 rfl ?_
                      refine w_bipush (v := 99) dX11_lineNow_98 (by decide) ?_
                      refine w_bipush (v := 107) dX11_lineNow_100 (by decide) ?_
                      refine w_bipush (v := 115) dX11_lineNow_102 (by decide) ?_
                      refine w_callV (as := [vI (99), vI (107), vI (115)]) (st := []) (Tri.mono (d_ends hk ht z12 z11 hst hnx (a := 99) (c := 107) (d := 115) (by decide) (by decide) (by decide) (by omega) (by omega) (by omega)) (Nat.le_of_ble_eq_true rfl)) rfl rfl tg_X11_ends lk_X11_93 in_X11_ends se_X11_ends rfl dX11_lineNow_104 rfl (Nat.le_of_ble_eq_true rfl) (Nat.le_refl _) (Nat.le_refl _) ?_
                      rintro _ _ ⟨rfl, rfl⟩ -
                      refine w_ifeq_b (tgt := 113) dX11_lineNow_107 (by decide) (fun h6 => ?_) (fun h6 => ?_)
                      · skip
                        first
                        | (exfalso; omega)
                        | skip
                          refine w_aload_n dX11_lineNow_113 rfl ?_
                          refine w_iconst (v := 5) dX11_lineNow_114 (by decide) ?_
                          refine w_bipush (v := 99) dX11_lineNow_115 (by decide) ?_
                          refine w_bipush (v := 114) dX11_lineNow_117 (by decide) ?_
                          refine w_bipush (v := 105) dX11_lineNow_119 (by decide) ?_
                          refine w_callV (as := [vI (5), vI (99), vI (114), vI (105)]) (st := []) (Tri.mono (d_is hk ht z12 z11 hst hnx (k := 5) (a := 99) (c := 114) (d := 105) (by decide) (by decide) (by decide) (by decide) (by decide)) (Nat.le_of_ble_eq_true rfl)) rfl rfl tg_X11_is lk_X11_89 in_X11_is se_X11_is rfl dX11_lineNow_121 rfl (Nat.le_of_ble_eq_true rfl) (Nat.le_refl _) (Nat.le_refl _) ?_
                          rintro _ _ ⟨rfl, rfl⟩ -
                          refine w_ifeq_b (tgt := 144) dX11_lineNow_124 (by decide) (fun h7 => ?_) (fun h7 => ?_)
                          · skip
                            first
                            | (exfalso; omega)
                            | skip
                              refine w_aload_n dX11_lineNow_144 rfl ?_
                              refine w_callV (as := []) (st := []) (Tri.mono (d_judgeNow hk ht z12 z11 hst hnx (fun z => by have := (sp_4 hk hnx).mp z; omega) (fun z => by have := (sp_5 hk hnx).mp z; omega) (fun z => by have := (sp_6 hk hnx).mp z; omega) (fun z => by have := (sp_7 hk hnx).mp z; omega) (fun z => by have := (sp_8 hk hnx).mp z; omega)) (Nat.le_of_ble_eq_true rfl)) rfl rfl tg_X11_judgeNow lk_X11_97 in_X11_judgeNow se_X11_judgeNow rfl dX11_lineNow_145 rfl (Nat.le_of_ble_eq_true rfl) (Nat.le_refl _) (Nat.le_refl _) ?_
                              rintro _ _ ⟨rfl, rfl⟩ -
                              exact w_ireturn dX11_lineNow_148 rfl (rfl) rfl (⟨rfl, rfl⟩)
                          · skip
                            first
                            | (exfalso; omega)
                            | skip
                              refine w_aload_n dX11_lineNow_127 rfl ?_
                              refine w_bipush (v := 109) dX11_lineNow_128 (by decide) ?_
                              refine w_bipush (v := 101) dX11_lineNow_130 (by decide) ?_
                              refine w_iconst (v := 0) dX11_lineNow_132 (by decide) ?_
                              refine w_callV (as := [vI (109), vI (101), vI (0)]) (st := []) (Tri.mono (d_ends hk ht z12 z11 hst hnx (a := 109) (c := 101) (d := 0) (by decide) (by decide) (by decide) (by omega) (by omega) (by omega)) (Nat.le_of_ble_eq_true rfl)) rfl rfl tg_X11_ends lk_X11_93 in_X11_ends se_X11_ends rfl dX11_lineNow_133 rfl (Nat.le_of_ble_eq_true rfl) (Nat.le_refl _) (Nat.le_refl _) ?_
                              rintro _ _ ⟨rfl, rfl⟩ -
                              refine w_ifeq_b (tgt := 144) dX11_lineNow_136 (by decide) (fun h8 => ?_) (fun h8 => ?_)
                              · skip
                                first
                                | (exfalso; omega)
                                | skip
                                  refine w_aload_n dX11_lineNow_144 rfl ?_
                                  refine w_callV (as := []) (st := []) (Tri.mono (d_judgeNow hk ht z12 z11 hst hnx (fun z => by have := (sp_4 hk hnx).mp z; omega) (fun z => by have := (sp_5 hk hnx).mp z; omega) (fun z => by have := (sp_6 hk hnx).mp z; omega) (fun z => by have := (sp_7 hk hnx).mp z; omega) (fun z => by have := (sp_8 hk hnx).mp z; omega)) (Nat.le_of_ble_eq_true rfl)) rfl rfl tg_X11_judgeNow lk_X11_97 in_X11_judgeNow se_X11_judgeNow rfl dX11_lineNow_145 rfl (Nat.le_of_ble_eq_true rfl) (Nat.le_refl _) (Nat.le_refl _) ?_
                                  rintro _ _ ⟨rfl, rfl⟩ -
                                  exact w_ireturn dX11_lineNow_148 rfl (rfl) rfl (⟨rfl, rfl⟩)
                              · skip
                                first
                                | (exfalso; omega)
                                | skip
                                  refine w_bipush (v := 8) dX11_lineNow_139 (by decide) ?_
                                  refine w_goto (tgt := 148) dX11_lineNow_141 (by decide) ?_
                                  have w9 : wdT b st nx = 8 := wd_is (by decide) ((sp_8 hk hnx).mpr (by omega))
                                  rw [w9, if_neg (by decide)]
                                  exact w_ireturn dX11_lineNow_148 rfl (rfl) rfl (⟨rfl, rfl⟩)
                      · skip
                        first
                        | (exfalso; omega)
                        | skip
                          refine w_bipush (v := 7) dX11_lineNow_110 (by decide) ?_
                          have w9 : wdT b st nx = 7 := wd_is (by decide) ((sp_7 hk hnx).mpr (by omega))
                          rw [w9, if_neg (by decide)]
                          exact w_ireturn dX11_lineNow_112 rfl (rfl) rfl (⟨rfl, rfl⟩)
              · skip
                first
                | (exfalso; omega)
                | skip
                  refine w_aload_n dX11_lineNow_68 rfl ?_
                  refine w_bipush (v := 104) dX11_lineNow_69 (by decide) ?_
                  refine w_iconst (v := 0) dX11_lineNow_71 (by decide) ?_
                  refine w_iconst (v := 0) dX11_lineNow_72 (by decide) ?_
                  refine w_callV (as := [vI (104), vI (0), vI (0)]) (st := []) (Tri.mono (d_ends hk ht z12 z11 hst hnx (a := 104) (c := 0) (d := 0) (by decide) (by decide) (by decide) (by omega) (by omega) (by omega)) (Nat.le_of_ble_eq_true rfl)) rfl rfl tg_X11_ends lk_X11_93 in_X11_ends se_X11_ends rfl dX11_lineNow_73 rfl (Nat.le_of_ble_eq_true rfl) (Nat.le_refl _) (Nat.le_refl _) ?_
                  rintro _ _ ⟨rfl, rfl⟩ -
                  refine w_ifeq_b (tgt := 82) dX11_lineNow_76 (by decide) (fun h5 => ?_) (fun h5 => ?_)
                  · skip
                    first
                    | (exfalso; omega)
                    | skip
                      refine w_aload_n dX11_lineNow_82 rfl ?_
                      refine w_bipush (v := 6) dX11_lineNow_83 (by decide) ?_
                      refine w_bipush (v := 115) dX11_lineNow_85 (by decide) ?_
                      refine w_bipush (v := 116) dX11_lineNow_87 (by decide) ?_
                      refine w_bipush (v := 111) dX11_lineNow_89 (by decide) ?_
                      refine w_callV (as := [vI (6), vI (115), vI (116), vI (111)]) (st := []) (Tri.mono (d_is hk ht z12 z11 hst hnx (k := 6) (a := 115) (c := 116) (d := 111) (by decide) (by decide) (by decide) (by decide) (by decide)) (Nat.le_of_ble_eq_true rfl)) rfl rfl tg_X11_is lk_X11_89 in_X11_is se_X11_is rfl dX11_lineNow_91 rfl (Nat.le_of_ble_eq_true rfl) (Nat.le_refl _) (Nat.le_refl _) ?_
                      rintro _ _ ⟨rfl, rfl⟩ -
                      refine w_ifeq_b (tgt := 113) dX11_lineNow_94 (by decide) (fun h6 => ?_) (fun h6 => ?_)
                      · skip
                        first
                        | (exfalso; omega)
                        | skip
                          refine w_aload_n dX11_lineNow_113 rfl ?_
                          refine w_iconst (v := 5) dX11_lineNow_114 (by decide) ?_
                          refine w_bipush (v := 99) dX11_lineNow_115 (by decide) ?_
                          refine w_bipush (v := 114) dX11_lineNow_117 (by decide) ?_
                          refine w_bipush (v := 105) dX11_lineNow_119 (by decide) ?_
                          refine w_callV (as := [vI (5), vI (99), vI (114), vI (105)]) (st := []) (Tri.mono (d_is hk ht z12 z11 hst hnx (k := 5) (a := 99) (c := 114) (d := 105) (by decide) (by decide) (by decide) (by decide) (by decide)) (Nat.le_of_ble_eq_true rfl)) rfl rfl tg_X11_is lk_X11_89 in_X11_is se_X11_is rfl dX11_lineNow_121 rfl (Nat.le_of_ble_eq_true rfl) (Nat.le_refl _) (Nat.le_refl _) ?_
                          rintro _ _ ⟨rfl, rfl⟩ -
                          refine w_ifeq_b (tgt := 144) dX11_lineNow_124 (by decide) (fun h7 => ?_) (fun h7 => ?_)
                          · skip
                            first
                            | (exfalso; omega)
                            | skip
                              refine w_aload_n dX11_lineNow_144 rfl ?_
                              refine w_callV (as := []) (st := []) (Tri.mono (d_judgeNow hk ht z12 z11 hst hnx (fun z => by have := (sp_4 hk hnx).mp z; omega) (fun z => by have := (sp_5 hk hnx).mp z; omega) (fun z => by have := (sp_6 hk hnx).mp z; omega) (fun z => by have := (sp_7 hk hnx).mp z; omega) (fun z => by have := (sp_8 hk hnx).mp z; omega)) (Nat.le_of_ble_eq_true rfl)) rfl rfl tg_X11_judgeNow lk_X11_97 in_X11_judgeNow se_X11_judgeNow rfl dX11_lineNow_145 rfl (Nat.le_of_ble_eq_true rfl) (Nat.le_refl _) (Nat.le_refl _) ?_
                              rintro _ _ ⟨rfl, rfl⟩ -
                              exact w_ireturn dX11_lineNow_148 rfl (rfl) rfl (⟨rfl, rfl⟩)
                          · skip
                            first
                            | (exfalso; omega)
                            | skip
                              refine w_aload_n dX11_lineNow_127 rfl ?_
                              refine w_bipush (v := 109) dX11_lineNow_128 (by decide) ?_
                              refine w_bipush (v := 101) dX11_lineNow_130 (by decide) ?_
                              refine w_iconst (v := 0) dX11_lineNow_132 (by decide) ?_
                              refine w_callV (as := [vI (109), vI (101), vI (0)]) (st := []) (Tri.mono (d_ends hk ht z12 z11 hst hnx (a := 109) (c := 101) (d := 0) (by decide) (by decide) (by decide) (by omega) (by omega) (by omega)) (Nat.le_of_ble_eq_true rfl)) rfl rfl tg_X11_ends lk_X11_93 in_X11_ends se_X11_ends rfl dX11_lineNow_133 rfl (Nat.le_of_ble_eq_true rfl) (Nat.le_refl _) (Nat.le_refl _) ?_
                              rintro _ _ ⟨rfl, rfl⟩ -
                              refine w_ifeq_b (tgt := 144) dX11_lineNow_136 (by decide) (fun h8 => ?_) (fun h8 => ?_)
                              · skip
                                first
                                | (exfalso; omega)
                                | skip
                                  refine w_aload_n dX11_lineNow_144 rfl ?_
                                  refine w_callV (as := []) (st := []) (Tri.mono (d_judgeNow hk ht z12 z11 hst hnx (fun z => by have := (sp_4 hk hnx).mp z; omega) (fun z => by have := (sp_5 hk hnx).mp z; omega) (fun z => by have := (sp_6 hk hnx).mp z; omega) (fun z => by have := (sp_7 hk hnx).mp z; omega) (fun z => by have := (sp_8 hk hnx).mp z; omega)) (Nat.le_of_ble_eq_true rfl)) rfl rfl tg_X11_judgeNow lk_X11_97 in_X11_judgeNow se_X11_judgeNow rfl dX11_lineNow_145 rfl (Nat.le_of_ble_eq_true rfl) (Nat.le_refl _) (Nat.le_refl _) ?_
                                  rintro _ _ ⟨rfl, rfl⟩ -
                                  exact w_ireturn dX11_lineNow_148 rfl (rfl) rfl (⟨rfl, rfl⟩)
                              · skip
                                first
                                | (exfalso; omega)
                                | skip
                                  refine w_bipush (v := 8) dX11_lineNow_139 (by decide) ?_
                                  refine w_goto (tgt := 148) dX11_lineNow_141 (by decide) ?_
                                  have w9 : wdT b st nx = 8 := wd_is (by decide) ((sp_8 hk hnx).mpr (by omega))
                                  rw [w9, if_neg (by decide)]
                                  exact w_ireturn dX11_lineNow_148 rfl (rfl) rfl (⟨rfl, rfl⟩)
                      · skip
                        first
                        | (exfalso; omega)
                        | skip
                          refine w_aload_n dX11_lineNow_97 rfl ?_
                          refine w_bipush (v := 99) dX11_lineNow_98 (by decide) ?_
                          refine w_bipush (v := 107) dX11_lineNow_100 (by decide) ?_
                          refine w_bipush (v := 115) dX11_lineNow_102 (by decide) ?_
                          refine w_callV (as := [vI (99), vI (107), vI (115)]) (st := []) (Tri.mono (d_ends hk ht z12 z11 hst hnx (a := 99) (c := 107) (d := 115) (by decide) (by decide) (by decide) (by omega) (by omega) (by omega)) (Nat.le_of_ble_eq_true rfl)) rfl rfl tg_X11_ends lk_X11_93 in_X11_ends se_X11_ends rfl dX11_lineNow_104 rfl (Nat.le_of_ble_eq_true rfl) (Nat.le_refl _) (Nat.le_refl _) ?_
                          rintro _ _ ⟨rfl, rfl⟩ -
                          refine w_ifeq_b (tgt := 113) dX11_lineNow_107 (by decide) (fun h7 => ?_) (fun h7 => ?_)
                          · skip
                            first
                            | (exfalso; omega)
                            | skip
                              refine w_aload_n dX11_lineNow_113 rfl ?_
                              refine w_iconst (v := 5) dX11_lineNow_114 (by decide) ?_
                              refine w_bipush (v := 99) dX11_lineNow_115 (by decide) ?_
                              refine w_bipush (v := 114) dX11_lineNow_117 (by decide) ?_
                              refine w_bipush (v := 105) dX11_lineNow_119 (by decide) ?_
                              refine w_callV (as := [vI (5), vI (99), vI (114), vI (105)]) (st := []) (Tri.mono (d_is hk ht z12 z11 hst hnx (k := 5) (a := 99) (c := 114) (d := 105) (by decide) (by decide) (by decide) (by decide) (by decide)) (Nat.le_of_ble_eq_true rfl)) rfl rfl tg_X11_is lk_X11_89 in_X11_is se_X11_is rfl dX11_lineNow_121 rfl (Nat.le_of_ble_eq_true rfl) (Nat.le_refl _) (Nat.le_refl _) ?_
                              rintro _ _ ⟨rfl, rfl⟩ -
                              refine w_ifeq_b (tgt := 144) dX11_lineNow_124 (by decide) (fun h8 => ?_) (fun h8 => ?_)
                              · skip
                                first
                                | (exfalso; omega)
                                | skip
                                  refine w_aload_n dX11_lineNow_144 rfl ?_
                                  refine w_callV (as := []) (st := []) (Tri.mono (d_judgeNow hk ht z12 z11 hst hnx (fun z => by have := (sp_4 hk hnx).mp z; omega) (fun z => by have := (sp_5 hk hnx).mp z; omega) (fun z => by have := (sp_6 hk hnx).mp z; omega) (fun z => by have := (sp_7 hk hnx).mp z; omega) (fun z => by have := (sp_8 hk hnx).mp z; omega)) (Nat.le_of_ble_eq_true rfl)) rfl rfl tg_X11_judgeNow lk_X11_97 in_X11_judgeNow se_X11_judgeNow rfl dX11_lineNow_145 rfl (Nat.le_of_ble_eq_true rfl) (Nat.le_refl _) (Nat.le_refl _) ?_
                                  rintro _ _ ⟨rfl, rfl⟩ -
                                  exact w_ireturn dX11_lineNow_148 rfl (rfl) rfl (⟨rfl, rfl⟩)
                              · skip
                                first
                                | (exfalso; omega)
                                | skip
                                  refine w_aload_n dX11_lineNow_127 rfl ?_
                                  refine w_bipush (v := 109) dX11_lineNow_128 (by decide) ?_
                                  refine w_bipush (v := 101) dX11_lineNow_130 (by decide) ?_
                                  refine w_iconst (v := 0) dX11_lineNow_132 (by decide) ?_
                                  refine w_callV (as := [vI (109), vI (101), vI (0)]) (st := []) (Tri.mono (d_ends hk ht z12 z11 hst hnx (a := 109) (c := 101) (d := 0) (by decide) (by decide) (by decide) (by omega) (by omega) (by omega)) (Nat.le_of_ble_eq_true rfl)) rfl rfl tg_X11_ends lk_X11_93 in_X11_ends se_X11_ends rfl dX11_lineNow_133 rfl (Nat.le_of_ble_eq_true rfl) (Nat.le_refl _) (Nat.le_refl _) ?_
                                  rintro _ _ ⟨rfl, rfl⟩ -
                                  refine w_ifeq_b (tgt := 144) dX11_lineNow_136 (by decide) (fun h9 => ?_) (fun h9 => ?_)
                                  · skip
                                    first
                                    | (exfalso; omega)
                                    | skip
                                      refine w_aload_n dX11_lineNow_144 rfl ?_
                                      refine w_callV (as := []) (st := []) (Tri.mono (d_judgeNow hk ht z12 z11 hst hnx (fun z => by have := (sp_4 hk hnx).mp z; omega) (fun z => by have := (sp_5 hk hnx).mp z; omega) (fun z => by have := (sp_6 hk hnx).mp z; omega) (fun z => by have := (sp_7 hk hnx).mp z; omega) (fun z => by have := (sp_8 hk hnx).mp z; omega)) (Nat.le_of_ble_eq_true rfl)) rfl rfl tg_X11_judgeNow lk_X11_97 in_X11_judgeNow se_X11_judgeNow rfl dX11_lineNow_145 rfl (Nat.le_of_ble_eq_true rfl) (Nat.le_refl _) (Nat.le_refl _) ?_
                                      rintro _ _ ⟨rfl, rfl⟩ -
                                      exact w_ireturn dX11_lineNow_148 rfl (rfl) rfl (⟨rfl, rfl⟩)
                                  · skip
                                    first
                                    | (exfalso; omega)
                                    | skip
                                      refine w_bipush (v := 8) dX11_lineNow_139 (by decide) ?_
                                      refine w_goto (tgt := 148) dX11_lineNow_141 (by decide) ?_
                                      have w9 : wdT b st nx = 8 := wd_is (by decide) ((sp_8 hk hnx).mpr (by omega))
                                      rw [w9, if_neg (by decide)]
                                      exact w_ireturn dX11_lineNow_148 rfl (rfl) rfl (⟨rfl, rfl⟩)
                          · skip
                            first
                            | (exfalso; omega)
                            | skip
                              refine w_bipush (v := 7) dX11_lineNow_110 (by decide) ?_
                              have w9 : wdT b st nx = 7 := wd_is (by decide) ((sp_7 hk hnx).mpr (by omega))
                              rw [w9, if_neg (by decide)]
                              exact w_ireturn dX11_lineNow_112 rfl (rfl) rfl (⟨rfl, rfl⟩)
                  · skip
                    first
                    | (exfalso; omega)
                    | skip
                      refine w_bipush (v := 6) dX11_lineNow_79 (by decide) ?_
                      have w9 : wdT b st nx = 6 := wd_is (by decide) ((sp_6 hk hnx).mpr (by omega))
                      rw [w9, if_neg (by decide)]
                      exact w_ireturn dX11_lineNow_81 rfl (rfl) rfl (⟨rfl, rfl⟩)
          · skip
            first
            | (exfalso; omega)
            | skip
              refine w_aload_n dX11_lineNow_41 rfl ?_
              refine w_bipush (v := 101) dX11_lineNow_42 (by decide) ?_
              refine w_iconst (v := 0) dX11_lineNow_44 (by decide) ?_
              refine w_iconst (v := 0) dX11_lineNow_45 (by decide) ?_
              refine w_callV (as := [vI (101), vI (0), vI (0)]) (st := []) (Tri.mono (d_ends hk ht z12 z11 hst hnx (a := 101) (c := 0) (d := 0) (by decide) (by decide) (by decide) (by omega) (by omega) (by omega)) (Nat.le_of_ble_eq_true rfl)) rfl rfl tg_X11_ends lk_X11_93 in_X11_ends se_X11_ends rfl dX11_lineNow_46 rfl (Nat.le_of_ble_eq_true rfl) (Nat.le_refl _) (Nat.le_refl _) ?_
              rintro _ _ ⟨rfl, rfl⟩ -
              refine w_ifeq_b (tgt := 54) dX11_lineNow_49 (by decide) (fun h4 => ?_) (fun h4 => ?_)
              · skip
                first
                | (exfalso; omega)
                | skip
                  refine w_aload_n dX11_lineNow_54 rfl ?_
                  refine w_iconst (v := 4) dX11_lineNow_55 (by decide) ?_
                  refine w_bipush (v := 108) dX11_lineNow_56 (by decide) ?_
                  refine w_bipush (v := 97) dX11_lineNow_58 (by decide) ?_
                  refine w_bipush (v := 115) dX11_lineNow_60 (by decide) ?_
                  refine w_callV (as := [vI (4), vI (108), vI (97), vI (115)]) (st := []) (Tri.mono (d_is hk ht z12 z11 hst hnx (k := 4) (a := 108) (c := 97) (d := 115) (by decide) (by decide) (by decide) (by decide) (by decide)) (Nat.le_of_ble_eq_true rfl)) rfl rfl tg_X11_is lk_X11_89 in_X11_is se_X11_is rfl dX11_lineNow_62 rfl (Nat.le_of_ble_eq_true rfl) (Nat.le_refl _) (Nat.le_refl _) ?_
                  rintro _ _ ⟨rfl, rfl⟩ -
                  refine w_ifeq_b (tgt := 82) dX11_lineNow_65 (by decide) (fun h5 => ?_) (fun h5 => ?_)
                  · skip
                    first
                    | (exfalso; omega)
                    | skip
                      refine w_aload_n dX11_lineNow_82 rfl ?_
                      refine w_bipush (v := 6) dX11_lineNow_83 (by decide) ?_
                      refine w_bipush (v := 115) dX11_lineNow_85 (by decide) ?_
                      refine w_bipush (v := 116) dX11_lineNow_87 (by decide) ?_
                      refine w_bipush (v := 111) dX11_lineNow_89 (by decide) ?_
                      refine w_callV (as := [vI (6), vI (115), vI (116), vI (111)]) (st := []) (Tri.mono (d_is hk ht z12 z11 hst hnx (k := 6) (a := 115) (c := 116) (d := 111) (by decide) (by decide) (by decide) (by decide) (by decide)) (Nat.le_of_ble_eq_true rfl)) rfl rfl tg_X11_is lk_X11_89 in_X11_is se_X11_is rfl dX11_lineNow_91 rfl (Nat.le_of_ble_eq_true rfl) (Nat.le_refl _) (Nat.le_refl _) ?_
                      rintro _ _ ⟨rfl, rfl⟩ -
                      refine w_ifeq_b (tgt := 113) dX11_lineNow_94 (by decide) (fun h6 => ?_) (fun h6 => ?_)
                      · skip
                        first
                        | (exfalso; omega)
                        | skip
                          refine w_aload_n dX11_lineNow_113 rfl ?_
                          refine w_iconst (v := 5) dX11_lineNow_114 (by decide) ?_
                          refine w_bipush (v := 99) dX11_lineNow_115 (by decide) ?_
                          refine w_bipush (v := 114) dX11_lineNow_117 (by decide) ?_
                          refine w_bipush (v := 105) dX11_lineNow_119 (by decide) ?_
                          refine w_callV (as := [vI (5), vI (99), vI (114), vI (105)]) (st := []) (Tri.mono (d_is hk ht z12 z11 hst hnx (k := 5) (a := 99) (c := 114) (d := 105) (by decide) (by decide) (by decide) (by decide) (by decide)) (Nat.le_of_ble_eq_true rfl)) rfl rfl tg_X11_is lk_X11_89 in_X11_is se_X11_is rfl dX11_lineNow_121 rfl (Nat.le_of_ble_eq_true rfl) (Nat.le_refl _) (Nat.le_refl _) ?_
                          rintro _ _ ⟨rfl, rfl⟩ -
                          refine w_ifeq_b (tgt := 144) dX11_lineNow_124 (by decide) (fun h7 => ?_) (fun h7 => ?_)
                          · skip
                            first
                            | (exfalso; omega)
                            | skip
                              refine w_aload_n dX11_lineNow_144 rfl ?_
                              refine w_callV (as := []) (st := []) (Tri.mono (d_judgeNow hk ht z12 z11 hst hnx (fun z => by have := (sp_4 hk hnx).mp z; omega) (fun z => by have := (sp_5 hk hnx).mp z; omega) (fun z => by have := (sp_6 hk hnx).mp z; omega) (fun z => by have := (sp_7 hk hnx).mp z; omega) (fun z => by have := (sp_8 hk hnx).mp z; omega)) (Nat.le_of_ble_eq_true rfl)) rfl rfl tg_X11_judgeNow lk_X11_97 in_X11_judgeNow se_X11_judgeNow rfl dX11_lineNow_145 rfl (Nat.le_of_ble_eq_true rfl) (Nat.le_refl _) (Nat.le_refl _) ?_
                              rintro _ _ ⟨rfl, rfl⟩ -
                              exact w_ireturn dX11_lineNow_148 rfl (rfl) rfl (⟨rfl, rfl⟩)
                          · skip
                            first
                            | (exfalso; omega)
                            | skip
                              refine w_aload_n dX11_lineNow_127 rfl ?_
                              refine w_bipush (v := 109) dX11_lineNow_128 (by decide) ?_
                              refine w_bipush (v := 101) dX11_lineNow_130 (by decide) ?_
                              refine w_iconst (v := 0) dX11_lineNow_132 (by decide) ?_
                              refine w_callV (as := [vI (109), vI (101), vI (0)]) (st := []) (Tri.mono (d_ends hk ht z12 z11 hst hnx (a := 109) (c := 101) (d := 0) (by decide) (by decide) (by decide) (by omega) (by omega) (by omega)) (Nat.le_of_ble_eq_true rfl)) rfl rfl tg_X11_ends lk_X11_93 in_X11_ends se_X11_ends rfl dX11_lineNow_133 rfl (Nat.le_of_ble_eq_true rfl) (Nat.le_refl _) (Nat.le_refl _) ?_
                              rintro _ _ ⟨rfl, rfl⟩ -
                              refine w_ifeq_b (tgt := 144) dX11_lineNow_136 (by decide) (fun h8 => ?_) (fun h8 => ?_)
                              · skip
                                first
                                | (exfalso; omega)
                                | skip
                                  refine w_aload_n dX11_lineNow_144 rfl ?_
                                  refine w_callV (as := []) (st := []) (Tri.mono (d_judgeNow hk ht z12 z11 hst hnx (fun z => by have := (sp_4 hk hnx).mp z; omega) (fun z => by have := (sp_5 hk hnx).mp z; omega) (fun z => by have := (sp_6 hk hnx).mp z; omega) (fun z => by have := (sp_7 hk hnx).mp z; omega) (fun z => by have := (sp_8 hk hnx).mp z; omega)) (Nat.le_of_ble_eq_true rfl)) rfl rfl tg_X11_judgeNow lk_X11_97 in_X11_judgeNow se_X11_judgeNow rfl dX11_lineNow_145 rfl (Nat.le_of_ble_eq_true rfl) (Nat.le_refl _) (Nat.le_refl _) ?_
                                  rintro _ _ ⟨rfl, rfl⟩ -
                                  exact w_ireturn dX11_lineNow_148 rfl (rfl) rfl (⟨rfl, rfl⟩)
                              · skip
                                first
                                | (exfalso; omega)
                                | skip
                                  refine w_bipush (v := 8) dX11_lineNow_139 (by decide) ?_
                                  refine w_goto (tgt := 148) dX11_lineNow_141 (by decide) ?_
                                  have w9 : wdT b st nx = 8 := wd_is (by decide) ((sp_8 hk hnx).mpr (by omega))
                                  rw [w9, if_neg (by decide)]
                                  exact w_ireturn dX11_lineNow_148 rfl (rfl) rfl (⟨rfl, rfl⟩)
                      · skip
                        first
                        | (exfalso; omega)
                        | skip
                          refine w_aload_n dX11_lineNow_97 rfl ?_
                          refine w_bipush (v := 99) dX11_lineNow_98 (by decide) ?_
                          refine w_bipush (v := 107) dX11_lineNow_100 (by decide) ?_
                          refine w_bipush (v := 115) dX11_lineNow_102 (by decide) ?_
                          refine w_callV (as := [vI (99), vI (107), vI (115)]) (st := []) (Tri.mono (d_ends hk ht z12 z11 hst hnx (a := 99) (c := 107) (d := 115) (by decide) (by decide) (by decide) (by omega) (by omega) (by omega)) (Nat.le_of_ble_eq_true rfl)) rfl rfl tg_X11_ends lk_X11_93 in_X11_ends se_X11_ends rfl dX11_lineNow_104 rfl (Nat.le_of_ble_eq_true rfl) (Nat.le_refl _) (Nat.le_refl _) ?_
                          rintro _ _ ⟨rfl, rfl⟩ -
                          refine w_ifeq_b (tgt := 113) dX11_lineNow_107 (by decide) (fun h7 => ?_) (fun h7 => ?_)
                          · skip
                            first
                            | (exfalso; omega)
                            | skip
                              refine w_aload_n dX11_lineNow_113 rfl ?_
                              refine w_iconst (v := 5) dX11_lineNow_114 (by decide) ?_
                              refine w_bipush (v := 99) dX11_lineNow_115 (by decide) ?_
                              refine w_bipush (v := 114) dX11_lineNow_117 (by decide) ?_
                              refine w_bipush (v := 105) dX11_lineNow_119 (by decide) ?_
                              refine w_callV (as := [vI (5), vI (99), vI (114), vI (105)]) (st := []) (Tri.mono (d_is hk ht z12 z11 hst hnx (k := 5) (a := 99) (c := 114) (d := 105) (by decide) (by decide) (by decide) (by decide) (by decide)) (Nat.le_of_ble_eq_true rfl)) rfl rfl tg_X11_is lk_X11_89 in_X11_is se_X11_is rfl dX11_lineNow_121 rfl (Nat.le_of_ble_eq_true rfl) (Nat.le_refl _) (Nat.le_refl _) ?_
                              rintro _ _ ⟨rfl, rfl⟩ -
                              refine w_ifeq_b (tgt := 144) dX11_lineNow_124 (by decide) (fun h8 => ?_) (fun h8 => ?_)
                              · skip
                                first
                                | (exfalso; omega)
                                | skip
                                  refine w_aload_n dX11_lineNow_144 rfl ?_
                                  refine w_callV (as := []) (st := []) (Tri.mono (d_judgeNow hk ht z12 z11 hst hnx (fun z => by have := (sp_4 hk hnx).mp z; omega) (fun z => by have := (sp_5 hk hnx).mp z; omega) (fun z => by have := (sp_6 hk hnx).mp z; omega) (fun z => by have := (sp_7 hk hnx).mp z; omega) (fun z => by have := (sp_8 hk hnx).mp z; omega)) (Nat.le_of_ble_eq_true rfl)) rfl rfl tg_X11_judgeNow lk_X11_97 in_X11_judgeNow se_X11_judgeNow rfl dX11_lineNow_145 rfl (Nat.le_of_ble_eq_true rfl) (Nat.le_refl _) (Nat.le_refl _) ?_
                                  rintro _ _ ⟨rfl, rfl⟩ -
                                  exact w_ireturn dX11_lineNow_148 rfl (rfl) rfl (⟨rfl, rfl⟩)
                              · skip
                                first
                                | (exfalso; omega)
                                | skip
                                  refine w_aload_n dX11_lineNow_127 rfl ?_
                                  refine w_bipush (v := 109) dX11_lineNow_128 (by decide) ?_
                                  refine w_bipush (v := 101) dX11_lineNow_130 (by decide) ?_
                                  refine w_iconst (v := 0) dX11_lineNow_132 (by decide) ?_
                                  refine w_callV (as := [vI (109), vI (101), vI (0)]) (st := []) (Tri.mono (d_ends hk ht z12 z11 hst hnx (a := 109) (c := 101) (d := 0) (by decide) (by decide) (by decide) (by omega) (by omega) (by omega)) (Nat.le_of_ble_eq_true rfl)) rfl rfl tg_X11_ends lk_X11_93 in_X11_ends se_X11_ends rfl dX11_lineNow_133 rfl (Nat.le_of_ble_eq_true rfl) (Nat.le_refl _) (Nat.le_refl _) ?_
                                  rintro _ _ ⟨rfl, rfl⟩ -
                                  refine w_ifeq_b (tgt := 144) dX11_lineNow_136 (by decide) (fun h9 => ?_) (fun h9 => ?_)
                                  · skip
                                    first
                                    | (exfalso; omega)
                                    | skip
                                      refine w_aload_n dX11_lineNow_144 rfl ?_
                                      refine w_callV (as := []) (st := []) (Tri.mono (d_judgeNow hk ht z12 z11 hst hnx (fun z => by have := (sp_4 hk hnx).mp z; omega) (fun z => by have := (sp_5 hk hnx).mp z; omega) (fun z => by have := (sp_6 hk hnx).mp z; omega) (fun z => by have := (sp_7 hk hnx).mp z; omega) (fun z => by have := (sp_8 hk hnx).mp z; omega)) (Nat.le_of_ble_eq_true rfl)) rfl rfl tg_X11_judgeNow lk_X11_97 in_X11_judgeNow se_X11_judgeNow rfl dX11_lineNow_145 rfl (Nat.le_of_ble_eq_true rfl) (Nat.le_refl _) (Nat.le_refl _) ?_
                                      rintro _ _ ⟨rfl, rfl⟩ -
                                      exact w_ireturn dX11_lineNow_148 rfl (rfl) rfl (⟨rfl, rfl⟩)
                                  · skip
                                    first
                                    | (exfalso; omega)
                                    | skip
                                      refine w_bipush (v := 8) dX11_lineNow_139 (by decide) ?_
                                      refine w_goto (tgt := 148) dX11_lineNow_141 (by decide) ?_
                                      have w9 : wdT b st nx = 8 := wd_is (by decide) ((sp_8 hk hnx).mpr (by omega))
                                      rw [w9, if_neg (by decide)]
                                      exact w_ireturn dX11_lineNow_148 rfl (rfl) rfl (⟨rfl, rfl⟩)
                          · skip
                            first
                            | (exfalso; omega)
                            | skip
                              refine w_bipush (v := 7) dX11_lineNow_110 (by decide) ?_
                              have w9 : wdT b st nx = 7 := wd_is (by decide) ((sp_7 hk hnx).mpr (by omega))
                              rw [w9, if_neg (by decide)]
                              exact w_ireturn dX11_lineNow_112 rfl (rfl) rfl (⟨rfl, rfl⟩)
                  · skip
                    first
                    | (exfalso; omega)
                    | skip
                      refine w_aload_n dX11_lineNow_68 rfl ?_
                      refine w_bipush (v := 104) dX11_lineNow_69 (by decide) ?_
                      refine w_iconst (v := 0) dX11_lineNow_71 (by decide) ?_
                      refine w_iconst (v := 0) dX11_lineNow_72 (by decide) ?_
                      refine w_callV (as := [vI (104), vI (0), vI (0)]) (st := []) (Tri.mono (d_ends hk ht z12 z11 hst hnx (a := 104) (c := 0) (d := 0) (by decide) (by decide) (by decide) (by omega) (by omega) (by omega)) (Nat.le_of_ble_eq_true rfl)) rfl rfl tg_X11_ends lk_X11_93 in_X11_ends se_X11_ends rfl dX11_lineNow_73 rfl (Nat.le_of_ble_eq_true rfl) (Nat.le_refl _) (Nat.le_refl _) ?_
                      rintro _ _ ⟨rfl, rfl⟩ -
                      refine w_ifeq_b (tgt := 82) dX11_lineNow_76 (by decide) (fun h6 => ?_) (fun h6 => ?_)
                      · skip
                        first
                        | (exfalso; omega)
                        | skip
                          refine w_aload_n dX11_lineNow_82 rfl ?_
                          refine w_bipush (v := 6) dX11_lineNow_83 (by decide) ?_
                          refine w_bipush (v := 115) dX11_lineNow_85 (by decide) ?_
                          refine w_bipush (v := 116) dX11_lineNow_87 (by decide) ?_
                          refine w_bipush (v := 111) dX11_lineNow_89 (by decide) ?_
                          refine w_callV (as := [vI (6), vI (115), vI (116), vI (111)]) (st := []) (Tri.mono (d_is hk ht z12 z11 hst hnx (k := 6) (a := 115) (c := 116) (d := 111) (by decide) (by decide) (by decide) (by decide) (by decide)) (Nat.le_of_ble_eq_true rfl)) rfl rfl tg_X11_is lk_X11_89 in_X11_is se_X11_is rfl dX11_lineNow_91 rfl (Nat.le_of_ble_eq_true rfl) (Nat.le_refl _) (Nat.le_refl _) ?_
                          rintro _ _ ⟨rfl, rfl⟩ -
                          refine w_ifeq_b (tgt := 113) dX11_lineNow_94 (by decide) (fun h7 => ?_) (fun h7 => ?_)
                          · skip
                            first
                            | (exfalso; omega)
                            | skip
                              refine w_aload_n dX11_lineNow_113 rfl ?_
                              refine w_iconst (v := 5) dX11_lineNow_114 (by decide) ?_
                              refine w_bipush (v := 99) dX11_lineNow_115 (by decide) ?_
                              refine w_bipush (v := 114) dX11_lineNow_117 (by decide) ?_
                              refine w_bipush (v := 105) dX11_lineNow_119 (by decide) ?_
                              refine w_callV (as := [vI (5), vI (99), vI (114), vI (105)]) (st := []) (Tri.mono (d_is hk ht z12 z11 hst hnx (k := 5) (a := 99) (c := 114) (d := 105) (by decide) (by decide) (by decide) (by decide) (by decide)) (Nat.le_of_ble_eq_true rfl)) rfl rfl tg_X11_is lk_X11_89 in_X11_is se_X11_is rfl dX11_lineNow_121 rfl (Nat.le_of_ble_eq_true rfl) (Nat.le_refl _) (Nat.le_refl _) ?_
                              rintro _ _ ⟨rfl, rfl⟩ -
                              refine w_ifeq_b (tgt := 144) dX11_lineNow_124 (by decide) (fun h8 => ?_) (fun h8 => ?_)
                              · skip
                                first
                                | (exfalso; omega)
                                | skip
                                  refine w_aload_n dX11_lineNow_144 rfl ?_
                                  refine w_callV (as := []) (st := []) (Tri.mono (d_judgeNow hk ht z12 z11 hst hnx (fun z => by have := (sp_4 hk hnx).mp z; omega) (fun z => by have := (sp_5 hk hnx).mp z; omega) (fun z => by have := (sp_6 hk hnx).mp z; omega) (fun z => by have := (sp_7 hk hnx).mp z; omega) (fun z => by have := (sp_8 hk hnx).mp z; omega)) (Nat.le_of_ble_eq_true rfl)) rfl rfl tg_X11_judgeNow lk_X11_97 in_X11_judgeNow se_X11_judgeNow rfl dX11_lineNow_145 rfl (Nat.le_of_ble_eq_true rfl) (Nat.le_refl _) (Nat.le_refl _) ?_
                                  rintro _ _ ⟨rfl, rfl⟩ -
                                  exact w_ireturn dX11_lineNow_148 rfl (rfl) rfl (⟨rfl, rfl⟩)
                              · skip
                                first
                                | (exfalso; omega)
                                | skip
                                  refine w_aload_n dX11_lineNow_127 rfl ?_
                                  refine w_bipush (v := 109) dX11_lineNow_128 (by decide) ?_
                                  refine w_bipush (v := 101) dX11_lineNow_130 (by decide) ?_
                                  refine w_iconst (v := 0) dX11_lineNow_132 (by decide) ?_
                                  refine w_callV (as := [vI (109), vI (101), vI (0)]) (st := []) (Tri.mono (d_ends hk ht z12 z11 hst hnx (a := 109) (c := 101) (d := 0) (by decide) (by decide) (by decide) (by omega) (by omega) (by omega)) (Nat.le_of_ble_eq_true rfl)) rfl rfl tg_X11_ends lk_X11_93 in_X11_ends se_X11_ends rfl dX11_lineNow_133 rfl (Nat.le_of_ble_eq_true rfl) (Nat.le_refl _) (Nat.le_refl _) ?_
                                  rintro _ _ ⟨rfl, rfl⟩ -
                                  refine w_ifeq_b (tgt := 144) dX11_lineNow_136 (by decide) (fun h9 => ?_) (fun h9 => ?_)
                                  · skip
                                    first
                                    | (exfalso; omega)
                                    | skip
                                      refine w_aload_n dX11_lineNow_144 rfl ?_
                                      refine w_callV (as := []) (st := []) (Tri.mono (d_judgeNow hk ht z12 z11 hst hnx (fun z => by have := (sp_4 hk hnx).mp z; omega) (fun z => by have := (sp_5 hk hnx).mp z; omega) (fun z => by have := (sp_6 hk hnx).mp z; omega) (fun z => by have := (sp_7 hk hnx).mp z; omega) (fun z => by have := (sp_8 hk hnx).mp z; omega)) (Nat.le_of_ble_eq_true rfl)) rfl rfl tg_X11_judgeNow lk_X11_97 in_X11_judgeNow se_X11_judgeNow rfl dX11_lineNow_145 rfl (Nat.le_of_ble_eq_true rfl) (Nat.le_refl _) (Nat.le_refl _) ?_
                                      rintro _ _ ⟨rfl, rfl⟩ -
                                      exact w_ireturn dX11_lineNow_148 rfl (rfl) rfl (⟨rfl, rfl⟩)
                                  · skip
                                    first
                                    | (exfalso; omega)
                                    | skip
                                      refine w_bipush (v := 8) dX11_lineNow_139 (by decide) ?_
                                      refine w_goto (tgt := 148) dX11_lineNow_141 (by decide) ?_
                                      have w9 : wdT b st nx = 8 := wd_is (by decide) ((sp_8 hk hnx).mpr (by omega))
                                      rw [w9, if_neg (by decide)]
                                      exact w_ireturn dX11_lineNow_148 rfl (rfl) rfl (⟨rfl, rfl⟩)
                          · skip
                            first
                            | (exfalso; omega)
                            | skip
                              refine w_aload_n dX11_lineNow_97 rfl ?_
                              refine w_bipush (v := 99) dX11_lineNow_98 (by decide) ?_
                              refine w_bipush (v := 107) dX11_lineNow_100 (by decide) ?_
                              refine w_bipush (v := 115) dX11_lineNow_102 (by decide) ?_
                              refine w_callV (as := [vI (99), vI (107), vI (115)]) (st := []) (Tri.mono (d_ends hk ht z12 z11 hst hnx (a := 99) (c := 107) (d := 115) (by decide) (by decide) (by decide) (by omega) (by omega) (by omega)) (Nat.le_of_ble_eq_true rfl)) rfl rfl tg_X11_ends lk_X11_93 in_X11_ends se_X11_ends rfl dX11_lineNow_104 rfl (Nat.le_of_ble_eq_true rfl) (Nat.le_refl _) (Nat.le_refl _) ?_
                              rintro _ _ ⟨rfl, rfl⟩ -
                              refine w_ifeq_b (tgt := 113) dX11_lineNow_107 (by decide) (fun h8 => ?_) (fun h8 => ?_)
                              · skip
                                first
                                | (exfalso; omega)
                                | skip
                                  refine w_aload_n dX11_lineNow_113 rfl ?_
                                  refine w_iconst (v := 5) dX11_lineNow_114 (by decide) ?_
                                  refine w_bipush (v := 99) dX11_lineNow_115 (by decide) ?_
                                  refine w_bipush (v := 114) dX11_lineNow_117 (by decide) ?_
                                  refine w_bipush (v := 105) dX11_lineNow_119 (by decide) ?_
                                  refine w_callV (as := [vI (5), vI (99), vI (114), vI (105)]) (st := []) (Tri.mono (d_is hk ht z12 z11 hst hnx (k := 5) (a := 99) (c := 114) (d := 105) (by decide) (by decide) (by decide) (by decide) (by decide)) (Nat.le_of_ble_eq_true rfl)) rfl rfl tg_X11_is lk_X11_89 in_X11_is se_X11_is rfl dX11_lineNow_121 rfl (Nat.le_of_ble_eq_true rfl) (Nat.le_refl _) (Nat.le_refl _) ?_
                                  rintro _ _ ⟨rfl, rfl⟩ -
                                  refine w_ifeq_b (tgt := 144) dX11_lineNow_124 (by decide) (fun h9 => ?_) (fun h9 => ?_)
                                  · skip
                                    first
                                    | (exfalso; omega)
                                    | skip
                                      refine w_aload_n dX11_lineNow_144 rfl ?_
                                      refine w_callV (as := []) (st := []) (Tri.mono (d_judgeNow hk ht z12 z11 hst hnx (fun z => by have := (sp_4 hk hnx).mp z; omega) (fun z => by have := (sp_5 hk hnx).mp z; omega) (fun z => by have := (sp_6 hk hnx).mp z; omega) (fun z => by have := (sp_7 hk hnx).mp z; omega) (fun z => by have := (sp_8 hk hnx).mp z; omega)) (Nat.le_of_ble_eq_true rfl)) rfl rfl tg_X11_judgeNow lk_X11_97 in_X11_judgeNow se_X11_judgeNow rfl dX11_lineNow_145 rfl (Nat.le_of_ble_eq_true rfl) (Nat.le_refl _) (Nat.le_refl _) ?_
                                      rintro _ _ ⟨rfl, rfl⟩ -
                                      exact w_ireturn dX11_lineNow_148 rfl (rfl) rfl (⟨rfl, rfl⟩)
                                  · skip
                                    first
                                    | (exfalso; omega)
                                    | skip
                                      refine w_aload_n dX11_lineNow_127 rfl ?_
                                      refine w_bipush (v := 109) dX11_lineNow_128 (by decide) ?_
                                      refine w_bipush (v := 101) dX11_lineNow_130 (by decide) ?_
                                      refine w_iconst (v := 0) dX11_lineNow_132 (by decide) ?_
                                      refine w_callV (as := [vI (109), vI (101), vI (0)]) (st := []) (Tri.mono (d_ends hk ht z12 z11 hst hnx (a := 109) (c := 101) (d := 0) (by decide) (by decide) (by decide) (by omega) (by omega) (by omega)) (Nat.le_of_ble_eq_true rfl)) rfl rfl tg_X11_ends lk_X11_93 in_X11_ends se_X11_ends rfl dX11_lineNow_133 rfl (Nat.le_of_ble_eq_true rfl) (Nat.le_refl _) (Nat.le_refl _) ?_
                                      rintro _ _ ⟨rfl, rfl⟩ -
                                      refine w_ifeq_b (tgt := 144) dX11_lineNow_136 (by decide) (fun h10 => ?_) (fun h10 => ?_)
                                      · skip
                                        first
                                        | (exfalso; omega)
                                        | skip
                                          refine w_aload_n dX11_lineNow_144 rfl ?_
                                          refine w_callV (as := []) (st := []) (Tri.mono (d_judgeNow hk ht z12 z11 hst hnx (fun z => by have := (sp_4 hk hnx).mp z; omega) (fun z => by have := (sp_5 hk hnx).mp z; omega) (fun z => by have := (sp_6 hk hnx).mp z; omega) (fun z => by have := (sp_7 hk hnx).mp z; omega) (fun z => by have := (sp_8 hk hnx).mp z; omega)) (Nat.le_of_ble_eq_true rfl)) rfl rfl tg_X11_judgeNow lk_X11_97 in_X11_judgeNow se_X11_judgeNow rfl dX11_lineNow_145 rfl (Nat.le_of_ble_eq_true rfl) (Nat.le_refl _) (Nat.le_refl _) ?_
                                          rintro _ _ ⟨rfl, rfl⟩ -
                                          exact w_ireturn dX11_lineNow_148 rfl (rfl) rfl (⟨rfl, rfl⟩)
                                      · skip
                                        first
                                        | (exfalso; omega)
                                        | skip
                                          refine w_bipush (v := 8) dX11_lineNow_139 (by decide) ?_
                                          refine w_goto (tgt := 148) dX11_lineNow_141 (by decide) ?_
                                          have w9 : wdT b st nx = 8 := wd_is (by decide) ((sp_8 hk hnx).mpr (by omega))
                                          rw [w9, if_neg (by decide)]
                                          exact w_ireturn dX11_lineNow_148 rfl (rfl) rfl (⟨rfl, rfl⟩)
                              · skip
                                first
                                | (exfalso; omega)
                                | skip
                                  refine w_bipush (v := 7) dX11_lineNow_110 (by decide) ?_
                                  have w9 : wdT b st nx = 7 := wd_is (by decide) ((sp_7 hk hnx).mpr (by omega))
                                  rw [w9, if_neg (by decide)]
                                  exact w_ireturn dX11_lineNow_112 rfl (rfl) rfl (⟨rfl, rfl⟩)
                      · skip
                        first
                        | (exfalso; omega)
                        | skip
                          refine w_bipush (v := 6) dX11_lineNow_79 (by decide) ?_
                          have w9 : wdT b st nx = 6 := wd_is (by decide) ((sp_6 hk hnx).mpr (by omega))
                          rw [w9, if_neg (by decide)]
                          exact w_ireturn dX11_lineNow_81 rfl (rfl) rfl (⟨rfl, rfl⟩)
              · skip
                first
                | (exfalso; omega)
                | skip
                  refine w_iconst (v := 5) dX11_lineNow_52 (by decide) ?_
                  have w9 : wdT b st nx = 5 := wd_is (by decide) ((sp_5 hk hnx).mpr (by omega))
                  rw [w9, if_neg (by decide)]
                  exact w_ireturn dX11_lineNow_53 rfl (rfl) rfl (⟨rfl, rfl⟩)
      · skip
        first
        | (exfalso; omega)
        | skip
          refine w_iconst (v := 4) dX11_lineNow_25 (by decide) ?_
          have w9 : wdT b st nx = 4 := wd_is (by decide) ((sp_4 hk hnx).mpr (by omega))
          rw [w9, if_neg (by decide)]
          exact w_ireturn dX11_lineNow_26 rfl (rfl) rfl (⟨rfl, rfl⟩)

theorem d_number {I : xF4 Int32} {L : xF4 Int64} {n : Nat} {b : Nat → Nat} (hk : BK n b) (ht : TN I n b) {s : tS} (hok : OKT n s) (h : TM I s) {lo hi : Nat} {lo9 hi9 : Int32} (hl : ∀ q, s = .inr q → lo9.toInt = lo) (e2 : hi9.toInt = hi) : Tri 2 109 m_X11_readNumber [vR 30 0 0, vI (lo9), vI (hi9)] (rM I L) (pR9 n b (chT lo hi s) I L) := by
  refine ⟨k_X11_readNumber, Nat.le_of_ble_eq_true rfl, ?_⟩
  show Wp _ _ _ 0 [some (vR 30 0 0), some (vI (lo9)), some (vI (hi9)), none] [] (rM I L) _
  obtain ⟨k1, k2⟩ := id hk
  rcases s with ⟨c, p⟩ | ⟨so, st, nx, v⟩
  · skip
    have q1 := hok.1
    have q2 := hok.2.1
    replace q1 : 1 ≤ c := q1
    replace q2 : c ≤ 5 := q2
    refine w_aload_n dX11_readNumber_0 rfl ?_
    refine w_getI ff_X11_73 rfl rfl dX11_readNumber_1 ?_
    rw [show (I 30 0 0 15 : Int32) = nI c from h.1]
    refine w_if_ne (tgt := 25) dX11_readNumber_4 (by decide) (fun h1 => ?_) (fun h1 => ?_)
    · skip
      replace h1 : ¬ (((c : Nat) : Int) = 0) := fun q => h1 ((zeq (z_nI (by omega)) (by decide)).mpr q)
      first
      | (exfalso; omega)
      | skip
        refine w_aload_n dX11_readNumber_25 rfl ?_
        refine w_getI ff_X11_73 rfl rfl dX11_readNumber_26 ?_
        rw [show (I 30 0 0 15 : Int32) = nI c from h.1]
        refine w_if_ne (tgt := 49) dX11_readNumber_29 (by decide) (fun h2 => ?_) (fun h2 => ?_)
        · skip
          replace h2 : ¬ (((c : Nat) : Int) = 0) := fun q => h2 ((zeq (z_nI (by omega)) (by decide)).mpr q)
          first
          | (exfalso; omega)
          | skip
            refine w_aload_n dX11_readNumber_49 rfl ?_
            refine w_getI ff_X11_73 rfl rfl dX11_readNumber_50 ?_
            rw [show (I 30 0 0 15 : Int32) = nI c from h.1]
            refine w_if_ne (tgt := 63) dX11_readNumber_53 (by decide) (fun h3 => ?_) (fun h3 => ?_)
            · skip
              replace h3 : ¬ (((c : Nat) : Int) = 0) := fun q => h3 ((zeq (z_nI (by omega)) (by decide)).mpr q)
              first
              | (exfalso; omega)
              | skip
                refine w_iconst (v := 0) dX11_readNumber_63 (by decide) ?_
                refine w_istore_n (ls' := [some (vR 30 0 0), some (vI (lo9)), some (vI (hi9)), some (vI (0))]) dX11_readNumber_64 rfl ?_
                refine w_aload_n dX11_readNumber_65 rfl ?_
                refine w_callV (as := []) (st := []) (Tri.mono (d_take hk ht hok h) (Nat.le_of_ble_eq_true rfl)) rfl rfl tg_X11_takes lk_X11_119 in_X11_takes se_X11_takes rfl dX11_readNumber_66 rfl (Nat.le_of_ble_eq_true rfl) (Nat.le_refl _) (Nat.le_refl _) ?_
                rintro v M9 ⟨rfl, I1, rfl, t1, f1⟩ -
                refine w_iload_n dX11_readNumber_69 rfl ?_
                exact w_ireturn dX11_readNumber_70 rfl (rfl) rfl (⟨rfl, _, rfl, t1, f1⟩)
            · skip
              replace h3 : ((c : Nat) : Int) = 0 := (zeq (z_nI (by omega)) (by decide)).mp h3
              first
              | (exfalso; omega)
              | skip
                refine w_aload_n dX11_readNumber_56 rfl ?_
                refine w_getI ff_X11_112 rfl rfl dX11_readNumber_57 ?_
                refine w_goto (tgt := 64) dX11_readNumber_60 (by decide) ?_
                refine w_istore_n (ls' := [some (vR 30 0 0), some (vI (lo9)), some (vI (hi9)), some (vI (I 30 0 0 14))]) dX11_readNumber_64 rfl ?_
                refine w_aload_n dX11_readNumber_65 rfl ?_
                refine w_callV (as := []) (st := []) (Tri.mono (d_take hk ht hok h) (Nat.le_of_ble_eq_true rfl)) rfl rfl tg_X11_takes lk_X11_119 in_X11_takes se_X11_takes rfl dX11_readNumber_66 rfl (Nat.le_of_ble_eq_true rfl) (Nat.le_refl _) (Nat.le_refl _) ?_
                rintro v M9 ⟨rfl, I1, rfl, t1, f1⟩ -
                refine w_iload_n dX11_readNumber_69 rfl ?_
                exact w_ireturn dX11_readNumber_70 rfl (rfl) rfl (⟨rfl, _, rfl, t1, f1⟩)
        · skip
          replace h2 : ((c : Nat) : Int) = 0 := (zeq (z_nI (by omega)) (by decide)).mp h2
          first
          | (exfalso; omega)
          | skip
            refine w_aload_n dX11_readNumber_32 rfl ?_
            refine w_aload_n dX11_readNumber_33 rfl ?_
            refine w_getI ff_X11_112 rfl rfl dX11_readNumber_34 ?_
            refine w_i2l dX11_readNumber_37 ?_
            refine w_iload_n dX11_readNumber_38 rfl ?_
            refine w_i2l dX11_readNumber_39 ?_
            refine w_iload_n dX11_readNumber_40 rfl ?_
            refine w_i2l dX11_readNumber_41 ?_
            exfalso
            omega
    · skip
      replace h1 : ((c : Nat) : Int) = 0 := (zeq (z_nI (by omega)) (by decide)).mp h1
      first
      | (exfalso; omega)
      | skip
        refine w_aload_n dX11_readNumber_7 rfl ?_
        refine w_aload_n dX11_readNumber_8 rfl ?_
        refine w_getI ff_X11_101 rfl rfl dX11_readNumber_9 ?_
        refine w_iconst (v := 2) dX11_readNumber_12 (by decide) ?_
        refine w_icmp_ne (tgt := 20) dX11_readNumber_13 (by decide) (fun h2 => ?_) (fun h2 => ?_)
        · skip
          first
          | (exfalso; omega)
          | skip
            refine w_iconst (v := 0) dX11_readNumber_20 (by decide) ?_
            refine w_iconst (v := 2) dX11_readNumber_21 (by decide) ?_
            exfalso
            omega
        · skip
          first
          | (exfalso; omega)
          | skip
            refine w_iconst (v := 1) dX11_readNumber_16 (by decide) ?_
            refine w_goto (tgt := 21) dX11_readNumber_17 (by decide) ?_
            refine w_iconst (v := 2) dX11_readNumber_21 (by decide) ?_
            exfalso
            omega
  · skip
    obtain ⟨g4, g5, g6, g7, g8, g9⟩ : so ≤ 3 ∧ st ≤ n ∧ nx ≤ n ∧ v ≤ 99 ∧ st ≤ nx ∧ (so = 0 ∨ (st < nx ∧ st < n)) := id hok
    have hl2 := hl _ rfl
    refine w_aload_n dX11_readNumber_0 rfl ?_
    refine w_getI ff_X11_73 rfl rfl dX11_readNumber_1 ?_
    rw [show (I 30 0 0 15 : Int32) = 0 from h.1]
    refine w_if_ne (tgt := 25) dX11_readNumber_4 (by decide) (fun h => absurd (by decide) h) (fun _ => ?_)
    refine w_aload_n dX11_readNumber_7 rfl ?_
    refine w_aload_n dX11_readNumber_8 rfl ?_
    refine w_getI ff_X11_101 rfl rfl dX11_readNumber_9 ?_
    rw [show (I 30 0 0 13 : Int32) = nI so from h.2.1]
    refine w_iconst (v := 2) dX11_readNumber_12 (by decide) ?_
    refine w_icmp_ne (tgt := 20) dX11_readNumber_13 (by decide) (fun h1 => ?_) (fun h1 => ?_)
    · skip
      replace h1 : ¬ (((so : Nat) : Int) = 2) := fun q => h1 ((zeq (z_nI (by omega)) (by decide)).mpr q)
      first
      | (exfalso; omega)
      | skip
        refine w_iconst (v := 0) dX11_readNumber_20 (by decide) ?_
        refine w_iconst (v := 2) dX11_readNumber_21 (by decide) ?_
        refine w_callV (as := [vI (0), vI (2)]) (st := []) (Tri.mono (d_needL (I := I) h.1 h.2.2.1 (2)) (Nat.le_of_ble_eq_true rfl)) rfl rfl tg_X11_needs lk_X11_115 in_X11_needs se_X11_needs rfl dX11_readNumber_22 rfl (Nat.le_of_ble_eq_true rfl) (Nat.le_refl _) (Nat.le_refl _) ?_
        rintro _ _ ⟨rfl, rfl⟩ -
        unfold pR9
        rw [ch_a (lo := lo) (hi := hi) (so := so) (st := st) (nx := nx) (v := v) (by omega)]
        refine w_aload_n dX11_readNumber_25 rfl ?_
        refine w_getI ff_X11_73 rfl rfl dX11_readNumber_26 ?_
        rw [show ((xup (xup I 30 0 0 15 (2)) 30 0 0 16 (nI st)) 30 0 0 15 : Int32) = 2 from ((xup_slot (by decide)).trans xup_self)]
        refine w_if_ne (tgt := 49) dX11_readNumber_29 (by decide) (fun _ => ?_) (fun h => absurd h (by decide))
        refine w_aload_n dX11_readNumber_49 rfl ?_
        refine w_getI ff_X11_73 rfl rfl dX11_readNumber_50 ?_
        rw [show ((xup (xup I 30 0 0 15 (2)) 30 0 0 16 (nI st)) 30 0 0 15 : Int32) = 2 from ((xup_slot (by decide)).trans xup_self)]
        refine w_if_ne (tgt := 63) dX11_readNumber_53 (by decide) (fun _ => ?_) (fun h => absurd h (by decide))
        refine w_iconst (v := 0) dX11_readNumber_63 (by decide) ?_
        refine w_istore_n (ls' := [some (vR 30 0 0), some (vI (lo9)), some (vI (hi9)), some (vI (0))]) dX11_readNumber_64 rfl ?_
        refine w_aload_n dX11_readNumber_65 rfl ?_
        refine w_callV (as := []) (st := []) (Tri.mono (d_take (I := xup (xup I 30 0 0 15 (2)) 30 0 0 16 (nI st)) hk (ht.fr ((FrN.rf.up (by decide)).up (by decide))) (s := (Sum.inl (2, st))) ⟨by show 1 ≤ 2; omega, by show 2 ≤ 5; omega, g5⟩ ⟨(xup_slot (by decide)).trans xup_self, xup_self⟩) (Nat.le_of_ble_eq_true rfl)) rfl rfl tg_X11_takes lk_X11_119 in_X11_takes se_X11_takes rfl dX11_readNumber_66 rfl (Nat.le_of_ble_eq_true rfl) (Nat.le_refl _) (Nat.le_refl _) ?_
        rintro v M9 ⟨rfl, I1, rfl, t1, f1⟩ -
        refine w_iload_n dX11_readNumber_69 rfl ?_
        exact w_ireturn dX11_readNumber_70 rfl (rfl) rfl (⟨rfl, _, rfl, t1, (((FrN.rf.up (by decide)).up (by decide)).tr f1)⟩)
    · skip
      replace h1 : ((so : Nat) : Int) = 2 := (zeq (z_nI (by omega)) (by decide)).mp h1
      first
      | (exfalso; omega)
      | skip
        refine w_iconst (v := 1) dX11_readNumber_16 (by decide) ?_
        refine w_goto (tgt := 21) dX11_readNumber_17 (by decide) ?_
        refine w_iconst (v := 2) dX11_readNumber_21 (by decide) ?_
        refine w_callV (as := [vI (1), vI (2)]) (st := []) (Tri.mono (d_need1 (I := I) (2)) (Nat.le_of_ble_eq_true rfl)) rfl rfl tg_X11_needs lk_X11_115 in_X11_needs se_X11_needs rfl dX11_readNumber_22 rfl (Nat.le_of_ble_eq_true rfl) (Nat.le_refl _) (Nat.le_refl _) ?_
        rintro _ _ ⟨rfl, rfl⟩ -
        refine w_aload_n dX11_readNumber_25 rfl ?_
        refine w_getI ff_X11_73 rfl rfl dX11_readNumber_26 ?_
        rw [show (I 30 0 0 15 : Int32) = 0 from h.1]
        refine w_if_ne (tgt := 49) dX11_readNumber_29 (by decide) (fun h => absurd (by decide) h) (fun _ => ?_)
        have e2x : so = 2 := by omega
        subst e2x
        refine w_aload_n dX11_readNumber_32 rfl ?_
        refine w_aload_n dX11_readNumber_33 rfl ?_
        refine w_getI ff_X11_112 rfl rfl dX11_readNumber_34 ?_
        rw [show (I 30 0 0 14 : Int32) = nI v from (h.2.2.2.2 rfl)]
        refine w_i2l dX11_readNumber_37 ?_
        refine w_iload_n dX11_readNumber_38 rfl ?_
        refine w_i2l dX11_readNumber_39 ?_
        refine w_iload_n dX11_readNumber_40 rfl ?_
        refine w_i2l dX11_readNumber_41 ?_
        refine w_callS (as := [vL ((nI v : Int32).toInt64), vL ((lo9 : Int32).toInt64), vL ((hi9 : Int32).toInt64)]) (st := [vR 30 0 0]) (Tri.mono (d_in ((nI v : Int32).toInt64) ((lo9 : Int32).toInt64) ((hi9 : Int32).toInt64)) (Nat.le_of_ble_eq_true rfl)) tg_X11_in lk_X11_66 sa_X11_in rfl dX11_readNumber_42 rfl (Nat.le_of_ble_eq_true rfl) (Nat.le_refl _) (Nat.le_refl _) ?_
        rintro _ _ ⟨rfl, rfl⟩ -
        refine w_top (y := bI (lo9.toInt ≤ ((v : Nat) : Int) ∧ ((v : Nat) : Int) ≤ hi9.toInt)) (show (bI (((lo9 : Int32).toInt64) ≤ ((nI v : Int32).toInt64) ∧ ((nI v : Int32).toInt64) ≤ ((hi9 : Int32).toInt64)) : Int32) = bI (lo9.toInt ≤ ((v : Nat) : Int) ∧ ((v : Nat) : Int) ≤ hi9.toInt) from inZ (x := nI v) (l := lo9) (h := hi9) (X := ((v : Nat) : Int)) (A := lo9.toInt) (B := hi9.toInt) rfl rfl rfl (z_nI (by omega)) rfl rfl) ?_
        refine w_iconst (v := 3) dX11_readNumber_45 (by decide) ?_
        by_cases p9 : (lo9.toInt ≤ ((v : Nat) : Int) ∧ ((v : Nat) : Int) ≤ hi9.toInt)
        · skip
          rw [bI_t p9]
          refine w_callV (as := [vI (1), vI (3)]) (st := []) (Tri.mono (d_need1 (I := I) (3)) (Nat.le_of_ble_eq_true rfl)) rfl rfl tg_X11_needs lk_X11_115 in_X11_needs se_X11_needs rfl dX11_readNumber_46 rfl (Nat.le_of_ble_eq_true rfl) (Nat.le_refl _) (Nat.le_refl _) ?_
          rintro _ _ ⟨rfl, rfl⟩ -
          unfold pR9
          rw [ch_b (lo := lo) (hi := hi) (st := st) (nx := nx) (v := v) (by omega)]
          refine w_aload_n dX11_readNumber_49 rfl ?_
          refine w_getI ff_X11_73 rfl rfl dX11_readNumber_50 ?_
          rw [show (I 30 0 0 15 : Int32) = 0 from h.1]
          refine w_if_ne (tgt := 63) dX11_readNumber_53 (by decide) (fun h => absurd (by decide) h) (fun _ => ?_)
          refine w_aload_n dX11_readNumber_56 rfl ?_
          refine w_getI ff_X11_112 rfl rfl dX11_readNumber_57 ?_
          rw [show (I 30 0 0 14 : Int32) = nI v from (h.2.2.2.2 rfl)]
          refine w_goto (tgt := 64) dX11_readNumber_60 (by decide) ?_
          refine w_istore_n (ls' := [some (vR 30 0 0), some (vI (lo9)), some (vI (hi9)), some (vI (nI v))]) dX11_readNumber_64 rfl ?_
          refine w_aload_n dX11_readNumber_65 rfl ?_
          refine w_callV (as := []) (st := []) (Tri.mono (d_take hk ht hok h) (Nat.le_of_ble_eq_true rfl)) rfl rfl tg_X11_takes lk_X11_119 in_X11_takes se_X11_takes rfl dX11_readNumber_66 rfl (Nat.le_of_ble_eq_true rfl) (Nat.le_refl _) (Nat.le_refl _) ?_
          rintro v M9 ⟨rfl, I1, rfl, t1, f1⟩ -
          refine w_iload_n dX11_readNumber_69 rfl ?_
          exact w_ireturn dX11_readNumber_70 rfl (rfl) rfl (⟨rfl, _, rfl, t1, f1⟩)
        · skip
          rw [bI_f p9]
          refine w_callV (as := [vI (0), vI (3)]) (st := []) (Tri.mono (d_needL (I := I) h.1 h.2.2.1 (3)) (Nat.le_of_ble_eq_true rfl)) rfl rfl tg_X11_needs lk_X11_115 in_X11_needs se_X11_needs rfl dX11_readNumber_46 rfl (Nat.le_of_ble_eq_true rfl) (Nat.le_refl _) (Nat.le_refl _) ?_
          rintro _ _ ⟨rfl, rfl⟩ -
          unfold pR9
          rw [ch_c (lo := lo) (hi := hi) (st := st) (nx := nx) (v := v) (by omega)]
          refine w_aload_n dX11_readNumber_49 rfl ?_
          refine w_getI ff_X11_73 rfl rfl dX11_readNumber_50 ?_
          rw [show ((xup (xup I 30 0 0 15 (3)) 30 0 0 16 (nI st)) 30 0 0 15 : Int32) = 3 from ((xup_slot (by decide)).trans xup_self)]
          refine w_if_ne (tgt := 63) dX11_readNumber_53 (by decide) (fun _ => ?_) (fun h => absurd h (by decide))
          refine w_iconst (v := 0) dX11_readNumber_63 (by decide) ?_
          refine w_istore_n (ls' := [some (vR 30 0 0), some (vI (lo9)), some (vI (hi9)), some (vI (0))]) dX11_readNumber_64 rfl ?_
          refine w_aload_n dX11_readNumber_65 rfl ?_
          refine w_callV (as := []) (st := []) (Tri.mono (d_take (I := xup (xup I 30 0 0 15 (3)) 30 0 0 16 (nI st)) hk (ht.fr ((FrN.rf.up (by decide)).up (by decide))) (s := (Sum.inl (3, st))) ⟨by show 1 ≤ 3; omega, by show 3 ≤ 5; omega, g5⟩ ⟨(xup_slot (by decide)).trans xup_self, xup_self⟩) (Nat.le_of_ble_eq_true rfl)) rfl rfl tg_X11_takes lk_X11_119 in_X11_takes se_X11_takes rfl dX11_readNumber_66 rfl (Nat.le_of_ble_eq_true rfl) (Nat.le_refl _) (Nat.le_refl _) ?_
          rintro v M9 ⟨rfl, I1, rfl, t1, f1⟩ -
          refine w_iload_n dX11_readNumber_69 rfl ?_
          exact w_ireturn dX11_readNumber_70 rfl (rfl) rfl (⟨rfl, _, rfl, t1, (((FrN.rf.up (by decide)).up (by decide)).tr f1)⟩)
