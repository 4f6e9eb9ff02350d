/-! THE PURE READER of texts; strings; the class's tokens (by wip/whole/gen/g79.py) -/
theorem w_i2c {d nF : Nat} {mr : xMR} {pc : Nat} {ls : List (Option xV)} {st : List xV} {M : xM} {Q : Option xV → xM → Prop} {x v : Int32} (hdg : decode mr.2.2.1 pc = .ok (.i2c, 1)) (hv : (x.toUInt32 % 65536).toInt32 = v) (k : Wp d nF mr (pc + 1) ls (vI v :: st) M Q) : Wp d nF mr pc ls (vI x :: st) M Q := by
  intro l p e R s m args below meth c sa D cA A loc H locs cells slots lsA Qm hC hP hS hL hl hoL hoS hn hc hs hE
  exact lv_i2c hC.1 hC.2.1 hdg hv (k l p e R s m args below meth c sa D cA A loc H locs cells slots lsA Qm hC hP hS hL hl hoL ⟨trivial, hoS.2⟩ hn hc hs hE)
/-- the words that begin lines -/
def wLen (k : Nat) : Nat := xLen.getD k 0
def wCh (k i : Nat) : Int32 := (xByt.getD k []).getD i 0
theorem wLen_le : ∀ k, k < 9 → wLen k ≤ 6 ∧ 3 ≤ wLen k := by decide +kernel
theorem wCh_and : ∀ k, k < 9 → ∀ i, i < 6 → ((wCh k i &&& 255).toUInt32 % 65536).toInt32 = wCh k i := by decide +kernel
theorem wCh_nar {k i : Nat} (hk : k < 9) (hi : i < 6) : narrow .char (.int (wCh k i)) = .int (wCh k i) := by
  rcases (show k = 0 ∨ k = 1 ∨ k = 2 ∨ k = 3 ∨ k = 4 ∨ k = 5 ∨ k = 6 ∨ k = 7 ∨ k = 8 by omega) with rfl | rfl | rfl | rfl | rfl | rfl | rfl | rfl | rfl <;> rcases (show i = 0 ∨ i = 1 ∨ i = 2 ∨ i = 3 ∨ i = 4 ∨ i = 5 by omega) with rfl | rfl | rfl | rfl | rfl | rfl <;> rfl
theorem shr_0 (x : Int32) : x >>> ((0 : Int32) &&& 31) = x := by
  have e : (0 : Int32) &&& 31 = 0 := by decide
  rw [e]
  exact Int32.shiftRight_zero
/-- the place behind the bytes from lo to hi that stand from i on -/
def bhG (n : Nat) (b : Nat → Nat) (lo hi : Nat) : Nat → Nat → Nat
  | 0, i => i
  | r + 1, i => if i < n ∧ lo ≤ b i ∧ b i ≤ hi then bhG n b lo hi r (i + 1) else i
def bhd (n : Nat) (b : Nat → Nat) (lo hi i : Nat) : Nat := bhG n b lo hi (n - i) i
theorem bhd_go {n : Nat} {b : Nat → Nat} {lo hi i : Nat} (h : i < n ∧ lo ≤ b i ∧ b i ≤ hi) : bhd n b lo hi i = bhd n b lo hi (i + 1) := by
  unfold bhd
  rw [show n - i = (n - (i + 1)) + 1 by omega, bhG, if_pos h]
theorem bhd_no {n : Nat} {b : Nat → Nat} {lo hi i : Nat} (h : ¬ (i < n ∧ lo ≤ b i ∧ b i ≤ hi)) : bhd n b lo hi i = i := by
  unfold bhd
  cases n - i with
  | zero => rfl
  | succ r => rw [bhG, if_neg h]
theorem bhd_le {n : Nat} {b : Nat → Nat} {lo hi : Nat} : ∀ (m i : Nat), i + m = n → i ≤ bhd n b lo hi i ∧ bhd n b lo hi i ≤ n ∧ ∀ x, i ≤ x → x < bhd n b lo hi i → lo ≤ b x ∧ b x ≤ hi
  | 0, i, h => by
    rw [bhd_no (by omega)]
    exact ⟨Nat.le_refl _, by omega, fun x h1 h2 => by omega⟩
  | m + 1, i, h => by
    by_cases q : i < n ∧ lo ≤ b i ∧ b i ≤ hi
    · obtain ⟨h1, h2, h3⟩ := bhd_le (n := n) (b := b) (lo := lo) (hi := hi) m (i + 1) (by omega)
      rw [bhd_go q]
      refine ⟨by omega, h2, fun x h4 h5 => ?_⟩
      by_cases e : x = i
      · subst e
        exact q.2
      · exact h3 x (by omega) h5
    · rw [bhd_no q]
      exact ⟨Nat.le_refl _, by omega, fun x h1 h2 => by omega⟩
/-- a word at its place -/
abbrev spT (b : Nat → Nat) (k st nx : Nat) : Prop := nx = st + wLen k ∧ ∀ i, i < wLen k → nI (b (st + i)) = wCh k i
def wdT (b : Nat → Nat) (st nx : Nat) : Nat := if spT b 0 st nx then 0 else if spT b 1 st nx then 1 else if spT b 2 st nx then 2 else if spT b 3 st nx then 3 else if spT b 4 st nx then 4 else if spT b 5 st nx then 5 else if spT b 6 st nx then 6 else if spT b 7 st nx then 7 else if spT b 8 st nx then 8 else 9
/-- the value of one or two digits -/
def vlT (b : Nat → Nat) (f e : Nat) : Nat := if e = f + 1 then b f - 48 else 10 * (b f - 48) + (b (f + 1) - 48)
/-- where a reader stands: a fault at a place; or a token: its sort, from, behind, value -/
abbrev tS : Type := (Nat × Nat) ⊕ (Nat × (Nat × (Nat × Nat)))
def lexT (n : Nat) (b : Nat → Nat) (p : Nat) : tS := if ¬ bhd n b 32 32 p < n then .inr (0, (bhd n b 32 32 p, (bhd n b 32 32 p, 0))) else
  if 97 ≤ b (bhd n b 32 32 p) ∧ b (bhd n b 32 32 p) ≤ 122 then .inr (1, (bhd n b 32 32 p, (bhd n b 97 122 (bhd n b 32 32 p), 0))) else
  if 48 ≤ b (bhd n b 32 32 p) ∧ b (bhd n b 32 32 p) ≤ 57 then (if 2 < bhd n b 48 57 (bhd n b 32 32 p) - bhd n b 32 32 p then .inl (1, bhd n b 32 32 p) else .inr (2, (bhd n b 32 32 p, (bhd n b 48 57 (bhd n b 32 32 p), vlT b (bhd n b 32 32 p) (bhd n b 48 57 (bhd n b 32 32 p)))))) else
  if b (bhd n b 32 32 p) = 59 then .inr (3, (bhd n b 32 32 p, (bhd n b 32 32 p + 1, 0))) else .inl (1, bhd n b 32 32 p)
def tkT (n : Nat) (b : Nat → Nat) : tS → tS
  | .inl q => .inl q
  | .inr q => lexT n b q.2.2.1
def flT (c : Nat) : tS → tS
  | .inl q => .inl q
  | .inr q => .inl (c, q.2.1)
def chT (lo hi : Nat) : tS → tS
  | .inl q => .inl q
  | .inr q => if ¬ q.1 = 2 then .inl (2, q.2.1) else if lo ≤ q.2.2.2 ∧ q.2.2.2 ≤ hi then .inr q else .inl (3, q.2.1)
def spS : tS → tS
  | .inl q => .inl q
  | .inr q => if q.1 = 3 then .inr q else .inl (2, q.2.1)
def vlS : tS → Nat
  | .inl _ => 0
  | .inr q => q.2.2.2
def OKT (n : Nat) : tS → Prop
  | .inl q => 1 ≤ q.1 ∧ q.1 ≤ 5 ∧ q.2 ≤ n
  | .inr q => q.1 ≤ 3 ∧ q.2.1 ≤ n ∧ q.2.2.1 ≤ n ∧ q.2.2.2 ≤ 99 ∧ q.2.1 ≤ q.2.2.1 ∧ (q.1 = 0 ∨ (q.2.1 < q.2.2.1 ∧ q.2.1 < n))
theorem vlT_le {b : Nat → Nat} {f e : Nat} (h : ∀ x, f ≤ x → x < e → 48 ≤ b x ∧ b x ≤ 57) (h1 : f < e) (h2 : e ≤ f + 2) : vlT b f e ≤ 99 := by
  unfold vlT
  split
  · have := h f (by omega) (by omega)
    omega
  · have := h f (by omega) (by omega)
    have := h (f + 1) (by omega) (by omega)
    omega
theorem lex_ok {n : Nat} {b : Nat → Nat} {p : Nat} (hp : p ≤ n) : OKT n (lexT n b p) := by
  obtain ⟨h1, h2, -⟩ := bhd_le (n := n) (b := b) (lo := 32) (hi := 32) (n - p) p (by omega)
  generalize hf : bhd n b 32 32 p = f at h1 h2
  unfold lexT
  rw [hf]
  by_cases q : f < n
  · rw [if_neg (by omega)]
    obtain ⟨a1, a2, a3⟩ := bhd_le (n := n) (b := b) (lo := 97) (hi := 122) (n - f) f (by omega)
    obtain ⟨d1, d2, d3⟩ := bhd_le (n := n) (b := b) (lo := 48) (hi := 57) (n - f) f (by omega)
    split
    · have e := bhd_go (n := n) (b := b) (lo := 97) (hi := 122) (i := f) (by omega)
      obtain ⟨c1, -, -⟩ := bhd_le (n := n) (b := b) (lo := 97) (hi := 122) (n - (f + 1)) (f + 1) (by omega)
      exact ⟨by show 1 ≤ 3; omega, h2, a2, Nat.zero_le _, a1, Or.inr ⟨by show f < bhd n b 97 122 f; omega, q⟩⟩
    · split
      · have e := bhd_go (n := n) (b := b) (lo := 48) (hi := 57) (i := f) (by omega)
        obtain ⟨c1, -, -⟩ := bhd_le (n := n) (b := b) (lo := 48) (hi := 57) (n - (f + 1)) (f + 1) (by omega)
        split
        · exact ⟨Nat.le_refl _, by show 1 ≤ 5; omega, h2⟩
        · exact ⟨by show 2 ≤ 3; omega, h2, d2, vlT_le d3 (by omega) (by omega), d1, Or.inr ⟨by show f < bhd n b 48 57 f; omega, q⟩⟩
      · split
        · exact ⟨by show 3 ≤ 3; omega, h2, by show f + 1 ≤ n; omega, Nat.zero_le _, by show f ≤ f + 1; omega, Or.inr ⟨by show f < f + 1; omega, q⟩⟩
        · exact ⟨Nat.le_refl _, by show 1 ≤ 5; omega, h2⟩
  · rw [if_pos q]
    exact ⟨by show 0 ≤ 3; omega, h2, h2, Nat.zero_le _, Nat.le_refl _, Or.inl rfl⟩
theorem tk_ok {n : Nat} {b : Nat → Nat} : ∀ {s : tS}, OKT n s → OKT n (tkT n b s)
  | .inl _, h => h
  | .inr _, h => lex_ok h.2.2.1
theorem fl_ok {n c : Nat} (h1 : 1 ≤ c) (h5 : c ≤ 5) : ∀ {s : tS}, OKT n s → OKT n (flT c s)
  | .inl _, h => h
  | .inr _, h => ⟨h1, h5, h.2.1⟩
theorem ch_ok {n lo hi : Nat} : ∀ {s : tS}, OKT n s → OKT n (chT lo hi s)
  | .inl _, h => h
  | .inr q, h => by
    show OKT n (if ¬ q.1 = 2 then .inl (2, q.2.1) else if lo ≤ q.2.2.2 ∧ q.2.2.2 ≤ hi then .inr q else .inl (3, q.2.1))
    split
    · exact ⟨by show 1 ≤ 2; omega, by show 2 ≤ 5; omega, h.2.1⟩
    · split
      · exact h
      · exact ⟨by show 1 ≤ 3; omega, by show 3 ≤ 5; omega, h.2.1⟩
theorem sp_ok {n : Nat} : ∀ {s : tS}, OKT n s → OKT n (spS s)
  | .inl _, h => h
  | .inr q, h => by
    show OKT n (if q.1 = 3 then .inr q else .inl (2, q.2.1))
    split
    · exact h
    · exact ⟨by show 1 ≤ 2; omega, by show 2 ≤ 5; omega, h.2.1⟩
/-! the class's reader -/
def TC (I : xF4 Int32) : tS → Prop
  | .inl q => I 10 0 0 2 = nI q.1 ∧ I 10 0 0 3 = nI q.2
  | .inr q => I 10 0 0 2 = 0 ∧ I 10 0 0 4 = nI q.1 ∧ I 10 0 0 5 = nI q.2.1 ∧ I 10 0 0 6 = nI q.2.2.1 ∧ (q.1 = 2 → I 10 0 0 7 = nI q.2.2.2)
def TB (I : xF4 Int32) (n : Nat) (b : Nat → Nat) : Prop := I 10 0 0 1 = nI n ∧ ∀ i, i < n → I 11 0 0 i = nI (b i)
def BK (n : Nat) (b : Nat → Nat) : Prop := n ≤ 160 ∧ ∀ i, i < n → b i < 128
/-- only the reader's own numbers have changed -/
def FrL (I I' : xF4 Int32) : Prop := ∀ t k j s, ¬ (t = 10 ∧ 2 ≤ s ∧ s ≤ 7) → I' t k j s = I t k j s
theorem FrL.rf {I : xF4 Int32} : FrL I I := fun _ _ _ _ _ => rfl
theorem FrL.tr {I I1 I2 : xF4 Int32} (h1 : FrL I I1) (h2 : FrL I1 I2) : FrL I I2 := fun t b j s h => (h2 t b j s h).trans (h1 t b j s h)
theorem FrL.up {I I1 : xF4 Int32} {s : Nat} {v : Int32} (h1 : FrL I I1) (h : 2 ≤ s ∧ s ≤ 7) : FrL I (xup I1 10 0 0 s v) := fun t b j s' hn => by
  unfold xup
  rw [if_neg (by rintro ⟨rfl, rfl, rfl, rfl⟩; exact hn ⟨rfl, h⟩)]
  exact h1 t b j s' hn
theorem TB.fr {I I' : xF4 Int32} {n : Nat} {b : Nat → Nat} (h : TB I n b) (f : FrL I I') : TB I' n b := ⟨(f 10 0 0 1 (by omega)).trans h.1, fun i hi => (f 11 0 0 i (by omega)).trans (h.2 i hi)⟩

theorem c_coder {I : xF4 Int32} {L : xF4 Int64} {k : Nat} (hk : k < 9) : Tri 0 109 m_J0_coder_7d493 [vS (k)] (rM I L) (pI 0 I L) := by
  refine ⟨k_J0_coder_7d493, Nat.le_of_ble_eq_true rfl, ?_⟩
  show Wp _ _ _ 0 [some (vS (k))] [] (rM I L) _
  refine w_getsC fs_J0_38 dJ0_coder_7d493_0 ?_
  refine w_if_eq (tgt := 13) dJ0_coder_7d493_3 (by decide) (fun h => absurd h ((by decide : ¬ (1 : Int32) = 0))) (fun _ => ?_)
  refine w_aload_n dJ0_coder_7d493_6 rfl ?_
  refine w_strC (k := k) hk fs_J0_15 dJ0_coder_7d493_7 ?_
  refine w_goto (tgt := 14) dJ0_coder_7d493_10 (by decide) ?_
  exact w_ireturn dJ0_coder_7d493_14 rfl (rfl) rfl (⟨rfl, rfl⟩)

theorem c_latin {I : xF4 Int32} {L : xF4 Int64} {k : Nat} (hk : k < 9) : Tri 0 109 m_J0_isLatin1_aae02 [vS (k)] (rM I L) (pI 1 I L) := by
  refine ⟨k_J0_isLatin1_aae02, Nat.le_of_ble_eq_true rfl, ?_⟩
  show Wp _ _ _ 0 [some (vS (k))] [] (rM I L) _
  refine w_getsC fs_J0_38 dJ0_isLatin1_aae02_0 ?_
  refine w_if_eq (tgt := 17) dJ0_isLatin1_aae02_3 (by decide) (fun h => absurd h ((by decide : ¬ (1 : Int32) = 0))) (fun _ => ?_)
  refine w_aload_n dJ0_isLatin1_aae02_6 rfl ?_
  refine w_strC (k := k) hk fs_J0_15 dJ0_isLatin1_aae02_7 ?_
  refine w_if_ne (tgt := 17) dJ0_isLatin1_aae02_10 (by decide) (fun h => absurd (rfl) h) (fun _ => ?_)
  refine w_iconst (v := 1) dJ0_isLatin1_aae02_13 (by decide) ?_
  refine w_goto (tgt := 18) dJ0_isLatin1_aae02_14 (by decide) ?_
  exact w_ireturn dJ0_isLatin1_aae02_18 rfl (rfl) rfl (⟨rfl, rfl⟩)

theorem c_slen {I : xF4 Int32} {L : xF4 Int64} {k : Nat} (hk : k < 9) : Tri 1 109 m_J0_length_8abf5 [vS (k)] (rM I L) (pI (nI (wLen k)) I L) := by
  refine ⟨k_J0_length_8abf5, Nat.le_of_ble_eq_true rfl, ?_⟩
  show Wp _ _ _ 0 [some (vS (k))] [] (rM I L) _
  refine w_aload_n dJ0_length_8abf5_0 rfl ?_
  refine w_strV (k := k) hk fs_J0_9 dJ0_length_8abf5_1 ?_
  refine w_strL (k := k) hk rfl dJ0_length_8abf5_4 ?_
  refine w_aload_n dJ0_length_8abf5_5 rfl ?_
  refine w_callT (as := []) (st := [vI (Int32.ofNat (xLen.getD k 0))]) (Tri.mono (c_coder hk) (Nat.le_of_ble_eq_true rfl)) hk rfl tg_J0_coder_7d493 lk_J0_335 in_J0_coder_7d493 se_J0_coder_7d493 rfl dJ0_length_8abf5_6 rfl (Nat.le_of_ble_eq_true rfl) (Nat.le_refl _) (Nat.le_refl _) ?_
  rintro _ _ ⟨rfl, rfl⟩ -
  refine w_ishr dJ0_length_8abf5_9 ?_
  refine w_top (y := nI (wLen k)) (shr_0 _) ?_
  exact w_ireturn dJ0_length_8abf5_10 rfl (rfl) rfl (⟨rfl, rfl⟩)

theorem c_pchk {I : xF4 Int32} {L : xF4 Int64} {i n : Nat} (hi : i < n) (hn : n < 2 ^ 31) (w9 : Option xId ⊕ Nat) : Tri 0 109 m_J3_checkIndex_8e157 [vI (nI i), vI (nI n), .inr (.inr w9)] (rM I L) (pI (nI i) I L) := by
  refine ⟨k_J3_checkIndex_8e157, Nat.le_of_ble_eq_true rfl, ?_⟩
  show Wp _ _ _ 0 [some (vI (nI i)), some (vI (nI n)), some (.inr (.inr w9))] [] (rM I L) _
  refine w_iload_n dJ3_checkIndex_8e157_0 rfl ?_
  refine w_if_lt (tgt := 9) dJ3_checkIndex_8e157_1 (by decide) (fun h => absurd h (nI_pos (by omega))) (fun _ => ?_)
  refine w_iload_n dJ3_checkIndex_8e157_4 rfl ?_
  refine w_iload_n dJ3_checkIndex_8e157_5 rfl ?_
  refine w_icmp_lt (tgt := 16) dJ3_checkIndex_8e157_6 (by decide) (fun _ => ?_) (fun h => absurd (nI_lt hi hn) h)
  refine w_iload_n dJ3_checkIndex_8e157_16 rfl ?_
  exact w_ireturn dJ3_checkIndex_8e157_17 rfl (rfl) rfl (⟨rfl, rfl⟩)

theorem c_schk {I : xF4 Int32} {L : xF4 Int64} {i n : Nat} (hi : i < n) (hn : n < 2 ^ 31) : Tri 1 109 m_J0_checkIndex_df160 [vI (nI i), vI (nI n)] (rM I L) (pV I L) := by
  refine ⟨k_J0_checkIndex_df160, Nat.le_of_ble_eq_true rfl, ?_⟩
  show Wp _ _ _ 0 [some (vI (nI i)), some (vI (nI n))] [] (rM I L) _
  refine w_iload_n dJ0_checkIndex_df160_0 rfl ?_
  refine w_iload_n dJ0_checkIndex_df160_1 rfl ?_
  refine w_getsF fs_J0_1053 dJ0_checkIndex_df160_2 ?_
  intro w9
  refine w_callS (as := [vI (nI i), vI (nI n), .inr (.inr w9)]) (st := []) (Tri.mono (c_pchk hi hn w9) (Nat.le_of_ble_eq_true rfl)) tg_J3_checkIndex_8e157 lk_J0_1059 sa_J3_checkIndex_8e157 rfl dJ0_checkIndex_df160_5 rfl (Nat.le_of_ble_eq_true rfl) (Nat.le_refl _) (Nat.le_refl _) ?_
  rintro _ _ ⟨rfl, rfl⟩ -
  refine w_pop dJ0_checkIndex_df160_8 rfl ?_
  exact w_return dJ0_checkIndex_df160_9 rfl rfl (⟨rfl, rfl⟩)

theorem c_char1 {I : xF4 Int32} {L : xF4 Int64} {k : Nat} (hk : k < 9) {i : Nat} (hi : i < wLen k) : Tri 3 109 m_J1_charAt_3b067 [vS (9 + k), vI (nI i)] (rM I L) (pI (wCh k i) I L) := by
  refine ⟨k_J1_charAt_3b067, Nat.le_of_ble_eq_true rfl, ?_⟩
  show Wp _ _ _ 0 [some (vS (9 + k)), some (vI (nI i))] [] (rM I L) _
  obtain ⟨l6, l3⟩ := wLen_le k hk
  refine w_iload_n dJ1_charAt_3b067_0 rfl ?_
  refine w_aload_n dJ1_charAt_3b067_1 rfl ?_
  refine w_strL (k := k) hk rfl dJ1_charAt_3b067_2 ?_
  show Wp _ _ _ _ _ (vI (nI (wLen k)) :: _) _ _
  refine w_callS (as := [vI (nI i), vI (nI (wLen k))]) (st := []) (Tri.mono (c_schk (i := i) (n := wLen k) hi (by omega)) (Nat.le_of_ble_eq_true rfl)) tg_J0_checkIndex_df160 lk_J1_9 sa_J0_checkIndex_df160 rfl dJ1_charAt_3b067_3 rfl (Nat.le_of_ble_eq_true rfl) (Nat.le_refl _) (Nat.le_refl _) ?_
  rintro _ _ ⟨rfl, rfl⟩ -
  refine w_aload_n dJ1_charAt_3b067_6 rfl ?_
  refine w_iload_n dJ1_charAt_3b067_7 rfl ?_
  refine w_strB (k := k) (a := i) (v := wCh k i) hk (nI_pos (by omega)) (nI_clamp (n := i) (by omega)) hi rfl dJ1_charAt_3b067_8 ?_
  refine w_sipush (v := 255) dJ1_charAt_3b067_9 (by decide) ?_
  refine w_iand dJ1_charAt_3b067_12 ?_
  refine w_i2c (v := wCh k i) dJ1_charAt_3b067_13 (wCh_and k hk i (by omega)) ?_
  exact w_ireturn dJ1_charAt_3b067_14 rfl (wCh_nar hk (by omega)) rfl (⟨rfl, rfl⟩)

theorem c_char {I : xF4 Int32} {L : xF4 Int64} {k : Nat} (hk : k < 9) {i : Nat} (hi : i < wLen k) : Tri 4 109 m_J0_charAt_5068e [vS (k), vI (nI i)] (rM I L) (pI (wCh k i) I L) := by
  refine ⟨k_J0_charAt_5068e, Nat.le_of_ble_eq_true rfl, ?_⟩
  show Wp _ _ _ 0 [some (vS (k)), some (vI (nI i))] [] (rM I L) _
  obtain ⟨l6, l3⟩ := wLen_le k hk
  refine w_aload_n dJ0_charAt_5068e_0 rfl ?_
  refine w_callT (as := []) (st := []) (Tri.mono (c_latin hk) (Nat.le_of_ble_eq_true rfl)) hk rfl tg_J0_isLatin1_aae02 lk_J0_492 in_J0_isLatin1_aae02 se_J0_isLatin1_aae02 rfl dJ0_charAt_5068e_1 rfl (Nat.le_of_ble_eq_true rfl) (Nat.le_refl _) (Nat.le_refl _) ?_
  rintro _ _ ⟨rfl, rfl⟩ -
  refine w_if_eq (tgt := 16) dJ0_charAt_5068e_4 (by decide) (fun h => absurd h ((by decide : ¬ (1 : Int32) = 0))) (fun _ => ?_)
  refine w_aload_n dJ0_charAt_5068e_7 rfl ?_
  refine w_strV (k := k) hk fs_J0_9 dJ0_charAt_5068e_8 ?_
  refine w_iload_n dJ0_charAt_5068e_11 rfl ?_
  refine w_callS (as := [vS (9 + k), vI (nI i)]) (st := []) (Tri.mono (c_char1 hk hi) (Nat.le_of_ble_eq_true rfl)) tg_J1_charAt_3b067 lk_J0_495 sa_J1_charAt_3b067 rfl dJ0_charAt_5068e_12 rfl (Nat.le_of_ble_eq_true rfl) (Nat.le_refl _) (Nat.le_refl _) ?_
  rintro _ _ ⟨rfl, rfl⟩ -
  exact w_ireturn dJ0_charAt_5068e_15 rfl (wCh_nar hk (by omega)) rfl (⟨rfl, rfl⟩)

theorem c_byteAt {I : xF4 Int32} {L : xF4 Int64} {n : Nat} {b : Nat → Nat} (hk : BK n b) (ht : TB I n b) {i : Nat} (hi : i < n) : Tri 0 109 m_X9_byteAt [vR 10 0 0, vI (nI i)] (rM I L) (pI (nI (b i)) I L) := by
  refine ⟨k_X9_byteAt, Nat.le_of_ble_eq_true rfl, ?_⟩
  show Wp _ _ _ 0 [some (vR 10 0 0), some (vI (nI i))] [] (rM I L) _
  obtain ⟨k1, k2⟩ := id hk
  refine w_iload_n dX9_byteAt_0 rfl ?_
  refine w_if_lt (tgt := 30) dX9_byteAt_1 (by decide) (fun h1 => ?_) (fun h1 => ?_)
  · skip
    replace h1 : ((i : Nat) : Int) < 0 := (zlt (z_nI (by omega)) (by decide)).mp h1
    first
    | (exfalso; omega)
    | skip
      exfalso
      omega
  · skip
    replace h1 : ¬ (((i : Nat) : Int) < 0) := fun q => h1 ((zlt (z_nI (by omega)) (by decide)).mpr q)
    first
    | (exfalso; omega)
    | skip
      refine w_iload_n dX9_byteAt_4 rfl ?_
      refine w_aload_n dX9_byteAt_5 rfl ?_
      refine w_getI ff_X9_15 rfl rfl dX9_byteAt_6 ?_
      rw [show (I 10 0 0 1 : Int32) = nI n from ht.1]
      refine w_icmp_ge (tgt := 30) dX9_byteAt_9 (by decide) (fun h2 => ?_) (fun h2 => ?_)
      · skip
        replace h2 : ((n : Nat) : Int) ≤ ((i : Nat) : Int) := (zle (z_nI (by omega)) (z_nI (by omega))).mp h2
        first
        | (exfalso; omega)
        | skip
          exfalso
          omega
      · skip
        replace h2 : ¬ (((n : Nat) : Int) ≤ ((i : Nat) : Int)) := fun q => h2 ((zle (z_nI (by omega)) (z_nI (by omega))).mpr q)
        first
        | (exfalso; omega)
        | skip
          refine w_iload_n dX9_byteAt_12 rfl ?_
          refine w_aload_n dX9_byteAt_13 rfl ?_
          refine w_getR (w := some (11, 0, 0)) ff_X9_9 rfl rfl dX9_byteAt_14 rfl ?_
          refine w_alen (v := 160) rfl rfl dX9_byteAt_17 ?_
          refine w_icmp_ge (tgt := 30) dX9_byteAt_18 (by decide) (fun h3 => ?_) (fun h3 => ?_)
          · skip
            replace h3 : 160 ≤ ((i : Nat) : Int) := (zle (by decide) (z_nI (by omega))).mp h3
            first
            | (exfalso; omega)
            | skip
              exfalso
              omega
          · skip
            replace h3 : ¬ (160 ≤ ((i : Nat) : Int)) := fun q => h3 ((zle (by decide) (z_nI (by omega))).mpr q)
            first
            | (exfalso; omega)
            | skip
              refine w_aload_n dX9_byteAt_21 rfl ?_
              refine w_getR (w := some (11, 0, 0)) ff_X9_9 rfl rfl dX9_byteAt_22 rfl ?_
              refine w_iload_n dX9_byteAt_25 rfl ?_
              refine w_baload (a := i) rfl (vp_in_nI (n := i) (by omega) (by omega)) (nI_clamp (n := i) (by omega)) dX9_byteAt_26 ?_
              rw [show (I 11 0 0 (i) : Int32) = nI (b i) from ht.2 i hi]
              refine w_goto (tgt := 31) dX9_byteAt_27 (by decide) ?_
              exact w_ireturn dX9_byteAt_31 rfl (rfl) rfl (⟨rfl, rfl⟩)

theorem c_byteAtO {I : xF4 Int32} {L : xF4 Int64} {n : Nat} {b : Nat → Nat} (hk : BK n b) (ht : TB I n b) {i : Nat} (hi : ¬ i < n) (hi2 : i < 1000) : Tri 0 109 m_X9_byteAt [vR 10 0 0, vI (nI i)] (rM I L) (pI (-1) I L) := by
  refine ⟨k_X9_byteAt, Nat.le_of_ble_eq_true rfl, ?_⟩
  show Wp _ _ _ 0 [some (vR 10 0 0), some (vI (nI i))] [] (rM I L) _
  obtain ⟨k1, k2⟩ := id hk
  refine w_iload_n dX9_byteAt_0 rfl ?_
  refine w_if_lt (tgt := 30) dX9_byteAt_1 (by decide) (fun h1 => ?_) (fun h1 => ?_)
  · skip
    replace h1 : ((i : Nat) : Int) < 0 := (zlt (z_nI (by omega)) (by decide)).mp h1
    first
    | (exfalso; omega)
    | skip
      refine w_iconst (v := (-1)) dX9_byteAt_30 (by decide) ?_
      exact w_ireturn dX9_byteAt_31 rfl (rfl) rfl (⟨rfl, rfl⟩)
  · skip
    replace h1 : ¬ (((i : Nat) : Int) < 0) := fun q => h1 ((zlt (z_nI (by omega)) (by decide)).mpr q)
    first
    | (exfalso; omega)
    | skip
      refine w_iload_n dX9_byteAt_4 rfl ?_
      refine w_aload_n dX9_byteAt_5 rfl ?_
      refine w_getI ff_X9_15 rfl rfl dX9_byteAt_6 ?_
      rw [show (I 10 0 0 1 : Int32) = nI n from ht.1]
      refine w_icmp_ge (tgt := 30) dX9_byteAt_9 (by decide) (fun h2 => ?_) (fun h2 => ?_)
      · skip
        replace h2 : ((n : Nat) : Int) ≤ ((i : Nat) : Int) := (zle (z_nI (by omega)) (z_nI (by omega))).mp h2
        first
        | (exfalso; omega)
        | skip
          refine w_iconst (v := (-1)) dX9_byteAt_30 (by decide) ?_
          exact w_ireturn dX9_byteAt_31 rfl (rfl) rfl (⟨rfl, rfl⟩)
      · skip
        replace h2 : ¬ (((n : Nat) : Int) ≤ ((i : Nat) : Int)) := fun q => h2 ((zle (z_nI (by omega)) (z_nI (by omega))).mpr q)
        first
        | (exfalso; omega)
        | skip
          exfalso
          omega

theorem l_behind {I : xF4 Int32} {L : xF4 Int64} {n : Nat} {b : Nat → Nat} (hk : BK n b) (ht : TB I n b) {lo hi i0 : Nat} {lo9 hi9 : Int32} (e1 : lo9.toInt = lo) (e2 : hi9.toInt = hi) : ∀ (m i : Nat), i + m = n → Wp 1 109 m_X9_behind 3 [some (vR 10 0 0), some (vI (nI i0)), some (vI (lo9)), some (vI (hi9)), some (vI (nI i))] [] (rM I L) (pI (nI (bhd n b lo hi i)) I L) := by
  obtain ⟨k1, k2⟩ := id hk
  intro m
  induction m with
  | zero =>
    intro i hi7
    refine w_iload dX9_behind_3 rfl ?_
    refine w_aload_n dX9_behind_5 rfl ?_
    refine w_getI ff_X9_15 rfl rfl dX9_behind_6 ?_
    rw [show (I 10 0 0 1 : Int32) = nI n from ht.1]
    refine w_icmp_ge (tgt := 32) dX9_behind_9 (by decide) (fun _ => ?_) (fun h => absurd (nI_le (by omega) (by omega)) h)
    refine w_iload dX9_behind_32 rfl ?_
    rw [bhd_no (by omega)]
    exact w_ireturn dX9_behind_34 rfl (rfl) rfl (⟨rfl, rfl⟩)
  | succ m ih =>
    intro i hi7
    have hin : i < n := by omega
    have h128 := k2 i hin
    refine w_iload dX9_behind_3 rfl ?_
    refine w_aload_n dX9_behind_5 rfl ?_
    refine w_getI ff_X9_15 rfl rfl dX9_behind_6 ?_
    rw [show (I 10 0 0 1 : Int32) = nI n from ht.1]
    refine w_icmp_ge (tgt := 32) dX9_behind_9 (by decide) (fun h => absurd h (nI_ge hin (by omega))) (fun _ => ?_)
    refine w_aload_n dX9_behind_12 rfl ?_
    refine w_iload dX9_behind_13 rfl ?_
    refine w_callV (as := [vI (nI i)]) (st := []) (Tri.mono (c_byteAt hk ht hin) (Nat.le_of_ble_eq_true rfl)) rfl rfl tg_X9_byteAt lk_X9_117 in_X9_byteAt se_X9_byteAt rfl dX9_behind_15 rfl (Nat.le_of_ble_eq_true rfl) (Nat.le_refl _) (Nat.le_refl _) ?_
    rintro _ _ ⟨rfl, rfl⟩ -
    refine w_iload_n dX9_behind_18 rfl ?_
    refine w_iload_n dX9_behind_19 rfl ?_
    refine w_callSN (as := [vI (nI (b i)), vI (lo9), vI (hi9)]) (st := []) (Tri.mono (c_X10_within (nI (b i)) lo9 hi9) (Nat.le_of_ble_eq_true rfl)) tg_X10_within ln_X9_106 sa_X10_within rfl dX9_behind_20 rfl (Nat.le_of_ble_eq_true rfl) (Nat.le_refl _) (Nat.le_refl _) ?_
    rintro _ _ ⟨rfl, rfl⟩ -
    refine w_top (y := bI ((lo : Int) ≤ ((b i : Nat) : Int) ∧ ((b i : Nat) : Int) ≤ (hi : Int))) (show (bI (lo9 ≤ nI (b i) ∧ nI (b i) ≤ hi9) : Int32) = bI ((lo : Int) ≤ ((b i : Nat) : Int) ∧ ((b i : Nat) : Int) ≤ (hi : Int)) from wiZ (X := ((b i : Nat) : Int)) (A := lo) (B := hi) (z_nI (by omega)) e1 e2) ?_
    refine w_ifeq_b (tgt := 32) dX9_behind_23 (by decide) (fun h1 => ?_) (fun h1 => ?_)
    · skip
      rw [bhd_no (by omega)]
      refine w_iload dX9_behind_32 rfl ?_
      exact w_ireturn dX9_behind_34 rfl (rfl) rfl (⟨rfl, rfl⟩)
    · skip
      rw [bhd_go (by omega)]
      refine w_iinc (v := nI (i + 1)) (ls' := [some (vR 10 0 0), some (vI (nI i0)), some (vI (lo9)), some (vI (hi9)), some (vI (nI (i + 1)))]) dX9_behind_26 rfl (nI_1 _) rfl ?_
      refine w_goto (tgt := 3) dX9_behind_29 (by decide) ?_
      exact ih (i + 1) (by omega)

theorem c_behind {I : xF4 Int32} {L : xF4 Int64} {n : Nat} {b : Nat → Nat} (hk : BK n b) (ht : TB I n b) {lo hi i : Nat} {lo9 hi9 : Int32} (e1 : lo9.toInt = lo) (e2 : hi9.toInt = hi) (hi2 : i ≤ n) : Tri 1 109 m_X9_behind [vR 10 0 0, vI (nI i), vI (lo9), vI (hi9)] (rM I L) (pI (nI (bhd n b lo hi i)) I L) := by
  refine ⟨k_X9_behind, Nat.le_of_ble_eq_true rfl, ?_⟩
  show Wp _ _ _ 0 [some (vR 10 0 0), some (vI (nI i)), some (vI (lo9)), some (vI (hi9)), none] [] (rM I L) _
  refine w_iload_n dX9_behind_0 rfl ?_
  refine w_istore (ls' := [some (vR 10 0 0), some (vI (nI i)), some (vI (lo9)), some (vI (hi9)), some (vI (nI i))]) dX9_behind_1 rfl ?_
  exact l_behind hk ht e1 e2 (n - i) i (by omega)

theorem c_failL {I : xF4 Int32} {L : xF4 Int64} {st9 : Int32} (h2 : I 10 0 0 2 = 0) (h5 : I 10 0 0 5 = st9) (c : Int32) : Tri 0 109 m_X9_fail [vR 10 0 0, vI (c)] (rM I L) (pV (xup (xup I 10 0 0 2 c) 10 0 0 3 st9) L) := by
  refine ⟨k_X9_fail, Nat.le_of_ble_eq_true rfl, ?_⟩
  show Wp _ _ _ 0 [some (vR 10 0 0), some (vI (c))] [] (rM I L) _
  refine w_aload_n dX9_fail_0 rfl ?_
  refine w_getI ff_X9_19 rfl rfl dX9_fail_1 ?_
  rw [show (I 10 0 0 2 : Int32) = 0 from h2]
  refine w_if_ne (tgt := 20) dX9_fail_4 (by decide) (fun h => absurd (by decide) h) (fun _ => ?_)
  refine w_aload_n dX9_fail_7 rfl ?_
  refine w_iload_n dX9_fail_8 rfl ?_
  refine w_putI ff_X9_19 rfl rfl rfl rfl dX9_fail_9 ?_
  refine w_aload_n dX9_fail_12 rfl ?_
  refine w_aload_n dX9_fail_13 rfl ?_
  refine w_getI ff_X9_110 rfl rfl dX9_fail_14 ?_
  rw [show ((xup I 10 0 0 2 (c)) 10 0 0 5 : Int32) = st9 from ((xup_slot (by decide)).trans h5)]
  refine w_putI ff_X9_22 rfl rfl rfl rfl dX9_fail_17 ?_
  exact w_return dX9_fail_20 rfl rfl (⟨rfl, rfl⟩)

theorem c_failD {I : xF4 Int32} {L : xF4 Int64} {e : Nat} (he : 1 ≤ e ∧ e ≤ 5) (h2 : I 10 0 0 2 = nI e) (c : Int32) : Tri 0 109 m_X9_fail [vR 10 0 0, vI (c)] (rM I L) (pV I L) := by
  refine ⟨k_X9_fail, Nat.le_of_ble_eq_true rfl, ?_⟩
  show Wp _ _ _ 0 [some (vR 10 0 0), some (vI (c))] [] (rM I L) _
  refine w_aload_n dX9_fail_0 rfl ?_
  refine w_getI ff_X9_19 rfl rfl dX9_fail_1 ?_
  rw [show (I 10 0 0 2 : Int32) = nI e from h2]
  refine w_if_ne (tgt := 20) dX9_fail_4 (by decide) (fun h1 => ?_) (fun h1 => ?_)
  · skip
    replace h1 : ¬ (((e : Nat) : Int) = 0) := fun q => h1 ((zeq (z_nI (by omega)) (by decide)).mpr q)
    first
    | (exfalso; omega)
    | skip
      exact w_return dX9_fail_20 rfl rfl (⟨rfl, rfl⟩)
  · skip
    replace h1 : ((e : Nat) : Int) = 0 := (zeq (z_nI (by omega)) (by decide)).mp h1
    first
    | (exfalso; omega)
    | skip
      exfalso
      omega

theorem vl_1 {x : Nat} (h : 48 ≤ x) : nI x - 48 = nI (x - 48) := ar_sub (p := x) (q := 48) rfl rfl h rfl
theorem vl_2 {v x : Nat} (h : 48 ≤ x) : nI (v * 10 + x) - 48 = nI (10 * v + (x - 48)) := ar_sub (p := v * 10 + x) (q := 48) rfl rfl (by omega) (by omega)

theorem c_value {I : xF4 Int32} {L : xF4 Int64} {n : Nat} {b : Nat → Nat} (hk : BK n b) (ht : TB I n b) {f e : Nat} (h5 : I 10 0 0 5 = nI f) (h6 : I 10 0 0 6 = nI e) (hfe : f < e) (he2 : e ≤ f + 2) (hen : e ≤ n) (hd : ∀ x, f ≤ x → x < e → 48 ≤ b x ∧ b x ≤ 57) : Tri 1 109 m_X9_valueThere [vR 10 0 0] (rM I L) (pI (nI (vlT b f e)) I L) := by
  refine ⟨k_X9_valueThere, Nat.le_of_ble_eq_true rfl, ?_⟩
  show Wp _ _ _ 0 [some (vR 10 0 0), none, none] [] (rM I L) _
  obtain ⟨k1, k2⟩ := id hk
  have d0 := hd f (Nat.le_refl _) hfe
  rcases (show e = f + 1 ∨ e = f + 2 by omega) with rfl | rfl
  · skip
    refine w_iconst (v := 0) dX9_valueThere_0 (by decide) ?_
    refine w_istore_n (ls' := [some (vR 10 0 0), some (vI (0)), none]) dX9_valueThere_1 rfl ?_
    refine w_aload_n dX9_valueThere_2 rfl ?_
    refine w_getI ff_X9_110 rfl rfl dX9_valueThere_3 ?_
    rw [show (I 10 0 0 5 : Int32) = nI f from h5]
    refine w_istore_n (ls' := [some (vR 10 0 0), some (vI (0)), some (vI (nI f))]) dX9_valueThere_6 rfl ?_
    refine w_iload_n dX9_valueThere_7 rfl ?_
    refine w_aload_n dX9_valueThere_8 rfl ?_
    refine w_getI ff_X9_30 rfl rfl dX9_valueThere_9 ?_
    rw [show (I 10 0 0 6 : Int32) = nI (f + 1) from h6]
    refine w_icmp_ge (tgt := 35) dX9_valueThere_12 (by decide) (fun h => absurd h (nI_ge (by omega) (by omega))) (fun _ => ?_)
    refine w_iload_n dX9_valueThere_15 rfl ?_
    refine w_bipush (v := 10) dX9_valueThere_16 (by decide) ?_
    refine w_imul dX9_valueThere_18 ?_
    rw [show ((0) * (10) : Int32) = nI (0) from ar_mul (p := 0) (q := 10) rfl rfl (by first | rfl | omega)]
    refine w_aload_n dX9_valueThere_19 rfl ?_
    refine w_iload_n dX9_valueThere_20 rfl ?_
    refine w_callV (as := [vI (nI f)]) (st := [vI (nI (0))]) (Tri.mono (c_byteAt hk ht (i := f) (by omega)) (Nat.le_of_ble_eq_true rfl)) rfl rfl tg_X9_byteAt lk_X9_117 in_X9_byteAt se_X9_byteAt rfl dX9_valueThere_21 rfl (Nat.le_of_ble_eq_true rfl) (Nat.le_refl _) (Nat.le_refl _) ?_
    rintro _ _ ⟨rfl, rfl⟩ -
    refine w_iadd dX9_valueThere_24 ?_
    rw [show ((nI (0)) + (nI (b f)) : Int32) = nI (b f) from ar_add (p := 0) (q := b f) rfl rfl (by omega)]
    refine w_bipush (v := 48) dX9_valueThere_25 (by decide) ?_
    refine w_isub dX9_valueThere_27 ?_
    refine w_top (y := nI (b f - 48)) (show ((nI (b f)) - (48) : Int32) = nI (b f - 48) from vl_1 d0.1) ?_
    refine w_istore_n (ls' := [some (vR 10 0 0), some (vI (nI (b f - 48))), some (vI (nI f))]) dX9_valueThere_28 rfl ?_
    refine w_iinc (v := nI (f + 1)) (ls' := [some (vR 10 0 0), some (vI (nI (b f - 48))), some (vI (nI (f + 1)))]) dX9_valueThere_29 rfl (nI_1 _) rfl ?_
    refine w_goto (tgt := 7) dX9_valueThere_32 (by decide) ?_
    refine w_iload_n dX9_valueThere_7 rfl ?_
    refine w_aload_n dX9_valueThere_8 rfl ?_
    refine w_getI ff_X9_30 rfl rfl dX9_valueThere_9 ?_
    rw [show (I 10 0 0 6 : Int32) = nI (f + 1) from h6]
    refine w_icmp_ge (tgt := 35) dX9_valueThere_12 (by decide) (fun _ => ?_) (fun h => absurd (nI_le (by omega) (by omega)) h)
    refine w_iload_n dX9_valueThere_35 rfl ?_
    rw [show vlT b f (f + 1) = b f - 48 from if_pos rfl]
    exact w_ireturn dX9_valueThere_36 rfl (rfl) rfl (⟨rfl, rfl⟩)
  · skip
    have d1 := hd (f + 1) (by omega) (by omega)
    refine w_iconst (v := 0) dX9_valueThere_0 (by decide) ?_
    refine w_istore_n (ls' := [some (vR 10 0 0), some (vI (0)), none]) dX9_valueThere_1 rfl ?_
    refine w_aload_n dX9_valueThere_2 rfl ?_
    refine w_getI ff_X9_110 rfl rfl dX9_valueThere_3 ?_
    rw [show (I 10 0 0 5 : Int32) = nI f from h5]
    refine w_istore_n (ls' := [some (vR 10 0 0), some (vI (0)), some (vI (nI f))]) dX9_valueThere_6 rfl ?_
    refine w_iload_n dX9_valueThere_7 rfl ?_
    refine w_aload_n dX9_valueThere_8 rfl ?_
    refine w_getI ff_X9_30 rfl rfl dX9_valueThere_9 ?_
    rw [show (I 10 0 0 6 : Int32) = nI (f + 2) from h6]
    refine w_icmp_ge (tgt := 35) dX9_valueThere_12 (by decide) (fun h => absurd h (nI_ge (by omega) (by omega))) (fun _ => ?_)
    refine w_iload_n dX9_valueThere_15 rfl ?_
    refine w_bipush (v := 10) dX9_valueThere_16 (by decide) ?_
    refine w_imul dX9_valueThere_18 ?_
    rw [show ((0) * (10) : Int32) = nI (0) from ar_mul (p := 0) (q := 10) rfl rfl (by first | rfl | omega)]
    refine w_aload_n dX9_valueThere_19 rfl ?_
    refine w_iload_n dX9_valueThere_20 rfl ?_
    refine w_callV (as := [vI (nI f)]) (st := [vI (nI (0))]) (Tri.mono (c_byteAt hk ht (i := f) (by omega)) (Nat.le_of_ble_eq_true rfl)) rfl rfl tg_X9_byteAt lk_X9_117 in_X9_byteAt se_X9_byteAt rfl dX9_valueThere_21 rfl (Nat.le_of_ble_eq_true rfl) (Nat.le_refl _) (Nat.le_refl _) ?_
    rintro _ _ ⟨rfl, rfl⟩ -
    refine w_iadd dX9_valueThere_24 ?_
    rw [show ((nI (0)) + (nI (b f)) : Int32) = nI (b f) from ar_add (p := 0) (q := b f) rfl rfl (by omega)]
    refine w_bipush (v := 48) dX9_valueThere_25 (by decide) ?_
    refine w_isub dX9_valueThere_27 ?_
    refine w_top (y := nI (b f - 48)) (show ((nI (b f)) - (48) : Int32) = nI (b f - 48) from vl_1 d0.1) ?_
    refine w_istore_n (ls' := [some (vR 10 0 0), some (vI (nI (b f - 48))), some (vI (nI f))]) dX9_valueThere_28 rfl ?_
    refine w_iinc (v := nI (f + 1)) (ls' := [some (vR 10 0 0), some (vI (nI (b f - 48))), some (vI (nI (f + 1)))]) dX9_valueThere_29 rfl (nI_1 _) rfl ?_
    refine w_goto (tgt := 7) dX9_valueThere_32 (by decide) ?_
    refine w_iload_n dX9_valueThere_7 rfl ?_
    refine w_aload_n dX9_valueThere_8 rfl ?_
    refine w_getI ff_X9_30 rfl rfl dX9_valueThere_9 ?_
    rw [show (I 10 0 0 6 : Int32) = nI (f + 2) from h6]
    refine w_icmp_ge (tgt := 35) dX9_valueThere_12 (by decide) (fun h => absurd h (nI_ge (a := f + 1) (b := f + 2) (by omega) (by omega))) (fun _ => ?_)
    refine w_iload_n dX9_valueThere_15 rfl ?_
    refine w_bipush (v := 10) dX9_valueThere_16 (by decide) ?_
    refine w_imul dX9_valueThere_18 ?_
    rw [show ((nI (b f - 48)) * (10) : Int32) = nI ((b f - 48) * 10) from ar_mul (p := b f - 48) (q := 10) rfl rfl (by first | rfl | omega)]
    refine w_aload_n dX9_valueThere_19 rfl ?_
    refine w_iload_n dX9_valueThere_20 rfl ?_
    refine w_callV (as := [vI (nI (f + 1))]) (st := [vI (nI ((b f - 48) * 10))]) (Tri.mono (c_byteAt hk ht (i := f + 1) (by omega)) (Nat.le_of_ble_eq_true rfl)) rfl rfl tg_X9_byteAt lk_X9_117 in_X9_byteAt se_X9_byteAt rfl dX9_valueThere_21 rfl (Nat.le_of_ble_eq_true rfl) (Nat.le_refl _) (Nat.le_refl _) ?_
    rintro _ _ ⟨rfl, rfl⟩ -
    refine w_iadd dX9_valueThere_24 ?_
    rw [show ((nI ((b f - 48) * 10)) + (nI (b (f + 1))) : Int32) = nI (((b f - 48) * 10) + (b (f + 1))) from ar_add (p := (b f - 48) * 10) (q := b (f + 1)) rfl rfl (by omega)]
    refine w_bipush (v := 48) dX9_valueThere_25 (by decide) ?_
    refine w_isub dX9_valueThere_27 ?_
    refine w_top (y := nI (10 * (b f - 48) + (b (f + 1) - 48))) (show ((nI (((b f - 48) * 10) + (b (f + 1)))) - (48) : Int32) = nI (10 * (b f - 48) + (b (f + 1) - 48)) from vl_2 d1.1) ?_
    refine w_istore_n (ls' := [some (vR 10 0 0), some (vI (nI (10 * (b f - 48) + (b (f + 1) - 48)))), some (vI (nI (f + 1)))]) dX9_valueThere_28 rfl ?_
    refine w_iinc (v := nI ((f + 1) + 1)) (ls' := [some (vR 10 0 0), some (vI (nI (10 * (b f - 48) + (b (f + 1) - 48)))), some (vI (nI ((f + 1) + 1)))]) dX9_valueThere_29 rfl (nI_1 _) rfl ?_
    refine w_goto (tgt := 7) dX9_valueThere_32 (by decide) ?_
    refine w_iload_n dX9_valueThere_7 rfl ?_
    refine w_aload_n dX9_valueThere_8 rfl ?_
    refine w_getI ff_X9_30 rfl rfl dX9_valueThere_9 ?_
    rw [show (I 10 0 0 6 : Int32) = nI (f + 2) from h6]
    refine w_icmp_ge (tgt := 35) dX9_valueThere_12 (by decide) (fun _ => ?_) (fun h => absurd (nI_le (by omega) (by omega)) h)
    refine w_iload_n dX9_valueThere_35 rfl ?_
    rw [show vlT b f (f + 2) = 10 * (b f - 48) + (b (f + 1) - 48) from if_neg (by omega)]
    exact w_ireturn dX9_valueThere_36 rfl (rfl) rfl (⟨rfl, rfl⟩)

abbrev pT (s : tS) (I : xF4 Int32) (L : xF4 Int64) : Option xV → xM → Prop := fun v M => v = none ∧ ∃ I', M = rM I' L ∧ TC I' s ∧ FrL I I'
theorem lex_0 {n : Nat} {b : Nat → Nat} {p f : Nat} (hf : f = bhd n b 32 32 p) (h : ¬ f < n) : lexT n b p = .inr (0, (f, (f, 0))) := by subst hf; exact if_pos h
theorem lex_1 {n : Nat} {b : Nat → Nat} {p f e : Nat} (hf : f = bhd n b 32 32 p) (h : f < n) (h1 : 97 ≤ b f ∧ b f ≤ 122) (he : e = bhd n b 97 122 f) : lexT n b p = .inr (1, (f, (e, 0))) := by subst hf he; exact (if_neg (by omega)).trans (if_pos h1)
theorem lex_2b {n : Nat} {b : Nat → Nat} {p f e : Nat} (hf : f = bhd n b 32 32 p) (h : f < n) (h2 : 48 ≤ b f ∧ b f ≤ 57) (he : e = bhd n b 48 57 f) (h3 : 2 < e - f) : lexT n b p = .inl (1, f) := by subst hf he; exact (if_neg (by omega)).trans ((if_neg (by omega)).trans ((if_pos h2).trans (if_pos h3)))
theorem lex_2 {n : Nat} {b : Nat → Nat} {p f e : Nat} (hf : f = bhd n b 32 32 p) (h : f < n) (h2 : 48 ≤ b f ∧ b f ≤ 57) (he : e = bhd n b 48 57 f) (h3 : ¬ 2 < e - f) : lexT n b p = .inr (2, (f, (e, vlT b f e))) := by subst hf he; exact (if_neg (by omega)).trans ((if_neg (by omega)).trans ((if_pos h2).trans (if_neg h3)))
theorem lex_3 {n : Nat} {b : Nat → Nat} {p f : Nat} (hf : f = bhd n b 32 32 p) (h : f < n) (h3 : b f = 59) : lexT n b p = .inr (3, (f, (f + 1, 0))) := by subst hf; exact (if_neg (by omega)).trans ((if_neg (by omega)).trans ((if_neg (by omega)).trans (if_pos h3)))
theorem lex_b {n : Nat} {b : Nat → Nat} {p f : Nat} (hf : f = bhd n b 32 32 p) (h : f < n) (h1 : ¬ (97 ≤ b f ∧ b f ≤ 122)) (h2 : ¬ (48 ≤ b f ∧ b f ≤ 57)) (h3 : ¬ b f = 59) : lexT n b p = .inl (1, f) := by subst hf; exact (if_neg (by omega)).trans ((if_neg h1).trans ((if_neg h2).trans (if_neg h3)))

theorem c_takeD {I : xF4 Int32} {L : xF4 Int64} {n : Nat} {b : Nat → Nat} (hk : BK n b) (ht : TB I n b) {c p : Nat} (hok : 1 ≤ c ∧ c ≤ 5) (h : TC I (.inl (c, p))) : Tri 0 109 m_X9_take [vR 10 0 0] (rM I L) (pT (.inl (c, p)) I L) := by
  refine ⟨k_X9_take, Nat.le_of_ble_eq_true rfl, ?_⟩
  show Wp _ _ _ 0 [some (vR 10 0 0), none] [] (rM I L) _
  refine w_aload_n dX9_take_0 rfl ?_
  refine w_getI ff_X9_19 rfl rfl dX9_take_1 ?_
  rw [show (I 10 0 0 2 : Int32) = nI c from h.1]
  refine w_if_eq (tgt := 8) dX9_take_4 (by decide) (fun h1 => ?_) (fun h1 => ?_)
  · skip
    replace h1 : ((c : Nat) : Int) = 0 := (zeq (z_nI (by omega)) (by decide)).mp h1
    first
    | (exfalso; omega)
    | skip
      exfalso
      omega
  · skip
    replace h1 : ¬ (((c : Nat) : Int) = 0) := fun q => h1 ((zeq (z_nI (by omega)) (by decide)).mpr q)
    first
    | (exfalso; omega)
    | skip
      exact w_return dX9_take_7 rfl rfl (⟨rfl, _, rfl, h, FrL.rf⟩)

def TC0 (I : xF4 Int32) (nx : Nat) : Prop := I 10 0 0 2 = 0 ∧ I 10 0 0 6 = nI nx

theorem c_takeL {I : xF4 Int32} {L : xF4 Int64} {n : Nat} {b : Nat → Nat} (hk : BK n b) (ht : TB I n b) {nx : Nat} (hok : nx ≤ n) (h : TC0 I nx) : Tri 2 109 m_X9_take [vR 10 0 0] (rM I L) (pT (lexT n b nx) I L) := by
  refine ⟨k_X9_take, Nat.le_of_ble_eq_true rfl, ?_⟩
  show Wp _ _ _ 0 [some (vR 10 0 0), none] [] (rM I L) _
  obtain ⟨k1, k2⟩ := id hk
  obtain ⟨c2, c6⟩ := id h
  obtain ⟨f, hf⟩ : ∃ f, f = bhd n b 32 32 nx := ⟨_, rfl⟩
  obtain ⟨b1, b2, -⟩ := bhd_le (n := n) (b := b) (lo := 32) (hi := 32) (n - nx) nx (by omega)
  rw [← hf] at b1 b2
  rcases Nat.lt_or_ge f n with hfn | hfn
  · skip
    have k3 := k2 f hfn
    obtain ⟨e, he⟩ : ∃ e, e = bhd n b 97 122 f := ⟨_, rfl⟩
    obtain ⟨a1, a2, -⟩ := bhd_le (n := n) (b := b) (lo := 97) (hi := 122) (n - f) f (by omega)
    rw [← he] at a1 a2
    obtain ⟨d, hd⟩ : ∃ d, d = bhd n b 48 57 f := ⟨_, rfl⟩
    obtain ⟨d1, d2, d3⟩ := bhd_le (n := n) (b := b) (lo := 48) (hi := 57) (n - f) f (by omega)
    rw [← hd] at d1 d2 d3
    refine w_aload_n dX9_take_0 rfl ?_
    refine w_getI ff_X9_19 rfl rfl dX9_take_1 ?_
    rw [show (I 10 0 0 2 : Int32) = 0 from c2]
    refine w_if_eq (tgt := 8) dX9_take_4 (by decide) (fun _ => ?_) (fun h => absurd (by decide) h)
    refine w_aload_n dX9_take_8 rfl ?_
    refine w_aload_n dX9_take_9 rfl ?_
    refine w_aload_n dX9_take_10 rfl ?_
    refine w_getI ff_X9_30 rfl rfl dX9_take_11 ?_
    rw [show (I 10 0 0 6 : Int32) = nI nx from c6]
    refine w_bipush (v := 32) dX9_take_14 (by decide) ?_
    refine w_bipush (v := 32) dX9_take_16 (by decide) ?_
    refine w_callV (as := [vI (nI nx), vI (32), vI (32)]) (st := [vR 10 0 0]) (Tri.mono (c_behind hk (ht.fr FrL.rf) (lo := 32) (hi := 32) (by decide) (by decide) (by omega)) (Nat.le_of_ble_eq_true rfl)) rfl rfl tg_X9_behind lk_X9_113 in_X9_behind se_X9_behind rfl dX9_take_18 rfl (Nat.le_of_ble_eq_true rfl) (Nat.le_refl _) (Nat.le_refl _) ?_
    rintro _ _ ⟨rfl, rfl⟩ -
    refine w_top (y := nI f) (show (nI (bhd n b 32 32 nx) : Int32) = nI f from congrArg nI hf.symm) ?_
    refine w_putI ff_X9_30 rfl rfl rfl rfl dX9_take_21 ?_
    refine w_aload_n dX9_take_24 rfl ?_
    refine w_aload_n dX9_take_25 rfl ?_
    refine w_getI ff_X9_30 rfl rfl dX9_take_26 ?_
    rw [show ((xup I 10 0 0 6 (nI f)) 10 0 0 6 : Int32) = (nI f) from xup_self]
    refine w_putI ff_X9_110 rfl rfl rfl rfl dX9_take_29 ?_
    refine w_aload_n dX9_take_32 rfl ?_
    refine w_aload_n dX9_take_33 rfl ?_
    refine w_getI ff_X9_110 rfl rfl dX9_take_34 ?_
    rw [show ((xup (xup I 10 0 0 6 (nI f)) 10 0 0 5 ((nI f))) 10 0 0 5 : Int32) = ((nI f)) from xup_self]
    refine w_callV (as := [vI (((nI f)))]) (st := []) (Tri.mono (c_byteAt hk (ht.fr ((FrL.rf.up (by decide)).up (by decide))) hfn) (Nat.le_of_ble_eq_true rfl)) rfl rfl tg_X9_byteAt lk_X9_117 in_X9_byteAt se_X9_byteAt rfl dX9_take_37 rfl (Nat.le_of_ble_eq_true rfl) (Nat.le_refl _) (Nat.le_refl _) ?_
    rintro _ _ ⟨rfl, rfl⟩ -
    refine w_istore_n (ls' := [some (vR 10 0 0), some (vI (nI (b f)))]) dX9_take_40 rfl ?_
    refine w_iload_n dX9_take_41 rfl ?_
    refine w_if_ge (tgt := 53) dX9_take_42 (by decide) (fun h1 => ?_) (fun h1 => ?_)
    · skip
      replace h1 : 0 ≤ ((b f : Nat) : Int) := (zle (by decide) (z_nI (by omega))).mp h1
      first
      | (exfalso; omega)
      | skip
        refine w_iload_n dX9_take_53 rfl ?_
        refine w_bipush (v := 97) dX9_take_54 (by decide) ?_
        refine w_icmp_lt (tgt := 89) dX9_take_56 (by decide) (fun h2 => ?_) (fun h2 => ?_)
        · skip
          replace h2 : ((b f : Nat) : Int) < 97 := (zlt (z_nI (by omega)) (by decide)).mp h2
          first
          | (exfalso; omega)
          | skip
            refine w_iload_n dX9_take_89 rfl ?_
            refine w_bipush (v := 48) dX9_take_90 (by decide) ?_
            refine w_icmp_lt (tgt := 162) dX9_take_92 (by decide) (fun h3 => ?_) (fun h3 => ?_)
            · skip
              replace h3 : ((b f : Nat) : Int) < 48 := (zlt (z_nI (by omega)) (by decide)).mp h3
              first
              | (exfalso; omega)
              | skip
                refine w_iload_n dX9_take_162 rfl ?_
                refine w_bipush (v := 59) dX9_take_163 (by decide) ?_
                refine w_icmp_ne (tgt := 186) dX9_take_165 (by decide) (fun h9 => ?_) (fun h9 => ?_)
                · skip
                  replace h9 : ¬ (((b f : Nat) : Int) = 59) := fun q => h9 ((zeq (z_nI (by omega)) (by decide)).mpr q)
                  first
                  | (exfalso; omega)
                  | skip
                    refine w_aload_n dX9_take_186 rfl ?_
                    refine w_iconst (v := 4) dX9_take_187 (by decide) ?_
                    refine w_putI ff_X9_40 rfl rfl rfl rfl dX9_take_188 ?_
                    refine w_aload_n dX9_take_191 rfl ?_
                    refine w_getI ff_X9_40 rfl rfl dX9_take_192 ?_
                    rw [show ((xup (xup (xup I 10 0 0 6 (nI f)) 10 0 0 5 ((nI f))) 10 0 0 4 (4)) 10 0 0 4 : Int32) = 4 from xup_self]
                    refine w_iconst (v := 4) dX9_take_195 (by decide) ?_
                    refine w_icmp_ne (tgt := 204) dX9_take_196 (by decide) (fun h => absurd (by decide) h) (fun _ => ?_)
                    refine w_aload_n dX9_take_199 rfl ?_
                    refine w_iconst (v := 1) dX9_take_200 (by decide) ?_
                    refine w_callV (as := [vI (1)]) (st := []) (Tri.mono (c_failL (I := xup (xup (xup I 10 0 0 6 (nI f)) 10 0 0 5 ((nI f))) 10 0 0 4 (4)) ((xup_slot (by decide)).trans ((xup_slot (by decide)).trans ((xup_slot (by decide)).trans c2))) ((xup_slot (by decide)).trans xup_self) (1)) (Nat.le_of_ble_eq_true rfl)) rfl rfl tg_X9_fail lk_X9_61 in_X9_fail se_X9_fail rfl dX9_take_201 rfl (Nat.le_of_ble_eq_true rfl) (Nat.le_refl _) (Nat.le_refl _) ?_
                    rintro _ _ ⟨rfl, rfl⟩ -
                    rw [show lexT n b nx = _ from lex_b hf hfn (by omega) (by omega) (by omega)]
                    exact w_return dX9_take_204 rfl rfl (⟨rfl, _, rfl, ⟨(((xup_slot (by decide)).trans xup_self).trans (by rfl)), (xup_self.trans (by rfl))⟩, (((((FrL.rf.up (by decide)).up (by decide)).up (by decide)).up (by decide)).up (by decide))⟩)
                · skip
                  replace h9 : ((b f : Nat) : Int) = 59 := (zeq (z_nI (by omega)) (by decide)).mp h9
                  first
                  | (exfalso; omega)
                  | skip
                    refine w_aload_n dX9_take_168 rfl ?_
                    refine w_iconst (v := 3) dX9_take_169 (by decide) ?_
                    refine w_putI ff_X9_40 rfl rfl rfl rfl dX9_take_170 ?_
                    refine w_aload_n dX9_take_173 rfl ?_
                    refine w_aload_n dX9_take_174 rfl ?_
                    refine w_getI ff_X9_110 rfl rfl dX9_take_175 ?_
                    rw [show ((xup (xup (xup I 10 0 0 6 (nI f)) 10 0 0 5 ((nI f))) 10 0 0 4 (3)) 10 0 0 5 : Int32) = ((nI f)) from ((xup_slot (by decide)).trans xup_self)]
                    refine w_iconst (v := 1) dX9_take_178 (by decide) ?_
                    refine w_iadd dX9_take_179 ?_
                    rw [show ((((nI f))) + (1) : Int32) = nI (f + 1) from ar_add (p := f) (q := 1) rfl rfl (by omega)]
                    refine w_putI ff_X9_30 rfl rfl rfl rfl dX9_take_180 ?_
                    refine w_goto (tgt := 191) dX9_take_183 (by decide) ?_
                    refine w_aload_n dX9_take_191 rfl ?_
                    refine w_getI ff_X9_40 rfl rfl dX9_take_192 ?_
                    rw [show ((xup (xup (xup (xup I 10 0 0 6 (nI f)) 10 0 0 5 ((nI f))) 10 0 0 4 (3)) 10 0 0 6 (nI (f + 1))) 10 0 0 4 : Int32) = 3 from ((xup_slot (by decide)).trans xup_self)]
                    refine w_iconst (v := 4) dX9_take_195 (by decide) ?_
                    refine w_icmp_ne (tgt := 204) dX9_take_196 (by decide) (fun _ => ?_) (fun h => absurd h (by decide))
                    rw [show lexT n b nx = _ from lex_3 hf hfn (by omega)]
                    exact w_return dX9_take_204 rfl rfl (⟨rfl, _, rfl, ⟨(((xup_slot (by decide)).trans ((xup_slot (by decide)).trans ((xup_slot (by decide)).trans ((xup_slot (by decide)).trans c2)))).trans (by rfl)), (((xup_slot (by decide)).trans xup_self).trans (by rfl)), (((xup_slot (by decide)).trans ((xup_slot (by decide)).trans xup_self)).trans (by rfl)), (xup_self.trans (by rfl)), fun h => by cases h⟩, ((((FrL.rf.up (by decide)).up (by decide)).up (by decide)).up (by decide))⟩)
            · skip
              replace h3 : ¬ (((b f : Nat) : Int) < 48) := fun q => h3 ((zlt (z_nI (by omega)) (by decide)).mpr q)
              first
              | (exfalso; omega)
              | skip
                refine w_iload_n dX9_take_95 rfl ?_
                refine w_bipush (v := 57) dX9_take_96 (by decide) ?_
                refine w_icmp_gt (tgt := 162) dX9_take_98 (by decide) (fun h4 => ?_) (fun h4 => ?_)
                · skip
                  replace h4 : 57 < ((b f : Nat) : Int) := (zlt (by decide) (z_nI (by omega))).mp h4
                  first
                  | (exfalso; omega)
                  | skip
                    refine w_iload_n dX9_take_162 rfl ?_
                    refine w_bipush (v := 59) dX9_take_163 (by decide) ?_
                    refine w_icmp_ne (tgt := 186) dX9_take_165 (by decide) (fun h9 => ?_) (fun h9 => ?_)
                    · skip
                      replace h9 : ¬ (((b f : Nat) : Int) = 59) := fun q => h9 ((zeq (z_nI (by omega)) (by decide)).mpr q)
                      first
                      | (exfalso; omega)
                      | skip
                        refine w_aload_n dX9_take_186 rfl ?_
                        refine w_iconst (v := 4) dX9_take_187 (by decide) ?_
                        refine w_putI ff_X9_40 rfl rfl rfl rfl dX9_take_188 ?_
                        refine w_aload_n dX9_take_191 rfl ?_
                        refine w_getI ff_X9_40 rfl rfl dX9_take_192 ?_
                        rw [show ((xup (xup (xup I 10 0 0 6 (nI f)) 10 0 0 5 ((nI f))) 10 0 0 4 (4)) 10 0 0 4 : Int32) = 4 from xup_self]
                        refine w_iconst (v := 4) dX9_take_195 (by decide) ?_
                        refine w_icmp_ne (tgt := 204) dX9_take_196 (by decide) (fun h => absurd (by decide) h) (fun _ => ?_)
                        refine w_aload_n dX9_take_199 rfl ?_
                        refine w_iconst (v := 1) dX9_take_200 (by decide) ?_
                        refine w_callV (as := [vI (1)]) (st := []) (Tri.mono (c_failL (I := xup (xup (xup I 10 0 0 6 (nI f)) 10 0 0 5 ((nI f))) 10 0 0 4 (4)) ((xup_slot (by decide)).trans ((xup_slot (by decide)).trans ((xup_slot (by decide)).trans c2))) ((xup_slot (by decide)).trans xup_self) (1)) (Nat.le_of_ble_eq_true rfl)) rfl rfl tg_X9_fail lk_X9_61 in_X9_fail se_X9_fail rfl dX9_take_201 rfl (Nat.le_of_ble_eq_true rfl) (Nat.le_refl _) (Nat.le_refl _) ?_
                        rintro _ _ ⟨rfl, rfl⟩ -
                        rw [show lexT n b nx = _ from lex_b hf hfn (by omega) (by omega) (by omega)]
                        exact w_return dX9_take_204 rfl rfl (⟨rfl, _, rfl, ⟨(((xup_slot (by decide)).trans xup_self).trans (by rfl)), (xup_self.trans (by rfl))⟩, (((((FrL.rf.up (by decide)).up (by decide)).up (by decide)).up (by decide)).up (by decide))⟩)
                    · skip
                      replace h9 : ((b f : Nat) : Int) = 59 := (zeq (z_nI (by omega)) (by decide)).mp h9
                      first
                      | (exfalso; omega)
                      | skip
                        refine w_aload_n dX9_take_168 rfl ?_
                        refine w_iconst (v := 3) dX9_take_169 (by decide) ?_
                        refine w_putI ff_X9_40 rfl rfl rfl rfl dX9_take_170 ?_
                        refine w_aload_n dX9_take_173 rfl ?_
                        refine w_aload_n dX9_take_174 rfl ?_
                        refine w_getI ff_X9_110 rfl rfl dX9_take_175 ?_
                        rw [show ((xup (xup (xup I 10 0 0 6 (nI f)) 10 0 0 5 ((nI f))) 10 0 0 4 (3)) 10 0 0 5 : Int32) = ((nI f)) from ((xup_slot (by decide)).trans xup_self)]
                        refine w_iconst (v := 1) dX9_take_178 (by decide) ?_
                        refine w_iadd dX9_take_179 ?_
                        rw [show ((((nI f))) + (1) : Int32) = nI (f + 1) from ar_add (p := f) (q := 1) rfl rfl (by omega)]
                        refine w_putI ff_X9_30 rfl rfl rfl rfl dX9_take_180 ?_
                        refine w_goto (tgt := 191) dX9_take_183 (by decide) ?_
                        refine w_aload_n dX9_take_191 rfl ?_
                        refine w_getI ff_X9_40 rfl rfl dX9_take_192 ?_
                        rw [show ((xup (xup (xup (xup I 10 0 0 6 (nI f)) 10 0 0 5 ((nI f))) 10 0 0 4 (3)) 10 0 0 6 (nI (f + 1))) 10 0 0 4 : Int32) = 3 from ((xup_slot (by decide)).trans xup_self)]
                        refine w_iconst (v := 4) dX9_take_195 (by decide) ?_
                        refine w_icmp_ne (tgt := 204) dX9_take_196 (by decide) (fun _ => ?_) (fun h => absurd h (by decide))
                        rw [show lexT n b nx = _ from lex_3 hf hfn (by omega)]
                        exact w_return dX9_take_204 rfl rfl (⟨rfl, _, rfl, ⟨(((xup_slot (by decide)).trans ((xup_slot (by decide)).trans ((xup_slot (by decide)).trans ((xup_slot (by decide)).trans c2)))).trans (by rfl)), (((xup_slot (by decide)).trans xup_self).trans (by rfl)), (((xup_slot (by decide)).trans ((xup_slot (by decide)).trans xup_self)).trans (by rfl)), (xup_self.trans (by rfl)), fun h => by cases h⟩, ((((FrL.rf.up (by decide)).up (by decide)).up (by decide)).up (by decide))⟩)
                · skip
                  replace h4 : ¬ (57 < ((b f : Nat) : Int)) := fun q => h4 ((zlt (by decide) (z_nI (by omega))).mpr q)
                  first
                  | (exfalso; omega)
                  | skip
                    refine w_aload_n dX9_take_101 rfl ?_
                    refine w_aload_n dX9_take_102 rfl ?_
                    refine w_aload_n dX9_take_103 rfl ?_
                    refine w_getI ff_X9_110 rfl rfl dX9_take_104 ?_
                    rw [show ((xup (xup I 10 0 0 6 (nI f)) 10 0 0 5 ((nI f))) 10 0 0 5 : Int32) = ((nI f)) from xup_self]
                    refine w_bipush (v := 48) dX9_take_107 (by decide) ?_
                    refine w_bipush (v := 57) dX9_take_109 (by decide) ?_
                    refine w_callV (as := [vI (((nI f))), vI (48), vI (57)]) (st := [vR 10 0 0]) (Tri.mono (c_behind hk (ht.fr ((FrL.rf.up (by decide)).up (by decide))) (lo := 48) (hi := 57) (by decide) (by decide) (by omega)) (Nat.le_of_ble_eq_true rfl)) rfl rfl tg_X9_behind lk_X9_113 in_X9_behind se_X9_behind rfl dX9_take_111 rfl (Nat.le_of_ble_eq_true rfl) (Nat.le_refl _) (Nat.le_refl _) ?_
                    rintro _ _ ⟨rfl, rfl⟩ -
                    refine w_top (y := nI d) (show (nI (bhd n b 48 57 f) : Int32) = nI d from congrArg nI hd.symm) ?_
                    have hdf : f < d := by
                      have e2 := bhd_go (n := n) (b := b) (lo := 48) (hi := 57) (i := f) (by omega)
                      obtain ⟨q1, -, -⟩ := bhd_le (n := n) (b := b) (lo := 48) (hi := 57) (n - (f + 1)) (f + 1) (by omega)
                      omega
                    refine w_putI ff_X9_30 rfl rfl rfl rfl dX9_take_114 ?_
                    refine w_aload_n dX9_take_117 rfl ?_
                    refine w_aload_n dX9_take_118 rfl ?_
                    refine w_getI ff_X9_30 rfl rfl dX9_take_119 ?_
                    rw [show ((xup (xup (xup I 10 0 0 6 (nI f)) 10 0 0 5 ((nI f))) 10 0 0 6 (nI d)) 10 0 0 6 : Int32) = (nI d) from xup_self]
                    refine w_aload_n dX9_take_122 rfl ?_
                    refine w_getI ff_X9_110 rfl rfl dX9_take_123 ?_
                    rw [show ((xup (xup (xup I 10 0 0 6 (nI f)) 10 0 0 5 ((nI f))) 10 0 0 6 (nI d)) 10 0 0 5 : Int32) = ((nI f)) from ((xup_slot (by decide)).trans xup_self)]
                    refine w_isub dX9_take_126 ?_
                    refine w_iconst (v := 2) dX9_take_127 (by decide) ?_
                    refine w_icmp_le (tgt := 135) dX9_take_128 (by decide) (fun h9 => ?_) (fun h9 => ?_)
                    · skip
                      replace h9 : ((d : Nat) : Int) - ((f : Nat) : Int) ≤ 2 := (zle (z_sub (a := d) (b := f) (by omega) (by omega)) (by decide)).mp h9
                      first
                      | (exfalso; omega)
                      | skip
                        refine w_iconst (v := 2) dX9_take_135 (by decide) ?_
                        refine w_putI ff_X9_40 rfl rfl rfl rfl dX9_take_136 ?_
                        refine w_aload_n dX9_take_139 rfl ?_
                        refine w_aload_n dX9_take_140 rfl ?_
                        refine w_getI ff_X9_40 rfl rfl dX9_take_141 ?_
                        rw [show ((xup (xup (xup (xup I 10 0 0 6 (nI f)) 10 0 0 5 ((nI f))) 10 0 0 6 (nI d)) 10 0 0 4 (2)) 10 0 0 4 : Int32) = 2 from xup_self]
                        refine w_iconst (v := 2) dX9_take_144 (by decide) ?_
                        refine w_icmp_ne (tgt := 155) dX9_take_145 (by decide) (fun h => absurd (by decide) h) (fun _ => ?_)
                        refine w_aload_n dX9_take_148 rfl ?_
                        refine w_callV (as := []) (st := [vR 10 0 0]) (Tri.mono (c_value (I := xup (xup (xup (xup I 10 0 0 6 (nI f)) 10 0 0 5 ((nI f))) 10 0 0 6 (nI d)) 10 0 0 4 (2)) hk (ht.fr ((((FrL.rf.up (by decide)).up (by decide)).up (by decide)).up (by decide))) (f := f) (e := d) ((xup_slot (by decide)).trans ((xup_slot (by decide)).trans xup_self)) ((xup_slot (by decide)).trans xup_self) hdf (by omega) d2 d3) (Nat.le_of_ble_eq_true rfl)) rfl rfl tg_X9_valueThere lk_X9_121 in_X9_valueThere se_X9_valueThere rfl dX9_take_149 rfl (Nat.le_of_ble_eq_true rfl) (Nat.le_refl _) (Nat.le_refl _) ?_
                        rintro _ _ ⟨rfl, rfl⟩ -
                        refine w_goto (tgt := 156) dX9_take_152 (by decide) ?_
                        refine w_putI ff_X9_103 rfl rfl rfl rfl dX9_take_156 ?_
                        refine w_goto (tgt := 191) dX9_take_159 (by decide) ?_
                        refine w_aload_n dX9_take_191 rfl ?_
                        refine w_getI ff_X9_40 rfl rfl dX9_take_192 ?_
                        rw [show ((xup (xup (xup (xup (xup I 10 0 0 6 (nI f)) 10 0 0 5 ((nI f))) 10 0 0 6 (nI d)) 10 0 0 4 (2)) 10 0 0 7 (nI (vlT b f d))) 10 0 0 4 : Int32) = 2 from ((xup_slot (by decide)).trans xup_self)]
                        refine w_iconst (v := 4) dX9_take_195 (by decide) ?_
                        refine w_icmp_ne (tgt := 204) dX9_take_196 (by decide) (fun _ => ?_) (fun h => absurd h (by decide))
                        rw [show lexT n b nx = _ from lex_2 hf hfn (by omega) hd (by omega)]
                        exact w_return dX9_take_204 rfl rfl (⟨rfl, _, rfl, ⟨(((xup_slot (by decide)).trans ((xup_slot (by decide)).trans ((xup_slot (by decide)).trans ((xup_slot (by decide)).trans ((xup_slot (by decide)).trans c2))))).trans (by rfl)), (((xup_slot (by decide)).trans xup_self).trans (by rfl)), (((xup_slot (by decide)).trans ((xup_slot (by decide)).trans ((xup_slot (by decide)).trans xup_self))).trans (by rfl)), (((xup_slot (by decide)).trans ((xup_slot (by decide)).trans xup_self)).trans (by rfl)), fun _ => (xup_self.trans (by rfl))⟩, (((((FrL.rf.up (by decide)).up (by decide)).up (by decide)).up (by decide)).up (by decide))⟩)
                    · skip
                      replace h9 : ¬ (((d : Nat) : Int) - ((f : Nat) : Int) ≤ 2) := fun q => h9 ((zle (z_sub (a := d) (b := f) (by omega) (by omega)) (by decide)).mpr q)
                      first
                      | (exfalso; omega)
                      | skip
                        refine w_iconst (v := 4) dX9_take_131 (by decide) ?_
                        refine w_goto (tgt := 136) dX9_take_132 (by decide) ?_
                        refine w_putI ff_X9_40 rfl rfl rfl rfl dX9_take_136 ?_
                        refine w_aload_n dX9_take_139 rfl ?_
                        refine w_aload_n dX9_take_140 rfl ?_
                        refine w_getI ff_X9_40 rfl rfl dX9_take_141 ?_
                        rw [show ((xup (xup (xup (xup I 10 0 0 6 (nI f)) 10 0 0 5 ((nI f))) 10 0 0 6 (nI d)) 10 0 0 4 (4)) 10 0 0 4 : Int32) = 4 from xup_self]
                        refine w_iconst (v := 2) dX9_take_144 (by decide) ?_
                        refine w_icmp_ne (tgt := 155) dX9_take_145 (by decide) (fun _ => ?_) (fun h => absurd h (by decide))
                        refine w_iconst (v := 0) dX9_take_155 (by decide) ?_
                        refine w_putI ff_X9_103 rfl rfl rfl rfl dX9_take_156 ?_
                        refine w_goto (tgt := 191) dX9_take_159 (by decide) ?_
                        refine w_aload_n dX9_take_191 rfl ?_
                        refine w_getI ff_X9_40 rfl rfl dX9_take_192 ?_
                        rw [show ((xup (xup (xup (xup (xup I 10 0 0 6 (nI f)) 10 0 0 5 ((nI f))) 10 0 0 6 (nI d)) 10 0 0 4 (4)) 10 0 0 7 (0)) 10 0 0 4 : Int32) = 4 from ((xup_slot (by decide)).trans xup_self)]
                        refine w_iconst (v := 4) dX9_take_195 (by decide) ?_
                        refine w_icmp_ne (tgt := 204) dX9_take_196 (by decide) (fun h => absurd (by decide) h) (fun _ => ?_)
                        refine w_aload_n dX9_take_199 rfl ?_
                        refine w_iconst (v := 1) dX9_take_200 (by decide) ?_
                        refine w_callV (as := [vI (1)]) (st := []) (Tri.mono (c_failL (I := xup (xup (xup (xup (xup I 10 0 0 6 (nI f)) 10 0 0 5 ((nI f))) 10 0 0 6 (nI d)) 10 0 0 4 (4)) 10 0 0 7 (0)) ((xup_slot (by decide)).trans ((xup_slot (by decide)).trans ((xup_slot (by decide)).trans ((xup_slot (by decide)).trans ((xup_slot (by decide)).trans c2))))) ((xup_slot (by decide)).trans ((xup_slot (by decide)).trans ((xup_slot (by decide)).trans xup_self))) (1)) (Nat.le_of_ble_eq_true rfl)) rfl rfl tg_X9_fail lk_X9_61 in_X9_fail se_X9_fail rfl dX9_take_201 rfl (Nat.le_of_ble_eq_true rfl) (Nat.le_refl _) (Nat.le_refl _) ?_
                        rintro _ _ ⟨rfl, rfl⟩ -
                        rw [show lexT n b nx = _ from lex_2b hf hfn (by omega) hd (by omega)]
                        exact w_return dX9_take_204 rfl rfl (⟨rfl, _, rfl, ⟨(((xup_slot (by decide)).trans xup_self).trans (by rfl)), (xup_self.trans (by rfl))⟩, (((((((FrL.rf.up (by decide)).up (by decide)).up (by decide)).up (by decide)).up (by decide)).up (by decide)).up (by decide))⟩)
        · skip
          replace h2 : ¬ (((b f : Nat) : Int) < 97) := fun q => h2 ((zlt (z_nI (by omega)) (by decide)).mpr q)
          first
          | (exfalso; omega)
          | skip
            refine w_iload_n dX9_take_59 rfl ?_
            refine w_bipush (v := 122) dX9_take_60 (by decide) ?_
            refine w_icmp_gt (tgt := 89) dX9_take_62 (by decide) (fun h3 => ?_) (fun h3 => ?_)
            · skip
              replace h3 : 122 < ((b f : Nat) : Int) := (zlt (by decide) (z_nI (by omega))).mp h3
              first
              | (exfalso; omega)
              | skip
                refine w_iload_n dX9_take_89 rfl ?_
                refine w_bipush (v := 48) dX9_take_90 (by decide) ?_
                refine w_icmp_lt (tgt := 162) dX9_take_92 (by decide) (fun h4 => ?_) (fun h4 => ?_)
                · skip
                  replace h4 : ((b f : Nat) : Int) < 48 := (zlt (z_nI (by omega)) (by decide)).mp h4
                  first
                  | (exfalso; omega)
                  | skip
                    refine w_iload_n dX9_take_162 rfl ?_
                    refine w_bipush (v := 59) dX9_take_163 (by decide) ?_
                    refine w_icmp_ne (tgt := 186) dX9_take_165 (by decide) (fun h9 => ?_) (fun h9 => ?_)
                    · skip
                      replace h9 : ¬ (((b f : Nat) : Int) = 59) := fun q => h9 ((zeq (z_nI (by omega)) (by decide)).mpr q)
                      first
                      | (exfalso; omega)
                      | skip
                        refine w_aload_n dX9_take_186 rfl ?_
                        refine w_iconst (v := 4) dX9_take_187 (by decide) ?_
                        refine w_putI ff_X9_40 rfl rfl rfl rfl dX9_take_188 ?_
                        refine w_aload_n dX9_take_191 rfl ?_
                        refine w_getI ff_X9_40 rfl rfl dX9_take_192 ?_
                        rw [show ((xup (xup (xup I 10 0 0 6 (nI f)) 10 0 0 5 ((nI f))) 10 0 0 4 (4)) 10 0 0 4 : Int32) = 4 from xup_self]
                        refine w_iconst (v := 4) dX9_take_195 (by decide) ?_
                        refine w_icmp_ne (tgt := 204) dX9_take_196 (by decide) (fun h => absurd (by decide) h) (fun _ => ?_)
                        refine w_aload_n dX9_take_199 rfl ?_
                        refine w_iconst (v := 1) dX9_take_200 (by decide) ?_
                        refine w_callV (as := [vI (1)]) (st := []) (Tri.mono (c_failL (I := xup (xup (xup I 10 0 0 6 (nI f)) 10 0 0 5 ((nI f))) 10 0 0 4 (4)) ((xup_slot (by decide)).trans ((xup_slot (by decide)).trans ((xup_slot (by decide)).trans c2))) ((xup_slot (by decide)).trans xup_self) (1)) (Nat.le_of_ble_eq_true rfl)) rfl rfl tg_X9_fail lk_X9_61 in_X9_fail se_X9_fail rfl dX9_take_201 rfl (Nat.le_of_ble_eq_true rfl) (Nat.le_refl _) (Nat.le_refl _) ?_
                        rintro _ _ ⟨rfl, rfl⟩ -
                        rw [show lexT n b nx = _ from lex_b hf hfn (by omega) (by omega) (by omega)]
                        exact w_return dX9_take_204 rfl rfl (⟨rfl, _, rfl, ⟨(((xup_slot (by decide)).trans xup_self).trans (by rfl)), (xup_self.trans (by rfl))⟩, (((((FrL.rf.up (by decide)).up (by decide)).up (by decide)).up (by decide)).up (by decide))⟩)
                    · skip
                      replace h9 : ((b f : Nat) : Int) = 59 := (zeq (z_nI (by omega)) (by decide)).mp h9
                      first
                      | (exfalso; omega)
                      | skip
                        refine w_aload_n dX9_take_168 rfl ?_
                        refine w_iconst (v := 3) dX9_take_169 (by decide) ?_
                        refine w_putI ff_X9_40 rfl rfl rfl rfl dX9_take_170 ?_
                        refine w_aload_n dX9_take_173 rfl ?_
                        refine w_aload_n dX9_take_174 rfl ?_
                        refine w_getI ff_X9_110 rfl rfl dX9_take_175 ?_
                        rw [show ((xup (xup (xup I 10 0 0 6 (nI f)) 10 0 0 5 ((nI f))) 10 0 0 4 (3)) 10 0 0 5 : Int32) = ((nI f)) from ((xup_slot (by decide)).trans xup_self)]
                        refine w_iconst (v := 1) dX9_take_178 (by decide) ?_
                        refine w_iadd dX9_take_179 ?_
                        rw [show ((((nI f))) + (1) : Int32) = nI (f + 1) from ar_add (p := f) (q := 1) rfl rfl (by omega)]
                        refine w_putI ff_X9_30 rfl rfl rfl rfl dX9_take_180 ?_
                        refine w_goto (tgt := 191) dX9_take_183 (by decide) ?_
                        refine w_aload_n dX9_take_191 rfl ?_
                        refine w_getI ff_X9_40 rfl rfl dX9_take_192 ?_
                        rw [show ((xup (xup (xup (xup I 10 0 0 6 (nI f)) 10 0 0 5 ((nI f))) 10 0 0 4 (3)) 10 0 0 6 (nI (f + 1))) 10 0 0 4 : Int32) = 3 from ((xup_slot (by decide)).trans xup_self)]
                        refine w_iconst (v := 4) dX9_take_195 (by decide) ?_
                        refine w_icmp_ne (tgt := 204) dX9_take_196 (by decide) (fun _ => ?_) (fun h => absurd h (by decide))
                        rw [show lexT n b nx = _ from lex_3 hf hfn (by omega)]
                        exact w_return dX9_take_204 rfl rfl (⟨rfl, _, rfl, ⟨(((xup_slot (by decide)).trans ((xup_slot (by decide)).trans ((xup_slot (by decide)).trans ((xup_slot (by decide)).trans c2)))).trans (by rfl)), (((xup_slot (by decide)).trans xup_self).trans (by rfl)), (((xup_slot (by decide)).trans ((xup_slot (by decide)).trans xup_self)).trans (by rfl)), (xup_self.trans (by rfl)), fun h => by cases h⟩, ((((FrL.rf.up (by decide)).up (by decide)).up (by decide)).up (by decide))⟩)
                · skip
                  replace h4 : ¬ (((b f : Nat) : Int) < 48) := fun q => h4 ((zlt (z_nI (by omega)) (by decide)).mpr q)
                  first
                  | (exfalso; omega)
                  | skip
                    refine w_iload_n dX9_take_95 rfl ?_
                    refine w_bipush (v := 57) dX9_take_96 (by decide) ?_
                    refine w_icmp_gt (tgt := 162) dX9_take_98 (by decide) (fun h5 => ?_) (fun h5 => ?_)
                    · skip
                      replace h5 : 57 < ((b f : Nat) : Int) := (zlt (by decide) (z_nI (by omega))).mp h5
                      first
                      | (exfalso; omega)
                      | skip
                        refine w_iload_n dX9_take_162 rfl ?_
                        refine w_bipush (v := 59) dX9_take_163 (by decide) ?_
                        refine w_icmp_ne (tgt := 186) dX9_take_165 (by decide) (fun h9 => ?_) (fun h9 => ?_)
                        · skip
                          replace h9 : ¬ (((b f : Nat) : Int) = 59) := fun q => h9 ((zeq (z_nI (by omega)) (by decide)).mpr q)
                          first
                          | (exfalso; omega)
                          | skip
                            refine w_aload_n dX9_take_186 rfl ?_
                            refine w_iconst (v := 4) dX9_take_187 (by decide) ?_
                            refine w_putI ff_X9_40 rfl rfl rfl rfl dX9_take_188 ?_
                            refine w_aload_n dX9_take_191 rfl ?_
                            refine w_getI ff_X9_40 rfl rfl dX9_take_192 ?_
                            rw [show ((xup (xup (xup I 10 0 0 6 (nI f)) 10 0 0 5 ((nI f))) 10 0 0 4 (4)) 10 0 0 4 : Int32) = 4 from xup_self]
                            refine w_iconst (v := 4) dX9_take_195 (by decide) ?_
                            refine w_icmp_ne (tgt := 204) dX9_take_196 (by decide) (fun h => absurd (by decide) h) (fun _ => ?_)
                            refine w_aload_n dX9_take_199 rfl ?_
                            refine w_iconst (v := 1) dX9_take_200 (by decide) ?_
                            refine w_callV (as := [vI (1)]) (st := []) (Tri.mono (c_failL (I := xup (xup (xup I 10 0 0 6 (nI f)) 10 0 0 5 ((nI f))) 10 0 0 4 (4)) ((xup_slot (by decide)).trans ((xup_slot (by decide)).trans ((xup_slot (by decide)).trans c2))) ((xup_slot (by decide)).trans xup_self) (1)) (Nat.le_of_ble_eq_true rfl)) rfl rfl tg_X9_fail lk_X9_61 in_X9_fail se_X9_fail rfl dX9_take_201 rfl (Nat.le_of_ble_eq_true rfl) (Nat.le_refl _) (Nat.le_refl _) ?_
                            rintro _ _ ⟨rfl, rfl⟩ -
                            rw [show lexT n b nx = _ from lex_b hf hfn (by omega) (by omega) (by omega)]
                            exact w_return dX9_take_204 rfl rfl (⟨rfl, _, rfl, ⟨(((xup_slot (by decide)).trans xup_self).trans (by rfl)), (xup_self.trans (by rfl))⟩, (((((FrL.rf.up (by decide)).up (by decide)).up (by decide)).up (by decide)).up (by decide))⟩)
                        · skip
                          replace h9 : ((b f : Nat) : Int) = 59 := (zeq (z_nI (by omega)) (by decide)).mp h9
                          first
                          | (exfalso; omega)
                          | skip
                            refine w_aload_n dX9_take_168 rfl ?_
                            refine w_iconst (v := 3) dX9_take_169 (by decide) ?_
                            refine w_putI ff_X9_40 rfl rfl rfl rfl dX9_take_170 ?_
                            refine w_aload_n dX9_take_173 rfl ?_
                            refine w_aload_n dX9_take_174 rfl ?_
                            refine w_getI ff_X9_110 rfl rfl dX9_take_175 ?_
                            rw [show ((xup (xup (xup I 10 0 0 6 (nI f)) 10 0 0 5 ((nI f))) 10 0 0 4 (3)) 10 0 0 5 : Int32) = ((nI f)) from ((xup_slot (by decide)).trans xup_self)]
                            refine w_iconst (v := 1) dX9_take_178 (by decide) ?_
                            refine w_iadd dX9_take_179 ?_
                            rw [show ((((nI f))) + (1) : Int32) = nI (f + 1) from ar_add (p := f) (q := 1) rfl rfl (by omega)]
                            refine w_putI ff_X9_30 rfl rfl rfl rfl dX9_take_180 ?_
                            refine w_goto (tgt := 191) dX9_take_183 (by decide) ?_
                            refine w_aload_n dX9_take_191 rfl ?_
                            refine w_getI ff_X9_40 rfl rfl dX9_take_192 ?_
                            rw [show ((xup (xup (xup (xup I 10 0 0 6 (nI f)) 10 0 0 5 ((nI f))) 10 0 0 4 (3)) 10 0 0 6 (nI (f + 1))) 10 0 0 4 : Int32) = 3 from ((xup_slot (by decide)).trans xup_self)]
                            refine w_iconst (v := 4) dX9_take_195 (by decide) ?_
                            refine w_icmp_ne (tgt := 204) dX9_take_196 (by decide) (fun _ => ?_) (fun h => absurd h (by decide))
                            rw [show lexT n b nx = _ from lex_3 hf hfn (by omega)]
                            exact w_return dX9_take_204 rfl rfl (⟨rfl, _, rfl, ⟨(((xup_slot (by decide)).trans ((xup_slot (by decide)).trans ((xup_slot (by decide)).trans ((xup_slot (by decide)).trans c2)))).trans (by rfl)), (((xup_slot (by decide)).trans xup_self).trans (by rfl)), (((xup_slot (by decide)).trans ((xup_slot (by decide)).trans xup_self)).trans (by rfl)), (xup_self.trans (by rfl)), fun h => by cases h⟩, ((((FrL.rf.up (by decide)).up (by decide)).up (by decide)).up (by decide))⟩)
                    · skip
                      replace h5 : ¬ (57 < ((b f : Nat) : Int)) := fun q => h5 ((zlt (by decide) (z_nI (by omega))).mpr q)
                      first
                      | (exfalso; omega)
                      | skip
                        refine w_aload_n dX9_take_101 rfl ?_
                        refine w_aload_n dX9_take_102 rfl ?_
                        refine w_aload_n dX9_take_103 rfl ?_
                        refine w_getI ff_X9_110 rfl rfl dX9_take_104 ?_
                        rw [show ((xup (xup I 10 0 0 6 (nI f)) 10 0 0 5 ((nI f))) 10 0 0 5 : Int32) = ((nI f)) from xup_self]
                        refine w_bipush (v := 48) dX9_take_107 (by decide) ?_
                        refine w_bipush (v := 57) dX9_take_109 (by decide) ?_
                        refine w_callV (as := [vI (((nI f))), vI (48), vI (57)]) (st := [vR 10 0 0]) (Tri.mono (c_behind hk (ht.fr ((FrL.rf.up (by decide)).up (by decide))) (lo := 48) (hi := 57) (by decide) (by decide) (by omega)) (Nat.le_of_ble_eq_true rfl)) rfl rfl tg_X9_behind lk_X9_113 in_X9_behind se_X9_behind rfl dX9_take_111 rfl (Nat.le_of_ble_eq_true rfl) (Nat.le_refl _) (Nat.le_refl _) ?_
                        rintro _ _ ⟨rfl, rfl⟩ -
                        refine w_top (y := nI d) (show (nI (bhd n b 48 57 f) : Int32) = nI d from congrArg nI hd.symm) ?_
                        have hdf : f < d := by
                          have e2 := bhd_go (n := n) (b := b) (lo := 48) (hi := 57) (i := f) (by omega)
                          obtain ⟨q1, -, -⟩ := bhd_le (n := n) (b := b) (lo := 48) (hi := 57) (n - (f + 1)) (f + 1) (by omega)
                          omega
                        refine w_putI ff_X9_30 rfl rfl rfl rfl dX9_take_114 ?_
                        refine w_aload_n dX9_take_117 rfl ?_
                        refine w_aload_n dX9_take_118 rfl ?_
                        refine w_getI ff_X9_30 rfl rfl dX9_take_119 ?_
                        rw [show ((xup (xup (xup I 10 0 0 6 (nI f)) 10 0 0 5 ((nI f))) 10 0 0 6 (nI d)) 10 0 0 6 : Int32) = (nI d) from xup_self]
                        refine w_aload_n dX9_take_122 rfl ?_
                        refine w_getI ff_X9_110 rfl rfl dX9_take_123 ?_
                        rw [show ((xup (xup (xup I 10 0 0 6 (nI f)) 10 0 0 5 ((nI f))) 10 0 0 6 (nI d)) 10 0 0 5 : Int32) = ((nI f)) from ((xup_slot (by decide)).trans xup_self)]
                        refine w_isub dX9_take_126 ?_
                        refine w_iconst (v := 2) dX9_take_127 (by decide) ?_
                        refine w_icmp_le (tgt := 135) dX9_take_128 (by decide) (fun h9 => ?_) (fun h9 => ?_)
                        · skip
                          replace h9 : ((d : Nat) : Int) - ((f : Nat) : Int) ≤ 2 := (zle (z_sub (a := d) (b := f) (by omega) (by omega)) (by decide)).mp h9
                          first
                          | (exfalso; omega)
                          | skip
                            refine w_iconst (v := 2) dX9_take_135 (by decide) ?_
                            refine w_putI ff_X9_40 rfl rfl rfl rfl dX9_take_136 ?_
                            refine w_aload_n dX9_take_139 rfl ?_
                            refine w_aload_n dX9_take_140 rfl ?_
                            refine w_getI ff_X9_40 rfl rfl dX9_take_141 ?_
                            rw [show ((xup (xup (xup (xup I 10 0 0 6 (nI f)) 10 0 0 5 ((nI f))) 10 0 0 6 (nI d)) 10 0 0 4 (2)) 10 0 0 4 : Int32) = 2 from xup_self]
                            refine w_iconst (v := 2) dX9_take_144 (by decide) ?_
                            refine w_icmp_ne (tgt := 155) dX9_take_145 (by decide) (fun h => absurd (by decide) h) (fun _ => ?_)
                            refine w_aload_n dX9_take_148 rfl ?_
                            refine w_callV (as := []) (st := [vR 10 0 0]) (Tri.mono (c_value (I := xup (xup (xup (xup I 10 0 0 6 (nI f)) 10 0 0 5 ((nI f))) 10 0 0 6 (nI d)) 10 0 0 4 (2)) hk (ht.fr ((((FrL.rf.up (by decide)).up (by decide)).up (by decide)).up (by decide))) (f := f) (e := d) ((xup_slot (by decide)).trans ((xup_slot (by decide)).trans xup_self)) ((xup_slot (by decide)).trans xup_self) hdf (by omega) d2 d3) (Nat.le_of_ble_eq_true rfl)) rfl rfl tg_X9_valueThere lk_X9_121 in_X9_valueThere se_X9_valueThere rfl dX9_take_149 rfl (Nat.le_of_ble_eq_true rfl) (Nat.le_refl _) (Nat.le_refl _) ?_
                            rintro _ _ ⟨rfl, rfl⟩ -
                            refine w_goto (tgt := 156) dX9_take_152 (by decide) ?_
                            refine w_putI ff_X9_103 rfl rfl rfl rfl dX9_take_156 ?_
                            refine w_goto (tgt := 191) dX9_take_159 (by decide) ?_
                            refine w_aload_n dX9_take_191 rfl ?_
                            refine w_getI ff_X9_40 rfl rfl dX9_take_192 ?_
                            rw [show ((xup (xup (xup (xup (xup I 10 0 0 6 (nI f)) 10 0 0 5 ((nI f))) 10 0 0 6 (nI d)) 10 0 0 4 (2)) 10 0 0 7 (nI (vlT b f d))) 10 0 0 4 : Int32) = 2 from ((xup_slot (by decide)).trans xup_self)]
                            refine w_iconst (v := 4) dX9_take_195 (by decide) ?_
                            refine w_icmp_ne (tgt := 204) dX9_take_196 (by decide) (fun _ => ?_) (fun h => absurd h (by decide))
                            rw [show lexT n b nx = _ from lex_2 hf hfn (by omega) hd (by omega)]
                            exact w_return dX9_take_204 rfl rfl (⟨rfl, _, rfl, ⟨(((xup_slot (by decide)).trans ((xup_slot (by decide)).trans ((xup_slot (by decide)).trans ((xup_slot (by decide)).trans ((xup_slot (by decide)).trans c2))))).trans (by rfl)), (((xup_slot (by decide)).trans xup_self).trans (by rfl)), (((xup_slot (by decide)).trans ((xup_slot (by decide)).trans ((xup_slot (by decide)).trans xup_self))).trans (by rfl)), (((xup_slot (by decide)).trans ((xup_slot (by decide)).trans xup_self)).trans (by rfl)), fun _ => (xup_self.trans (by rfl))⟩, (((((FrL.rf.up (by decide)).up (by decide)).up (by decide)).up (by decide)).up (by decide))⟩)
                        · skip
                          replace h9 : ¬ (((d : Nat) : Int) - ((f : Nat) : Int) ≤ 2) := fun q => h9 ((zle (z_sub (a := d) (b := f) (by omega) (by omega)) (by decide)).mpr q)
                          first
                          | (exfalso; omega)
                          | skip
                            refine w_iconst (v := 4) dX9_take_131 (by decide) ?_
                            refine w_goto (tgt := 136) dX9_take_132 (by decide) ?_
                            refine w_putI ff_X9_40 rfl rfl rfl rfl dX9_take_136 ?_
                            refine w_aload_n dX9_take_139 rfl ?_
                            refine w_aload_n dX9_take_140 rfl ?_
                            refine w_getI ff_X9_40 rfl rfl dX9_take_141 ?_
                            rw [show ((xup (xup (xup (xup I 10 0 0 6 (nI f)) 10 0 0 5 ((nI f))) 10 0 0 6 (nI d)) 10 0 0 4 (4)) 10 0 0 4 : Int32) = 4 from xup_self]
                            refine w_iconst (v := 2) dX9_take_144 (by decide) ?_
                            refine w_icmp_ne (tgt := 155) dX9_take_145 (by decide) (fun _ => ?_) (fun h => absurd h (by decide))
                            refine w_iconst (v := 0) dX9_take_155 (by decide) ?_
                            refine w_putI ff_X9_103 rfl rfl rfl rfl dX9_take_156 ?_
                            refine w_goto (tgt := 191) dX9_take_159 (by decide) ?_
                            refine w_aload_n dX9_take_191 rfl ?_
                            refine w_getI ff_X9_40 rfl rfl dX9_take_192 ?_
                            rw [show ((xup (xup (xup (xup (xup I 10 0 0 6 (nI f)) 10 0 0 5 ((nI f))) 10 0 0 6 (nI d)) 10 0 0 4 (4)) 10 0 0 7 (0)) 10 0 0 4 : Int32) = 4 from ((xup_slot (by decide)).trans xup_self)]
                            refine w_iconst (v := 4) dX9_take_195 (by decide) ?_
                            refine w_icmp_ne (tgt := 204) dX9_take_196 (by decide) (fun h => absurd (by decide) h) (fun _ => ?_)
                            refine w_aload_n dX9_take_199 rfl ?_
                            refine w_iconst (v := 1) dX9_take_200 (by decide) ?_
                            refine w_callV (as := [vI (1)]) (st := []) (Tri.mono (c_failL (I := xup (xup (xup (xup (xup I 10 0 0 6 (nI f)) 10 0 0 5 ((nI f))) 10 0 0 6 (nI d)) 10 0 0 4 (4)) 10 0 0 7 (0)) ((xup_slot (by decide)).trans ((xup_slot (by decide)).trans ((xup_slot (by decide)).trans ((xup_slot (by decide)).trans ((xup_slot (by decide)).trans c2))))) ((xup_slot (by decide)).trans ((xup_slot (by decide)).trans ((xup_slot (by decide)).trans xup_self))) (1)) (Nat.le_of_ble_eq_true rfl)) rfl rfl tg_X9_fail lk_X9_61 in_X9_fail se_X9_fail rfl dX9_take_201 rfl (Nat.le_of_ble_eq_true rfl) (Nat.le_refl _) (Nat.le_refl _) ?_
                            rintro _ _ ⟨rfl, rfl⟩ -
                            rw [show lexT n b nx = _ from lex_2b hf hfn (by omega) hd (by omega)]
                            exact w_return dX9_take_204 rfl rfl (⟨rfl, _, rfl, ⟨(((xup_slot (by decide)).trans xup_self).trans (by rfl)), (xup_self.trans (by rfl))⟩, (((((((FrL.rf.up (by decide)).up (by decide)).up (by decide)).up (by decide)).up (by decide)).up (by decide)).up (by decide))⟩)
            · skip
              replace h3 : ¬ (122 < ((b f : Nat) : Int)) := fun q => h3 ((zlt (by decide) (z_nI (by omega))).mpr q)
              first
              | (exfalso; omega)
              | skip
                refine w_aload_n dX9_take_65 rfl ?_
                refine w_iconst (v := 1) dX9_take_66 (by decide) ?_
                refine w_putI ff_X9_40 rfl rfl rfl rfl dX9_take_67 ?_
                refine w_aload_n dX9_take_70 rfl ?_
                refine w_aload_n dX9_take_71 rfl ?_
                refine w_aload_n dX9_take_72 rfl ?_
                refine w_getI ff_X9_110 rfl rfl dX9_take_73 ?_
                rw [show ((xup (xup (xup I 10 0 0 6 (nI f)) 10 0 0 5 ((nI f))) 10 0 0 4 (1)) 10 0 0 5 : Int32) = ((nI f)) from ((xup_slot (by decide)).trans xup_self)]
                refine w_bipush (v := 97) dX9_take_76 (by decide) ?_
                refine w_bipush (v := 122) dX9_take_78 (by decide) ?_
                refine w_callV (as := [vI (((nI f))), vI (97), vI (122)]) (st := [vR 10 0 0]) (Tri.mono (c_behind hk (ht.fr (((FrL.rf.up (by decide)).up (by decide)).up (by decide))) (lo := 97) (hi := 122) (by decide) (by decide) (by omega)) (Nat.le_of_ble_eq_true rfl)) rfl rfl tg_X9_behind lk_X9_113 in_X9_behind se_X9_behind rfl dX9_take_80 rfl (Nat.le_of_ble_eq_true rfl) (Nat.le_refl _) (Nat.le_refl _) ?_
                rintro _ _ ⟨rfl, rfl⟩ -
                refine w_top (y := nI e) (show (nI (bhd n b 97 122 f) : Int32) = nI e from congrArg nI he.symm) ?_
                refine w_putI ff_X9_30 rfl rfl rfl rfl dX9_take_83 ?_
                refine w_goto (tgt := 191) dX9_take_86 (by decide) ?_
                refine w_aload_n dX9_take_191 rfl ?_
                refine w_getI ff_X9_40 rfl rfl dX9_take_192 ?_
                rw [show ((xup (xup (xup (xup I 10 0 0 6 (nI f)) 10 0 0 5 ((nI f))) 10 0 0 4 (1)) 10 0 0 6 (nI e)) 10 0 0 4 : Int32) = 1 from ((xup_slot (by decide)).trans xup_self)]
                refine w_iconst (v := 4) dX9_take_195 (by decide) ?_
                refine w_icmp_ne (tgt := 204) dX9_take_196 (by decide) (fun _ => ?_) (fun h => absurd h (by decide))
                rw [show lexT n b nx = _ from lex_1 hf hfn (by omega) he]
                exact w_return dX9_take_204 rfl rfl (⟨rfl, _, rfl, ⟨(((xup_slot (by decide)).trans ((xup_slot (by decide)).trans ((xup_slot (by decide)).trans ((xup_slot (by decide)).trans c2)))).trans (by rfl)), (((xup_slot (by decide)).trans xup_self).trans (by rfl)), (((xup_slot (by decide)).trans ((xup_slot (by decide)).trans xup_self)).trans (by rfl)), (xup_self.trans (by rfl)), fun h => by cases h⟩, ((((FrL.rf.up (by decide)).up (by decide)).up (by decide)).up (by decide))⟩)
    · skip
      replace h1 : ¬ (0 ≤ ((b f : Nat) : Int)) := fun q => h1 ((zle (by decide) (z_nI (by omega))).mpr q)
      first
      | (exfalso; omega)
      | skip
        refine w_aload_n dX9_take_45 rfl ?_
        refine w_iconst (v := 0) dX9_take_46 (by decide) ?_
        refine w_putI ff_X9_40 rfl rfl rfl rfl dX9_take_47 ?_
        refine w_goto (tgt := 191) dX9_take_50 (by decide) ?_
        refine w_aload_n dX9_take_191 rfl ?_
        refine w_getI ff_X9_40 rfl rfl dX9_take_192 ?_
        rw [show ((xup (xup (xup I 10 0 0 6 (nI f)) 10 0 0 5 ((nI f))) 10 0 0 4 (0)) 10 0 0 4 : Int32) = 0 from xup_self]
        refine w_iconst (v := 4) dX9_take_195 (by decide) ?_
        refine w_icmp_ne (tgt := 204) dX9_take_196 (by decide) (fun _ => ?_) (fun h => absurd h (by decide))
        rw [show lexT n b nx = _ from lex_0 hf (by omega)]
        exact w_return dX9_take_204 rfl rfl (⟨rfl, _, rfl, ⟨(((xup_slot (by decide)).trans ((xup_slot (by decide)).trans ((xup_slot (by decide)).trans c2))).trans (by rfl)), (xup_self.trans (by rfl)), (((xup_slot (by decide)).trans xup_self).trans (by rfl)), (((xup_slot (by decide)).trans ((xup_slot (by decide)).trans xup_self)).trans (by rfl)), fun h => by cases h⟩, (((FrL.rf.up (by decide)).up (by decide)).up (by decide))⟩)
  · skip
    refine w_aload_n dX9_take_0 rfl ?_
    refine w_getI ff_X9_19 rfl rfl dX9_take_1 ?_
    rw [show (I 10 0 0 2 : Int32) = 0 from c2]
    refine w_if_eq (tgt := 8) dX9_take_4 (by decide) (fun _ => ?_) (fun h => absurd (by decide) h)
    refine w_aload_n dX9_take_8 rfl ?_
    refine w_aload_n dX9_take_9 rfl ?_
    refine w_aload_n dX9_take_10 rfl ?_
    refine w_getI ff_X9_30 rfl rfl dX9_take_11 ?_
    rw [show (I 10 0 0 6 : Int32) = nI nx from c6]
    refine w_bipush (v := 32) dX9_take_14 (by decide) ?_
    refine w_bipush (v := 32) dX9_take_16 (by decide) ?_
    refine w_callV (as := [vI (nI nx), vI (32), vI (32)]) (st := [vR 10 0 0]) (Tri.mono (c_behind hk (ht.fr FrL.rf) (lo := 32) (hi := 32) (by decide) (by decide) (by omega)) (Nat.le_of_ble_eq_true rfl)) rfl rfl tg_X9_behind lk_X9_113 in_X9_behind se_X9_behind rfl dX9_take_18 rfl (Nat.le_of_ble_eq_true rfl) (Nat.le_refl _) (Nat.le_refl _) ?_
    rintro _ _ ⟨rfl, rfl⟩ -
    refine w_top (y := nI f) (show (nI (bhd n b 32 32 nx) : Int32) = nI f from congrArg nI hf.symm) ?_
    refine w_putI ff_X9_30 rfl rfl rfl rfl dX9_take_21 ?_
    refine w_aload_n dX9_take_24 rfl ?_
    refine w_aload_n dX9_take_25 rfl ?_
    refine w_getI ff_X9_30 rfl rfl dX9_take_26 ?_
    rw [show ((xup I 10 0 0 6 (nI f)) 10 0 0 6 : Int32) = (nI f) from xup_self]
    refine w_putI ff_X9_110 rfl rfl rfl rfl dX9_take_29 ?_
    refine w_aload_n dX9_take_32 rfl ?_
    refine w_aload_n dX9_take_33 rfl ?_
    refine w_getI ff_X9_110 rfl rfl dX9_take_34 ?_
    rw [show ((xup (xup I 10 0 0 6 (nI f)) 10 0 0 5 ((nI f))) 10 0 0 5 : Int32) = ((nI f)) from xup_self]
    refine w_callV (as := [vI (((nI f)))]) (st := []) (Tri.mono (c_byteAtO hk (ht.fr ((FrL.rf.up (by decide)).up (by decide))) (i := f) (by omega) (by omega)) (Nat.le_of_ble_eq_true rfl)) rfl rfl tg_X9_byteAt lk_X9_117 in_X9_byteAt se_X9_byteAt rfl dX9_take_37 rfl (Nat.le_of_ble_eq_true rfl) (Nat.le_refl _) (Nat.le_refl _) ?_
    rintro _ _ ⟨rfl, rfl⟩ -
    refine w_istore_n (ls' := [some (vR 10 0 0), some (vI ((-1)))]) dX9_take_40 rfl ?_
    refine w_iload_n dX9_take_41 rfl ?_
    refine w_if_ge (tgt := 53) dX9_take_42 (by decide) (fun h => absurd h (by decide)) (fun _ => ?_)
    refine w_aload_n dX9_take_45 rfl ?_
    refine w_iconst (v := 0) dX9_take_46 (by decide) ?_
    refine w_putI ff_X9_40 rfl rfl rfl rfl dX9_take_47 ?_
    refine w_goto (tgt := 191) dX9_take_50 (by decide) ?_
    refine w_aload_n dX9_take_191 rfl ?_
    refine w_getI ff_X9_40 rfl rfl dX9_take_192 ?_
    rw [show ((xup (xup (xup I 10 0 0 6 (nI f)) 10 0 0 5 ((nI f))) 10 0 0 4 (0)) 10 0 0 4 : Int32) = 0 from xup_self]
    refine w_iconst (v := 4) dX9_take_195 (by decide) ?_
    refine w_icmp_ne (tgt := 204) dX9_take_196 (by decide) (fun _ => ?_) (fun h => absurd h (by decide))
    rw [show lexT n b nx = _ from lex_0 hf (by omega)]
    exact w_return dX9_take_204 rfl rfl (⟨rfl, _, rfl, ⟨(((xup_slot (by decide)).trans ((xup_slot (by decide)).trans ((xup_slot (by decide)).trans c2))).trans (by rfl)), (xup_self.trans (by rfl)), (((xup_slot (by decide)).trans xup_self).trans (by rfl)), (((xup_slot (by decide)).trans ((xup_slot (by decide)).trans xup_self)).trans (by rfl)), fun h => by cases h⟩, (((FrL.rf.up (by decide)).up (by decide)).up (by decide))⟩)

theorem c_take0 {I : xF4 Int32} {L : xF4 Int64} {n : Nat} {b : Nat → Nat} (hk : BK n b) (ht : TB I n b) (h2 : I 10 0 0 2 = 0) (h6 : I 10 0 0 6 = 0) : Tri 2 109 m_X9_take [vR 10 0 0] (rM I L) (pT (lexT n b 0) I L) := by
  have h : TC0 I 0 := ⟨h2, h6⟩
  exact c_takeL hk ht (nx := 0) (Nat.zero_le _) h

theorem c_take {I : xF4 Int32} {L : xF4 Int64} {n : Nat} {b : Nat → Nat} (hk : BK n b) (ht : TB I n b) {s : tS} (hok : OKT n s) (h : TC I s) : Tri 2 109 m_X9_take [vR 10 0 0] (rM I L) (pT (tkT n b s) I L) := by
  rcases s with ⟨c, p⟩ | ⟨so, st, nx, v⟩
  · exact (c_takeD hk ht ⟨hok.1, hok.2.1⟩ h).mono (by decide)
  · exact c_takeL hk ht hok.2.2.1 ⟨h.1, h.2.2.2.1⟩
