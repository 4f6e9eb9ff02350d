/-! sentences read from a sheet, both ways (by wip/whole/gen/g78.py) -/
def setTo (g : gG) (t : Int32) : gG := (g.1, (g.2.1, (g.2.2.1, (g.2.2.2.1, (g.2.2.2.2.1, (g.2.2.2.2.2.1, t))))))
theorem CH.torn {I I' : xF4 Int32} {g : gG} {t : Int32} (h : CH I g) (e : ∀ t b j s, ¬ (t = 0 ∧ s = 8) → I' t b j s = I t b j s) (e1 : I' 0 0 0 8 = t) : CH I' (setTo g t) := by
  obtain ⟨h1, h2, h3, h4, h5, h6, h7⟩ := h
  exact ⟨h1.eqv (fun t j s ht => e t 0 j s (by omega)), fun k hk => (h2 k hk).eqv (e 9 k 0 1 (by omega)) (fun t j s ht => e t (2 + k) j s (by omega)), (e 10 0 0 1 (by omega)).trans h3, fun i hi => (e 11 0 0 i (by omega)).trans (h4 i hi), (e 10 0 0 2 (by omega)).trans h5, fun k hk => (h6 k hk).eqv (fun s => e 20 k 0 s (by omega)) (fun s => e 21 k 0 s (by omega)), e1⟩
theorem MH.torn {I I' : xF4 Int32} {g : gG} {t : Int32} (h : MH I g) (e : ∀ t b j s, ¬ (t = 30 ∧ s = 26) → I' t b j s = I t b j s) (e1 : I' 30 0 0 26 = t) : MH I' (setTo g t) := by
  obtain ⟨h1, h2, h3, h4, h5, h6, h7⟩ := h
  exact ⟨⟨(e 30 0 0 3 (by omega)).trans h1.1, (e 30 0 0 4 (by omega)).trans h1.2.1, h1.2.2.fr (fun x => e 31 0 0 x (by omega))⟩, fun k hk => (h2 k hk).eqv (e 33 0 0 k (by omega)) (fun s => e 31 0 0 s (by omega)), (e 30 0 0 10 (by omega)).trans h3, fun i hi => (e 35 0 0 i (by omega)).trans (h4 i hi), (e 30 0 0 15 (by omega)).trans h5, fun k hk => (h6 k hk).eqv (e 37 0 0 k (by omega)) (e 38 0 0 k (by omega)) (fun i _ => e 39 0 0 _ (by omega)), e1⟩
theorem WG.torn {g : gG} (hg : WG g) (t : Int32) : WG (setTo g t) := hg
theorem add64 (f : Int32) {n : Nat} (hn : n < 1000) : (f.toInt64 + lN n).toInt = f.toInt + n := by
  have r1 := Int32.le_toInt f
  have r2 := Int32.toInt_lt f
  rw [Int64.toInt_add, Int32.toInt_toInt64, pk_lT (by omega), Int.bmod_def]
  split <;> omega
theorem lg_lt0 (f : Int32) {n : Nat} (hn : n < 1000) : lg_cmp (f.toInt64 + lN n) 0 < 0 ↔ f.toInt + n < 0 := by
  rw [lg_cmp_lt, Int64.lt_iff_toInt_lt, add64 f hn]
  exact Iff.rfl
theorem lg_ltm (f : Int32) {n m : Nat} (hn : n < 1000) (hm : m < 2 ^ 31) : lg_cmp (f.toInt64 + lN n) (nI m).toInt64 < 0 ↔ f.toInt + n < (m : Int) := by
  rw [lg_cmp_lt, Int64.lt_iff_toInt_lt, add64 f hn, Int32.toInt_toInt64, z_nI hm]
theorem l2p {f : Int32} {n p : Nat} (hn : n < 1000) (h : f.toInt + n = (p : Int)) (hp : p < 1000) : (f.toInt64 + lN n).toInt32 = nI p := by
  apply Int32.toInt_inj.mp
  rw [Int64.toInt_toInt32, add64 f hn, h, z_nI (by omega), Int.bmod_def]
  split <;> omega
theorem ixp {f : Int32} {q n p : Nat} (hn : n < 1000) (h : f.toInt + n = (p : Int)) (hp : p < 1000) : nI q + f + nI n = nI (q + p) := by
  have e : f + nI n = nI p := by
    apply Int32.toInt_inj.mp
    have r1 := Int32.le_toInt f
    have r2 := Int32.toInt_lt f
    rw [Int32.toInt_add, z_nI (by omega), z_nI (by omega), h, Int.bmod_def]
    split <;> omega
  rw [Int32.add_assoc, e, nI_add]
/-- the sentences of a sheet from the i-th on, r at the most: the one that is refused, or how many, the court, the fault -/
def rdF (f : Int32) (m : Nat) (cf : Nat → Int32) : Nat → Nat → aA → Nat ⊕ (Nat × (aA × Nat))
  | i, 0, b => .inr (i, (b, 0))
  | i, r + 1, b => if f.toInt + (3 * i : Nat) < 0 ∨ (m : Int) ≤ f.toInt + (3 * i + 2 : Nat) then .inr (i, (b, 2)) else
      match giveA b (cf (f.toInt + (3 * i : Nat)).toNat) (cf ((f.toInt + (3 * i : Nat)).toNat + 1)) (cf ((f.toInt + (3 * i : Nat)).toNat + 2)) with
      | some (some b') => rdF f m cf (i + 1) r b'
      | _ => .inl i
def rdX : Nat ⊕ (Nat × (aA × Nat)) → Int32
  | .inl i => -20 - nI i
  | .inr q => nI q.1
def rdG (g : gG) : Nat ⊕ (Nat × (aA × Nat)) → gG
  | .inl _ => g
  | .inr q => setTo (setA g q.2.1) (nI q.2.2)
def LikeA (a b : aA) : Prop := WF b ∧ nJ b = nJ a ∧ nC b = nC a ∧ dY b = dY a
theorem LikeA.give {a b b' : aA} (h : LikeA a b) {x y z : Int32} (hg : giveA b x y z = some (some b')) : LikeA a b' := by
  have := giN_k h.1 x y z
  rw [hg] at this
  obtain ⟨q1, q2, q3, q4⟩ := this
  exact ⟨q1, q2.trans h.2.1, q3.trans h.2.2.1, q4.trans h.2.2.2⟩
theorem rdG_ok {f : Int32} {m : Nat} {cf : Nat → Int32} {g : gG} (hg : WG g) : ∀ (r i : Nat) (b : aA), LikeA (gA g) b → WG (rdG g (rdF f m cf i r b))
  | 0, i, b, h => (hg.setA h.1 (by rw [h.2.2.2]; exact hg.2.1) h.2.1 h.2.2.1).torn _
  | r + 1, i, b, h => by
    rw [rdF]
    split
    · exact (hg.setA h.1 (by rw [h.2.2.2]; exact hg.2.1) h.2.1 h.2.2.1).torn _
    · split
      next b' hb => exact rdG_ok hg r (i + 1) b' (h.give hb)
      · exact hg
theorem nI_ge0 {n : Nat} (h : n < 2 ^ 31) : 0 ≤ nI n := i32_nlt.mp (nI_pos h)
theorem rd_stop {f : Int32} {m : Nat} {cf : Nat → Int32} {i r : Nat} {b : aA} (h : f.toInt + (3 * i : Nat) < 0 ∨ (m : Int) ≤ f.toInt + (3 * i + 2 : Nat)) : rdF f m cf i (r + 1) b = .inr (i, (b, 2)) := by rw [rdF]; exact if_pos h
theorem rd_bad {f : Int32} {m : Nat} {cf : Nat → Int32} {i r p : Nat} {b : aA} (h : ¬ (f.toInt + (3 * i : Nat) < 0 ∨ (m : Int) ≤ f.toInt + (3 * i + 2 : Nat))) (hp : f.toInt + (3 * i : Nat) = (p : Int)) (hg : ∀ b', giveA b (cf p) (cf (p + 1)) (cf (p + 2)) ≠ some (some b')) : rdF f m cf i (r + 1) b = .inl i := by
  rw [rdF, if_neg h, hp, Int.toNat_natCast]
  split
  next b' hb => exact absurd hb (hg b')
  · rfl
theorem rd_go {f : Int32} {m : Nat} {cf : Nat → Int32} {i r p : Nat} {b b' : aA} (h : ¬ (f.toInt + (3 * i : Nat) < 0 ∨ (m : Int) ≤ f.toInt + (3 * i + 2 : Nat))) (hp : f.toInt + (3 * i : Nat) = (p : Int)) (hg : giveA b (cf p) (cf (p + 1)) (cf (p + 2)) = some (some b')) : rdF f m cf i (r + 1) b = rdF f m cf (i + 1) r b' := by
  rw [rdF, if_neg h, hp, Int.toNat_natCast, hg]

theorem c_cell {I : xF4 Int32} {L : xF4 Int64} {g : gG} (hg : WG g) (hh : CH I g) {k : Nat} (hk : k < 4) {q : Nat × (Nat × (Nat → Int32))} (hq : gSh g k = some q) {p : Nat} (hp : p < q.2.1) : Tri 0 109 m_X6_cell [vR 20 k 0, vI (nI p)] (rM I L) (pI (q.2.2 p) I L) := by
  refine ⟨k_X6_cell, Nat.le_of_ble_eq_true rfl, ?_⟩
  show Wp _ _ _ 0 [some (vR 20 k 0), some (vI (nI p))] [] (rM I L) _
  obtain ⟨hw, hd9, hgi, ht160, htb, hgs⟩ := id hg
  have hsh := hh.2.2.2.2.2.1 k hk
  rw [hq] at hsh
  obtain ⟨hq3, hq40⟩ := hgs k hk q hq
  obtain ⟨s1, s2, s3, s4⟩ := hsh
  refine w_iload_n dX6_cell_0 rfl ?_
  refine w_if_lt (tgt := 30) dX6_cell_1 (by decide) (fun h1 => ?_) (fun h1 => ?_)
  · skip
    replace h1 : ((p : Nat) : Int) < 0 := (zlt (z_nI (by omega)) (by decide)).mp h1
    first
    | (exfalso; omega)
    | skip
      refine w_iconst (v := 0) dX6_cell_30 (by decide) ?_
      exact w_ireturn dX6_cell_31 rfl (rfl) rfl (⟨rfl, rfl⟩)
  · skip
    replace h1 : ¬ (((p : Nat) : Int) < 0) := fun q => h1 ((zlt (z_nI (by omega)) (by decide)).mpr q)
    first
    | (exfalso; omega)
    | skip
      refine w_iload_n dX6_cell_4 rfl ?_
      refine w_aload_n dX6_cell_5 rfl ?_
      refine w_getI ff_X6_23 rfl rfl dX6_cell_6 ?_
      rw [show (I 20 k 0 3 : Int32) = nI q.2.1 from s3]
      refine w_icmp_ge (tgt := 30) dX6_cell_9 (by decide) (fun h2 => ?_) (fun h2 => ?_)
      · skip
        replace h2 : ((q.2.1 : Nat) : Int) ≤ ((p : Nat) : Int) := (zle (z_nI (by omega)) (z_nI (by omega))).mp h2
        first
        | (exfalso; omega)
        | skip
          refine w_iconst (v := 0) dX6_cell_30 (by decide) ?_
          exact w_ireturn dX6_cell_31 rfl (rfl) rfl (⟨rfl, rfl⟩)
      · skip
        replace h2 : ¬ (((q.2.1 : Nat) : Int) ≤ ((p : Nat) : Int)) := fun q => h2 ((zle (z_nI (by omega)) (z_nI (by omega))).mpr q)
        first
        | (exfalso; omega)
        | skip
          refine w_iload_n dX6_cell_12 rfl ?_
          refine w_aload_n dX6_cell_13 rfl ?_
          refine w_getR (w := some (21, k, 0)) ff_X6_9 rfl rfl dX6_cell_14 rfl ?_
          refine w_alen (v := 40) rfl rfl dX6_cell_17 ?_
          refine w_icmp_ge (tgt := 30) dX6_cell_18 (by decide) (fun h3 => ?_) (fun h3 => ?_)
          · skip
            replace h3 : 40 ≤ ((p : Nat) : Int) := (zle (by decide) (z_nI (by omega))).mp h3
            first
            | (exfalso; omega)
            | skip
              refine w_iconst (v := 0) dX6_cell_30 (by decide) ?_
              exact w_ireturn dX6_cell_31 rfl (rfl) rfl (⟨rfl, rfl⟩)
          · skip
            replace h3 : ¬ (40 ≤ ((p : Nat) : Int)) := fun q => h3 ((zle (by decide) (z_nI (by omega))).mpr q)
            first
            | (exfalso; omega)
            | skip
              refine w_aload_n dX6_cell_21 rfl ?_
              refine w_getR (w := some (21, k, 0)) ff_X6_9 rfl rfl dX6_cell_22 rfl ?_
              refine w_iload_n dX6_cell_25 rfl ?_
              refine w_iaload (a := p) rfl (vp_in_nI (n := p) (by omega) (by omega)) (nI_clamp (n := p) (by omega)) dX6_cell_26 ?_
              rw [show (I 21 k 0 (p) : Int32) = q.2.2 p from s4 p (by omega)]
              refine w_goto (tgt := 31) dX6_cell_27 (by decide) ?_
              exact w_ireturn dX6_cell_31 rfl (rfl) rfl (⟨rfl, rfl⟩)

theorem l_readEnd {L : xF4 Int64} {g : gG} (hg : WG g) {I0 : xF4 Int32} (hh : CH I0 g) {k l n i c t : Nat} {f : Int32} {b : aA} {o9 o10 o11 : Option xV} {I : xF4 Int32} (hb : LikeA (gA g) b) (hc1 : CourtIs I 1 b) (hf : FrQ I0 I) : Wp 19 109 m_X10_read 176 [some (vR 0 0 0), some (vI (nI k)), some (vI (nI l)), some (vI (f)), some (vI (nI n)), some (vR 20 k 0), some (vI (nI t)), some (vI (nI c)), some (vI (nI i)), o9, o10, o11] [] (rM I L) (pCl (vI (nI c)) (setTo (setA g b) (nI t)) I0) := by
  refine w_aload_n dX10_read_176 rfl ?_
  refine w_getR (w := some (1, 0, 0)) ff_X10_10 rfl rfl dX10_read_177 rfl ?_
  refine w_aload_n dX10_read_180 rfl ?_
  refine w_getR (w := some (1, 1, 0)) ff_X10_16 rfl rfl dX10_read_181 rfl ?_
  refine w_callV (as := [vR 1 1 0]) (st := []) (Tri.mono (c_copy (k := 0) (k2 := 1) (by decide) hb.1 hc1) (Nat.le_of_ble_eq_true rfl)) rfl rfl tg_X1_copy lk_X10_82 in_X1_copy se_X1_copy rfl dX10_read_184 rfl (Nat.le_of_ble_eq_true rfl) (Nat.le_refl _) (Nat.le_refl _) ?_
  rintro v M9 ⟨rfl, I1, rfl, g1, g2⟩ -
  refine w_aload_n dX10_read_187 rfl ?_
  refine w_iload dX10_read_188 rfl ?_
  refine w_putI ff_X10_61 rfl rfl rfl rfl dX10_read_190 ?_
  refine w_iload dX10_read_193 rfl ?_
  exact w_ireturn dX10_read_195 rfl (rfl) rfl (⟨rfl, _, _, rfl, ((hh.q hf).court g1 g2).torn (fun t b j s hn => by unfold xup; rw [if_neg (by rintro ⟨rfl, rfl, rfl, rfl⟩; exact hn ⟨rfl, rfl⟩)]) xup_self, fun t b j s ht => (xup_tag (by omega)).trans ((g2 t b j s (by omega)).trans (hf.lo t b j s ht))⟩)

set_option maxHeartbeats 1000000 in
theorem l_readC {L : xF4 Int64} {g : gG} (hg : WG g) {I0 : xF4 Int32} (hh : CH I0 g) {k : Nat} (hk : k < 4) {q : Nat × (Nat × (Nat → Int32))} (hq : gSh g k = some q) {l n : Nat} (hn : n ≤ 13) {f : Int32} : ∀ (r i : Nat) (b : aA) (I : xF4 Int32) (o9 o10 o11 : Option xV), i + r = n → LikeA (gA g) b → CourtIs I 1 b → FrQ I0 I → Wp 19 109 m_X10_read 68 [some (vR 0 0 0), some (vI (nI k)), some (vI (nI l)), some (vI (f)), some (vI (nI n)), some (vR 20 k 0), some (vI (0)), some (vI (nI i)), some (vI (nI i)), o9, o10, o11] [] (rM I L) (pCl (vI (rdX (rdF f q.2.1 q.2.2 i r b))) (rdG g (rdF f q.2.1 q.2.2 i r b)) I0) := by
  have hh9 := hh
  obtain ⟨hw, hd9, hgi, ht160, htb, hgs⟩ := id hg
  obtain ⟨hq3, hq40⟩ := hgs k hk q hq
  intro r
  induction r with
  | zero =>
    intro i b I o9 o10 o11 hi hb hc1 hf
    have e : i = n := by omega
    subst e
    refine w_iload dX10_read_68 rfl ?_
    refine w_iload dX10_read_70 rfl ?_
    refine w_icmp_ge (tgt := 176) dX10_read_72 (by decide) (fun _ => ?_) (fun h => absurd (nI_le (Nat.le_refl _) (by omega)) h)
    rw [rdF]
    exact l_readEnd hg hh (t := 0) hb hc1 hf
  | succ r ih =>
    intro i b I o9 o10 o11 hi hb hc1 hf
    have hlt : i < n := by omega
    have hhI := hh.q hf
    have hcr := hb.1.2.2.2.2.1
    have hsh := hhI.2.2.2.2.2.1 k hk
    rw [hq] at hsh
    obtain ⟨s1, s2, s3, s4⟩ := hsh
    refine w_iload dX10_read_68 rfl ?_
    refine w_iload dX10_read_70 rfl ?_
    refine w_icmp_ge (tgt := 176) dX10_read_72 (by decide) (fun h => absurd h (nI_ge hlt (by omega))) (fun _ => ?_)
    refine w_iload dX10_read_75 rfl ?_
    refine w_if_ne (tgt := 176) dX10_read_77 (by decide) (fun h => absurd (rfl) h) (fun _ => ?_)
    refine w_iload_n dX10_read_80 rfl ?_
    refine w_i2l dX10_read_81 ?_
    refine w_ldc2 dX10_read_82 cq_X10_316 ?_
    refine w_iload dX10_read_85 rfl ?_
    refine w_i2l dX10_read_87 ?_
    refine w_lmul dX10_read_88 ?_
    refine w_ladd dX10_read_89 ?_
    refine w_topL (y := f.toInt64 + lN (3 * i)) (show (((f : Int32).toInt64) + ((3) * ((nI i : Int32).toInt64)) : Int64) = f.toInt64 + lN (3 * i) from by rw [nI_l (by omega), show (3 : Int64) = lN 3 from rfl, lN_mul]) ?_
    refine w_lstore (ls' := [some (vR 0 0 0), some (vI (nI k)), some (vI (nI l)), some (vI (f)), some (vI (nI n)), some (vR 20 k 0), some (vI (0)), some (vI (nI i)), some (vI (nI i)), some (vL (f.toInt64 + lN (3 * i))), none, o11]) dX10_read_90 rfl ?_
    refine w_lload dX10_read_92 rfl ?_
    refine w_lconst (v := 0) dX10_read_94 (by decide) ?_
    refine w_lcmp dX10_read_95 ?_
    refine w_if_lt (tgt := 115) dX10_read_96 (by decide) (fun h1 => ?_) (fun h1 => ?_)
    · skip
      replace h1 : f.toInt + ((3 * i : Nat) : Int) < 0 := (lg_lt0 f (n := 3 * i) (by omega)).mp h1
      first
      | (exfalso; omega)
      | skip
        rw [rd_stop (by omega)]
        refine w_iconst (v := 2) dX10_read_115 (by decide) ?_
        refine w_istore (ls' := [some (vR 0 0 0), some (vI (nI k)), some (vI (nI l)), some (vI (f)), some (vI (nI n)), some (vR 20 k 0), some (vI (2)), some (vI (nI i)), some (vI (nI i)), some (vL (f.toInt64 + lN (3 * i))), none, o11]) dX10_read_116 rfl ?_
        refine w_goto (tgt := 170) dX10_read_118 (by decide) ?_
        refine w_iinc (v := nI (i + 1)) (ls' := [some (vR 0 0 0), some (vI (nI k)), some (vI (nI l)), some (vI (f)), some (vI (nI n)), some (vR 20 k 0), some (vI (2)), some (vI (nI i)), some (vI (nI (i + 1))), some (vL (f.toInt64 + lN (3 * i))), none, o11]) dX10_read_170 rfl (nI_1 _) rfl ?_
        refine w_goto (tgt := 68) dX10_read_173 (by decide) ?_
        refine w_iload dX10_read_68 rfl ?_
        refine w_iload dX10_read_70 rfl ?_
        refine w_icmp_ge (tgt := 176) dX10_read_72 (by decide) (fun _ => ?_) (fun _ => ?_)
        · exact l_readEnd hg hh (t := 2) hb hc1 hf
        · skip
          refine w_iload dX10_read_75 rfl ?_
          refine w_if_ne (tgt := 176) dX10_read_77 (by decide) (fun _ => ?_) (fun h => absurd h ((by decide : ¬ (2 : Int32) = 0)))
          exact l_readEnd hg hh (t := 2) hb hc1 hf
    · skip
      replace h1 : ¬ (f.toInt + ((3 * i : Nat) : Int) < 0) := fun z => h1 ((lg_lt0 f (n := 3 * i) (by omega)).mpr z)
      first
      | (exfalso; omega)
      | skip
        refine w_lload dX10_read_99 rfl ?_
        refine w_ldc2 dX10_read_101 cq_X10_318 ?_
        refine w_ladd dX10_read_104 ?_
        refine w_topL (y := f.toInt64 + lN (3 * i + 2)) (show ((f.toInt64 + lN (3 * i)) + (2) : Int64) = f.toInt64 + lN (3 * i + 2) from by rw [Int64.add_assoc, show (2 : Int64) = lN 2 from rfl, lN_add]) ?_
        refine w_aload dX10_read_105 rfl ?_
        refine w_getI ff_X10_320 rfl rfl dX10_read_107 ?_
        rw [show (I 20 k 0 3 : Int32) = nI q.2.1 from s3]
        refine w_i2l dX10_read_110 ?_
        refine w_lcmp dX10_read_111 ?_
        refine w_if_lt (tgt := 121) dX10_read_112 (by decide) (fun h3 => ?_) (fun h3 => ?_)
        · skip
          replace h3 : f.toInt + ((3 * i + 2 : Nat) : Int) < ((q.2.1 : Nat) : Int) := (lg_ltm f (n := 3 * i + 2) (m := q.2.1) (by omega) (by omega)).mp h3
          first
          | (exfalso; omega)
          | skip
            have hns : ¬ (f.toInt + ((3 * i : Nat) : Int) < 0 ∨ (q.2.1 : Int) ≤ f.toInt + ((3 * i + 2 : Nat) : Int)) := by omega
            obtain ⟨p, hp⟩ : ∃ p : Nat, f.toInt + ((3 * i : Nat) : Int) = (p : Int) := ⟨(f.toInt + ((3 * i : Nat) : Int)).toNat, by omega⟩
            refine w_lload dX10_read_121 rfl ?_
            refine w_l2i dX10_read_123 ?_
            refine w_top (y := nI p) (show ((f.toInt64 + lN (3 * i) : Int64).toInt32 : Int32) = nI p from l2p (by omega) hp (by omega)) ?_
            refine w_istore (ls' := [some (vR 0 0 0), some (vI (nI k)), some (vI (nI l)), some (vI (f)), some (vI (nI n)), some (vR 20 k 0), some (vI (0)), some (vI (nI i)), some (vI (nI i)), some (vL (f.toInt64 + lN (3 * i))), none, some (vI (nI p))]) dX10_read_124 rfl ?_
            refine w_aload_n dX10_read_126 rfl ?_
            refine w_getR (w := some (1, 1, 0)) ff_X10_16 rfl rfl dX10_read_127 rfl ?_
            refine w_aload dX10_read_130 rfl ?_
            refine w_iload dX10_read_132 rfl ?_
            refine w_callV (as := [vI (nI p)]) (st := [vR 1 1 0]) (Tri.mono (c_cell hg hhI hk hq (p := p) (by omega)) (Nat.le_of_ble_eq_true rfl)) rfl rfl tg_X6_cell lk_X10_323 in_X6_cell se_X6_cell rfl dX10_read_134 rfl (Nat.le_of_ble_eq_true rfl) (Nat.le_refl _) (Nat.le_refl _) ?_
            rintro _ _ ⟨rfl, rfl⟩ -
            refine w_aload dX10_read_137 rfl ?_
            refine w_iload dX10_read_139 rfl ?_
            refine w_iconst (v := 1) dX10_read_141 (by decide) ?_
            refine w_iadd dX10_read_142 ?_
            rw [show ((nI p) + (1) : Int32) = nI (p + 1) from ar_add (p := p) (q := 1) rfl rfl (by omega)]
            refine w_callV (as := [vI (nI (p + 1))]) (st := [vI (q.2.2 p), vR 1 1 0]) (Tri.mono (c_cell hg hhI hk hq (p := p + 1) (by omega)) (Nat.le_of_ble_eq_true rfl)) rfl rfl tg_X6_cell lk_X10_323 in_X6_cell se_X6_cell rfl dX10_read_143 rfl (Nat.le_of_ble_eq_true rfl) (Nat.le_refl _) (Nat.le_refl _) ?_
            rintro _ _ ⟨rfl, rfl⟩ -
            refine w_aload dX10_read_146 rfl ?_
            refine w_iload dX10_read_148 rfl ?_
            refine w_iconst (v := 2) dX10_read_150 (by decide) ?_
            refine w_iadd dX10_read_151 ?_
            rw [show ((nI p) + (2) : Int32) = nI (p + 2) from ar_add (p := p) (q := 2) rfl rfl (by omega)]
            refine w_callV (as := [vI (nI (p + 2))]) (st := [vI (q.2.2 (p + 1)), vI (q.2.2 p), vR 1 1 0]) (Tri.mono (c_cell hg hhI hk hq (p := p + 2) (by omega)) (Nat.le_of_ble_eq_true rfl)) rfl rfl tg_X6_cell lk_X10_323 in_X6_cell se_X6_cell rfl dX10_read_152 rfl (Nat.le_of_ble_eq_true rfl) (Nat.le_refl _) (Nat.le_refl _) ?_
            rintro _ _ ⟨rfl, rfl⟩ -
            obtain ⟨gv, hgv⟩ : ∃ gv, gv = giveA b (q.2.2 p) (q.2.2 (p + 1)) (q.2.2 (p + 2)) := ⟨_, rfl⟩
            refine w_callS (as := [vR 1 1 0, vI (q.2.2 p), vI (q.2.2 (p + 1)), vI (q.2.2 (p + 2))]) (st := []) (Tri.mono (c_saa hc1 hb.1 (q.2.2 p) (q.2.2 (p + 1)) (q.2.2 (p + 2))) (Nat.le_of_ble_eq_true rfl)) tg_X10_sentenceAsAsked lk_X10_181 sa_X10_sentenceAsAsked rfl dX10_read_155 rfl (Nat.le_of_ble_eq_true rfl) (Nat.le_refl _) (Nat.le_refl _) ?_
            rintro v M9 ⟨rfl, I1, rfl, g1, g2⟩ -
            rw [← hgv] at g1 ⊢
            rcases gv with _ | _ | b'
            · skip
              rw [rd_bad (r := r) hns hp (fun b' hx => by rw [← hgv] at hx; cases hx)]
              rw [show giI (none) = (-1) from rfl]
              refine w_if_ge (tgt := 167) dX10_read_158 (by decide) (fun h => absurd h ((by decide : ¬ (0 : Int32) ≤ (-1)))) (fun _ => ?_)
              refine w_bipush (v := (-20)) dX10_read_161 (by decide) ?_
              refine w_iload dX10_read_163 rfl ?_
              refine w_isub dX10_read_165 ?_
              exact w_ireturn dX10_read_166 rfl (rfl) rfl (⟨rfl, _, _, rfl, (hh.q hf).q g2.q, fun t b j s ht => (g2 t b j s (by omega)).trans (hf.lo t b j s ht)⟩)
            · skip
              rw [rd_bad (r := r) hns hp (fun b' hx => by rw [← hgv] at hx; cases hx)]
              rw [show giI (some none) = (-2) from rfl]
              refine w_if_ge (tgt := 167) dX10_read_158 (by decide) (fun h => absurd h ((by decide : ¬ (0 : Int32) ≤ (-2)))) (fun _ => ?_)
              refine w_bipush (v := (-20)) dX10_read_161 (by decide) ?_
              refine w_iload dX10_read_163 rfl ?_
              refine w_isub dX10_read_165 ?_
              exact w_ireturn dX10_read_166 rfl (rfl) rfl (⟨rfl, _, _, rfl, (hh.q hf).q g2.q, fun t b j s ht => (g2 t b j s (by omega)).trans (hf.lo t b j s ht)⟩)
            · skip
              have hb2 : LikeA (gA g) b' := hb.give hgv.symm
              have hcr2 := hb2.1.2.2.2.2.1
              rw [rd_go (r := r) hns hp hgv.symm]
              rw [show giI (some (some b')) = nI (cR b') from rfl]
              refine w_if_ge (tgt := 167) dX10_read_158 (by decide) (fun _ => ?_) (fun h => absurd (nI_ge0 (by omega)) h)
              refine w_iinc (v := nI (i + 1)) (ls' := [some (vR 0 0 0), some (vI (nI k)), some (vI (nI l)), some (vI (f)), some (vI (nI n)), some (vR 20 k 0), some (vI (0)), some (vI (nI (i + 1))), some (vI (nI i)), some (vL (f.toInt64 + lN (3 * i))), none, some (vI (nI p))]) dX10_read_167 rfl (nI_1 _) rfl ?_
              refine w_iinc (v := nI (i + 1)) (ls' := [some (vR 0 0 0), some (vI (nI k)), some (vI (nI l)), some (vI (f)), some (vI (nI n)), some (vR 20 k 0), some (vI (0)), some (vI (nI (i + 1))), some (vI (nI (i + 1))), some (vL (f.toInt64 + lN (3 * i))), none, some (vI (nI p))]) dX10_read_170 rfl (nI_1 _) rfl ?_
              refine w_goto (tgt := 68) dX10_read_173 (by decide) ?_
              exact ih (i + 1) b' I1 (some (vL (f.toInt64 + lN (3 * i)))) none (some (vI (nI p))) (by omega) hb2 g1 (hf.tr g2.q)
        · skip
          replace h3 : ¬ (f.toInt + ((3 * i + 2 : Nat) : Int) < ((q.2.1 : Nat) : Int)) := fun z => h3 ((lg_ltm f (n := 3 * i + 2) (m := q.2.1) (by omega) (by omega)).mpr z)
          first
          | (exfalso; omega)
          | skip
            rw [rd_stop (by omega)]
            refine w_iconst (v := 2) dX10_read_115 (by decide) ?_
            refine w_istore (ls' := [some (vR 0 0 0), some (vI (nI k)), some (vI (nI l)), some (vI (f)), some (vI (nI n)), some (vR 20 k 0), some (vI (2)), some (vI (nI i)), some (vI (nI i)), some (vL (f.toInt64 + lN (3 * i))), none, o11]) dX10_read_116 rfl ?_
            refine w_goto (tgt := 170) dX10_read_118 (by decide) ?_
            refine w_iinc (v := nI (i + 1)) (ls' := [some (vR 0 0 0), some (vI (nI k)), some (vI (nI l)), some (vI (f)), some (vI (nI n)), some (vR 20 k 0), some (vI (2)), some (vI (nI i)), some (vI (nI (i + 1))), some (vL (f.toInt64 + lN (3 * i))), none, o11]) dX10_read_170 rfl (nI_1 _) rfl ?_
            refine w_goto (tgt := 68) dX10_read_173 (by decide) ?_
            refine w_iload dX10_read_68 rfl ?_
            refine w_iload dX10_read_70 rfl ?_
            refine w_icmp_ge (tgt := 176) dX10_read_72 (by decide) (fun _ => ?_) (fun _ => ?_)
            · exact l_readEnd hg hh (t := 2) hb hc1 hf
            · skip
              refine w_iload dX10_read_75 rfl ?_
              refine w_if_ne (tgt := 176) dX10_read_77 (by decide) (fun _ => ?_) (fun h => absurd h ((by decide : ¬ (2 : Int32) = 0)))
              exact l_readEnd hg hh (t := 2) hb hc1 hf

theorem c_taken {I : xF4 Int32} {L : xF4 Int64} {g : gG} (hg : WG g) (hh : CH I g) {k : Nat} (hk : k < 4) {q : Nat × (Nat × (Nat → Int32))} (hq : gSh g k = some q) {l : Nat}  : Tri 0 109 m_X6_faultTakenAs [vR 20 k 0, vI (nI q.1)] (rM I L) (pI 0 I L) := by
  refine ⟨k_X6_faultTakenAs, Nat.le_of_ble_eq_true rfl, ?_⟩
  show Wp _ _ _ 0 [some (vR 20 k 0), some (vI (nI q.1))] [] (rM I L) _
  obtain ⟨hw, hd9, hgi, ht160, htb, hgs⟩ := id hg
  have hsh := hh.2.2.2.2.2.1 k hk
  rw [hq] at hsh
  obtain ⟨hq3, hq40⟩ := hgs k hk q hq
  obtain ⟨s1, s2, s3, s4⟩ := hsh
  refine w_aload_n dX6_faultTakenAs_0 rfl ?_
  refine w_getI ff_X6_15 rfl rfl dX6_faultTakenAs_1 ?_
  rw [show (I 20 k 0 1 : Int32) = 1 from s1]
  refine w_if_ne (tgt := 9) dX6_faultTakenAs_4 (by decide) (fun _ => ?_) (fun h => absurd h (by decide))
  refine w_aload_n dX6_faultTakenAs_9 rfl ?_
  refine w_getI ff_X6_19 rfl rfl dX6_faultTakenAs_10 ?_
  rw [show (I 20 k 0 2 : Int32) = nI q.1 from s2]
  refine w_iload_n dX6_faultTakenAs_13 rfl ?_
  refine w_icmp_ne (tgt := 21) dX6_faultTakenAs_14 (by decide) (fun h1 => ?_) (fun h1 => ?_)
  · skip
    replace h1 : ¬ (((q.1 : Nat) : Int) = ((q.1 : Nat) : Int)) := fun q => h1 ((zeq (z_nI (by omega)) (z_nI (by omega))).mpr q)
    first
    | (exfalso; omega)
    | skip
      refine w_iconst (v := 3) dX6_faultTakenAs_21 (by decide) ?_
      exact w_ireturn dX6_faultTakenAs_22 rfl (rfl) rfl (⟨rfl, rfl⟩)
  · skip
    replace h1 : ((q.1 : Nat) : Int) = ((q.1 : Nat) : Int) := (zeq (z_nI (by omega)) (z_nI (by omega))).mp h1
    first
    | (exfalso; omega)
    | skip
      refine w_iconst (v := 0) dX6_faultTakenAs_17 (by decide) ?_
      refine w_goto (tgt := 22) dX6_faultTakenAs_18 (by decide) ?_
      exact w_ireturn dX6_faultTakenAs_22 rfl (rfl) rfl (⟨rfl, rfl⟩)

theorem c_takenX {I : xF4 Int32} {L : xF4 Int64} {g : gG} (hg : WG g) (hh : CH I g) {k : Nat} (hk : k < 4) {q : Nat × (Nat × (Nat → Int32))} (hq : gSh g k = some q) {l : Nat} (hl3 : l < 3) (hl : ¬ l = q.1) : Tri 0 109 m_X6_faultTakenAs [vR 20 k 0, vI (nI l)] (rM I L) (pI 3 I L) := by
  refine ⟨k_X6_faultTakenAs, Nat.le_of_ble_eq_true rfl, ?_⟩
  show Wp _ _ _ 0 [some (vR 20 k 0), some (vI (nI l))] [] (rM I L) _
  obtain ⟨hw, hd9, hgi, ht160, htb, hgs⟩ := id hg
  have hsh := hh.2.2.2.2.2.1 k hk
  rw [hq] at hsh
  obtain ⟨hq3, hq40⟩ := hgs k hk q hq
  obtain ⟨s1, s2, s3, s4⟩ := hsh
  refine w_aload_n dX6_faultTakenAs_0 rfl ?_
  refine w_getI ff_X6_15 rfl rfl dX6_faultTakenAs_1 ?_
  rw [show (I 20 k 0 1 : Int32) = 1 from s1]
  refine w_if_ne (tgt := 9) dX6_faultTakenAs_4 (by decide) (fun _ => ?_) (fun h => absurd h (by decide))
  refine w_aload_n dX6_faultTakenAs_9 rfl ?_
  refine w_getI ff_X6_19 rfl rfl dX6_faultTakenAs_10 ?_
  rw [show (I 20 k 0 2 : Int32) = nI q.1 from s2]
  refine w_iload_n dX6_faultTakenAs_13 rfl ?_
  refine w_icmp_ne (tgt := 21) dX6_faultTakenAs_14 (by decide) (fun h1 => ?_) (fun h1 => ?_)
  · skip
    replace h1 : ¬ (((q.1 : Nat) : Int) = ((l : Nat) : Int)) := fun q => h1 ((zeq (z_nI (by omega)) (z_nI (by omega))).mpr q)
    first
    | (exfalso; omega)
    | skip
      refine w_iconst (v := 3) dX6_faultTakenAs_21 (by decide) ?_
      exact w_ireturn dX6_faultTakenAs_22 rfl (rfl) rfl (⟨rfl, rfl⟩)
  · skip
    replace h1 : ((q.1 : Nat) : Int) = ((l : Nat) : Int) := (zeq (z_nI (by omega)) (z_nI (by omega))).mp h1
    first
    | (exfalso; omega)
    | skip
      refine w_iconst (v := 0) dX6_faultTakenAs_17 (by decide) ?_
      refine w_goto (tgt := 22) dX6_faultTakenAs_18 (by decide) ?_
      exact w_ireturn dX6_faultTakenAs_22 rfl (rfl) rfl (⟨rfl, rfl⟩)

abbrev pG2 (a : aA) (x y z : Int32) (I : xF4 Int32) (L : xF4 Int64) : Option xV → xM → Prop := fun v M => v = some (vI (giI (giveA a x y z))) ∧ ∃ I', M = rM I' L ∧ SI I' (giN a (giveA a x y z)) ∧ FrW I I' ∧ ∀ s, I' 40 0 0 s = I 40 0 0 s

theorem d_give2_in {I : xF4 Int32} {L : xF4 Int64} {a : aA} (hs : SI I a) (hw : WF a) {c j n : Nat} (hcc : c < nC a) (hj : j < nJ a) (h1n : sF a c 1 ≤ n) (hn2 : n ≤ sF a c 2) : Tri 5 109 m_X11_give [vR 30 0 0, vI (nI c), vI (nI j), vI (nI n)] (rM I L) (pG2 a (nI c) (nI j) (nI n) I L) := by
  refine ⟨k_X11_give, Nat.le_of_ble_eq_true rfl, ?_⟩
  show Wp _ _ _ 0 [some (vR 30 0 0), some (vI (nI c)), some (vI (nI j)), some (vI (nI n))] [] (rM I L) _
  obtain ⟨hJ, hC, hG, hD, hR, -⟩ := id hw
  obtain ⟨fc0, fc1, fc2, fc3, fc4, fc5, fc6, fc7, fc8⟩ := hw.2.2.2.2.2.2.1 c hcc
  unfold pG2
  rw [giveA_in hw hcc hj h1n hn2]
  refine w_aload_n dX11_give_0 rfl ?_
  refine w_iload_n dX11_give_1 rfl ?_
  refine w_iload_n dX11_give_2 rfl ?_
  refine w_callV (as := [vI (nI c), vI (nI n)]) (st := []) (Tri.mono (d_isTerm hs hw hcc (n := nI n) (X := ((n : Nat) : Int)) (z_nI (by omega))) (Nat.le_of_ble_eq_true rfl)) rfl rfl tg_X11_isTerm lk_X11_221 in_X11_isTerm se_X11_isTerm rfl dX11_give_3 rfl (Nat.le_of_ble_eq_true rfl) (Nat.le_refl _) (Nat.le_refl _) ?_
  rintro _ _ ⟨rfl, rfl⟩ -
  refine w_ifeq_b (tgt := 17) dX11_give_6 (by decide) (fun h1 => ?_) (fun h1 => ?_)
  · skip
    first
    | (exfalso; omega)
    | skip
      refine w_iconst (v := (-1)) dX11_give_17 (by decide) ?_
      exfalso
      omega
  · skip
    first
    | (exfalso; omega)
    | skip
      refine w_aload_n dX11_give_9 rfl ?_
      refine w_iload_n dX11_give_10 rfl ?_
      refine w_callV (as := [vI (nI j)]) (st := []) (Tri.mono (d_isJudge (hs.1) (by omega) (x := nI j) (X := ((j : Nat) : Int)) (z_nI (by omega))) (Nat.le_of_ble_eq_true rfl)) rfl rfl tg_X11_isJudge lk_X11_198 in_X11_isJudge se_X11_isJudge rfl dX11_give_11 rfl (Nat.le_of_ble_eq_true rfl) (Nat.le_refl _) (Nat.le_refl _) ?_
      rintro _ _ ⟨rfl, rfl⟩ -
      refine w_ifne_b (tgt := 19) dX11_give_14 (by decide) (fun h2 => ?_) (fun h2 => ?_)
      · skip
        first
        | (exfalso; omega)
        | skip
          refine w_aload_n dX11_give_19 rfl ?_
          refine w_callV (as := []) (st := []) (Tri.mono (d_starts hs hw) (Nat.le_of_ble_eq_true rfl)) rfl rfl tg_X11_starts lk_X11_192 in_X11_starts se_X11_starts rfl dX11_give_20 rfl (Nat.le_of_ble_eq_true rfl) (Nat.le_refl _) (Nat.le_refl _) ?_
          rintro v M9 ⟨rfl, I1, rfl, hm1, hi1, hf1⟩ -
          have e1 : ∀ s, I1 40 0 0 s = I 40 0 0 s := fun s => hf1 40 0 0 s (by decide) (by decide)
          have hs1 := hf1.r.si hs
          refine w_aload_n dX11_give_23 rfl ?_
          refine w_iload_n dX11_give_24 rfl ?_
          refine w_iload_n dX11_give_25 rfl ?_
          refine w_iload_n dX11_give_26 rfl ?_
          refine w_callV (as := [vI (nI j), vI (nI c), vI (nI n)]) (st := []) (Tri.mono (d_canHear hm1 hw (c := c) (j := j) (n := n) hcc hj (by omega)) (Nat.le_of_ble_eq_true rfl)) rfl rfl tg_X11_canHear lk_X11_165 in_X11_canHear se_X11_canHear rfl dX11_give_27 rfl (Nat.le_of_ble_eq_true rfl) (Nat.le_refl _) (Nat.le_refl _) ?_
          rintro _ _ ⟨rfl, rfl⟩ -
          refine w_ifne_b (tgt := 36) dX11_give_30 (by decide) (fun h9 => ?_) (fun h9 => ?_)
          · skip
            rw [if_pos h9]
            refine w_aload_n dX11_give_36 rfl ?_
            refine w_iload_n dX11_give_37 rfl ?_
            refine w_iload_n dX11_give_38 rfl ?_
            refine w_iload_n dX11_give_39 rfl ?_
            refine w_callV (as := [vI (nI j), vI (nI c), vI (nI n)]) (st := []) (Tri.mono (d_sentences hm1 hw (c := c) (j := j) (n := n) hcc hj (by omega) h9) (Nat.le_of_ble_eq_true rfl)) rfl rfl tg_X11_sentences lk_X11_174 in_X11_sentences se_X11_sentences rfl dX11_give_40 rfl (Nat.le_of_ble_eq_true rfl) (Nat.le_refl _) (Nat.le_refl _) ?_
            rintro v M9 ⟨rfl, I2, rfl, hm2, hf2⟩ -
            have hws : WF (sentN a c j n) := hw.sent hcc hj (by omega) (by omega)
            have e2 : ∀ s, I2 40 0 0 s = I 40 0 0 s := fun s => (hf2 40 0 0 s (by decide)).trans (e1 s)
            have hs2 := hf2.r.si hs1
            refine w_aload_n dX11_give_43 rfl ?_
            refine w_callV (as := []) (st := []) (Tri.mono (d_settles hm2 hws) (Nat.le_of_ble_eq_true rfl)) rfl rfl tg_X11_settles lk_X11_225 in_X11_settles se_X11_settles rfl dX11_give_44 rfl (Nat.le_of_ble_eq_true rfl) (Nat.le_refl _) (Nat.le_refl _) ?_
            rintro v M9 ⟨rfl, I3, rfl, hz3, hf3⟩ -
            have e3 : ∀ s, I3 40 0 0 s = I 40 0 0 s := fun s => (hf3 40 0 0 s (by omega)).trans (e2 s)
            refine w_aload_n dX11_give_47 rfl ?_
            refine w_getR (w := some (31, 0, 0)) ff_X11_7 rfl rfl dX11_give_48 rfl ?_
            refine w_bipush (v := 56) dX11_give_51 (by decide) ?_
            refine w_iaload (a := 56) rfl (vp_in_nI (n := 56) (by omega) (by omega)) (nI_clamp (n := 56) (by omega)) dX11_give_53 ?_
            rw [show (I3 31 0 0 (56) : Int32) = nI (cR (sentN a c j n)) from hz3.2.2.cr rfl]
            exact w_ireturn dX11_give_54 rfl (rfl) rfl (⟨rfl, _, rfl, hz3, (FrW.tr (hf1.r.tr hf2.r).w hf3.w), e3⟩)
          · skip
            rw [if_neg h9]
            refine w_bipush (v := (-2)) dX11_give_33 (by decide) ?_
            exact w_ireturn dX11_give_35 rfl (rfl) rfl (⟨rfl, _, rfl, hs1, hf1.r.w, e1⟩)
      · skip
        first
        | (exfalso; omega)
        | skip
          refine w_iconst (v := (-1)) dX11_give_17 (by decide) ?_
          exfalso
          omega

theorem d_give2_c {I : xF4 Int32} {L : xF4 Int64} {a : aA} (hs : SI I a) (hw : WF a) {x y z : Int32} (hx : x.toInt < 0 ∨ ((nC a : Nat) : Int) ≤ x.toInt) : Tri 5 109 m_X11_give [vR 30 0 0, vI (x), vI (y), vI (z)] (rM I L) (pG2 a (x) (y) (z) I L) := by
  refine ⟨k_X11_give, Nat.le_of_ble_eq_true rfl, ?_⟩
  show Wp _ _ _ 0 [some (vR 30 0 0), some (vI (x)), some (vI (y)), some (vI (z))] [] (rM I L) _
  obtain ⟨hJ, hC, hG, hD, hR, -⟩ := id hw
  unfold pG2
  rw [giveA_c hx]
  refine w_aload_n dX11_give_0 rfl ?_
  refine w_iload_n dX11_give_1 rfl ?_
  refine w_iload_n dX11_give_2 rfl ?_
  refine w_callV (as := [vI (x), vI (z)]) (st := []) (Tri.mono (d_isTermO hs hw (c := x) (n := z) (by omega)) (Nat.le_of_ble_eq_true rfl)) rfl rfl tg_X11_isTerm lk_X11_221 in_X11_isTerm se_X11_isTerm rfl dX11_give_3 rfl (Nat.le_of_ble_eq_true rfl) (Nat.le_refl _) (Nat.le_refl _) ?_
  rintro _ _ ⟨rfl, rfl⟩ -
  refine w_if_eq (tgt := 17) dX11_give_6 (by decide) (fun _ => ?_) (fun h => absurd (by decide) h)
  refine w_iconst (v := (-1)) dX11_give_17 (by decide) ?_
  exact w_ireturn dX11_give_18 rfl (rfl) rfl (⟨rfl, I, rfl, hs, FrW.rf, fun _ => rfl⟩)

theorem d_give2_j {I : xF4 Int32} {L : xF4 Int64} {a : aA} (hs : SI I a) (hw : WF a) {c : Nat} (hcc : c < nC a) {y z : Int32} (hx : y.toInt < 0 ∨ ((nJ a : Nat) : Int) ≤ y.toInt) : Tri 5 109 m_X11_give [vR 30 0 0, vI (nI c), vI (y), vI (z)] (rM I L) (pG2 a (nI c) (y) (z) I L) := by
  refine ⟨k_X11_give, Nat.le_of_ble_eq_true rfl, ?_⟩
  show Wp _ _ _ 0 [some (vR 30 0 0), some (vI (nI c)), some (vI (y)), some (vI (z))] [] (rM I L) _
  obtain ⟨hJ, hC, hG, hD, hR, -⟩ := id hw
  obtain ⟨fc0, fc1, fc2, fc3, fc4, fc5, fc6, fc7, fc8⟩ := hw.2.2.2.2.2.2.1 c hcc
  unfold pG2
  rw [giveA_j hx]
  refine w_aload_n dX11_give_0 rfl ?_
  refine w_iload_n dX11_give_1 rfl ?_
  refine w_iload_n dX11_give_2 rfl ?_
  refine w_callV (as := [vI (nI c), vI (z)]) (st := []) (Tri.mono (d_isTerm hs hw hcc (n := z) (X := z.toInt) rfl) (Nat.le_of_ble_eq_true rfl)) rfl rfl tg_X11_isTerm lk_X11_221 in_X11_isTerm se_X11_isTerm rfl dX11_give_3 rfl (Nat.le_of_ble_eq_true rfl) (Nat.le_refl _) (Nat.le_refl _) ?_
  rintro _ _ ⟨rfl, rfl⟩ -
  refine w_ifeq_b (tgt := 17) dX11_give_6 (by decide) (fun h1 => ?_) (fun h1 => ?_)
  · skip
    first
    | (exfalso; omega)
    | skip
      refine w_iconst (v := (-1)) dX11_give_17 (by decide) ?_
      exact w_ireturn dX11_give_18 rfl (rfl) rfl (⟨rfl, I, rfl, hs, FrW.rf, fun _ => rfl⟩)
  · skip
    first
    | (exfalso; omega)
    | skip
      refine w_aload_n dX11_give_9 rfl ?_
      refine w_iload_n dX11_give_10 rfl ?_
      refine w_callV (as := [vI (y)]) (st := []) (Tri.mono (d_isJudge (hs.1) (by omega) (x := y) (X := y.toInt) rfl) (Nat.le_of_ble_eq_true rfl)) rfl rfl tg_X11_isJudge lk_X11_198 in_X11_isJudge se_X11_isJudge rfl dX11_give_11 rfl (Nat.le_of_ble_eq_true rfl) (Nat.le_refl _) (Nat.le_refl _) ?_
      rintro _ _ ⟨rfl, rfl⟩ -
      refine w_ifne_b (tgt := 19) dX11_give_14 (by decide) (fun h2 => ?_) (fun h2 => ?_)
      · skip
        first
        | (exfalso; omega)
        | skip
          exfalso
          omega
      · skip
        first
        | (exfalso; omega)
        | skip
          refine w_iconst (v := (-1)) dX11_give_17 (by decide) ?_
          exact w_ireturn dX11_give_18 rfl (rfl) rfl (⟨rfl, I, rfl, hs, FrW.rf, fun _ => rfl⟩)

theorem d_give2_n {I : xF4 Int32} {L : xF4 Int64} {a : aA} (hs : SI I a) (hw : WF a) {c j : Nat} (hcc : c < nC a) (hj : j < nJ a) {z : Int32} (hx : z.toInt < ((sF a c 1 : Nat) : Int) ∨ ((sF a c 2 : Nat) : Int) < z.toInt) : Tri 5 109 m_X11_give [vR 30 0 0, vI (nI c), vI (nI j), vI (z)] (rM I L) (pG2 a (nI c) (nI j) (z) I L) := by
  refine ⟨k_X11_give, Nat.le_of_ble_eq_true rfl, ?_⟩
  show Wp _ _ _ 0 [some (vR 30 0 0), some (vI (nI c)), some (vI (nI j)), some (vI (z))] [] (rM I L) _
  obtain ⟨hJ, hC, hG, hD, hR, -⟩ := id hw
  obtain ⟨fc0, fc1, fc2, fc3, fc4, fc5, fc6, fc7, fc8⟩ := hw.2.2.2.2.2.2.1 c hcc
  unfold pG2
  rw [giveA_n hw hcc hx]
  refine w_aload_n dX11_give_0 rfl ?_
  refine w_iload_n dX11_give_1 rfl ?_
  refine w_iload_n dX11_give_2 rfl ?_
  refine w_callV (as := [vI (nI c), vI (z)]) (st := []) (Tri.mono (d_isTerm hs hw hcc (n := z) (X := z.toInt) rfl) (Nat.le_of_ble_eq_true rfl)) rfl rfl tg_X11_isTerm lk_X11_221 in_X11_isTerm se_X11_isTerm rfl dX11_give_3 rfl (Nat.le_of_ble_eq_true rfl) (Nat.le_refl _) (Nat.le_refl _) ?_
  rintro _ _ ⟨rfl, rfl⟩ -
  refine w_ifeq_b (tgt := 17) dX11_give_6 (by decide) (fun h1 => ?_) (fun h1 => ?_)
  · skip
    first
    | (exfalso; omega)
    | skip
      refine w_iconst (v := (-1)) dX11_give_17 (by decide) ?_
      exact w_ireturn dX11_give_18 rfl (rfl) rfl (⟨rfl, I, rfl, hs, FrW.rf, fun _ => rfl⟩)
  · skip
    first
    | (exfalso; omega)
    | skip
      refine w_aload_n dX11_give_9 rfl ?_
      refine w_iload_n dX11_give_10 rfl ?_
      refine w_callV (as := [vI (nI j)]) (st := []) (Tri.mono (d_isJudge (hs.1) (by omega) (x := nI j) (X := ((j : Nat) : Int)) (z_nI (by omega))) (Nat.le_of_ble_eq_true rfl)) rfl rfl tg_X11_isJudge lk_X11_198 in_X11_isJudge se_X11_isJudge rfl dX11_give_11 rfl (Nat.le_of_ble_eq_true rfl) (Nat.le_refl _) (Nat.le_refl _) ?_
      rintro _ _ ⟨rfl, rfl⟩ -
      refine w_ifne_b (tgt := 19) dX11_give_14 (by decide) (fun h2 => ?_) (fun h2 => ?_)
      · skip
        first
        | (exfalso; omega)
        | skip
          exfalso
          omega
      · skip
        first
        | (exfalso; omega)
        | skip
          refine w_iconst (v := (-1)) dX11_give_17 (by decide) ?_
          exact w_ireturn dX11_give_18 rfl (rfl) rfl (⟨rfl, I, rfl, hs, FrW.rf, fun _ => rfl⟩)

theorem d_give2 {I : xF4 Int32} {L : xF4 Int64} {a : aA} (hs : SI I a) (hw : WF a) (x y z : Int32) : Tri 5 109 m_X11_give [vR 30 0 0, vI x, vI y, vI z] (rM I L) (pG2 a x y z I L) := by
  have w1 := hw.1
  have w2 := hw.2.1
  rcases zcase x (n := nC a) (by omega) with ⟨c, hcc, rfl⟩ | hx
  · rcases zcase y (n := nJ a) (by omega) with ⟨j, hj, rfl⟩ | hx
    · obtain ⟨b1, b2, b3, b4, b5, b6, b7, b8, b9⟩ := hw.2.2.2.2.2.2.1 c hcc
      rcases zin z (sF a c 1) (sF a c 2) (by omega) with ⟨n, h1, h2, rfl⟩ | hx
      · exact d_give2_in hs hw hcc hj h1 h2
      · exact d_give2_n hs hw hcc hj hx
    · exact d_give2_j hs hw hcc hx
  · exact d_give2_c hs hw hx

theorem l_readEndM {L : xF4 Int64} {g : gG} (hg : WG g) {I0 : xF4 Int32} (hh : MH I0 g) {k l n c t : Nat} {f i9 : Int32} {b : aA} {o8 o9 o10 : Option xV} {I : xF4 Int32} (hs : SI I b) (hf : FrW I0 I) : Wp 19 109 m_X11_read 259 [some (vR 30 0 0), some (vI (nI k)), some (vI (nI l)), some (vI (f)), some (vI (nI n)), some (vI (nI t)), some (vI (nI c)), some (vI (i9)), o8, o9, o10] [] (rM I L) (pMo (vI (nI c)) (setTo (setA g b) (nI t)) I0) := by
  refine w_aload_n dX11_read_259 rfl ?_
  refine w_iload dX11_read_260 rfl ?_
  refine w_putI ff_X11_311 rfl rfl rfl rfl dX11_read_262 ?_
  refine w_iload dX11_read_265 rfl ?_
  exact w_ireturn dX11_read_267 rfl (rfl) rfl (⟨rfl, _, _, rfl, (hh.court hg hs hf).torn (fun t b j s hn => by unfold xup; rw [if_neg (by rintro ⟨rfl, rfl, rfl, rfl⟩; exact hn ⟨rfl, rfl⟩)]) xup_self, fun t b j s ht => (xup_tag (by omega)).trans (hf.hi t b j s ht)⟩)

theorem l_readBack {L : xF4 Int64} {g : gG} (hg : WG g) {I0 : xF4 Int32} (hh : MH I0 g) {k l n i : Nat} {f c9 c8 : Int32} {o10 : Option xV} : ∀ (m x : Nat) (I : xF4 Int32), x + m = 76 → (∀ y, y < 76 → I 40 0 0 y = I0 31 0 0 y) → (∀ y, y < x → I 31 0 0 y = I0 31 0 0 y) → FrW I0 I → (I 30 0 0 3 = nI (nJ (gA g)) ∧ I 30 0 0 4 = nI (nC (gA g))) → Wp 19 109 m_X11_read 217 [some (vR 30 0 0), some (vI (nI k)), some (vI (nI l)), some (vI (f)), some (vI (nI n)), some (vI (0)), some (vI (c9)), some (vI (nI i)), some (vI (c8)), some (vI (nI x)), o10] [] (rM I L) (pMo (vI (-20 - nI i)) g I0) := by
  intro m
  induction m with
  | zero =>
    intro x I hx h40 h31 hf hs3
    have e : x = 76 := by omega
    subst e
    refine w_iload dX11_read_217 rfl ?_
    refine w_bipush (v := 76) dX11_read_219 (by decide) ?_
    refine w_icmp_ge (tgt := 244) dX11_read_221 (by decide) (fun _ => ?_) (fun h => absurd (by decide) h)
    refine w_bipush (v := (-20)) dX11_read_244 (by decide) ?_
    refine w_iload dX11_read_246 rfl ?_
    refine w_isub dX11_read_248 ?_
    have hsI : SI I (gA g) := ⟨hs3.1, hs3.2, hh.1.2.2.to hg.1 (fun x hx => by rw [Nat.zero_add]; exact h31 x hx)⟩
    exact w_ireturn dX11_read_249 rfl (rfl) rfl (⟨rfl, _, _, rfl, (show MH I g from hh.court hg hsI hf), hf.hi⟩)
  | succ m ih =>
    intro x I hx h40 h31 hf hs3
    have hlt : x < 76 := by omega
    refine w_iload dX11_read_217 rfl ?_
    refine w_bipush (v := 76) dX11_read_219 (by decide) ?_
    refine w_icmp_ge (tgt := 244) dX11_read_221 (by decide) (fun h => absurd h (nI_ge (b := 76) hlt (by omega))) (fun _ => ?_)
    refine w_aload_n dX11_read_224 rfl ?_
    refine w_getR (w := some (31, 0, 0)) ff_X11_7 rfl rfl dX11_read_225 rfl ?_
    refine w_iload dX11_read_228 rfl ?_
    refine w_aload_n dX11_read_230 rfl ?_
    refine w_getR (w := some (40, 0, 0)) ff_X11_38 rfl rfl dX11_read_231 rfl ?_
    refine w_iload dX11_read_234 rfl ?_
    refine w_iaload (a := x) rfl (vp_in_nI (n := x) (by omega) (by omega)) (nI_clamp (n := x) (by omega)) dX11_read_236 ?_
    refine w_top (y := I0 31 0 0 x) (show (I 40 0 0 (x) : Int32) = I0 31 0 0 x from h40 x hlt) ?_
    refine w_iastore (a := x) rfl (vp_in_nI (n := x) (by omega) (by omega)) (nI_clamp (n := x) (by omega)) dX11_read_237 ?_
    refine w_iinc (v := nI (x + 1)) (ls' := [some (vR 30 0 0), some (vI (nI k)), some (vI (nI l)), some (vI (f)), some (vI (nI n)), some (vI (0)), some (vI (c9)), some (vI (nI i)), some (vI (c8)), some (vI (nI (x + 1))), o10]) dX11_read_238 rfl (nI_1 _) rfl ?_
    refine w_goto (tgt := 217) dX11_read_241 (by decide) ?_
    refine ih (x + 1) _ (by omega) (fun y hy => (xup_tag (by decide)).trans (h40 y hy)) (fun y hy => ?_) (hf.tr (FrW.up hlt)) ⟨(xup_tag (by decide)).trans hs3.1, (xup_tag (by decide)).trans hs3.2⟩
    by_cases e : y = x
    · rw [e, xup_self]
    · rw [xup_slot e]; exact h31 y (by omega)

set_option maxHeartbeats 1000000 in
theorem l_readM {L : xF4 Int64} {g : gG} (hg : WG g) {I0 : xF4 Int32} (hh : MH I0 g) {k : Nat} (hk : k < 4) {q : Nat × (Nat × (Nat → Int32))} (hq : gSh g k = some q) {n : Nat} (hn : n ≤ 13) {f : Int32} : ∀ (r i : Nat) (b : aA) (I : xF4 Int32) (o8 o9 o10 : Option xV), i + r = n → LikeA (gA g) b → SI I b → FrW I0 I → (∀ y, y < 76 → I 40 0 0 y = I0 31 0 0 y) → Wp 19 109 m_X11_read 62 [some (vR 30 0 0), some (vI (nI k)), some (vI (nI q.1)), some (vI (f)), some (vI (nI n)), some (vI (0)), some (vI (nI i)), some (vI (nI i)), o8, o9, o10] [] (rM I L) (pMo (vI (rdX (rdF f q.2.1 q.2.2 i r b))) (rdG g (rdF f q.2.1 q.2.2 i r b)) I0) := by
  obtain ⟨hw, hd9, hgi, ht160, htb, hgs⟩ := id hg
  obtain ⟨hq3, hq40⟩ := hgs k hk q hq
  intro r
  induction r with
  | zero =>
    intro i b I o8 o9 o10 hi hb hs hf h40
    have e : i = n := by omega
    subst e
    refine w_iload dX11_read_62 rfl ?_
    refine w_iload dX11_read_64 rfl ?_
    refine w_icmp_ge (tgt := 259) dX11_read_66 (by decide) (fun _ => ?_) (fun h => absurd (nI_le (Nat.le_refl _) (by omega)) h)
    rw [rdF]
    exact l_readEndM hg hh (t := 0) hs hf
  | succ r ih =>
    intro i b I o8 o9 o10 hi hb hs hf h40
    have hlt : i < n := by omega
    have hcr := hb.1.2.2.2.2.1
    have hsh := hh.2.2.2.2.2.1 k hk
    rw [hq] at hsh
    obtain ⟨s2, s3, s4⟩ := hsh
    have s2 := (hf 37 0 0 k (by omega) (by omega) (by omega)).trans s2
    have s3 := (hf 38 0 0 k (by omega) (by omega) (by omega)).trans s3
    have s4 : ∀ x, x < 40 → I 39 0 0 (40 * k + x) = q.2.2 x := fun x hx => (hf 39 0 0 _ (by omega) (by omega) (by omega)).trans (s4 x hx)
    refine w_iload dX11_read_62 rfl ?_
    refine w_iload dX11_read_64 rfl ?_
    refine w_icmp_ge (tgt := 259) dX11_read_66 (by decide) (fun h => absurd h (nI_ge hlt (by omega))) (fun _ => ?_)
    refine w_iload dX11_read_69 rfl ?_
    refine w_if_ne (tgt := 259) dX11_read_71 (by decide) (fun h => absurd (rfl) h) (fun _ => ?_)
    refine w_iconst (v := 0) dX11_read_74 (by decide) ?_
    refine w_istore (ls' := [some (vR 30 0 0), some (vI (nI k)), some (vI (nI q.1)), some (vI (f)), some (vI (nI n)), some (vI (0)), some (vI (nI i)), some (vI (nI i)), some (vI (0)), o9, o10]) dX11_read_75 rfl ?_
    refine w_iload dX11_read_77 rfl ?_
    refine w_iconst (v := 3) dX11_read_79 (by decide) ?_
    refine w_icmp_ge (tgt := 164) dX11_read_80 (by decide) (fun h => absurd h (by decide)) (fun _ => ?_)
    refine w_iload dX11_read_83 rfl ?_
    refine w_if_ne (tgt := 164) dX11_read_85 (by decide) (fun h => absurd (rfl) h) (fun _ => ?_)
    refine w_iload_n dX11_read_88 rfl ?_
    refine w_i2l dX11_read_89 ?_
    refine w_iconst (v := 3) dX11_read_90 (by decide) ?_
    refine w_iload dX11_read_91 rfl ?_
    refine w_imul dX11_read_93 ?_
    rw [show ((3) * (nI i) : Int32) = nI (3 * i) from ar_mul (p := 3) (q := i) rfl rfl (by first | rfl | omega)]
    refine w_i2l dX11_read_94 ?_
    refine w_ladd dX11_read_95 ?_
    refine w_iload dX11_read_96 rfl ?_
    refine w_i2l dX11_read_98 ?_
    refine w_ladd dX11_read_99 ?_
    refine w_topL (y := f.toInt64 + lN (3 * i + 0)) (show ((((f : Int32).toInt64) + ((nI (3 * i) : Int32).toInt64)) + ((0 : Int32).toInt64) : Int64) = f.toInt64 + lN (3 * i + 0) from by rw [nI_l (n := 3 * i) (by omega), show ((0 : Int32).toInt64) = lN 0 from by decide, Int64.add_assoc, lN_add]) ?_
    refine w_lstore (ls' := [some (vR 30 0 0), some (vI (nI k)), some (vI (nI q.1)), some (vI (f)), some (vI (nI n)), some (vI (0)), some (vI (nI i)), some (vI (nI i)), some (vI (0)), some (vL (f.toInt64 + lN (3 * i + 0))), none]) dX11_read_100 rfl ?_
    refine w_aload_n dX11_read_102 rfl ?_
    refine w_getR (w := some (37, 0, 0)) ff_X11_29 rfl rfl dX11_read_103 rfl ?_
    refine w_iload_n dX11_read_106 rfl ?_
    refine w_iaload (a := k) rfl (vp_in_nI (n := k) (by omega) (by omega)) (nI_clamp (n := k) (by omega)) dX11_read_107 ?_
    rw [show (I 37 0 0 (k) : Int32) = nI q.1 from s2]
    refine w_bipush (v := (-4)) dX11_read_108 (by decide) ?_
    refine w_icmp_ne (tgt := 117) dX11_read_110 (by decide) (fun _ => ?_) (fun h => absurd h (nI_m4 q.1 (by omega)))
    refine w_aload_n dX11_read_117 rfl ?_
    refine w_getR (w := some (37, 0, 0)) ff_X11_29 rfl rfl dX11_read_118 rfl ?_
    refine w_iload_n dX11_read_121 rfl ?_
    refine w_iaload (a := k) rfl (vp_in_nI (n := k) (by omega) (by omega)) (nI_clamp (n := k) (by omega)) dX11_read_122 ?_
    rw [show (I 37 0 0 (k) : Int32) = nI q.1 from s2]
    refine w_iload_n dX11_read_123 rfl ?_
    refine w_icmp_eq (tgt := 131) dX11_read_124 (by decide) (fun _ => ?_) (fun h => absurd (rfl) h)
    refine w_lload dX11_read_131 rfl ?_
    refine w_lconst (v := 0) dX11_read_133 (by decide) ?_
    refine w_lcmp dX11_read_134 ?_
    refine w_if_lt (tgt := 151) dX11_read_135 (by decide) (fun h1 => ?_) (fun h1 => ?_)
    · skip
      replace h1 : f.toInt + ((3 * i + 0 : Nat) : Int) < 0 := (lg_lt0 f (n := 3 * i + 0) (by omega)).mp h1
      first
      | (exfalso; omega)
      | skip
        refine w_iconst (v := 2) dX11_read_151 (by decide) ?_
        refine w_goto (tgt := 156) dX11_read_152 (by decide) ?_
        refine w_istore (ls' := [some (vR 30 0 0), some (vI (nI k)), some (vI (nI q.1)), some (vI (f)), some (vI (nI n)), some (vI (2)), some (vI (nI i)), some (vI (nI i)), some (vI (0)), some (vL (f.toInt64 + lN (3 * i + 0))), none]) dX11_read_156 rfl ?_
        refine w_iinc (v := 1) (ls' := [some (vR 30 0 0), some (vI (nI k)), some (vI (nI q.1)), some (vI (f)), some (vI (nI n)), some (vI (2)), some (vI (nI i)), some (vI (nI i)), some (vI (1)), some (vL (f.toInt64 + lN (3 * i + 0))), none]) dX11_read_158 rfl (by decide) rfl ?_
        refine w_goto (tgt := 77) dX11_read_161 (by decide) ?_
        refine w_iload dX11_read_77 rfl ?_
        refine w_iconst (v := 3) dX11_read_79 (by decide) ?_
        refine w_icmp_ge (tgt := 164) dX11_read_80 (by decide) (fun h => absurd h (by decide)) (fun _ => ?_)
        refine w_iload dX11_read_83 rfl ?_
        refine w_if_ne (tgt := 164) dX11_read_85 (by decide) (fun _ => ?_) (fun h => absurd h (by decide))
        refine w_iload dX11_read_164 rfl ?_
        refine w_if_ne (tgt := 253) dX11_read_166 (by decide) (fun _ => ?_) (fun h => absurd h (by decide))
        rw [rd_stop (by omega)]
        refine w_iinc (v := nI (i + 1)) (ls' := [some (vR 30 0 0), some (vI (nI k)), some (vI (nI q.1)), some (vI (f)), some (vI (nI n)), some (vI (2)), some (vI (nI i)), some (vI (nI (i + 1))), some (vI (1)), some (vL (f.toInt64 + lN (3 * i + 0))), none]) dX11_read_253 rfl (nI_1 _) rfl ?_
        refine w_goto (tgt := 62) dX11_read_256 (by decide) ?_
        refine w_iload dX11_read_62 rfl ?_
        refine w_iload dX11_read_64 rfl ?_
        refine w_icmp_ge (tgt := 259) dX11_read_66 (by decide) (fun _ => ?_) (fun _ => ?_)
        · exact l_readEndM hg hh (t := 2) hs hf
        · skip
          refine w_iload dX11_read_69 rfl ?_
          refine w_if_ne (tgt := 259) dX11_read_71 (by decide) (fun _ => ?_) (fun h => absurd h ((by decide : ¬ (2 : Int32) = 0)))
          exact l_readEndM hg hh (t := 2) hs hf
    · skip
      replace h1 : ¬ (f.toInt + ((3 * i + 0 : Nat) : Int) < 0) := fun z => h1 ((lg_lt0 f (n := 3 * i + 0) (by omega)).mpr z)
      first
      | (exfalso; omega)
      | skip
        refine w_lload dX11_read_138 rfl ?_
        refine w_aload_n dX11_read_140 rfl ?_
        refine w_getR (w := some (38, 0, 0)) ff_X11_32 rfl rfl dX11_read_141 rfl ?_
        refine w_iload_n dX11_read_144 rfl ?_
        refine w_iaload (a := k) rfl (vp_in_nI (n := k) (by omega) (by omega)) (nI_clamp (n := k) (by omega)) dX11_read_145 ?_
        rw [show (I 38 0 0 (k) : Int32) = nI q.2.1 from s3]
        refine w_i2l dX11_read_146 ?_
        refine w_lcmp dX11_read_147 ?_
        refine w_if_lt (tgt := 155) dX11_read_148 (by decide) (fun h2 => ?_) (fun h2 => ?_)
        · skip
          replace h2 : f.toInt + ((3 * i + 0 : Nat) : Int) < ((q.2.1 : Nat) : Int) := (lg_ltm f (n := 3 * i + 0) (m := q.2.1) (by omega) (by omega)).mp h2
          first
          | (exfalso; omega)
          | skip
            refine w_iconst (v := 0) dX11_read_155 (by decide) ?_
            refine w_istore (ls' := [some (vR 30 0 0), some (vI (nI k)), some (vI (nI q.1)), some (vI (f)), some (vI (nI n)), some (vI (0)), some (vI (nI i)), some (vI (nI i)), some (vI (0)), some (vL (f.toInt64 + lN (3 * i + 0))), none]) dX11_read_156 rfl ?_
            refine w_iinc (v := 1) (ls' := [some (vR 30 0 0), some (vI (nI k)), some (vI (nI q.1)), some (vI (f)), some (vI (nI n)), some (vI (0)), some (vI (nI i)), some (vI (nI i)), some (vI (1)), some (vL (f.toInt64 + lN (3 * i + 0))), none]) dX11_read_158 rfl (by decide) rfl ?_
            refine w_goto (tgt := 77) dX11_read_161 (by decide) ?_
            refine w_iload dX11_read_77 rfl ?_
            refine w_iconst (v := 3) dX11_read_79 (by decide) ?_
            refine w_icmp_ge (tgt := 164) dX11_read_80 (by decide) (fun h => absurd h (by decide)) (fun _ => ?_)
            refine w_iload dX11_read_83 rfl ?_
            refine w_if_ne (tgt := 164) dX11_read_85 (by decide) (fun h => absurd (rfl) h) (fun _ => ?_)
            refine w_iload_n dX11_read_88 rfl ?_
            refine w_i2l dX11_read_89 ?_
            refine w_iconst (v := 3) dX11_read_90 (by decide) ?_
            refine w_iload dX11_read_91 rfl ?_
            refine w_imul dX11_read_93 ?_
            rw [show ((3) * (nI i) : Int32) = nI (3 * i) from ar_mul (p := 3) (q := i) rfl rfl (by first | rfl | omega)]
            refine w_i2l dX11_read_94 ?_
            refine w_ladd dX11_read_95 ?_
            refine w_iload dX11_read_96 rfl ?_
            refine w_i2l dX11_read_98 ?_
            refine w_ladd dX11_read_99 ?_
            refine w_topL (y := f.toInt64 + lN (3 * i + 1)) (show ((((f : Int32).toInt64) + ((nI (3 * i) : Int32).toInt64)) + ((1 : Int32).toInt64) : Int64) = f.toInt64 + lN (3 * i + 1) from by rw [nI_l (n := 3 * i) (by omega), show ((1 : Int32).toInt64) = lN 1 from by decide, Int64.add_assoc, lN_add]) ?_
            refine w_lstore (ls' := [some (vR 30 0 0), some (vI (nI k)), some (vI (nI q.1)), some (vI (f)), some (vI (nI n)), some (vI (0)), some (vI (nI i)), some (vI (nI i)), some (vI (1)), some (vL (f.toInt64 + lN (3 * i + 1))), none]) dX11_read_100 rfl ?_
            refine w_aload_n dX11_read_102 rfl ?_
            refine w_getR (w := some (37, 0, 0)) ff_X11_29 rfl rfl dX11_read_103 rfl ?_
            refine w_iload_n dX11_read_106 rfl ?_
            refine w_iaload (a := k) rfl (vp_in_nI (n := k) (by omega) (by omega)) (nI_clamp (n := k) (by omega)) dX11_read_107 ?_
            rw [show (I 37 0 0 (k) : Int32) = nI q.1 from s2]
            refine w_bipush (v := (-4)) dX11_read_108 (by decide) ?_
            refine w_icmp_ne (tgt := 117) dX11_read_110 (by decide) (fun _ => ?_) (fun h => absurd h (nI_m4 q.1 (by omega)))
            refine w_aload_n dX11_read_117 rfl ?_
            refine w_getR (w := some (37, 0, 0)) ff_X11_29 rfl rfl dX11_read_118 rfl ?_
            refine w_iload_n dX11_read_121 rfl ?_
            refine w_iaload (a := k) rfl (vp_in_nI (n := k) (by omega) (by omega)) (nI_clamp (n := k) (by omega)) dX11_read_122 ?_
            rw [show (I 37 0 0 (k) : Int32) = nI q.1 from s2]
            refine w_iload_n dX11_read_123 rfl ?_
            refine w_icmp_eq (tgt := 131) dX11_read_124 (by decide) (fun _ => ?_) (fun h => absurd (rfl) h)
            refine w_lload dX11_read_131 rfl ?_
            refine w_lconst (v := 0) dX11_read_133 (by decide) ?_
            refine w_lcmp dX11_read_134 ?_
            refine w_if_lt (tgt := 151) dX11_read_135 (by decide) (fun h3 => ?_) (fun h3 => ?_)
            · skip
              replace h3 : f.toInt + ((3 * i + 1 : Nat) : Int) < 0 := (lg_lt0 f (n := 3 * i + 1) (by omega)).mp h3
              first
              | (exfalso; omega)
              | skip
                refine w_iconst (v := 2) dX11_read_151 (by decide) ?_
                refine w_goto (tgt := 156) dX11_read_152 (by decide) ?_
                refine w_istore (ls' := [some (vR 30 0 0), some (vI (nI k)), some (vI (nI q.1)), some (vI (f)), some (vI (nI n)), some (vI (2)), some (vI (nI i)), some (vI (nI i)), some (vI (1)), some (vL (f.toInt64 + lN (3 * i + 1))), none]) dX11_read_156 rfl ?_
                refine w_iinc (v := 2) (ls' := [some (vR 30 0 0), some (vI (nI k)), some (vI (nI q.1)), some (vI (f)), some (vI (nI n)), some (vI (2)), some (vI (nI i)), some (vI (nI i)), some (vI (2)), some (vL (f.toInt64 + lN (3 * i + 1))), none]) dX11_read_158 rfl (by decide) rfl ?_
                refine w_goto (tgt := 77) dX11_read_161 (by decide) ?_
                refine w_iload dX11_read_77 rfl ?_
                refine w_iconst (v := 3) dX11_read_79 (by decide) ?_
                refine w_icmp_ge (tgt := 164) dX11_read_80 (by decide) (fun h => absurd h (by decide)) (fun _ => ?_)
                refine w_iload dX11_read_83 rfl ?_
                refine w_if_ne (tgt := 164) dX11_read_85 (by decide) (fun _ => ?_) (fun h => absurd h (by decide))
                refine w_iload dX11_read_164 rfl ?_
                refine w_if_ne (tgt := 253) dX11_read_166 (by decide) (fun _ => ?_) (fun h => absurd h (by decide))
                rw [rd_stop (by omega)]
                refine w_iinc (v := nI (i + 1)) (ls' := [some (vR 30 0 0), some (vI (nI k)), some (vI (nI q.1)), some (vI (f)), some (vI (nI n)), some (vI (2)), some (vI (nI i)), some (vI (nI (i + 1))), some (vI (2)), some (vL (f.toInt64 + lN (3 * i + 1))), none]) dX11_read_253 rfl (nI_1 _) rfl ?_
                refine w_goto (tgt := 62) dX11_read_256 (by decide) ?_
                refine w_iload dX11_read_62 rfl ?_
                refine w_iload dX11_read_64 rfl ?_
                refine w_icmp_ge (tgt := 259) dX11_read_66 (by decide) (fun _ => ?_) (fun _ => ?_)
                · exact l_readEndM hg hh (t := 2) hs hf
                · skip
                  refine w_iload dX11_read_69 rfl ?_
                  refine w_if_ne (tgt := 259) dX11_read_71 (by decide) (fun _ => ?_) (fun h => absurd h ((by decide : ¬ (2 : Int32) = 0)))
                  exact l_readEndM hg hh (t := 2) hs hf
            · skip
              replace h3 : ¬ (f.toInt + ((3 * i + 1 : Nat) : Int) < 0) := fun z => h3 ((lg_lt0 f (n := 3 * i + 1) (by omega)).mpr z)
              first
              | (exfalso; omega)
              | skip
                refine w_lload dX11_read_138 rfl ?_
                refine w_aload_n dX11_read_140 rfl ?_
                refine w_getR (w := some (38, 0, 0)) ff_X11_32 rfl rfl dX11_read_141 rfl ?_
                refine w_iload_n dX11_read_144 rfl ?_
                refine w_iaload (a := k) rfl (vp_in_nI (n := k) (by omega) (by omega)) (nI_clamp (n := k) (by omega)) dX11_read_145 ?_
                rw [show (I 38 0 0 (k) : Int32) = nI q.2.1 from s3]
                refine w_i2l dX11_read_146 ?_
                refine w_lcmp dX11_read_147 ?_
                refine w_if_lt (tgt := 155) dX11_read_148 (by decide) (fun h4 => ?_) (fun h4 => ?_)
                · skip
                  replace h4 : f.toInt + ((3 * i + 1 : Nat) : Int) < ((q.2.1 : Nat) : Int) := (lg_ltm f (n := 3 * i + 1) (m := q.2.1) (by omega) (by omega)).mp h4
                  first
                  | (exfalso; omega)
                  | skip
                    refine w_iconst (v := 0) dX11_read_155 (by decide) ?_
                    refine w_istore (ls' := [some (vR 30 0 0), some (vI (nI k)), some (vI (nI q.1)), some (vI (f)), some (vI (nI n)), some (vI (0)), some (vI (nI i)), some (vI (nI i)), some (vI (1)), some (vL (f.toInt64 + lN (3 * i + 1))), none]) dX11_read_156 rfl ?_
                    refine w_iinc (v := 2) (ls' := [some (vR 30 0 0), some (vI (nI k)), some (vI (nI q.1)), some (vI (f)), some (vI (nI n)), some (vI (0)), some (vI (nI i)), some (vI (nI i)), some (vI (2)), some (vL (f.toInt64 + lN (3 * i + 1))), none]) dX11_read_158 rfl (by decide) rfl ?_
                    refine w_goto (tgt := 77) dX11_read_161 (by decide) ?_
                    refine w_iload dX11_read_77 rfl ?_
                    refine w_iconst (v := 3) dX11_read_79 (by decide) ?_
                    refine w_icmp_ge (tgt := 164) dX11_read_80 (by decide) (fun h => absurd h (by decide)) (fun _ => ?_)
                    refine w_iload dX11_read_83 rfl ?_
                    refine w_if_ne (tgt := 164) dX11_read_85 (by decide) (fun h => absurd (rfl) h) (fun _ => ?_)
                    refine w_iload_n dX11_read_88 rfl ?_
                    refine w_i2l dX11_read_89 ?_
                    refine w_iconst (v := 3) dX11_read_90 (by decide) ?_
                    refine w_iload dX11_read_91 rfl ?_
                    refine w_imul dX11_read_93 ?_
                    rw [show ((3) * (nI i) : Int32) = nI (3 * i) from ar_mul (p := 3) (q := i) rfl rfl (by first | rfl | omega)]
                    refine w_i2l dX11_read_94 ?_
                    refine w_ladd dX11_read_95 ?_
                    refine w_iload dX11_read_96 rfl ?_
                    refine w_i2l dX11_read_98 ?_
                    refine w_ladd dX11_read_99 ?_
                    refine w_topL (y := f.toInt64 + lN (3 * i + 2)) (show ((((f : Int32).toInt64) + ((nI (3 * i) : Int32).toInt64)) + ((2 : Int32).toInt64) : Int64) = f.toInt64 + lN (3 * i + 2) from by rw [nI_l (n := 3 * i) (by omega), show ((2 : Int32).toInt64) = lN 2 from by decide, Int64.add_assoc, lN_add]) ?_
                    refine w_lstore (ls' := [some (vR 30 0 0), some (vI (nI k)), some (vI (nI q.1)), some (vI (f)), some (vI (nI n)), some (vI (0)), some (vI (nI i)), some (vI (nI i)), some (vI (2)), some (vL (f.toInt64 + lN (3 * i + 2))), none]) dX11_read_100 rfl ?_
                    refine w_aload_n dX11_read_102 rfl ?_
                    refine w_getR (w := some (37, 0, 0)) ff_X11_29 rfl rfl dX11_read_103 rfl ?_
                    refine w_iload_n dX11_read_106 rfl ?_
                    refine w_iaload (a := k) rfl (vp_in_nI (n := k) (by omega) (by omega)) (nI_clamp (n := k) (by omega)) dX11_read_107 ?_
                    rw [show (I 37 0 0 (k) : Int32) = nI q.1 from s2]
                    refine w_bipush (v := (-4)) dX11_read_108 (by decide) ?_
                    refine w_icmp_ne (tgt := 117) dX11_read_110 (by decide) (fun _ => ?_) (fun h => absurd h (nI_m4 q.1 (by omega)))
                    refine w_aload_n dX11_read_117 rfl ?_
                    refine w_getR (w := some (37, 0, 0)) ff_X11_29 rfl rfl dX11_read_118 rfl ?_
                    refine w_iload_n dX11_read_121 rfl ?_
                    refine w_iaload (a := k) rfl (vp_in_nI (n := k) (by omega) (by omega)) (nI_clamp (n := k) (by omega)) dX11_read_122 ?_
                    rw [show (I 37 0 0 (k) : Int32) = nI q.1 from s2]
                    refine w_iload_n dX11_read_123 rfl ?_
                    refine w_icmp_eq (tgt := 131) dX11_read_124 (by decide) (fun _ => ?_) (fun h => absurd (rfl) h)
                    refine w_lload dX11_read_131 rfl ?_
                    refine w_lconst (v := 0) dX11_read_133 (by decide) ?_
                    refine w_lcmp dX11_read_134 ?_
                    refine w_if_lt (tgt := 151) dX11_read_135 (by decide) (fun h5 => ?_) (fun h5 => ?_)
                    · skip
                      replace h5 : f.toInt + ((3 * i + 2 : Nat) : Int) < 0 := (lg_lt0 f (n := 3 * i + 2) (by omega)).mp h5
                      first
                      | (exfalso; omega)
                      | skip
                        refine w_iconst (v := 2) dX11_read_151 (by decide) ?_
                        refine w_goto (tgt := 156) dX11_read_152 (by decide) ?_
                        refine w_istore (ls' := [some (vR 30 0 0), some (vI (nI k)), some (vI (nI q.1)), some (vI (f)), some (vI (nI n)), some (vI (2)), some (vI (nI i)), some (vI (nI i)), some (vI (2)), some (vL (f.toInt64 + lN (3 * i + 2))), none]) dX11_read_156 rfl ?_
                        refine w_iinc (v := 3) (ls' := [some (vR 30 0 0), some (vI (nI k)), some (vI (nI q.1)), some (vI (f)), some (vI (nI n)), some (vI (2)), some (vI (nI i)), some (vI (nI i)), some (vI (3)), some (vL (f.toInt64 + lN (3 * i + 2))), none]) dX11_read_158 rfl (by decide) rfl ?_
                        refine w_goto (tgt := 77) dX11_read_161 (by decide) ?_
                        refine w_iload dX11_read_77 rfl ?_
                        refine w_iconst (v := 3) dX11_read_79 (by decide) ?_
                        refine w_icmp_ge (tgt := 164) dX11_read_80 (by decide) (fun _ => ?_) (fun h => absurd (by decide) h)
                        refine w_iload dX11_read_164 rfl ?_
                        refine w_if_ne (tgt := 253) dX11_read_166 (by decide) (fun _ => ?_) (fun h => absurd h (by decide))
                        rw [rd_stop (by omega)]
                        refine w_iinc (v := nI (i + 1)) (ls' := [some (vR 30 0 0), some (vI (nI k)), some (vI (nI q.1)), some (vI (f)), some (vI (nI n)), some (vI (2)), some (vI (nI i)), some (vI (nI (i + 1))), some (vI (3)), some (vL (f.toInt64 + lN (3 * i + 2))), none]) dX11_read_253 rfl (nI_1 _) rfl ?_
                        refine w_goto (tgt := 62) dX11_read_256 (by decide) ?_
                        refine w_iload dX11_read_62 rfl ?_
                        refine w_iload dX11_read_64 rfl ?_
                        refine w_icmp_ge (tgt := 259) dX11_read_66 (by decide) (fun _ => ?_) (fun _ => ?_)
                        · exact l_readEndM hg hh (t := 2) hs hf
                        · skip
                          refine w_iload dX11_read_69 rfl ?_
                          refine w_if_ne (tgt := 259) dX11_read_71 (by decide) (fun _ => ?_) (fun h => absurd h ((by decide : ¬ (2 : Int32) = 0)))
                          exact l_readEndM hg hh (t := 2) hs hf
                    · skip
                      replace h5 : ¬ (f.toInt + ((3 * i + 2 : Nat) : Int) < 0) := fun z => h5 ((lg_lt0 f (n := 3 * i + 2) (by omega)).mpr z)
                      first
                      | (exfalso; omega)
                      | skip
                        refine w_lload dX11_read_138 rfl ?_
                        refine w_aload_n dX11_read_140 rfl ?_
                        refine w_getR (w := some (38, 0, 0)) ff_X11_32 rfl rfl dX11_read_141 rfl ?_
                        refine w_iload_n dX11_read_144 rfl ?_
                        refine w_iaload (a := k) rfl (vp_in_nI (n := k) (by omega) (by omega)) (nI_clamp (n := k) (by omega)) dX11_read_145 ?_
                        rw [show (I 38 0 0 (k) : Int32) = nI q.2.1 from s3]
                        refine w_i2l dX11_read_146 ?_
                        refine w_lcmp dX11_read_147 ?_
                        refine w_if_lt (tgt := 155) dX11_read_148 (by decide) (fun h6 => ?_) (fun h6 => ?_)
                        · skip
                          replace h6 : f.toInt + ((3 * i + 2 : Nat) : Int) < ((q.2.1 : Nat) : Int) := (lg_ltm f (n := 3 * i + 2) (m := q.2.1) (by omega) (by omega)).mp h6
                          first
                          | (exfalso; omega)
                          | skip
                            refine w_iconst (v := 0) dX11_read_155 (by decide) ?_
                            refine w_istore (ls' := [some (vR 30 0 0), some (vI (nI k)), some (vI (nI q.1)), some (vI (f)), some (vI (nI n)), some (vI (0)), some (vI (nI i)), some (vI (nI i)), some (vI (2)), some (vL (f.toInt64 + lN (3 * i + 2))), none]) dX11_read_156 rfl ?_
                            refine w_iinc (v := 3) (ls' := [some (vR 30 0 0), some (vI (nI k)), some (vI (nI q.1)), some (vI (f)), some (vI (nI n)), some (vI (0)), some (vI (nI i)), some (vI (nI i)), some (vI (3)), some (vL (f.toInt64 + lN (3 * i + 2))), none]) dX11_read_158 rfl (by decide) rfl ?_
                            refine w_goto (tgt := 77) dX11_read_161 (by decide) ?_
                            refine w_iload dX11_read_77 rfl ?_
                            refine w_iconst (v := 3) dX11_read_79 (by decide) ?_
                            refine w_icmp_ge (tgt := 164) dX11_read_80 (by decide) (fun _ => ?_) (fun h => absurd (by decide) h)
                            refine w_iload dX11_read_164 rfl ?_
                            refine w_if_ne (tgt := 253) dX11_read_166 (by decide) (fun h => absurd (by decide) h) (fun _ => ?_)
                            have hns : ¬ (f.toInt + ((3 * i : Nat) : Int) < 0 ∨ (q.2.1 : Int) ≤ f.toInt + ((3 * i + 2 : Nat) : Int)) := by omega
                            obtain ⟨p, hp⟩ : ∃ p : Nat, f.toInt + ((3 * i : Nat) : Int) = (p : Int) := ⟨(f.toInt + ((3 * i : Nat) : Int)).toNat, by omega⟩
                            refine w_bipush (v := 40) dX11_read_169 (by decide) ?_
                            refine w_iload_n dX11_read_171 rfl ?_
                            refine w_imul dX11_read_172 ?_
                            rw [show ((40) * (nI k) : Int32) = nI (40 * k) from ar_mul (p := 40) (q := k) rfl rfl (by first | rfl | omega)]
                            refine w_iload_n dX11_read_173 rfl ?_
                            refine w_iadd dX11_read_174 ?_
                            refine w_iconst (v := 3) dX11_read_175 (by decide) ?_
                            refine w_iload dX11_read_176 rfl ?_
                            refine w_imul dX11_read_178 ?_
                            rw [show ((3) * (nI i) : Int32) = nI (3 * i) from ar_mul (p := 3) (q := i) rfl rfl (by first | rfl | omega)]
                            refine w_iadd dX11_read_179 ?_
                            rw [show (((nI (40 * k)) + (f)) + (nI (3 * i)) : Int32) = nI (40 * k + p) from ixp (by omega) hp (by omega)]
                            refine w_istore (ls' := [some (vR 30 0 0), some (vI (nI k)), some (vI (nI q.1)), some (vI (f)), some (vI (nI n)), some (vI (0)), some (vI (nI i)), some (vI (nI i)), some (vI (nI (40 * k + p))), some (vL (f.toInt64 + lN (3 * i + 2))), none]) dX11_read_180 rfl ?_
                            refine w_aload_n dX11_read_182 rfl ?_
                            refine w_aload_n dX11_read_183 rfl ?_
                            refine w_getR (w := some (39, 0, 0)) ff_X11_35 rfl rfl dX11_read_184 rfl ?_
                            refine w_iload dX11_read_187 rfl ?_
                            refine w_iaload (a := 40 * k + p) rfl (vp_in_nI (n := 40 * k + p) (by omega) (by omega)) (nI_clamp (n := 40 * k + p) (by omega)) dX11_read_189 ?_
                            rw [show (I 39 0 0 (40 * k + p) : Int32) = q.2.2 p from s4 p (by omega)]
                            refine w_aload_n dX11_read_190 rfl ?_
                            refine w_getR (w := some (39, 0, 0)) ff_X11_35 rfl rfl dX11_read_191 rfl ?_
                            refine w_iload dX11_read_194 rfl ?_
                            refine w_iconst (v := 1) dX11_read_196 (by decide) ?_
                            refine w_iadd dX11_read_197 ?_
                            rw [show ((nI (40 * k + p)) + (1) : Int32) = nI ((40 * k + p) + 1) from ar_add (p := 40 * k + p) (q := 1) rfl rfl (by omega)]
                            refine w_iaload (a := (40 * k + p) + 1) rfl (vp_in_nI (n := (40 * k + p) + 1) (by omega) (by omega)) (nI_clamp (n := (40 * k + p) + 1) (by omega)) dX11_read_198 ?_
                            rw [show (I 39 0 0 ((40 * k + p) + 1) : Int32) = q.2.2 (p + 1) from s4 (p + 1) (by omega)]
                            refine w_aload_n dX11_read_199 rfl ?_
                            refine w_getR (w := some (39, 0, 0)) ff_X11_35 rfl rfl dX11_read_200 rfl ?_
                            refine w_iload dX11_read_203 rfl ?_
                            refine w_iconst (v := 2) dX11_read_205 (by decide) ?_
                            refine w_iadd dX11_read_206 ?_
                            rw [show ((nI (40 * k + p)) + (2) : Int32) = nI ((40 * k + p) + 2) from ar_add (p := 40 * k + p) (q := 2) rfl rfl (by omega)]
                            refine w_iaload (a := (40 * k + p) + 2) rfl (vp_in_nI (n := (40 * k + p) + 2) (by omega) (by omega)) (nI_clamp (n := (40 * k + p) + 2) (by omega)) dX11_read_207 ?_
                            rw [show (I 39 0 0 ((40 * k + p) + 2) : Int32) = q.2.2 (p + 2) from s4 (p + 2) (by omega)]
                            obtain ⟨gv, hgv⟩ : ∃ gv, gv = giveA b (q.2.2 p) (q.2.2 (p + 1)) (q.2.2 (p + 2)) := ⟨_, rfl⟩
                            refine w_callV (as := [vI (q.2.2 p), vI (q.2.2 (p + 1)), vI (q.2.2 (p + 2))]) (st := []) (Tri.mono (d_give2 hs hb.1 (q.2.2 p) (q.2.2 (p + 1)) (q.2.2 (p + 2))) (Nat.le_of_ble_eq_true rfl)) rfl rfl tg_X11_give lk_X11_307 in_X11_give se_X11_give rfl dX11_read_208 rfl (Nat.le_of_ble_eq_true rfl) (Nat.le_refl _) (Nat.le_refl _) ?_
                            rintro v M9 ⟨rfl, I1, rfl, g1, g2, g3⟩ -
                            rw [← hgv] at g1 ⊢
                            rcases gv with _ | _ | b'
                            · skip
                              rw [rd_bad (r := r) hns hp (fun b' hx => by rw [← hgv] at hx; cases hx)]
                              rw [show giI (none) = (-1) from rfl]
                              refine w_if_ge (tgt := 250) dX11_read_211 (by decide) (fun h => absurd h ((by decide : ¬ (0 : Int32) ≤ (-1)))) (fun _ => ?_)
                              refine w_iconst (v := 0) dX11_read_214 (by decide) ?_
                              refine w_istore (ls' := [some (vR 30 0 0), some (vI (nI k)), some (vI (nI q.1)), some (vI (f)), some (vI (nI n)), some (vI (0)), some (vI (nI i)), some (vI (nI i)), some (vI (nI (40 * k + p))), some (vI (0)), none]) dX11_read_215 rfl ?_
                              exact l_readBack hg hh 76 0 I1 rfl (fun y hy => (g3 y).trans (h40 y hy)) (fun y hy => absurd hy (Nat.not_lt_zero _)) (hf.tr g2) ⟨g1.1.trans (congrArg nI hb.2.1), g1.2.1.trans (congrArg nI hb.2.2.1)⟩
                            · skip
                              rw [rd_bad (r := r) hns hp (fun b' hx => by rw [← hgv] at hx; cases hx)]
                              rw [show giI (some none) = (-2) from rfl]
                              refine w_if_ge (tgt := 250) dX11_read_211 (by decide) (fun h => absurd h ((by decide : ¬ (0 : Int32) ≤ (-2)))) (fun _ => ?_)
                              refine w_iconst (v := 0) dX11_read_214 (by decide) ?_
                              refine w_istore (ls' := [some (vR 30 0 0), some (vI (nI k)), some (vI (nI q.1)), some (vI (f)), some (vI (nI n)), some (vI (0)), some (vI (nI i)), some (vI (nI i)), some (vI (nI (40 * k + p))), some (vI (0)), none]) dX11_read_215 rfl ?_
                              exact l_readBack hg hh 76 0 I1 rfl (fun y hy => (g3 y).trans (h40 y hy)) (fun y hy => absurd hy (Nat.not_lt_zero _)) (hf.tr g2) ⟨g1.1.trans (congrArg nI hb.2.1), g1.2.1.trans (congrArg nI hb.2.2.1)⟩
                            · skip
                              have hb2 : LikeA (gA g) b' := hb.give hgv.symm
                              have hcr2 := hb2.1.2.2.2.2.1
                              rw [rd_go (r := r) hns hp hgv.symm]
                              rw [show giI (some (some b')) = nI (cR b') from rfl]
                              refine w_if_ge (tgt := 250) dX11_read_211 (by decide) (fun _ => ?_) (fun h => absurd (nI_ge0 (by omega)) h)
                              refine w_iinc (v := nI (i + 1)) (ls' := [some (vR 30 0 0), some (vI (nI k)), some (vI (nI q.1)), some (vI (f)), some (vI (nI n)), some (vI (0)), some (vI (nI (i + 1))), some (vI (nI i)), some (vI (nI (40 * k + p))), some (vL (f.toInt64 + lN (3 * i + 2))), none]) dX11_read_250 rfl (nI_1 _) rfl ?_
                              refine w_iinc (v := nI (i + 1)) (ls' := [some (vR 30 0 0), some (vI (nI k)), some (vI (nI q.1)), some (vI (f)), some (vI (nI n)), some (vI (0)), some (vI (nI (i + 1))), some (vI (nI (i + 1))), some (vI (nI (40 * k + p))), some (vL (f.toInt64 + lN (3 * i + 2))), none]) dX11_read_253 rfl (nI_1 _) rfl ?_
                              refine w_goto (tgt := 62) dX11_read_256 (by decide) ?_
                              exact ih (i + 1) b' I1 (some (vI (nI (40 * k + p)))) (some (vL (f.toInt64 + lN (3 * i + 2)))) none (by omega) hb2 g1 (hf.tr g2) (fun y hy => (g3 y).trans (h40 y hy))
                        · skip
                          replace h6 : ¬ (f.toInt + ((3 * i + 2 : Nat) : Int) < ((q.2.1 : Nat) : Int)) := fun z => h6 ((lg_ltm f (n := 3 * i + 2) (m := q.2.1) (by omega) (by omega)).mpr z)
                          first
                          | (exfalso; omega)
                          | skip
                            refine w_iconst (v := 2) dX11_read_151 (by decide) ?_
                            refine w_goto (tgt := 156) dX11_read_152 (by decide) ?_
                            refine w_istore (ls' := [some (vR 30 0 0), some (vI (nI k)), some (vI (nI q.1)), some (vI (f)), some (vI (nI n)), some (vI (2)), some (vI (nI i)), some (vI (nI i)), some (vI (2)), some (vL (f.toInt64 + lN (3 * i + 2))), none]) dX11_read_156 rfl ?_
                            refine w_iinc (v := 3) (ls' := [some (vR 30 0 0), some (vI (nI k)), some (vI (nI q.1)), some (vI (f)), some (vI (nI n)), some (vI (2)), some (vI (nI i)), some (vI (nI i)), some (vI (3)), some (vL (f.toInt64 + lN (3 * i + 2))), none]) dX11_read_158 rfl (by decide) rfl ?_
                            refine w_goto (tgt := 77) dX11_read_161 (by decide) ?_
                            refine w_iload dX11_read_77 rfl ?_
                            refine w_iconst (v := 3) dX11_read_79 (by decide) ?_
                            refine w_icmp_ge (tgt := 164) dX11_read_80 (by decide) (fun _ => ?_) (fun h => absurd (by decide) h)
                            refine w_iload dX11_read_164 rfl ?_
                            refine w_if_ne (tgt := 253) dX11_read_166 (by decide) (fun _ => ?_) (fun h => absurd h (by decide))
                            rw [rd_stop (by omega)]
                            refine w_iinc (v := nI (i + 1)) (ls' := [some (vR 30 0 0), some (vI (nI k)), some (vI (nI q.1)), some (vI (f)), some (vI (nI n)), some (vI (2)), some (vI (nI i)), some (vI (nI (i + 1))), some (vI (3)), some (vL (f.toInt64 + lN (3 * i + 2))), none]) dX11_read_253 rfl (nI_1 _) rfl ?_
                            refine w_goto (tgt := 62) dX11_read_256 (by decide) ?_
                            refine w_iload dX11_read_62 rfl ?_
                            refine w_iload dX11_read_64 rfl ?_
                            refine w_icmp_ge (tgt := 259) dX11_read_66 (by decide) (fun _ => ?_) (fun _ => ?_)
                            · exact l_readEndM hg hh (t := 2) hs hf
                            · skip
                              refine w_iload dX11_read_69 rfl ?_
                              refine w_if_ne (tgt := 259) dX11_read_71 (by decide) (fun _ => ?_) (fun h => absurd h ((by decide : ¬ (2 : Int32) = 0)))
                              exact l_readEndM hg hh (t := 2) hs hf
                · skip
                  replace h4 : ¬ (f.toInt + ((3 * i + 1 : Nat) : Int) < ((q.2.1 : Nat) : Int)) := fun z => h4 ((lg_ltm f (n := 3 * i + 1) (m := q.2.1) (by omega) (by omega)).mpr z)
                  first
                  | (exfalso; omega)
                  | skip
                    refine w_iconst (v := 2) dX11_read_151 (by decide) ?_
                    refine w_goto (tgt := 156) dX11_read_152 (by decide) ?_
                    refine w_istore (ls' := [some (vR 30 0 0), some (vI (nI k)), some (vI (nI q.1)), some (vI (f)), some (vI (nI n)), some (vI (2)), some (vI (nI i)), some (vI (nI i)), some (vI (1)), some (vL (f.toInt64 + lN (3 * i + 1))), none]) dX11_read_156 rfl ?_
                    refine w_iinc (v := 2) (ls' := [some (vR 30 0 0), some (vI (nI k)), some (vI (nI q.1)), some (vI (f)), some (vI (nI n)), some (vI (2)), some (vI (nI i)), some (vI (nI i)), some (vI (2)), some (vL (f.toInt64 + lN (3 * i + 1))), none]) dX11_read_158 rfl (by decide) rfl ?_
                    refine w_goto (tgt := 77) dX11_read_161 (by decide) ?_
                    refine w_iload dX11_read_77 rfl ?_
                    refine w_iconst (v := 3) dX11_read_79 (by decide) ?_
                    refine w_icmp_ge (tgt := 164) dX11_read_80 (by decide) (fun h => absurd h (by decide)) (fun _ => ?_)
                    refine w_iload dX11_read_83 rfl ?_
                    refine w_if_ne (tgt := 164) dX11_read_85 (by decide) (fun _ => ?_) (fun h => absurd h (by decide))
                    refine w_iload dX11_read_164 rfl ?_
                    refine w_if_ne (tgt := 253) dX11_read_166 (by decide) (fun _ => ?_) (fun h => absurd h (by decide))
                    rw [rd_stop (by omega)]
                    refine w_iinc (v := nI (i + 1)) (ls' := [some (vR 30 0 0), some (vI (nI k)), some (vI (nI q.1)), some (vI (f)), some (vI (nI n)), some (vI (2)), some (vI (nI i)), some (vI (nI (i + 1))), some (vI (2)), some (vL (f.toInt64 + lN (3 * i + 1))), none]) dX11_read_253 rfl (nI_1 _) rfl ?_
                    refine w_goto (tgt := 62) dX11_read_256 (by decide) ?_
                    refine w_iload dX11_read_62 rfl ?_
                    refine w_iload dX11_read_64 rfl ?_
                    refine w_icmp_ge (tgt := 259) dX11_read_66 (by decide) (fun _ => ?_) (fun _ => ?_)
                    · exact l_readEndM hg hh (t := 2) hs hf
                    · skip
                      refine w_iload dX11_read_69 rfl ?_
                      refine w_if_ne (tgt := 259) dX11_read_71 (by decide) (fun _ => ?_) (fun h => absurd h ((by decide : ¬ (2 : Int32) = 0)))
                      exact l_readEndM hg hh (t := 2) hs hf
        · skip
          replace h2 : ¬ (f.toInt + ((3 * i + 0 : Nat) : Int) < ((q.2.1 : Nat) : Int)) := fun z => h2 ((lg_ltm f (n := 3 * i + 0) (m := q.2.1) (by omega) (by omega)).mpr z)
          first
          | (exfalso; omega)
          | skip
            refine w_iconst (v := 2) dX11_read_151 (by decide) ?_
            refine w_goto (tgt := 156) dX11_read_152 (by decide) ?_
            refine w_istore (ls' := [some (vR 30 0 0), some (vI (nI k)), some (vI (nI q.1)), some (vI (f)), some (vI (nI n)), some (vI (2)), some (vI (nI i)), some (vI (nI i)), some (vI (0)), some (vL (f.toInt64 + lN (3 * i + 0))), none]) dX11_read_156 rfl ?_
            refine w_iinc (v := 1) (ls' := [some (vR 30 0 0), some (vI (nI k)), some (vI (nI q.1)), some (vI (f)), some (vI (nI n)), some (vI (2)), some (vI (nI i)), some (vI (nI i)), some (vI (1)), some (vL (f.toInt64 + lN (3 * i + 0))), none]) dX11_read_158 rfl (by decide) rfl ?_
            refine w_goto (tgt := 77) dX11_read_161 (by decide) ?_
            refine w_iload dX11_read_77 rfl ?_
            refine w_iconst (v := 3) dX11_read_79 (by decide) ?_
            refine w_icmp_ge (tgt := 164) dX11_read_80 (by decide) (fun h => absurd h (by decide)) (fun _ => ?_)
            refine w_iload dX11_read_83 rfl ?_
            refine w_if_ne (tgt := 164) dX11_read_85 (by decide) (fun _ => ?_) (fun h => absurd h (by decide))
            refine w_iload dX11_read_164 rfl ?_
            refine w_if_ne (tgt := 253) dX11_read_166 (by decide) (fun _ => ?_) (fun h => absurd h (by decide))
            rw [rd_stop (by omega)]
            refine w_iinc (v := nI (i + 1)) (ls' := [some (vR 30 0 0), some (vI (nI k)), some (vI (nI q.1)), some (vI (f)), some (vI (nI n)), some (vI (2)), some (vI (nI i)), some (vI (nI (i + 1))), some (vI (1)), some (vL (f.toInt64 + lN (3 * i + 0))), none]) dX11_read_253 rfl (nI_1 _) rfl ?_
            refine w_goto (tgt := 62) dX11_read_256 (by decide) ?_
            refine w_iload dX11_read_62 rfl ?_
            refine w_iload dX11_read_64 rfl ?_
            refine w_icmp_ge (tgt := 259) dX11_read_66 (by decide) (fun _ => ?_) (fun _ => ?_)
            · exact l_readEndM hg hh (t := 2) hs hf
            · skip
              refine w_iload dX11_read_69 rfl ?_
              refine w_if_ne (tgt := 259) dX11_read_71 (by decide) (fun _ => ?_) (fun h => absurd h ((by decide : ¬ (2 : Int32) = 0)))
              exact l_readEndM hg hh (t := 2) hs hf

theorem l_readKeep {L : xF4 Int64} {k l n : Nat} {f : Int32} {I0 : xF4 Int32} {Q : Option xV → xM → Prop} (hk : ∀ I, (∀ y, y < 76 → I 40 0 0 y = I0 31 0 0 y) → FrT 40 I0 I → Wp 19 109 m_X11_read 53 [some (vR 30 0 0), some (vI (nI k)), some (vI (nI l)), some (vI (f)), some (vI (nI n)), some (vI (nI 76)), none, none, none, none, none] [] (rM I L) Q) : ∀ (m x : Nat) (I : xF4 Int32), x + m = 76 → (∀ y, y < x → I 40 0 0 y = I0 31 0 0 y) → FrT 40 I0 I → Wp 19 109 m_X11_read 26 [some (vR 30 0 0), some (vI (nI k)), some (vI (nI l)), some (vI (f)), some (vI (nI n)), some (vI (nI x)), none, none, none, none, none] [] (rM I L) Q := by
  intro m
  induction m with
  | zero =>
    intro x I hx hc hf
    have e : x = 76 := by omega
    subst e
    refine w_iload dX11_read_26 rfl ?_
    refine w_bipush (v := 76) dX11_read_28 (by decide) ?_
    refine w_icmp_ge (tgt := 53) dX11_read_30 (by decide) (fun _ => ?_) (fun h => absurd (by decide) h)
    exact hk I hc hf
  | succ m ih =>
    intro x I hx hc hf
    have hlt : x < 76 := by omega
    refine w_iload dX11_read_26 rfl ?_
    refine w_bipush (v := 76) dX11_read_28 (by decide) ?_
    refine w_icmp_ge (tgt := 53) dX11_read_30 (by decide) (fun h => absurd h (nI_ge (b := 76) hlt (by omega))) (fun _ => ?_)
    refine w_aload_n dX11_read_33 rfl ?_
    refine w_getR (w := some (40, 0, 0)) ff_X11_38 rfl rfl dX11_read_34 rfl ?_
    refine w_iload dX11_read_37 rfl ?_
    refine w_aload_n dX11_read_39 rfl ?_
    refine w_getR (w := some (31, 0, 0)) ff_X11_7 rfl rfl dX11_read_40 rfl ?_
    refine w_iload dX11_read_43 rfl ?_
    refine w_iaload (a := x) rfl (vp_in_nI (n := x) (by omega) (by omega)) (nI_clamp (n := x) (by omega)) dX11_read_45 ?_
    refine w_top (y := I0 31 0 0 x) (show (I 31 0 0 (x) : Int32) = I0 31 0 0 x from hf 31 0 0 x (by decide)) ?_
    refine w_iastore (a := x) rfl (vp_in_nI (n := x) (by omega) (by omega)) (nI_clamp (n := x) (by omega)) dX11_read_46 ?_
    refine w_iinc (v := nI (x + 1)) (ls' := [some (vR 30 0 0), some (vI (nI k)), some (vI (nI l)), some (vI (f)), some (vI (nI n)), some (vI (nI (x + 1))), none, none, none, none, none]) dX11_read_47 rfl (nI_1 _) rfl ?_
    refine w_goto (tgt := 26) dX11_read_50 (by decide) ?_
    refine ih (x + 1) _ (by omega) (fun y hy => ?_) (hf.tr FrT.up)
    by_cases e : y = x
    · rw [e, xup_self]
    · rw [xup_slot e]; exact hc y (by omega)

theorem p_read {I : xF4 Int32} {L : xF4 Int64} {g : gG} (hg : WG g) (hh : CH I g) {k : Nat} (hk : k < 4) {q : Nat × (Nat × (Nat → Int32))} (hq : gSh g k = some q) {n : Nat} (hn : n ≤ 13) {f : Int32} : Tri 19 109 m_X10_read [vR 0 0 0, vI (nI k), vI (nI q.1), vI (f), vI (nI n)] (rM I L) (pCl (vI (rdX (rdF f q.2.1 q.2.2 0 n (gA g)))) (rdG g (rdF f q.2.1 q.2.2 0 n (gA g))) I) := by
  refine ⟨k_X10_read, Nat.le_of_ble_eq_true rfl, ?_⟩
  show Wp _ _ _ 0 [some (vR 0 0 0), some (vI (nI k)), some (vI (nI q.1)), some (vI (f)), some (vI (nI n)), none, none, none, none, none, none, none] [] (rM I L) _
  obtain ⟨hw, hd9, hgi, ht160, htb, hgs⟩ := id hg
  have hsh := hh.2.2.2.2.2.1 k hk
  rw [hq] at hsh
  obtain ⟨hq3, hq40⟩ := hgs k hk q hq
  obtain ⟨s1, s2, s3, s4⟩ := hsh
  refine w_aload_n dX10_read_0 rfl ?_
  refine w_iload_n dX10_read_1 rfl ?_
  refine w_callV (as := [vI (nI k)]) (st := []) (Tri.mono (c_sheetAt (i := k) hk) (Nat.le_of_ble_eq_true rfl)) rfl rfl tg_X10_sheetAt lk_X10_302 in_X10_sheetAt se_X10_sheetAt rfl dX10_read_2 rfl (Nat.le_of_ble_eq_true rfl) (Nat.le_refl _) (Nat.le_refl _) ?_
  rintro _ _ ⟨rfl, rfl⟩ -
  refine w_astore (ls' := [some (vR 0 0 0), some (vI (nI k)), some (vI (nI q.1)), some (vI (f)), some (vI (nI n)), some (vR 20 k 0), none, none, none, none, none, none]) dX10_read_5 rfl ?_
  refine w_aload dX10_read_7 rfl ?_
  refine w_ifnull (tgt := 32) dX10_read_9 (by decide) (fun h => by cases h) (fun _ _ => ?_)
  refine w_iload_n dX10_read_12 rfl ?_
  refine w_iconst (v := 0) dX10_read_13 (by decide) ?_
  refine w_iconst (v := 2) dX10_read_14 (by decide) ?_
  refine w_callS (as := [vI (nI q.1), vI (0), vI (2)]) (st := []) (Tri.mono (c_X10_within (nI q.1) (0) (2)) (Nat.le_of_ble_eq_true rfl)) tg_X10_within lk_X10_158 sa_X10_within rfl dX10_read_15 rfl (Nat.le_of_ble_eq_true rfl) (Nat.le_refl _) (Nat.le_refl _) ?_
  rintro _ _ ⟨rfl, rfl⟩ -
  refine w_top (y := bI (0 ≤ ((q.1 : Nat) : Int) ∧ ((q.1 : Nat) : Int) ≤ 2)) (show (bI ((0 : Int32) ≤ (nI q.1) ∧ (nI q.1) ≤ (2 : Int32)) : Int32) = bI (0 ≤ ((q.1 : Nat) : Int) ∧ ((q.1 : Nat) : Int) ≤ 2) from wiZ (X := ((q.1 : Nat) : Int)) (A := 0) (B := 2) (z_nI (by omega)) (by decide) (by decide)) ?_
  refine w_ifeq_b (tgt := 32) dX10_read_18 (by decide) (fun h1 => ?_) (fun h1 => ?_)
  · skip
    first
    | (exfalso; omega)
    | skip
      refine w_iconst (v := (-1)) dX10_read_32 (by decide) ?_
      exfalso
      omega
  · skip
    first
    | (exfalso; omega)
    | skip
      refine w_iload dX10_read_21 rfl ?_
      refine w_iconst (v := 0) dX10_read_23 (by decide) ?_
      refine w_bipush (v := 13) dX10_read_24 (by decide) ?_
      refine w_callS (as := [vI (nI n), vI (0), vI (13)]) (st := []) (Tri.mono (c_X10_within (nI n) (0) (13)) (Nat.le_of_ble_eq_true rfl)) tg_X10_within lk_X10_158 sa_X10_within rfl dX10_read_26 rfl (Nat.le_of_ble_eq_true rfl) (Nat.le_refl _) (Nat.le_refl _) ?_
      rintro _ _ ⟨rfl, rfl⟩ -
      refine w_top (y := bI (0 ≤ ((n : Nat) : Int) ∧ ((n : Nat) : Int) ≤ 13)) (show (bI ((0 : Int32) ≤ (nI n) ∧ (nI n) ≤ (13 : Int32)) : Int32) = bI (0 ≤ ((n : Nat) : Int) ∧ ((n : Nat) : Int) ≤ 13) from wiZ (X := ((n : Nat) : Int)) (A := 0) (B := 13) (z_nI (by omega)) (by decide) (by decide)) ?_
      refine w_ifne_b (tgt := 34) dX10_read_29 (by decide) (fun h2 => ?_) (fun h2 => ?_)
      · skip
        first
        | (exfalso; omega)
        | skip
          refine w_iload dX10_read_34 rfl ?_
          refine w_if_ne (tgt := 43) dX10_read_36 (by decide) (fun h3 => ?_) (fun h3 => ?_)
          · skip
            replace h3 : ¬ (((n : Nat) : Int) = 0) := fun q => h3 ((zeq (z_nI (by omega)) (by decide)).mpr q)
            first
            | (exfalso; omega)
            | skip
              refine w_aload dX10_read_43 rfl ?_
              refine w_iload_n dX10_read_45 rfl ?_
              refine w_callV (as := [vI (nI q.1)]) (st := []) (Tri.mono (c_taken hg hh hk hq (l := q.1)) (Nat.le_of_ble_eq_true rfl)) rfl rfl tg_X6_faultTakenAs lk_X10_313 in_X6_faultTakenAs se_X6_faultTakenAs rfl dX10_read_46 rfl (Nat.le_of_ble_eq_true rfl) (Nat.le_refl _) (Nat.le_refl _) ?_
              rintro _ _ ⟨rfl, rfl⟩ -
              refine w_istore (ls' := [some (vR 0 0 0), some (vI (nI k)), some (vI (nI q.1)), some (vI (f)), some (vI (nI n)), some (vR 20 k 0), some (vI (0)), none, none, none, none, none]) dX10_read_49 rfl ?_
              refine w_iconst (v := 0) dX10_read_51 (by decide) ?_
              refine w_istore (ls' := [some (vR 0 0 0), some (vI (nI k)), some (vI (nI q.1)), some (vI (f)), some (vI (nI n)), some (vR 20 k 0), some (vI (0)), some (vI (0)), none, none, none, none]) dX10_read_52 rfl ?_
              refine w_aload_n dX10_read_54 rfl ?_
              refine w_getR (w := some (1, 1, 0)) ff_X10_16 rfl rfl dX10_read_55 rfl ?_
              refine w_aload_n dX10_read_58 rfl ?_
              refine w_getR (w := some (1, 0, 0)) ff_X10_10 rfl rfl dX10_read_59 rfl ?_
              refine w_callV (as := [vR 1 0 0]) (st := []) (Tri.mono (c_copy (k := 1) (k2 := 0) (by decide) hw hh.1) (Nat.le_of_ble_eq_true rfl)) rfl rfl tg_X1_copy lk_X10_82 in_X1_copy se_X1_copy rfl dX10_read_62 rfl (Nat.le_of_ble_eq_true rfl) (Nat.le_refl _) (Nat.le_refl _) ?_
              rintro v M9 ⟨rfl, I1, rfl, g1, g2⟩ -
              refine w_iconst (v := 0) dX10_read_65 (by decide) ?_
              refine w_istore (ls' := [some (vR 0 0 0), some (vI (nI k)), some (vI (nI q.1)), some (vI (f)), some (vI (nI n)), some (vR 20 k 0), some (vI (0)), some (vI (0)), some (vI (0)), none, none, none]) dX10_read_66 rfl ?_
              exact l_readC hg hh hk hq (l := q.1) hn n 0 (gA g) I1 none none none (Nat.zero_add _) ⟨hw, rfl, rfl, rfl⟩ g1 g2.q
          · skip
            replace h3 : ((n : Nat) : Int) = 0 := (zeq (z_nI (by omega)) (by decide)).mp h3
            first
            | (exfalso; omega)
            | skip
              refine w_iconst (v := 0) dX10_read_39 (by decide) ?_
              refine w_goto (tgt := 49) dX10_read_40 (by decide) ?_
              refine w_istore (ls' := [some (vR 0 0 0), some (vI (nI k)), some (vI (nI q.1)), some (vI (f)), some (vI (nI n)), some (vR 20 k 0), some (vI (0)), none, none, none, none, none]) dX10_read_49 rfl ?_
              refine w_iconst (v := 0) dX10_read_51 (by decide) ?_
              refine w_istore (ls' := [some (vR 0 0 0), some (vI (nI k)), some (vI (nI q.1)), some (vI (f)), some (vI (nI n)), some (vR 20 k 0), some (vI (0)), some (vI (0)), none, none, none, none]) dX10_read_52 rfl ?_
              refine w_aload_n dX10_read_54 rfl ?_
              refine w_getR (w := some (1, 1, 0)) ff_X10_16 rfl rfl dX10_read_55 rfl ?_
              refine w_aload_n dX10_read_58 rfl ?_
              refine w_getR (w := some (1, 0, 0)) ff_X10_10 rfl rfl dX10_read_59 rfl ?_
              refine w_callV (as := [vR 1 0 0]) (st := []) (Tri.mono (c_copy (k := 1) (k2 := 0) (by decide) hw hh.1) (Nat.le_of_ble_eq_true rfl)) rfl rfl tg_X1_copy lk_X10_82 in_X1_copy se_X1_copy rfl dX10_read_62 rfl (Nat.le_of_ble_eq_true rfl) (Nat.le_refl _) (Nat.le_refl _) ?_
              rintro v M9 ⟨rfl, I1, rfl, g1, g2⟩ -
              refine w_iconst (v := 0) dX10_read_65 (by decide) ?_
              refine w_istore (ls' := [some (vR 0 0 0), some (vI (nI k)), some (vI (nI q.1)), some (vI (f)), some (vI (nI n)), some (vR 20 k 0), some (vI (0)), some (vI (0)), some (vI (0)), none, none, none]) dX10_read_66 rfl ?_
              exact l_readC hg hh hk hq (l := q.1) hn n 0 (gA g) I1 none none none (Nat.zero_add _) ⟨hw, rfl, rfl, rfl⟩ g1 g2.q
      · skip
        first
        | (exfalso; omega)
        | skip
          refine w_iconst (v := (-1)) dX10_read_32 (by decide) ?_
          exfalso
          omega

theorem q_read {I : xF4 Int32} {L : xF4 Int64} {g : gG} (hg : WG g) (hh : MH I g) {k : Nat} (hk : k < 4) {q : Nat × (Nat × (Nat → Int32))} (hq : gSh g k = some q) {n : Nat} (hn : n ≤ 13) {f : Int32} : Tri 19 109 m_X11_read [vR 30 0 0, vI (nI k), vI (nI q.1), vI (f), vI (nI n)] (rM I L) (pMo (vI (rdX (rdF f q.2.1 q.2.2 0 n (gA g)))) (rdG g (rdF f q.2.1 q.2.2 0 n (gA g))) I) := by
  refine ⟨k_X11_read, Nat.le_of_ble_eq_true rfl, ?_⟩
  show Wp _ _ _ 0 [some (vR 30 0 0), some (vI (nI k)), some (vI (nI q.1)), some (vI (f)), some (vI (nI n)), none, none, none, none, none, none] [] (rM I L) _
  obtain ⟨hw, hd9, hgi, ht160, htb, hgs⟩ := id hg
  obtain ⟨hq3, hq40⟩ := hgs k hk q hq
  refine w_iload_n dX11_read_0 rfl ?_
  refine w_iload_n dX11_read_1 rfl ?_
  refine w_callS (as := [vI (nI k), vI (nI q.1)]) (st := []) (Tri.mono (d_isSheet (x := nI k) (X := ((k : Nat) : Int)) (z_nI (by omega)) (y := nI q.1) (Y := ((q.1 : Nat) : Int)) (z_nI (by omega))) (Nat.le_of_ble_eq_true rfl)) tg_X11_isSheet lk_X11_302 sa_X11_isSheet rfl dX11_read_2 rfl (Nat.le_of_ble_eq_true rfl) (Nat.le_refl _) (Nat.le_refl _) ?_
  rintro _ _ ⟨rfl, rfl⟩ -
  refine w_ifeq_b (tgt := 21) dX11_read_5 (by decide) (fun h1 => ?_) (fun h1 => ?_)
  · skip
    first
    | (exfalso; omega)
    | skip
      refine w_iconst (v := (-1)) dX11_read_21 (by decide) ?_
      exfalso
      omega
  · skip
    first
    | (exfalso; omega)
    | skip
      refine w_iload dX11_read_8 rfl ?_
      refine w_i2l dX11_read_10 ?_
      refine w_lconst (v := 0) dX11_read_11 (by decide) ?_
      refine w_ldc2 dX11_read_12 cq_X11_305 ?_
      refine w_callS (as := [vL ((nI n : Int32).toInt64), vL (0), vL (13)]) (st := []) (Tri.mono (d_in ((nI n : Int32).toInt64) (0) (13)) (Nat.le_of_ble_eq_true rfl)) tg_X11_in lk_X11_66 sa_X11_in rfl dX11_read_15 rfl (Nat.le_of_ble_eq_true rfl) (Nat.le_refl _) (Nat.le_refl _) ?_
      rintro _ _ ⟨rfl, rfl⟩ -
      refine w_top (y := bI (0 ≤ ((n : Nat) : Int) ∧ ((n : Nat) : Int) ≤ 13)) (show (bI ((0 : Int64) ≤ ((nI n : Int32).toInt64) ∧ ((nI n : Int32).toInt64) ≤ (13 : Int64)) : Int32) = bI (0 ≤ ((n : Nat) : Int) ∧ ((n : Nat) : Int) ≤ 13) from inZ (x := nI n) (l := 0) (h := 13) (X := ((n : Nat) : Int)) (A := 0) (B := 13) rfl (by decide) (by decide) (z_nI (by omega)) (by decide) (by decide)) ?_
      refine w_ifne_b (tgt := 23) dX11_read_18 (by decide) (fun h2 => ?_) (fun h2 => ?_)
      · skip
        first
        | (exfalso; omega)
        | skip
          refine w_iconst (v := 0) dX11_read_23 (by decide) ?_
          refine w_istore (ls' := [some (vR 30 0 0), some (vI (nI k)), some (vI (nI q.1)), some (vI (f)), some (vI (nI n)), some (vI (0)), none, none, none, none, none]) dX11_read_24 rfl ?_
          refine l_readKeep (fun I9 h40 hf9 => ?_) 76 0 I rfl (fun y hy => absurd hy (Nat.not_lt_zero _)) FrT.rf
          have hfw : FrW I I9 := fun t b j s _ q _ => hf9 t b j s (fun z => q (by omega))
          have hs9 : SI I9 (gA g) := ⟨(hf9 30 0 0 3 (by decide)).trans hh.1.1, (hf9 30 0 0 4 (by decide)).trans hh.1.2.1, hh.1.2.2.fr (fun x => hf9 31 0 0 x (by decide))⟩
          refine w_iconst (v := 0) dX11_read_53 (by decide) ?_
          refine w_istore (ls' := [some (vR 30 0 0), some (vI (nI k)), some (vI (nI q.1)), some (vI (f)), some (vI (nI n)), some (vI (0)), none, none, none, none, none]) dX11_read_54 rfl ?_
          refine w_iconst (v := 0) dX11_read_56 (by decide) ?_
          refine w_istore (ls' := [some (vR 30 0 0), some (vI (nI k)), some (vI (nI q.1)), some (vI (f)), some (vI (nI n)), some (vI (0)), some (vI (0)), none, none, none, none]) dX11_read_57 rfl ?_
          refine w_iconst (v := 0) dX11_read_59 (by decide) ?_
          refine w_istore (ls' := [some (vR 30 0 0), some (vI (nI k)), some (vI (nI q.1)), some (vI (f)), some (vI (nI n)), some (vI (0)), some (vI (0)), some (vI (0)), none, none, none]) dX11_read_60 rfl ?_
          exact l_readM hg hh hk hq hn n 0 (gA g) I9 none none none (Nat.zero_add _) ⟨hw, rfl, rfl, rfl⟩ hs9 hfw h40
      · skip
        first
        | (exfalso; omega)
        | skip
          refine w_iconst (v := (-1)) dX11_read_21 (by decide) ?_
          exfalso
          omega

theorem p_read_0 {I : xF4 Int32} {L : xF4 Int64} {g : gG} (hg : WG g) (hh : CH I g) {k l : Nat} (hk : k < 4) (hl3 : l < 3) {f : Int32} : Tri 19 109 m_X10_read [vR 0 0 0, vI (nI k), vI (nI l), vI (f), vI (0)] (rM I L) (pCl (vI (nI 0)) (setTo (setA g (gA g)) (nI 0)) I) := by
  refine ⟨k_X10_read, Nat.le_of_ble_eq_true rfl, ?_⟩
  show Wp _ _ _ 0 [some (vR 0 0 0), some (vI (nI k)), some (vI (nI l)), some (vI (f)), some (vI (0)), none, none, none, none, none, none, none] [] (rM I L) _
  obtain ⟨hw, hd9, hgi, ht160, htb, hgs⟩ := id hg
  refine w_aload_n dX10_read_0 rfl ?_
  refine w_iload_n dX10_read_1 rfl ?_
  refine w_callV (as := [vI (nI k)]) (st := []) (Tri.mono (c_sheetAt (i := k) hk) (Nat.le_of_ble_eq_true rfl)) rfl rfl tg_X10_sheetAt lk_X10_302 in_X10_sheetAt se_X10_sheetAt rfl dX10_read_2 rfl (Nat.le_of_ble_eq_true rfl) (Nat.le_refl _) (Nat.le_refl _) ?_
  rintro _ _ ⟨rfl, rfl⟩ -
  refine w_astore (ls' := [some (vR 0 0 0), some (vI (nI k)), some (vI (nI l)), some (vI (f)), some (vI (0)), some (vR 20 k 0), none, none, none, none, none, none]) dX10_read_5 rfl ?_
  refine w_aload dX10_read_7 rfl ?_
  refine w_ifnull (tgt := 32) dX10_read_9 (by decide) (fun h => by cases h) (fun _ _ => ?_)
  refine w_iload_n dX10_read_12 rfl ?_
  refine w_iconst (v := 0) dX10_read_13 (by decide) ?_
  refine w_iconst (v := 2) dX10_read_14 (by decide) ?_
  refine w_callS (as := [vI (nI l), vI (0), vI (2)]) (st := []) (Tri.mono (c_X10_within (nI l) (0) (2)) (Nat.le_of_ble_eq_true rfl)) tg_X10_within lk_X10_158 sa_X10_within rfl dX10_read_15 rfl (Nat.le_of_ble_eq_true rfl) (Nat.le_refl _) (Nat.le_refl _) ?_
  rintro _ _ ⟨rfl, rfl⟩ -
  refine w_top (y := bI (0 ≤ ((l : Nat) : Int) ∧ ((l : Nat) : Int) ≤ 2)) (show (bI ((0 : Int32) ≤ (nI l) ∧ (nI l) ≤ (2 : Int32)) : Int32) = bI (0 ≤ ((l : Nat) : Int) ∧ ((l : Nat) : Int) ≤ 2) from wiZ (X := ((l : Nat) : Int)) (A := 0) (B := 2) (z_nI (by omega)) (by decide) (by decide)) ?_
  refine w_ifeq_b (tgt := 32) dX10_read_18 (by decide) (fun h1 => ?_) (fun h1 => ?_)
  · skip
    first
    | (exfalso; omega)
    | skip
      refine w_iconst (v := (-1)) dX10_read_32 (by decide) ?_
      exfalso
      omega
  · skip
    first
    | (exfalso; omega)
    | skip
      refine w_iload dX10_read_21 rfl ?_
      refine w_iconst (v := 0) dX10_read_23 (by decide) ?_
      refine w_bipush (v := 13) dX10_read_24 (by decide) ?_
      refine w_callS (as := [vI (0), vI (0), vI (13)]) (st := []) (Tri.mono (c_X10_within (0) (0) (13)) (Nat.le_of_ble_eq_true rfl)) tg_X10_within lk_X10_158 sa_X10_within rfl dX10_read_26 rfl (Nat.le_of_ble_eq_true rfl) (Nat.le_refl _) (Nat.le_refl _) ?_
      rintro _ _ ⟨rfl, rfl⟩ -
      refine w_top (y := 1) (show (bI ((0 : Int32) ≤ ((0 : Int32)) ∧ ((0 : Int32)) ≤ (13 : Int32)) : Int32) = 1 from bI_t (by decide)) ?_
      refine w_if_ne (tgt := 34) dX10_read_29 (by decide) (fun _ => ?_) (fun h => absurd h (by decide))
      refine w_iload dX10_read_34 rfl ?_
      refine w_if_ne (tgt := 43) dX10_read_36 (by decide) (fun h => absurd (by decide) h) (fun _ => ?_)
      refine w_iconst (v := 0) dX10_read_39 (by decide) ?_
      refine w_goto (tgt := 49) dX10_read_40 (by decide) ?_
      refine w_istore (ls' := [some (vR 0 0 0), some (vI (nI k)), some (vI (nI l)), some (vI (f)), some (vI (0)), some (vR 20 k 0), some (vI (0)), none, none, none, none, none]) dX10_read_49 rfl ?_
      refine w_iconst (v := 0) dX10_read_51 (by decide) ?_
      refine w_istore (ls' := [some (vR 0 0 0), some (vI (nI k)), some (vI (nI l)), some (vI (f)), some (vI (0)), some (vR 20 k 0), some (vI (0)), some (vI (0)), none, none, none, none]) dX10_read_52 rfl ?_
      refine w_aload_n dX10_read_54 rfl ?_
      refine w_getR (w := some (1, 1, 0)) ff_X10_16 rfl rfl dX10_read_55 rfl ?_
      refine w_aload_n dX10_read_58 rfl ?_
      refine w_getR (w := some (1, 0, 0)) ff_X10_10 rfl rfl dX10_read_59 rfl ?_
      refine w_callV (as := [vR 1 0 0]) (st := []) (Tri.mono (c_copy (k := 1) (k2 := 0) (by decide) hw hh.1) (Nat.le_of_ble_eq_true rfl)) rfl rfl tg_X1_copy lk_X10_82 in_X1_copy se_X1_copy rfl dX10_read_62 rfl (Nat.le_of_ble_eq_true rfl) (Nat.le_refl _) (Nat.le_refl _) ?_
      rintro v M9 ⟨rfl, I1, rfl, g1, g2⟩ -
      refine w_iconst (v := 0) dX10_read_65 (by decide) ?_
      refine w_istore (ls' := [some (vR 0 0 0), some (vI (nI k)), some (vI (nI l)), some (vI (f)), some (vI (0)), some (vR 20 k 0), some (vI (0)), some (vI (0)), some (vI (0)), none, none, none]) dX10_read_66 rfl ?_
      refine w_iload dX10_read_68 rfl ?_
      refine w_iload dX10_read_70 rfl ?_
      refine w_icmp_ge (tgt := 176) dX10_read_72 (by decide) (fun _ => ?_) (fun h => absurd (by decide) h)
      exact l_readEnd hg hh (i := 0) (c := 0) (t := 0) (b := gA g) ⟨hw, rfl, rfl, rfl⟩ g1 g2.q

theorem q_read_0 {I : xF4 Int32} {L : xF4 Int64} {g : gG} (hg : WG g) (hh : MH I g) {k l : Nat} (hk : k < 4) (hl3 : l < 3) {f : Int32} : Tri 19 109 m_X11_read [vR 30 0 0, vI (nI k), vI (nI l), vI (f), vI (0)] (rM I L) (pMo (vI (nI 0)) (setTo (setA g (gA g)) (nI 0)) I) := by
  refine ⟨k_X11_read, Nat.le_of_ble_eq_true rfl, ?_⟩
  show Wp _ _ _ 0 [some (vR 30 0 0), some (vI (nI k)), some (vI (nI l)), some (vI (f)), some (vI (0)), none, none, none, none, none, none] [] (rM I L) _
  obtain ⟨hw, hd9, hgi, ht160, htb, hgs⟩ := id hg
  refine w_iload_n dX11_read_0 rfl ?_
  refine w_iload_n dX11_read_1 rfl ?_
  refine w_callS (as := [vI (nI k), vI (nI l)]) (st := []) (Tri.mono (d_isSheet (x := nI k) (X := ((k : Nat) : Int)) (z_nI (by omega)) (y := nI l) (Y := ((l : Nat) : Int)) (z_nI (by omega))) (Nat.le_of_ble_eq_true rfl)) tg_X11_isSheet lk_X11_302 sa_X11_isSheet rfl dX11_read_2 rfl (Nat.le_of_ble_eq_true rfl) (Nat.le_refl _) (Nat.le_refl _) ?_
  rintro _ _ ⟨rfl, rfl⟩ -
  refine w_ifeq_b (tgt := 21) dX11_read_5 (by decide) (fun h1 => ?_) (fun h1 => ?_)
  · skip
    first
    | (exfalso; omega)
    | skip
      refine w_iconst (v := (-1)) dX11_read_21 (by decide) ?_
      exfalso
      omega
  · skip
    first
    | (exfalso; omega)
    | skip
      refine w_iload dX11_read_8 rfl ?_
      refine w_i2l dX11_read_10 ?_
      refine w_lconst (v := 0) dX11_read_11 (by decide) ?_
      refine w_ldc2 dX11_read_12 cq_X11_305 ?_
      refine w_callS (as := [vL ((0 : Int32).toInt64), vL (0), vL (13)]) (st := []) (Tri.mono (d_in ((0 : Int32).toInt64) (0) (13)) (Nat.le_of_ble_eq_true rfl)) tg_X11_in lk_X11_66 sa_X11_in rfl dX11_read_15 rfl (Nat.le_of_ble_eq_true rfl) (Nat.le_refl _) (Nat.le_refl _) ?_
      rintro _ _ ⟨rfl, rfl⟩ -
      refine w_top (y := 1) (show (bI ((0 : Int64) ≤ ((0 : Int32).toInt64) ∧ ((0 : Int32).toInt64) ≤ (13 : Int64)) : Int32) = 1 from bI_t (by decide)) ?_
      refine w_if_ne (tgt := 23) dX11_read_18 (by decide) (fun _ => ?_) (fun h => absurd h (by decide))
      refine w_iconst (v := 0) dX11_read_23 (by decide) ?_
      refine w_istore (ls' := [some (vR 30 0 0), some (vI (nI k)), some (vI (nI l)), some (vI (f)), some (vI (0)), some (vI (0)), none, none, none, none, none]) dX11_read_24 rfl ?_
      refine l_readKeep (fun I9 h40 hf9 => ?_) 76 0 I rfl (fun y hy => absurd hy (Nat.not_lt_zero _)) FrT.rf
      have hfw : FrW I I9 := fun t b j s _ q _ => hf9 t b j s (fun z => q (by omega))
      have hs9 : SI I9 (gA g) := ⟨(hf9 30 0 0 3 (by decide)).trans hh.1.1, (hf9 30 0 0 4 (by decide)).trans hh.1.2.1, hh.1.2.2.fr (fun x => hf9 31 0 0 x (by decide))⟩
      refine w_iconst (v := 0) dX11_read_53 (by decide) ?_
      refine w_istore (ls' := [some (vR 30 0 0), some (vI (nI k)), some (vI (nI l)), some (vI (f)), some (vI (0)), some (vI (0)), none, none, none, none, none]) dX11_read_54 rfl ?_
      refine w_iconst (v := 0) dX11_read_56 (by decide) ?_
      refine w_istore (ls' := [some (vR 30 0 0), some (vI (nI k)), some (vI (nI l)), some (vI (f)), some (vI (0)), some (vI (0)), some (vI (0)), none, none, none, none]) dX11_read_57 rfl ?_
      refine w_iconst (v := 0) dX11_read_59 (by decide) ?_
      refine w_istore (ls' := [some (vR 30 0 0), some (vI (nI k)), some (vI (nI l)), some (vI (f)), some (vI (0)), some (vI (0)), some (vI (0)), some (vI (0)), none, none, none]) dX11_read_60 rfl ?_
      refine w_iload dX11_read_62 rfl ?_
      refine w_iload dX11_read_64 rfl ?_
      refine w_icmp_ge (tgt := 259) dX11_read_66 (by decide) (fun _ => ?_) (fun h => absurd (by decide) h)
      exact l_readEndM hg hh (c := 0) (t := 0) (b := gA g) hs9 hfw

theorem c_takenN {I : xF4 Int32} {L : xF4 Int64} {g : gG} (hg : WG g) (hh : CH I g) {k : Nat} (hk : k < 4) (hq : gSh g k = none) (l : Int32) : Tri 0 109 m_X6_faultTakenAs [vR 20 k 0, vI (l)] (rM I L) (pI 1 I L) := by
  refine ⟨k_X6_faultTakenAs, Nat.le_of_ble_eq_true rfl, ?_⟩
  show Wp _ _ _ 0 [some (vR 20 k 0), some (vI (l))] [] (rM I L) _
  obtain ⟨hw, hd9, hgi, ht160, htb, hgs⟩ := id hg
  have hsh := hh.2.2.2.2.2.1 k hk
  rw [hq] at hsh
  have s1 : I 20 k 0 1 = 0 := hsh
  refine w_aload_n dX6_faultTakenAs_0 rfl ?_
  refine w_getI ff_X6_15 rfl rfl dX6_faultTakenAs_1 ?_
  rw [show (I 20 k 0 1 : Int32) = 0 from s1]
  refine w_if_ne (tgt := 9) dX6_faultTakenAs_4 (by decide) (fun h => absurd (by decide) h) (fun _ => ?_)
  refine w_iconst (v := 1) dX6_faultTakenAs_7 (by decide) ?_
  exact w_ireturn dX6_faultTakenAs_8 rfl (rfl) rfl (⟨rfl, rfl⟩)

theorem p_read_n {I : xF4 Int32} {L : xF4 Int64} {g : gG} (hg : WG g) (hh : CH I g) {k : Nat} (hk : k < 4) (hq : gSh g k = none) {l n : Nat} (hl3 : l < 3) (hn1 : 1 ≤ n) (hn : n ≤ 13) {f : Int32} : Tri 19 109 m_X10_read [vR 0 0 0, vI (nI k), vI (nI l), vI (f), vI (nI n)] (rM I L) (pCl (vI (nI 0)) (setTo (setA g (gA g)) (nI 1)) I) := by
  refine ⟨k_X10_read, Nat.le_of_ble_eq_true rfl, ?_⟩
  show Wp _ _ _ 0 [some (vR 0 0 0), some (vI (nI k)), some (vI (nI l)), some (vI (f)), some (vI (nI n)), none, none, none, none, none, none, none] [] (rM I L) _
  obtain ⟨hw, hd9, hgi, ht160, htb, hgs⟩ := id hg
  refine w_aload_n dX10_read_0 rfl ?_
  refine w_iload_n dX10_read_1 rfl ?_
  refine w_callV (as := [vI (nI k)]) (st := []) (Tri.mono (c_sheetAt (i := k) hk) (Nat.le_of_ble_eq_true rfl)) rfl rfl tg_X10_sheetAt lk_X10_302 in_X10_sheetAt se_X10_sheetAt rfl dX10_read_2 rfl (Nat.le_of_ble_eq_true rfl) (Nat.le_refl _) (Nat.le_refl _) ?_
  rintro _ _ ⟨rfl, rfl⟩ -
  refine w_astore (ls' := [some (vR 0 0 0), some (vI (nI k)), some (vI (nI l)), some (vI (f)), some (vI (nI n)), some (vR 20 k 0), none, none, none, none, none, none]) dX10_read_5 rfl ?_
  refine w_aload dX10_read_7 rfl ?_
  refine w_ifnull (tgt := 32) dX10_read_9 (by decide) (fun h => by cases h) (fun _ _ => ?_)
  refine w_iload_n dX10_read_12 rfl ?_
  refine w_iconst (v := 0) dX10_read_13 (by decide) ?_
  refine w_iconst (v := 2) dX10_read_14 (by decide) ?_
  refine w_callS (as := [vI (nI l), vI (0), vI (2)]) (st := []) (Tri.mono (c_X10_within (nI l) (0) (2)) (Nat.le_of_ble_eq_true rfl)) tg_X10_within lk_X10_158 sa_X10_within rfl dX10_read_15 rfl (Nat.le_of_ble_eq_true rfl) (Nat.le_refl _) (Nat.le_refl _) ?_
  rintro _ _ ⟨rfl, rfl⟩ -
  refine w_top (y := bI (0 ≤ ((l : Nat) : Int) ∧ ((l : Nat) : Int) ≤ 2)) (show (bI ((0 : Int32) ≤ (nI l) ∧ (nI l) ≤ (2 : Int32)) : Int32) = bI (0 ≤ ((l : Nat) : Int) ∧ ((l : Nat) : Int) ≤ 2) from wiZ (X := ((l : Nat) : Int)) (A := 0) (B := 2) (z_nI (by omega)) (by decide) (by decide)) ?_
  refine w_ifeq_b (tgt := 32) dX10_read_18 (by decide) (fun h1 => ?_) (fun h1 => ?_)
  · skip
    first
    | (exfalso; omega)
    | skip
      refine w_iconst (v := (-1)) dX10_read_32 (by decide) ?_
      exfalso
      omega
  · skip
    first
    | (exfalso; omega)
    | skip
      refine w_iload dX10_read_21 rfl ?_
      refine w_iconst (v := 0) dX10_read_23 (by decide) ?_
      refine w_bipush (v := 13) dX10_read_24 (by decide) ?_
      refine w_callS (as := [vI (nI n), vI (0), vI (13)]) (st := []) (Tri.mono (c_X10_within (nI n) (0) (13)) (Nat.le_of_ble_eq_true rfl)) tg_X10_within lk_X10_158 sa_X10_within rfl dX10_read_26 rfl (Nat.le_of_ble_eq_true rfl) (Nat.le_refl _) (Nat.le_refl _) ?_
      rintro _ _ ⟨rfl, rfl⟩ -
      refine w_top (y := bI (0 ≤ ((n : Nat) : Int) ∧ ((n : Nat) : Int) ≤ 13)) (show (bI ((0 : Int32) ≤ (nI n) ∧ (nI n) ≤ (13 : Int32)) : Int32) = bI (0 ≤ ((n : Nat) : Int) ∧ ((n : Nat) : Int) ≤ 13) from wiZ (X := ((n : Nat) : Int)) (A := 0) (B := 13) (z_nI (by omega)) (by decide) (by decide)) ?_
      refine w_ifne_b (tgt := 34) dX10_read_29 (by decide) (fun h2 => ?_) (fun h2 => ?_)
      · skip
        first
        | (exfalso; omega)
        | skip
          refine w_iload dX10_read_34 rfl ?_
          refine w_if_ne (tgt := 43) dX10_read_36 (by decide) (fun h3 => ?_) (fun h3 => ?_)
          · skip
            replace h3 : ¬ (((n : Nat) : Int) = 0) := fun q => h3 ((zeq (z_nI (by omega)) (by decide)).mpr q)
            first
            | (exfalso; omega)
            | skip
              refine w_aload dX10_read_43 rfl ?_
              refine w_iload_n dX10_read_45 rfl ?_
              refine w_callV (as := [vI (nI l)]) (st := []) (Tri.mono (c_takenN hg hh hk hq (nI l)) (Nat.le_of_ble_eq_true rfl)) rfl rfl tg_X6_faultTakenAs lk_X10_313 in_X6_faultTakenAs se_X6_faultTakenAs rfl dX10_read_46 rfl (Nat.le_of_ble_eq_true rfl) (Nat.le_refl _) (Nat.le_refl _) ?_
              rintro _ _ ⟨rfl, rfl⟩ -
              refine w_istore (ls' := [some (vR 0 0 0), some (vI (nI k)), some (vI (nI l)), some (vI (f)), some (vI (nI n)), some (vR 20 k 0), some (vI (1)), none, none, none, none, none]) dX10_read_49 rfl ?_
              refine w_iconst (v := 0) dX10_read_51 (by decide) ?_
              refine w_istore (ls' := [some (vR 0 0 0), some (vI (nI k)), some (vI (nI l)), some (vI (f)), some (vI (nI n)), some (vR 20 k 0), some (vI (1)), some (vI (0)), none, none, none, none]) dX10_read_52 rfl ?_
              refine w_aload_n dX10_read_54 rfl ?_
              refine w_getR (w := some (1, 1, 0)) ff_X10_16 rfl rfl dX10_read_55 rfl ?_
              refine w_aload_n dX10_read_58 rfl ?_
              refine w_getR (w := some (1, 0, 0)) ff_X10_10 rfl rfl dX10_read_59 rfl ?_
              refine w_callV (as := [vR 1 0 0]) (st := []) (Tri.mono (c_copy (k := 1) (k2 := 0) (by decide) hw hh.1) (Nat.le_of_ble_eq_true rfl)) rfl rfl tg_X1_copy lk_X10_82 in_X1_copy se_X1_copy rfl dX10_read_62 rfl (Nat.le_of_ble_eq_true rfl) (Nat.le_refl _) (Nat.le_refl _) ?_
              rintro v M9 ⟨rfl, I1, rfl, g1, g2⟩ -
              refine w_iconst (v := 0) dX10_read_65 (by decide) ?_
              refine w_istore (ls' := [some (vR 0 0 0), some (vI (nI k)), some (vI (nI l)), some (vI (f)), some (vI (nI n)), some (vR 20 k 0), some (vI (1)), some (vI (0)), some (vI (0)), none, none, none]) dX10_read_66 rfl ?_
              refine w_iload dX10_read_68 rfl ?_
              refine w_iload dX10_read_70 rfl ?_
              refine w_icmp_ge (tgt := 176) dX10_read_72 (by decide) (fun h4 => ?_) (fun h4 => ?_)
              · skip
                replace h4 : ((n : Nat) : Int) ≤ 0 := (zle (z_nI (by omega)) (by decide)).mp h4
                first
                | (exfalso; omega)
                | skip
                  exact l_readEnd hg hh (i := 0) (c := 0) (t := 1) (b := gA g) ⟨hw, rfl, rfl, rfl⟩ g1 g2.q
              · skip
                replace h4 : ¬ (((n : Nat) : Int) ≤ 0) := fun q => h4 ((zle (z_nI (by omega)) (by decide)).mpr q)
                first
                | (exfalso; omega)
                | skip
                  refine w_iload dX10_read_75 rfl ?_
                  refine w_if_ne (tgt := 176) dX10_read_77 (by decide) (fun _ => ?_) (fun h => absurd h (by decide))
                  exact l_readEnd hg hh (i := 0) (c := 0) (t := 1) (b := gA g) ⟨hw, rfl, rfl, rfl⟩ g1 g2.q
          · skip
            replace h3 : ((n : Nat) : Int) = 0 := (zeq (z_nI (by omega)) (by decide)).mp h3
            first
            | (exfalso; omega)
            | skip
              refine w_iconst (v := 0) dX10_read_39 (by decide) ?_
              refine w_goto (tgt := 49) dX10_read_40 (by decide) ?_
              refine w_istore (ls' := [some (vR 0 0 0), some (vI (nI k)), some (vI (nI l)), some (vI (f)), some (vI (nI n)), some (vR 20 k 0), some (vI (0)), none, none, none, none, none]) dX10_read_49 rfl ?_
              refine w_iconst (v := 0) dX10_read_51 (by decide) ?_
              refine w_istore (ls' := [some (vR 0 0 0), some (vI (nI k)), some (vI (nI l)), some (vI (f)), some (vI (nI n)), some (vR 20 k 0), some (vI (0)), some (vI (0)), none, none, none, none]) dX10_read_52 rfl ?_
              refine w_aload_n dX10_read_54 rfl ?_
              refine w_getR (w := some (1, 1, 0)) ff_X10_16 rfl rfl dX10_read_55 rfl ?_
              refine w_aload_n dX10_read_58 rfl ?_
              refine w_getR (w := some (1, 0, 0)) ff_X10_10 rfl rfl dX10_read_59 rfl ?_
              refine w_callV (as := [vR 1 0 0]) (st := []) (Tri.mono (c_copy (k := 1) (k2 := 0) (by decide) hw hh.1) (Nat.le_of_ble_eq_true rfl)) rfl rfl tg_X1_copy lk_X10_82 in_X1_copy se_X1_copy rfl dX10_read_62 rfl (Nat.le_of_ble_eq_true rfl) (Nat.le_refl _) (Nat.le_refl _) ?_
              rintro v M9 ⟨rfl, I1, rfl, g1, g2⟩ -
              refine w_iconst (v := 0) dX10_read_65 (by decide) ?_
              refine w_istore (ls' := [some (vR 0 0 0), some (vI (nI k)), some (vI (nI l)), some (vI (f)), some (vI (nI n)), some (vR 20 k 0), some (vI (0)), some (vI (0)), some (vI (0)), none, none, none]) dX10_read_66 rfl ?_
              refine w_iload dX10_read_68 rfl ?_
              refine w_iload dX10_read_70 rfl ?_
              refine w_icmp_ge (tgt := 176) dX10_read_72 (by decide) (fun h4 => ?_) (fun h4 => ?_)
              · skip
                replace h4 : ((n : Nat) : Int) ≤ 0 := (zle (z_nI (by omega)) (by decide)).mp h4
                first
                | (exfalso; omega)
                | skip
                  exact l_readEnd hg hh (i := 0) (c := 0) (t := 1) (b := gA g) ⟨hw, rfl, rfl, rfl⟩ g1 g2.q
              · skip
                replace h4 : ¬ (((n : Nat) : Int) ≤ 0) := fun q => h4 ((zle (z_nI (by omega)) (by decide)).mpr q)
                first
                | (exfalso; omega)
                | skip
                  refine w_iload dX10_read_75 rfl ?_
                  refine w_if_ne (tgt := 176) dX10_read_77 (by decide) (fun h => absurd (by decide) h) (fun _ => ?_)
                  refine w_iload_n dX10_read_80 rfl ?_
                  refine w_i2l dX10_read_81 ?_
                  refine w_ldc2 dX10_read_82 cq_X10_316 ?_
                  refine w_iload dX10_read_85 rfl ?_
                  refine w_i2l dX10_read_87 ?_
                  refine w_lmul dX10_read_88 ?_
                  refine w_ladd dX10_read_89 ?_
                  refine w_lstore (ls' := [some (vR 0 0 0), some (vI (nI k)), some (vI (nI l)), some (vI (f)), some (vI (nI n)), some (vR 20 k 0), some (vI (0)), some (vI (0)), some (vI (0)), some (vL (((f : Int32).toInt64) + ((3) * ((0 : Int32).toInt64)))), none, none]) dX10_read_90 rfl ?_
                  refine w_lload dX10_read_92 rfl ?_
                  refine w_lconst (v := 0) dX10_read_94 (by decide) ?_
                  refine w_lcmp dX10_read_95 ?_
                  refine w_if_lt (tgt := 115) dX10_read_96 (by decide) (fun h5 => ?_) (fun h5 => ?_)
                  · skip
                    first
                    | (exfalso; omega)
                    | skip
                      refine w_iconst (v := 2) dX10_read_115 (by decide) ?_
                      refine w_istore (ls' := [some (vR 0 0 0), some (vI (nI k)), some (vI (nI l)), some (vI (f)), some (vI (nI n)), some (vR 20 k 0), some (vI (2)), some (vI (0)), some (vI (0)), some (vL (((f : Int32).toInt64) + ((3) * ((0 : Int32).toInt64)))), none, none]) dX10_read_116 rfl ?_
                      refine w_goto (tgt := 170) dX10_read_118 (by decide) ?_
                      refine w_iinc (v := 1) (ls' := [some (vR 0 0 0), some (vI (nI k)), some (vI (nI l)), some (vI (f)), some (vI (nI n)), some (vR 20 k 0), some (vI (2)), some (vI (0)), some (vI (1)), some (vL (((f : Int32).toInt64) + ((3) * ((0 : Int32).toInt64)))), none, none]) dX10_read_170 rfl (by decide) rfl ?_
                      refine w_goto (tgt := 68) dX10_read_173 (by decide) ?_
                      refine w_iload dX10_read_68 rfl ?_
                      refine w_iload dX10_read_70 rfl ?_
                      refine w_icmp_ge (tgt := 176) dX10_read_72 (by decide) (fun h6 => ?_) (fun h6 => ?_)
                      · skip
                        replace h6 : ((n : Nat) : Int) ≤ 1 := (zle (z_nI (by omega)) (by decide)).mp h6
                        first
                        | (exfalso; omega)
                        | skip
                          exact l_readEnd hg hh (i := 0) (c := 0) (t := 1) (b := gA g) ⟨hw, rfl, rfl, rfl⟩ g1 g2.q
                      · skip
                        replace h6 : ¬ (((n : Nat) : Int) ≤ 1) := fun q => h6 ((zle (z_nI (by omega)) (by decide)).mpr q)
                        first
                        | (exfalso; omega)
                        | skip
                          refine w_iload dX10_read_75 rfl ?_
                          refine w_if_ne (tgt := 176) dX10_read_77 (by decide) (fun _ => ?_) (fun h => absurd h (by decide))
                          exact l_readEnd hg hh (i := 0) (c := 0) (t := 1) (b := gA g) ⟨hw, rfl, rfl, rfl⟩ g1 g2.q
                  · skip
                    first
                    | (exfalso; omega)
                    | skip
                      refine w_lload dX10_read_99 rfl ?_
                      refine w_ldc2 dX10_read_101 cq_X10_318 ?_
                      refine w_ladd dX10_read_104 ?_
                      refine w_aload dX10_read_105 rfl ?_
                      refine w_getI ff_X10_320 rfl rfl dX10_read_107 ?_
                      refine w_i2l dX10_read_110 ?_
                      refine w_lcmp dX10_read_111 ?_
                      refine w_if_lt (tgt := 121) dX10_read_112 (by decide) (fun h6 => ?_) (fun h6 => ?_)
                      · skip
                        first
                        | (exfalso; omega)
                        | skip
                          refine w_lload dX10_read_121 rfl ?_
                          refine w_l2i dX10_read_123 ?_
                          refine w_istore (ls' := [some (vR 0 0 0), some (vI (nI k)), some (vI (nI l)), some (vI (f)), some (vI (nI n)), some (vR 20 k 0), some (vI (0)), some (vI (0)), some (vI (0)), some (vL (((f : Int32).toInt64) + ((3) * ((0 : Int32).toInt64)))), none, some (vI ((((f : Int32).toInt64) + ((3) * ((0 : Int32).toInt64)) : Int64).toInt32))]) dX10_read_124 rfl ?_
                          refine w_aload_n dX10_read_126 rfl ?_
                          refine w_getR (w := some (1, 1, 0)) ff_X10_16 rfl rfl dX10_read_127 rfl ?_
                          refine w_aload dX10_read_130 rfl ?_
                          refine w_iload dX10_read_132 rfl ?_
                          exfalso
                          omega
                      · skip
                        first
                        | (exfalso; omega)
                        | skip
                          refine w_iconst (v := 2) dX10_read_115 (by decide) ?_
                          refine w_istore (ls' := [some (vR 0 0 0), some (vI (nI k)), some (vI (nI l)), some (vI (f)), some (vI (nI n)), some (vR 20 k 0), some (vI (2)), some (vI (0)), some (vI (0)), some (vL (((f : Int32).toInt64) + ((3) * ((0 : Int32).toInt64)))), none, none]) dX10_read_116 rfl ?_
                          refine w_goto (tgt := 170) dX10_read_118 (by decide) ?_
                          refine w_iinc (v := 1) (ls' := [some (vR 0 0 0), some (vI (nI k)), some (vI (nI l)), some (vI (f)), some (vI (nI n)), some (vR 20 k 0), some (vI (2)), some (vI (0)), some (vI (1)), some (vL (((f : Int32).toInt64) + ((3) * ((0 : Int32).toInt64)))), none, none]) dX10_read_170 rfl (by decide) rfl ?_
                          refine w_goto (tgt := 68) dX10_read_173 (by decide) ?_
                          refine w_iload dX10_read_68 rfl ?_
                          refine w_iload dX10_read_70 rfl ?_
                          refine w_icmp_ge (tgt := 176) dX10_read_72 (by decide) (fun h7 => ?_) (fun h7 => ?_)
                          · skip
                            replace h7 : ((n : Nat) : Int) ≤ 1 := (zle (z_nI (by omega)) (by decide)).mp h7
                            first
                            | (exfalso; omega)
                            | skip
                              exact l_readEnd hg hh (i := 0) (c := 0) (t := 1) (b := gA g) ⟨hw, rfl, rfl, rfl⟩ g1 g2.q
                          · skip
                            replace h7 : ¬ (((n : Nat) : Int) ≤ 1) := fun q => h7 ((zle (z_nI (by omega)) (by decide)).mpr q)
                            first
                            | (exfalso; omega)
                            | skip
                              refine w_iload dX10_read_75 rfl ?_
                              refine w_if_ne (tgt := 176) dX10_read_77 (by decide) (fun _ => ?_) (fun h => absurd h (by decide))
                              exact l_readEnd hg hh (i := 0) (c := 0) (t := 1) (b := gA g) ⟨hw, rfl, rfl, rfl⟩ g1 g2.q
      · skip
        first
        | (exfalso; omega)
        | skip
          refine w_iconst (v := (-1)) dX10_read_32 (by decide) ?_
          exfalso
          omega

theorem q_read_n {I : xF4 Int32} {L : xF4 Int64} {g : gG} (hg : WG g) (hh : MH I g) {k : Nat} (hk : k < 4) (hq : gSh g k = none) {l n : Nat} (hl3 : l < 3) (hn1 : 1 ≤ n) (hn : n ≤ 13) {f : Int32} : Tri 19 109 m_X11_read [vR 30 0 0, vI (nI k), vI (nI l), vI (f), vI (nI n)] (rM I L) (pMo (vI (nI 0)) (setTo (setA g (gA g)) (nI 1)) I) := by
  refine ⟨k_X11_read, Nat.le_of_ble_eq_true rfl, ?_⟩
  show Wp _ _ _ 0 [some (vR 30 0 0), some (vI (nI k)), some (vI (nI l)), some (vI (f)), some (vI (nI n)), none, none, none, none, none, none] [] (rM I L) _
  obtain ⟨hw, hd9, hgi, ht160, htb, hgs⟩ := id hg
  have hsh := hh.2.2.2.2.2.1 k hk
  rw [hq] at hsh
  have s1 : I 37 0 0 k = -4 := hsh
  refine w_iload_n dX11_read_0 rfl ?_
  refine w_iload_n dX11_read_1 rfl ?_
  refine w_callS (as := [vI (nI k), vI (nI l)]) (st := []) (Tri.mono (d_isSheet (x := nI k) (X := ((k : Nat) : Int)) (z_nI (by omega)) (y := nI l) (Y := ((l : Nat) : Int)) (z_nI (by omega))) (Nat.le_of_ble_eq_true rfl)) tg_X11_isSheet lk_X11_302 sa_X11_isSheet rfl dX11_read_2 rfl (Nat.le_of_ble_eq_true rfl) (Nat.le_refl _) (Nat.le_refl _) ?_
  rintro _ _ ⟨rfl, rfl⟩ -
  refine w_ifeq_b (tgt := 21) dX11_read_5 (by decide) (fun h1 => ?_) (fun h1 => ?_)
  · skip
    first
    | (exfalso; omega)
    | skip
      refine w_iconst (v := (-1)) dX11_read_21 (by decide) ?_
      exfalso
      omega
  · skip
    first
    | (exfalso; omega)
    | skip
      refine w_iload dX11_read_8 rfl ?_
      refine w_i2l dX11_read_10 ?_
      refine w_lconst (v := 0) dX11_read_11 (by decide) ?_
      refine w_ldc2 dX11_read_12 cq_X11_305 ?_
      refine w_callS (as := [vL ((nI n : Int32).toInt64), vL (0), vL (13)]) (st := []) (Tri.mono (d_in ((nI n : Int32).toInt64) (0) (13)) (Nat.le_of_ble_eq_true rfl)) tg_X11_in lk_X11_66 sa_X11_in rfl dX11_read_15 rfl (Nat.le_of_ble_eq_true rfl) (Nat.le_refl _) (Nat.le_refl _) ?_
      rintro _ _ ⟨rfl, rfl⟩ -
      refine w_top (y := bI (0 ≤ ((n : Nat) : Int) ∧ ((n : Nat) : Int) ≤ 13)) (show (bI ((0 : Int64) ≤ ((nI n : Int32).toInt64) ∧ ((nI n : Int32).toInt64) ≤ (13 : Int64)) : Int32) = bI (0 ≤ ((n : Nat) : Int) ∧ ((n : Nat) : Int) ≤ 13) from inZ (x := nI n) (l := 0) (h := 13) (X := ((n : Nat) : Int)) (A := 0) (B := 13) rfl (by decide) (by decide) (z_nI (by omega)) (by decide) (by decide)) ?_
      refine w_ifne_b (tgt := 23) dX11_read_18 (by decide) (fun h2 => ?_) (fun h2 => ?_)
      · skip
        first
        | (exfalso; omega)
        | skip
          refine w_iconst (v := 0) dX11_read_23 (by decide) ?_
          refine w_istore (ls' := [some (vR 30 0 0), some (vI (nI k)), some (vI (nI l)), some (vI (f)), some (vI (nI n)), some (vI (0)), none, none, none, none, none]) dX11_read_24 rfl ?_
          refine l_readKeep (fun I9 h40 hf9 => ?_) 76 0 I rfl (fun y hy => absurd hy (Nat.not_lt_zero _)) FrT.rf
          have hfw : FrW I I9 := fun t b j s _ q _ => hf9 t b j s (fun z => q (by omega))
          have hs9 : SI I9 (gA g) := ⟨(hf9 30 0 0 3 (by decide)).trans hh.1.1, (hf9 30 0 0 4 (by decide)).trans hh.1.2.1, hh.1.2.2.fr (fun x => hf9 31 0 0 x (by decide))⟩
          refine w_iconst (v := 0) dX11_read_53 (by decide) ?_
          refine w_istore (ls' := [some (vR 30 0 0), some (vI (nI k)), some (vI (nI l)), some (vI (f)), some (vI (nI n)), some (vI (0)), none, none, none, none, none]) dX11_read_54 rfl ?_
          refine w_iconst (v := 0) dX11_read_56 (by decide) ?_
          refine w_istore (ls' := [some (vR 30 0 0), some (vI (nI k)), some (vI (nI l)), some (vI (f)), some (vI (nI n)), some (vI (0)), some (vI (0)), none, none, none, none]) dX11_read_57 rfl ?_
          refine w_iconst (v := 0) dX11_read_59 (by decide) ?_
          refine w_istore (ls' := [some (vR 30 0 0), some (vI (nI k)), some (vI (nI l)), some (vI (f)), some (vI (nI n)), some (vI (0)), some (vI (0)), some (vI (0)), none, none, none]) dX11_read_60 rfl ?_
          refine w_iload dX11_read_62 rfl ?_
          refine w_iload dX11_read_64 rfl ?_
          refine w_icmp_ge (tgt := 259) dX11_read_66 (by decide) (fun h1 => ?_) (fun h1 => ?_)
          · skip
            replace h1 : ((n : Nat) : Int) ≤ 0 := (zle (z_nI (by omega)) (by decide)).mp h1
            first
            | (exfalso; omega)
            | skip
              exact l_readEndM hg hh (c := 0) (t := 1) (b := gA g) hs9 hfw
          · skip
            replace h1 : ¬ (((n : Nat) : Int) ≤ 0) := fun q => h1 ((zle (z_nI (by omega)) (by decide)).mpr q)
            first
            | (exfalso; omega)
            | skip
              refine w_iload dX11_read_69 rfl ?_
              refine w_if_ne (tgt := 259) dX11_read_71 (by decide) (fun h => absurd (by decide) h) (fun _ => ?_)
              refine w_iconst (v := 0) dX11_read_74 (by decide) ?_
              refine w_istore (ls' := [some (vR 30 0 0), some (vI (nI k)), some (vI (nI l)), some (vI (f)), some (vI (nI n)), some (vI (0)), some (vI (0)), some (vI (0)), some (vI (0)), none, none]) dX11_read_75 rfl ?_
              refine w_iload dX11_read_77 rfl ?_
              refine w_iconst (v := 3) dX11_read_79 (by decide) ?_
              refine w_icmp_ge (tgt := 164) dX11_read_80 (by decide) (fun h => absurd h (by decide)) (fun _ => ?_)
              refine w_iload dX11_read_83 rfl ?_
              refine w_if_ne (tgt := 164) dX11_read_85 (by decide) (fun h => absurd (by decide) h) (fun _ => ?_)
              refine w_iload_n dX11_read_88 rfl ?_
              refine w_i2l dX11_read_89 ?_
              refine w_iconst (v := 3) dX11_read_90 (by decide) ?_
              refine w_iload dX11_read_91 rfl ?_
              refine w_imul dX11_read_93 ?_
              rw [show ((3) * (0) : Int32) = nI (0) from ar_mul (p := 3) (q := 0) rfl rfl (by first | rfl | omega)]
              refine w_i2l dX11_read_94 ?_
              refine w_ladd dX11_read_95 ?_
              refine w_iload dX11_read_96 rfl ?_
              refine w_i2l dX11_read_98 ?_
              refine w_ladd dX11_read_99 ?_
              refine w_lstore (ls' := [some (vR 30 0 0), some (vI (nI k)), some (vI (nI l)), some (vI (f)), some (vI (nI n)), some (vI (0)), some (vI (0)), some (vI (0)), some (vI (0)), some (vL ((((f : Int32).toInt64) + ((nI (0) : Int32).toInt64)) + ((0 : Int32).toInt64))), none]) dX11_read_100 rfl ?_
              refine w_aload_n dX11_read_102 rfl ?_
              refine w_getR (w := some (37, 0, 0)) ff_X11_29 rfl rfl dX11_read_103 rfl ?_
              refine w_iload_n dX11_read_106 rfl ?_
              refine w_iaload (a := k) rfl (vp_in_nI (n := k) (by omega) (by omega)) (nI_clamp (n := k) (by omega)) dX11_read_107 ?_
              rw [show (I9 37 0 0 (k) : Int32) = (-4) from (hf9 37 0 0 k (by decide)).trans s1]
              refine w_bipush (v := (-4)) dX11_read_108 (by decide) ?_
              refine w_icmp_ne (tgt := 117) dX11_read_110 (by decide) (fun h => absurd ((rfl : (-4 : Int32) = -4)) h) (fun _ => ?_)
              refine w_iconst (v := 1) dX11_read_113 (by decide) ?_
              refine w_goto (tgt := 156) dX11_read_114 (by decide) ?_
              refine w_istore (ls' := [some (vR 30 0 0), some (vI (nI k)), some (vI (nI l)), some (vI (f)), some (vI (nI n)), some (vI (1)), some (vI (0)), some (vI (0)), some (vI (0)), some (vL ((((f : Int32).toInt64) + ((nI (0) : Int32).toInt64)) + ((0 : Int32).toInt64))), none]) dX11_read_156 rfl ?_
              refine w_iinc (v := 1) (ls' := [some (vR 30 0 0), some (vI (nI k)), some (vI (nI l)), some (vI (f)), some (vI (nI n)), some (vI (1)), some (vI (0)), some (vI (0)), some (vI (1)), some (vL ((((f : Int32).toInt64) + ((nI (0) : Int32).toInt64)) + ((0 : Int32).toInt64))), none]) dX11_read_158 rfl (by decide) rfl ?_
              refine w_goto (tgt := 77) dX11_read_161 (by decide) ?_
              refine w_iload dX11_read_77 rfl ?_
              refine w_iconst (v := 3) dX11_read_79 (by decide) ?_
              refine w_icmp_ge (tgt := 164) dX11_read_80 (by decide) (fun h => absurd h (by decide)) (fun _ => ?_)
              refine w_iload dX11_read_83 rfl ?_
              refine w_if_ne (tgt := 164) dX11_read_85 (by decide) (fun _ => ?_) (fun h => absurd h (by decide))
              refine w_iload dX11_read_164 rfl ?_
              refine w_if_ne (tgt := 253) dX11_read_166 (by decide) (fun _ => ?_) (fun h => absurd h (by decide))
              refine w_iinc (v := 1) (ls' := [some (vR 30 0 0), some (vI (nI k)), some (vI (nI l)), some (vI (f)), some (vI (nI n)), some (vI (1)), some (vI (0)), some (vI (1)), some (vI (1)), some (vL ((((f : Int32).toInt64) + ((nI (0) : Int32).toInt64)) + ((0 : Int32).toInt64))), none]) dX11_read_253 rfl (by decide) rfl ?_
              refine w_goto (tgt := 62) dX11_read_256 (by decide) ?_
              refine w_iload dX11_read_62 rfl ?_
              refine w_iload dX11_read_64 rfl ?_
              refine w_icmp_ge (tgt := 259) dX11_read_66 (by decide) (fun h2 => ?_) (fun h2 => ?_)
              · skip
                replace h2 : ((n : Nat) : Int) ≤ 1 := (zle (z_nI (by omega)) (by decide)).mp h2
                first
                | (exfalso; omega)
                | skip
                  exact l_readEndM hg hh (c := 0) (t := 1) (b := gA g) hs9 hfw
              · skip
                replace h2 : ¬ (((n : Nat) : Int) ≤ 1) := fun q => h2 ((zle (z_nI (by omega)) (by decide)).mpr q)
                first
                | (exfalso; omega)
                | skip
                  refine w_iload dX11_read_69 rfl ?_
                  refine w_if_ne (tgt := 259) dX11_read_71 (by decide) (fun _ => ?_) (fun h => absurd h (by decide))
                  exact l_readEndM hg hh (c := 0) (t := 1) (b := gA g) hs9 hfw
      · skip
        first
        | (exfalso; omega)
        | skip
          refine w_iconst (v := (-1)) dX11_read_21 (by decide) ?_
          exfalso
          omega

theorem p_read_l {I : xF4 Int32} {L : xF4 Int64} {g : gG} (hg : WG g) (hh : CH I g) {k : Nat} (hk : k < 4) {q : Nat × (Nat × (Nat → Int32))} (hq : gSh g k = some q) {l n : Nat} (hl3 : l < 3) (hl : ¬ l = q.1) (hn1 : 1 ≤ n) (hn : n ≤ 13) {f : Int32} : Tri 19 109 m_X10_read [vR 0 0 0, vI (nI k), vI (nI l), vI (f), vI (nI n)] (rM I L) (pCl (vI (nI 0)) (setTo (setA g (gA g)) (nI 3)) I) := by
  refine ⟨k_X10_read, Nat.le_of_ble_eq_true rfl, ?_⟩
  show Wp _ _ _ 0 [some (vR 0 0 0), some (vI (nI k)), some (vI (nI l)), some (vI (f)), some (vI (nI n)), none, none, none, none, none, none, none] [] (rM I L) _
  obtain ⟨hw, hd9, hgi, ht160, htb, hgs⟩ := id hg
  refine w_aload_n dX10_read_0 rfl ?_
  refine w_iload_n dX10_read_1 rfl ?_
  refine w_callV (as := [vI (nI k)]) (st := []) (Tri.mono (c_sheetAt (i := k) hk) (Nat.le_of_ble_eq_true rfl)) rfl rfl tg_X10_sheetAt lk_X10_302 in_X10_sheetAt se_X10_sheetAt rfl dX10_read_2 rfl (Nat.le_of_ble_eq_true rfl) (Nat.le_refl _) (Nat.le_refl _) ?_
  rintro _ _ ⟨rfl, rfl⟩ -
  refine w_astore (ls' := [some (vR 0 0 0), some (vI (nI k)), some (vI (nI l)), some (vI (f)), some (vI (nI n)), some (vR 20 k 0), none, none, none, none, none, none]) dX10_read_5 rfl ?_
  refine w_aload dX10_read_7 rfl ?_
  refine w_ifnull (tgt := 32) dX10_read_9 (by decide) (fun h => by cases h) (fun _ _ => ?_)
  refine w_iload_n dX10_read_12 rfl ?_
  refine w_iconst (v := 0) dX10_read_13 (by decide) ?_
  refine w_iconst (v := 2) dX10_read_14 (by decide) ?_
  refine w_callS (as := [vI (nI l), vI (0), vI (2)]) (st := []) (Tri.mono (c_X10_within (nI l) (0) (2)) (Nat.le_of_ble_eq_true rfl)) tg_X10_within lk_X10_158 sa_X10_within rfl dX10_read_15 rfl (Nat.le_of_ble_eq_true rfl) (Nat.le_refl _) (Nat.le_refl _) ?_
  rintro _ _ ⟨rfl, rfl⟩ -
  refine w_top (y := bI (0 ≤ ((l : Nat) : Int) ∧ ((l : Nat) : Int) ≤ 2)) (show (bI ((0 : Int32) ≤ (nI l) ∧ (nI l) ≤ (2 : Int32)) : Int32) = bI (0 ≤ ((l : Nat) : Int) ∧ ((l : Nat) : Int) ≤ 2) from wiZ (X := ((l : Nat) : Int)) (A := 0) (B := 2) (z_nI (by omega)) (by decide) (by decide)) ?_
  refine w_ifeq_b (tgt := 32) dX10_read_18 (by decide) (fun h1 => ?_) (fun h1 => ?_)
  · skip
    first
    | (exfalso; omega)
    | skip
      refine w_iconst (v := (-1)) dX10_read_32 (by decide) ?_
      exfalso
      omega
  · skip
    first
    | (exfalso; omega)
    | skip
      refine w_iload dX10_read_21 rfl ?_
      refine w_iconst (v := 0) dX10_read_23 (by decide) ?_
      refine w_bipush (v := 13) dX10_read_24 (by decide) ?_
      refine w_callS (as := [vI (nI n), vI (0), vI (13)]) (st := []) (Tri.mono (c_X10_within (nI n) (0) (13)) (Nat.le_of_ble_eq_true rfl)) tg_X10_within lk_X10_158 sa_X10_within rfl dX10_read_26 rfl (Nat.le_of_ble_eq_true rfl) (Nat.le_refl _) (Nat.le_refl _) ?_
      rintro _ _ ⟨rfl, rfl⟩ -
      refine w_top (y := bI (0 ≤ ((n : Nat) : Int) ∧ ((n : Nat) : Int) ≤ 13)) (show (bI ((0 : Int32) ≤ (nI n) ∧ (nI n) ≤ (13 : Int32)) : Int32) = bI (0 ≤ ((n : Nat) : Int) ∧ ((n : Nat) : Int) ≤ 13) from wiZ (X := ((n : Nat) : Int)) (A := 0) (B := 13) (z_nI (by omega)) (by decide) (by decide)) ?_
      refine w_ifne_b (tgt := 34) dX10_read_29 (by decide) (fun h2 => ?_) (fun h2 => ?_)
      · skip
        first
        | (exfalso; omega)
        | skip
          refine w_iload dX10_read_34 rfl ?_
          refine w_if_ne (tgt := 43) dX10_read_36 (by decide) (fun h3 => ?_) (fun h3 => ?_)
          · skip
            replace h3 : ¬ (((n : Nat) : Int) = 0) := fun q => h3 ((zeq (z_nI (by omega)) (by decide)).mpr q)
            first
            | (exfalso; omega)
            | skip
              refine w_aload dX10_read_43 rfl ?_
              refine w_iload_n dX10_read_45 rfl ?_
              refine w_callV (as := [vI (nI l)]) (st := []) (Tri.mono (c_takenX hg hh hk hq (l := l) hl3 hl) (Nat.le_of_ble_eq_true rfl)) rfl rfl tg_X6_faultTakenAs lk_X10_313 in_X6_faultTakenAs se_X6_faultTakenAs rfl dX10_read_46 rfl (Nat.le_of_ble_eq_true rfl) (Nat.le_refl _) (Nat.le_refl _) ?_
              rintro _ _ ⟨rfl, rfl⟩ -
              refine w_istore (ls' := [some (vR 0 0 0), some (vI (nI k)), some (vI (nI l)), some (vI (f)), some (vI (nI n)), some (vR 20 k 0), some (vI (3)), none, none, none, none, none]) dX10_read_49 rfl ?_
              refine w_iconst (v := 0) dX10_read_51 (by decide) ?_
              refine w_istore (ls' := [some (vR 0 0 0), some (vI (nI k)), some (vI (nI l)), some (vI (f)), some (vI (nI n)), some (vR 20 k 0), some (vI (3)), some (vI (0)), none, none, none, none]) dX10_read_52 rfl ?_
              refine w_aload_n dX10_read_54 rfl ?_
              refine w_getR (w := some (1, 1, 0)) ff_X10_16 rfl rfl dX10_read_55 rfl ?_
              refine w_aload_n dX10_read_58 rfl ?_
              refine w_getR (w := some (1, 0, 0)) ff_X10_10 rfl rfl dX10_read_59 rfl ?_
              refine w_callV (as := [vR 1 0 0]) (st := []) (Tri.mono (c_copy (k := 1) (k2 := 0) (by decide) hw hh.1) (Nat.le_of_ble_eq_true rfl)) rfl rfl tg_X1_copy lk_X10_82 in_X1_copy se_X1_copy rfl dX10_read_62 rfl (Nat.le_of_ble_eq_true rfl) (Nat.le_refl _) (Nat.le_refl _) ?_
              rintro v M9 ⟨rfl, I1, rfl, g1, g2⟩ -
              refine w_iconst (v := 0) dX10_read_65 (by decide) ?_
              refine w_istore (ls' := [some (vR 0 0 0), some (vI (nI k)), some (vI (nI l)), some (vI (f)), some (vI (nI n)), some (vR 20 k 0), some (vI (3)), some (vI (0)), some (vI (0)), none, none, none]) dX10_read_66 rfl ?_
              refine w_iload dX10_read_68 rfl ?_
              refine w_iload dX10_read_70 rfl ?_
              refine w_icmp_ge (tgt := 176) dX10_read_72 (by decide) (fun h4 => ?_) (fun h4 => ?_)
              · skip
                replace h4 : ((n : Nat) : Int) ≤ 0 := (zle (z_nI (by omega)) (by decide)).mp h4
                first
                | (exfalso; omega)
                | skip
                  exact l_readEnd hg hh (i := 0) (c := 0) (t := 3) (b := gA g) ⟨hw, rfl, rfl, rfl⟩ g1 g2.q
              · skip
                replace h4 : ¬ (((n : Nat) : Int) ≤ 0) := fun q => h4 ((zle (z_nI (by omega)) (by decide)).mpr q)
                first
                | (exfalso; omega)
                | skip
                  refine w_iload dX10_read_75 rfl ?_
                  refine w_if_ne (tgt := 176) dX10_read_77 (by decide) (fun _ => ?_) (fun h => absurd h (by decide))
                  exact l_readEnd hg hh (i := 0) (c := 0) (t := 3) (b := gA g) ⟨hw, rfl, rfl, rfl⟩ g1 g2.q
          · skip
            replace h3 : ((n : Nat) : Int) = 0 := (zeq (z_nI (by omega)) (by decide)).mp h3
            first
            | (exfalso; omega)
            | skip
              refine w_iconst (v := 0) dX10_read_39 (by decide) ?_
              refine w_goto (tgt := 49) dX10_read_40 (by decide) ?_
              refine w_istore (ls' := [some (vR 0 0 0), some (vI (nI k)), some (vI (nI l)), some (vI (f)), some (vI (nI n)), some (vR 20 k 0), some (vI (0)), none, none, none, none, none]) dX10_read_49 rfl ?_
              refine w_iconst (v := 0) dX10_read_51 (by decide) ?_
              refine w_istore (ls' := [some (vR 0 0 0), some (vI (nI k)), some (vI (nI l)), some (vI (f)), some (vI (nI n)), some (vR 20 k 0), some (vI (0)), some (vI (0)), none, none, none, none]) dX10_read_52 rfl ?_
              refine w_aload_n dX10_read_54 rfl ?_
              refine w_getR (w := some (1, 1, 0)) ff_X10_16 rfl rfl dX10_read_55 rfl ?_
              refine w_aload_n dX10_read_58 rfl ?_
              refine w_getR (w := some (1, 0, 0)) ff_X10_10 rfl rfl dX10_read_59 rfl ?_
              refine w_callV (as := [vR 1 0 0]) (st := []) (Tri.mono (c_copy (k := 1) (k2 := 0) (by decide) hw hh.1) (Nat.le_of_ble_eq_true rfl)) rfl rfl tg_X1_copy lk_X10_82 in_X1_copy se_X1_copy rfl dX10_read_62 rfl (Nat.le_of_ble_eq_true rfl) (Nat.le_refl _) (Nat.le_refl _) ?_
              rintro v M9 ⟨rfl, I1, rfl, g1, g2⟩ -
              refine w_iconst (v := 0) dX10_read_65 (by decide) ?_
              refine w_istore (ls' := [some (vR 0 0 0), some (vI (nI k)), some (vI (nI l)), some (vI (f)), some (vI (nI n)), some (vR 20 k 0), some (vI (0)), some (vI (0)), some (vI (0)), none, none, none]) dX10_read_66 rfl ?_
              refine w_iload dX10_read_68 rfl ?_
              refine w_iload dX10_read_70 rfl ?_
              refine w_icmp_ge (tgt := 176) dX10_read_72 (by decide) (fun h4 => ?_) (fun h4 => ?_)
              · skip
                replace h4 : ((n : Nat) : Int) ≤ 0 := (zle (z_nI (by omega)) (by decide)).mp h4
                first
                | (exfalso; omega)
                | skip
                  exact l_readEnd hg hh (i := 0) (c := 0) (t := 3) (b := gA g) ⟨hw, rfl, rfl, rfl⟩ g1 g2.q
              · skip
                replace h4 : ¬ (((n : Nat) : Int) ≤ 0) := fun q => h4 ((zle (z_nI (by omega)) (by decide)).mpr q)
                first
                | (exfalso; omega)
                | skip
                  refine w_iload dX10_read_75 rfl ?_
                  refine w_if_ne (tgt := 176) dX10_read_77 (by decide) (fun h => absurd (by decide) h) (fun _ => ?_)
                  refine w_iload_n dX10_read_80 rfl ?_
                  refine w_i2l dX10_read_81 ?_
                  refine w_ldc2 dX10_read_82 cq_X10_316 ?_
                  refine w_iload dX10_read_85 rfl ?_
                  refine w_i2l dX10_read_87 ?_
                  refine w_lmul dX10_read_88 ?_
                  refine w_ladd dX10_read_89 ?_
                  refine w_lstore (ls' := [some (vR 0 0 0), some (vI (nI k)), some (vI (nI l)), some (vI (f)), some (vI (nI n)), some (vR 20 k 0), some (vI (0)), some (vI (0)), some (vI (0)), some (vL (((f : Int32).toInt64) + ((3) * ((0 : Int32).toInt64)))), none, none]) dX10_read_90 rfl ?_
                  refine w_lload dX10_read_92 rfl ?_
                  refine w_lconst (v := 0) dX10_read_94 (by decide) ?_
                  refine w_lcmp dX10_read_95 ?_
                  refine w_if_lt (tgt := 115) dX10_read_96 (by decide) (fun h5 => ?_) (fun h5 => ?_)
                  · skip
                    first
                    | (exfalso; omega)
                    | skip
                      refine w_iconst (v := 2) dX10_read_115 (by decide) ?_
                      refine w_istore (ls' := [some (vR 0 0 0), some (vI (nI k)), some (vI (nI l)), some (vI (f)), some (vI (nI n)), some (vR 20 k 0), some (vI (2)), some (vI (0)), some (vI (0)), some (vL (((f : Int32).toInt64) + ((3) * ((0 : Int32).toInt64)))), none, none]) dX10_read_116 rfl ?_
                      refine w_goto (tgt := 170) dX10_read_118 (by decide) ?_
                      refine w_iinc (v := 1) (ls' := [some (vR 0 0 0), some (vI (nI k)), some (vI (nI l)), some (vI (f)), some (vI (nI n)), some (vR 20 k 0), some (vI (2)), some (vI (0)), some (vI (1)), some (vL (((f : Int32).toInt64) + ((3) * ((0 : Int32).toInt64)))), none, none]) dX10_read_170 rfl (by decide) rfl ?_
                      refine w_goto (tgt := 68) dX10_read_173 (by decide) ?_
                      refine w_iload dX10_read_68 rfl ?_
                      refine w_iload dX10_read_70 rfl ?_
                      refine w_icmp_ge (tgt := 176) dX10_read_72 (by decide) (fun h6 => ?_) (fun h6 => ?_)
                      · skip
                        replace h6 : ((n : Nat) : Int) ≤ 1 := (zle (z_nI (by omega)) (by decide)).mp h6
                        first
                        | (exfalso; omega)
                        | skip
                          exact l_readEnd hg hh (i := 0) (c := 0) (t := 3) (b := gA g) ⟨hw, rfl, rfl, rfl⟩ g1 g2.q
                      · skip
                        replace h6 : ¬ (((n : Nat) : Int) ≤ 1) := fun q => h6 ((zle (z_nI (by omega)) (by decide)).mpr q)
                        first
                        | (exfalso; omega)
                        | skip
                          refine w_iload dX10_read_75 rfl ?_
                          refine w_if_ne (tgt := 176) dX10_read_77 (by decide) (fun _ => ?_) (fun h => absurd h (by decide))
                          exact l_readEnd hg hh (i := 0) (c := 0) (t := 3) (b := gA g) ⟨hw, rfl, rfl, rfl⟩ g1 g2.q
                  · skip
                    first
                    | (exfalso; omega)
                    | skip
                      refine w_lload dX10_read_99 rfl ?_
                      refine w_ldc2 dX10_read_101 cq_X10_318 ?_
                      refine w_ladd dX10_read_104 ?_
                      refine w_aload dX10_read_105 rfl ?_
                      refine w_getI ff_X10_320 rfl rfl dX10_read_107 ?_
                      refine w_i2l dX10_read_110 ?_
                      refine w_lcmp dX10_read_111 ?_
                      refine w_if_lt (tgt := 121) dX10_read_112 (by decide) (fun h6 => ?_) (fun h6 => ?_)
                      · skip
                        first
                        | (exfalso; omega)
                        | skip
                          refine w_lload dX10_read_121 rfl ?_
                          refine w_l2i dX10_read_123 ?_
                          refine w_istore (ls' := [some (vR 0 0 0), some (vI (nI k)), some (vI (nI l)), some (vI (f)), some (vI (nI n)), some (vR 20 k 0), some (vI (0)), some (vI (0)), some (vI (0)), some (vL (((f : Int32).toInt64) + ((3) * ((0 : Int32).toInt64)))), none, some (vI ((((f : Int32).toInt64) + ((3) * ((0 : Int32).toInt64)) : Int64).toInt32))]) dX10_read_124 rfl ?_
                          refine w_aload_n dX10_read_126 rfl ?_
                          refine w_getR (w := some (1, 1, 0)) ff_X10_16 rfl rfl dX10_read_127 rfl ?_
                          refine w_aload dX10_read_130 rfl ?_
                          refine w_iload dX10_read_132 rfl ?_
                          exfalso
                          omega
                      · skip
                        first
                        | (exfalso; omega)
                        | skip
                          refine w_iconst (v := 2) dX10_read_115 (by decide) ?_
                          refine w_istore (ls' := [some (vR 0 0 0), some (vI (nI k)), some (vI (nI l)), some (vI (f)), some (vI (nI n)), some (vR 20 k 0), some (vI (2)), some (vI (0)), some (vI (0)), some (vL (((f : Int32).toInt64) + ((3) * ((0 : Int32).toInt64)))), none, none]) dX10_read_116 rfl ?_
                          refine w_goto (tgt := 170) dX10_read_118 (by decide) ?_
                          refine w_iinc (v := 1) (ls' := [some (vR 0 0 0), some (vI (nI k)), some (vI (nI l)), some (vI (f)), some (vI (nI n)), some (vR 20 k 0), some (vI (2)), some (vI (0)), some (vI (1)), some (vL (((f : Int32).toInt64) + ((3) * ((0 : Int32).toInt64)))), none, none]) dX10_read_170 rfl (by decide) rfl ?_
                          refine w_goto (tgt := 68) dX10_read_173 (by decide) ?_
                          refine w_iload dX10_read_68 rfl ?_
                          refine w_iload dX10_read_70 rfl ?_
                          refine w_icmp_ge (tgt := 176) dX10_read_72 (by decide) (fun h7 => ?_) (fun h7 => ?_)
                          · skip
                            replace h7 : ((n : Nat) : Int) ≤ 1 := (zle (z_nI (by omega)) (by decide)).mp h7
                            first
                            | (exfalso; omega)
                            | skip
                              exact l_readEnd hg hh (i := 0) (c := 0) (t := 3) (b := gA g) ⟨hw, rfl, rfl, rfl⟩ g1 g2.q
                          · skip
                            replace h7 : ¬ (((n : Nat) : Int) ≤ 1) := fun q => h7 ((zle (z_nI (by omega)) (by decide)).mpr q)
                            first
                            | (exfalso; omega)
                            | skip
                              refine w_iload dX10_read_75 rfl ?_
                              refine w_if_ne (tgt := 176) dX10_read_77 (by decide) (fun _ => ?_) (fun h => absurd h (by decide))
                              exact l_readEnd hg hh (i := 0) (c := 0) (t := 3) (b := gA g) ⟨hw, rfl, rfl, rfl⟩ g1 g2.q
      · skip
        first
        | (exfalso; omega)
        | skip
          refine w_iconst (v := (-1)) dX10_read_32 (by decide) ?_
          exfalso
          omega

theorem q_read_l {I : xF4 Int32} {L : xF4 Int64} {g : gG} (hg : WG g) (hh : MH I g) {k : Nat} (hk : k < 4) {q : Nat × (Nat × (Nat → Int32))} (hq : gSh g k = some q) {l n : Nat} (hl3 : l < 3) (hl : ¬ l = q.1) (hn1 : 1 ≤ n) (hn : n ≤ 13) {f : Int32} : Tri 19 109 m_X11_read [vR 30 0 0, vI (nI k), vI (nI l), vI (f), vI (nI n)] (rM I L) (pMo (vI (nI 0)) (setTo (setA g (gA g)) (nI 3)) I) := by
  refine ⟨k_X11_read, Nat.le_of_ble_eq_true rfl, ?_⟩
  show Wp _ _ _ 0 [some (vR 30 0 0), some (vI (nI k)), some (vI (nI l)), some (vI (f)), some (vI (nI n)), none, none, none, none, none, none] [] (rM I L) _
  obtain ⟨hw, hd9, hgi, ht160, htb, hgs⟩ := id hg
  obtain ⟨hq3, hq40⟩ := hgs k hk q hq
  have hsh := hh.2.2.2.2.2.1 k hk
  rw [hq] at hsh
  have s1 : I 37 0 0 k = nI q.1 := hsh.1
  refine w_iload_n dX11_read_0 rfl ?_
  refine w_iload_n dX11_read_1 rfl ?_
  refine w_callS (as := [vI (nI k), vI (nI l)]) (st := []) (Tri.mono (d_isSheet (x := nI k) (X := ((k : Nat) : Int)) (z_nI (by omega)) (y := nI l) (Y := ((l : Nat) : Int)) (z_nI (by omega))) (Nat.le_of_ble_eq_true rfl)) tg_X11_isSheet lk_X11_302 sa_X11_isSheet rfl dX11_read_2 rfl (Nat.le_of_ble_eq_true rfl) (Nat.le_refl _) (Nat.le_refl _) ?_
  rintro _ _ ⟨rfl, rfl⟩ -
  refine w_ifeq_b (tgt := 21) dX11_read_5 (by decide) (fun h1 => ?_) (fun h1 => ?_)
  · skip
    first
    | (exfalso; omega)
    | skip
      refine w_iconst (v := (-1)) dX11_read_21 (by decide) ?_
      exfalso
      omega
  · skip
    first
    | (exfalso; omega)
    | skip
      refine w_iload dX11_read_8 rfl ?_
      refine w_i2l dX11_read_10 ?_
      refine w_lconst (v := 0) dX11_read_11 (by decide) ?_
      refine w_ldc2 dX11_read_12 cq_X11_305 ?_
      refine w_callS (as := [vL ((nI n : Int32).toInt64), vL (0), vL (13)]) (st := []) (Tri.mono (d_in ((nI n : Int32).toInt64) (0) (13)) (Nat.le_of_ble_eq_true rfl)) tg_X11_in lk_X11_66 sa_X11_in rfl dX11_read_15 rfl (Nat.le_of_ble_eq_true rfl) (Nat.le_refl _) (Nat.le_refl _) ?_
      rintro _ _ ⟨rfl, rfl⟩ -
      refine w_top (y := bI (0 ≤ ((n : Nat) : Int) ∧ ((n : Nat) : Int) ≤ 13)) (show (bI ((0 : Int64) ≤ ((nI n : Int32).toInt64) ∧ ((nI n : Int32).toInt64) ≤ (13 : Int64)) : Int32) = bI (0 ≤ ((n : Nat) : Int) ∧ ((n : Nat) : Int) ≤ 13) from inZ (x := nI n) (l := 0) (h := 13) (X := ((n : Nat) : Int)) (A := 0) (B := 13) rfl (by decide) (by decide) (z_nI (by omega)) (by decide) (by decide)) ?_
      refine w_ifne_b (tgt := 23) dX11_read_18 (by decide) (fun h2 => ?_) (fun h2 => ?_)
      · skip
        first
        | (exfalso; omega)
        | skip
          refine w_iconst (v := 0) dX11_read_23 (by decide) ?_
          refine w_istore (ls' := [some (vR 30 0 0), some (vI (nI k)), some (vI (nI l)), some (vI (f)), some (vI (nI n)), some (vI (0)), none, none, none, none, none]) dX11_read_24 rfl ?_
          refine l_readKeep (fun I9 h40 hf9 => ?_) 76 0 I rfl (fun y hy => absurd hy (Nat.not_lt_zero _)) FrT.rf
          have hfw : FrW I I9 := fun t b j s _ q _ => hf9 t b j s (fun z => q (by omega))
          have hs9 : SI I9 (gA g) := ⟨(hf9 30 0 0 3 (by decide)).trans hh.1.1, (hf9 30 0 0 4 (by decide)).trans hh.1.2.1, hh.1.2.2.fr (fun x => hf9 31 0 0 x (by decide))⟩
          refine w_iconst (v := 0) dX11_read_53 (by decide) ?_
          refine w_istore (ls' := [some (vR 30 0 0), some (vI (nI k)), some (vI (nI l)), some (vI (f)), some (vI (nI n)), some (vI (0)), none, none, none, none, none]) dX11_read_54 rfl ?_
          refine w_iconst (v := 0) dX11_read_56 (by decide) ?_
          refine w_istore (ls' := [some (vR 30 0 0), some (vI (nI k)), some (vI (nI l)), some (vI (f)), some (vI (nI n)), some (vI (0)), some (vI (0)), none, none, none, none]) dX11_read_57 rfl ?_
          refine w_iconst (v := 0) dX11_read_59 (by decide) ?_
          refine w_istore (ls' := [some (vR 30 0 0), some (vI (nI k)), some (vI (nI l)), some (vI (f)), some (vI (nI n)), some (vI (0)), some (vI (0)), some (vI (0)), none, none, none]) dX11_read_60 rfl ?_
          refine w_iload dX11_read_62 rfl ?_
          refine w_iload dX11_read_64 rfl ?_
          refine w_icmp_ge (tgt := 259) dX11_read_66 (by decide) (fun h1 => ?_) (fun h1 => ?_)
          · skip
            replace h1 : ((n : Nat) : Int) ≤ 0 := (zle (z_nI (by omega)) (by decide)).mp h1
            first
            | (exfalso; omega)
            | skip
              exact l_readEndM hg hh (c := 0) (t := 3) (b := gA g) hs9 hfw
          · skip
            replace h1 : ¬ (((n : Nat) : Int) ≤ 0) := fun q => h1 ((zle (z_nI (by omega)) (by decide)).mpr q)
            first
            | (exfalso; omega)
            | skip
              refine w_iload dX11_read_69 rfl ?_
              refine w_if_ne (tgt := 259) dX11_read_71 (by decide) (fun h => absurd (by decide) h) (fun _ => ?_)
              refine w_iconst (v := 0) dX11_read_74 (by decide) ?_
              refine w_istore (ls' := [some (vR 30 0 0), some (vI (nI k)), some (vI (nI l)), some (vI (f)), some (vI (nI n)), some (vI (0)), some (vI (0)), some (vI (0)), some (vI (0)), none, none]) dX11_read_75 rfl ?_
              refine w_iload dX11_read_77 rfl ?_
              refine w_iconst (v := 3) dX11_read_79 (by decide) ?_
              refine w_icmp_ge (tgt := 164) dX11_read_80 (by decide) (fun h => absurd h (by decide)) (fun _ => ?_)
              refine w_iload dX11_read_83 rfl ?_
              refine w_if_ne (tgt := 164) dX11_read_85 (by decide) (fun h => absurd (by decide) h) (fun _ => ?_)
              refine w_iload_n dX11_read_88 rfl ?_
              refine w_i2l dX11_read_89 ?_
              refine w_iconst (v := 3) dX11_read_90 (by decide) ?_
              refine w_iload dX11_read_91 rfl ?_
              refine w_imul dX11_read_93 ?_
              rw [show ((3) * (0) : Int32) = nI (0) from ar_mul (p := 3) (q := 0) rfl rfl (by first | rfl | omega)]
              refine w_i2l dX11_read_94 ?_
              refine w_ladd dX11_read_95 ?_
              refine w_iload dX11_read_96 rfl ?_
              refine w_i2l dX11_read_98 ?_
              refine w_ladd dX11_read_99 ?_
              refine w_lstore (ls' := [some (vR 30 0 0), some (vI (nI k)), some (vI (nI l)), some (vI (f)), some (vI (nI n)), some (vI (0)), some (vI (0)), some (vI (0)), some (vI (0)), some (vL ((((f : Int32).toInt64) + ((nI (0) : Int32).toInt64)) + ((0 : Int32).toInt64))), none]) dX11_read_100 rfl ?_
              refine w_aload_n dX11_read_102 rfl ?_
              refine w_getR (w := some (37, 0, 0)) ff_X11_29 rfl rfl dX11_read_103 rfl ?_
              refine w_iload_n dX11_read_106 rfl ?_
              refine w_iaload (a := k) rfl (vp_in_nI (n := k) (by omega) (by omega)) (nI_clamp (n := k) (by omega)) dX11_read_107 ?_
              rw [show (I9 37 0 0 (k) : Int32) = nI q.1 from (hf9 37 0 0 k (by decide)).trans s1]
              refine w_bipush (v := (-4)) dX11_read_108 (by decide) ?_
              refine w_icmp_ne (tgt := 117) dX11_read_110 (by decide) (fun _ => ?_) (fun h => absurd h (nI_m4 q.1 (by omega)))
              refine w_aload_n dX11_read_117 rfl ?_
              refine w_getR (w := some (37, 0, 0)) ff_X11_29 rfl rfl dX11_read_118 rfl ?_
              refine w_iload_n dX11_read_121 rfl ?_
              refine w_iaload (a := k) rfl (vp_in_nI (n := k) (by omega) (by omega)) (nI_clamp (n := k) (by omega)) dX11_read_122 ?_
              rw [show (I9 37 0 0 (k) : Int32) = nI q.1 from (hf9 37 0 0 k (by decide)).trans s1]
              refine w_iload_n dX11_read_123 rfl ?_
              refine w_icmp_eq (tgt := 131) dX11_read_124 (by decide) (fun h => absurd h ((fun z => hl ((nI_eq (by omega) (by omega)).mp z).symm))) (fun _ => ?_)
              refine w_iconst (v := 3) dX11_read_127 (by decide) ?_
              refine w_goto (tgt := 156) dX11_read_128 (by decide) ?_
              refine w_istore (ls' := [some (vR 30 0 0), some (vI (nI k)), some (vI (nI l)), some (vI (f)), some (vI (nI n)), some (vI (3)), some (vI (0)), some (vI (0)), some (vI (0)), some (vL ((((f : Int32).toInt64) + ((nI (0) : Int32).toInt64)) + ((0 : Int32).toInt64))), none]) dX11_read_156 rfl ?_
              refine w_iinc (v := 1) (ls' := [some (vR 30 0 0), some (vI (nI k)), some (vI (nI l)), some (vI (f)), some (vI (nI n)), some (vI (3)), some (vI (0)), some (vI (0)), some (vI (1)), some (vL ((((f : Int32).toInt64) + ((nI (0) : Int32).toInt64)) + ((0 : Int32).toInt64))), none]) dX11_read_158 rfl (by decide) rfl ?_
              refine w_goto (tgt := 77) dX11_read_161 (by decide) ?_
              refine w_iload dX11_read_77 rfl ?_
              refine w_iconst (v := 3) dX11_read_79 (by decide) ?_
              refine w_icmp_ge (tgt := 164) dX11_read_80 (by decide) (fun h => absurd h (by decide)) (fun _ => ?_)
              refine w_iload dX11_read_83 rfl ?_
              refine w_if_ne (tgt := 164) dX11_read_85 (by decide) (fun _ => ?_) (fun h => absurd h (by decide))
              refine w_iload dX11_read_164 rfl ?_
              refine w_if_ne (tgt := 253) dX11_read_166 (by decide) (fun _ => ?_) (fun h => absurd h (by decide))
              refine w_iinc (v := 1) (ls' := [some (vR 30 0 0), some (vI (nI k)), some (vI (nI l)), some (vI (f)), some (vI (nI n)), some (vI (3)), some (vI (0)), some (vI (1)), some (vI (1)), some (vL ((((f : Int32).toInt64) + ((nI (0) : Int32).toInt64)) + ((0 : Int32).toInt64))), none]) dX11_read_253 rfl (by decide) rfl ?_
              refine w_goto (tgt := 62) dX11_read_256 (by decide) ?_
              refine w_iload dX11_read_62 rfl ?_
              refine w_iload dX11_read_64 rfl ?_
              refine w_icmp_ge (tgt := 259) dX11_read_66 (by decide) (fun h2 => ?_) (fun h2 => ?_)
              · skip
                replace h2 : ((n : Nat) : Int) ≤ 1 := (zle (z_nI (by omega)) (by decide)).mp h2
                first
                | (exfalso; omega)
                | skip
                  exact l_readEndM hg hh (c := 0) (t := 3) (b := gA g) hs9 hfw
              · skip
                replace h2 : ¬ (((n : Nat) : Int) ≤ 1) := fun q => h2 ((zle (z_nI (by omega)) (by decide)).mpr q)
                first
                | (exfalso; omega)
                | skip
                  refine w_iload dX11_read_69 rfl ?_
                  refine w_if_ne (tgt := 259) dX11_read_71 (by decide) (fun _ => ?_) (fun h => absurd h (by decide))
                  exact l_readEndM hg hh (c := 0) (t := 3) (b := gA g) hs9 hfw
      · skip
        first
        | (exfalso; omega)
        | skip
          refine w_iconst (v := (-1)) dX11_read_21 (by decide) ?_
          exfalso
          omega

theorem p_read_w {I : xF4 Int32} {L : xF4 Int64} {g : gG} (hg : WG g) (hh : CH I g) {k l : Nat} (hk : k < 4) (hl : l < 3) {f n : Int32} (hx : n.toInt < 0 ∨ 13 < n.toInt) : Tri 19 109 m_X10_read [vR 0 0 0, vI (nI k), vI (nI l), vI (f), vI (n)] (rM I L) (pCq (vI (-1)) I) := by
  refine ⟨k_X10_read, Nat.le_of_ble_eq_true rfl, ?_⟩
  show Wp _ _ _ 0 [some (vR 0 0 0), some (vI (nI k)), some (vI (nI l)), some (vI (f)), some (vI (n)), none, none, none, none, none, none, none] [] (rM I L) _
  obtain ⟨hw, hd9, hgi, ht160, htb, hgs⟩ := id hg
  obtain ⟨hJ, hC, hG, hD, hR, -⟩ := id hw
  refine w_aload_n dX10_read_0 rfl ?_
  refine w_iload_n dX10_read_1 rfl ?_
  refine w_callV (as := [vI (nI k)]) (st := []) (Tri.mono (c_sheetAt (i := k) hk) (Nat.le_of_ble_eq_true rfl)) rfl rfl tg_X10_sheetAt lk_X10_302 in_X10_sheetAt se_X10_sheetAt rfl dX10_read_2 rfl (Nat.le_of_ble_eq_true rfl) (Nat.le_refl _) (Nat.le_refl _) ?_
  rintro _ _ ⟨rfl, rfl⟩ -
  refine w_astore (ls' := [some (vR 0 0 0), some (vI (nI k)), some (vI (nI l)), some (vI (f)), some (vI (n)), some (vR 20 k 0), none, none, none, none, none, none]) dX10_read_5 rfl ?_
  refine w_aload dX10_read_7 rfl ?_
  refine w_ifnull (tgt := 32) dX10_read_9 (by decide) (fun h => by cases h) (fun _ _ => ?_)
  refine w_iload_n dX10_read_12 rfl ?_
  refine w_iconst (v := 0) dX10_read_13 (by decide) ?_
  refine w_iconst (v := 2) dX10_read_14 (by decide) ?_
  refine w_callS (as := [vI (nI l), vI (0), vI (2)]) (st := []) (Tri.mono (c_X10_within (nI l) (0) (2)) (Nat.le_of_ble_eq_true rfl)) tg_X10_within lk_X10_158 sa_X10_within rfl dX10_read_15 rfl (Nat.le_of_ble_eq_true rfl) (Nat.le_refl _) (Nat.le_refl _) ?_
  rintro _ _ ⟨rfl, rfl⟩ -
  refine w_top (y := bI (0 ≤ ((l : Nat) : Int) ∧ ((l : Nat) : Int) ≤ 2)) (show (bI ((0 : Int32) ≤ (nI l) ∧ (nI l) ≤ (2 : Int32)) : Int32) = bI (0 ≤ ((l : Nat) : Int) ∧ ((l : Nat) : Int) ≤ 2) from wiZ (X := ((l : Nat) : Int)) (A := 0) (B := 2) (z_nI (by omega)) (by decide) (by decide)) ?_
  refine w_ifeq_b (tgt := 32) dX10_read_18 (by decide) (fun h1 => ?_) (fun h1 => ?_)
  · skip
    first
    | (exfalso; omega)
    | skip
      refine w_iconst (v := (-1)) dX10_read_32 (by decide) ?_
      exact w_ireturn dX10_read_33 rfl (rfl) rfl (⟨rfl, _, _, rfl, FrQ.rf⟩)
  · skip
    first
    | (exfalso; omega)
    | skip
      refine w_iload dX10_read_21 rfl ?_
      refine w_iconst (v := 0) dX10_read_23 (by decide) ?_
      refine w_bipush (v := 13) dX10_read_24 (by decide) ?_
      refine w_callS (as := [vI (n), vI (0), vI (13)]) (st := []) (Tri.mono (c_X10_within (n) (0) (13)) (Nat.le_of_ble_eq_true rfl)) tg_X10_within lk_X10_158 sa_X10_within rfl dX10_read_26 rfl (Nat.le_of_ble_eq_true rfl) (Nat.le_refl _) (Nat.le_refl _) ?_
      rintro _ _ ⟨rfl, rfl⟩ -
      refine w_top (y := bI (0 ≤ n.toInt ∧ n.toInt ≤ 13)) (show (bI ((0 : Int32) ≤ (n) ∧ (n) ≤ (13 : Int32)) : Int32) = bI (0 ≤ n.toInt ∧ n.toInt ≤ 13) from wiZ (X := n.toInt) (A := 0) (B := 13) rfl (by decide) (by decide)) ?_
      refine w_ifne_b (tgt := 34) dX10_read_29 (by decide) (fun h2 => ?_) (fun h2 => ?_)
      · skip
        first
        | (exfalso; omega)
        | skip
          exfalso
          omega
      · skip
        first
        | (exfalso; omega)
        | skip
          refine w_iconst (v := (-1)) dX10_read_32 (by decide) ?_
          exact w_ireturn dX10_read_33 rfl (rfl) rfl (⟨rfl, _, _, rfl, FrQ.rf⟩)

theorem q_read_w {I : xF4 Int32} {L : xF4 Int64} {g : gG} (hg : WG g) (hh : MH I g) {k l : Nat} (hk : k < 4) (hl : l < 3) {f n : Int32} (hx : n.toInt < 0 ∨ 13 < n.toInt) : Tri 19 109 m_X11_read [vR 30 0 0, vI (nI k), vI (nI l), vI (f), vI (n)] (rM I L) (pMq (vI (-1)) I) := by
  refine ⟨k_X11_read, Nat.le_of_ble_eq_true rfl, ?_⟩
  show Wp _ _ _ 0 [some (vR 30 0 0), some (vI (nI k)), some (vI (nI l)), some (vI (f)), some (vI (n)), none, none, none, none, none, none] [] (rM I L) _
  obtain ⟨hw, hd9, hgi, ht160, htb, hgs⟩ := id hg
  obtain ⟨hJ, hC, hG, hD, hR, -⟩ := id hw
  refine w_iload_n dX11_read_0 rfl ?_
  refine w_iload_n dX11_read_1 rfl ?_
  refine w_callS (as := [vI (nI k), vI (nI l)]) (st := []) (Tri.mono (d_isSheet (x := nI k) (X := ((k : Nat) : Int)) (z_nI (by omega)) (y := nI l) (Y := ((l : Nat) : Int)) (z_nI (by omega))) (Nat.le_of_ble_eq_true rfl)) tg_X11_isSheet lk_X11_302 sa_X11_isSheet rfl dX11_read_2 rfl (Nat.le_of_ble_eq_true rfl) (Nat.le_refl _) (Nat.le_refl _) ?_
  rintro _ _ ⟨rfl, rfl⟩ -
  refine w_ifeq_b (tgt := 21) dX11_read_5 (by decide) (fun h1 => ?_) (fun h1 => ?_)
  · skip
    first
    | (exfalso; omega)
    | skip
      refine w_iconst (v := (-1)) dX11_read_21 (by decide) ?_
      exact w_ireturn dX11_read_22 rfl (rfl) rfl (⟨rfl, _, _, rfl, FrR.rf⟩)
  · skip
    first
    | (exfalso; omega)
    | skip
      refine w_iload dX11_read_8 rfl ?_
      refine w_i2l dX11_read_10 ?_
      refine w_lconst (v := 0) dX11_read_11 (by decide) ?_
      refine w_ldc2 dX11_read_12 cq_X11_305 ?_
      refine w_callS (as := [vL ((n : Int32).toInt64), vL (0), vL (13)]) (st := []) (Tri.mono (d_in ((n : Int32).toInt64) (0) (13)) (Nat.le_of_ble_eq_true rfl)) tg_X11_in lk_X11_66 sa_X11_in rfl dX11_read_15 rfl (Nat.le_of_ble_eq_true rfl) (Nat.le_refl _) (Nat.le_refl _) ?_
      rintro _ _ ⟨rfl, rfl⟩ -
      refine w_top (y := bI (0 ≤ n.toInt ∧ n.toInt ≤ 13)) (show (bI ((0 : Int64) ≤ ((n : Int32).toInt64) ∧ ((n : Int32).toInt64) ≤ (13 : Int64)) : Int32) = bI (0 ≤ n.toInt ∧ n.toInt ≤ 13) from inZ (x := n) (l := 0) (h := 13) (X := n.toInt) (A := 0) (B := 13) rfl (by decide) (by decide) rfl (by decide) (by decide)) ?_
      refine w_ifne_b (tgt := 23) dX11_read_18 (by decide) (fun h2 => ?_) (fun h2 => ?_)
      · skip
        first
        | (exfalso; omega)
        | skip
          exfalso
          omega
      · skip
        first
        | (exfalso; omega)
        | skip
          refine w_iconst (v := (-1)) dX11_read_21 (by decide) ?_
          exact w_ireturn dX11_read_22 rfl (rfl) rfl (⟨rfl, _, _, rfl, FrR.rf⟩)

theorem p_read_o {I : xF4 Int32} {L : xF4 Int64} {g : gG} (hg : WG g) (hh : CH I g) {k : Nat} (hk : k < 4) {l f n : Int32} (hx : l.toInt < 0 ∨ ((3 : Nat) : Int) ≤ l.toInt) : Tri 19 109 m_X10_read [vR 0 0 0, vI (nI k), vI (l), vI (f), vI (n)] (rM I L) (pCq (vI (-1)) I) := by
  refine ⟨k_X10_read, Nat.le_of_ble_eq_true rfl, ?_⟩
  show Wp _ _ _ 0 [some (vR 0 0 0), some (vI (nI k)), some (vI (l)), some (vI (f)), some (vI (n)), none, none, none, none, none, none, none] [] (rM I L) _
  obtain ⟨hw, hd9, hgi, ht160, htb, hgs⟩ := id hg
  obtain ⟨hJ, hC, hG, hD, hR, -⟩ := id hw
  refine w_aload_n dX10_read_0 rfl ?_
  refine w_iload_n dX10_read_1 rfl ?_
  refine w_callV (as := [vI (nI k)]) (st := []) (Tri.mono (c_sheetAt (i := k) hk) (Nat.le_of_ble_eq_true rfl)) rfl rfl tg_X10_sheetAt lk_X10_302 in_X10_sheetAt se_X10_sheetAt rfl dX10_read_2 rfl (Nat.le_of_ble_eq_true rfl) (Nat.le_refl _) (Nat.le_refl _) ?_
  rintro _ _ ⟨rfl, rfl⟩ -
  refine w_astore (ls' := [some (vR 0 0 0), some (vI (nI k)), some (vI (l)), some (vI (f)), some (vI (n)), some (vR 20 k 0), none, none, none, none, none, none]) dX10_read_5 rfl ?_
  refine w_aload dX10_read_7 rfl ?_
  refine w_ifnull (tgt := 32) dX10_read_9 (by decide) (fun h => by cases h) (fun _ _ => ?_)
  refine w_iload_n dX10_read_12 rfl ?_
  refine w_iconst (v := 0) dX10_read_13 (by decide) ?_
  refine w_iconst (v := 2) dX10_read_14 (by decide) ?_
  refine w_callS (as := [vI (l), vI (0), vI (2)]) (st := []) (Tri.mono (c_X10_within (l) (0) (2)) (Nat.le_of_ble_eq_true rfl)) tg_X10_within lk_X10_158 sa_X10_within rfl dX10_read_15 rfl (Nat.le_of_ble_eq_true rfl) (Nat.le_refl _) (Nat.le_refl _) ?_
  rintro _ _ ⟨rfl, rfl⟩ -
  refine w_top (y := bI (0 ≤ l.toInt ∧ l.toInt ≤ 2)) (show (bI ((0 : Int32) ≤ (l) ∧ (l) ≤ (2 : Int32)) : Int32) = bI (0 ≤ l.toInt ∧ l.toInt ≤ 2) from wiZ (X := l.toInt) (A := 0) (B := 2) rfl (by decide) (by decide)) ?_
  refine w_ifeq_b (tgt := 32) dX10_read_18 (by decide) (fun h1 => ?_) (fun h1 => ?_)
  · skip
    first
    | (exfalso; omega)
    | skip
      refine w_iconst (v := (-1)) dX10_read_32 (by decide) ?_
      exact w_ireturn dX10_read_33 rfl (rfl) rfl (⟨rfl, _, _, rfl, FrQ.rf⟩)
  · skip
    first
    | (exfalso; omega)
    | skip
      refine w_iload dX10_read_21 rfl ?_
      refine w_iconst (v := 0) dX10_read_23 (by decide) ?_
      refine w_bipush (v := 13) dX10_read_24 (by decide) ?_
      refine w_callS (as := [vI (n), vI (0), vI (13)]) (st := []) (Tri.mono (c_X10_within (n) (0) (13)) (Nat.le_of_ble_eq_true rfl)) tg_X10_within lk_X10_158 sa_X10_within rfl dX10_read_26 rfl (Nat.le_of_ble_eq_true rfl) (Nat.le_refl _) (Nat.le_refl _) ?_
      rintro _ _ ⟨rfl, rfl⟩ -
      refine w_top (y := bI (0 ≤ n.toInt ∧ n.toInt ≤ 13)) (show (bI ((0 : Int32) ≤ (n) ∧ (n) ≤ (13 : Int32)) : Int32) = bI (0 ≤ n.toInt ∧ n.toInt ≤ 13) from wiZ (X := n.toInt) (A := 0) (B := 13) rfl (by decide) (by decide)) ?_
      refine w_ifne_b (tgt := 34) dX10_read_29 (by decide) (fun h2 => ?_) (fun h2 => ?_)
      · skip
        first
        | (exfalso; omega)
        | skip
          exfalso
          omega
      · skip
        first
        | (exfalso; omega)
        | skip
          refine w_iconst (v := (-1)) dX10_read_32 (by decide) ?_
          exact w_ireturn dX10_read_33 rfl (rfl) rfl (⟨rfl, _, _, rfl, FrQ.rf⟩)

theorem q_read_o {I : xF4 Int32} {L : xF4 Int64} {g : gG} (hg : WG g) (hh : MH I g) {k : Nat} (hk : k < 4) {l f n : Int32} (hx : l.toInt < 0 ∨ ((3 : Nat) : Int) ≤ l.toInt) : Tri 19 109 m_X11_read [vR 30 0 0, vI (nI k), vI (l), vI (f), vI (n)] (rM I L) (pMq (vI (-1)) I) := by
  refine ⟨k_X11_read, Nat.le_of_ble_eq_true rfl, ?_⟩
  show Wp _ _ _ 0 [some (vR 30 0 0), some (vI (nI k)), some (vI (l)), some (vI (f)), some (vI (n)), none, none, none, none, none, none] [] (rM I L) _
  obtain ⟨hw, hd9, hgi, ht160, htb, hgs⟩ := id hg
  obtain ⟨hJ, hC, hG, hD, hR, -⟩ := id hw
  refine w_iload_n dX11_read_0 rfl ?_
  refine w_iload_n dX11_read_1 rfl ?_
  refine w_callS (as := [vI (nI k), vI (l)]) (st := []) (Tri.mono (d_isSheet (x := nI k) (X := ((k : Nat) : Int)) (z_nI (by omega)) (y := l) (Y := l.toInt) rfl) (Nat.le_of_ble_eq_true rfl)) tg_X11_isSheet lk_X11_302 sa_X11_isSheet rfl dX11_read_2 rfl (Nat.le_of_ble_eq_true rfl) (Nat.le_refl _) (Nat.le_refl _) ?_
  rintro _ _ ⟨rfl, rfl⟩ -
  refine w_ifeq_b (tgt := 21) dX11_read_5 (by decide) (fun h1 => ?_) (fun h1 => ?_)
  · skip
    first
    | (exfalso; omega)
    | skip
      refine w_iconst (v := (-1)) dX11_read_21 (by decide) ?_
      exact w_ireturn dX11_read_22 rfl (rfl) rfl (⟨rfl, _, _, rfl, FrR.rf⟩)
  · skip
    first
    | (exfalso; omega)
    | skip
      refine w_iload dX11_read_8 rfl ?_
      refine w_i2l dX11_read_10 ?_
      refine w_lconst (v := 0) dX11_read_11 (by decide) ?_
      refine w_ldc2 dX11_read_12 cq_X11_305 ?_
      refine w_callS (as := [vL ((n : Int32).toInt64), vL (0), vL (13)]) (st := []) (Tri.mono (d_in ((n : Int32).toInt64) (0) (13)) (Nat.le_of_ble_eq_true rfl)) tg_X11_in lk_X11_66 sa_X11_in rfl dX11_read_15 rfl (Nat.le_of_ble_eq_true rfl) (Nat.le_refl _) (Nat.le_refl _) ?_
      rintro _ _ ⟨rfl, rfl⟩ -
      refine w_top (y := bI (0 ≤ n.toInt ∧ n.toInt ≤ 13)) (show (bI ((0 : Int64) ≤ ((n : Int32).toInt64) ∧ ((n : Int32).toInt64) ≤ (13 : Int64)) : Int32) = bI (0 ≤ n.toInt ∧ n.toInt ≤ 13) from inZ (x := n) (l := 0) (h := 13) (X := n.toInt) (A := 0) (B := 13) rfl (by decide) (by decide) rfl (by decide) (by decide)) ?_
      refine w_ifne_b (tgt := 23) dX11_read_18 (by decide) (fun h2 => ?_) (fun h2 => ?_)
      · skip
        first
        | (exfalso; omega)
        | skip
          exfalso
          omega
      · skip
        first
        | (exfalso; omega)
        | skip
          refine w_iconst (v := (-1)) dX11_read_21 (by decide) ?_
          exact w_ireturn dX11_read_22 rfl (rfl) rfl (⟨rfl, _, _, rfl, FrR.rf⟩)

theorem p_read_k {I : xF4 Int32} {L : xF4 Int64} {g : gG} (hg : WG g) (hh : CH I g) {k l f n : Int32} (hx : k.toInt < 0 ∨ ((4 : Nat) : Int) ≤ k.toInt) : Tri 19 109 m_X10_read [vR 0 0 0, vI (k), vI (l), vI (f), vI (n)] (rM I L) (pCq (vI (-1)) I) := by
  refine ⟨k_X10_read, Nat.le_of_ble_eq_true rfl, ?_⟩
  show Wp _ _ _ 0 [some (vR 0 0 0), some (vI (k)), some (vI (l)), some (vI (f)), some (vI (n)), none, none, none, none, none, none, none] [] (rM I L) _
  obtain ⟨hw, hd9, hgi, ht160, htb, hgs⟩ := id hg
  obtain ⟨hJ, hC, hG, hD, hR, -⟩ := id hw
  refine w_aload_n dX10_read_0 rfl ?_
  refine w_iload_n dX10_read_1 rfl ?_
  refine w_callV (as := [vI (k)]) (st := []) (Tri.mono (c_sheetAtO (by omega)) (Nat.le_of_ble_eq_true rfl)) rfl rfl tg_X10_sheetAt lk_X10_302 in_X10_sheetAt se_X10_sheetAt rfl dX10_read_2 rfl (Nat.le_of_ble_eq_true rfl) (Nat.le_refl _) (Nat.le_refl _) ?_
  rintro _ _ ⟨rfl, rfl⟩ -
  refine w_astore (ls' := [some (vR 0 0 0), some (vI (k)), some (vI (l)), some (vI (f)), some (vI (n)), some (vN), none, none, none, none, none, none]) dX10_read_5 rfl ?_
  refine w_aload dX10_read_7 rfl ?_
  refine w_ifnull (tgt := 32) dX10_read_9 (by decide) (fun _ => ?_) (fun _ h => by cases h)
  refine w_iconst (v := (-1)) dX10_read_32 (by decide) ?_
  exact w_ireturn dX10_read_33 rfl (rfl) rfl (⟨rfl, _, _, rfl, FrQ.rf⟩)

theorem q_read_k {I : xF4 Int32} {L : xF4 Int64} {g : gG} (hg : WG g) (hh : MH I g) {k l f n : Int32} (hx : k.toInt < 0 ∨ ((4 : Nat) : Int) ≤ k.toInt) : Tri 19 109 m_X11_read [vR 30 0 0, vI (k), vI (l), vI (f), vI (n)] (rM I L) (pMq (vI (-1)) I) := by
  refine ⟨k_X11_read, Nat.le_of_ble_eq_true rfl, ?_⟩
  show Wp _ _ _ 0 [some (vR 30 0 0), some (vI (k)), some (vI (l)), some (vI (f)), some (vI (n)), none, none, none, none, none, none] [] (rM I L) _
  obtain ⟨hw, hd9, hgi, ht160, htb, hgs⟩ := id hg
  obtain ⟨hJ, hC, hG, hD, hR, -⟩ := id hw
  refine w_iload_n dX11_read_0 rfl ?_
  refine w_iload_n dX11_read_1 rfl ?_
  refine w_callS (as := [vI (k), vI (l)]) (st := []) (Tri.mono (d_isSheet (x := k) (X := k.toInt) rfl (y := l) (Y := l.toInt) rfl) (Nat.le_of_ble_eq_true rfl)) tg_X11_isSheet lk_X11_302 sa_X11_isSheet rfl dX11_read_2 rfl (Nat.le_of_ble_eq_true rfl) (Nat.le_refl _) (Nat.le_refl _) ?_
  rintro _ _ ⟨rfl, rfl⟩ -
  refine w_ifeq_b (tgt := 21) dX11_read_5 (by decide) (fun h1 => ?_) (fun h1 => ?_)
  · skip
    first
    | (exfalso; omega)
    | skip
      refine w_iconst (v := (-1)) dX11_read_21 (by decide) ?_
      exact w_ireturn dX11_read_22 rfl (rfl) rfl (⟨rfl, _, _, rfl, FrR.rf⟩)
  · skip
    first
    | (exfalso; omega)
    | skip
      refine w_iload dX11_read_8 rfl ?_
      refine w_i2l dX11_read_10 ?_
      refine w_lconst (v := 0) dX11_read_11 (by decide) ?_
      refine w_ldc2 dX11_read_12 cq_X11_305 ?_
      refine w_callS (as := [vL ((n : Int32).toInt64), vL (0), vL (13)]) (st := []) (Tri.mono (d_in ((n : Int32).toInt64) (0) (13)) (Nat.le_of_ble_eq_true rfl)) tg_X11_in lk_X11_66 sa_X11_in rfl dX11_read_15 rfl (Nat.le_of_ble_eq_true rfl) (Nat.le_refl _) (Nat.le_refl _) ?_
      rintro _ _ ⟨rfl, rfl⟩ -
      refine w_top (y := bI (0 ≤ n.toInt ∧ n.toInt ≤ 13)) (show (bI ((0 : Int64) ≤ ((n : Int32).toInt64) ∧ ((n : Int32).toInt64) ≤ (13 : Int64)) : Int32) = bI (0 ≤ n.toInt ∧ n.toInt ≤ 13) from inZ (x := n) (l := 0) (h := 13) (X := n.toInt) (A := 0) (B := 13) rfl (by decide) (by decide) rfl (by decide) (by decide)) ?_
      refine w_ifne_b (tgt := 23) dX11_read_18 (by decide) (fun h2 => ?_) (fun h2 => ?_)
      · skip
        first
        | (exfalso; omega)
        | skip
          exfalso
          omega
      · skip
        first
        | (exfalso; omega)
        | skip
          refine w_iconst (v := (-1)) dX11_read_21 (by decide) ?_
          exact w_ireturn dX11_read_22 rfl (rfl) rfl (⟨rfl, _, _, rfl, FrR.rf⟩)
