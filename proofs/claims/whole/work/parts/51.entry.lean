/-! from the entry to the loop (by wip/whole/gen/g51.py) -/
/-- the reference's constructor, behind all else that was made -/
abbrev MadeSim (Inv : xF4 Int32 → xF4 Int64 → Prop) : Prop := Tri 20 109 m_X11_init [vR 30 0 0] (99, (xz (jfR (xz zR 0 0 0 none)) 30 0 0 none, (xz (jfI (xz zI 0 0 0 0)) 30 0 0 0, xz (jfL (xz zL 0 0 0 0)) 30 0 0 0))) (fun v M => v = none ∧ ∃ I1 L1, M = rM I1 L1 ∧ Inv I1 L1)
theorem law_walk {Inv : xF4 Int32 → xF4 Int64 → Prop} (hA : AllSim Inv) (hM : MadeSim Inv) {S : Nat × (Nat → Int32)} (hL : S.1 ≤ 2560) : Wp 21 109 (m_law S) 0 [some (vR 99 0 0), none, none, none] [] (0, (zR, (zI, zL))) (fun v _ => v = some (vI 1)) := by
  refine w_new (t := 0) (k := 0) (j := 0) nw_L_7 rfl rfl (by decide) (by decide) dL_law_0 ?_
  refine w_dup dL_law_3 rfl ?_
  refine w_callI (n1 := 98) (as := []) (st := [vR 0 0 0]) (Tri.mono (c_jf) (Nat.le_of_ble_eq_true rfl)) rfl rfl tg_X10_init lk_RL_9 in_X10_init rfl dL_law_4 rfl (Nat.le_of_ble_eq_true rfl) (Nat.le_of_ble_eq_true rfl) (Nat.le_of_ble_eq_true rfl) ?_
  rintro _ _ ⟨rfl, rfl⟩ -
  refine w_astore_n (ls' := [some (vR 99 0 0), some (vR 0 0 0), none, none]) dL_law_7 rfl ?_
  refine w_new (t := 30) (k := 0) (j := 0) nw_L_10 rfl rfl (by decide) (by decide) dL_law_8 ?_
  refine w_dup dL_law_11 rfl ?_
  refine w_callI (n1 := 109) (as := []) (st := [vR 30 0 0]) (Tri.mono hM (Nat.le_of_ble_eq_true rfl)) rfl rfl tg_X11_init lk_RL_12 in_X11_init rfl dL_law_12 rfl (Nat.le_of_ble_eq_true rfl) (Nat.le_of_ble_eq_true rfl) (Nat.le_of_ble_eq_true rfl) ?_
  rintro _ _ ⟨rfl, I1, L1, rfl, hI⟩ -
  refine w_astore_n (ls' := [some (vR 99 0 0), some (vR 0 0 0), some (vR 30 0 0), none]) dL_law_15 rfl ?_
  refine w_iconst (v := 0) dL_law_16 (by decide) ?_
  refine w_istore_n (ls' := [some (vR 99 0 0), some (vR 0 0 0), some (vR 30 0 0), some (vI (0))]) dL_law_17 rfl ?_
  exact law_loop hA hL (S.1 + 1) 0 I1 L1 (by omega) hI

theorem xCum_all : xCum 109 ≤ 7302250 := by decide +kernel
set_option maxHeartbeats 4000000 in
theorem start_of {Inv : xF4 Int32 → xF4 Int64 → Prop} (hA : AllSim Inv) (hM : MadeSim Inv) {p : Program} {e : Env} {s : State} {m : MethodId} {below : List Frame} {meth : Method} {c : Code} (l : Launch) {b L : Nat} {xs : Nat → Int32} (hL : L ≤ 2560) (C0 : lw_At p s m meth c b L xs) : W p l e room_1 s m #[Value.ref b] below meth c s.heap [] 0 0 (lw_Z below #[Value.ref b] s) (entryFrame m ([Value.ref b] : List Value).toArray 4) := by
  obtain ⟨sa, D, cA, hC⟩ := law_ctx C0
  obtain ⟨hx, hb, hr, hml, hown, hts, hX, hbl, hlocks, hgv⟩ := C0
  have hw := (law_walk hA hM (S := (L, xs)) hL).mono (show 21 ≤ 30 by decide)
  rw [lg_entry_eq]
  have hl := xEntry_has (loc := fun _ => b) (sa := sa) (maxL := 4) (as := [vR 99 0 0]) (Nat.le_of_ble_eq_true rfl)
  have hrep : xRep D cA (fun _ => b) (fun q => s.heap.size ≤ q) (0, (zR, (zI, zL))) s.heap := by
    refine ⟨fun k q h => ?_, ⟨fun i j p q h => ?_, fun k q h => ?_⟩, Nat.zero_le _, fun i s x h hx => by cases hx⟩
    · unfold xW at h; simp at h
    · unfold xW at h; simp at h
    · unfold xW at h; simp at h
  refine hw l p e room_1 s m #[Value.ref b] below meth c sa D cA (fun q => s.heap.size ≤ q) (fun _ => b) s.heap [] 0 0 _ (lw_Z below #[Value.ref b] s) hC hrep va_S.rf hl rfl ?_ trivial (Nat.zero_le _) (Nat.le_of_ble_eq_true rfl) ?_ ?_
  · intro i v hi
    match i, hi with
    | 0, hi => cases hi; exact Or.inl rfl
    | 1, hi => cases hi
    | 2, hi => cases hi
    | 3, hi => cases hi
    | i + 4, hi => cases hi
  · show 0 + (xCum 109 - xCum 0) ≤ 7302250
    have := xCum_all
    omega
  · intro v M' loc' H' locs' pc' lsA' hv hM' hag hP' hS' hok hret
    subst hv
    refine va_forget (fun q hq => hS'.2.2 q hq) ?_
    refine W.widen (k := 600000) (n := 7302250) (Nat.le_of_ble_eq_true rfl) ?_ ?_
    · show 0 + (xCum 109 - xCum 0) ≤ 7302250
      have := xCum_all
      omega
    · exact lw_ret hx hb hr hlocks hret.1

