/-! every call keeps the relation (by wip/whole/gen/g91.py) -/
theorem pr_ok {n : Nat} {b : Nat → Nat} {q : Nat × (Nat × (Nat × Nat))} : ∀ (k : Nat) (s : tS) (r : aA × Bool) (m : Nat), OKT n s → (∀ p, s = .inr p → DOK r.1) → (prT n b k (s, r) m).1.1 = .inr q → DOK (prT n b k (s, r) m).1.2.1
  | 0, s, r, m, _, hd, h => hd q h
  | k + 1, .inl p, r, m, _, hd, h => by cases h
  | k + 1, .inr p, r, m, hok, hd, h => by
    by_cases e : p.1 = 0
    · rw [show prT n b (k + 1) (.inr p, r) m = ((.inr p, r), m) from if_pos e]
      exact hd p rfl
    · rw [show prT n b (k + 1) (.inr p, r) m = prT n b k (tkT n b (lnT n b p r).1, (lnT n b p r).2) (m + 1) from if_neg e] at h ⊢
      refine pr_ok k _ _ _ (tk_ok (ln_ok hok)) (fun p' z => ?_) h
      obtain ⟨-, p1, e1⟩ := ln_st hok z
      exact ln_live (hd p rfl) e1
theorem tx_ok {g : gG} {q : Nat × (Nat × (Nat × Nat))} (h : (txG g).1.1 = .inr q) : DOK (txG g).1.2.1 := pr_ok 161 _ _ 0 (lex_ok (Nat.zero_le _)) (fun _ _ => DOK.z) h

theorem s_feed (I : xF4 Int32) (L : xF4 Int64) (a : Int32) (h : Inv I L) : SimI Inv m_X10_feed m_X11_feed [vI a] I L := by
  obtain ⟨g, hg, hc, hm⟩ := h
  have hw := hg.1
  have hd9 := hg.2.1
  have w1 := hw.1
  have w2 := hw.2.1
  have w3 := hw.2.2.1
  have w4 := hg.2.2.2.1
  rcases zcase a (n := 128) (by omega) with ⟨c1, h1, rfl⟩ | hx
  · skip
    by_cases h4 : gTn g < 160
    · skip
      exact sim_i (hg.tape (by omega) (fun i hi => by
          show (if i = gTn g then c1 else gTb g i) < 128
          split
          · exact h1
          · exact hg.2.2.2.2.1 i (by omega))) hm hc ((p_feed hg hc h1 h4).mono (by decide)) (fun I1 L1 hy => (q_feed hg hy h1 h4).mono (by decide))
    · skip
      exact sim_qi hg hm hc ((p_feed_f hg hc h1 (by omega)).mono (by decide)) (fun I1 L1 hy => (q_feed_f hg hy h1 (by omega)).mono (by decide))
  · skip
    exact sim_qi hg hm hc ((p_feed_c hg hc (by omega)).mono (by decide)) (fun I1 L1 hy => (q_feed_c hg hy (by omega)).mono (by decide))

theorem s_end (I : xF4 Int32) (L : xF4 Int64) (a : Int32) (h : Inv I L) : SimI Inv m_X10_end m_X11_end [vI a] I L := by
  obtain ⟨g, hg, hc, hm⟩ := h
  have hw := hg.1
  have hd9 := hg.2.1
  have w1 := hw.1
  have w2 := hw.2.1
  have w3 := hw.2.2.1
  have w4 := hg.2.2.2.1
  rcases zin a 0 (gTn g) (by omega) with ⟨n1, h1, h2, rfl⟩ | hx
  · skip
    exact sim_i (hg.tape (by omega) (fun i hi => hg.2.2.2.2.1 i (by omega))) hm hc ((p_end hg hc h2).mono (by decide)) (fun I1 L1 hy => (q_end hg hy h2).mono (by decide))
  · skip
    exact sim_qi hg hm hc ((p_end_n hg hc (by omega)).mono (by decide)) (fun I1 L1 hy => (q_end_n hg hy (by omega)).mono (by decide))

theorem s_text (I : xF4 Int32) (L : xF4 Int64)  (h : Inv I L) : SimI Inv m_X10_text m_X11_text [] I L := by
  obtain ⟨g, hg, hc, hm⟩ := h
  have hw := hg.1
  have hd9 := hg.2.1
  have w1 := hw.1
  have w2 := hw.2.1
  have w3 := hw.2.2.1
  have w4 := hg.2.2.2.1
  rcases hz : (txG g).1.1 with ⟨c, p⟩ | q
  · skip
    exact sim_i (show WG (txF g c) from ⟨hg.1, hg.2.1, hg.2.2.1, Nat.zero_le _, fun i hi => absurd hi (Nat.not_lt_zero _), hg.2.2.2.2.2⟩) hm hc ((p_text_f hg hc hz).mono (by decide)) (fun I1 L1 hy => (q_text_f hg hy hz).mono (by decide))
  · skip
    have hd := tx_ok hz
    have hd0 := hd.2.1
    exact sim_i (show WG (txO g (txG g).1.2.1) from ⟨hd.1, by show dY (txG g).1.2.1 ≤ 999; omega, fun k hk b hb => (by cases hb), Nat.zero_le _, fun i hi => absurd hi (Nat.not_lt_zero _), hg.2.2.2.2.2⟩) hm hc ((p_text hg hc hz).mono (by decide)) (fun I1 L1 hy => (q_text hg hy hz).mono (by decide))

theorem s_fault (I : xF4 Int32) (L : xF4 Int64)  (h : Inv I L) : SimI Inv m_X10_fault m_X11_fault [] I L := by
  obtain ⟨g, hg, hc, hm⟩ := h
  have hw := hg.1
  have hd9 := hg.2.1
  have w1 := hw.1
  have w2 := hw.2.1
  have w3 := hw.2.2.1
  have w4 := hg.2.2.2.1
  exact sim_qi hg hm hc ((p_fault hc).mono (by decide)) (fun I1 L1 hy => (q_fault hy).mono (by decide))

theorem s_torn (I : xF4 Int32) (L : xF4 Int64)  (h : Inv I L) : SimI Inv m_X10_torn m_X11_torn [] I L := by
  obtain ⟨g, hg, hc, hm⟩ := h
  have hw := hg.1
  have hd9 := hg.2.1
  have w1 := hw.1
  have w2 := hw.2.1
  have w3 := hw.2.2.1
  have w4 := hg.2.2.2.1
  exact sim_qi hg hm hc ((p_torn hc).mono (by decide)) (fun I1 L1 hy => (q_torn hy).mono (by decide))

theorem s_rule (I : xF4 Int32) (L : xF4 Int64) (a : Int32) (h : Inv I L) : SimI Inv m_X10_rule m_X11_rule [vI a] I L := by
  obtain ⟨g, hg, hc, hm⟩ := h
  have hw := hg.1
  have hd9 := hg.2.1
  have w1 := hw.1
  have w2 := hw.2.1
  have w3 := hw.2.2.1
  have w4 := hg.2.2.2.1
  rcases zcase a (n := 7) (by omega) with ⟨z9, hz9, rfl⟩ | hx
  · skip
    rcases (show z9 = 0 ∨ z9 = 1 ∨ z9 = 2 ∨ z9 = 3 ∨ z9 = 4 ∨ z9 = 5 ∨ z9 = 6 by omega) with rfl | rfl | rfl | rfl | rfl | rfl | rfl
    · skip
      exact sim_qi hg hm hc ((p_rule_0 hc.1 hw ).mono (by decide)) (fun I1 L1 hy => (q_rule_0 hy.1 hw ).mono (by decide))
    · skip
      exact sim_qi hg hm hc ((p_rule_1 hc.1 hw ).mono (by decide)) (fun I1 L1 hy => (q_rule_1 hy.1 hw ).mono (by decide))
    · skip
      exact sim_qi hg hm hc ((p_rule_2 hc.1 hw ).mono (by decide)) (fun I1 L1 hy => (q_rule_2 hy.1 hw ).mono (by decide))
    · skip
      exact sim_qi hg hm hc ((p_rule_3 hc.1 hw ).mono (by decide)) (fun I1 L1 hy => (q_rule_3 hy.1 hw ).mono (by decide))
    · skip
      exact sim_qi hg hm hc ((p_rule_4 hc.1 hw ).mono (by decide)) (fun I1 L1 hy => (q_rule_4 hy.1 hw ).mono (by decide))
    · skip
      exact sim_qi hg hm hc ((p_rule_5 hc.1 hw ).mono (by decide)) (fun I1 L1 hy => (q_rule_5 hy.1 hw ).mono (by decide))
    · skip
      exact sim_qi hg hm hc ((p_rule_6 hc.1 hw ).mono (by decide)) (fun I1 L1 hy => (q_rule_6 hy.1 hw ).mono (by decide))
  · skip
    exact sim_qi hg hm hc ((p_rule_o hc.1 hw hx).mono (by decide)) (fun I1 L1 hy => (q_rule_o hy.1 hw hx).mono (by decide))

theorem s_judge (I : xF4 Int32) (L : xF4 Int64) (a : Int32) (b : Int32) (h : Inv I L) : SimI Inv m_X10_judge m_X11_judge [vI a, vI b] I L := by
  obtain ⟨g, hg, hc, hm⟩ := h
  have hw := hg.1
  have hd9 := hg.2.1
  have w1 := hw.1
  have w2 := hw.2.1
  have w3 := hw.2.2.1
  have w4 := hg.2.2.2.1
  rcases zcase a (n := (nJ (gA g))) (by omega) with ⟨j1, hj, rfl⟩ | hx
  · skip
    rcases zcase b (n := 6) (by omega) with ⟨z9, hz9, rfl⟩ | hx
    · skip
      rcases (show z9 = 0 ∨ z9 = 1 ∨ z9 = 2 ∨ z9 = 3 ∨ z9 = 4 ∨ z9 = 5 by omega) with rfl | rfl | rfl | rfl | rfl | rfl
      · skip
        exact sim_qi hg hm hc ((p_judge_0 hc.1 hw hj).mono (by decide)) (fun I1 L1 hy => (q_judge_0 hy.1 hw hj).mono (by decide))
      · skip
        exact sim_qi hg hm hc ((p_judge_1 hc.1 hw hj).mono (by decide)) (fun I1 L1 hy => (q_judge_1 hy.1 hw hj).mono (by decide))
      · skip
        exact sim_qi hg hm hc ((p_judge_2 hc.1 hw hj).mono (by decide)) (fun I1 L1 hy => (q_judge_2 hy.1 hw hj).mono (by decide))
      · skip
        exact sim_qi hg hm hc ((p_judge_3 hc.1 hw hj).mono (by decide)) (fun I1 L1 hy => (q_judge_3 hy.1 hw hj).mono (by decide))
      · skip
        exact sim_qi hg hm hc ((p_judge_4 hc.1 hw hj).mono (by decide)) (fun I1 L1 hy => (q_judge_4 hy.1 hw hj).mono (by decide))
      · skip
        exact sim_qi hg hm hc ((p_judge_5 hc.1 hw hj).mono (by decide)) (fun I1 L1 hy => (q_judge_5 hy.1 hw hj).mono (by decide))
    · skip
      exact sim_qi hg hm hc ((p_judge_w hc.1 hw hj hx).mono (by decide)) (fun I1 L1 hy => (q_judge_w hy.1 hw hj hx).mono (by decide))
  · skip
    exact sim_qi hg hm hc ((p_judge_o hc.1 hw hx).mono (by decide)) (fun I1 L1 hy => (q_judge_o hy.1 hw hx).mono (by decide))

theorem s_suit (I : xF4 Int32) (L : xF4 Int64) (a : Int32) (b : Int32) (h : Inv I L) : SimI Inv m_X10_suit m_X11_suit [vI a, vI b] I L := by
  obtain ⟨g, hg, hc, hm⟩ := h
  have hw := hg.1
  have hd9 := hg.2.1
  have w1 := hw.1
  have w2 := hw.2.1
  have w3 := hw.2.2.1
  have w4 := hg.2.2.2.1
  rcases zcase a (n := (nC (gA g))) (by omega) with ⟨c1, hcc, rfl⟩ | hx
  · skip
    rcases zcase b (n := 6) (by omega) with ⟨z9, hz9, rfl⟩ | hx
    · skip
      rcases (show z9 = 0 ∨ z9 = 1 ∨ z9 = 2 ∨ z9 = 3 ∨ z9 = 4 ∨ z9 = 5 by omega) with rfl | rfl | rfl | rfl | rfl | rfl
      · skip
        exact sim_qi hg hm hc ((p_suit_0 hc.1 hw hcc).mono (by decide)) (fun I1 L1 hy => (q_suit_0 hy.1 hw hcc).mono (by decide))
      · skip
        exact sim_qi hg hm hc ((p_suit_1 hc.1 hw hcc).mono (by decide)) (fun I1 L1 hy => (q_suit_1 hy.1 hw hcc).mono (by decide))
      · skip
        exact sim_qi hg hm hc ((p_suit_2 hc.1 hw hcc).mono (by decide)) (fun I1 L1 hy => (q_suit_2 hy.1 hw hcc).mono (by decide))
      · skip
        exact sim_qi hg hm hc ((p_suit_3 hc.1 hw hcc).mono (by decide)) (fun I1 L1 hy => (q_suit_3 hy.1 hw hcc).mono (by decide))
      · skip
        exact sim_qi hg hm hc ((p_suit_4 hc.1 hw hcc).mono (by decide)) (fun I1 L1 hy => (q_suit_4 hy.1 hw hcc).mono (by decide))
      · skip
        exact sim_qi hg hm hc ((p_suit_5 hc.1 hw hcc).mono (by decide)) (fun I1 L1 hy => (q_suit_5 hy.1 hw hcc).mono (by decide))
    · skip
      exact sim_qi hg hm hc ((p_suit_w hc.1 hw hcc hx).mono (by decide)) (fun I1 L1 hy => (q_suit_w hy.1 hw hcc hx).mono (by decide))
  · skip
    exact sim_qi hg hm hc ((p_suit_o hc.1 hw hx).mono (by decide)) (fun I1 L1 hy => (q_suit_o hy.1 hw hx).mono (by decide))

theorem s_tenth (I : xF4 Int32) (L : xF4 Int64) (a : Int32) (b : Int32) (h : Inv I L) : SimI Inv m_X10_tenth m_X11_tenth [vI a, vI b] I L := by
  obtain ⟨g, hg, hc, hm⟩ := h
  have hw := hg.1
  have hd9 := hg.2.1
  have w1 := hw.1
  have w2 := hw.2.1
  have w3 := hw.2.2.1
  have w4 := hg.2.2.2.1
  rcases zcase a (n := (nJ (gA g))) (by omega) with ⟨j1, hj, rfl⟩ | hx
  · skip
    rcases zin b 1 60 (by omega) with ⟨n1, h1, h2, rfl⟩ | hx
    · skip
      exact sim_qi hg hm hc ((p_tenth hc.1 hw hj h1 h2).mono (by decide)) (fun I1 L1 hy => (q_tenth hy.1 hw hj h1 h2).mono (by decide))
    · skip
      exact sim_qi hg hm hc ((p_tenth_n hc.1 hw hj hx).mono (by decide)) (fun I1 L1 hy => (q_tenth_n hy.1 hw hj hx).mono (by decide))
  · skip
    exact sim_qi hg hm hc ((p_tenth_o hc.1 hw hx).mono (by decide)) (fun I1 L1 hy => (q_tenth_o hy.1 hw hx).mono (by decide))

theorem s_alter (I : xF4 Int32) (L : xF4 Int64) (a : Int32) (b : Int32) (c : Int32) (h : Inv I L) : SimI Inv m_X10_alter m_X11_alter [vI a, vI b, vI c] I L := by
  obtain ⟨g, hg, hc, hm⟩ := h
  have hw := hg.1
  have hd9 := hg.2.1
  have w1 := hw.1
  have w2 := hw.2.1
  have w3 := hw.2.2.1
  have w4 := hg.2.2.2.1
  rcases zcase a (n := (nJ (gA g))) (by omega) with ⟨j1, hj, rfl⟩ | hx
  · skip
    rcases zcase b (n := 3) (by omega) with ⟨z9, hz9, rfl⟩ | hx
    · skip
      rcases (show z9 = 0 ∨ z9 = 1 ∨ z9 = 2 by omega) with rfl | rfl | rfl
      · skip
        rcases zin c 0 3 (by omega) with ⟨n1, h1, h2, rfl⟩ | hx
        · skip
          exact sim_c hg hm hc (hw.aj (Or.inl ⟨rfl, by omega⟩)) hd9 rfl rfl ((p_alter_0 hc.1 hw hj (show n1 < 4 by omega)).mono (by decide)) (fun I1 L1 hy => (q_alter_0 hy hw hj (show n1 < 4 by omega)).mono (by decide))
        · skip
          exact sim_qi hg hm hc ((p_alter_v0 hc.1 hw hj hx).mono (by decide)) (fun I1 L1 hy => (q_alter_v0 hy.1 hw hj hx).mono (by decide))
      · skip
        rcases zin c 1 20 (by omega) with ⟨n1, h1, h2, rfl⟩ | hx
        · skip
          exact sim_c hg hm hc (hw.aj (Or.inr (Or.inl ⟨rfl, by omega⟩))) hd9 rfl rfl ((p_alter_1 hc.1 hw hj h1 h2).mono (by decide)) (fun I1 L1 hy => (q_alter_1 hy hw hj h1 h2).mono (by decide))
        · skip
          exact sim_qi hg hm hc ((p_alter_v1 hc.1 hw hj hx).mono (by decide)) (fun I1 L1 hy => (q_alter_v1 hy.1 hw hj hx).mono (by decide))
      · skip
        rcases zin c 0 99 (by omega) with ⟨n1, h1, h2, rfl⟩ | hx
        · skip
          exact sim_c hg hm hc (hw.aj (Or.inr (Or.inr ⟨rfl, by omega⟩))) hd9 rfl rfl ((p_alter_2 hc.1 hw hj h2).mono (by decide)) (fun I1 L1 hy => (q_alter_2 hy hw hj h2).mono (by decide))
        · skip
          exact sim_qi hg hm hc ((p_alter_v2 hc.1 hw hj hx).mono (by decide)) (fun I1 L1 hy => (q_alter_v2 hy.1 hw hj hx).mono (by decide))
    · skip
      exact sim_qi hg hm hc ((p_alter_w hc.1 hw hj hx).mono (by decide)) (fun I1 L1 hy => (q_alter_w hy.1 hw hj hx).mono (by decide))
  · skip
    exact sim_qi hg hm hc ((p_alter_o hc.1 hw hx).mono (by decide)) (fun I1 L1 hy => (q_alter_o hy.1 hw hx).mono (by decide))

theorem s_amend (I : xF4 Int32) (L : xF4 Int64) (a : Int32) (b : Int32) (c : Int32) (h : Inv I L) : SimI Inv m_X10_amend m_X11_amend [vI a, vI b, vI c] I L := by
  obtain ⟨g, hg, hc, hm⟩ := h
  have hw := hg.1
  have hd9 := hg.2.1
  have w1 := hw.1
  have w2 := hw.2.1
  have w3 := hw.2.2.1
  have w4 := hg.2.2.2.1
  rcases zcase a (n := (nC (gA g))) (by omega) with ⟨c1, hcc, rfl⟩ | hx
  · skip
    obtain ⟨b1, b2, b3, b4, b5, b6, b7, b8, b9⟩ := hw.2.2.2.2.2.2.1 c1 hcc
    rcases zcase b (n := 4) (by omega) with ⟨z9, hz9, rfl⟩ | hx
    · skip
      rcases (show z9 = 0 ∨ z9 = 1 ∨ z9 = 2 ∨ z9 = 3 by omega) with rfl | rfl | rfl | rfl
      · skip
        rcases zin c 0 3 (by omega) with ⟨n1, h1, h2, rfl⟩ | hx
        · skip
          by_cases h4 : 0 < sF (gA g) c1 4
          · skip
            exact sim_qi hg hm hc ((p_amend_h0 hc.1 hw hcc (show n1 < 4 by omega) h4).mono (by decide)) (fun I1 L1 hy => (q_amend_h0 hy.1 hw hcc (show n1 < 4 by omega) h4).mono (by decide))
          · skip
            exact sim_c hg hm hc (hw.as (Or.inl ⟨rfl, by omega⟩)) hd9 rfl rfl ((p_amend_0 hc.1 hw hcc (show n1 < 4 by omega) h4).mono (by decide)) (fun I1 L1 hy => (q_amend_0 hy hw hcc (show n1 < 4 by omega) h4).mono (by decide))
        · skip
          exact sim_qi hg hm hc ((p_amend_v0 hc.1 hw hcc (by omega)).mono (by decide)) (fun I1 L1 hy => (q_amend_v0 hy.1 hw hcc (by omega)).mono (by decide))
      · skip
        rcases zin c 1 (sF (gA g) c1 2) (by omega) with ⟨n1, h1, h2, rfl⟩ | hx
        · skip
          by_cases h4 : 0 < sF (gA g) c1 4
          · skip
            exact sim_qi hg hm hc ((p_amend_h1 hc.1 hw hcc h1 h2 h4).mono (by decide)) (fun I1 L1 hy => (q_amend_h1 hy.1 hw hcc h1 h2 h4).mono (by decide))
          · skip
            exact sim_c hg hm hc (hw.as (Or.inr (Or.inl ⟨rfl, h1, h2⟩))) hd9 rfl rfl ((p_amend_1 hc.1 hw hcc h1 h2 h4).mono (by decide)) (fun I1 L1 hy => (q_amend_1 hy hw hcc h1 h2 h4).mono (by decide))
        · skip
          exact sim_qi hg hm hc ((p_amend_v1 hc.1 hw hcc (by omega)).mono (by decide)) (fun I1 L1 hy => (q_amend_v1 hy.1 hw hcc (by omega)).mono (by decide))
      · skip
        rcases zin c (sF (gA g) c1 1) 60 (by omega) with ⟨n1, h1, h2, rfl⟩ | hx
        · skip
          by_cases h4 : 0 < sF (gA g) c1 4
          · skip
            exact sim_qi hg hm hc ((p_amend_h2 hc.1 hw hcc h1 h2 h4).mono (by decide)) (fun I1 L1 hy => (q_amend_h2 hy.1 hw hcc h1 h2 h4).mono (by decide))
          · skip
            exact sim_c hg hm hc (hw.as (Or.inr (Or.inr (Or.inl ⟨rfl, h1, h2⟩)))) hd9 rfl rfl ((p_amend_2 hc.1 hw hcc h1 h2 h4).mono (by decide)) (fun I1 L1 hy => (q_amend_2 hy hw hcc h1 h2 h4).mono (by decide))
        · skip
          exact sim_qi hg hm hc ((p_amend_v2 hc.1 hw hcc (by omega)).mono (by decide)) (fun I1 L1 hy => (q_amend_v2 hy.1 hw hcc (by omega)).mono (by decide))
      · skip
        rcases zin c 0 20 (by omega) with ⟨n1, h1, h2, rfl⟩ | hx
        · skip
          by_cases h4 : 0 < sF (gA g) c1 4
          · skip
            exact sim_qi hg hm hc ((p_amend_h3 hc.1 hw hcc h2 h4).mono (by decide)) (fun I1 L1 hy => (q_amend_h3 hy.1 hw hcc h2 h4).mono (by decide))
          · skip
            exact sim_c hg hm hc (hw.as (Or.inr (Or.inr (Or.inr ⟨rfl, h2⟩)))) hd9 rfl rfl ((p_amend_3 hc.1 hw hcc h2 h4).mono (by decide)) (fun I1 L1 hy => (q_amend_3 hy hw hcc h2 h4).mono (by decide))
        · skip
          exact sim_qi hg hm hc ((p_amend_v3 hc.1 hw hcc (by omega)).mono (by decide)) (fun I1 L1 hy => (q_amend_v3 hy.1 hw hcc (by omega)).mono (by decide))
    · skip
      exact sim_qi hg hm hc ((p_amend_w hc.1 hw hcc hx).mono (by decide)) (fun I1 L1 hy => (q_amend_w hy.1 hw hcc hx).mono (by decide))
  · skip
    exact sim_qi hg hm hc ((p_amend_o hc.1 hw hx).mono (by decide)) (fun I1 L1 hy => (q_amend_o hy.1 hw hx).mono (by decide))

theorem s_crime (I : xF4 Int32) (L : xF4 Int64) (a : Int32) (h : Inv I L) : SimI Inv m_X10_crime m_X11_crime [vI a] I L := by
  obtain ⟨g, hg, hc, hm⟩ := h
  have hw := hg.1
  have hd9 := hg.2.1
  have w1 := hw.1
  have w2 := hw.2.1
  have w3 := hw.2.2.1
  have w4 := hg.2.2.2.1
  rcases zin a 0 99 (by omega) with ⟨n1, h1, h2, rfl⟩ | hx
  · skip
    exact sim_c hg hm hc (hw.crim h2) hd9 rfl rfl ((p_crime hc.1 hw h2).mono (by decide)) (fun I1 L1 hy => (q_crime hy hw h2).mono (by decide))
  · skip
    exact sim_qi hg hm hc ((p_crime_v hc.1 hw (by omega)).mono (by decide)) (fun I1 L1 hy => (q_crime_v hy.1 hw (by omega)).mono (by decide))

theorem s_can (I : xF4 Int32) (L : xF4 Int64) (a : Int32) (b : Int32) (h : Inv I L) : SimI Inv m_X10_can m_X11_can [vI a, vI b] I L := by
  obtain ⟨g, hg, hc, hm⟩ := h
  have hw := hg.1
  have hd9 := hg.2.1
  have w1 := hw.1
  have w2 := hw.2.1
  have w3 := hw.2.2.1
  have w4 := hg.2.2.2.1
  rcases zcase a (n := (nC (gA g))) (by omega) with ⟨c1, hcc, rfl⟩ | hx
  · skip
    obtain ⟨b1, b2, b3, b4, b5, b6, b7, b8, b9⟩ := hw.2.2.2.2.2.2.1 c1 hcc
    rcases zin b (sF (gA g) c1 1) (sF (gA g) c1 2) (by omega) with ⟨n1, h1, h2, rfl⟩ | hx
    · skip
      exact sim_qi hg hm hc ((p_can hc.1 hw hcc h1 h2).mono (by decide)) (fun I1 L1 hy => (q_can hy.1 hw hcc h1 h2).mono (by decide))
    · skip
      exact sim_qi hg hm hc ((p_can_n hc.1 hw hcc hx).mono (by decide)) (fun I1 L1 hy => (q_can_n hy.1 hw hcc hx).mono (by decide))
  · skip
    exact sim_qi hg hm hc ((p_can_o hc.1 hw hx).mono (by decide)) (fun I1 L1 hy => (q_can_o hy.1 hw hx).mono (by decide))

theorem s_give (I : xF4 Int32) (L : xF4 Int64) (a : Int32) (b : Int32) (c : Int32) (h : Inv I L) : SimI Inv m_X10_give m_X11_give [vI a, vI b, vI c] I L := by
  obtain ⟨g, hg, hc, hm⟩ := h
  have hw := hg.1
  have hd9 := hg.2.1
  have w1 := hw.1
  have w2 := hw.2.1
  have w3 := hw.2.2.1
  have w4 := hg.2.2.2.1
  obtain ⟨k1, k2, k3, k4⟩ := giN_k hw a b c
  exact sim_c hg hm hc k1 (by rw [k4]; exact hd9) k2 k3 ((p_give hc.1 hw a b c).mono (by decide)) (fun I1 L1 hy => (q_give hy hw a b c).mono (by decide))

theorem s_appeal (I : xF4 Int32) (L : xF4 Int64) (a : Int32) (h : Inv I L) : SimI Inv m_X10_appeal m_X11_appeal [vI a] I L := by
  obtain ⟨g, hg, hc, hm⟩ := h
  have hw := hg.1
  have hd9 := hg.2.1
  have w1 := hw.1
  have w2 := hw.2.1
  have w3 := hw.2.2.1
  have w4 := hg.2.2.2.1
  rcases zcase a (n := (nC (gA g))) (by omega) with ⟨c1, hcc, rfl⟩ | hx
  · skip
    obtain ⟨b1, b2, b3, b4, b5, b6, b7, b8, b9⟩ := hw.2.2.2.2.2.2.1 c1 hcc
    by_cases h4 : 0 < sF (gA g) c1 4
    · skip
      rcases hb : bY (gA g) c1 with _ | b
      · skip
        have := b8.mpr hb
        omega
      · skip
        exact sim_c hg hm hc hw.undo (by rw [(undoN_k (gA g) c1).2.2.2.1]; exact hd9) (undoN_k (gA g) c1).1 (undoN_k (gA g) c1).2.1 ((p_appeal hc.1 hw hcc hb h4).mono (by decide)) (fun I1 L1 hy => (q_appeal hy hw hcc hb h4).mono (by decide))
    · skip
      exact sim_qi hg hm hc ((p_appeal_h hc.1 hw hcc h4).mono (by decide)) (fun I1 L1 hy => (q_appeal_h hy.1 hw hcc h4).mono (by decide))
  · skip
    exact sim_qi hg hm hc ((p_appeal_o hc.1 hw hx).mono (by decide)) (fun I1 L1 hy => (q_appeal_o hy.1 hw hx).mono (by decide))

theorem s_days (I : xF4 Int32) (L : xF4 Int64) (a : Int32) (h : Inv I L) : SimI Inv m_X10_days m_X11_days [vI a] I L := by
  obtain ⟨g, hg, hc, hm⟩ := h
  have hw := hg.1
  have hd9 := hg.2.1
  have w1 := hw.1
  have w2 := hw.2.1
  have w3 := hw.2.2.1
  have w4 := hg.2.2.2.1
  rcases zin a 0 30 (by omega) with ⟨n1, h1, h2, rfl⟩ | hx
  · skip
    by_cases h4 : dY (gA g) + n1 ≤ 999
    · skip
      exact sim_c hg hm hc (hw.it0 (by omega)) (by rw [(itN_k [] (gA g) n1).2.2.2]; exact h4) (itN_k [] (gA g) n1).1 (itN_k [] (gA g) n1).2.1 ((p_days hc.1 hw h2 h4).mono (by decide)) (fun I1 L1 hy => (q_days hy hw h2 h4).mono (by decide))
    · skip
      exact sim_qi hg hm hc ((p_days_f hc.1 hw h2 h4).mono (by decide)) (fun I1 L1 hy => (q_days_f hy.1 hw h2 h4).mono (by decide))
  · skip
    exact sim_qi hg hm hc ((p_days_n hc.1 hw (by omega)).mono (by decide)) (fun I1 L1 hy => (q_days_n hy.1 hw (by omega)).mono (by decide))

theorem s_docket (I : xF4 Int32) (L : xF4 Int64) (a : Int32) (b : Int32) (h : Inv I L) : SimI Inv m_X10_docket m_X11_docket [vI a, vI b] I L := by
  obtain ⟨g, hg, hc, hm⟩ := h
  have hw := hg.1
  have hd9 := hg.2.1
  have w1 := hw.1
  have w2 := hw.2.1
  have w3 := hw.2.2.1
  have w4 := hg.2.2.2.1
  rcases zin a 0 30 (by omega) with ⟨n1, h1, h2, rfl⟩ | hx
  · skip
    rcases zcase b (n := 6) (by omega) with ⟨z9, hz9, rfl⟩ | hx
    · skip
      rcases (show z9 = 0 ∨ z9 = 1 ∨ z9 = 2 ∨ z9 = 3 ∨ z9 = 4 ∨ z9 = 5 by omega) with rfl | rfl | rfl | rfl | rfl | rfl
      · skip
        exact sim_qi hg hm hc ((p_docket_0 hc.1 hw h2 hd9).mono (by decide)) (fun I1 L1 hy => (q_docket_0 hy.1 hw h2 hd9).mono (by decide))
      · skip
        exact sim_qi hg hm hc ((p_docket_1 hc.1 hw h2 hd9).mono (by decide)) (fun I1 L1 hy => (q_docket_1 hy.1 hw h2 hd9).mono (by decide))
      · skip
        exact sim_qi hg hm hc ((p_docket_2 hc.1 hw h2 hd9).mono (by decide)) (fun I1 L1 hy => (q_docket_2 hy.1 hw h2 hd9).mono (by decide))
      · skip
        exact sim_qi hg hm hc ((p_docket_3 hc.1 hw h2 hd9).mono (by decide)) (fun I1 L1 hy => (q_docket_3 hy.1 hw h2 hd9).mono (by decide))
      · skip
        exact sim_qi hg hm hc ((p_docket_4 hc.1 hw h2 hd9).mono (by decide)) (fun I1 L1 hy => (q_docket_4 hy.1 hw h2 hd9).mono (by decide))
      · skip
        exact sim_qi hg hm hc ((p_docket_5 hc.1 hw h2 hd9).mono (by decide)) (fun I1 L1 hy => (q_docket_5 hy.1 hw h2 hd9).mono (by decide))
    · skip
      exact sim_qi hg hm hc ((p_docket_w hc.1 hw h2 hx).mono (by decide)) (fun I1 L1 hy => (q_docket_w hy.1 hw h2 hx).mono (by decide))
  · skip
    exact sim_qi hg hm hc ((p_docket_n hc.1 hw hx).mono (by decide)) (fun I1 L1 hy => (q_docket_n hy.1 hw hx).mono (by decide))

theorem s_hears (I : xF4 Int32) (L : xF4 Int64) (a : Int32) (b : Int32) (h : Inv I L) : SimI Inv m_X10_hears m_X11_hears [vI a, vI b] I L := by
  obtain ⟨g, hg, hc, hm⟩ := h
  have hw := hg.1
  have hd9 := hg.2.1
  have w1 := hw.1
  have w2 := hw.2.1
  have w3 := hw.2.2.1
  have w4 := hg.2.2.2.1
  rcases zcase a (n := (nC (gA g))) (by omega) with ⟨c1, hcc, rfl⟩ | hx
  · skip
    rcases zin b 0 30 (by omega) with ⟨n1, h1, h2, rfl⟩ | hx
    · skip
      by_cases h4 : 0 < sF (gA g) c1 4
      · skip
        exact sim_qi hg hm hc ((p_hears_h hc.1 hw hcc h2 h4).mono (by decide)) (fun I1 L1 hy => (q_hears_h hy.1 hw hcc h2 h4).mono (by decide))
      · skip
        exact sim_qi hg hm hc ((p_hears hc.1 hw hcc h2 hd9 h4).mono (by decide)) (fun I1 L1 hy => (q_hears hy.1 hw hcc h2 hd9 h4).mono (by decide))
    · skip
      exact sim_qi hg hm hc ((p_hears_n hc.1 hw hcc hx).mono (by decide)) (fun I1 L1 hy => (q_hears_n hy.1 hw hcc hx).mono (by decide))
  · skip
    exact sim_qi hg hm hc ((p_hears_o hc.1 hw hx).mono (by decide)) (fun I1 L1 hy => (q_hears_o hy.1 hw hx).mono (by decide))

theorem s_best (I : xF4 Int32) (L : xF4 Int64) (a : Int32) (h : Inv I L) : SimI Inv m_X10_best m_X11_best [vI a] I L := by
  obtain ⟨g, hg, hc, hm⟩ := h
  have hw := hg.1
  have hd9 := hg.2.1
  have w1 := hw.1
  have w2 := hw.2.1
  have w3 := hw.2.2.1
  have w4 := hg.2.2.2.1
  obtain ⟨b, hbr⟩ := bestR_some (gA g)
  rcases zcase a (n := (10 + nJ (gA g))) (by omega) with ⟨z9, hz9, rfl⟩ | hx
  · skip
    rcases (show z9 = 0 ∨ z9 = 1 ∨ (2 ≤ z9 ∧ z9 < 10) ∨ 10 ≤ z9 by omega) with rfl | rfl | hq | hq
    · skip
      exact sim_qi hg hm hc ((p_best_0 hc.1 hw hbr).mono (by decide)) (fun I1 L1 hy => (q_best_0 hy.1 hw hbr).mono (by decide))
    · skip
      exact sim_qi hg hm hc ((p_best_1 hc.1 hw hbr).mono (by decide)) (fun I1 L1 hy => (q_best_1 hy.1 hw hbr).mono (by decide))
    · skip
      exact sim_qi hg hm hc ((p_best_w hc.1 hw (by rw [z_nI (by omega)]; omega) (by rw [z_nI (by omega)]; omega) (by rw [z_nI (by omega)]; omega)).mono (by decide)) (fun I1 L1 hy => (q_best_w hy.1 hw (by rw [z_nI (by omega)]; omega) (by rw [z_nI (by omega)]; omega) (by rw [z_nI (by omega)]; omega)).mono (by decide))
    · skip
      obtain ⟨p, rfl⟩ : ∃ p, z9 = 10 + p := ⟨z9 - 10, by omega⟩
      exact sim_qi hg hm hc ((p_best_p hc.1 hw hbr (p := p) (by omega)).mono (by decide)) (fun I1 L1 hy => (q_best_p hy.1 hw hbr (p := p) (by omega)).mono (by decide))
  · skip
    exact sim_qi hg hm hc ((p_best_w hc.1 hw (by omega) (by omega) (by omega)).mono (by decide)) (fun I1 L1 hy => (q_best_w hy.1 hw (by omega) (by omega) (by omega)).mono (by decide))

theorem s_deter (I : xF4 Int32) (L : xF4 Int64) (a : Int32) (b : Int32) (h : Inv I L) : SimI Inv m_X10_deter m_X11_deter [vI a, vI b] I L := by
  obtain ⟨g, hg, hc, hm⟩ := h
  have hw := hg.1
  have hd9 := hg.2.1
  have w1 := hw.1
  have w2 := hw.2.1
  have w3 := hw.2.2.1
  have w4 := hg.2.2.2.1
  rcases zcase a (n := (nC (gA g))) (by omega) with ⟨c1, hcc, rfl⟩ | hx
  · skip
    rcases zin b 0 99 (by omega) with ⟨n1, h1, h2, rfl⟩ | hx
    · skip
      by_cases h4 : 0 < sF (gA g) c1 4
      · skip
        exact sim_qi hg hm hc ((p_deter_h hc.1 hw hcc h2 h4).mono (by decide)) (fun I1 L1 hy => (q_deter_h hy.1 hw hcc h2 h4).mono (by decide))
      · skip
        exact sim_qi hg hm hc ((p_deter hc.1 hw hcc h2 h4).mono (by decide)) (fun I1 L1 hy => (q_deter hy.1 hw hcc h2 h4).mono (by decide))
    · skip
      exact sim_qi hg hm hc ((p_deter_v hc.1 hw hcc hx).mono (by decide)) (fun I1 L1 hy => (q_deter_v hy.1 hw hcc hx).mono (by decide))
  · skip
    exact sim_qi hg hm hc ((p_deter_o hc.1 hw hx).mono (by decide)) (fun I1 L1 hy => (q_deter_o hy.1 hw hx).mono (by decide))

theorem s_order (I : xF4 Int32) (L : xF4 Int64) (a : Int32) (b : Int32) (h : Inv I L) : SimI Inv m_X10_order m_X11_order [vI a, vI b] I L := by
  obtain ⟨g, hg, hc, hm⟩ := h
  have hw := hg.1
  have hd9 := hg.2.1
  have w1 := hw.1
  have w2 := hw.2.1
  have w3 := hw.2.2.1
  have w4 := hg.2.2.2.1
  rcases zin a 0 30 (by omega) with ⟨n1, h1, h2, rfl⟩ | hx
  · skip
    obtain ⟨⟨v, ss⟩, hbo⟩ := bestO_some hw n1
    rcases zcase b (n := 14) (by omega) with ⟨z9, hz9, rfl⟩ | hx
    · skip
      rcases (show z9 = 0 ∨ (1 ≤ z9 ∧ z9 < 10) ∨ 10 ≤ z9 by omega) with rfl | hq | hq
      · skip
        exact sim_qi hg hm hc ((p_order_0 hc.1 hw h2 hd9 hbo).mono (by decide)) (fun I1 L1 hy => (q_order_0 hy.1 hw h2 hd9 hbo).mono (by decide))
      · skip
        exact sim_qi hg hm hc ((p_order_w hc.1 hw h2 (by rw [z_nI (by omega)]; omega) (by rw [z_nI (by omega)]; omega)).mono (by decide)) (fun I1 L1 hy => (q_order_w hy.1 hw h2 (by rw [z_nI (by omega)]; omega) (by rw [z_nI (by omega)]; omega)).mono (by decide))
      · skip
        obtain ⟨p, rfl⟩ : ∃ p, z9 = 10 + p := ⟨z9 - 10, by omega⟩
        exact sim_qi hg hm hc ((p_order_p hc.1 hw h2 hd9 hbo (p := p) (by omega)).mono (by decide)) (fun I1 L1 hy => (q_order_p hy.1 hw h2 hd9 hbo (p := p) (by omega)).mono (by decide))
    · skip
      exact sim_qi hg hm hc ((p_order_w hc.1 hw h2 (by omega) (by omega)).mono (by decide)) (fun I1 L1 hy => (q_order_w hy.1 hw h2 (by omega) (by omega)).mono (by decide))
  · skip
    exact sim_qi hg hm hc ((p_order_n hc.1 hw hx).mono (by decide)) (fun I1 L1 hy => (q_order_n hy.1 hw hx).mono (by decide))

theorem s_spare (I : xF4 Int32) (L : xF4 Int64) (a : Int32) (h : Inv I L) : SimI Inv m_X10_spare m_X11_spare [vI a] I L := by
  obtain ⟨g, hg, hc, hm⟩ := h
  have hw := hg.1
  have hd9 := hg.2.1
  have w1 := hw.1
  have w2 := hw.2.1
  have w3 := hw.2.2.1
  have w4 := hg.2.2.2.1
  rcases zin a 0 30 (by omega) with ⟨n1, h1, h2, rfl⟩ | hx
  · skip
    exact sim_qi hg hm hc ((p_spare hc.1 hw h2 hd9).mono (by decide)) (fun I1 L1 hy => (q_spare hy.1 hw h2 hd9).mono (by decide))
  · skip
    exact sim_qi hg hm hc ((p_spare_n hc.1 hw hx).mono (by decide)) (fun I1 L1 hy => (q_spare_n hy.1 hw hx).mono (by decide))

theorem s_hopeless (I : xF4 Int32) (L : xF4 Int64)  (h : Inv I L) : SimI Inv m_X10_hopeless m_X11_hopeless [] I L := by
  obtain ⟨g, hg, hc, hm⟩ := h
  have hw := hg.1
  have hd9 := hg.2.1
  have w1 := hw.1
  have w2 := hw.2.1
  have w3 := hw.2.2.1
  have w4 := hg.2.2.2.1
  exact sim_qi hg hm hc ((p_hopeless hc.1 hw ).mono (by decide)) (fun I1 L1 hy => (q_hopeless hy.1 hw ).mono (by decide))

theorem s_mean (I : xF4 Int32) (L : xF4 Int64) (a : Int32) (b : Int32) (h : Inv I L) : SimL Inv m_X10_mean m_X11_mean [vI a, vI b] I L := by
  obtain ⟨g, hg, hc, hm⟩ := h
  have hw := hg.1
  have hd9 := hg.2.1
  have w1 := hw.1
  have w2 := hw.2.1
  have w3 := hw.2.2.1
  have w4 := hg.2.2.2.1
  rcases zin a 0 10 (by omega) with ⟨n1, h1, h2, rfl⟩ | hx
  · skip
    rcases zcase b (n := 2) (by omega) with ⟨z9, hz9, rfl⟩ | hx
    · skip
      rcases (show z9 = 0 ∨ z9 = 1 by omega) with rfl | rfl
      · skip
        exact sim_ql hg hm hc ((p_mean_0 hc.1 hw h2).mono (by decide)) (fun I1 L1 hy => (q_mean_0 hy.1 hw h2).mono (by decide))
      · skip
        exact sim_ql hg hm hc ((p_mean_1 hc.1 hw h2).mono (by decide)) (fun I1 L1 hy => (q_mean_1 hy.1 hw h2).mono (by decide))
    · skip
      exact sim_ql hg hm hc ((p_mean_w hc.1 hw h2 hx).mono (by decide)) (fun I1 L1 hy => (q_mean_w hy.1 hw h2 hx).mono (by decide))
  · skip
    exact sim_ql hg hm hc ((p_mean_v hc.1 hw hx).mono (by decide)) (fun I1 L1 hy => (q_mean_v hy.1 hw hx).mono (by decide))

theorem s_luck (I : xF4 Int32) (L : xF4 Int64) (a : Int32) (b : Int32) (c : Int32) (h : Inv I L) : SimL Inv m_X10_luck m_X11_luck [vI a, vI b, vI c] I L := by
  obtain ⟨g, hg, hc, hm⟩ := h
  have hw := hg.1
  have hd9 := hg.2.1
  have w1 := hw.1
  have w2 := hw.2.1
  have w3 := hw.2.2.1
  have w4 := hg.2.2.2.1
  rcases zin a 0 10 (by omega) with ⟨n1, h1, h2, rfl⟩ | hx
  · skip
    rcases zin b 0 99 (by omega) with ⟨n2, h3, h4, rfl⟩ | hx
    · skip
      rcases zcase c (n := 2) (by omega) with ⟨z9, hz9, rfl⟩ | hx
      · skip
        rcases (show z9 = 0 ∨ z9 = 1 by omega) with rfl | rfl
        · skip
          exact sim_ql hg hm hc ((p_luck_0 hc.1 hw h2 h4).mono (by decide)) (fun I1 L1 hy => (q_luck_0 hy.1 hw h2 h4).mono (by decide))
        · skip
          exact sim_ql hg hm hc ((p_luck_1 hc.1 hw h2 h4).mono (by decide)) (fun I1 L1 hy => (q_luck_1 hy.1 hw h2 h4).mono (by decide))
      · skip
        exact sim_ql hg hm hc ((p_luck_w hc.1 hw h2 h4 hx).mono (by decide)) (fun I1 L1 hy => (q_luck_w hy.1 hw h2 h4 hx).mono (by decide))
    · skip
      exact sim_ql hg hm hc ((p_luck_c hc.1 hw h2 hx).mono (by decide)) (fun I1 L1 hy => (q_luck_c hy.1 hw h2 hx).mono (by decide))
  · skip
    exact sim_ql hg hm hc ((p_luck_v hc.1 hw hx).mono (by decide)) (fun I1 L1 hy => (q_luck_v hy.1 hw hx).mono (by decide))

theorem s_see (I : xF4 Int32) (L : xF4 Int64) (a : Int32) (b : Int32) (c : Int32) (h : Inv I L) : SimI Inv m_X10_see m_X11_see [vI a, vI b, vI c] I L := by
  obtain ⟨g, hg, hc, hm⟩ := h
  have hw := hg.1
  have hd9 := hg.2.1
  have w1 := hw.1
  have w2 := hw.2.1
  have w3 := hw.2.2.1
  have w4 := hg.2.2.2.1
  rcases zcase a (n := (nJ (gA g))) (by omega) with ⟨j1, hj, rfl⟩ | hx
  · skip
    rcases zcase b (n := (nC (gA g))) (by omega) with ⟨c1, hcc, rfl⟩ | hx
    · skip
      rcases zin c 0 60 (by omega) with ⟨n1, h1, h2, rfl⟩ | hx
      · skip
        by_cases h4 : nG (gA g) < 6
        · skip
          exact sim_c hg hm hc (hw.see h4 hj hcc h2) hd9 rfl rfl ((p_see hc.1 hw hj hcc h2 h4).mono (by decide)) (fun I1 L1 hy => (q_see hy hw hj hcc h2 h4).mono (by decide))
        · skip
          exact sim_qi hg hm hc ((p_see_f hc.1 hw hj hcc h2 (by omega)).mono (by decide)) (fun I1 L1 hy => (q_see_f hy.1 hw hj hcc h2 (by omega)).mono (by decide))
      · skip
        exact sim_qi hg hm hc ((p_see_t hc.1 hw hj hcc (by omega)).mono (by decide)) (fun I1 L1 hy => (q_see_t hy.1 hw hj hcc (by omega)).mono (by decide))
    · skip
      exact sim_qi hg hm hc ((p_see_c hc.1 hw hj hx).mono (by decide)) (fun I1 L1 hy => (q_see_c hy.1 hw hj hx).mono (by decide))
  · skip
    exact sim_qi hg hm hc ((p_see_j hc.1 hw hx).mono (by decide)) (fun I1 L1 hy => (q_see_j hy.1 hw hx).mono (by decide))

theorem s_forget (I : xF4 Int32) (L : xF4 Int64) (a : Int32) (h : Inv I L) : SimI Inv m_X10_forget m_X11_forget [vI a] I L := by
  obtain ⟨g, hg, hc, hm⟩ := h
  have hw := hg.1
  have hd9 := hg.2.1
  have w1 := hw.1
  have w2 := hw.2.1
  have w3 := hw.2.2.1
  have w4 := hg.2.2.2.1
  rcases zin a 0 (nG (gA g)) (by omega) with ⟨n1, h1, h2, rfl⟩ | hx
  · skip
    exact sim_c hg hm hc (hw.forg h2) hd9 rfl rfl ((p_forget hc.1 hw h2).mono (by decide)) (fun I1 L1 hy => (q_forget hy hw h2).mono (by decide))
  · skip
    exact sim_qi hg hm hc ((p_forget_n hc.1 hw (by omega)).mono (by decide)) (fun I1 L1 hy => (q_forget_n hy.1 hw (by omega)).mono (by decide))

theorem s_kinds (I : xF4 Int32) (L : xF4 Int64) (a : Int32) (h : Inv I L) : SimI Inv m_X10_kinds m_X11_kinds [vI a] I L := by
  obtain ⟨g, hg, hc, hm⟩ := h
  have hw := hg.1
  have hd9 := hg.2.1
  have w1 := hw.1
  have w2 := hw.2.1
  have w3 := hw.2.2.1
  have w4 := hg.2.2.2.1
  rcases zcase a (n := (nJ (gA g))) (by omega) with ⟨j1, hj, rfl⟩ | hx
  · skip
    exact sim_qi hg hm hc ((p_kinds hc.1 hw hj).mono (by decide)) (fun I1 L1 hy => (q_kinds hy.1 hw hj).mono (by decide))
  · skip
    exact sim_qi hg hm hc ((p_kinds_o hc.1 hw hx).mono (by decide)) (fun I1 L1 hy => (q_kinds_o hy.1 hw hx).mono (by decide))

theorem s_terms (I : xF4 Int32) (L : xF4 Int64) (a : Int32) (b : Int32) (h : Inv I L) : SimI Inv m_X10_terms m_X11_terms [vI a, vI b] I L := by
  obtain ⟨g, hg, hc, hm⟩ := h
  have hw := hg.1
  have hd9 := hg.2.1
  have w1 := hw.1
  have w2 := hw.2.1
  have w3 := hw.2.2.1
  have w4 := hg.2.2.2.1
  rcases zcase a (n := (nC (gA g))) (by omega) with ⟨c1, hcc, rfl⟩ | hx
  · skip
    rcases zcase b (n := 3) (by omega) with ⟨z9, hz9, rfl⟩ | hx
    · skip
      rcases (show z9 = 0 ∨ z9 = 1 ∨ z9 = 2 by omega) with rfl | rfl | rfl
      · skip
        exact sim_qi hg hm hc ((p_terms_0 hc.1 hw hcc).mono (by decide)) (fun I1 L1 hy => (q_terms_0 hy.1 hw hcc).mono (by decide))
      · skip
        exact sim_qi hg hm hc ((p_terms_1 hc.1 hw hcc).mono (by decide)) (fun I1 L1 hy => (q_terms_1 hy.1 hw hcc).mono (by decide))
      · skip
        exact sim_qi hg hm hc ((p_terms_2 hc.1 hw hcc).mono (by decide)) (fun I1 L1 hy => (q_terms_2 hy.1 hw hcc).mono (by decide))
    · skip
      exact sim_qi hg hm hc ((p_terms_w hc.1 hw hcc hx).mono (by decide)) (fun I1 L1 hy => (q_terms_w hy.1 hw hcc hx).mono (by decide))
  · skip
    exact sim_qi hg hm hc ((p_terms_o hc.1 hw hx).mono (by decide)) (fun I1 L1 hy => (q_terms_o hy.1 hw hx).mono (by decide))

theorem s_ask (I : xF4 Int32) (L : xF4 Int64) (a : Int32) (b : Int32) (h : Inv I L) : SimI Inv m_X10_ask m_X11_ask [vI a, vI b] I L := by
  obtain ⟨g, hg, hc, hm⟩ := h
  have hw := hg.1
  have hd9 := hg.2.1
  have w1 := hw.1
  have w2 := hw.2.1
  have w3 := hw.2.2.1
  have w4 := hg.2.2.2.1
  rcases zcase a (n := (nJ (gA g))) (by omega) with ⟨j1, hj, rfl⟩ | hx
  · skip
    rcases zcase b (n := 2) (by omega) with ⟨z9, hz9, rfl⟩ | hx
    · skip
      rcases (show z9 = 0 ∨ z9 = 1 by omega) with rfl | rfl
      · skip
        exact sim_qi hg hm hc ((p_ask_0 hc.1 hw hj).mono (by decide)) (fun I1 L1 hy => (q_ask_0 hy.1 hw hj).mono (by decide))
      · skip
        exact sim_qi hg hm hc ((p_ask_1 hc.1 hw hj).mono (by decide)) (fun I1 L1 hy => (q_ask_1 hy.1 hw hj).mono (by decide))
    · skip
      exact sim_qi hg hm hc ((p_ask_w hc.1 hw hj hx).mono (by decide)) (fun I1 L1 hy => (q_ask_w hy.1 hw hj hx).mono (by decide))
  · skip
    exact sim_qi hg hm hc ((p_ask_o hc.1 hw hx).mono (by decide)) (fun I1 L1 hy => (q_ask_o hy.1 hw hx).mono (by decide))

theorem s_drift (I : xF4 Int32) (L : xF4 Int64) (a : Int32) (b : Int32) (c : Int32) (h : Inv I L) : SimI Inv m_X10_drift m_X11_drift [vI a, vI b, vI c] I L := by
  obtain ⟨g, hg, hc, hm⟩ := h
  have hw := hg.1
  have hd9 := hg.2.1
  have w1 := hw.1
  have w2 := hw.2.1
  have w3 := hw.2.2.1
  have w4 := hg.2.2.2.1
  rcases zin b 1 60 (by omega) with ⟨n1, h1, h2, rfl⟩ | hx
  · skip
    rcases zcase c (n := 2) (by omega) with ⟨z9, hz9, rfl⟩ | hx
    · skip
      rcases (show z9 = 0 ∨ z9 = 1 by omega) with rfl | rfl
      · skip
        by_cases h4 : 0 < nJ (gA g) ∧ 0 < nC (gA g)
        · skip
          exact sim_qi hg hm hc ((p_drift_0 hc.1 hw h1 h2 hd9 h4.1 h4.2).mono (by decide)) (fun I1 L1 hy => (q_drift_0 hy.1 hw h1 h2 hd9 h4.1 h4.2).mono (by decide))
        · skip
          exact sim_qi hg hm hc ((p_drift_z0 hc.1 hw h1 h2 (by omega)).mono (by decide)) (fun I1 L1 hy => (q_drift_z0 hy.1 hw h1 h2 (by omega)).mono (by decide))
      · skip
        by_cases h4 : 0 < nJ (gA g) ∧ 0 < nC (gA g)
        · skip
          exact sim_qi hg hm hc ((p_drift_1 hc.1 hw h1 h2 hd9 h4.1 h4.2).mono (by decide)) (fun I1 L1 hy => (q_drift_1 hy.1 hw h1 h2 hd9 h4.1 h4.2).mono (by decide))
        · skip
          exact sim_qi hg hm hc ((p_drift_z1 hc.1 hw h1 h2 (by omega)).mono (by decide)) (fun I1 L1 hy => (q_drift_z1 hy.1 hw h1 h2 (by omega)).mono (by decide))
    · skip
      exact sim_qi hg hm hc ((p_drift_w hc.1 hw h1 h2 hx).mono (by decide)) (fun I1 L1 hy => (q_drift_w hy.1 hw h1 h2 hx).mono (by decide))
  · skip
    exact sim_qi hg hm hc ((p_drift_n hc.1 hw hx).mono (by decide)) (fun I1 L1 hy => (q_drift_n hy.1 hw hx).mono (by decide))

theorem s_keep (I : xF4 Int32) (L : xF4 Int64) (a : Int32) (h : Inv I L) : SimI Inv m_X10_keep m_X11_keep [vI a] I L := by
  obtain ⟨g, hg, hc, hm⟩ := h
  have hw := hg.1
  have hd9 := hg.2.1
  have w1 := hw.1
  have w2 := hw.2.1
  have w3 := hw.2.2.1
  have w4 := hg.2.2.2.1
  rcases zcase a (n := 2) (by omega) with ⟨k1, hk, rfl⟩ | hx
  · skip
    exact sim_i (hg.image hw hd9 rfl rfl) hm hc ((p_keep hg hc hk).mono (by decide)) (fun I1 L1 hy => (q_keep hg hy hk).mono (by decide))
  · skip
    exact sim_qi hg hm hc ((p_keep_o hg hc hx).mono (by decide)) (fun I1 L1 hy => (q_keep_o hg hy hx).mono (by decide))

theorem s_back (I : xF4 Int32) (L : xF4 Int64) (a : Int32) (h : Inv I L) : SimI Inv m_X10_back m_X11_back [vI a] I L := by
  obtain ⟨g, hg, hc, hm⟩ := h
  have hw := hg.1
  have hd9 := hg.2.1
  have w1 := hw.1
  have w2 := hw.2.1
  have w3 := hw.2.2.1
  have w4 := hg.2.2.2.1
  rcases zcase a (n := 2) (by omega) with ⟨k1, hk, rfl⟩ | hx
  · skip
    rcases hb : gIm g k1 with _ | b
    · skip
      exact sim_qi hg hm hc ((p_back_n hg hc hk hb).mono (by decide)) (fun I1 L1 hy => (q_back_n hg hy hk hb).mono (by decide))
    · skip
      obtain ⟨i1, i2, i3, i4⟩ := hg.2.2.1 k1 hk b hb
      exact sim_i (hg.setA i1 i2 i3 i4) hm hc ((p_back hg hc hk hb).mono (by decide)) (fun I1 L1 hy => (q_back hg hy hk hb).mono (by decide))
  · skip
    exact sim_qi hg hm hc ((p_back_o hg hc hx).mono (by decide)) (fun I1 L1 hy => (q_back_o hg hy hx).mono (by decide))

theorem s_sheet (I : xF4 Int32) (L : xF4 Int64) (a : Int32) (b : Int32) (c : Int32) (h : Inv I L) : SimI Inv m_X10_sheet m_X11_sheet [vI a, vI b, vI c] I L := by
  obtain ⟨g, hg, hc, hm⟩ := h
  have hw := hg.1
  have hd9 := hg.2.1
  have w1 := hw.1
  have w2 := hw.2.1
  have w3 := hw.2.2.1
  have w4 := hg.2.2.2.1
  rcases zcase a (n := 4) (by omega) with ⟨k1, hk, rfl⟩ | hx
  · skip
    rcases zcase b (n := 3) (by omega) with ⟨l1, hl, rfl⟩ | hx
    · skip
      rcases zin c 0 40 (by omega) with ⟨n1, h1, h2, rfl⟩ | hx
      · skip
        exact sim_i (hg.sheet (q := (l1, (n1, fun _ => 0))) hl h2) hm hc ((p_sheet hg hc hk hl h2).mono (by decide)) (fun I1 L1 hy => (q_sheet hg hy hk hl h2).mono (by decide))
      · skip
        rcases hx with hx | hx
        · skip
          exact sim_qi hg hm hc ((p_sheet_s hg hc hk hl (by omega)).mono (by decide)) (fun I1 L1 hy => (q_sheet_s hg hy hk hl (by omega)).mono (by decide))
        · skip
          exact sim_qi hg hm hc ((p_sheet_n hg hc hk hl (by omega)).mono (by decide)) (fun I1 L1 hy => (q_sheet_n hg hy hk hl (by omega)).mono (by decide))
    · skip
      exact sim_qi hg hm hc ((p_sheet_l hg hc hk hx).mono (by decide)) (fun I1 L1 hy => (q_sheet_l hg hy hk hx).mono (by decide))
  · skip
    exact sim_qi hg hm hc ((p_sheet_k hg hc hx).mono (by decide)) (fun I1 L1 hy => (q_sheet_k hg hy hx).mono (by decide))

theorem s_lay (I : xF4 Int32) (L : xF4 Int64) (a : Int32) (b : Int32) (c : Int32) (h : Inv I L) : SimI Inv m_X10_lay m_X11_lay [vI a, vI b, vI c] I L := by
  obtain ⟨g, hg, hc, hm⟩ := h
  have hw := hg.1
  have hd9 := hg.2.1
  have w1 := hw.1
  have w2 := hw.2.1
  have w3 := hw.2.2.1
  have w4 := hg.2.2.2.1
  rcases zcase a (n := 4) (by omega) with ⟨k1, hk, rfl⟩ | hx
  · skip
    rcases hq : gSh g k1 with _ | q
    · skip
      exact sim_qi hg hm hc ((p_lay_n hg hc hk hq).mono (by decide)) (fun I1 L1 hy => (q_lay_n hg hy hk hq).mono (by decide))
    · skip
      obtain ⟨q3, q40⟩ := hg.2.2.2.2.2 k1 hk q hq
      rcases zcase b (n := q.2.1) (by omega) with ⟨i1, hi, rfl⟩ | hx
      · skip
        exact sim_i (hg.sheet (q := (q.1, (q.2.1, fun x => if x = i1 then narI q.1 c else q.2.2 x))) q3 q40) hm hc ((p_lay hg hc hk hq hi).mono (by decide)) (fun I1 L1 hy => (q_lay hg hy hk hq hi).mono (by decide))
      · skip
        exact sim_qi hg hm hc ((p_lay_i hg hc hk hq hx).mono (by decide)) (fun I1 L1 hy => (q_lay_i hg hy hk hq hx).mono (by decide))
  · skip
    exact sim_qi hg hm hc ((p_lay_k hg hc hx).mono (by decide)) (fun I1 L1 hy => (q_lay_k hg hy hx).mono (by decide))

theorem s_read (I : xF4 Int32) (L : xF4 Int64) (a : Int32) (b : Int32) (c : Int32) (e : Int32) (h : Inv I L) : SimI Inv m_X10_read m_X11_read [vI a, vI b, vI c, vI e] I L := by
  obtain ⟨g, hg, hc, hm⟩ := h
  have hw := hg.1
  have hd9 := hg.2.1
  have w1 := hw.1
  have w2 := hw.2.1
  have w3 := hw.2.2.1
  have w4 := hg.2.2.2.1
  rcases zcase a (n := 4) (by omega) with ⟨k1, hk, rfl⟩ | hx
  · skip
    rcases zcase b (n := 3) (by omega) with ⟨l1, hl, rfl⟩ | hx
    · skip
      rcases zin e 0 13 (by omega) with ⟨n1, h1, h2, rfl⟩ | hx
      · skip
        rcases (show n1 = 0 ∨ 1 ≤ n1 by omega) with rfl | h0
        · skip
          exact sim_i ((hg.setA hw hd9 rfl rfl).torn _) hm hc ((p_read_0 hg hc hk hl).mono (by decide)) (fun I1 L1 hy => (q_read_0 hg hy hk hl).mono (by decide))
        · skip
          rcases hq : gSh g k1 with _ | q
          · skip
            exact sim_i ((hg.setA hw hd9 rfl rfl).torn _) hm hc ((p_read_n hg hc hk hq hl h0 h2).mono (by decide)) (fun I1 L1 hy => (q_read_n hg hy hk hq hl h0 h2).mono (by decide))
          · skip
            by_cases e9 : l1 = q.1
            · skip
              subst e9
              exact sim_i (rdG_ok hg n1 0 (gA g) ⟨hw, rfl, rfl, rfl⟩) hm hc ((p_read hg hc hk hq h2).mono (by decide)) (fun I1 L1 hy => (q_read hg hy hk hq h2).mono (by decide))
            · skip
              exact sim_i ((hg.setA hw hd9 rfl rfl).torn _) hm hc ((p_read_l hg hc hk hq hl e9 h0 h2).mono (by decide)) (fun I1 L1 hy => (q_read_l hg hy hk hq hl e9 h0 h2).mono (by decide))
      · skip
        exact sim_qi hg hm hc ((p_read_w hg hc hk hl (by omega)).mono (by decide)) (fun I1 L1 hy => (q_read_w hg hy hk hl (by omega)).mono (by decide))
    · skip
      exact sim_qi hg hm hc ((p_read_o hg hc hk hx).mono (by decide)) (fun I1 L1 hy => (q_read_o hg hy hk hx).mono (by decide))
  · skip
    exact sim_qi hg hm hc ((p_read_k hg hc hx).mono (by decide)) (fun I1 L1 hy => (q_read_k hg hy hx).mono (by decide))

theorem s_count (I : xF4 Int32) (L : xF4 Int64) (a : Int32) (h : Inv I L) : SimI Inv m_X10_count m_X11_count [vI a] I L := by
  obtain ⟨g, hg, hc, hm⟩ := h
  have hw := hg.1
  have hd9 := hg.2.1
  have w1 := hw.1
  have w2 := hw.2.1
  have w3 := hw.2.2.1
  have w4 := hg.2.2.2.1
  rcases zcase a (n := 6) (by omega) with ⟨z9, hz9, rfl⟩ | hx
  · skip
    rcases (show z9 = 0 ∨ z9 = 1 ∨ z9 = 2 ∨ z9 = 3 ∨ z9 = 4 ∨ z9 = 5 by omega) with rfl | rfl | rfl | rfl | rfl | rfl
    · skip
      exact sim_qi hg hm hc ((p_count_0 hg hc ).mono (by decide)) (fun I1 L1 hy => (q_count_0 hg hy ).mono (by decide))
    · skip
      exact sim_qi hg hm hc ((p_count_1 hg hc ).mono (by decide)) (fun I1 L1 hy => (q_count_1 hg hy ).mono (by decide))
    · skip
      exact sim_qi hg hm hc ((p_count_2 hg hc ).mono (by decide)) (fun I1 L1 hy => (q_count_2 hg hy ).mono (by decide))
    · skip
      exact sim_qi hg hm hc ((p_count_3 hg hc ).mono (by decide)) (fun I1 L1 hy => (q_count_3 hg hy ).mono (by decide))
    · skip
      exact sim_qi hg hm hc ((p_count_4 hg hc ).mono (by decide)) (fun I1 L1 hy => (q_count_4 hg hy ).mono (by decide))
    · skip
      exact sim_qi hg hm hc ((p_count_5 hg hc ).mono (by decide)) (fun I1 L1 hy => (q_count_5 hg hy ).mono (by decide))
  · skip
    exact sim_qi hg hm hc ((p_count_w hg hc hx).mono (by decide)) (fun I1 L1 hy => (q_count_w hg hy hx).mono (by decide))

theorem all_sim : AllSim Inv := ⟨s_feed, s_end, s_text, s_fault, s_rule, s_judge, s_suit, s_tenth, s_alter, s_amend, s_crime, s_can, s_give, s_appeal, s_days, s_docket, s_hears, s_best, s_deter, s_order, s_spare, s_hopeless, s_mean, s_luck, s_see, s_forget, s_kinds, s_terms, s_ask, s_drift, s_keep, s_back, s_sheet, s_lay, s_read, s_torn, s_count⟩
