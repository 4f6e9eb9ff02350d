/-! a text, by the reference (by wip/whole/gen/g88.py) -/
abbrev pLz (x : tS) (r : aA × Bool) (I : xF4 Int32) (L : xF4 Int64) : Option xV → xM → Prop := fun v M => v = none ∧ ∃ I', M = rM I' L ∧ TM I' x ∧ FrY I I' ∧ ∀ q, x = .inr q → DM I' r.1 r.2

theorem l_rdEnd {I : xF4 Int32} {L : xF4 Int64} {n : Nat} {b : Nat → Nat} (hk : BK n b) (ht : TN I n b) {x : tS} (hok : OKT n x) (h : TM I x) {k9 : Int32} {Q : Option xV → xM → Prop} (kk : ∀ I', TM I' (tkT n b (spS x)) → FrN I I' → Q none (rM I' L)) : Wp 6 109 m_X11_readLine 136 [some (vR 30 0 0), some (vI (k9))] [] (rM I L) Q := by
  rcases x with ⟨c, p⟩ | ⟨so, st, nx, v⟩
  · skip
    have q1 := hok.1
    have q2 := hok.2.1
    replace q1 : 1 ≤ c := q1
    replace q2 : c ≤ 5 := q2
    refine w_aload_n dX11_readLine_136 rfl ?_
    refine w_getI ff_X11_73 rfl rfl dX11_readLine_137 ?_
    rw [show (I 30 0 0 15 : Int32) = nI c from h.1]
    refine w_if_ne (tgt := 161) dX11_readLine_140 (by decide) (fun h1 => ?_) (fun h1 => ?_)
    · skip
      replace h1 : ¬ (((c : Nat) : Int) = 0) := fun q => h1 ((zeq (z_nI (by omega)) (by decide)).mpr q)
      first
      | (exfalso; omega)
      | skip
        refine w_aload_n dX11_readLine_161 rfl ?_
        refine w_callV (as := []) (st := []) (Tri.mono (d_take hk ht hok h) (Nat.le_of_ble_eq_true rfl)) rfl rfl tg_X11_takes lk_X11_119 in_X11_takes se_X11_takes rfl dX11_readLine_162 rfl (Nat.le_of_ble_eq_true rfl) (Nat.le_refl _) (Nat.le_refl _) ?_
        rintro v M9 ⟨rfl, I1, rfl, t1, f1⟩ -
        exact w_return dX11_readLine_165 rfl rfl (kk I1 t1 f1)
    · skip
      replace h1 : ((c : Nat) : Int) = 0 := (zeq (z_nI (by omega)) (by decide)).mp h1
      first
      | (exfalso; omega)
      | skip
        refine w_aload_n dX11_readLine_143 rfl ?_
        refine w_aload_n dX11_readLine_144 rfl ?_
        refine w_getI ff_X11_101 rfl rfl dX11_readLine_145 ?_
        refine w_iconst (v := 3) dX11_readLine_148 (by decide) ?_
        refine w_icmp_ne (tgt := 156) dX11_readLine_149 (by decide) (fun h2 => ?_) (fun h2 => ?_)
        · skip
          first
          | (exfalso; omega)
          | skip
            refine w_iconst (v := 0) dX11_readLine_156 (by decide) ?_
            refine w_iconst (v := 2) dX11_readLine_157 (by decide) ?_
            refine w_callV (as := [vI (0), vI (2)]) (st := []) (Tri.mono (d_needD (I := I) (e := nI c) ⟨by decide, by decide⟩ (h.1.trans (by rfl)) (2)) (Nat.le_of_ble_eq_true rfl)) rfl rfl tg_X11_needs lk_X11_115 in_X11_needs se_X11_needs rfl dX11_readLine_158 rfl (Nat.le_of_ble_eq_true rfl) (Nat.le_refl _) (Nat.le_refl _) ?_
            rintro _ _ ⟨rfl, rfl⟩ -
            refine w_aload_n dX11_readLine_161 rfl ?_
            refine w_callV (as := []) (st := []) (Tri.mono (d_take hk ht hok h) (Nat.le_of_ble_eq_true rfl)) rfl rfl tg_X11_takes lk_X11_119 in_X11_takes se_X11_takes rfl dX11_readLine_162 rfl (Nat.le_of_ble_eq_true rfl) (Nat.le_refl _) (Nat.le_refl _) ?_
            rintro v M9 ⟨rfl, I1, rfl, t1, f1⟩ -
            exact w_return dX11_readLine_165 rfl rfl (kk I1 t1 f1)
        · skip
          first
          | (exfalso; omega)
          | skip
            refine w_iconst (v := 1) dX11_readLine_152 (by decide) ?_
            refine w_goto (tgt := 157) dX11_readLine_153 (by decide) ?_
            refine w_iconst (v := 2) dX11_readLine_157 (by decide) ?_
            refine w_callV (as := [vI (1), vI (2)]) (st := []) (Tri.mono (d_need1 (I := I) (2)) (Nat.le_of_ble_eq_true rfl)) rfl rfl tg_X11_needs lk_X11_115 in_X11_needs se_X11_needs rfl dX11_readLine_158 rfl (Nat.le_of_ble_eq_true rfl) (Nat.le_refl _) (Nat.le_refl _) ?_
            rintro _ _ ⟨rfl, rfl⟩ -
            refine w_aload_n dX11_readLine_161 rfl ?_
            refine w_callV (as := []) (st := []) (Tri.mono (d_take hk ht hok h) (Nat.le_of_ble_eq_true rfl)) rfl rfl tg_X11_takes lk_X11_119 in_X11_takes se_X11_takes rfl dX11_readLine_162 rfl (Nat.le_of_ble_eq_true rfl) (Nat.le_refl _) (Nat.le_refl _) ?_
            rintro v M9 ⟨rfl, I1, rfl, t1, f1⟩ -
            exact w_return dX11_readLine_165 rfl rfl (kk I1 t1 f1)
  · skip
    obtain ⟨g4, g5, g6, g7, g8, g9⟩ : so ≤ 3 ∧ st ≤ n ∧ nx ≤ n ∧ v ≤ 99 ∧ st ≤ nx ∧ (so = 0 ∨ (st < nx ∧ st < n)) := id hok
    refine w_aload_n dX11_readLine_136 rfl ?_
    refine w_getI ff_X11_73 rfl rfl dX11_readLine_137 ?_
    rw [show (I 30 0 0 15 : Int32) = 0 from h.1]
    refine w_if_ne (tgt := 161) dX11_readLine_140 (by decide) (fun h => absurd (by decide) h) (fun _ => ?_)
    refine w_aload_n dX11_readLine_143 rfl ?_
    refine w_aload_n dX11_readLine_144 rfl ?_
    refine w_getI ff_X11_101 rfl rfl dX11_readLine_145 ?_
    rw [show (I 30 0 0 13 : Int32) = nI so from h.2.1]
    refine w_iconst (v := 3) dX11_readLine_148 (by decide) ?_
    refine w_icmp_ne (tgt := 156) dX11_readLine_149 (by decide) (fun h1 => ?_) (fun h1 => ?_)
    · skip
      replace h1 : ¬ (((so : Nat) : Int) = 3) := fun q => h1 ((zeq (z_nI (by omega)) (by decide)).mpr q)
      first
      | (exfalso; omega)
      | skip
        refine w_iconst (v := 0) dX11_readLine_156 (by decide) ?_
        refine w_iconst (v := 2) dX11_readLine_157 (by decide) ?_
        refine w_callV (as := [vI (0), vI (2)]) (st := []) (Tri.mono (d_needL (I := I) h.1 h.2.2.1 (2)) (Nat.le_of_ble_eq_true rfl)) rfl rfl tg_X11_needs lk_X11_115 in_X11_needs se_X11_needs rfl dX11_readLine_158 rfl (Nat.le_of_ble_eq_true rfl) (Nat.le_refl _) (Nat.le_refl _) ?_
        rintro _ _ ⟨rfl, rfl⟩ -
        refine w_aload_n dX11_readLine_161 rfl ?_
        refine w_callV (as := []) (st := []) (Tri.mono (d_take (I := xup (xup I 30 0 0 15 (2)) 30 0 0 16 (nI st)) hk (ht.fr ((FrN.rf.up (by decide)).up (by decide))) (s := Sum.inl (2, st)) ⟨by show 1 ≤ 2; omega, by show 2 ≤ 5; omega, g5⟩ ⟨(xup_slot (by decide)).trans xup_self, xup_self⟩) (Nat.le_of_ble_eq_true rfl)) rfl rfl tg_X11_takes lk_X11_119 in_X11_takes se_X11_takes rfl dX11_readLine_162 rfl (Nat.le_of_ble_eq_true rfl) (Nat.le_refl _) (Nat.le_refl _) ?_
        rintro v M9 ⟨rfl, I1, rfl, t1, f1⟩ -
        rw [show spS (.inr (so, (st, (nx, v)))) = _ from sp_a (by omega)] at kk
        exact w_return dX11_readLine_165 rfl rfl (kk I1 t1 (((FrN.rf.up (by decide)).up (by decide)).tr f1))
    · skip
      replace h1 : ((so : Nat) : Int) = 3 := (zeq (z_nI (by omega)) (by decide)).mp h1
      first
      | (exfalso; omega)
      | skip
        refine w_iconst (v := 1) dX11_readLine_152 (by decide) ?_
        refine w_goto (tgt := 157) dX11_readLine_153 (by decide) ?_
        refine w_iconst (v := 2) dX11_readLine_157 (by decide) ?_
        refine w_callV (as := [vI (1), vI (2)]) (st := []) (Tri.mono (d_need1 (I := I) (2)) (Nat.le_of_ble_eq_true rfl)) rfl rfl tg_X11_needs lk_X11_115 in_X11_needs se_X11_needs rfl dX11_readLine_158 rfl (Nat.le_of_ble_eq_true rfl) (Nat.le_refl _) (Nat.le_refl _) ?_
        rintro _ _ ⟨rfl, rfl⟩ -
        refine w_aload_n dX11_readLine_161 rfl ?_
        refine w_callV (as := []) (st := []) (Tri.mono (d_take hk ht hok h) (Nat.le_of_ble_eq_true rfl)) rfl rfl tg_X11_takes lk_X11_119 in_X11_takes se_X11_takes rfl dX11_readLine_162 rfl (Nat.le_of_ble_eq_true rfl) (Nat.le_refl _) (Nat.le_refl _) ?_
        rintro v M9 ⟨rfl, I1, rfl, t1, f1⟩ -
        rw [show spS (.inr (so, (st, (nx, v)))) = _ from sp_b (by omega)] at kk
        exact w_return dX11_readLine_165 rfl rfl (kk I1 t1 f1)

theorem DM.t8 {I I' : xF4 Int32} {a : aA} {t t' : Bool} (h : DM I a t) (e3 : ∀ x, I' 34 0 0 x = I 34 0 0 x) (e0 : ∀ x, x = 6 ∨ x = 7 → I' 30 0 0 x = I 30 0 0 x) (e8 : I' 30 0 0 8 = tI t') : DM I' a t' := by
  obtain ⟨h1, h2, h3, h4, h5, h6⟩ := h
  exact ⟨(e0 6 (by omega)).trans h1, (e0 7 (by omega)).trans h2, e8, h4.fr e3, fun j p q => ⟨(e3 _).trans (h5 j p q).1, (e3 _).trans (h5 j p q).2⟩, fun c p q => ⟨(e3 _).trans (h6 c p q).1, (e3 _).trans (h6 c p q).2.1, (e3 _).trans (h6 c p q).2.2⟩⟩

set_option maxHeartbeats 1000000 in
theorem l_rdJ {I : xF4 Int32} {L : xF4 Int64} {n : Nat} {b : Nat → Nat} (hk : BK n b) (ht : TN I n b) {so st nx v : Nat} (hok : OKT n (.inr (so, (st, (nx, v))))) (h : TM I (.inr (so, (st, (nx, v))))) {a : aA} {t : Bool} (hd : DOK a) (hm : DM I a t) {w : Nat} (hw : w < 4) : Wp 6 109 m_X11_readLine 18 [some (vR 30 0 0), some (vI (nI w))] [] (rM I L) (pLz (tkT n b (spS (tkT n b (bodyT n b w (Sum.inr (so, (st, (nx, v))) : tS) a t).1))) (bodyT n b w (Sum.inr (so, (st, (nx, v))) : tS) a t).2 I L) := by
  obtain ⟨g4, g5, g6, g7, g8, g9⟩ : so ≤ 3 ∧ st ≤ n ∧ nx ≤ n ∧ v ≤ 99 ∧ st ≤ nx ∧ (so = 0 ∨ (st < nx ∧ st < n)) := id hok
  obtain ⟨w1, w2, -⟩ := id hd.1
  have m6 := hm.1
  have m7 := hm.2.1
  have m8 := hm.2.2.1
  rcases t with _ | _
  · skip
    refine w_aload_n dX11_readLine_18 rfl ?_
    refine w_iload_n dX11_readLine_19 rfl ?_
    refine w_bipush (v := (-4)) dX11_readLine_20 (by decide) ?_
    refine w_icmp_eq (tgt := 29) dX11_readLine_22 (by decide) (fun h1 => ?_) (fun h1 => ?_)
    · skip
      replace h1 : ((w : Nat) : Int) = (-4) := (zeq (z_nI (by omega)) (by decide)).mp h1
      first
      | (exfalso; omega)
      | skip
        refine w_iconst (v := 0) dX11_readLine_29 (by decide) ?_
        refine w_iconst (v := 2) dX11_readLine_30 (by decide) ?_
        refine w_callV (as := [vI (0), vI (2)]) (st := []) (Tri.mono (d_needL (I := I) h.1 h.2.2.1 (2)) (Nat.le_of_ble_eq_true rfl)) rfl rfl tg_X11_needs lk_X11_115 in_X11_needs se_X11_needs rfl dX11_readLine_31 rfl (Nat.le_of_ble_eq_true rfl) (Nat.le_refl _) (Nat.le_refl _) ?_
        rintro _ _ ⟨rfl, rfl⟩ -
        refine w_aload_n dX11_readLine_34 rfl ?_
        refine w_iload_n dX11_readLine_35 rfl ?_
        refine w_bipush (v := 8) dX11_readLine_36 (by decide) ?_
        refine w_icmp_eq (tgt := 65) dX11_readLine_38 (by decide) (fun h2 => ?_) (fun h2 => ?_)
        · skip
          replace h2 : ((w : Nat) : Int) = 8 := (zeq (z_nI (by omega)) (by decide)).mp h2
          first
          | (exfalso; omega)
          | skip
            refine w_iconst (v := 1) dX11_readLine_65 (by decide) ?_
            refine w_goto (tgt := 70) dX11_readLine_66 (by decide) ?_
            refine w_iconst (v := 5) dX11_readLine_70 (by decide) ?_
            refine w_callV (as := [vI (1), vI (5)]) (st := []) (Tri.mono (d_need1 (I := xup (xup I 30 0 0 15 (2)) 30 0 0 16 (nI st)) (5)) (Nat.le_of_ble_eq_true rfl)) rfl rfl tg_X11_needs lk_X11_115 in_X11_needs se_X11_needs rfl dX11_readLine_71 rfl (Nat.le_of_ble_eq_true rfl) (Nat.le_refl _) (Nat.le_refl _) ?_
            rintro _ _ ⟨rfl, rfl⟩ -
            refine w_aload_n dX11_readLine_74 rfl ?_
            refine w_iload_n dX11_readLine_75 rfl ?_
            refine w_bipush (v := 8) dX11_readLine_76 (by decide) ?_
            refine w_icmp_ne (tgt := 88) dX11_readLine_78 (by decide) (fun h3 => ?_) (fun h3 => ?_)
            · skip
              replace h3 : ¬ (((w : Nat) : Int) = 8) := fun q => h3 ((zeq (z_nI (by omega)) (by decide)).mpr q)
              first
              | (exfalso; omega)
              | skip
                refine w_iconst (v := 1) dX11_readLine_88 (by decide) ?_
                refine w_goto (tgt := 93) dX11_readLine_89 (by decide) ?_
                refine w_iconst (v := 4) dX11_readLine_93 (by decide) ?_
                refine w_callV (as := [vI (1), vI (4)]) (st := []) (Tri.mono (d_need1 (I := xup (xup I 30 0 0 15 (2)) 30 0 0 16 (nI st)) (4)) (Nat.le_of_ble_eq_true rfl)) rfl rfl tg_X11_needs lk_X11_115 in_X11_needs se_X11_needs rfl dX11_readLine_94 rfl (Nat.le_of_ble_eq_true rfl) (Nat.le_refl _) (Nat.le_refl _) ?_
                rintro _ _ ⟨rfl, rfl⟩ -
                refine w_aload_n dX11_readLine_97 rfl ?_
                refine w_aload_n dX11_readLine_98 rfl ?_
                refine w_getI ff_X11_54 rfl rfl dX11_readLine_99 ?_
                rw [show ((xup (xup I 30 0 0 15 (2)) 30 0 0 16 (nI st)) 30 0 0 8 : Int32) = 0 from ((xup_slot (by decide)).trans ((xup_slot (by decide)).trans m8))]
                refine w_if_ne (tgt := 111) dX11_readLine_102 (by decide) (fun h => absurd (by decide) h) (fun _ => ?_)
                refine w_iload_n dX11_readLine_105 rfl ?_
                refine w_bipush (v := 8) dX11_readLine_106 (by decide) ?_
                refine w_icmp_ne (tgt := 115) dX11_readLine_108 (by decide) (fun h4 => ?_) (fun h4 => ?_)
                · skip
                  replace h4 : ¬ (((w : Nat) : Int) = 8) := fun q => h4 ((zeq (z_nI (by omega)) (by decide)).mpr q)
                  first
                  | (exfalso; omega)
                  | skip
                    refine w_iconst (v := 0) dX11_readLine_115 (by decide) ?_
                    refine w_putI ff_X11_54 rfl rfl rfl rfl dX11_readLine_116 ?_
                    have hu0 : (if nJ a < 4 then (Sum.inr (so, (st, (nx, v))) : tS) else flT 5 (Sum.inr (so, (st, (nx, v))) : tS)) = (Sum.inl (2, st) : tS) := if_neg (by omega)
                    refine w_aload_n dX11_readLine_119 rfl ?_
                    refine w_callV (as := []) (st := []) (Tri.mono (d_take (I := xup (xup (xup I 30 0 0 15 (2)) 30 0 0 16 (nI st)) 30 0 0 8 (0)) hk (ht.y (((FrY.rf.up30 (by decide)).up30 (by decide)).up30 (by decide))) (s := (Sum.inl (2, st) : tS)) ⟨by show 1 ≤ 2; omega, by show 2 ≤ 5; omega, g5⟩ ⟨(xup_slot (by decide)).trans ((xup_slot (by decide)).trans xup_self), (xup_slot (by decide)).trans xup_self⟩) (Nat.le_of_ble_eq_true rfl)) rfl rfl tg_X11_takes lk_X11_119 in_X11_takes se_X11_takes rfl dX11_readLine_120 rfl (Nat.le_of_ble_eq_true rfl) (Nat.le_refl _) (Nat.le_refl _) ?_
                    rintro v M9 ⟨rfl, I1, rfl, t1, f1⟩ -
                    have fy : FrY I I1 := (((FrY.rf.up30 (by decide)).up30 (by decide)).up30 (by decide)).tr f1.y
                    have hm1 : DM I1 a false := (DM.t8 hm (I' := xup (xup (xup I 30 0 0 15 (2)) 30 0 0 16 (nI st)) 30 0 0 8 (0)) (fun x => (xup_tag (by decide)).trans ((xup_tag (by decide)).trans (xup_tag (by decide)))) (fun x hx => (xup_slot (by omega)).trans ((xup_slot (by omega)).trans (xup_slot (by omega)))) (xup_self.trans (by rfl))).n f1
                    have hou : OKT n (tkT n b (Sum.inl (2, st) : tS)) := tk_ok ⟨by show 1 ≤ 2; omega, by show 2 ≤ 5; omega, g5⟩
                    obtain ⟨u, hu⟩ : ∃ u, u = tkT n b (Sum.inl (2, st) : tS) := ⟨_, rfl⟩
                    rw [← hu] at t1 hou
                    have hu1 : tkT n b (if nJ a < 4 then (Sum.inr (so, (st, (nx, v))) : tS) else flT 5 (Sum.inr (so, (st, (nx, v))) : tS)) = u := by rw [hu0, hu]
                    rw [show bodyT n b w (Sum.inr (so, (st, (nx, v))) : tS) a false = _ from if_pos (by omega)]
                    unfold pLz uJ2 uJ1
                    rw [hu1]
                    rcases u with ⟨c, p⟩ | ⟨so2, st2, nx2, v2⟩
                    · skip
                      have q1 := hou.1
                      have q2 := hou.2.1
                      replace q1 : 1 ≤ c := q1
                      replace q2 : c ≤ 5 := q2
                      refine w_aload_n dX11_readLine_123 rfl ?_
                      refine w_getI ff_X11_73 rfl rfl dX11_readLine_124 ?_
                      rw [show (I1 30 0 0 15 : Int32) = nI c from t1.1]
                      refine w_if_le (tgt := 131) dX11_readLine_127 (by decide) (fun h1 => ?_) (fun h1 => ?_)
                      · skip
                        replace h1 : ((c : Nat) : Int) ≤ 0 := (zle (z_nI (by omega)) (by decide)).mp h1
                        first
                        | (exfalso; omega)
                        | skip
                          exfalso
                          omega
                      · skip
                        replace h1 : ¬ (((c : Nat) : Int) ≤ 0) := fun q => h1 ((zle (z_nI (by omega)) (by decide)).mpr q)
                        first
                        | (exfalso; omega)
                        | skip
                          exact w_return dX11_readLine_130 rfl rfl (⟨rfl, _, rfl, t1, fy, fun q z => by cases z⟩)
                    · skip
                      refine w_aload_n dX11_readLine_123 rfl ?_
                      refine w_getI ff_X11_73 rfl rfl dX11_readLine_124 ?_
                      rw [show (I1 30 0 0 15 : Int32) = 0 from t1.1]
                      refine w_if_le (tgt := 131) dX11_readLine_127 (by decide) (fun _ => ?_) (fun h => absurd (by decide) h)
                      refine w_aload_n dX11_readLine_131 rfl ?_
                      refine w_iload_n dX11_readLine_132 rfl ?_
                      cases hu
                · skip
                  replace h4 : ((w : Nat) : Int) = 8 := (zeq (z_nI (by omega)) (by decide)).mp h4
                  first
                  | (exfalso; omega)
                  | skip
                    refine w_iconst (v := 1) dX11_readLine_111 (by decide) ?_
                    refine w_goto (tgt := 116) dX11_readLine_112 (by decide) ?_
                    refine w_putI ff_X11_54 rfl rfl rfl rfl dX11_readLine_116 ?_
                    have hu0 : (if nJ a < 4 then (Sum.inr (so, (st, (nx, v))) : tS) else flT 5 (Sum.inr (so, (st, (nx, v))) : tS)) = (Sum.inl (2, st) : tS) := if_neg (by omega)
                    refine w_aload_n dX11_readLine_119 rfl ?_
                    refine w_callV (as := []) (st := []) (Tri.mono (d_take (I := xup (xup (xup I 30 0 0 15 (2)) 30 0 0 16 (nI st)) 30 0 0 8 (1)) hk (ht.y (((FrY.rf.up30 (by decide)).up30 (by decide)).up30 (by decide))) (s := (Sum.inl (2, st) : tS)) ⟨by show 1 ≤ 2; omega, by show 2 ≤ 5; omega, g5⟩ ⟨(xup_slot (by decide)).trans ((xup_slot (by decide)).trans xup_self), (xup_slot (by decide)).trans xup_self⟩) (Nat.le_of_ble_eq_true rfl)) rfl rfl tg_X11_takes lk_X11_119 in_X11_takes se_X11_takes rfl dX11_readLine_120 rfl (Nat.le_of_ble_eq_true rfl) (Nat.le_refl _) (Nat.le_refl _) ?_
                    rintro v M9 ⟨rfl, I1, rfl, t1, f1⟩ -
                    have fy : FrY I I1 := (((FrY.rf.up30 (by decide)).up30 (by decide)).up30 (by decide)).tr f1.y
                    have hm1 : DM I1 a false := (DM.t8 hm (I' := xup (xup (xup I 30 0 0 15 (2)) 30 0 0 16 (nI st)) 30 0 0 8 (1)) (fun x => (xup_tag (by decide)).trans ((xup_tag (by decide)).trans (xup_tag (by decide)))) (fun x hx => (xup_slot (by omega)).trans ((xup_slot (by omega)).trans (xup_slot (by omega)))) (xup_self.trans (by rfl))).n f1
                    have hou : OKT n (tkT n b (Sum.inl (2, st) : tS)) := tk_ok ⟨by show 1 ≤ 2; omega, by show 2 ≤ 5; omega, g5⟩
                    obtain ⟨u, hu⟩ : ∃ u, u = tkT n b (Sum.inl (2, st) : tS) := ⟨_, rfl⟩
                    rw [← hu] at t1 hou
                    have hu1 : tkT n b (if nJ a < 4 then (Sum.inr (so, (st, (nx, v))) : tS) else flT 5 (Sum.inr (so, (st, (nx, v))) : tS)) = u := by rw [hu0, hu]
                    rw [show bodyT n b w (Sum.inr (so, (st, (nx, v))) : tS) a false = _ from if_pos (by omega)]
                    unfold pLz uJ2 uJ1
                    rw [hu1]
                    rcases u with ⟨c, p⟩ | ⟨so2, st2, nx2, v2⟩
                    · skip
                      have q1 := hou.1
                      have q2 := hou.2.1
                      replace q1 : 1 ≤ c := q1
                      replace q2 : c ≤ 5 := q2
                      refine w_aload_n dX11_readLine_123 rfl ?_
                      refine w_getI ff_X11_73 rfl rfl dX11_readLine_124 ?_
                      rw [show (I1 30 0 0 15 : Int32) = nI c from t1.1]
                      refine w_if_le (tgt := 131) dX11_readLine_127 (by decide) (fun h1 => ?_) (fun h1 => ?_)
                      · skip
                        replace h1 : ((c : Nat) : Int) ≤ 0 := (zle (z_nI (by omega)) (by decide)).mp h1
                        first
                        | (exfalso; omega)
                        | skip
                          exfalso
                          omega
                      · skip
                        replace h1 : ¬ (((c : Nat) : Int) ≤ 0) := fun q => h1 ((zle (z_nI (by omega)) (by decide)).mpr q)
                        first
                        | (exfalso; omega)
                        | skip
                          exact w_return dX11_readLine_130 rfl rfl (⟨rfl, _, rfl, t1, fy, fun q z => by cases z⟩)
                    · skip
                      refine w_aload_n dX11_readLine_123 rfl ?_
                      refine w_getI ff_X11_73 rfl rfl dX11_readLine_124 ?_
                      rw [show (I1 30 0 0 15 : Int32) = 0 from t1.1]
                      refine w_if_le (tgt := 131) dX11_readLine_127 (by decide) (fun _ => ?_) (fun h => absurd (by decide) h)
                      refine w_aload_n dX11_readLine_131 rfl ?_
                      refine w_iload_n dX11_readLine_132 rfl ?_
                      cases hu
            · skip
              replace h3 : ((w : Nat) : Int) = 8 := (zeq (z_nI (by omega)) (by decide)).mp h3
              first
              | (exfalso; omega)
              | skip
                refine w_aload_n dX11_readLine_81 rfl ?_
                refine w_getI ff_X11_54 rfl rfl dX11_readLine_82 ?_
                rw [show ((xup (xup I 30 0 0 15 (2)) 30 0 0 16 (nI st)) 30 0 0 8 : Int32) = 0 from ((xup_slot (by decide)).trans ((xup_slot (by decide)).trans m8))]
                refine w_if_ne (tgt := 92) dX11_readLine_85 (by decide) (fun h => absurd (by decide) h) (fun _ => ?_)
                refine w_iconst (v := 1) dX11_readLine_88 (by decide) ?_
                refine w_goto (tgt := 93) dX11_readLine_89 (by decide) ?_
                refine w_iconst (v := 4) dX11_readLine_93 (by decide) ?_
                refine w_callV (as := [vI (1), vI (4)]) (st := []) (Tri.mono (d_need1 (I := xup (xup I 30 0 0 15 (2)) 30 0 0 16 (nI st)) (4)) (Nat.le_of_ble_eq_true rfl)) rfl rfl tg_X11_needs lk_X11_115 in_X11_needs se_X11_needs rfl dX11_readLine_94 rfl (Nat.le_of_ble_eq_true rfl) (Nat.le_refl _) (Nat.le_refl _) ?_
                rintro _ _ ⟨rfl, rfl⟩ -
                refine w_aload_n dX11_readLine_97 rfl ?_
                refine w_aload_n dX11_readLine_98 rfl ?_
                refine w_getI ff_X11_54 rfl rfl dX11_readLine_99 ?_
                rw [show ((xup (xup I 30 0 0 15 (2)) 30 0 0 16 (nI st)) 30 0 0 8 : Int32) = 0 from ((xup_slot (by decide)).trans ((xup_slot (by decide)).trans m8))]
                refine w_if_ne (tgt := 111) dX11_readLine_102 (by decide) (fun h => absurd (by decide) h) (fun _ => ?_)
                refine w_iload_n dX11_readLine_105 rfl ?_
                refine w_bipush (v := 8) dX11_readLine_106 (by decide) ?_
                refine w_icmp_ne (tgt := 115) dX11_readLine_108 (by decide) (fun h4 => ?_) (fun h4 => ?_)
                · skip
                  replace h4 : ¬ (((w : Nat) : Int) = 8) := fun q => h4 ((zeq (z_nI (by omega)) (by decide)).mpr q)
                  first
                  | (exfalso; omega)
                  | skip
                    refine w_iconst (v := 0) dX11_readLine_115 (by decide) ?_
                    refine w_putI ff_X11_54 rfl rfl rfl rfl dX11_readLine_116 ?_
                    have hu0 : (if nJ a < 4 then (Sum.inr (so, (st, (nx, v))) : tS) else flT 5 (Sum.inr (so, (st, (nx, v))) : tS)) = (Sum.inl (2, st) : tS) := if_neg (by omega)
                    refine w_aload_n dX11_readLine_119 rfl ?_
                    refine w_callV (as := []) (st := []) (Tri.mono (d_take (I := xup (xup (xup I 30 0 0 15 (2)) 30 0 0 16 (nI st)) 30 0 0 8 (0)) hk (ht.y (((FrY.rf.up30 (by decide)).up30 (by decide)).up30 (by decide))) (s := (Sum.inl (2, st) : tS)) ⟨by show 1 ≤ 2; omega, by show 2 ≤ 5; omega, g5⟩ ⟨(xup_slot (by decide)).trans ((xup_slot (by decide)).trans xup_self), (xup_slot (by decide)).trans xup_self⟩) (Nat.le_of_ble_eq_true rfl)) rfl rfl tg_X11_takes lk_X11_119 in_X11_takes se_X11_takes rfl dX11_readLine_120 rfl (Nat.le_of_ble_eq_true rfl) (Nat.le_refl _) (Nat.le_refl _) ?_
                    rintro v M9 ⟨rfl, I1, rfl, t1, f1⟩ -
                    have fy : FrY I I1 := (((FrY.rf.up30 (by decide)).up30 (by decide)).up30 (by decide)).tr f1.y
                    have hm1 : DM I1 a false := (DM.t8 hm (I' := xup (xup (xup I 30 0 0 15 (2)) 30 0 0 16 (nI st)) 30 0 0 8 (0)) (fun x => (xup_tag (by decide)).trans ((xup_tag (by decide)).trans (xup_tag (by decide)))) (fun x hx => (xup_slot (by omega)).trans ((xup_slot (by omega)).trans (xup_slot (by omega)))) (xup_self.trans (by rfl))).n f1
                    have hou : OKT n (tkT n b (Sum.inl (2, st) : tS)) := tk_ok ⟨by show 1 ≤ 2; omega, by show 2 ≤ 5; omega, g5⟩
                    obtain ⟨u, hu⟩ : ∃ u, u = tkT n b (Sum.inl (2, st) : tS) := ⟨_, rfl⟩
                    rw [← hu] at t1 hou
                    have hu1 : tkT n b (if nJ a < 4 then (Sum.inr (so, (st, (nx, v))) : tS) else flT 5 (Sum.inr (so, (st, (nx, v))) : tS)) = u := by rw [hu0, hu]
                    rw [show bodyT n b w (Sum.inr (so, (st, (nx, v))) : tS) a false = _ from if_pos (by omega)]
                    unfold pLz uJ2 uJ1
                    rw [hu1]
                    rcases u with ⟨c, p⟩ | ⟨so2, st2, nx2, v2⟩
                    · skip
                      have q1 := hou.1
                      have q2 := hou.2.1
                      replace q1 : 1 ≤ c := q1
                      replace q2 : c ≤ 5 := q2
                      refine w_aload_n dX11_readLine_123 rfl ?_
                      refine w_getI ff_X11_73 rfl rfl dX11_readLine_124 ?_
                      rw [show (I1 30 0 0 15 : Int32) = nI c from t1.1]
                      refine w_if_le (tgt := 131) dX11_readLine_127 (by decide) (fun h1 => ?_) (fun h1 => ?_)
                      · skip
                        replace h1 : ((c : Nat) : Int) ≤ 0 := (zle (z_nI (by omega)) (by decide)).mp h1
                        first
                        | (exfalso; omega)
                        | skip
                          exfalso
                          omega
                      · skip
                        replace h1 : ¬ (((c : Nat) : Int) ≤ 0) := fun q => h1 ((zle (z_nI (by omega)) (by decide)).mpr q)
                        first
                        | (exfalso; omega)
                        | skip
                          exact w_return dX11_readLine_130 rfl rfl (⟨rfl, _, rfl, t1, fy, fun q z => by cases z⟩)
                    · skip
                      refine w_aload_n dX11_readLine_123 rfl ?_
                      refine w_getI ff_X11_73 rfl rfl dX11_readLine_124 ?_
                      rw [show (I1 30 0 0 15 : Int32) = 0 from t1.1]
                      refine w_if_le (tgt := 131) dX11_readLine_127 (by decide) (fun _ => ?_) (fun h => absurd (by decide) h)
                      refine w_aload_n dX11_readLine_131 rfl ?_
                      refine w_iload_n dX11_readLine_132 rfl ?_
                      cases hu
                · skip
                  replace h4 : ((w : Nat) : Int) = 8 := (zeq (z_nI (by omega)) (by decide)).mp h4
                  first
                  | (exfalso; omega)
                  | skip
                    refine w_iconst (v := 1) dX11_readLine_111 (by decide) ?_
                    refine w_goto (tgt := 116) dX11_readLine_112 (by decide) ?_
                    refine w_putI ff_X11_54 rfl rfl rfl rfl dX11_readLine_116 ?_
                    have hu0 : (if nJ a < 4 then (Sum.inr (so, (st, (nx, v))) : tS) else flT 5 (Sum.inr (so, (st, (nx, v))) : tS)) = (Sum.inl (2, st) : tS) := if_neg (by omega)
                    refine w_aload_n dX11_readLine_119 rfl ?_
                    refine w_callV (as := []) (st := []) (Tri.mono (d_take (I := xup (xup (xup I 30 0 0 15 (2)) 30 0 0 16 (nI st)) 30 0 0 8 (1)) hk (ht.y (((FrY.rf.up30 (by decide)).up30 (by decide)).up30 (by decide))) (s := (Sum.inl (2, st) : tS)) ⟨by show 1 ≤ 2; omega, by show 2 ≤ 5; omega, g5⟩ ⟨(xup_slot (by decide)).trans ((xup_slot (by decide)).trans xup_self), (xup_slot (by decide)).trans xup_self⟩) (Nat.le_of_ble_eq_true rfl)) rfl rfl tg_X11_takes lk_X11_119 in_X11_takes se_X11_takes rfl dX11_readLine_120 rfl (Nat.le_of_ble_eq_true rfl) (Nat.le_refl _) (Nat.le_refl _) ?_
                    rintro v M9 ⟨rfl, I1, rfl, t1, f1⟩ -
                    have fy : FrY I I1 := (((FrY.rf.up30 (by decide)).up30 (by decide)).up30 (by decide)).tr f1.y
                    have hm1 : DM I1 a false := (DM.t8 hm (I' := xup (xup (xup I 30 0 0 15 (2)) 30 0 0 16 (nI st)) 30 0 0 8 (1)) (fun x => (xup_tag (by decide)).trans ((xup_tag (by decide)).trans (xup_tag (by decide)))) (fun x hx => (xup_slot (by omega)).trans ((xup_slot (by omega)).trans (xup_slot (by omega)))) (xup_self.trans (by rfl))).n f1
                    have hou : OKT n (tkT n b (Sum.inl (2, st) : tS)) := tk_ok ⟨by show 1 ≤ 2; omega, by show 2 ≤ 5; omega, g5⟩
                    obtain ⟨u, hu⟩ : ∃ u, u = tkT n b (Sum.inl (2, st) : tS) := ⟨_, rfl⟩
                    rw [← hu] at t1 hou
                    have hu1 : tkT n b (if nJ a < 4 then (Sum.inr (so, (st, (nx, v))) : tS) else flT 5 (Sum.inr (so, (st, (nx, v))) : tS)) = u := by rw [hu0, hu]
                    rw [show bodyT n b w (Sum.inr (so, (st, (nx, v))) : tS) a false = _ from if_pos (by omega)]
                    unfold pLz uJ2 uJ1
                    rw [hu1]
                    rcases u with ⟨c, p⟩ | ⟨so2, st2, nx2, v2⟩
                    · skip
                      have q1 := hou.1
                      have q2 := hou.2.1
                      replace q1 : 1 ≤ c := q1
                      replace q2 : c ≤ 5 := q2
                      refine w_aload_n dX11_readLine_123 rfl ?_
                      refine w_getI ff_X11_73 rfl rfl dX11_readLine_124 ?_
                      rw [show (I1 30 0 0 15 : Int32) = nI c from t1.1]
                      refine w_if_le (tgt := 131) dX11_readLine_127 (by decide) (fun h1 => ?_) (fun h1 => ?_)
                      · skip
                        replace h1 : ((c : Nat) : Int) ≤ 0 := (zle (z_nI (by omega)) (by decide)).mp h1
                        first
                        | (exfalso; omega)
                        | skip
                          exfalso
                          omega
                      · skip
                        replace h1 : ¬ (((c : Nat) : Int) ≤ 0) := fun q => h1 ((zle (z_nI (by omega)) (by decide)).mpr q)
                        first
                        | (exfalso; omega)
                        | skip
                          exact w_return dX11_readLine_130 rfl rfl (⟨rfl, _, rfl, t1, fy, fun q z => by cases z⟩)
                    · skip
                      refine w_aload_n dX11_readLine_123 rfl ?_
                      refine w_getI ff_X11_73 rfl rfl dX11_readLine_124 ?_
                      rw [show (I1 30 0 0 15 : Int32) = 0 from t1.1]
                      refine w_if_le (tgt := 131) dX11_readLine_127 (by decide) (fun _ => ?_) (fun h => absurd (by decide) h)
                      refine w_aload_n dX11_readLine_131 rfl ?_
                      refine w_iload_n dX11_readLine_132 rfl ?_
                      cases hu
        · skip
          replace h2 : ¬ (((w : Nat) : Int) = 8) := fun q => h2 ((zeq (z_nI (by omega)) (by decide)).mpr q)
          first
          | (exfalso; omega)
          | skip
            refine w_iload_n dX11_readLine_41 rfl ?_
            refine w_iconst (v := 4) dX11_readLine_42 (by decide) ?_
            refine w_icmp_lt (tgt := 57) dX11_readLine_43 (by decide) (fun h3 => ?_) (fun h3 => ?_)
            · skip
              replace h3 : ((w : Nat) : Int) < 4 := (zlt (z_nI (by omega)) (by decide)).mp h3
              first
              | (exfalso; omega)
              | skip
                refine w_aload_n dX11_readLine_57 rfl ?_
                refine w_getI ff_X11_47 rfl rfl dX11_readLine_58 ?_
                rw [show ((xup (xup I 30 0 0 15 (2)) 30 0 0 16 (nI st)) 30 0 0 6 : Int32) = nI (nJ a) from ((xup_slot (by decide)).trans ((xup_slot (by decide)).trans m6))]
                refine w_iconst (v := 4) dX11_readLine_61 (by decide) ?_
                refine w_icmp_ge (tgt := 69) dX11_readLine_62 (by decide) (fun h4 => ?_) (fun h4 => ?_)
                · skip
                  replace h4 : 4 ≤ ((nJ a : Nat) : Int) := (zle (by decide) (z_nI (by omega))).mp h4
                  first
                  | (exfalso; omega)
                  | skip
                    refine w_iconst (v := 0) dX11_readLine_69 (by decide) ?_
                    refine w_iconst (v := 5) dX11_readLine_70 (by decide) ?_
                    refine w_callV (as := [vI (0), vI (5)]) (st := []) (Tri.mono (d_needD (I := xup (xup I 30 0 0 15 (2)) 30 0 0 16 (nI st)) (e := 2) ⟨by decide, by decide⟩ (((xup_slot (by decide)).trans xup_self).trans (by rfl)) (5)) (Nat.le_of_ble_eq_true rfl)) rfl rfl tg_X11_needs lk_X11_115 in_X11_needs se_X11_needs rfl dX11_readLine_71 rfl (Nat.le_of_ble_eq_true rfl) (Nat.le_refl _) (Nat.le_refl _) ?_
                    rintro _ _ ⟨rfl, rfl⟩ -
                    refine w_aload_n dX11_readLine_74 rfl ?_
                    refine w_iload_n dX11_readLine_75 rfl ?_
                    refine w_bipush (v := 8) dX11_readLine_76 (by decide) ?_
                    refine w_icmp_ne (tgt := 88) dX11_readLine_78 (by decide) (fun h5 => ?_) (fun h5 => ?_)
                    · skip
                      replace h5 : ¬ (((w : Nat) : Int) = 8) := fun q => h5 ((zeq (z_nI (by omega)) (by decide)).mpr q)
                      first
                      | (exfalso; omega)
                      | skip
                        refine w_iconst (v := 1) dX11_readLine_88 (by decide) ?_
                        refine w_goto (tgt := 93) dX11_readLine_89 (by decide) ?_
                        refine w_iconst (v := 4) dX11_readLine_93 (by decide) ?_
                        refine w_callV (as := [vI (1), vI (4)]) (st := []) (Tri.mono (d_need1 (I := xup (xup I 30 0 0 15 (2)) 30 0 0 16 (nI st)) (4)) (Nat.le_of_ble_eq_true rfl)) rfl rfl tg_X11_needs lk_X11_115 in_X11_needs se_X11_needs rfl dX11_readLine_94 rfl (Nat.le_of_ble_eq_true rfl) (Nat.le_refl _) (Nat.le_refl _) ?_
                        rintro _ _ ⟨rfl, rfl⟩ -
                        refine w_aload_n dX11_readLine_97 rfl ?_
                        refine w_aload_n dX11_readLine_98 rfl ?_
                        refine w_getI ff_X11_54 rfl rfl dX11_readLine_99 ?_
                        rw [show ((xup (xup I 30 0 0 15 (2)) 30 0 0 16 (nI st)) 30 0 0 8 : Int32) = 0 from ((xup_slot (by decide)).trans ((xup_slot (by decide)).trans m8))]
                        refine w_if_ne (tgt := 111) dX11_readLine_102 (by decide) (fun h => absurd (by decide) h) (fun _ => ?_)
                        refine w_iload_n dX11_readLine_105 rfl ?_
                        refine w_bipush (v := 8) dX11_readLine_106 (by decide) ?_
                        refine w_icmp_ne (tgt := 115) dX11_readLine_108 (by decide) (fun h6 => ?_) (fun h6 => ?_)
                        · skip
                          replace h6 : ¬ (((w : Nat) : Int) = 8) := fun q => h6 ((zeq (z_nI (by omega)) (by decide)).mpr q)
                          first
                          | (exfalso; omega)
                          | skip
                            refine w_iconst (v := 0) dX11_readLine_115 (by decide) ?_
                            refine w_putI ff_X11_54 rfl rfl rfl rfl dX11_readLine_116 ?_
                            have hu0 : (if nJ a < 4 then (Sum.inr (so, (st, (nx, v))) : tS) else flT 5 (Sum.inr (so, (st, (nx, v))) : tS)) = (Sum.inl (2, st) : tS) := if_neg (by omega)
                            refine w_aload_n dX11_readLine_119 rfl ?_
                            refine w_callV (as := []) (st := []) (Tri.mono (d_take (I := xup (xup (xup I 30 0 0 15 (2)) 30 0 0 16 (nI st)) 30 0 0 8 (0)) hk (ht.y (((FrY.rf.up30 (by decide)).up30 (by decide)).up30 (by decide))) (s := (Sum.inl (2, st) : tS)) ⟨by show 1 ≤ 2; omega, by show 2 ≤ 5; omega, g5⟩ ⟨(xup_slot (by decide)).trans ((xup_slot (by decide)).trans xup_self), (xup_slot (by decide)).trans xup_self⟩) (Nat.le_of_ble_eq_true rfl)) rfl rfl tg_X11_takes lk_X11_119 in_X11_takes se_X11_takes rfl dX11_readLine_120 rfl (Nat.le_of_ble_eq_true rfl) (Nat.le_refl _) (Nat.le_refl _) ?_
                            rintro v M9 ⟨rfl, I1, rfl, t1, f1⟩ -
                            have fy : FrY I I1 := (((FrY.rf.up30 (by decide)).up30 (by decide)).up30 (by decide)).tr f1.y
                            have hm1 : DM I1 a false := (DM.t8 hm (I' := xup (xup (xup I 30 0 0 15 (2)) 30 0 0 16 (nI st)) 30 0 0 8 (0)) (fun x => (xup_tag (by decide)).trans ((xup_tag (by decide)).trans (xup_tag (by decide)))) (fun x hx => (xup_slot (by omega)).trans ((xup_slot (by omega)).trans (xup_slot (by omega)))) (xup_self.trans (by rfl))).n f1
                            have hou : OKT n (tkT n b (Sum.inl (2, st) : tS)) := tk_ok ⟨by show 1 ≤ 2; omega, by show 2 ≤ 5; omega, g5⟩
                            obtain ⟨u, hu⟩ : ∃ u, u = tkT n b (Sum.inl (2, st) : tS) := ⟨_, rfl⟩
                            rw [← hu] at t1 hou
                            have hu1 : tkT n b (if nJ a < 4 then (Sum.inr (so, (st, (nx, v))) : tS) else flT 5 (Sum.inr (so, (st, (nx, v))) : tS)) = u := by rw [hu0, hu]
                            rw [show bodyT n b w (Sum.inr (so, (st, (nx, v))) : tS) a false = _ from if_pos (by omega)]
                            unfold pLz uJ2 uJ1
                            rw [hu1]
                            rcases u with ⟨c, p⟩ | ⟨so2, st2, nx2, v2⟩
                            · skip
                              have q1 := hou.1
                              have q2 := hou.2.1
                              replace q1 : 1 ≤ c := q1
                              replace q2 : c ≤ 5 := q2
                              refine w_aload_n dX11_readLine_123 rfl ?_
                              refine w_getI ff_X11_73 rfl rfl dX11_readLine_124 ?_
                              rw [show (I1 30 0 0 15 : Int32) = nI c from t1.1]
                              refine w_if_le (tgt := 131) dX11_readLine_127 (by decide) (fun h1 => ?_) (fun h1 => ?_)
                              · skip
                                replace h1 : ((c : Nat) : Int) ≤ 0 := (zle (z_nI (by omega)) (by decide)).mp h1
                                first
                                | (exfalso; omega)
                                | skip
                                  exfalso
                                  omega
                              · skip
                                replace h1 : ¬ (((c : Nat) : Int) ≤ 0) := fun q => h1 ((zle (z_nI (by omega)) (by decide)).mpr q)
                                first
                                | (exfalso; omega)
                                | skip
                                  exact w_return dX11_readLine_130 rfl rfl (⟨rfl, _, rfl, t1, fy, fun q z => by cases z⟩)
                            · skip
                              refine w_aload_n dX11_readLine_123 rfl ?_
                              refine w_getI ff_X11_73 rfl rfl dX11_readLine_124 ?_
                              rw [show (I1 30 0 0 15 : Int32) = 0 from t1.1]
                              refine w_if_le (tgt := 131) dX11_readLine_127 (by decide) (fun _ => ?_) (fun h => absurd (by decide) h)
                              refine w_aload_n dX11_readLine_131 rfl ?_
                              refine w_iload_n dX11_readLine_132 rfl ?_
                              cases hu
                        · skip
                          replace h6 : ((w : Nat) : Int) = 8 := (zeq (z_nI (by omega)) (by decide)).mp h6
                          first
                          | (exfalso; omega)
                          | skip
                            refine w_iconst (v := 1) dX11_readLine_111 (by decide) ?_
                            refine w_goto (tgt := 116) dX11_readLine_112 (by decide) ?_
                            refine w_putI ff_X11_54 rfl rfl rfl rfl dX11_readLine_116 ?_
                            have hu0 : (if nJ a < 4 then (Sum.inr (so, (st, (nx, v))) : tS) else flT 5 (Sum.inr (so, (st, (nx, v))) : tS)) = (Sum.inl (2, st) : tS) := if_neg (by omega)
                            refine w_aload_n dX11_readLine_119 rfl ?_
                            refine w_callV (as := []) (st := []) (Tri.mono (d_take (I := xup (xup (xup I 30 0 0 15 (2)) 30 0 0 16 (nI st)) 30 0 0 8 (1)) hk (ht.y (((FrY.rf.up30 (by decide)).up30 (by decide)).up30 (by decide))) (s := (Sum.inl (2, st) : tS)) ⟨by show 1 ≤ 2; omega, by show 2 ≤ 5; omega, g5⟩ ⟨(xup_slot (by decide)).trans ((xup_slot (by decide)).trans xup_self), (xup_slot (by decide)).trans xup_self⟩) (Nat.le_of_ble_eq_true rfl)) rfl rfl tg_X11_takes lk_X11_119 in_X11_takes se_X11_takes rfl dX11_readLine_120 rfl (Nat.le_of_ble_eq_true rfl) (Nat.le_refl _) (Nat.le_refl _) ?_
                            rintro v M9 ⟨rfl, I1, rfl, t1, f1⟩ -
                            have fy : FrY I I1 := (((FrY.rf.up30 (by decide)).up30 (by decide)).up30 (by decide)).tr f1.y
                            have hm1 : DM I1 a false := (DM.t8 hm (I' := xup (xup (xup I 30 0 0 15 (2)) 30 0 0 16 (nI st)) 30 0 0 8 (1)) (fun x => (xup_tag (by decide)).trans ((xup_tag (by decide)).trans (xup_tag (by decide)))) (fun x hx => (xup_slot (by omega)).trans ((xup_slot (by omega)).trans (xup_slot (by omega)))) (xup_self.trans (by rfl))).n f1
                            have hou : OKT n (tkT n b (Sum.inl (2, st) : tS)) := tk_ok ⟨by show 1 ≤ 2; omega, by show 2 ≤ 5; omega, g5⟩
                            obtain ⟨u, hu⟩ : ∃ u, u = tkT n b (Sum.inl (2, st) : tS) := ⟨_, rfl⟩
                            rw [← hu] at t1 hou
                            have hu1 : tkT n b (if nJ a < 4 then (Sum.inr (so, (st, (nx, v))) : tS) else flT 5 (Sum.inr (so, (st, (nx, v))) : tS)) = u := by rw [hu0, hu]
                            rw [show bodyT n b w (Sum.inr (so, (st, (nx, v))) : tS) a false = _ from if_pos (by omega)]
                            unfold pLz uJ2 uJ1
                            rw [hu1]
                            rcases u with ⟨c, p⟩ | ⟨so2, st2, nx2, v2⟩
                            · skip
                              have q1 := hou.1
                              have q2 := hou.2.1
                              replace q1 : 1 ≤ c := q1
                              replace q2 : c ≤ 5 := q2
                              refine w_aload_n dX11_readLine_123 rfl ?_
                              refine w_getI ff_X11_73 rfl rfl dX11_readLine_124 ?_
                              rw [show (I1 30 0 0 15 : Int32) = nI c from t1.1]
                              refine w_if_le (tgt := 131) dX11_readLine_127 (by decide) (fun h1 => ?_) (fun h1 => ?_)
                              · skip
                                replace h1 : ((c : Nat) : Int) ≤ 0 := (zle (z_nI (by omega)) (by decide)).mp h1
                                first
                                | (exfalso; omega)
                                | skip
                                  exfalso
                                  omega
                              · skip
                                replace h1 : ¬ (((c : Nat) : Int) ≤ 0) := fun q => h1 ((zle (z_nI (by omega)) (by decide)).mpr q)
                                first
                                | (exfalso; omega)
                                | skip
                                  exact w_return dX11_readLine_130 rfl rfl (⟨rfl, _, rfl, t1, fy, fun q z => by cases z⟩)
                            · skip
                              refine w_aload_n dX11_readLine_123 rfl ?_
                              refine w_getI ff_X11_73 rfl rfl dX11_readLine_124 ?_
                              rw [show (I1 30 0 0 15 : Int32) = 0 from t1.1]
                              refine w_if_le (tgt := 131) dX11_readLine_127 (by decide) (fun _ => ?_) (fun h => absurd (by decide) h)
                              refine w_aload_n dX11_readLine_131 rfl ?_
                              refine w_iload_n dX11_readLine_132 rfl ?_
                              cases hu
                    · skip
                      replace h5 : ((w : Nat) : Int) = 8 := (zeq (z_nI (by omega)) (by decide)).mp h5
                      first
                      | (exfalso; omega)
                      | skip
                        refine w_aload_n dX11_readLine_81 rfl ?_
                        refine w_getI ff_X11_54 rfl rfl dX11_readLine_82 ?_
                        rw [show ((xup (xup I 30 0 0 15 (2)) 30 0 0 16 (nI st)) 30 0 0 8 : Int32) = 0 from ((xup_slot (by decide)).trans ((xup_slot (by decide)).trans m8))]
                        refine w_if_ne (tgt := 92) dX11_readLine_85 (by decide) (fun h => absurd (by decide) h) (fun _ => ?_)
                        refine w_iconst (v := 1) dX11_readLine_88 (by decide) ?_
                        refine w_goto (tgt := 93) dX11_readLine_89 (by decide) ?_
                        refine w_iconst (v := 4) dX11_readLine_93 (by decide) ?_
                        refine w_callV (as := [vI (1), vI (4)]) (st := []) (Tri.mono (d_need1 (I := xup (xup I 30 0 0 15 (2)) 30 0 0 16 (nI st)) (4)) (Nat.le_of_ble_eq_true rfl)) rfl rfl tg_X11_needs lk_X11_115 in_X11_needs se_X11_needs rfl dX11_readLine_94 rfl (Nat.le_of_ble_eq_true rfl) (Nat.le_refl _) (Nat.le_refl _) ?_
                        rintro _ _ ⟨rfl, rfl⟩ -
                        refine w_aload_n dX11_readLine_97 rfl ?_
                        refine w_aload_n dX11_readLine_98 rfl ?_
                        refine w_getI ff_X11_54 rfl rfl dX11_readLine_99 ?_
                        rw [show ((xup (xup I 30 0 0 15 (2)) 30 0 0 16 (nI st)) 30 0 0 8 : Int32) = 0 from ((xup_slot (by decide)).trans ((xup_slot (by decide)).trans m8))]
                        refine w_if_ne (tgt := 111) dX11_readLine_102 (by decide) (fun h => absurd (by decide) h) (fun _ => ?_)
                        refine w_iload_n dX11_readLine_105 rfl ?_
                        refine w_bipush (v := 8) dX11_readLine_106 (by decide) ?_
                        refine w_icmp_ne (tgt := 115) dX11_readLine_108 (by decide) (fun h6 => ?_) (fun h6 => ?_)
                        · skip
                          replace h6 : ¬ (((w : Nat) : Int) = 8) := fun q => h6 ((zeq (z_nI (by omega)) (by decide)).mpr q)
                          first
                          | (exfalso; omega)
                          | skip
                            refine w_iconst (v := 0) dX11_readLine_115 (by decide) ?_
                            refine w_putI ff_X11_54 rfl rfl rfl rfl dX11_readLine_116 ?_
                            have hu0 : (if nJ a < 4 then (Sum.inr (so, (st, (nx, v))) : tS) else flT 5 (Sum.inr (so, (st, (nx, v))) : tS)) = (Sum.inl (2, st) : tS) := if_neg (by omega)
                            refine w_aload_n dX11_readLine_119 rfl ?_
                            refine w_callV (as := []) (st := []) (Tri.mono (d_take (I := xup (xup (xup I 30 0 0 15 (2)) 30 0 0 16 (nI st)) 30 0 0 8 (0)) hk (ht.y (((FrY.rf.up30 (by decide)).up30 (by decide)).up30 (by decide))) (s := (Sum.inl (2, st) : tS)) ⟨by show 1 ≤ 2; omega, by show 2 ≤ 5; omega, g5⟩ ⟨(xup_slot (by decide)).trans ((xup_slot (by decide)).trans xup_self), (xup_slot (by decide)).trans xup_self⟩) (Nat.le_of_ble_eq_true rfl)) rfl rfl tg_X11_takes lk_X11_119 in_X11_takes se_X11_takes rfl dX11_readLine_120 rfl (Nat.le_of_ble_eq_true rfl) (Nat.le_refl _) (Nat.le_refl _) ?_
                            rintro v M9 ⟨rfl, I1, rfl, t1, f1⟩ -
                            have fy : FrY I I1 := (((FrY.rf.up30 (by decide)).up30 (by decide)).up30 (by decide)).tr f1.y
                            have hm1 : DM I1 a false := (DM.t8 hm (I' := xup (xup (xup I 30 0 0 15 (2)) 30 0 0 16 (nI st)) 30 0 0 8 (0)) (fun x => (xup_tag (by decide)).trans ((xup_tag (by decide)).trans (xup_tag (by decide)))) (fun x hx => (xup_slot (by omega)).trans ((xup_slot (by omega)).trans (xup_slot (by omega)))) (xup_self.trans (by rfl))).n f1
                            have hou : OKT n (tkT n b (Sum.inl (2, st) : tS)) := tk_ok ⟨by show 1 ≤ 2; omega, by show 2 ≤ 5; omega, g5⟩
                            obtain ⟨u, hu⟩ : ∃ u, u = tkT n b (Sum.inl (2, st) : tS) := ⟨_, rfl⟩
                            rw [← hu] at t1 hou
                            have hu1 : tkT n b (if nJ a < 4 then (Sum.inr (so, (st, (nx, v))) : tS) else flT 5 (Sum.inr (so, (st, (nx, v))) : tS)) = u := by rw [hu0, hu]
                            rw [show bodyT n b w (Sum.inr (so, (st, (nx, v))) : tS) a false = _ from if_pos (by omega)]
                            unfold pLz uJ2 uJ1
                            rw [hu1]
                            rcases u with ⟨c, p⟩ | ⟨so2, st2, nx2, v2⟩
                            · skip
                              have q1 := hou.1
                              have q2 := hou.2.1
                              replace q1 : 1 ≤ c := q1
                              replace q2 : c ≤ 5 := q2
                              refine w_aload_n dX11_readLine_123 rfl ?_
                              refine w_getI ff_X11_73 rfl rfl dX11_readLine_124 ?_
                              rw [show (I1 30 0 0 15 : Int32) = nI c from t1.1]
                              refine w_if_le (tgt := 131) dX11_readLine_127 (by decide) (fun h1 => ?_) (fun h1 => ?_)
                              · skip
                                replace h1 : ((c : Nat) : Int) ≤ 0 := (zle (z_nI (by omega)) (by decide)).mp h1
                                first
                                | (exfalso; omega)
                                | skip
                                  exfalso
                                  omega
                              · skip
                                replace h1 : ¬ (((c : Nat) : Int) ≤ 0) := fun q => h1 ((zle (z_nI (by omega)) (by decide)).mpr q)
                                first
                                | (exfalso; omega)
                                | skip
                                  exact w_return dX11_readLine_130 rfl rfl (⟨rfl, _, rfl, t1, fy, fun q z => by cases z⟩)
                            · skip
                              refine w_aload_n dX11_readLine_123 rfl ?_
                              refine w_getI ff_X11_73 rfl rfl dX11_readLine_124 ?_
                              rw [show (I1 30 0 0 15 : Int32) = 0 from t1.1]
                              refine w_if_le (tgt := 131) dX11_readLine_127 (by decide) (fun _ => ?_) (fun h => absurd (by decide) h)
                              refine w_aload_n dX11_readLine_131 rfl ?_
                              refine w_iload_n dX11_readLine_132 rfl ?_
                              cases hu
                        · skip
                          replace h6 : ((w : Nat) : Int) = 8 := (zeq (z_nI (by omega)) (by decide)).mp h6
                          first
                          | (exfalso; omega)
                          | skip
                            refine w_iconst (v := 1) dX11_readLine_111 (by decide) ?_
                            refine w_goto (tgt := 116) dX11_readLine_112 (by decide) ?_
                            refine w_putI ff_X11_54 rfl rfl rfl rfl dX11_readLine_116 ?_
                            have hu0 : (if nJ a < 4 then (Sum.inr (so, (st, (nx, v))) : tS) else flT 5 (Sum.inr (so, (st, (nx, v))) : tS)) = (Sum.inl (2, st) : tS) := if_neg (by omega)
                            refine w_aload_n dX11_readLine_119 rfl ?_
                            refine w_callV (as := []) (st := []) (Tri.mono (d_take (I := xup (xup (xup I 30 0 0 15 (2)) 30 0 0 16 (nI st)) 30 0 0 8 (1)) hk (ht.y (((FrY.rf.up30 (by decide)).up30 (by decide)).up30 (by decide))) (s := (Sum.inl (2, st) : tS)) ⟨by show 1 ≤ 2; omega, by show 2 ≤ 5; omega, g5⟩ ⟨(xup_slot (by decide)).trans ((xup_slot (by decide)).trans xup_self), (xup_slot (by decide)).trans xup_self⟩) (Nat.le_of_ble_eq_true rfl)) rfl rfl tg_X11_takes lk_X11_119 in_X11_takes se_X11_takes rfl dX11_readLine_120 rfl (Nat.le_of_ble_eq_true rfl) (Nat.le_refl _) (Nat.le_refl _) ?_
                            rintro v M9 ⟨rfl, I1, rfl, t1, f1⟩ -
                            have fy : FrY I I1 := (((FrY.rf.up30 (by decide)).up30 (by decide)).up30 (by decide)).tr f1.y
                            have hm1 : DM I1 a false := (DM.t8 hm (I' := xup (xup (xup I 30 0 0 15 (2)) 30 0 0 16 (nI st)) 30 0 0 8 (1)) (fun x => (xup_tag (by decide)).trans ((xup_tag (by decide)).trans (xup_tag (by decide)))) (fun x hx => (xup_slot (by omega)).trans ((xup_slot (by omega)).trans (xup_slot (by omega)))) (xup_self.trans (by rfl))).n f1
                            have hou : OKT n (tkT n b (Sum.inl (2, st) : tS)) := tk_ok ⟨by show 1 ≤ 2; omega, by show 2 ≤ 5; omega, g5⟩
                            obtain ⟨u, hu⟩ : ∃ u, u = tkT n b (Sum.inl (2, st) : tS) := ⟨_, rfl⟩
                            rw [← hu] at t1 hou
                            have hu1 : tkT n b (if nJ a < 4 then (Sum.inr (so, (st, (nx, v))) : tS) else flT 5 (Sum.inr (so, (st, (nx, v))) : tS)) = u := by rw [hu0, hu]
                            rw [show bodyT n b w (Sum.inr (so, (st, (nx, v))) : tS) a false = _ from if_pos (by omega)]
                            unfold pLz uJ2 uJ1
                            rw [hu1]
                            rcases u with ⟨c, p⟩ | ⟨so2, st2, nx2, v2⟩
                            · skip
                              have q1 := hou.1
                              have q2 := hou.2.1
                              replace q1 : 1 ≤ c := q1
                              replace q2 : c ≤ 5 := q2
                              refine w_aload_n dX11_readLine_123 rfl ?_
                              refine w_getI ff_X11_73 rfl rfl dX11_readLine_124 ?_
                              rw [show (I1 30 0 0 15 : Int32) = nI c from t1.1]
                              refine w_if_le (tgt := 131) dX11_readLine_127 (by decide) (fun h1 => ?_) (fun h1 => ?_)
                              · skip
                                replace h1 : ((c : Nat) : Int) ≤ 0 := (zle (z_nI (by omega)) (by decide)).mp h1
                                first
                                | (exfalso; omega)
                                | skip
                                  exfalso
                                  omega
                              · skip
                                replace h1 : ¬ (((c : Nat) : Int) ≤ 0) := fun q => h1 ((zle (z_nI (by omega)) (by decide)).mpr q)
                                first
                                | (exfalso; omega)
                                | skip
                                  exact w_return dX11_readLine_130 rfl rfl (⟨rfl, _, rfl, t1, fy, fun q z => by cases z⟩)
                            · skip
                              refine w_aload_n dX11_readLine_123 rfl ?_
                              refine w_getI ff_X11_73 rfl rfl dX11_readLine_124 ?_
                              rw [show (I1 30 0 0 15 : Int32) = 0 from t1.1]
                              refine w_if_le (tgt := 131) dX11_readLine_127 (by decide) (fun _ => ?_) (fun h => absurd (by decide) h)
                              refine w_aload_n dX11_readLine_131 rfl ?_
                              refine w_iload_n dX11_readLine_132 rfl ?_
                              cases hu
                · skip
                  replace h4 : ¬ (4 ≤ ((nJ a : Nat) : Int)) := fun q => h4 ((zle (by decide) (z_nI (by omega))).mpr q)
                  first
                  | (exfalso; omega)
                  | skip
                    refine w_iconst (v := 1) dX11_readLine_65 (by decide) ?_
                    refine w_goto (tgt := 70) dX11_readLine_66 (by decide) ?_
                    refine w_iconst (v := 5) dX11_readLine_70 (by decide) ?_
                    refine w_callV (as := [vI (1), vI (5)]) (st := []) (Tri.mono (d_need1 (I := xup (xup I 30 0 0 15 (2)) 30 0 0 16 (nI st)) (5)) (Nat.le_of_ble_eq_true rfl)) rfl rfl tg_X11_needs lk_X11_115 in_X11_needs se_X11_needs rfl dX11_readLine_71 rfl (Nat.le_of_ble_eq_true rfl) (Nat.le_refl _) (Nat.le_refl _) ?_
                    rintro _ _ ⟨rfl, rfl⟩ -
                    refine w_aload_n dX11_readLine_74 rfl ?_
                    refine w_iload_n dX11_readLine_75 rfl ?_
                    refine w_bipush (v := 8) dX11_readLine_76 (by decide) ?_
                    refine w_icmp_ne (tgt := 88) dX11_readLine_78 (by decide) (fun h5 => ?_) (fun h5 => ?_)
                    · skip
                      replace h5 : ¬ (((w : Nat) : Int) = 8) := fun q => h5 ((zeq (z_nI (by omega)) (by decide)).mpr q)
                      first
                      | (exfalso; omega)
                      | skip
                        refine w_iconst (v := 1) dX11_readLine_88 (by decide) ?_
                        refine w_goto (tgt := 93) dX11_readLine_89 (by decide) ?_
                        refine w_iconst (v := 4) dX11_readLine_93 (by decide) ?_
                        refine w_callV (as := [vI (1), vI (4)]) (st := []) (Tri.mono (d_need1 (I := xup (xup I 30 0 0 15 (2)) 30 0 0 16 (nI st)) (4)) (Nat.le_of_ble_eq_true rfl)) rfl rfl tg_X11_needs lk_X11_115 in_X11_needs se_X11_needs rfl dX11_readLine_94 rfl (Nat.le_of_ble_eq_true rfl) (Nat.le_refl _) (Nat.le_refl _) ?_
                        rintro _ _ ⟨rfl, rfl⟩ -
                        refine w_aload_n dX11_readLine_97 rfl ?_
                        refine w_aload_n dX11_readLine_98 rfl ?_
                        refine w_getI ff_X11_54 rfl rfl dX11_readLine_99 ?_
                        rw [show ((xup (xup I 30 0 0 15 (2)) 30 0 0 16 (nI st)) 30 0 0 8 : Int32) = 0 from ((xup_slot (by decide)).trans ((xup_slot (by decide)).trans m8))]
                        refine w_if_ne (tgt := 111) dX11_readLine_102 (by decide) (fun h => absurd (by decide) h) (fun _ => ?_)
                        refine w_iload_n dX11_readLine_105 rfl ?_
                        refine w_bipush (v := 8) dX11_readLine_106 (by decide) ?_
                        refine w_icmp_ne (tgt := 115) dX11_readLine_108 (by decide) (fun h6 => ?_) (fun h6 => ?_)
                        · skip
                          replace h6 : ¬ (((w : Nat) : Int) = 8) := fun q => h6 ((zeq (z_nI (by omega)) (by decide)).mpr q)
                          first
                          | (exfalso; omega)
                          | skip
                            refine w_iconst (v := 0) dX11_readLine_115 (by decide) ?_
                            refine w_putI ff_X11_54 rfl rfl rfl rfl dX11_readLine_116 ?_
                            have hu0 : (if nJ a < 4 then (Sum.inr (so, (st, (nx, v))) : tS) else flT 5 (Sum.inr (so, (st, (nx, v))) : tS)) = (Sum.inl (2, st) : tS) := if_neg (by omega)
                            refine w_aload_n dX11_readLine_119 rfl ?_
                            refine w_callV (as := []) (st := []) (Tri.mono (d_take (I := xup (xup (xup I 30 0 0 15 (2)) 30 0 0 16 (nI st)) 30 0 0 8 (0)) hk (ht.y (((FrY.rf.up30 (by decide)).up30 (by decide)).up30 (by decide))) (s := (Sum.inl (2, st) : tS)) ⟨by show 1 ≤ 2; omega, by show 2 ≤ 5; omega, g5⟩ ⟨(xup_slot (by decide)).trans ((xup_slot (by decide)).trans xup_self), (xup_slot (by decide)).trans xup_self⟩) (Nat.le_of_ble_eq_true rfl)) rfl rfl tg_X11_takes lk_X11_119 in_X11_takes se_X11_takes rfl dX11_readLine_120 rfl (Nat.le_of_ble_eq_true rfl) (Nat.le_refl _) (Nat.le_refl _) ?_
                            rintro v M9 ⟨rfl, I1, rfl, t1, f1⟩ -
                            have fy : FrY I I1 := (((FrY.rf.up30 (by decide)).up30 (by decide)).up30 (by decide)).tr f1.y
                            have hm1 : DM I1 a false := (DM.t8 hm (I' := xup (xup (xup I 30 0 0 15 (2)) 30 0 0 16 (nI st)) 30 0 0 8 (0)) (fun x => (xup_tag (by decide)).trans ((xup_tag (by decide)).trans (xup_tag (by decide)))) (fun x hx => (xup_slot (by omega)).trans ((xup_slot (by omega)).trans (xup_slot (by omega)))) (xup_self.trans (by rfl))).n f1
                            have hou : OKT n (tkT n b (Sum.inl (2, st) : tS)) := tk_ok ⟨by show 1 ≤ 2; omega, by show 2 ≤ 5; omega, g5⟩
                            obtain ⟨u, hu⟩ : ∃ u, u = tkT n b (Sum.inl (2, st) : tS) := ⟨_, rfl⟩
                            rw [← hu] at t1 hou
                            have hu1 : tkT n b (if nJ a < 4 then (Sum.inr (so, (st, (nx, v))) : tS) else flT 5 (Sum.inr (so, (st, (nx, v))) : tS)) = u := by rw [hu0, hu]
                            rw [show bodyT n b w (Sum.inr (so, (st, (nx, v))) : tS) a false = _ from if_pos (by omega)]
                            unfold pLz uJ2 uJ1
                            rw [hu1]
                            rcases u with ⟨c, p⟩ | ⟨so2, st2, nx2, v2⟩
                            · skip
                              have q1 := hou.1
                              have q2 := hou.2.1
                              replace q1 : 1 ≤ c := q1
                              replace q2 : c ≤ 5 := q2
                              refine w_aload_n dX11_readLine_123 rfl ?_
                              refine w_getI ff_X11_73 rfl rfl dX11_readLine_124 ?_
                              rw [show (I1 30 0 0 15 : Int32) = nI c from t1.1]
                              refine w_if_le (tgt := 131) dX11_readLine_127 (by decide) (fun h1 => ?_) (fun h1 => ?_)
                              · skip
                                replace h1 : ((c : Nat) : Int) ≤ 0 := (zle (z_nI (by omega)) (by decide)).mp h1
                                first
                                | (exfalso; omega)
                                | skip
                                  exfalso
                                  omega
                              · skip
                                replace h1 : ¬ (((c : Nat) : Int) ≤ 0) := fun q => h1 ((zle (z_nI (by omega)) (by decide)).mpr q)
                                first
                                | (exfalso; omega)
                                | skip
                                  exact w_return dX11_readLine_130 rfl rfl (⟨rfl, _, rfl, t1, fy, fun q z => by cases z⟩)
                            · skip
                              refine w_aload_n dX11_readLine_123 rfl ?_
                              refine w_getI ff_X11_73 rfl rfl dX11_readLine_124 ?_
                              rw [show (I1 30 0 0 15 : Int32) = 0 from t1.1]
                              refine w_if_le (tgt := 131) dX11_readLine_127 (by decide) (fun _ => ?_) (fun h => absurd (by decide) h)
                              refine w_aload_n dX11_readLine_131 rfl ?_
                              refine w_iload_n dX11_readLine_132 rfl ?_
                              cases hu
                        · skip
                          replace h6 : ((w : Nat) : Int) = 8 := (zeq (z_nI (by omega)) (by decide)).mp h6
                          first
                          | (exfalso; omega)
                          | skip
                            refine w_iconst (v := 1) dX11_readLine_111 (by decide) ?_
                            refine w_goto (tgt := 116) dX11_readLine_112 (by decide) ?_
                            refine w_putI ff_X11_54 rfl rfl rfl rfl dX11_readLine_116 ?_
                            have hu0 : (if nJ a < 4 then (Sum.inr (so, (st, (nx, v))) : tS) else flT 5 (Sum.inr (so, (st, (nx, v))) : tS)) = (Sum.inl (2, st) : tS) := if_neg (by omega)
                            refine w_aload_n dX11_readLine_119 rfl ?_
                            refine w_callV (as := []) (st := []) (Tri.mono (d_take (I := xup (xup (xup I 30 0 0 15 (2)) 30 0 0 16 (nI st)) 30 0 0 8 (1)) hk (ht.y (((FrY.rf.up30 (by decide)).up30 (by decide)).up30 (by decide))) (s := (Sum.inl (2, st) : tS)) ⟨by show 1 ≤ 2; omega, by show 2 ≤ 5; omega, g5⟩ ⟨(xup_slot (by decide)).trans ((xup_slot (by decide)).trans xup_self), (xup_slot (by decide)).trans xup_self⟩) (Nat.le_of_ble_eq_true rfl)) rfl rfl tg_X11_takes lk_X11_119 in_X11_takes se_X11_takes rfl dX11_readLine_120 rfl (Nat.le_of_ble_eq_true rfl) (Nat.le_refl _) (Nat.le_refl _) ?_
                            rintro v M9 ⟨rfl, I1, rfl, t1, f1⟩ -
                            have fy : FrY I I1 := (((FrY.rf.up30 (by decide)).up30 (by decide)).up30 (by decide)).tr f1.y
                            have hm1 : DM I1 a false := (DM.t8 hm (I' := xup (xup (xup I 30 0 0 15 (2)) 30 0 0 16 (nI st)) 30 0 0 8 (1)) (fun x => (xup_tag (by decide)).trans ((xup_tag (by decide)).trans (xup_tag (by decide)))) (fun x hx => (xup_slot (by omega)).trans ((xup_slot (by omega)).trans (xup_slot (by omega)))) (xup_self.trans (by rfl))).n f1
                            have hou : OKT n (tkT n b (Sum.inl (2, st) : tS)) := tk_ok ⟨by show 1 ≤ 2; omega, by show 2 ≤ 5; omega, g5⟩
                            obtain ⟨u, hu⟩ : ∃ u, u = tkT n b (Sum.inl (2, st) : tS) := ⟨_, rfl⟩
                            rw [← hu] at t1 hou
                            have hu1 : tkT n b (if nJ a < 4 then (Sum.inr (so, (st, (nx, v))) : tS) else flT 5 (Sum.inr (so, (st, (nx, v))) : tS)) = u := by rw [hu0, hu]
                            rw [show bodyT n b w (Sum.inr (so, (st, (nx, v))) : tS) a false = _ from if_pos (by omega)]
                            unfold pLz uJ2 uJ1
                            rw [hu1]
                            rcases u with ⟨c, p⟩ | ⟨so2, st2, nx2, v2⟩
                            · skip
                              have q1 := hou.1
                              have q2 := hou.2.1
                              replace q1 : 1 ≤ c := q1
                              replace q2 : c ≤ 5 := q2
                              refine w_aload_n dX11_readLine_123 rfl ?_
                              refine w_getI ff_X11_73 rfl rfl dX11_readLine_124 ?_
                              rw [show (I1 30 0 0 15 : Int32) = nI c from t1.1]
                              refine w_if_le (tgt := 131) dX11_readLine_127 (by decide) (fun h1 => ?_) (fun h1 => ?_)
                              · skip
                                replace h1 : ((c : Nat) : Int) ≤ 0 := (zle (z_nI (by omega)) (by decide)).mp h1
                                first
                                | (exfalso; omega)
                                | skip
                                  exfalso
                                  omega
                              · skip
                                replace h1 : ¬ (((c : Nat) : Int) ≤ 0) := fun q => h1 ((zle (z_nI (by omega)) (by decide)).mpr q)
                                first
                                | (exfalso; omega)
                                | skip
                                  exact w_return dX11_readLine_130 rfl rfl (⟨rfl, _, rfl, t1, fy, fun q z => by cases z⟩)
                            · skip
                              refine w_aload_n dX11_readLine_123 rfl ?_
                              refine w_getI ff_X11_73 rfl rfl dX11_readLine_124 ?_
                              rw [show (I1 30 0 0 15 : Int32) = 0 from t1.1]
                              refine w_if_le (tgt := 131) dX11_readLine_127 (by decide) (fun _ => ?_) (fun h => absurd (by decide) h)
                              refine w_aload_n dX11_readLine_131 rfl ?_
                              refine w_iload_n dX11_readLine_132 rfl ?_
                              cases hu
                    · skip
                      replace h5 : ((w : Nat) : Int) = 8 := (zeq (z_nI (by omega)) (by decide)).mp h5
                      first
                      | (exfalso; omega)
                      | skip
                        refine w_aload_n dX11_readLine_81 rfl ?_
                        refine w_getI ff_X11_54 rfl rfl dX11_readLine_82 ?_
                        rw [show ((xup (xup I 30 0 0 15 (2)) 30 0 0 16 (nI st)) 30 0 0 8 : Int32) = 0 from ((xup_slot (by decide)).trans ((xup_slot (by decide)).trans m8))]
                        refine w_if_ne (tgt := 92) dX11_readLine_85 (by decide) (fun h => absurd (by decide) h) (fun _ => ?_)
                        refine w_iconst (v := 1) dX11_readLine_88 (by decide) ?_
                        refine w_goto (tgt := 93) dX11_readLine_89 (by decide) ?_
                        refine w_iconst (v := 4) dX11_readLine_93 (by decide) ?_
                        refine w_callV (as := [vI (1), vI (4)]) (st := []) (Tri.mono (d_need1 (I := xup (xup I 30 0 0 15 (2)) 30 0 0 16 (nI st)) (4)) (Nat.le_of_ble_eq_true rfl)) rfl rfl tg_X11_needs lk_X11_115 in_X11_needs se_X11_needs rfl dX11_readLine_94 rfl (Nat.le_of_ble_eq_true rfl) (Nat.le_refl _) (Nat.le_refl _) ?_
                        rintro _ _ ⟨rfl, rfl⟩ -
                        refine w_aload_n dX11_readLine_97 rfl ?_
                        refine w_aload_n dX11_readLine_98 rfl ?_
                        refine w_getI ff_X11_54 rfl rfl dX11_readLine_99 ?_
                        rw [show ((xup (xup I 30 0 0 15 (2)) 30 0 0 16 (nI st)) 30 0 0 8 : Int32) = 0 from ((xup_slot (by decide)).trans ((xup_slot (by decide)).trans m8))]
                        refine w_if_ne (tgt := 111) dX11_readLine_102 (by decide) (fun h => absurd (by decide) h) (fun _ => ?_)
                        refine w_iload_n dX11_readLine_105 rfl ?_
                        refine w_bipush (v := 8) dX11_readLine_106 (by decide) ?_
                        refine w_icmp_ne (tgt := 115) dX11_readLine_108 (by decide) (fun h6 => ?_) (fun h6 => ?_)
                        · skip
                          replace h6 : ¬ (((w : Nat) : Int) = 8) := fun q => h6 ((zeq (z_nI (by omega)) (by decide)).mpr q)
                          first
                          | (exfalso; omega)
                          | skip
                            refine w_iconst (v := 0) dX11_readLine_115 (by decide) ?_
                            refine w_putI ff_X11_54 rfl rfl rfl rfl dX11_readLine_116 ?_
                            have hu0 : (if nJ a < 4 then (Sum.inr (so, (st, (nx, v))) : tS) else flT 5 (Sum.inr (so, (st, (nx, v))) : tS)) = (Sum.inl (2, st) : tS) := if_neg (by omega)
                            refine w_aload_n dX11_readLine_119 rfl ?_
                            refine w_callV (as := []) (st := []) (Tri.mono (d_take (I := xup (xup (xup I 30 0 0 15 (2)) 30 0 0 16 (nI st)) 30 0 0 8 (0)) hk (ht.y (((FrY.rf.up30 (by decide)).up30 (by decide)).up30 (by decide))) (s := (Sum.inl (2, st) : tS)) ⟨by show 1 ≤ 2; omega, by show 2 ≤ 5; omega, g5⟩ ⟨(xup_slot (by decide)).trans ((xup_slot (by decide)).trans xup_self), (xup_slot (by decide)).trans xup_self⟩) (Nat.le_of_ble_eq_true rfl)) rfl rfl tg_X11_takes lk_X11_119 in_X11_takes se_X11_takes rfl dX11_readLine_120 rfl (Nat.le_of_ble_eq_true rfl) (Nat.le_refl _) (Nat.le_refl _) ?_
                            rintro v M9 ⟨rfl, I1, rfl, t1, f1⟩ -
                            have fy : FrY I I1 := (((FrY.rf.up30 (by decide)).up30 (by decide)).up30 (by decide)).tr f1.y
                            have hm1 : DM I1 a false := (DM.t8 hm (I' := xup (xup (xup I 30 0 0 15 (2)) 30 0 0 16 (nI st)) 30 0 0 8 (0)) (fun x => (xup_tag (by decide)).trans ((xup_tag (by decide)).trans (xup_tag (by decide)))) (fun x hx => (xup_slot (by omega)).trans ((xup_slot (by omega)).trans (xup_slot (by omega)))) (xup_self.trans (by rfl))).n f1
                            have hou : OKT n (tkT n b (Sum.inl (2, st) : tS)) := tk_ok ⟨by show 1 ≤ 2; omega, by show 2 ≤ 5; omega, g5⟩
                            obtain ⟨u, hu⟩ : ∃ u, u = tkT n b (Sum.inl (2, st) : tS) := ⟨_, rfl⟩
                            rw [← hu] at t1 hou
                            have hu1 : tkT n b (if nJ a < 4 then (Sum.inr (so, (st, (nx, v))) : tS) else flT 5 (Sum.inr (so, (st, (nx, v))) : tS)) = u := by rw [hu0, hu]
                            rw [show bodyT n b w (Sum.inr (so, (st, (nx, v))) : tS) a false = _ from if_pos (by omega)]
                            unfold pLz uJ2 uJ1
                            rw [hu1]
                            rcases u with ⟨c, p⟩ | ⟨so2, st2, nx2, v2⟩
                            · skip
                              have q1 := hou.1
                              have q2 := hou.2.1
                              replace q1 : 1 ≤ c := q1
                              replace q2 : c ≤ 5 := q2
                              refine w_aload_n dX11_readLine_123 rfl ?_
                              refine w_getI ff_X11_73 rfl rfl dX11_readLine_124 ?_
                              rw [show (I1 30 0 0 15 : Int32) = nI c from t1.1]
                              refine w_if_le (tgt := 131) dX11_readLine_127 (by decide) (fun h1 => ?_) (fun h1 => ?_)
                              · skip
                                replace h1 : ((c : Nat) : Int) ≤ 0 := (zle (z_nI (by omega)) (by decide)).mp h1
                                first
                                | (exfalso; omega)
                                | skip
                                  exfalso
                                  omega
                              · skip
                                replace h1 : ¬ (((c : Nat) : Int) ≤ 0) := fun q => h1 ((zle (z_nI (by omega)) (by decide)).mpr q)
                                first
                                | (exfalso; omega)
                                | skip
                                  exact w_return dX11_readLine_130 rfl rfl (⟨rfl, _, rfl, t1, fy, fun q z => by cases z⟩)
                            · skip
                              refine w_aload_n dX11_readLine_123 rfl ?_
                              refine w_getI ff_X11_73 rfl rfl dX11_readLine_124 ?_
                              rw [show (I1 30 0 0 15 : Int32) = 0 from t1.1]
                              refine w_if_le (tgt := 131) dX11_readLine_127 (by decide) (fun _ => ?_) (fun h => absurd (by decide) h)
                              refine w_aload_n dX11_readLine_131 rfl ?_
                              refine w_iload_n dX11_readLine_132 rfl ?_
                              cases hu
                        · skip
                          replace h6 : ((w : Nat) : Int) = 8 := (zeq (z_nI (by omega)) (by decide)).mp h6
                          first
                          | (exfalso; omega)
                          | skip
                            refine w_iconst (v := 1) dX11_readLine_111 (by decide) ?_
                            refine w_goto (tgt := 116) dX11_readLine_112 (by decide) ?_
                            refine w_putI ff_X11_54 rfl rfl rfl rfl dX11_readLine_116 ?_
                            have hu0 : (if nJ a < 4 then (Sum.inr (so, (st, (nx, v))) : tS) else flT 5 (Sum.inr (so, (st, (nx, v))) : tS)) = (Sum.inl (2, st) : tS) := if_neg (by omega)
                            refine w_aload_n dX11_readLine_119 rfl ?_
                            refine w_callV (as := []) (st := []) (Tri.mono (d_take (I := xup (xup (xup I 30 0 0 15 (2)) 30 0 0 16 (nI st)) 30 0 0 8 (1)) hk (ht.y (((FrY.rf.up30 (by decide)).up30 (by decide)).up30 (by decide))) (s := (Sum.inl (2, st) : tS)) ⟨by show 1 ≤ 2; omega, by show 2 ≤ 5; omega, g5⟩ ⟨(xup_slot (by decide)).trans ((xup_slot (by decide)).trans xup_self), (xup_slot (by decide)).trans xup_self⟩) (Nat.le_of_ble_eq_true rfl)) rfl rfl tg_X11_takes lk_X11_119 in_X11_takes se_X11_takes rfl dX11_readLine_120 rfl (Nat.le_of_ble_eq_true rfl) (Nat.le_refl _) (Nat.le_refl _) ?_
                            rintro v M9 ⟨rfl, I1, rfl, t1, f1⟩ -
                            have fy : FrY I I1 := (((FrY.rf.up30 (by decide)).up30 (by decide)).up30 (by decide)).tr f1.y
                            have hm1 : DM I1 a false := (DM.t8 hm (I' := xup (xup (xup I 30 0 0 15 (2)) 30 0 0 16 (nI st)) 30 0 0 8 (1)) (fun x => (xup_tag (by decide)).trans ((xup_tag (by decide)).trans (xup_tag (by decide)))) (fun x hx => (xup_slot (by omega)).trans ((xup_slot (by omega)).trans (xup_slot (by omega)))) (xup_self.trans (by rfl))).n f1
                            have hou : OKT n (tkT n b (Sum.inl (2, st) : tS)) := tk_ok ⟨by show 1 ≤ 2; omega, by show 2 ≤ 5; omega, g5⟩
                            obtain ⟨u, hu⟩ : ∃ u, u = tkT n b (Sum.inl (2, st) : tS) := ⟨_, rfl⟩
                            rw [← hu] at t1 hou
                            have hu1 : tkT n b (if nJ a < 4 then (Sum.inr (so, (st, (nx, v))) : tS) else flT 5 (Sum.inr (so, (st, (nx, v))) : tS)) = u := by rw [hu0, hu]
                            rw [show bodyT n b w (Sum.inr (so, (st, (nx, v))) : tS) a false = _ from if_pos (by omega)]
                            unfold pLz uJ2 uJ1
                            rw [hu1]
                            rcases u with ⟨c, p⟩ | ⟨so2, st2, nx2, v2⟩
                            · skip
                              have q1 := hou.1
                              have q2 := hou.2.1
                              replace q1 : 1 ≤ c := q1
                              replace q2 : c ≤ 5 := q2
                              refine w_aload_n dX11_readLine_123 rfl ?_
                              refine w_getI ff_X11_73 rfl rfl dX11_readLine_124 ?_
                              rw [show (I1 30 0 0 15 : Int32) = nI c from t1.1]
                              refine w_if_le (tgt := 131) dX11_readLine_127 (by decide) (fun h1 => ?_) (fun h1 => ?_)
                              · skip
                                replace h1 : ((c : Nat) : Int) ≤ 0 := (zle (z_nI (by omega)) (by decide)).mp h1
                                first
                                | (exfalso; omega)
                                | skip
                                  exfalso
                                  omega
                              · skip
                                replace h1 : ¬ (((c : Nat) : Int) ≤ 0) := fun q => h1 ((zle (z_nI (by omega)) (by decide)).mpr q)
                                first
                                | (exfalso; omega)
                                | skip
                                  exact w_return dX11_readLine_130 rfl rfl (⟨rfl, _, rfl, t1, fy, fun q z => by cases z⟩)
                            · skip
                              refine w_aload_n dX11_readLine_123 rfl ?_
                              refine w_getI ff_X11_73 rfl rfl dX11_readLine_124 ?_
                              rw [show (I1 30 0 0 15 : Int32) = 0 from t1.1]
                              refine w_if_le (tgt := 131) dX11_readLine_127 (by decide) (fun _ => ?_) (fun h => absurd (by decide) h)
                              refine w_aload_n dX11_readLine_131 rfl ?_
                              refine w_iload_n dX11_readLine_132 rfl ?_
                              cases hu
            · skip
              replace h3 : ¬ (((w : Nat) : Int) < 4) := fun q => h3 ((zlt (z_nI (by omega)) (by decide)).mpr q)
              first
              | (exfalso; omega)
              | skip
                refine w_aload_n dX11_readLine_46 rfl ?_
                refine w_getI ff_X11_51 rfl rfl dX11_readLine_47 ?_
                rw [show ((xup (xup I 30 0 0 15 (2)) 30 0 0 16 (nI st)) 30 0 0 7 : Int32) = nI (nC a) from ((xup_slot (by decide)).trans ((xup_slot (by decide)).trans m7))]
                refine w_iconst (v := 5) dX11_readLine_50 (by decide) ?_
                refine w_icmp_ge (tgt := 69) dX11_readLine_51 (by decide) (fun h4 => ?_) (fun h4 => ?_)
                · skip
                  replace h4 : 5 ≤ ((nC a : Nat) : Int) := (zle (by decide) (z_nI (by omega))).mp h4
                  first
                  | (exfalso; omega)
                  | skip
                    refine w_iconst (v := 0) dX11_readLine_69 (by decide) ?_
                    refine w_iconst (v := 5) dX11_readLine_70 (by decide) ?_
                    refine w_callV (as := [vI (0), vI (5)]) (st := []) (Tri.mono (d_needD (I := xup (xup I 30 0 0 15 (2)) 30 0 0 16 (nI st)) (e := 2) ⟨by decide, by decide⟩ (((xup_slot (by decide)).trans xup_self).trans (by rfl)) (5)) (Nat.le_of_ble_eq_true rfl)) rfl rfl tg_X11_needs lk_X11_115 in_X11_needs se_X11_needs rfl dX11_readLine_71 rfl (Nat.le_of_ble_eq_true rfl) (Nat.le_refl _) (Nat.le_refl _) ?_
                    rintro _ _ ⟨rfl, rfl⟩ -
                    refine w_aload_n dX11_readLine_74 rfl ?_
                    refine w_iload_n dX11_readLine_75 rfl ?_
                    refine w_bipush (v := 8) dX11_readLine_76 (by decide) ?_
                    refine w_icmp_ne (tgt := 88) dX11_readLine_78 (by decide) (fun h5 => ?_) (fun h5 => ?_)
                    · skip
                      replace h5 : ¬ (((w : Nat) : Int) = 8) := fun q => h5 ((zeq (z_nI (by omega)) (by decide)).mpr q)
                      first
                      | (exfalso; omega)
                      | skip
                        refine w_iconst (v := 1) dX11_readLine_88 (by decide) ?_
                        refine w_goto (tgt := 93) dX11_readLine_89 (by decide) ?_
                        refine w_iconst (v := 4) dX11_readLine_93 (by decide) ?_
                        refine w_callV (as := [vI (1), vI (4)]) (st := []) (Tri.mono (d_need1 (I := xup (xup I 30 0 0 15 (2)) 30 0 0 16 (nI st)) (4)) (Nat.le_of_ble_eq_true rfl)) rfl rfl tg_X11_needs lk_X11_115 in_X11_needs se_X11_needs rfl dX11_readLine_94 rfl (Nat.le_of_ble_eq_true rfl) (Nat.le_refl _) (Nat.le_refl _) ?_
                        rintro _ _ ⟨rfl, rfl⟩ -
                        refine w_aload_n dX11_readLine_97 rfl ?_
                        refine w_aload_n dX11_readLine_98 rfl ?_
                        refine w_getI ff_X11_54 rfl rfl dX11_readLine_99 ?_
                        rw [show ((xup (xup I 30 0 0 15 (2)) 30 0 0 16 (nI st)) 30 0 0 8 : Int32) = 0 from ((xup_slot (by decide)).trans ((xup_slot (by decide)).trans m8))]
                        refine w_if_ne (tgt := 111) dX11_readLine_102 (by decide) (fun h => absurd (by decide) h) (fun _ => ?_)
                        refine w_iload_n dX11_readLine_105 rfl ?_
                        refine w_bipush (v := 8) dX11_readLine_106 (by decide) ?_
                        refine w_icmp_ne (tgt := 115) dX11_readLine_108 (by decide) (fun h6 => ?_) (fun h6 => ?_)
                        · skip
                          replace h6 : ¬ (((w : Nat) : Int) = 8) := fun q => h6 ((zeq (z_nI (by omega)) (by decide)).mpr q)
                          first
                          | (exfalso; omega)
                          | skip
                            refine w_iconst (v := 0) dX11_readLine_115 (by decide) ?_
                            refine w_putI ff_X11_54 rfl rfl rfl rfl dX11_readLine_116 ?_
                            have hu0 : (if nJ a < 4 then (Sum.inr (so, (st, (nx, v))) : tS) else flT 5 (Sum.inr (so, (st, (nx, v))) : tS)) = (Sum.inl (2, st) : tS) := if_neg (by omega)
                            refine w_aload_n dX11_readLine_119 rfl ?_
                            refine w_callV (as := []) (st := []) (Tri.mono (d_take (I := xup (xup (xup I 30 0 0 15 (2)) 30 0 0 16 (nI st)) 30 0 0 8 (0)) hk (ht.y (((FrY.rf.up30 (by decide)).up30 (by decide)).up30 (by decide))) (s := (Sum.inl (2, st) : tS)) ⟨by show 1 ≤ 2; omega, by show 2 ≤ 5; omega, g5⟩ ⟨(xup_slot (by decide)).trans ((xup_slot (by decide)).trans xup_self), (xup_slot (by decide)).trans xup_self⟩) (Nat.le_of_ble_eq_true rfl)) rfl rfl tg_X11_takes lk_X11_119 in_X11_takes se_X11_takes rfl dX11_readLine_120 rfl (Nat.le_of_ble_eq_true rfl) (Nat.le_refl _) (Nat.le_refl _) ?_
                            rintro v M9 ⟨rfl, I1, rfl, t1, f1⟩ -
                            have fy : FrY I I1 := (((FrY.rf.up30 (by decide)).up30 (by decide)).up30 (by decide)).tr f1.y
                            have hm1 : DM I1 a false := (DM.t8 hm (I' := xup (xup (xup I 30 0 0 15 (2)) 30 0 0 16 (nI st)) 30 0 0 8 (0)) (fun x => (xup_tag (by decide)).trans ((xup_tag (by decide)).trans (xup_tag (by decide)))) (fun x hx => (xup_slot (by omega)).trans ((xup_slot (by omega)).trans (xup_slot (by omega)))) (xup_self.trans (by rfl))).n f1
                            have hou : OKT n (tkT n b (Sum.inl (2, st) : tS)) := tk_ok ⟨by show 1 ≤ 2; omega, by show 2 ≤ 5; omega, g5⟩
                            obtain ⟨u, hu⟩ : ∃ u, u = tkT n b (Sum.inl (2, st) : tS) := ⟨_, rfl⟩
                            rw [← hu] at t1 hou
                            have hu1 : tkT n b (if nJ a < 4 then (Sum.inr (so, (st, (nx, v))) : tS) else flT 5 (Sum.inr (so, (st, (nx, v))) : tS)) = u := by rw [hu0, hu]
                            rw [show bodyT n b w (Sum.inr (so, (st, (nx, v))) : tS) a false = _ from if_pos (by omega)]
                            unfold pLz uJ2 uJ1
                            rw [hu1]
                            rcases u with ⟨c, p⟩ | ⟨so2, st2, nx2, v2⟩
                            · skip
                              have q1 := hou.1
                              have q2 := hou.2.1
                              replace q1 : 1 ≤ c := q1
                              replace q2 : c ≤ 5 := q2
                              refine w_aload_n dX11_readLine_123 rfl ?_
                              refine w_getI ff_X11_73 rfl rfl dX11_readLine_124 ?_
                              rw [show (I1 30 0 0 15 : Int32) = nI c from t1.1]
                              refine w_if_le (tgt := 131) dX11_readLine_127 (by decide) (fun h1 => ?_) (fun h1 => ?_)
                              · skip
                                replace h1 : ((c : Nat) : Int) ≤ 0 := (zle (z_nI (by omega)) (by decide)).mp h1
                                first
                                | (exfalso; omega)
                                | skip
                                  exfalso
                                  omega
                              · skip
                                replace h1 : ¬ (((c : Nat) : Int) ≤ 0) := fun q => h1 ((zle (z_nI (by omega)) (by decide)).mpr q)
                                first
                                | (exfalso; omega)
                                | skip
                                  exact w_return dX11_readLine_130 rfl rfl (⟨rfl, _, rfl, t1, fy, fun q z => by cases z⟩)
                            · skip
                              refine w_aload_n dX11_readLine_123 rfl ?_
                              refine w_getI ff_X11_73 rfl rfl dX11_readLine_124 ?_
                              rw [show (I1 30 0 0 15 : Int32) = 0 from t1.1]
                              refine w_if_le (tgt := 131) dX11_readLine_127 (by decide) (fun _ => ?_) (fun h => absurd (by decide) h)
                              refine w_aload_n dX11_readLine_131 rfl ?_
                              refine w_iload_n dX11_readLine_132 rfl ?_
                              cases hu
                        · skip
                          replace h6 : ((w : Nat) : Int) = 8 := (zeq (z_nI (by omega)) (by decide)).mp h6
                          first
                          | (exfalso; omega)
                          | skip
                            refine w_iconst (v := 1) dX11_readLine_111 (by decide) ?_
                            refine w_goto (tgt := 116) dX11_readLine_112 (by decide) ?_
                            refine w_putI ff_X11_54 rfl rfl rfl rfl dX11_readLine_116 ?_
                            have hu0 : (if nJ a < 4 then (Sum.inr (so, (st, (nx, v))) : tS) else flT 5 (Sum.inr (so, (st, (nx, v))) : tS)) = (Sum.inl (2, st) : tS) := if_neg (by omega)
                            refine w_aload_n dX11_readLine_119 rfl ?_
                            refine w_callV (as := []) (st := []) (Tri.mono (d_take (I := xup (xup (xup I 30 0 0 15 (2)) 30 0 0 16 (nI st)) 30 0 0 8 (1)) hk (ht.y (((FrY.rf.up30 (by decide)).up30 (by decide)).up30 (by decide))) (s := (Sum.inl (2, st) : tS)) ⟨by show 1 ≤ 2; omega, by show 2 ≤ 5; omega, g5⟩ ⟨(xup_slot (by decide)).trans ((xup_slot (by decide)).trans xup_self), (xup_slot (by decide)).trans xup_self⟩) (Nat.le_of_ble_eq_true rfl)) rfl rfl tg_X11_takes lk_X11_119 in_X11_takes se_X11_takes rfl dX11_readLine_120 rfl (Nat.le_of_ble_eq_true rfl) (Nat.le_refl _) (Nat.le_refl _) ?_
                            rintro v M9 ⟨rfl, I1, rfl, t1, f1⟩ -
                            have fy : FrY I I1 := (((FrY.rf.up30 (by decide)).up30 (by decide)).up30 (by decide)).tr f1.y
                            have hm1 : DM I1 a false := (DM.t8 hm (I' := xup (xup (xup I 30 0 0 15 (2)) 30 0 0 16 (nI st)) 30 0 0 8 (1)) (fun x => (xup_tag (by decide)).trans ((xup_tag (by decide)).trans (xup_tag (by decide)))) (fun x hx => (xup_slot (by omega)).trans ((xup_slot (by omega)).trans (xup_slot (by omega)))) (xup_self.trans (by rfl))).n f1
                            have hou : OKT n (tkT n b (Sum.inl (2, st) : tS)) := tk_ok ⟨by show 1 ≤ 2; omega, by show 2 ≤ 5; omega, g5⟩
                            obtain ⟨u, hu⟩ : ∃ u, u = tkT n b (Sum.inl (2, st) : tS) := ⟨_, rfl⟩
                            rw [← hu] at t1 hou
                            have hu1 : tkT n b (if nJ a < 4 then (Sum.inr (so, (st, (nx, v))) : tS) else flT 5 (Sum.inr (so, (st, (nx, v))) : tS)) = u := by rw [hu0, hu]
                            rw [show bodyT n b w (Sum.inr (so, (st, (nx, v))) : tS) a false = _ from if_pos (by omega)]
                            unfold pLz uJ2 uJ1
                            rw [hu1]
                            rcases u with ⟨c, p⟩ | ⟨so2, st2, nx2, v2⟩
                            · skip
                              have q1 := hou.1
                              have q2 := hou.2.1
                              replace q1 : 1 ≤ c := q1
                              replace q2 : c ≤ 5 := q2
                              refine w_aload_n dX11_readLine_123 rfl ?_
                              refine w_getI ff_X11_73 rfl rfl dX11_readLine_124 ?_
                              rw [show (I1 30 0 0 15 : Int32) = nI c from t1.1]
                              refine w_if_le (tgt := 131) dX11_readLine_127 (by decide) (fun h1 => ?_) (fun h1 => ?_)
                              · skip
                                replace h1 : ((c : Nat) : Int) ≤ 0 := (zle (z_nI (by omega)) (by decide)).mp h1
                                first
                                | (exfalso; omega)
                                | skip
                                  exfalso
                                  omega
                              · skip
                                replace h1 : ¬ (((c : Nat) : Int) ≤ 0) := fun q => h1 ((zle (z_nI (by omega)) (by decide)).mpr q)
                                first
                                | (exfalso; omega)
                                | skip
                                  exact w_return dX11_readLine_130 rfl rfl (⟨rfl, _, rfl, t1, fy, fun q z => by cases z⟩)
                            · skip
                              refine w_aload_n dX11_readLine_123 rfl ?_
                              refine w_getI ff_X11_73 rfl rfl dX11_readLine_124 ?_
                              rw [show (I1 30 0 0 15 : Int32) = 0 from t1.1]
                              refine w_if_le (tgt := 131) dX11_readLine_127 (by decide) (fun _ => ?_) (fun h => absurd (by decide) h)
                              refine w_aload_n dX11_readLine_131 rfl ?_
                              refine w_iload_n dX11_readLine_132 rfl ?_
                              cases hu
                    · skip
                      replace h5 : ((w : Nat) : Int) = 8 := (zeq (z_nI (by omega)) (by decide)).mp h5
                      first
                      | (exfalso; omega)
                      | skip
                        refine w_aload_n dX11_readLine_81 rfl ?_
                        refine w_getI ff_X11_54 rfl rfl dX11_readLine_82 ?_
                        rw [show ((xup (xup I 30 0 0 15 (2)) 30 0 0 16 (nI st)) 30 0 0 8 : Int32) = 0 from ((xup_slot (by decide)).trans ((xup_slot (by decide)).trans m8))]
                        refine w_if_ne (tgt := 92) dX11_readLine_85 (by decide) (fun h => absurd (by decide) h) (fun _ => ?_)
                        refine w_iconst (v := 1) dX11_readLine_88 (by decide) ?_
                        refine w_goto (tgt := 93) dX11_readLine_89 (by decide) ?_
                        refine w_iconst (v := 4) dX11_readLine_93 (by decide) ?_
                        refine w_callV (as := [vI (1), vI (4)]) (st := []) (Tri.mono (d_need1 (I := xup (xup I 30 0 0 15 (2)) 30 0 0 16 (nI st)) (4)) (Nat.le_of_ble_eq_true rfl)) rfl rfl tg_X11_needs lk_X11_115 in_X11_needs se_X11_needs rfl dX11_readLine_94 rfl (Nat.le_of_ble_eq_true rfl) (Nat.le_refl _) (Nat.le_refl _) ?_
                        rintro _ _ ⟨rfl, rfl⟩ -
                        refine w_aload_n dX11_readLine_97 rfl ?_
                        refine w_aload_n dX11_readLine_98 rfl ?_
                        refine w_getI ff_X11_54 rfl rfl dX11_readLine_99 ?_
                        rw [show ((xup (xup I 30 0 0 15 (2)) 30 0 0 16 (nI st)) 30 0 0 8 : Int32) = 0 from ((xup_slot (by decide)).trans ((xup_slot (by decide)).trans m8))]
                        refine w_if_ne (tgt := 111) dX11_readLine_102 (by decide) (fun h => absurd (by decide) h) (fun _ => ?_)
                        refine w_iload_n dX11_readLine_105 rfl ?_
                        refine w_bipush (v := 8) dX11_readLine_106 (by decide) ?_
                        refine w_icmp_ne (tgt := 115) dX11_readLine_108 (by decide) (fun h6 => ?_) (fun h6 => ?_)
                        · skip
                          replace h6 : ¬ (((w : Nat) : Int) = 8) := fun q => h6 ((zeq (z_nI (by omega)) (by decide)).mpr q)
                          first
                          | (exfalso; omega)
                          | skip
                            refine w_iconst (v := 0) dX11_readLine_115 (by decide) ?_
                            refine w_putI ff_X11_54 rfl rfl rfl rfl dX11_readLine_116 ?_
                            have hu0 : (if nJ a < 4 then (Sum.inr (so, (st, (nx, v))) : tS) else flT 5 (Sum.inr (so, (st, (nx, v))) : tS)) = (Sum.inl (2, st) : tS) := if_neg (by omega)
                            refine w_aload_n dX11_readLine_119 rfl ?_
                            refine w_callV (as := []) (st := []) (Tri.mono (d_take (I := xup (xup (xup I 30 0 0 15 (2)) 30 0 0 16 (nI st)) 30 0 0 8 (0)) hk (ht.y (((FrY.rf.up30 (by decide)).up30 (by decide)).up30 (by decide))) (s := (Sum.inl (2, st) : tS)) ⟨by show 1 ≤ 2; omega, by show 2 ≤ 5; omega, g5⟩ ⟨(xup_slot (by decide)).trans ((xup_slot (by decide)).trans xup_self), (xup_slot (by decide)).trans xup_self⟩) (Nat.le_of_ble_eq_true rfl)) rfl rfl tg_X11_takes lk_X11_119 in_X11_takes se_X11_takes rfl dX11_readLine_120 rfl (Nat.le_of_ble_eq_true rfl) (Nat.le_refl _) (Nat.le_refl _) ?_
                            rintro v M9 ⟨rfl, I1, rfl, t1, f1⟩ -
                            have fy : FrY I I1 := (((FrY.rf.up30 (by decide)).up30 (by decide)).up30 (by decide)).tr f1.y
                            have hm1 : DM I1 a false := (DM.t8 hm (I' := xup (xup (xup I 30 0 0 15 (2)) 30 0 0 16 (nI st)) 30 0 0 8 (0)) (fun x => (xup_tag (by decide)).trans ((xup_tag (by decide)).trans (xup_tag (by decide)))) (fun x hx => (xup_slot (by omega)).trans ((xup_slot (by omega)).trans (xup_slot (by omega)))) (xup_self.trans (by rfl))).n f1
                            have hou : OKT n (tkT n b (Sum.inl (2, st) : tS)) := tk_ok ⟨by show 1 ≤ 2; omega, by show 2 ≤ 5; omega, g5⟩
                            obtain ⟨u, hu⟩ : ∃ u, u = tkT n b (Sum.inl (2, st) : tS) := ⟨_, rfl⟩
                            rw [← hu] at t1 hou
                            have hu1 : tkT n b (if nJ a < 4 then (Sum.inr (so, (st, (nx, v))) : tS) else flT 5 (Sum.inr (so, (st, (nx, v))) : tS)) = u := by rw [hu0, hu]
                            rw [show bodyT n b w (Sum.inr (so, (st, (nx, v))) : tS) a false = _ from if_pos (by omega)]
                            unfold pLz uJ2 uJ1
                            rw [hu1]
                            rcases u with ⟨c, p⟩ | ⟨so2, st2, nx2, v2⟩
                            · skip
                              have q1 := hou.1
                              have q2 := hou.2.1
                              replace q1 : 1 ≤ c := q1
                              replace q2 : c ≤ 5 := q2
                              refine w_aload_n dX11_readLine_123 rfl ?_
                              refine w_getI ff_X11_73 rfl rfl dX11_readLine_124 ?_
                              rw [show (I1 30 0 0 15 : Int32) = nI c from t1.1]
                              refine w_if_le (tgt := 131) dX11_readLine_127 (by decide) (fun h1 => ?_) (fun h1 => ?_)
                              · skip
                                replace h1 : ((c : Nat) : Int) ≤ 0 := (zle (z_nI (by omega)) (by decide)).mp h1
                                first
                                | (exfalso; omega)
                                | skip
                                  exfalso
                                  omega
                              · skip
                                replace h1 : ¬ (((c : Nat) : Int) ≤ 0) := fun q => h1 ((zle (z_nI (by omega)) (by decide)).mpr q)
                                first
                                | (exfalso; omega)
                                | skip
                                  exact w_return dX11_readLine_130 rfl rfl (⟨rfl, _, rfl, t1, fy, fun q z => by cases z⟩)
                            · skip
                              refine w_aload_n dX11_readLine_123 rfl ?_
                              refine w_getI ff_X11_73 rfl rfl dX11_readLine_124 ?_
                              rw [show (I1 30 0 0 15 : Int32) = 0 from t1.1]
                              refine w_if_le (tgt := 131) dX11_readLine_127 (by decide) (fun _ => ?_) (fun h => absurd (by decide) h)
                              refine w_aload_n dX11_readLine_131 rfl ?_
                              refine w_iload_n dX11_readLine_132 rfl ?_
                              cases hu
                        · skip
                          replace h6 : ((w : Nat) : Int) = 8 := (zeq (z_nI (by omega)) (by decide)).mp h6
                          first
                          | (exfalso; omega)
                          | skip
                            refine w_iconst (v := 1) dX11_readLine_111 (by decide) ?_
                            refine w_goto (tgt := 116) dX11_readLine_112 (by decide) ?_
                            refine w_putI ff_X11_54 rfl rfl rfl rfl dX11_readLine_116 ?_
                            have hu0 : (if nJ a < 4 then (Sum.inr (so, (st, (nx, v))) : tS) else flT 5 (Sum.inr (so, (st, (nx, v))) : tS)) = (Sum.inl (2, st) : tS) := if_neg (by omega)
                            refine w_aload_n dX11_readLine_119 rfl ?_
                            refine w_callV (as := []) (st := []) (Tri.mono (d_take (I := xup (xup (xup I 30 0 0 15 (2)) 30 0 0 16 (nI st)) 30 0 0 8 (1)) hk (ht.y (((FrY.rf.up30 (by decide)).up30 (by decide)).up30 (by decide))) (s := (Sum.inl (2, st) : tS)) ⟨by show 1 ≤ 2; omega, by show 2 ≤ 5; omega, g5⟩ ⟨(xup_slot (by decide)).trans ((xup_slot (by decide)).trans xup_self), (xup_slot (by decide)).trans xup_self⟩) (Nat.le_of_ble_eq_true rfl)) rfl rfl tg_X11_takes lk_X11_119 in_X11_takes se_X11_takes rfl dX11_readLine_120 rfl (Nat.le_of_ble_eq_true rfl) (Nat.le_refl _) (Nat.le_refl _) ?_
                            rintro v M9 ⟨rfl, I1, rfl, t1, f1⟩ -
                            have fy : FrY I I1 := (((FrY.rf.up30 (by decide)).up30 (by decide)).up30 (by decide)).tr f1.y
                            have hm1 : DM I1 a false := (DM.t8 hm (I' := xup (xup (xup I 30 0 0 15 (2)) 30 0 0 16 (nI st)) 30 0 0 8 (1)) (fun x => (xup_tag (by decide)).trans ((xup_tag (by decide)).trans (xup_tag (by decide)))) (fun x hx => (xup_slot (by omega)).trans ((xup_slot (by omega)).trans (xup_slot (by omega)))) (xup_self.trans (by rfl))).n f1
                            have hou : OKT n (tkT n b (Sum.inl (2, st) : tS)) := tk_ok ⟨by show 1 ≤ 2; omega, by show 2 ≤ 5; omega, g5⟩
                            obtain ⟨u, hu⟩ : ∃ u, u = tkT n b (Sum.inl (2, st) : tS) := ⟨_, rfl⟩
                            rw [← hu] at t1 hou
                            have hu1 : tkT n b (if nJ a < 4 then (Sum.inr (so, (st, (nx, v))) : tS) else flT 5 (Sum.inr (so, (st, (nx, v))) : tS)) = u := by rw [hu0, hu]
                            rw [show bodyT n b w (Sum.inr (so, (st, (nx, v))) : tS) a false = _ from if_pos (by omega)]
                            unfold pLz uJ2 uJ1
                            rw [hu1]
                            rcases u with ⟨c, p⟩ | ⟨so2, st2, nx2, v2⟩
                            · skip
                              have q1 := hou.1
                              have q2 := hou.2.1
                              replace q1 : 1 ≤ c := q1
                              replace q2 : c ≤ 5 := q2
                              refine w_aload_n dX11_readLine_123 rfl ?_
                              refine w_getI ff_X11_73 rfl rfl dX11_readLine_124 ?_
                              rw [show (I1 30 0 0 15 : Int32) = nI c from t1.1]
                              refine w_if_le (tgt := 131) dX11_readLine_127 (by decide) (fun h1 => ?_) (fun h1 => ?_)
                              · skip
                                replace h1 : ((c : Nat) : Int) ≤ 0 := (zle (z_nI (by omega)) (by decide)).mp h1
                                first
                                | (exfalso; omega)
                                | skip
                                  exfalso
                                  omega
                              · skip
                                replace h1 : ¬ (((c : Nat) : Int) ≤ 0) := fun q => h1 ((zle (z_nI (by omega)) (by decide)).mpr q)
                                first
                                | (exfalso; omega)
                                | skip
                                  exact w_return dX11_readLine_130 rfl rfl (⟨rfl, _, rfl, t1, fy, fun q z => by cases z⟩)
                            · skip
                              refine w_aload_n dX11_readLine_123 rfl ?_
                              refine w_getI ff_X11_73 rfl rfl dX11_readLine_124 ?_
                              rw [show (I1 30 0 0 15 : Int32) = 0 from t1.1]
                              refine w_if_le (tgt := 131) dX11_readLine_127 (by decide) (fun _ => ?_) (fun h => absurd (by decide) h)
                              refine w_aload_n dX11_readLine_131 rfl ?_
                              refine w_iload_n dX11_readLine_132 rfl ?_
                              cases hu
                · skip
                  replace h4 : ¬ (5 ≤ ((nC a : Nat) : Int)) := fun q => h4 ((zle (by decide) (z_nI (by omega))).mpr q)
                  first
                  | (exfalso; omega)
                  | skip
                    refine w_goto (tgt := 65) dX11_readLine_54 (by decide) ?_
                    refine w_iconst (v := 1) dX11_readLine_65 (by decide) ?_
                    refine w_goto (tgt := 70) dX11_readLine_66 (by decide) ?_
                    refine w_iconst (v := 5) dX11_readLine_70 (by decide) ?_
                    refine w_callV (as := [vI (1), vI (5)]) (st := []) (Tri.mono (d_need1 (I := xup (xup I 30 0 0 15 (2)) 30 0 0 16 (nI st)) (5)) (Nat.le_of_ble_eq_true rfl)) rfl rfl tg_X11_needs lk_X11_115 in_X11_needs se_X11_needs rfl dX11_readLine_71 rfl (Nat.le_of_ble_eq_true rfl) (Nat.le_refl _) (Nat.le_refl _) ?_
                    rintro _ _ ⟨rfl, rfl⟩ -
                    refine w_aload_n dX11_readLine_74 rfl ?_
                    refine w_iload_n dX11_readLine_75 rfl ?_
                    refine w_bipush (v := 8) dX11_readLine_76 (by decide) ?_
                    refine w_icmp_ne (tgt := 88) dX11_readLine_78 (by decide) (fun h5 => ?_) (fun h5 => ?_)
                    · skip
                      replace h5 : ¬ (((w : Nat) : Int) = 8) := fun q => h5 ((zeq (z_nI (by omega)) (by decide)).mpr q)
                      first
                      | (exfalso; omega)
                      | skip
                        refine w_iconst (v := 1) dX11_readLine_88 (by decide) ?_
                        refine w_goto (tgt := 93) dX11_readLine_89 (by decide) ?_
                        refine w_iconst (v := 4) dX11_readLine_93 (by decide) ?_
                        refine w_callV (as := [vI (1), vI (4)]) (st := []) (Tri.mono (d_need1 (I := xup (xup I 30 0 0 15 (2)) 30 0 0 16 (nI st)) (4)) (Nat.le_of_ble_eq_true rfl)) rfl rfl tg_X11_needs lk_X11_115 in_X11_needs se_X11_needs rfl dX11_readLine_94 rfl (Nat.le_of_ble_eq_true rfl) (Nat.le_refl _) (Nat.le_refl _) ?_
                        rintro _ _ ⟨rfl, rfl⟩ -
                        refine w_aload_n dX11_readLine_97 rfl ?_
                        refine w_aload_n dX11_readLine_98 rfl ?_
                        refine w_getI ff_X11_54 rfl rfl dX11_readLine_99 ?_
                        rw [show ((xup (xup I 30 0 0 15 (2)) 30 0 0 16 (nI st)) 30 0 0 8 : Int32) = 0 from ((xup_slot (by decide)).trans ((xup_slot (by decide)).trans m8))]
                        refine w_if_ne (tgt := 111) dX11_readLine_102 (by decide) (fun h => absurd (by decide) h) (fun _ => ?_)
                        refine w_iload_n dX11_readLine_105 rfl ?_
                        refine w_bipush (v := 8) dX11_readLine_106 (by decide) ?_
                        refine w_icmp_ne (tgt := 115) dX11_readLine_108 (by decide) (fun h6 => ?_) (fun h6 => ?_)
                        · skip
                          replace h6 : ¬ (((w : Nat) : Int) = 8) := fun q => h6 ((zeq (z_nI (by omega)) (by decide)).mpr q)
                          first
                          | (exfalso; omega)
                          | skip
                            refine w_iconst (v := 0) dX11_readLine_115 (by decide) ?_
                            refine w_putI ff_X11_54 rfl rfl rfl rfl dX11_readLine_116 ?_
                            have hu0 : (if nJ a < 4 then (Sum.inr (so, (st, (nx, v))) : tS) else flT 5 (Sum.inr (so, (st, (nx, v))) : tS)) = (Sum.inl (2, st) : tS) := if_neg (by omega)
                            refine w_aload_n dX11_readLine_119 rfl ?_
                            refine w_callV (as := []) (st := []) (Tri.mono (d_take (I := xup (xup (xup I 30 0 0 15 (2)) 30 0 0 16 (nI st)) 30 0 0 8 (0)) hk (ht.y (((FrY.rf.up30 (by decide)).up30 (by decide)).up30 (by decide))) (s := (Sum.inl (2, st) : tS)) ⟨by show 1 ≤ 2; omega, by show 2 ≤ 5; omega, g5⟩ ⟨(xup_slot (by decide)).trans ((xup_slot (by decide)).trans xup_self), (xup_slot (by decide)).trans xup_self⟩) (Nat.le_of_ble_eq_true rfl)) rfl rfl tg_X11_takes lk_X11_119 in_X11_takes se_X11_takes rfl dX11_readLine_120 rfl (Nat.le_of_ble_eq_true rfl) (Nat.le_refl _) (Nat.le_refl _) ?_
                            rintro v M9 ⟨rfl, I1, rfl, t1, f1⟩ -
                            have fy : FrY I I1 := (((FrY.rf.up30 (by decide)).up30 (by decide)).up30 (by decide)).tr f1.y
                            have hm1 : DM I1 a false := (DM.t8 hm (I' := xup (xup (xup I 30 0 0 15 (2)) 30 0 0 16 (nI st)) 30 0 0 8 (0)) (fun x => (xup_tag (by decide)).trans ((xup_tag (by decide)).trans (xup_tag (by decide)))) (fun x hx => (xup_slot (by omega)).trans ((xup_slot (by omega)).trans (xup_slot (by omega)))) (xup_self.trans (by rfl))).n f1
                            have hou : OKT n (tkT n b (Sum.inl (2, st) : tS)) := tk_ok ⟨by show 1 ≤ 2; omega, by show 2 ≤ 5; omega, g5⟩
                            obtain ⟨u, hu⟩ : ∃ u, u = tkT n b (Sum.inl (2, st) : tS) := ⟨_, rfl⟩
                            rw [← hu] at t1 hou
                            have hu1 : tkT n b (if nJ a < 4 then (Sum.inr (so, (st, (nx, v))) : tS) else flT 5 (Sum.inr (so, (st, (nx, v))) : tS)) = u := by rw [hu0, hu]
                            rw [show bodyT n b w (Sum.inr (so, (st, (nx, v))) : tS) a false = _ from if_pos (by omega)]
                            unfold pLz uJ2 uJ1
                            rw [hu1]
                            rcases u with ⟨c, p⟩ | ⟨so2, st2, nx2, v2⟩
                            · skip
                              have q1 := hou.1
                              have q2 := hou.2.1
                              replace q1 : 1 ≤ c := q1
                              replace q2 : c ≤ 5 := q2
                              refine w_aload_n dX11_readLine_123 rfl ?_
                              refine w_getI ff_X11_73 rfl rfl dX11_readLine_124 ?_
                              rw [show (I1 30 0 0 15 : Int32) = nI c from t1.1]
                              refine w_if_le (tgt := 131) dX11_readLine_127 (by decide) (fun h1 => ?_) (fun h1 => ?_)
                              · skip
                                replace h1 : ((c : Nat) : Int) ≤ 0 := (zle (z_nI (by omega)) (by decide)).mp h1
                                first
                                | (exfalso; omega)
                                | skip
                                  exfalso
                                  omega
                              · skip
                                replace h1 : ¬ (((c : Nat) : Int) ≤ 0) := fun q => h1 ((zle (z_nI (by omega)) (by decide)).mpr q)
                                first
                                | (exfalso; omega)
                                | skip
                                  exact w_return dX11_readLine_130 rfl rfl (⟨rfl, _, rfl, t1, fy, fun q z => by cases z⟩)
                            · skip
                              refine w_aload_n dX11_readLine_123 rfl ?_
                              refine w_getI ff_X11_73 rfl rfl dX11_readLine_124 ?_
                              rw [show (I1 30 0 0 15 : Int32) = 0 from t1.1]
                              refine w_if_le (tgt := 131) dX11_readLine_127 (by decide) (fun _ => ?_) (fun h => absurd (by decide) h)
                              refine w_aload_n dX11_readLine_131 rfl ?_
                              refine w_iload_n dX11_readLine_132 rfl ?_
                              cases hu
                        · skip
                          replace h6 : ((w : Nat) : Int) = 8 := (zeq (z_nI (by omega)) (by decide)).mp h6
                          first
                          | (exfalso; omega)
                          | skip
                            refine w_iconst (v := 1) dX11_readLine_111 (by decide) ?_
                            refine w_goto (tgt := 116) dX11_readLine_112 (by decide) ?_
                            refine w_putI ff_X11_54 rfl rfl rfl rfl dX11_readLine_116 ?_
                            have hu0 : (if nJ a < 4 then (Sum.inr (so, (st, (nx, v))) : tS) else flT 5 (Sum.inr (so, (st, (nx, v))) : tS)) = (Sum.inl (2, st) : tS) := if_neg (by omega)
                            refine w_aload_n dX11_readLine_119 rfl ?_
                            refine w_callV (as := []) (st := []) (Tri.mono (d_take (I := xup (xup (xup I 30 0 0 15 (2)) 30 0 0 16 (nI st)) 30 0 0 8 (1)) hk (ht.y (((FrY.rf.up30 (by decide)).up30 (by decide)).up30 (by decide))) (s := (Sum.inl (2, st) : tS)) ⟨by show 1 ≤ 2; omega, by show 2 ≤ 5; omega, g5⟩ ⟨(xup_slot (by decide)).trans ((xup_slot (by decide)).trans xup_self), (xup_slot (by decide)).trans xup_self⟩) (Nat.le_of_ble_eq_true rfl)) rfl rfl tg_X11_takes lk_X11_119 in_X11_takes se_X11_takes rfl dX11_readLine_120 rfl (Nat.le_of_ble_eq_true rfl) (Nat.le_refl _) (Nat.le_refl _) ?_
                            rintro v M9 ⟨rfl, I1, rfl, t1, f1⟩ -
                            have fy : FrY I I1 := (((FrY.rf.up30 (by decide)).up30 (by decide)).up30 (by decide)).tr f1.y
                            have hm1 : DM I1 a false := (DM.t8 hm (I' := xup (xup (xup I 30 0 0 15 (2)) 30 0 0 16 (nI st)) 30 0 0 8 (1)) (fun x => (xup_tag (by decide)).trans ((xup_tag (by decide)).trans (xup_tag (by decide)))) (fun x hx => (xup_slot (by omega)).trans ((xup_slot (by omega)).trans (xup_slot (by omega)))) (xup_self.trans (by rfl))).n f1
                            have hou : OKT n (tkT n b (Sum.inl (2, st) : tS)) := tk_ok ⟨by show 1 ≤ 2; omega, by show 2 ≤ 5; omega, g5⟩
                            obtain ⟨u, hu⟩ : ∃ u, u = tkT n b (Sum.inl (2, st) : tS) := ⟨_, rfl⟩
                            rw [← hu] at t1 hou
                            have hu1 : tkT n b (if nJ a < 4 then (Sum.inr (so, (st, (nx, v))) : tS) else flT 5 (Sum.inr (so, (st, (nx, v))) : tS)) = u := by rw [hu0, hu]
                            rw [show bodyT n b w (Sum.inr (so, (st, (nx, v))) : tS) a false = _ from if_pos (by omega)]
                            unfold pLz uJ2 uJ1
                            rw [hu1]
                            rcases u with ⟨c, p⟩ | ⟨so2, st2, nx2, v2⟩
                            · skip
                              have q1 := hou.1
                              have q2 := hou.2.1
                              replace q1 : 1 ≤ c := q1
                              replace q2 : c ≤ 5 := q2
                              refine w_aload_n dX11_readLine_123 rfl ?_
                              refine w_getI ff_X11_73 rfl rfl dX11_readLine_124 ?_
                              rw [show (I1 30 0 0 15 : Int32) = nI c from t1.1]
                              refine w_if_le (tgt := 131) dX11_readLine_127 (by decide) (fun h1 => ?_) (fun h1 => ?_)
                              · skip
                                replace h1 : ((c : Nat) : Int) ≤ 0 := (zle (z_nI (by omega)) (by decide)).mp h1
                                first
                                | (exfalso; omega)
                                | skip
                                  exfalso
                                  omega
                              · skip
                                replace h1 : ¬ (((c : Nat) : Int) ≤ 0) := fun q => h1 ((zle (z_nI (by omega)) (by decide)).mpr q)
                                first
                                | (exfalso; omega)
                                | skip
                                  exact w_return dX11_readLine_130 rfl rfl (⟨rfl, _, rfl, t1, fy, fun q z => by cases z⟩)
                            · skip
                              refine w_aload_n dX11_readLine_123 rfl ?_
                              refine w_getI ff_X11_73 rfl rfl dX11_readLine_124 ?_
                              rw [show (I1 30 0 0 15 : Int32) = 0 from t1.1]
                              refine w_if_le (tgt := 131) dX11_readLine_127 (by decide) (fun _ => ?_) (fun h => absurd (by decide) h)
                              refine w_aload_n dX11_readLine_131 rfl ?_
                              refine w_iload_n dX11_readLine_132 rfl ?_
                              cases hu
                    · skip
                      replace h5 : ((w : Nat) : Int) = 8 := (zeq (z_nI (by omega)) (by decide)).mp h5
                      first
                      | (exfalso; omega)
                      | skip
                        refine w_aload_n dX11_readLine_81 rfl ?_
                        refine w_getI ff_X11_54 rfl rfl dX11_readLine_82 ?_
                        rw [show ((xup (xup I 30 0 0 15 (2)) 30 0 0 16 (nI st)) 30 0 0 8 : Int32) = 0 from ((xup_slot (by decide)).trans ((xup_slot (by decide)).trans m8))]
                        refine w_if_ne (tgt := 92) dX11_readLine_85 (by decide) (fun h => absurd (by decide) h) (fun _ => ?_)
                        refine w_iconst (v := 1) dX11_readLine_88 (by decide) ?_
                        refine w_goto (tgt := 93) dX11_readLine_89 (by decide) ?_
                        refine w_iconst (v := 4) dX11_readLine_93 (by decide) ?_
                        refine w_callV (as := [vI (1), vI (4)]) (st := []) (Tri.mono (d_need1 (I := xup (xup I 30 0 0 15 (2)) 30 0 0 16 (nI st)) (4)) (Nat.le_of_ble_eq_true rfl)) rfl rfl tg_X11_needs lk_X11_115 in_X11_needs se_X11_needs rfl dX11_readLine_94 rfl (Nat.le_of_ble_eq_true rfl) (Nat.le_refl _) (Nat.le_refl _) ?_
                        rintro _ _ ⟨rfl, rfl⟩ -
                        refine w_aload_n dX11_readLine_97 rfl ?_
                        refine w_aload_n dX11_readLine_98 rfl ?_
                        refine w_getI ff_X11_54 rfl rfl dX11_readLine_99 ?_
                        rw [show ((xup (xup I 30 0 0 15 (2)) 30 0 0 16 (nI st)) 30 0 0 8 : Int32) = 0 from ((xup_slot (by decide)).trans ((xup_slot (by decide)).trans m8))]
                        refine w_if_ne (tgt := 111) dX11_readLine_102 (by decide) (fun h => absurd (by decide) h) (fun _ => ?_)
                        refine w_iload_n dX11_readLine_105 rfl ?_
                        refine w_bipush (v := 8) dX11_readLine_106 (by decide) ?_
                        refine w_icmp_ne (tgt := 115) dX11_readLine_108 (by decide) (fun h6 => ?_) (fun h6 => ?_)
                        · skip
                          replace h6 : ¬ (((w : Nat) : Int) = 8) := fun q => h6 ((zeq (z_nI (by omega)) (by decide)).mpr q)
                          first
                          | (exfalso; omega)
                          | skip
                            refine w_iconst (v := 0) dX11_readLine_115 (by decide) ?_
                            refine w_putI ff_X11_54 rfl rfl rfl rfl dX11_readLine_116 ?_
                            have hu0 : (if nJ a < 4 then (Sum.inr (so, (st, (nx, v))) : tS) else flT 5 (Sum.inr (so, (st, (nx, v))) : tS)) = (Sum.inl (2, st) : tS) := if_neg (by omega)
                            refine w_aload_n dX11_readLine_119 rfl ?_
                            refine w_callV (as := []) (st := []) (Tri.mono (d_take (I := xup (xup (xup I 30 0 0 15 (2)) 30 0 0 16 (nI st)) 30 0 0 8 (0)) hk (ht.y (((FrY.rf.up30 (by decide)).up30 (by decide)).up30 (by decide))) (s := (Sum.inl (2, st) : tS)) ⟨by show 1 ≤ 2; omega, by show 2 ≤ 5; omega, g5⟩ ⟨(xup_slot (by decide)).trans ((xup_slot (by decide)).trans xup_self), (xup_slot (by decide)).trans xup_self⟩) (Nat.le_of_ble_eq_true rfl)) rfl rfl tg_X11_takes lk_X11_119 in_X11_takes se_X11_takes rfl dX11_readLine_120 rfl (Nat.le_of_ble_eq_true rfl) (Nat.le_refl _) (Nat.le_refl _) ?_
                            rintro v M9 ⟨rfl, I1, rfl, t1, f1⟩ -
                            have fy : FrY I I1 := (((FrY.rf.up30 (by decide)).up30 (by decide)).up30 (by decide)).tr f1.y
                            have hm1 : DM I1 a false := (DM.t8 hm (I' := xup (xup (xup I 30 0 0 15 (2)) 30 0 0 16 (nI st)) 30 0 0 8 (0)) (fun x => (xup_tag (by decide)).trans ((xup_tag (by decide)).trans (xup_tag (by decide)))) (fun x hx => (xup_slot (by omega)).trans ((xup_slot (by omega)).trans (xup_slot (by omega)))) (xup_self.trans (by rfl))).n f1
                            have hou : OKT n (tkT n b (Sum.inl (2, st) : tS)) := tk_ok ⟨by show 1 ≤ 2; omega, by show 2 ≤ 5; omega, g5⟩
                            obtain ⟨u, hu⟩ : ∃ u, u = tkT n b (Sum.inl (2, st) : tS) := ⟨_, rfl⟩
                            rw [← hu] at t1 hou
                            have hu1 : tkT n b (if nJ a < 4 then (Sum.inr (so, (st, (nx, v))) : tS) else flT 5 (Sum.inr (so, (st, (nx, v))) : tS)) = u := by rw [hu0, hu]
                            rw [show bodyT n b w (Sum.inr (so, (st, (nx, v))) : tS) a false = _ from if_pos (by omega)]
                            unfold pLz uJ2 uJ1
                            rw [hu1]
                            rcases u with ⟨c, p⟩ | ⟨so2, st2, nx2, v2⟩
                            · skip
                              have q1 := hou.1
                              have q2 := hou.2.1
                              replace q1 : 1 ≤ c := q1
                              replace q2 : c ≤ 5 := q2
                              refine w_aload_n dX11_readLine_123 rfl ?_
                              refine w_getI ff_X11_73 rfl rfl dX11_readLine_124 ?_
                              rw [show (I1 30 0 0 15 : Int32) = nI c from t1.1]
                              refine w_if_le (tgt := 131) dX11_readLine_127 (by decide) (fun h1 => ?_) (fun h1 => ?_)
                              · skip
                                replace h1 : ((c : Nat) : Int) ≤ 0 := (zle (z_nI (by omega)) (by decide)).mp h1
                                first
                                | (exfalso; omega)
                                | skip
                                  exfalso
                                  omega
                              · skip
                                replace h1 : ¬ (((c : Nat) : Int) ≤ 0) := fun q => h1 ((zle (z_nI (by omega)) (by decide)).mpr q)
                                first
                                | (exfalso; omega)
                                | skip
                                  exact w_return dX11_readLine_130 rfl rfl (⟨rfl, _, rfl, t1, fy, fun q z => by cases z⟩)
                            · skip
                              refine w_aload_n dX11_readLine_123 rfl ?_
                              refine w_getI ff_X11_73 rfl rfl dX11_readLine_124 ?_
                              rw [show (I1 30 0 0 15 : Int32) = 0 from t1.1]
                              refine w_if_le (tgt := 131) dX11_readLine_127 (by decide) (fun _ => ?_) (fun h => absurd (by decide) h)
                              refine w_aload_n dX11_readLine_131 rfl ?_
                              refine w_iload_n dX11_readLine_132 rfl ?_
                              cases hu
                        · skip
                          replace h6 : ((w : Nat) : Int) = 8 := (zeq (z_nI (by omega)) (by decide)).mp h6
                          first
                          | (exfalso; omega)
                          | skip
                            refine w_iconst (v := 1) dX11_readLine_111 (by decide) ?_
                            refine w_goto (tgt := 116) dX11_readLine_112 (by decide) ?_
                            refine w_putI ff_X11_54 rfl rfl rfl rfl dX11_readLine_116 ?_
                            have hu0 : (if nJ a < 4 then (Sum.inr (so, (st, (nx, v))) : tS) else flT 5 (Sum.inr (so, (st, (nx, v))) : tS)) = (Sum.inl (2, st) : tS) := if_neg (by omega)
                            refine w_aload_n dX11_readLine_119 rfl ?_
                            refine w_callV (as := []) (st := []) (Tri.mono (d_take (I := xup (xup (xup I 30 0 0 15 (2)) 30 0 0 16 (nI st)) 30 0 0 8 (1)) hk (ht.y (((FrY.rf.up30 (by decide)).up30 (by decide)).up30 (by decide))) (s := (Sum.inl (2, st) : tS)) ⟨by show 1 ≤ 2; omega, by show 2 ≤ 5; omega, g5⟩ ⟨(xup_slot (by decide)).trans ((xup_slot (by decide)).trans xup_self), (xup_slot (by decide)).trans xup_self⟩) (Nat.le_of_ble_eq_true rfl)) rfl rfl tg_X11_takes lk_X11_119 in_X11_takes se_X11_takes rfl dX11_readLine_120 rfl (Nat.le_of_ble_eq_true rfl) (Nat.le_refl _) (Nat.le_refl _) ?_
                            rintro v M9 ⟨rfl, I1, rfl, t1, f1⟩ -
                            have fy : FrY I I1 := (((FrY.rf.up30 (by decide)).up30 (by decide)).up30 (by decide)).tr f1.y
                            have hm1 : DM I1 a false := (DM.t8 hm (I' := xup (xup (xup I 30 0 0 15 (2)) 30 0 0 16 (nI st)) 30 0 0 8 (1)) (fun x => (xup_tag (by decide)).trans ((xup_tag (by decide)).trans (xup_tag (by decide)))) (fun x hx => (xup_slot (by omega)).trans ((xup_slot (by omega)).trans (xup_slot (by omega)))) (xup_self.trans (by rfl))).n f1
                            have hou : OKT n (tkT n b (Sum.inl (2, st) : tS)) := tk_ok ⟨by show 1 ≤ 2; omega, by show 2 ≤ 5; omega, g5⟩
                            obtain ⟨u, hu⟩ : ∃ u, u = tkT n b (Sum.inl (2, st) : tS) := ⟨_, rfl⟩
                            rw [← hu] at t1 hou
                            have hu1 : tkT n b (if nJ a < 4 then (Sum.inr (so, (st, (nx, v))) : tS) else flT 5 (Sum.inr (so, (st, (nx, v))) : tS)) = u := by rw [hu0, hu]
                            rw [show bodyT n b w (Sum.inr (so, (st, (nx, v))) : tS) a false = _ from if_pos (by omega)]
                            unfold pLz uJ2 uJ1
                            rw [hu1]
                            rcases u with ⟨c, p⟩ | ⟨so2, st2, nx2, v2⟩
                            · skip
                              have q1 := hou.1
                              have q2 := hou.2.1
                              replace q1 : 1 ≤ c := q1
                              replace q2 : c ≤ 5 := q2
                              refine w_aload_n dX11_readLine_123 rfl ?_
                              refine w_getI ff_X11_73 rfl rfl dX11_readLine_124 ?_
                              rw [show (I1 30 0 0 15 : Int32) = nI c from t1.1]
                              refine w_if_le (tgt := 131) dX11_readLine_127 (by decide) (fun h1 => ?_) (fun h1 => ?_)
                              · skip
                                replace h1 : ((c : Nat) : Int) ≤ 0 := (zle (z_nI (by omega)) (by decide)).mp h1
                                first
                                | (exfalso; omega)
                                | skip
                                  exfalso
                                  omega
                              · skip
                                replace h1 : ¬ (((c : Nat) : Int) ≤ 0) := fun q => h1 ((zle (z_nI (by omega)) (by decide)).mpr q)
                                first
                                | (exfalso; omega)
                                | skip
                                  exact w_return dX11_readLine_130 rfl rfl (⟨rfl, _, rfl, t1, fy, fun q z => by cases z⟩)
                            · skip
                              refine w_aload_n dX11_readLine_123 rfl ?_
                              refine w_getI ff_X11_73 rfl rfl dX11_readLine_124 ?_
                              rw [show (I1 30 0 0 15 : Int32) = 0 from t1.1]
                              refine w_if_le (tgt := 131) dX11_readLine_127 (by decide) (fun _ => ?_) (fun h => absurd (by decide) h)
                              refine w_aload_n dX11_readLine_131 rfl ?_
                              refine w_iload_n dX11_readLine_132 rfl ?_
                              cases hu
    · skip
      replace h1 : ¬ (((w : Nat) : Int) = (-4)) := fun q => h1 ((zeq (z_nI (by omega)) (by decide)).mpr q)
      first
      | (exfalso; omega)
      | skip
        refine w_iconst (v := 1) dX11_readLine_25 (by decide) ?_
        refine w_goto (tgt := 30) dX11_readLine_26 (by decide) ?_
        refine w_iconst (v := 2) dX11_readLine_30 (by decide) ?_
        refine w_callV (as := [vI (1), vI (2)]) (st := []) (Tri.mono (d_need1 (I := I) (2)) (Nat.le_of_ble_eq_true rfl)) rfl rfl tg_X11_needs lk_X11_115 in_X11_needs se_X11_needs rfl dX11_readLine_31 rfl (Nat.le_of_ble_eq_true rfl) (Nat.le_refl _) (Nat.le_refl _) ?_
        rintro _ _ ⟨rfl, rfl⟩ -
        refine w_aload_n dX11_readLine_34 rfl ?_
        refine w_iload_n dX11_readLine_35 rfl ?_
        refine w_bipush (v := 8) dX11_readLine_36 (by decide) ?_
        refine w_icmp_eq (tgt := 65) dX11_readLine_38 (by decide) (fun h2 => ?_) (fun h2 => ?_)
        · skip
          replace h2 : ((w : Nat) : Int) = 8 := (zeq (z_nI (by omega)) (by decide)).mp h2
          first
          | (exfalso; omega)
          | skip
            refine w_iconst (v := 1) dX11_readLine_65 (by decide) ?_
            refine w_goto (tgt := 70) dX11_readLine_66 (by decide) ?_
            refine w_iconst (v := 5) dX11_readLine_70 (by decide) ?_
            refine w_callV (as := [vI (1), vI (5)]) (st := []) (Tri.mono (d_need1 (I := I) (5)) (Nat.le_of_ble_eq_true rfl)) rfl rfl tg_X11_needs lk_X11_115 in_X11_needs se_X11_needs rfl dX11_readLine_71 rfl (Nat.le_of_ble_eq_true rfl) (Nat.le_refl _) (Nat.le_refl _) ?_
            rintro _ _ ⟨rfl, rfl⟩ -
            refine w_aload_n dX11_readLine_74 rfl ?_
            refine w_iload_n dX11_readLine_75 rfl ?_
            refine w_bipush (v := 8) dX11_readLine_76 (by decide) ?_
            refine w_icmp_ne (tgt := 88) dX11_readLine_78 (by decide) (fun h3 => ?_) (fun h3 => ?_)
            · skip
              replace h3 : ¬ (((w : Nat) : Int) = 8) := fun q => h3 ((zeq (z_nI (by omega)) (by decide)).mpr q)
              first
              | (exfalso; omega)
              | skip
                refine w_iconst (v := 1) dX11_readLine_88 (by decide) ?_
                refine w_goto (tgt := 93) dX11_readLine_89 (by decide) ?_
                refine w_iconst (v := 4) dX11_readLine_93 (by decide) ?_
                refine w_callV (as := [vI (1), vI (4)]) (st := []) (Tri.mono (d_need1 (I := I) (4)) (Nat.le_of_ble_eq_true rfl)) rfl rfl tg_X11_needs lk_X11_115 in_X11_needs se_X11_needs rfl dX11_readLine_94 rfl (Nat.le_of_ble_eq_true rfl) (Nat.le_refl _) (Nat.le_refl _) ?_
                rintro _ _ ⟨rfl, rfl⟩ -
                refine w_aload_n dX11_readLine_97 rfl ?_
                refine w_aload_n dX11_readLine_98 rfl ?_
                refine w_getI ff_X11_54 rfl rfl dX11_readLine_99 ?_
                rw [show (I 30 0 0 8 : Int32) = 0 from m8]
                refine w_if_ne (tgt := 111) dX11_readLine_102 (by decide) (fun h => absurd (by decide) h) (fun _ => ?_)
                refine w_iload_n dX11_readLine_105 rfl ?_
                refine w_bipush (v := 8) dX11_readLine_106 (by decide) ?_
                refine w_icmp_ne (tgt := 115) dX11_readLine_108 (by decide) (fun h4 => ?_) (fun h4 => ?_)
                · skip
                  replace h4 : ¬ (((w : Nat) : Int) = 8) := fun q => h4 ((zeq (z_nI (by omega)) (by decide)).mpr q)
                  first
                  | (exfalso; omega)
                  | skip
                    refine w_iconst (v := 0) dX11_readLine_115 (by decide) ?_
                    refine w_putI ff_X11_54 rfl rfl rfl rfl dX11_readLine_116 ?_
                    have hu0 : (if nJ a < 4 then (Sum.inr (so, (st, (nx, v))) : tS) else flT 5 (Sum.inr (so, (st, (nx, v))) : tS)) = (Sum.inr (so, (st, (nx, v))) : tS) := if_pos (by omega)
                    refine w_aload_n dX11_readLine_119 rfl ?_
                    refine w_callV (as := []) (st := []) (Tri.mono (d_take (I := xup I 30 0 0 8 (0)) hk (ht.y (FrY.rf.up30 (by decide))) (s := (Sum.inr (so, (st, (nx, v))) : tS)) hok (h.eqv (fun x hx => xup_slot (by omega)))) (Nat.le_of_ble_eq_true rfl)) rfl rfl tg_X11_takes lk_X11_119 in_X11_takes se_X11_takes rfl dX11_readLine_120 rfl (Nat.le_of_ble_eq_true rfl) (Nat.le_refl _) (Nat.le_refl _) ?_
                    rintro v M9 ⟨rfl, I1, rfl, t1, f1⟩ -
                    have fy : FrY I I1 := (FrY.rf.up30 (by decide)).tr f1.y
                    have hm1 : DM I1 a false := (DM.t8 hm (I' := xup I 30 0 0 8 (0)) (fun x => xup_tag (by decide)) (fun x hx => xup_slot (by omega)) (xup_self.trans (by rfl))).n f1
                    have hou : OKT n (tkT n b (Sum.inr (so, (st, (nx, v))) : tS)) := tk_ok hok
                    obtain ⟨u, hu⟩ : ∃ u, u = tkT n b (Sum.inr (so, (st, (nx, v))) : tS) := ⟨_, rfl⟩
                    rw [← hu] at t1 hou
                    have hu1 : tkT n b (if nJ a < 4 then (Sum.inr (so, (st, (nx, v))) : tS) else flT 5 (Sum.inr (so, (st, (nx, v))) : tS)) = u := by rw [hu0, hu]
                    rw [show bodyT n b w (Sum.inr (so, (st, (nx, v))) : tS) a false = _ from if_pos (by omega)]
                    unfold pLz uJ2 uJ1
                    rw [hu1]
                    rcases u with ⟨c, p⟩ | ⟨so2, st2, nx2, v2⟩
                    · skip
                      have q1 := hou.1
                      have q2 := hou.2.1
                      replace q1 : 1 ≤ c := q1
                      replace q2 : c ≤ 5 := q2
                      refine w_aload_n dX11_readLine_123 rfl ?_
                      refine w_getI ff_X11_73 rfl rfl dX11_readLine_124 ?_
                      rw [show (I1 30 0 0 15 : Int32) = nI c from t1.1]
                      refine w_if_le (tgt := 131) dX11_readLine_127 (by decide) (fun h1 => ?_) (fun h1 => ?_)
                      · skip
                        replace h1 : ((c : Nat) : Int) ≤ 0 := (zle (z_nI (by omega)) (by decide)).mp h1
                        first
                        | (exfalso; omega)
                        | skip
                          exfalso
                          omega
                      · skip
                        replace h1 : ¬ (((c : Nat) : Int) ≤ 0) := fun q => h1 ((zle (z_nI (by omega)) (by decide)).mpr q)
                        first
                        | (exfalso; omega)
                        | skip
                          exact w_return dX11_readLine_130 rfl rfl (⟨rfl, _, rfl, t1, fy, fun q z => by cases z⟩)
                    · skip
                      refine w_aload_n dX11_readLine_123 rfl ?_
                      refine w_getI ff_X11_73 rfl rfl dX11_readLine_124 ?_
                      rw [show (I1 30 0 0 15 : Int32) = 0 from t1.1]
                      refine w_if_le (tgt := 131) dX11_readLine_127 (by decide) (fun _ => ?_) (fun h => absurd (by decide) h)
                      refine w_aload_n dX11_readLine_131 rfl ?_
                      refine w_iload_n dX11_readLine_132 rfl ?_
                      refine w_callV (as := [vI (nI w)]) (st := []) (Tri.mono (d_lineJ hk (ht.y fy) hou t1 hd hm1 (by omega) (by omega)) (Nat.le_of_ble_eq_true rfl)) rfl rfl tg_X11_readLineOf lk_X11_133 in_X11_readLineOf se_X11_readLineOf rfl dX11_readLine_133 rfl (Nat.le_of_ble_eq_true rfl) (Nat.le_refl _) (Nat.le_refl _) ?_
                      rintro v M9 ⟨rfl, I2, rfl, t2, f2, m2⟩ -
                      exact l_rdEnd hk (ht.y (fy.tr f2)) (tk_ok (ch_ok (tk_ok (ch_ok hou)))) t2 (fun I3 t3 f3 => ⟨rfl, _, rfl, t3, fy.tr (f2.tr f3.y), fun q z => m2.n f3⟩)
                · skip
                  replace h4 : ((w : Nat) : Int) = 8 := (zeq (z_nI (by omega)) (by decide)).mp h4
                  first
                  | (exfalso; omega)
                  | skip
                    refine w_iconst (v := 1) dX11_readLine_111 (by decide) ?_
                    refine w_goto (tgt := 116) dX11_readLine_112 (by decide) ?_
                    refine w_putI ff_X11_54 rfl rfl rfl rfl dX11_readLine_116 ?_
                    have hu0 : (if nJ a < 4 then (Sum.inr (so, (st, (nx, v))) : tS) else flT 5 (Sum.inr (so, (st, (nx, v))) : tS)) = (Sum.inr (so, (st, (nx, v))) : tS) := if_pos (by omega)
                    refine w_aload_n dX11_readLine_119 rfl ?_
                    refine w_callV (as := []) (st := []) (Tri.mono (d_take (I := xup I 30 0 0 8 (1)) hk (ht.y (FrY.rf.up30 (by decide))) (s := (Sum.inr (so, (st, (nx, v))) : tS)) hok (h.eqv (fun x hx => xup_slot (by omega)))) (Nat.le_of_ble_eq_true rfl)) rfl rfl tg_X11_takes lk_X11_119 in_X11_takes se_X11_takes rfl dX11_readLine_120 rfl (Nat.le_of_ble_eq_true rfl) (Nat.le_refl _) (Nat.le_refl _) ?_
                    rintro v M9 ⟨rfl, I1, rfl, t1, f1⟩ -
                    have fy : FrY I I1 := (FrY.rf.up30 (by decide)).tr f1.y
                    have hm1 : DM I1 a false := (DM.t8 hm (I' := xup I 30 0 0 8 (1)) (fun x => xup_tag (by decide)) (fun x hx => xup_slot (by omega)) (xup_self.trans (by rfl))).n f1
                    have hou : OKT n (tkT n b (Sum.inr (so, (st, (nx, v))) : tS)) := tk_ok hok
                    obtain ⟨u, hu⟩ : ∃ u, u = tkT n b (Sum.inr (so, (st, (nx, v))) : tS) := ⟨_, rfl⟩
                    rw [← hu] at t1 hou
                    have hu1 : tkT n b (if nJ a < 4 then (Sum.inr (so, (st, (nx, v))) : tS) else flT 5 (Sum.inr (so, (st, (nx, v))) : tS)) = u := by rw [hu0, hu]
                    rw [show bodyT n b w (Sum.inr (so, (st, (nx, v))) : tS) a false = _ from if_pos (by omega)]
                    unfold pLz uJ2 uJ1
                    rw [hu1]
                    rcases u with ⟨c, p⟩ | ⟨so2, st2, nx2, v2⟩
                    · skip
                      have q1 := hou.1
                      have q2 := hou.2.1
                      replace q1 : 1 ≤ c := q1
                      replace q2 : c ≤ 5 := q2
                      refine w_aload_n dX11_readLine_123 rfl ?_
                      refine w_getI ff_X11_73 rfl rfl dX11_readLine_124 ?_
                      rw [show (I1 30 0 0 15 : Int32) = nI c from t1.1]
                      refine w_if_le (tgt := 131) dX11_readLine_127 (by decide) (fun h1 => ?_) (fun h1 => ?_)
                      · skip
                        replace h1 : ((c : Nat) : Int) ≤ 0 := (zle (z_nI (by omega)) (by decide)).mp h1
                        first
                        | (exfalso; omega)
                        | skip
                          exfalso
                          omega
                      · skip
                        replace h1 : ¬ (((c : Nat) : Int) ≤ 0) := fun q => h1 ((zle (z_nI (by omega)) (by decide)).mpr q)
                        first
                        | (exfalso; omega)
                        | skip
                          exact w_return dX11_readLine_130 rfl rfl (⟨rfl, _, rfl, t1, fy, fun q z => by cases z⟩)
                    · skip
                      refine w_aload_n dX11_readLine_123 rfl ?_
                      refine w_getI ff_X11_73 rfl rfl dX11_readLine_124 ?_
                      rw [show (I1 30 0 0 15 : Int32) = 0 from t1.1]
                      refine w_if_le (tgt := 131) dX11_readLine_127 (by decide) (fun _ => ?_) (fun h => absurd (by decide) h)
                      refine w_aload_n dX11_readLine_131 rfl ?_
                      refine w_iload_n dX11_readLine_132 rfl ?_
                      refine w_callV (as := [vI (nI w)]) (st := []) (Tri.mono (d_lineJ hk (ht.y fy) hou t1 hd hm1 (by omega) (by omega)) (Nat.le_of_ble_eq_true rfl)) rfl rfl tg_X11_readLineOf lk_X11_133 in_X11_readLineOf se_X11_readLineOf rfl dX11_readLine_133 rfl (Nat.le_of_ble_eq_true rfl) (Nat.le_refl _) (Nat.le_refl _) ?_
                      rintro v M9 ⟨rfl, I2, rfl, t2, f2, m2⟩ -
                      exact l_rdEnd hk (ht.y (fy.tr f2)) (tk_ok (ch_ok (tk_ok (ch_ok hou)))) t2 (fun I3 t3 f3 => ⟨rfl, _, rfl, t3, fy.tr (f2.tr f3.y), fun q z => m2.n f3⟩)
            · skip
              replace h3 : ((w : Nat) : Int) = 8 := (zeq (z_nI (by omega)) (by decide)).mp h3
              first
              | (exfalso; omega)
              | skip
                refine w_aload_n dX11_readLine_81 rfl ?_
                refine w_getI ff_X11_54 rfl rfl dX11_readLine_82 ?_
                rw [show (I 30 0 0 8 : Int32) = 0 from m8]
                refine w_if_ne (tgt := 92) dX11_readLine_85 (by decide) (fun h => absurd (by decide) h) (fun _ => ?_)
                refine w_iconst (v := 1) dX11_readLine_88 (by decide) ?_
                refine w_goto (tgt := 93) dX11_readLine_89 (by decide) ?_
                refine w_iconst (v := 4) dX11_readLine_93 (by decide) ?_
                refine w_callV (as := [vI (1), vI (4)]) (st := []) (Tri.mono (d_need1 (I := I) (4)) (Nat.le_of_ble_eq_true rfl)) rfl rfl tg_X11_needs lk_X11_115 in_X11_needs se_X11_needs rfl dX11_readLine_94 rfl (Nat.le_of_ble_eq_true rfl) (Nat.le_refl _) (Nat.le_refl _) ?_
                rintro _ _ ⟨rfl, rfl⟩ -
                refine w_aload_n dX11_readLine_97 rfl ?_
                refine w_aload_n dX11_readLine_98 rfl ?_
                refine w_getI ff_X11_54 rfl rfl dX11_readLine_99 ?_
                rw [show (I 30 0 0 8 : Int32) = 0 from m8]
                refine w_if_ne (tgt := 111) dX11_readLine_102 (by decide) (fun h => absurd (by decide) h) (fun _ => ?_)
                refine w_iload_n dX11_readLine_105 rfl ?_
                refine w_bipush (v := 8) dX11_readLine_106 (by decide) ?_
                refine w_icmp_ne (tgt := 115) dX11_readLine_108 (by decide) (fun h4 => ?_) (fun h4 => ?_)
                · skip
                  replace h4 : ¬ (((w : Nat) : Int) = 8) := fun q => h4 ((zeq (z_nI (by omega)) (by decide)).mpr q)
                  first
                  | (exfalso; omega)
                  | skip
                    refine w_iconst (v := 0) dX11_readLine_115 (by decide) ?_
                    refine w_putI ff_X11_54 rfl rfl rfl rfl dX11_readLine_116 ?_
                    have hu0 : (if nJ a < 4 then (Sum.inr (so, (st, (nx, v))) : tS) else flT 5 (Sum.inr (so, (st, (nx, v))) : tS)) = (Sum.inr (so, (st, (nx, v))) : tS) := if_pos (by omega)
                    refine w_aload_n dX11_readLine_119 rfl ?_
                    refine w_callV (as := []) (st := []) (Tri.mono (d_take (I := xup I 30 0 0 8 (0)) hk (ht.y (FrY.rf.up30 (by decide))) (s := (Sum.inr (so, (st, (nx, v))) : tS)) hok (h.eqv (fun x hx => xup_slot (by omega)))) (Nat.le_of_ble_eq_true rfl)) rfl rfl tg_X11_takes lk_X11_119 in_X11_takes se_X11_takes rfl dX11_readLine_120 rfl (Nat.le_of_ble_eq_true rfl) (Nat.le_refl _) (Nat.le_refl _) ?_
                    rintro v M9 ⟨rfl, I1, rfl, t1, f1⟩ -
                    have fy : FrY I I1 := (FrY.rf.up30 (by decide)).tr f1.y
                    have hm1 : DM I1 a false := (DM.t8 hm (I' := xup I 30 0 0 8 (0)) (fun x => xup_tag (by decide)) (fun x hx => xup_slot (by omega)) (xup_self.trans (by rfl))).n f1
                    have hou : OKT n (tkT n b (Sum.inr (so, (st, (nx, v))) : tS)) := tk_ok hok
                    obtain ⟨u, hu⟩ : ∃ u, u = tkT n b (Sum.inr (so, (st, (nx, v))) : tS) := ⟨_, rfl⟩
                    rw [← hu] at t1 hou
                    have hu1 : tkT n b (if nJ a < 4 then (Sum.inr (so, (st, (nx, v))) : tS) else flT 5 (Sum.inr (so, (st, (nx, v))) : tS)) = u := by rw [hu0, hu]
                    rw [show bodyT n b w (Sum.inr (so, (st, (nx, v))) : tS) a false = _ from if_pos (by omega)]
                    unfold pLz uJ2 uJ1
                    rw [hu1]
                    rcases u with ⟨c, p⟩ | ⟨so2, st2, nx2, v2⟩
                    · skip
                      have q1 := hou.1
                      have q2 := hou.2.1
                      replace q1 : 1 ≤ c := q1
                      replace q2 : c ≤ 5 := q2
                      refine w_aload_n dX11_readLine_123 rfl ?_
                      refine w_getI ff_X11_73 rfl rfl dX11_readLine_124 ?_
                      rw [show (I1 30 0 0 15 : Int32) = nI c from t1.1]
                      refine w_if_le (tgt := 131) dX11_readLine_127 (by decide) (fun h1 => ?_) (fun h1 => ?_)
                      · skip
                        replace h1 : ((c : Nat) : Int) ≤ 0 := (zle (z_nI (by omega)) (by decide)).mp h1
                        first
                        | (exfalso; omega)
                        | skip
                          exfalso
                          omega
                      · skip
                        replace h1 : ¬ (((c : Nat) : Int) ≤ 0) := fun q => h1 ((zle (z_nI (by omega)) (by decide)).mpr q)
                        first
                        | (exfalso; omega)
                        | skip
                          exact w_return dX11_readLine_130 rfl rfl (⟨rfl, _, rfl, t1, fy, fun q z => by cases z⟩)
                    · skip
                      refine w_aload_n dX11_readLine_123 rfl ?_
                      refine w_getI ff_X11_73 rfl rfl dX11_readLine_124 ?_
                      rw [show (I1 30 0 0 15 : Int32) = 0 from t1.1]
                      refine w_if_le (tgt := 131) dX11_readLine_127 (by decide) (fun _ => ?_) (fun h => absurd (by decide) h)
                      refine w_aload_n dX11_readLine_131 rfl ?_
                      refine w_iload_n dX11_readLine_132 rfl ?_
                      refine w_callV (as := [vI (nI w)]) (st := []) (Tri.mono (d_lineJ hk (ht.y fy) hou t1 hd hm1 (by omega) (by omega)) (Nat.le_of_ble_eq_true rfl)) rfl rfl tg_X11_readLineOf lk_X11_133 in_X11_readLineOf se_X11_readLineOf rfl dX11_readLine_133 rfl (Nat.le_of_ble_eq_true rfl) (Nat.le_refl _) (Nat.le_refl _) ?_
                      rintro v M9 ⟨rfl, I2, rfl, t2, f2, m2⟩ -
                      exact l_rdEnd hk (ht.y (fy.tr f2)) (tk_ok (ch_ok (tk_ok (ch_ok hou)))) t2 (fun I3 t3 f3 => ⟨rfl, _, rfl, t3, fy.tr (f2.tr f3.y), fun q z => m2.n f3⟩)
                · skip
                  replace h4 : ((w : Nat) : Int) = 8 := (zeq (z_nI (by omega)) (by decide)).mp h4
                  first
                  | (exfalso; omega)
                  | skip
                    refine w_iconst (v := 1) dX11_readLine_111 (by decide) ?_
                    refine w_goto (tgt := 116) dX11_readLine_112 (by decide) ?_
                    refine w_putI ff_X11_54 rfl rfl rfl rfl dX11_readLine_116 ?_
                    have hu0 : (if nJ a < 4 then (Sum.inr (so, (st, (nx, v))) : tS) else flT 5 (Sum.inr (so, (st, (nx, v))) : tS)) = (Sum.inr (so, (st, (nx, v))) : tS) := if_pos (by omega)
                    refine w_aload_n dX11_readLine_119 rfl ?_
                    refine w_callV (as := []) (st := []) (Tri.mono (d_take (I := xup I 30 0 0 8 (1)) hk (ht.y (FrY.rf.up30 (by decide))) (s := (Sum.inr (so, (st, (nx, v))) : tS)) hok (h.eqv (fun x hx => xup_slot (by omega)))) (Nat.le_of_ble_eq_true rfl)) rfl rfl tg_X11_takes lk_X11_119 in_X11_takes se_X11_takes rfl dX11_readLine_120 rfl (Nat.le_of_ble_eq_true rfl) (Nat.le_refl _) (Nat.le_refl _) ?_
                    rintro v M9 ⟨rfl, I1, rfl, t1, f1⟩ -
                    have fy : FrY I I1 := (FrY.rf.up30 (by decide)).tr f1.y
                    have hm1 : DM I1 a false := (DM.t8 hm (I' := xup I 30 0 0 8 (1)) (fun x => xup_tag (by decide)) (fun x hx => xup_slot (by omega)) (xup_self.trans (by rfl))).n f1
                    have hou : OKT n (tkT n b (Sum.inr (so, (st, (nx, v))) : tS)) := tk_ok hok
                    obtain ⟨u, hu⟩ : ∃ u, u = tkT n b (Sum.inr (so, (st, (nx, v))) : tS) := ⟨_, rfl⟩
                    rw [← hu] at t1 hou
                    have hu1 : tkT n b (if nJ a < 4 then (Sum.inr (so, (st, (nx, v))) : tS) else flT 5 (Sum.inr (so, (st, (nx, v))) : tS)) = u := by rw [hu0, hu]
                    rw [show bodyT n b w (Sum.inr (so, (st, (nx, v))) : tS) a false = _ from if_pos (by omega)]
                    unfold pLz uJ2 uJ1
                    rw [hu1]
                    rcases u with ⟨c, p⟩ | ⟨so2, st2, nx2, v2⟩
                    · skip
                      have q1 := hou.1
                      have q2 := hou.2.1
                      replace q1 : 1 ≤ c := q1
                      replace q2 : c ≤ 5 := q2
                      refine w_aload_n dX11_readLine_123 rfl ?_
                      refine w_getI ff_X11_73 rfl rfl dX11_readLine_124 ?_
                      rw [show (I1 30 0 0 15 : Int32) = nI c from t1.1]
                      refine w_if_le (tgt := 131) dX11_readLine_127 (by decide) (fun h1 => ?_) (fun h1 => ?_)
                      · skip
                        replace h1 : ((c : Nat) : Int) ≤ 0 := (zle (z_nI (by omega)) (by decide)).mp h1
                        first
                        | (exfalso; omega)
                        | skip
                          exfalso
                          omega
                      · skip
                        replace h1 : ¬ (((c : Nat) : Int) ≤ 0) := fun q => h1 ((zle (z_nI (by omega)) (by decide)).mpr q)
                        first
                        | (exfalso; omega)
                        | skip
                          exact w_return dX11_readLine_130 rfl rfl (⟨rfl, _, rfl, t1, fy, fun q z => by cases z⟩)
                    · skip
                      refine w_aload_n dX11_readLine_123 rfl ?_
                      refine w_getI ff_X11_73 rfl rfl dX11_readLine_124 ?_
                      rw [show (I1 30 0 0 15 : Int32) = 0 from t1.1]
                      refine w_if_le (tgt := 131) dX11_readLine_127 (by decide) (fun _ => ?_) (fun h => absurd (by decide) h)
                      refine w_aload_n dX11_readLine_131 rfl ?_
                      refine w_iload_n dX11_readLine_132 rfl ?_
                      refine w_callV (as := [vI (nI w)]) (st := []) (Tri.mono (d_lineJ hk (ht.y fy) hou t1 hd hm1 (by omega) (by omega)) (Nat.le_of_ble_eq_true rfl)) rfl rfl tg_X11_readLineOf lk_X11_133 in_X11_readLineOf se_X11_readLineOf rfl dX11_readLine_133 rfl (Nat.le_of_ble_eq_true rfl) (Nat.le_refl _) (Nat.le_refl _) ?_
                      rintro v M9 ⟨rfl, I2, rfl, t2, f2, m2⟩ -
                      exact l_rdEnd hk (ht.y (fy.tr f2)) (tk_ok (ch_ok (tk_ok (ch_ok hou)))) t2 (fun I3 t3 f3 => ⟨rfl, _, rfl, t3, fy.tr (f2.tr f3.y), fun q z => m2.n f3⟩)
        · skip
          replace h2 : ¬ (((w : Nat) : Int) = 8) := fun q => h2 ((zeq (z_nI (by omega)) (by decide)).mpr q)
          first
          | (exfalso; omega)
          | skip
            refine w_iload_n dX11_readLine_41 rfl ?_
            refine w_iconst (v := 4) dX11_readLine_42 (by decide) ?_
            refine w_icmp_lt (tgt := 57) dX11_readLine_43 (by decide) (fun h3 => ?_) (fun h3 => ?_)
            · skip
              replace h3 : ((w : Nat) : Int) < 4 := (zlt (z_nI (by omega)) (by decide)).mp h3
              first
              | (exfalso; omega)
              | skip
                refine w_aload_n dX11_readLine_57 rfl ?_
                refine w_getI ff_X11_47 rfl rfl dX11_readLine_58 ?_
                rw [show (I 30 0 0 6 : Int32) = nI (nJ a) from m6]
                refine w_iconst (v := 4) dX11_readLine_61 (by decide) ?_
                refine w_icmp_ge (tgt := 69) dX11_readLine_62 (by decide) (fun h4 => ?_) (fun h4 => ?_)
                · skip
                  replace h4 : 4 ≤ ((nJ a : Nat) : Int) := (zle (by decide) (z_nI (by omega))).mp h4
                  first
                  | (exfalso; omega)
                  | skip
                    refine w_iconst (v := 0) dX11_readLine_69 (by decide) ?_
                    refine w_iconst (v := 5) dX11_readLine_70 (by decide) ?_
                    refine w_callV (as := [vI (0), vI (5)]) (st := []) (Tri.mono (d_needL (I := I) h.1 h.2.2.1 (5)) (Nat.le_of_ble_eq_true rfl)) rfl rfl tg_X11_needs lk_X11_115 in_X11_needs se_X11_needs rfl dX11_readLine_71 rfl (Nat.le_of_ble_eq_true rfl) (Nat.le_refl _) (Nat.le_refl _) ?_
                    rintro _ _ ⟨rfl, rfl⟩ -
                    refine w_aload_n dX11_readLine_74 rfl ?_
                    refine w_iload_n dX11_readLine_75 rfl ?_
                    refine w_bipush (v := 8) dX11_readLine_76 (by decide) ?_
                    refine w_icmp_ne (tgt := 88) dX11_readLine_78 (by decide) (fun h5 => ?_) (fun h5 => ?_)
                    · skip
                      replace h5 : ¬ (((w : Nat) : Int) = 8) := fun q => h5 ((zeq (z_nI (by omega)) (by decide)).mpr q)
                      first
                      | (exfalso; omega)
                      | skip
                        refine w_iconst (v := 1) dX11_readLine_88 (by decide) ?_
                        refine w_goto (tgt := 93) dX11_readLine_89 (by decide) ?_
                        refine w_iconst (v := 4) dX11_readLine_93 (by decide) ?_
                        refine w_callV (as := [vI (1), vI (4)]) (st := []) (Tri.mono (d_need1 (I := xup (xup I 30 0 0 15 (5)) 30 0 0 16 (nI st)) (4)) (Nat.le_of_ble_eq_true rfl)) rfl rfl tg_X11_needs lk_X11_115 in_X11_needs se_X11_needs rfl dX11_readLine_94 rfl (Nat.le_of_ble_eq_true rfl) (Nat.le_refl _) (Nat.le_refl _) ?_
                        rintro _ _ ⟨rfl, rfl⟩ -
                        refine w_aload_n dX11_readLine_97 rfl ?_
                        refine w_aload_n dX11_readLine_98 rfl ?_
                        refine w_getI ff_X11_54 rfl rfl dX11_readLine_99 ?_
                        rw [show ((xup (xup I 30 0 0 15 (5)) 30 0 0 16 (nI st)) 30 0 0 8 : Int32) = 0 from ((xup_slot (by decide)).trans ((xup_slot (by decide)).trans m8))]
                        refine w_if_ne (tgt := 111) dX11_readLine_102 (by decide) (fun h => absurd (by decide) h) (fun _ => ?_)
                        refine w_iload_n dX11_readLine_105 rfl ?_
                        refine w_bipush (v := 8) dX11_readLine_106 (by decide) ?_
                        refine w_icmp_ne (tgt := 115) dX11_readLine_108 (by decide) (fun h6 => ?_) (fun h6 => ?_)
                        · skip
                          replace h6 : ¬ (((w : Nat) : Int) = 8) := fun q => h6 ((zeq (z_nI (by omega)) (by decide)).mpr q)
                          first
                          | (exfalso; omega)
                          | skip
                            refine w_iconst (v := 0) dX11_readLine_115 (by decide) ?_
                            refine w_putI ff_X11_54 rfl rfl rfl rfl dX11_readLine_116 ?_
                            have hu0 : (if nJ a < 4 then (Sum.inr (so, (st, (nx, v))) : tS) else flT 5 (Sum.inr (so, (st, (nx, v))) : tS)) = (Sum.inl (5, st) : tS) := if_neg (by omega)
                            refine w_aload_n dX11_readLine_119 rfl ?_
                            refine w_callV (as := []) (st := []) (Tri.mono (d_take (I := xup (xup (xup I 30 0 0 15 (5)) 30 0 0 16 (nI st)) 30 0 0 8 (0)) hk (ht.y (((FrY.rf.up30 (by decide)).up30 (by decide)).up30 (by decide))) (s := (Sum.inl (5, st) : tS)) ⟨by show 1 ≤ 5; omega, by show 5 ≤ 5; omega, g5⟩ ⟨(xup_slot (by decide)).trans ((xup_slot (by decide)).trans xup_self), (xup_slot (by decide)).trans xup_self⟩) (Nat.le_of_ble_eq_true rfl)) rfl rfl tg_X11_takes lk_X11_119 in_X11_takes se_X11_takes rfl dX11_readLine_120 rfl (Nat.le_of_ble_eq_true rfl) (Nat.le_refl _) (Nat.le_refl _) ?_
                            rintro v M9 ⟨rfl, I1, rfl, t1, f1⟩ -
                            have fy : FrY I I1 := (((FrY.rf.up30 (by decide)).up30 (by decide)).up30 (by decide)).tr f1.y
                            have hm1 : DM I1 a false := (DM.t8 hm (I' := xup (xup (xup I 30 0 0 15 (5)) 30 0 0 16 (nI st)) 30 0 0 8 (0)) (fun x => (xup_tag (by decide)).trans ((xup_tag (by decide)).trans (xup_tag (by decide)))) (fun x hx => (xup_slot (by omega)).trans ((xup_slot (by omega)).trans (xup_slot (by omega)))) (xup_self.trans (by rfl))).n f1
                            have hou : OKT n (tkT n b (Sum.inl (5, st) : tS)) := tk_ok ⟨by show 1 ≤ 5; omega, by show 5 ≤ 5; omega, g5⟩
                            obtain ⟨u, hu⟩ : ∃ u, u = tkT n b (Sum.inl (5, st) : tS) := ⟨_, rfl⟩
                            rw [← hu] at t1 hou
                            have hu1 : tkT n b (if nJ a < 4 then (Sum.inr (so, (st, (nx, v))) : tS) else flT 5 (Sum.inr (so, (st, (nx, v))) : tS)) = u := by rw [hu0, hu]
                            rw [show bodyT n b w (Sum.inr (so, (st, (nx, v))) : tS) a false = _ from if_pos (by omega)]
                            unfold pLz uJ2 uJ1
                            rw [hu1]
                            rcases u with ⟨c, p⟩ | ⟨so2, st2, nx2, v2⟩
                            · skip
                              have q1 := hou.1
                              have q2 := hou.2.1
                              replace q1 : 1 ≤ c := q1
                              replace q2 : c ≤ 5 := q2
                              refine w_aload_n dX11_readLine_123 rfl ?_
                              refine w_getI ff_X11_73 rfl rfl dX11_readLine_124 ?_
                              rw [show (I1 30 0 0 15 : Int32) = nI c from t1.1]
                              refine w_if_le (tgt := 131) dX11_readLine_127 (by decide) (fun h1 => ?_) (fun h1 => ?_)
                              · skip
                                replace h1 : ((c : Nat) : Int) ≤ 0 := (zle (z_nI (by omega)) (by decide)).mp h1
                                first
                                | (exfalso; omega)
                                | skip
                                  exfalso
                                  omega
                              · skip
                                replace h1 : ¬ (((c : Nat) : Int) ≤ 0) := fun q => h1 ((zle (z_nI (by omega)) (by decide)).mpr q)
                                first
                                | (exfalso; omega)
                                | skip
                                  exact w_return dX11_readLine_130 rfl rfl (⟨rfl, _, rfl, t1, fy, fun q z => by cases z⟩)
                            · skip
                              refine w_aload_n dX11_readLine_123 rfl ?_
                              refine w_getI ff_X11_73 rfl rfl dX11_readLine_124 ?_
                              rw [show (I1 30 0 0 15 : Int32) = 0 from t1.1]
                              refine w_if_le (tgt := 131) dX11_readLine_127 (by decide) (fun _ => ?_) (fun h => absurd (by decide) h)
                              refine w_aload_n dX11_readLine_131 rfl ?_
                              refine w_iload_n dX11_readLine_132 rfl ?_
                              cases hu
                        · skip
                          replace h6 : ((w : Nat) : Int) = 8 := (zeq (z_nI (by omega)) (by decide)).mp h6
                          first
                          | (exfalso; omega)
                          | skip
                            refine w_iconst (v := 1) dX11_readLine_111 (by decide) ?_
                            refine w_goto (tgt := 116) dX11_readLine_112 (by decide) ?_
                            refine w_putI ff_X11_54 rfl rfl rfl rfl dX11_readLine_116 ?_
                            have hu0 : (if nJ a < 4 then (Sum.inr (so, (st, (nx, v))) : tS) else flT 5 (Sum.inr (so, (st, (nx, v))) : tS)) = (Sum.inl (5, st) : tS) := if_neg (by omega)
                            refine w_aload_n dX11_readLine_119 rfl ?_
                            refine w_callV (as := []) (st := []) (Tri.mono (d_take (I := xup (xup (xup I 30 0 0 15 (5)) 30 0 0 16 (nI st)) 30 0 0 8 (1)) hk (ht.y (((FrY.rf.up30 (by decide)).up30 (by decide)).up30 (by decide))) (s := (Sum.inl (5, st) : tS)) ⟨by show 1 ≤ 5; omega, by show 5 ≤ 5; omega, g5⟩ ⟨(xup_slot (by decide)).trans ((xup_slot (by decide)).trans xup_self), (xup_slot (by decide)).trans xup_self⟩) (Nat.le_of_ble_eq_true rfl)) rfl rfl tg_X11_takes lk_X11_119 in_X11_takes se_X11_takes rfl dX11_readLine_120 rfl (Nat.le_of_ble_eq_true rfl) (Nat.le_refl _) (Nat.le_refl _) ?_
                            rintro v M9 ⟨rfl, I1, rfl, t1, f1⟩ -
                            have fy : FrY I I1 := (((FrY.rf.up30 (by decide)).up30 (by decide)).up30 (by decide)).tr f1.y
                            have hm1 : DM I1 a false := (DM.t8 hm (I' := xup (xup (xup I 30 0 0 15 (5)) 30 0 0 16 (nI st)) 30 0 0 8 (1)) (fun x => (xup_tag (by decide)).trans ((xup_tag (by decide)).trans (xup_tag (by decide)))) (fun x hx => (xup_slot (by omega)).trans ((xup_slot (by omega)).trans (xup_slot (by omega)))) (xup_self.trans (by rfl))).n f1
                            have hou : OKT n (tkT n b (Sum.inl (5, st) : tS)) := tk_ok ⟨by show 1 ≤ 5; omega, by show 5 ≤ 5; omega, g5⟩
                            obtain ⟨u, hu⟩ : ∃ u, u = tkT n b (Sum.inl (5, st) : tS) := ⟨_, rfl⟩
                            rw [← hu] at t1 hou
                            have hu1 : tkT n b (if nJ a < 4 then (Sum.inr (so, (st, (nx, v))) : tS) else flT 5 (Sum.inr (so, (st, (nx, v))) : tS)) = u := by rw [hu0, hu]
                            rw [show bodyT n b w (Sum.inr (so, (st, (nx, v))) : tS) a false = _ from if_pos (by omega)]
                            unfold pLz uJ2 uJ1
                            rw [hu1]
                            rcases u with ⟨c, p⟩ | ⟨so2, st2, nx2, v2⟩
                            · skip
                              have q1 := hou.1
                              have q2 := hou.2.1
                              replace q1 : 1 ≤ c := q1
                              replace q2 : c ≤ 5 := q2
                              refine w_aload_n dX11_readLine_123 rfl ?_
                              refine w_getI ff_X11_73 rfl rfl dX11_readLine_124 ?_
                              rw [show (I1 30 0 0 15 : Int32) = nI c from t1.1]
                              refine w_if_le (tgt := 131) dX11_readLine_127 (by decide) (fun h1 => ?_) (fun h1 => ?_)
                              · skip
                                replace h1 : ((c : Nat) : Int) ≤ 0 := (zle (z_nI (by omega)) (by decide)).mp h1
                                first
                                | (exfalso; omega)
                                | skip
                                  exfalso
                                  omega
                              · skip
                                replace h1 : ¬ (((c : Nat) : Int) ≤ 0) := fun q => h1 ((zle (z_nI (by omega)) (by decide)).mpr q)
                                first
                                | (exfalso; omega)
                                | skip
                                  exact w_return dX11_readLine_130 rfl rfl (⟨rfl, _, rfl, t1, fy, fun q z => by cases z⟩)
                            · skip
                              refine w_aload_n dX11_readLine_123 rfl ?_
                              refine w_getI ff_X11_73 rfl rfl dX11_readLine_124 ?_
                              rw [show (I1 30 0 0 15 : Int32) = 0 from t1.1]
                              refine w_if_le (tgt := 131) dX11_readLine_127 (by decide) (fun _ => ?_) (fun h => absurd (by decide) h)
                              refine w_aload_n dX11_readLine_131 rfl ?_
                              refine w_iload_n dX11_readLine_132 rfl ?_
                              cases hu
                    · skip
                      replace h5 : ((w : Nat) : Int) = 8 := (zeq (z_nI (by omega)) (by decide)).mp h5
                      first
                      | (exfalso; omega)
                      | skip
                        refine w_aload_n dX11_readLine_81 rfl ?_
                        refine w_getI ff_X11_54 rfl rfl dX11_readLine_82 ?_
                        rw [show ((xup (xup I 30 0 0 15 (5)) 30 0 0 16 (nI st)) 30 0 0 8 : Int32) = 0 from ((xup_slot (by decide)).trans ((xup_slot (by decide)).trans m8))]
                        refine w_if_ne (tgt := 92) dX11_readLine_85 (by decide) (fun h => absurd (by decide) h) (fun _ => ?_)
                        refine w_iconst (v := 1) dX11_readLine_88 (by decide) ?_
                        refine w_goto (tgt := 93) dX11_readLine_89 (by decide) ?_
                        refine w_iconst (v := 4) dX11_readLine_93 (by decide) ?_
                        refine w_callV (as := [vI (1), vI (4)]) (st := []) (Tri.mono (d_need1 (I := xup (xup I 30 0 0 15 (5)) 30 0 0 16 (nI st)) (4)) (Nat.le_of_ble_eq_true rfl)) rfl rfl tg_X11_needs lk_X11_115 in_X11_needs se_X11_needs rfl dX11_readLine_94 rfl (Nat.le_of_ble_eq_true rfl) (Nat.le_refl _) (Nat.le_refl _) ?_
                        rintro _ _ ⟨rfl, rfl⟩ -
                        refine w_aload_n dX11_readLine_97 rfl ?_
                        refine w_aload_n dX11_readLine_98 rfl ?_
                        refine w_getI ff_X11_54 rfl rfl dX11_readLine_99 ?_
                        rw [show ((xup (xup I 30 0 0 15 (5)) 30 0 0 16 (nI st)) 30 0 0 8 : Int32) = 0 from ((xup_slot (by decide)).trans ((xup_slot (by decide)).trans m8))]
                        refine w_if_ne (tgt := 111) dX11_readLine_102 (by decide) (fun h => absurd (by decide) h) (fun _ => ?_)
                        refine w_iload_n dX11_readLine_105 rfl ?_
                        refine w_bipush (v := 8) dX11_readLine_106 (by decide) ?_
                        refine w_icmp_ne (tgt := 115) dX11_readLine_108 (by decide) (fun h6 => ?_) (fun h6 => ?_)
                        · skip
                          replace h6 : ¬ (((w : Nat) : Int) = 8) := fun q => h6 ((zeq (z_nI (by omega)) (by decide)).mpr q)
                          first
                          | (exfalso; omega)
                          | skip
                            refine w_iconst (v := 0) dX11_readLine_115 (by decide) ?_
                            refine w_putI ff_X11_54 rfl rfl rfl rfl dX11_readLine_116 ?_
                            have hu0 : (if nJ a < 4 then (Sum.inr (so, (st, (nx, v))) : tS) else flT 5 (Sum.inr (so, (st, (nx, v))) : tS)) = (Sum.inl (5, st) : tS) := if_neg (by omega)
                            refine w_aload_n dX11_readLine_119 rfl ?_
                            refine w_callV (as := []) (st := []) (Tri.mono (d_take (I := xup (xup (xup I 30 0 0 15 (5)) 30 0 0 16 (nI st)) 30 0 0 8 (0)) hk (ht.y (((FrY.rf.up30 (by decide)).up30 (by decide)).up30 (by decide))) (s := (Sum.inl (5, st) : tS)) ⟨by show 1 ≤ 5; omega, by show 5 ≤ 5; omega, g5⟩ ⟨(xup_slot (by decide)).trans ((xup_slot (by decide)).trans xup_self), (xup_slot (by decide)).trans xup_self⟩) (Nat.le_of_ble_eq_true rfl)) rfl rfl tg_X11_takes lk_X11_119 in_X11_takes se_X11_takes rfl dX11_readLine_120 rfl (Nat.le_of_ble_eq_true rfl) (Nat.le_refl _) (Nat.le_refl _) ?_
                            rintro v M9 ⟨rfl, I1, rfl, t1, f1⟩ -
                            have fy : FrY I I1 := (((FrY.rf.up30 (by decide)).up30 (by decide)).up30 (by decide)).tr f1.y
                            have hm1 : DM I1 a false := (DM.t8 hm (I' := xup (xup (xup I 30 0 0 15 (5)) 30 0 0 16 (nI st)) 30 0 0 8 (0)) (fun x => (xup_tag (by decide)).trans ((xup_tag (by decide)).trans (xup_tag (by decide)))) (fun x hx => (xup_slot (by omega)).trans ((xup_slot (by omega)).trans (xup_slot (by omega)))) (xup_self.trans (by rfl))).n f1
                            have hou : OKT n (tkT n b (Sum.inl (5, st) : tS)) := tk_ok ⟨by show 1 ≤ 5; omega, by show 5 ≤ 5; omega, g5⟩
                            obtain ⟨u, hu⟩ : ∃ u, u = tkT n b (Sum.inl (5, st) : tS) := ⟨_, rfl⟩
                            rw [← hu] at t1 hou
                            have hu1 : tkT n b (if nJ a < 4 then (Sum.inr (so, (st, (nx, v))) : tS) else flT 5 (Sum.inr (so, (st, (nx, v))) : tS)) = u := by rw [hu0, hu]
                            rw [show bodyT n b w (Sum.inr (so, (st, (nx, v))) : tS) a false = _ from if_pos (by omega)]
                            unfold pLz uJ2 uJ1
                            rw [hu1]
                            rcases u with ⟨c, p⟩ | ⟨so2, st2, nx2, v2⟩
                            · skip
                              have q1 := hou.1
                              have q2 := hou.2.1
                              replace q1 : 1 ≤ c := q1
                              replace q2 : c ≤ 5 := q2
                              refine w_aload_n dX11_readLine_123 rfl ?_
                              refine w_getI ff_X11_73 rfl rfl dX11_readLine_124 ?_
                              rw [show (I1 30 0 0 15 : Int32) = nI c from t1.1]
                              refine w_if_le (tgt := 131) dX11_readLine_127 (by decide) (fun h1 => ?_) (fun h1 => ?_)
                              · skip
                                replace h1 : ((c : Nat) : Int) ≤ 0 := (zle (z_nI (by omega)) (by decide)).mp h1
                                first
                                | (exfalso; omega)
                                | skip
                                  exfalso
                                  omega
                              · skip
                                replace h1 : ¬ (((c : Nat) : Int) ≤ 0) := fun q => h1 ((zle (z_nI (by omega)) (by decide)).mpr q)
                                first
                                | (exfalso; omega)
                                | skip
                                  exact w_return dX11_readLine_130 rfl rfl (⟨rfl, _, rfl, t1, fy, fun q z => by cases z⟩)
                            · skip
                              refine w_aload_n dX11_readLine_123 rfl ?_
                              refine w_getI ff_X11_73 rfl rfl dX11_readLine_124 ?_
                              rw [show (I1 30 0 0 15 : Int32) = 0 from t1.1]
                              refine w_if_le (tgt := 131) dX11_readLine_127 (by decide) (fun _ => ?_) (fun h => absurd (by decide) h)
                              refine w_aload_n dX11_readLine_131 rfl ?_
                              refine w_iload_n dX11_readLine_132 rfl ?_
                              cases hu
                        · skip
                          replace h6 : ((w : Nat) : Int) = 8 := (zeq (z_nI (by omega)) (by decide)).mp h6
                          first
                          | (exfalso; omega)
                          | skip
                            refine w_iconst (v := 1) dX11_readLine_111 (by decide) ?_
                            refine w_goto (tgt := 116) dX11_readLine_112 (by decide) ?_
                            refine w_putI ff_X11_54 rfl rfl rfl rfl dX11_readLine_116 ?_
                            have hu0 : (if nJ a < 4 then (Sum.inr (so, (st, (nx, v))) : tS) else flT 5 (Sum.inr (so, (st, (nx, v))) : tS)) = (Sum.inl (5, st) : tS) := if_neg (by omega)
                            refine w_aload_n dX11_readLine_119 rfl ?_
                            refine w_callV (as := []) (st := []) (Tri.mono (d_take (I := xup (xup (xup I 30 0 0 15 (5)) 30 0 0 16 (nI st)) 30 0 0 8 (1)) hk (ht.y (((FrY.rf.up30 (by decide)).up30 (by decide)).up30 (by decide))) (s := (Sum.inl (5, st) : tS)) ⟨by show 1 ≤ 5; omega, by show 5 ≤ 5; omega, g5⟩ ⟨(xup_slot (by decide)).trans ((xup_slot (by decide)).trans xup_self), (xup_slot (by decide)).trans xup_self⟩) (Nat.le_of_ble_eq_true rfl)) rfl rfl tg_X11_takes lk_X11_119 in_X11_takes se_X11_takes rfl dX11_readLine_120 rfl (Nat.le_of_ble_eq_true rfl) (Nat.le_refl _) (Nat.le_refl _) ?_
                            rintro v M9 ⟨rfl, I1, rfl, t1, f1⟩ -
                            have fy : FrY I I1 := (((FrY.rf.up30 (by decide)).up30 (by decide)).up30 (by decide)).tr f1.y
                            have hm1 : DM I1 a false := (DM.t8 hm (I' := xup (xup (xup I 30 0 0 15 (5)) 30 0 0 16 (nI st)) 30 0 0 8 (1)) (fun x => (xup_tag (by decide)).trans ((xup_tag (by decide)).trans (xup_tag (by decide)))) (fun x hx => (xup_slot (by omega)).trans ((xup_slot (by omega)).trans (xup_slot (by omega)))) (xup_self.trans (by rfl))).n f1
                            have hou : OKT n (tkT n b (Sum.inl (5, st) : tS)) := tk_ok ⟨by show 1 ≤ 5; omega, by show 5 ≤ 5; omega, g5⟩
                            obtain ⟨u, hu⟩ : ∃ u, u = tkT n b (Sum.inl (5, st) : tS) := ⟨_, rfl⟩
                            rw [← hu] at t1 hou
                            have hu1 : tkT n b (if nJ a < 4 then (Sum.inr (so, (st, (nx, v))) : tS) else flT 5 (Sum.inr (so, (st, (nx, v))) : tS)) = u := by rw [hu0, hu]
                            rw [show bodyT n b w (Sum.inr (so, (st, (nx, v))) : tS) a false = _ from if_pos (by omega)]
                            unfold pLz uJ2 uJ1
                            rw [hu1]
                            rcases u with ⟨c, p⟩ | ⟨so2, st2, nx2, v2⟩
                            · skip
                              have q1 := hou.1
                              have q2 := hou.2.1
                              replace q1 : 1 ≤ c := q1
                              replace q2 : c ≤ 5 := q2
                              refine w_aload_n dX11_readLine_123 rfl ?_
                              refine w_getI ff_X11_73 rfl rfl dX11_readLine_124 ?_
                              rw [show (I1 30 0 0 15 : Int32) = nI c from t1.1]
                              refine w_if_le (tgt := 131) dX11_readLine_127 (by decide) (fun h1 => ?_) (fun h1 => ?_)
                              · skip
                                replace h1 : ((c : Nat) : Int) ≤ 0 := (zle (z_nI (by omega)) (by decide)).mp h1
                                first
                                | (exfalso; omega)
                                | skip
                                  exfalso
                                  omega
                              · skip
                                replace h1 : ¬ (((c : Nat) : Int) ≤ 0) := fun q => h1 ((zle (z_nI (by omega)) (by decide)).mpr q)
                                first
                                | (exfalso; omega)
                                | skip
                                  exact w_return dX11_readLine_130 rfl rfl (⟨rfl, _, rfl, t1, fy, fun q z => by cases z⟩)
                            · skip
                              refine w_aload_n dX11_readLine_123 rfl ?_
                              refine w_getI ff_X11_73 rfl rfl dX11_readLine_124 ?_
                              rw [show (I1 30 0 0 15 : Int32) = 0 from t1.1]
                              refine w_if_le (tgt := 131) dX11_readLine_127 (by decide) (fun _ => ?_) (fun h => absurd (by decide) h)
                              refine w_aload_n dX11_readLine_131 rfl ?_
                              refine w_iload_n dX11_readLine_132 rfl ?_
                              cases hu
                · skip
                  replace h4 : ¬ (4 ≤ ((nJ a : Nat) : Int)) := fun q => h4 ((zle (by decide) (z_nI (by omega))).mpr q)
                  first
                  | (exfalso; omega)
                  | skip
                    refine w_iconst (v := 1) dX11_readLine_65 (by decide) ?_
                    refine w_goto (tgt := 70) dX11_readLine_66 (by decide) ?_
                    refine w_iconst (v := 5) dX11_readLine_70 (by decide) ?_
                    refine w_callV (as := [vI (1), vI (5)]) (st := []) (Tri.mono (d_need1 (I := I) (5)) (Nat.le_of_ble_eq_true rfl)) rfl rfl tg_X11_needs lk_X11_115 in_X11_needs se_X11_needs rfl dX11_readLine_71 rfl (Nat.le_of_ble_eq_true rfl) (Nat.le_refl _) (Nat.le_refl _) ?_
                    rintro _ _ ⟨rfl, rfl⟩ -
                    refine w_aload_n dX11_readLine_74 rfl ?_
                    refine w_iload_n dX11_readLine_75 rfl ?_
                    refine w_bipush (v := 8) dX11_readLine_76 (by decide) ?_
                    refine w_icmp_ne (tgt := 88) dX11_readLine_78 (by decide) (fun h5 => ?_) (fun h5 => ?_)
                    · skip
                      replace h5 : ¬ (((w : Nat) : Int) = 8) := fun q => h5 ((zeq (z_nI (by omega)) (by decide)).mpr q)
                      first
                      | (exfalso; omega)
                      | skip
                        refine w_iconst (v := 1) dX11_readLine_88 (by decide) ?_
                        refine w_goto (tgt := 93) dX11_readLine_89 (by decide) ?_
                        refine w_iconst (v := 4) dX11_readLine_93 (by decide) ?_
                        refine w_callV (as := [vI (1), vI (4)]) (st := []) (Tri.mono (d_need1 (I := I) (4)) (Nat.le_of_ble_eq_true rfl)) rfl rfl tg_X11_needs lk_X11_115 in_X11_needs se_X11_needs rfl dX11_readLine_94 rfl (Nat.le_of_ble_eq_true rfl) (Nat.le_refl _) (Nat.le_refl _) ?_
                        rintro _ _ ⟨rfl, rfl⟩ -
                        refine w_aload_n dX11_readLine_97 rfl ?_
                        refine w_aload_n dX11_readLine_98 rfl ?_
                        refine w_getI ff_X11_54 rfl rfl dX11_readLine_99 ?_
                        rw [show (I 30 0 0 8 : Int32) = 0 from m8]
                        refine w_if_ne (tgt := 111) dX11_readLine_102 (by decide) (fun h => absurd (by decide) h) (fun _ => ?_)
                        refine w_iload_n dX11_readLine_105 rfl ?_
                        refine w_bipush (v := 8) dX11_readLine_106 (by decide) ?_
                        refine w_icmp_ne (tgt := 115) dX11_readLine_108 (by decide) (fun h6 => ?_) (fun h6 => ?_)
                        · skip
                          replace h6 : ¬ (((w : Nat) : Int) = 8) := fun q => h6 ((zeq (z_nI (by omega)) (by decide)).mpr q)
                          first
                          | (exfalso; omega)
                          | skip
                            refine w_iconst (v := 0) dX11_readLine_115 (by decide) ?_
                            refine w_putI ff_X11_54 rfl rfl rfl rfl dX11_readLine_116 ?_
                            have hu0 : (if nJ a < 4 then (Sum.inr (so, (st, (nx, v))) : tS) else flT 5 (Sum.inr (so, (st, (nx, v))) : tS)) = (Sum.inr (so, (st, (nx, v))) : tS) := if_pos (by omega)
                            refine w_aload_n dX11_readLine_119 rfl ?_
                            refine w_callV (as := []) (st := []) (Tri.mono (d_take (I := xup I 30 0 0 8 (0)) hk (ht.y (FrY.rf.up30 (by decide))) (s := (Sum.inr (so, (st, (nx, v))) : tS)) hok (h.eqv (fun x hx => xup_slot (by omega)))) (Nat.le_of_ble_eq_true rfl)) rfl rfl tg_X11_takes lk_X11_119 in_X11_takes se_X11_takes rfl dX11_readLine_120 rfl (Nat.le_of_ble_eq_true rfl) (Nat.le_refl _) (Nat.le_refl _) ?_
                            rintro v M9 ⟨rfl, I1, rfl, t1, f1⟩ -
                            have fy : FrY I I1 := (FrY.rf.up30 (by decide)).tr f1.y
                            have hm1 : DM I1 a false := (DM.t8 hm (I' := xup I 30 0 0 8 (0)) (fun x => xup_tag (by decide)) (fun x hx => xup_slot (by omega)) (xup_self.trans (by rfl))).n f1
                            have hou : OKT n (tkT n b (Sum.inr (so, (st, (nx, v))) : tS)) := tk_ok hok
                            obtain ⟨u, hu⟩ : ∃ u, u = tkT n b (Sum.inr (so, (st, (nx, v))) : tS) := ⟨_, rfl⟩
                            rw [← hu] at t1 hou
                            have hu1 : tkT n b (if nJ a < 4 then (Sum.inr (so, (st, (nx, v))) : tS) else flT 5 (Sum.inr (so, (st, (nx, v))) : tS)) = u := by rw [hu0, hu]
                            rw [show bodyT n b w (Sum.inr (so, (st, (nx, v))) : tS) a false = _ from if_pos (by omega)]
                            unfold pLz uJ2 uJ1
                            rw [hu1]
                            rcases u with ⟨c, p⟩ | ⟨so2, st2, nx2, v2⟩
                            · skip
                              have q1 := hou.1
                              have q2 := hou.2.1
                              replace q1 : 1 ≤ c := q1
                              replace q2 : c ≤ 5 := q2
                              refine w_aload_n dX11_readLine_123 rfl ?_
                              refine w_getI ff_X11_73 rfl rfl dX11_readLine_124 ?_
                              rw [show (I1 30 0 0 15 : Int32) = nI c from t1.1]
                              refine w_if_le (tgt := 131) dX11_readLine_127 (by decide) (fun h1 => ?_) (fun h1 => ?_)
                              · skip
                                replace h1 : ((c : Nat) : Int) ≤ 0 := (zle (z_nI (by omega)) (by decide)).mp h1
                                first
                                | (exfalso; omega)
                                | skip
                                  exfalso
                                  omega
                              · skip
                                replace h1 : ¬ (((c : Nat) : Int) ≤ 0) := fun q => h1 ((zle (z_nI (by omega)) (by decide)).mpr q)
                                first
                                | (exfalso; omega)
                                | skip
                                  exact w_return dX11_readLine_130 rfl rfl (⟨rfl, _, rfl, t1, fy, fun q z => by cases z⟩)
                            · skip
                              refine w_aload_n dX11_readLine_123 rfl ?_
                              refine w_getI ff_X11_73 rfl rfl dX11_readLine_124 ?_
                              rw [show (I1 30 0 0 15 : Int32) = 0 from t1.1]
                              refine w_if_le (tgt := 131) dX11_readLine_127 (by decide) (fun _ => ?_) (fun h => absurd (by decide) h)
                              refine w_aload_n dX11_readLine_131 rfl ?_
                              refine w_iload_n dX11_readLine_132 rfl ?_
                              refine w_callV (as := [vI (nI w)]) (st := []) (Tri.mono (d_lineJ hk (ht.y fy) hou t1 hd hm1 (by omega) (by omega)) (Nat.le_of_ble_eq_true rfl)) rfl rfl tg_X11_readLineOf lk_X11_133 in_X11_readLineOf se_X11_readLineOf rfl dX11_readLine_133 rfl (Nat.le_of_ble_eq_true rfl) (Nat.le_refl _) (Nat.le_refl _) ?_
                              rintro v M9 ⟨rfl, I2, rfl, t2, f2, m2⟩ -
                              exact l_rdEnd hk (ht.y (fy.tr f2)) (tk_ok (ch_ok (tk_ok (ch_ok hou)))) t2 (fun I3 t3 f3 => ⟨rfl, _, rfl, t3, fy.tr (f2.tr f3.y), fun q z => m2.n f3⟩)
                        · skip
                          replace h6 : ((w : Nat) : Int) = 8 := (zeq (z_nI (by omega)) (by decide)).mp h6
                          first
                          | (exfalso; omega)
                          | skip
                            refine w_iconst (v := 1) dX11_readLine_111 (by decide) ?_
                            refine w_goto (tgt := 116) dX11_readLine_112 (by decide) ?_
                            refine w_putI ff_X11_54 rfl rfl rfl rfl dX11_readLine_116 ?_
                            have hu0 : (if nJ a < 4 then (Sum.inr (so, (st, (nx, v))) : tS) else flT 5 (Sum.inr (so, (st, (nx, v))) : tS)) = (Sum.inr (so, (st, (nx, v))) : tS) := if_pos (by omega)
                            refine w_aload_n dX11_readLine_119 rfl ?_
                            refine w_callV (as := []) (st := []) (Tri.mono (d_take (I := xup I 30 0 0 8 (1)) hk (ht.y (FrY.rf.up30 (by decide))) (s := (Sum.inr (so, (st, (nx, v))) : tS)) hok (h.eqv (fun x hx => xup_slot (by omega)))) (Nat.le_of_ble_eq_true rfl)) rfl rfl tg_X11_takes lk_X11_119 in_X11_takes se_X11_takes rfl dX11_readLine_120 rfl (Nat.le_of_ble_eq_true rfl) (Nat.le_refl _) (Nat.le_refl _) ?_
                            rintro v M9 ⟨rfl, I1, rfl, t1, f1⟩ -
                            have fy : FrY I I1 := (FrY.rf.up30 (by decide)).tr f1.y
                            have hm1 : DM I1 a false := (DM.t8 hm (I' := xup I 30 0 0 8 (1)) (fun x => xup_tag (by decide)) (fun x hx => xup_slot (by omega)) (xup_self.trans (by rfl))).n f1
                            have hou : OKT n (tkT n b (Sum.inr (so, (st, (nx, v))) : tS)) := tk_ok hok
                            obtain ⟨u, hu⟩ : ∃ u, u = tkT n b (Sum.inr (so, (st, (nx, v))) : tS) := ⟨_, rfl⟩
                            rw [← hu] at t1 hou
                            have hu1 : tkT n b (if nJ a < 4 then (Sum.inr (so, (st, (nx, v))) : tS) else flT 5 (Sum.inr (so, (st, (nx, v))) : tS)) = u := by rw [hu0, hu]
                            rw [show bodyT n b w (Sum.inr (so, (st, (nx, v))) : tS) a false = _ from if_pos (by omega)]
                            unfold pLz uJ2 uJ1
                            rw [hu1]
                            rcases u with ⟨c, p⟩ | ⟨so2, st2, nx2, v2⟩
                            · skip
                              have q1 := hou.1
                              have q2 := hou.2.1
                              replace q1 : 1 ≤ c := q1
                              replace q2 : c ≤ 5 := q2
                              refine w_aload_n dX11_readLine_123 rfl ?_
                              refine w_getI ff_X11_73 rfl rfl dX11_readLine_124 ?_
                              rw [show (I1 30 0 0 15 : Int32) = nI c from t1.1]
                              refine w_if_le (tgt := 131) dX11_readLine_127 (by decide) (fun h1 => ?_) (fun h1 => ?_)
                              · skip
                                replace h1 : ((c : Nat) : Int) ≤ 0 := (zle (z_nI (by omega)) (by decide)).mp h1
                                first
                                | (exfalso; omega)
                                | skip
                                  exfalso
                                  omega
                              · skip
                                replace h1 : ¬ (((c : Nat) : Int) ≤ 0) := fun q => h1 ((zle (z_nI (by omega)) (by decide)).mpr q)
                                first
                                | (exfalso; omega)
                                | skip
                                  exact w_return dX11_readLine_130 rfl rfl (⟨rfl, _, rfl, t1, fy, fun q z => by cases z⟩)
                            · skip
                              refine w_aload_n dX11_readLine_123 rfl ?_
                              refine w_getI ff_X11_73 rfl rfl dX11_readLine_124 ?_
                              rw [show (I1 30 0 0 15 : Int32) = 0 from t1.1]
                              refine w_if_le (tgt := 131) dX11_readLine_127 (by decide) (fun _ => ?_) (fun h => absurd (by decide) h)
                              refine w_aload_n dX11_readLine_131 rfl ?_
                              refine w_iload_n dX11_readLine_132 rfl ?_
                              refine w_callV (as := [vI (nI w)]) (st := []) (Tri.mono (d_lineJ hk (ht.y fy) hou t1 hd hm1 (by omega) (by omega)) (Nat.le_of_ble_eq_true rfl)) rfl rfl tg_X11_readLineOf lk_X11_133 in_X11_readLineOf se_X11_readLineOf rfl dX11_readLine_133 rfl (Nat.le_of_ble_eq_true rfl) (Nat.le_refl _) (Nat.le_refl _) ?_
                              rintro v M9 ⟨rfl, I2, rfl, t2, f2, m2⟩ -
                              exact l_rdEnd hk (ht.y (fy.tr f2)) (tk_ok (ch_ok (tk_ok (ch_ok hou)))) t2 (fun I3 t3 f3 => ⟨rfl, _, rfl, t3, fy.tr (f2.tr f3.y), fun q z => m2.n f3⟩)
                    · skip
                      replace h5 : ((w : Nat) : Int) = 8 := (zeq (z_nI (by omega)) (by decide)).mp h5
                      first
                      | (exfalso; omega)
                      | skip
                        refine w_aload_n dX11_readLine_81 rfl ?_
                        refine w_getI ff_X11_54 rfl rfl dX11_readLine_82 ?_
                        rw [show (I 30 0 0 8 : Int32) = 0 from m8]
                        refine w_if_ne (tgt := 92) dX11_readLine_85 (by decide) (fun h => absurd (by decide) h) (fun _ => ?_)
                        refine w_iconst (v := 1) dX11_readLine_88 (by decide) ?_
                        refine w_goto (tgt := 93) dX11_readLine_89 (by decide) ?_
                        refine w_iconst (v := 4) dX11_readLine_93 (by decide) ?_
                        refine w_callV (as := [vI (1), vI (4)]) (st := []) (Tri.mono (d_need1 (I := I) (4)) (Nat.le_of_ble_eq_true rfl)) rfl rfl tg_X11_needs lk_X11_115 in_X11_needs se_X11_needs rfl dX11_readLine_94 rfl (Nat.le_of_ble_eq_true rfl) (Nat.le_refl _) (Nat.le_refl _) ?_
                        rintro _ _ ⟨rfl, rfl⟩ -
                        refine w_aload_n dX11_readLine_97 rfl ?_
                        refine w_aload_n dX11_readLine_98 rfl ?_
                        refine w_getI ff_X11_54 rfl rfl dX11_readLine_99 ?_
                        rw [show (I 30 0 0 8 : Int32) = 0 from m8]
                        refine w_if_ne (tgt := 111) dX11_readLine_102 (by decide) (fun h => absurd (by decide) h) (fun _ => ?_)
                        refine w_iload_n dX11_readLine_105 rfl ?_
                        refine w_bipush (v := 8) dX11_readLine_106 (by decide) ?_
                        refine w_icmp_ne (tgt := 115) dX11_readLine_108 (by decide) (fun h6 => ?_) (fun h6 => ?_)
                        · skip
                          replace h6 : ¬ (((w : Nat) : Int) = 8) := fun q => h6 ((zeq (z_nI (by omega)) (by decide)).mpr q)
                          first
                          | (exfalso; omega)
                          | skip
                            refine w_iconst (v := 0) dX11_readLine_115 (by decide) ?_
                            refine w_putI ff_X11_54 rfl rfl rfl rfl dX11_readLine_116 ?_
                            have hu0 : (if nJ a < 4 then (Sum.inr (so, (st, (nx, v))) : tS) else flT 5 (Sum.inr (so, (st, (nx, v))) : tS)) = (Sum.inr (so, (st, (nx, v))) : tS) := if_pos (by omega)
                            refine w_aload_n dX11_readLine_119 rfl ?_
                            refine w_callV (as := []) (st := []) (Tri.mono (d_take (I := xup I 30 0 0 8 (0)) hk (ht.y (FrY.rf.up30 (by decide))) (s := (Sum.inr (so, (st, (nx, v))) : tS)) hok (h.eqv (fun x hx => xup_slot (by omega)))) (Nat.le_of_ble_eq_true rfl)) rfl rfl tg_X11_takes lk_X11_119 in_X11_takes se_X11_takes rfl dX11_readLine_120 rfl (Nat.le_of_ble_eq_true rfl) (Nat.le_refl _) (Nat.le_refl _) ?_
                            rintro v M9 ⟨rfl, I1, rfl, t1, f1⟩ -
                            have fy : FrY I I1 := (FrY.rf.up30 (by decide)).tr f1.y
                            have hm1 : DM I1 a false := (DM.t8 hm (I' := xup I 30 0 0 8 (0)) (fun x => xup_tag (by decide)) (fun x hx => xup_slot (by omega)) (xup_self.trans (by rfl))).n f1
                            have hou : OKT n (tkT n b (Sum.inr (so, (st, (nx, v))) : tS)) := tk_ok hok
                            obtain ⟨u, hu⟩ : ∃ u, u = tkT n b (Sum.inr (so, (st, (nx, v))) : tS) := ⟨_, rfl⟩
                            rw [← hu] at t1 hou
                            have hu1 : tkT n b (if nJ a < 4 then (Sum.inr (so, (st, (nx, v))) : tS) else flT 5 (Sum.inr (so, (st, (nx, v))) : tS)) = u := by rw [hu0, hu]
                            rw [show bodyT n b w (Sum.inr (so, (st, (nx, v))) : tS) a false = _ from if_pos (by omega)]
                            unfold pLz uJ2 uJ1
                            rw [hu1]
                            rcases u with ⟨c, p⟩ | ⟨so2, st2, nx2, v2⟩
                            · skip
                              have q1 := hou.1
                              have q2 := hou.2.1
                              replace q1 : 1 ≤ c := q1
                              replace q2 : c ≤ 5 := q2
                              refine w_aload_n dX11_readLine_123 rfl ?_
                              refine w_getI ff_X11_73 rfl rfl dX11_readLine_124 ?_
                              rw [show (I1 30 0 0 15 : Int32) = nI c from t1.1]
                              refine w_if_le (tgt := 131) dX11_readLine_127 (by decide) (fun h1 => ?_) (fun h1 => ?_)
                              · skip
                                replace h1 : ((c : Nat) : Int) ≤ 0 := (zle (z_nI (by omega)) (by decide)).mp h1
                                first
                                | (exfalso; omega)
                                | skip
                                  exfalso
                                  omega
                              · skip
                                replace h1 : ¬ (((c : Nat) : Int) ≤ 0) := fun q => h1 ((zle (z_nI (by omega)) (by decide)).mpr q)
                                first
                                | (exfalso; omega)
                                | skip
                                  exact w_return dX11_readLine_130 rfl rfl (⟨rfl, _, rfl, t1, fy, fun q z => by cases z⟩)
                            · skip
                              refine w_aload_n dX11_readLine_123 rfl ?_
                              refine w_getI ff_X11_73 rfl rfl dX11_readLine_124 ?_
                              rw [show (I1 30 0 0 15 : Int32) = 0 from t1.1]
                              refine w_if_le (tgt := 131) dX11_readLine_127 (by decide) (fun _ => ?_) (fun h => absurd (by decide) h)
                              refine w_aload_n dX11_readLine_131 rfl ?_
                              refine w_iload_n dX11_readLine_132 rfl ?_
                              refine w_callV (as := [vI (nI w)]) (st := []) (Tri.mono (d_lineJ hk (ht.y fy) hou t1 hd hm1 (by omega) (by omega)) (Nat.le_of_ble_eq_true rfl)) rfl rfl tg_X11_readLineOf lk_X11_133 in_X11_readLineOf se_X11_readLineOf rfl dX11_readLine_133 rfl (Nat.le_of_ble_eq_true rfl) (Nat.le_refl _) (Nat.le_refl _) ?_
                              rintro v M9 ⟨rfl, I2, rfl, t2, f2, m2⟩ -
                              exact l_rdEnd hk (ht.y (fy.tr f2)) (tk_ok (ch_ok (tk_ok (ch_ok hou)))) t2 (fun I3 t3 f3 => ⟨rfl, _, rfl, t3, fy.tr (f2.tr f3.y), fun q z => m2.n f3⟩)
                        · skip
                          replace h6 : ((w : Nat) : Int) = 8 := (zeq (z_nI (by omega)) (by decide)).mp h6
                          first
                          | (exfalso; omega)
                          | skip
                            refine w_iconst (v := 1) dX11_readLine_111 (by decide) ?_
                            refine w_goto (tgt := 116) dX11_readLine_112 (by decide) ?_
                            refine w_putI ff_X11_54 rfl rfl rfl rfl dX11_readLine_116 ?_
                            have hu0 : (if nJ a < 4 then (Sum.inr (so, (st, (nx, v))) : tS) else flT 5 (Sum.inr (so, (st, (nx, v))) : tS)) = (Sum.inr (so, (st, (nx, v))) : tS) := if_pos (by omega)
                            refine w_aload_n dX11_readLine_119 rfl ?_
                            refine w_callV (as := []) (st := []) (Tri.mono (d_take (I := xup I 30 0 0 8 (1)) hk (ht.y (FrY.rf.up30 (by decide))) (s := (Sum.inr (so, (st, (nx, v))) : tS)) hok (h.eqv (fun x hx => xup_slot (by omega)))) (Nat.le_of_ble_eq_true rfl)) rfl rfl tg_X11_takes lk_X11_119 in_X11_takes se_X11_takes rfl dX11_readLine_120 rfl (Nat.le_of_ble_eq_true rfl) (Nat.le_refl _) (Nat.le_refl _) ?_
                            rintro v M9 ⟨rfl, I1, rfl, t1, f1⟩ -
                            have fy : FrY I I1 := (FrY.rf.up30 (by decide)).tr f1.y
                            have hm1 : DM I1 a false := (DM.t8 hm (I' := xup I 30 0 0 8 (1)) (fun x => xup_tag (by decide)) (fun x hx => xup_slot (by omega)) (xup_self.trans (by rfl))).n f1
                            have hou : OKT n (tkT n b (Sum.inr (so, (st, (nx, v))) : tS)) := tk_ok hok
                            obtain ⟨u, hu⟩ : ∃ u, u = tkT n b (Sum.inr (so, (st, (nx, v))) : tS) := ⟨_, rfl⟩
                            rw [← hu] at t1 hou
                            have hu1 : tkT n b (if nJ a < 4 then (Sum.inr (so, (st, (nx, v))) : tS) else flT 5 (Sum.inr (so, (st, (nx, v))) : tS)) = u := by rw [hu0, hu]
                            rw [show bodyT n b w (Sum.inr (so, (st, (nx, v))) : tS) a false = _ from if_pos (by omega)]
                            unfold pLz uJ2 uJ1
                            rw [hu1]
                            rcases u with ⟨c, p⟩ | ⟨so2, st2, nx2, v2⟩
                            · skip
                              have q1 := hou.1
                              have q2 := hou.2.1
                              replace q1 : 1 ≤ c := q1
                              replace q2 : c ≤ 5 := q2
                              refine w_aload_n dX11_readLine_123 rfl ?_
                              refine w_getI ff_X11_73 rfl rfl dX11_readLine_124 ?_
                              rw [show (I1 30 0 0 15 : Int32) = nI c from t1.1]
                              refine w_if_le (tgt := 131) dX11_readLine_127 (by decide) (fun h1 => ?_) (fun h1 => ?_)
                              · skip
                                replace h1 : ((c : Nat) : Int) ≤ 0 := (zle (z_nI (by omega)) (by decide)).mp h1
                                first
                                | (exfalso; omega)
                                | skip
                                  exfalso
                                  omega
                              · skip
                                replace h1 : ¬ (((c : Nat) : Int) ≤ 0) := fun q => h1 ((zle (z_nI (by omega)) (by decide)).mpr q)
                                first
                                | (exfalso; omega)
                                | skip
                                  exact w_return dX11_readLine_130 rfl rfl (⟨rfl, _, rfl, t1, fy, fun q z => by cases z⟩)
                            · skip
                              refine w_aload_n dX11_readLine_123 rfl ?_
                              refine w_getI ff_X11_73 rfl rfl dX11_readLine_124 ?_
                              rw [show (I1 30 0 0 15 : Int32) = 0 from t1.1]
                              refine w_if_le (tgt := 131) dX11_readLine_127 (by decide) (fun _ => ?_) (fun h => absurd (by decide) h)
                              refine w_aload_n dX11_readLine_131 rfl ?_
                              refine w_iload_n dX11_readLine_132 rfl ?_
                              refine w_callV (as := [vI (nI w)]) (st := []) (Tri.mono (d_lineJ hk (ht.y fy) hou t1 hd hm1 (by omega) (by omega)) (Nat.le_of_ble_eq_true rfl)) rfl rfl tg_X11_readLineOf lk_X11_133 in_X11_readLineOf se_X11_readLineOf rfl dX11_readLine_133 rfl (Nat.le_of_ble_eq_true rfl) (Nat.le_refl _) (Nat.le_refl _) ?_
                              rintro v M9 ⟨rfl, I2, rfl, t2, f2, m2⟩ -
                              exact l_rdEnd hk (ht.y (fy.tr f2)) (tk_ok (ch_ok (tk_ok (ch_ok hou)))) t2 (fun I3 t3 f3 => ⟨rfl, _, rfl, t3, fy.tr (f2.tr f3.y), fun q z => m2.n f3⟩)
            · skip
              replace h3 : ¬ (((w : Nat) : Int) < 4) := fun q => h3 ((zlt (z_nI (by omega)) (by decide)).mpr q)
              first
              | (exfalso; omega)
              | skip
                refine w_aload_n dX11_readLine_46 rfl ?_
                refine w_getI ff_X11_51 rfl rfl dX11_readLine_47 ?_
                rw [show (I 30 0 0 7 : Int32) = nI (nC a) from m7]
                refine w_iconst (v := 5) dX11_readLine_50 (by decide) ?_
                refine w_icmp_ge (tgt := 69) dX11_readLine_51 (by decide) (fun h4 => ?_) (fun h4 => ?_)
                · skip
                  replace h4 : 5 ≤ ((nC a : Nat) : Int) := (zle (by decide) (z_nI (by omega))).mp h4
                  first
                  | (exfalso; omega)
                  | skip
                    refine w_iconst (v := 0) dX11_readLine_69 (by decide) ?_
                    refine w_iconst (v := 5) dX11_readLine_70 (by decide) ?_
                    refine w_callV (as := [vI (0), vI (5)]) (st := []) (Tri.mono (d_needL (I := I) h.1 h.2.2.1 (5)) (Nat.le_of_ble_eq_true rfl)) rfl rfl tg_X11_needs lk_X11_115 in_X11_needs se_X11_needs rfl dX11_readLine_71 rfl (Nat.le_of_ble_eq_true rfl) (Nat.le_refl _) (Nat.le_refl _) ?_
                    rintro _ _ ⟨rfl, rfl⟩ -
                    refine w_aload_n dX11_readLine_74 rfl ?_
                    refine w_iload_n dX11_readLine_75 rfl ?_
                    refine w_bipush (v := 8) dX11_readLine_76 (by decide) ?_
                    refine w_icmp_ne (tgt := 88) dX11_readLine_78 (by decide) (fun h5 => ?_) (fun h5 => ?_)
                    · skip
                      replace h5 : ¬ (((w : Nat) : Int) = 8) := fun q => h5 ((zeq (z_nI (by omega)) (by decide)).mpr q)
                      first
                      | (exfalso; omega)
                      | skip
                        refine w_iconst (v := 1) dX11_readLine_88 (by decide) ?_
                        refine w_goto (tgt := 93) dX11_readLine_89 (by decide) ?_
                        refine w_iconst (v := 4) dX11_readLine_93 (by decide) ?_
                        refine w_callV (as := [vI (1), vI (4)]) (st := []) (Tri.mono (d_need1 (I := xup (xup I 30 0 0 15 (5)) 30 0 0 16 (nI st)) (4)) (Nat.le_of_ble_eq_true rfl)) rfl rfl tg_X11_needs lk_X11_115 in_X11_needs se_X11_needs rfl dX11_readLine_94 rfl (Nat.le_of_ble_eq_true rfl) (Nat.le_refl _) (Nat.le_refl _) ?_
                        rintro _ _ ⟨rfl, rfl⟩ -
                        refine w_aload_n dX11_readLine_97 rfl ?_
                        refine w_aload_n dX11_readLine_98 rfl ?_
                        refine w_getI ff_X11_54 rfl rfl dX11_readLine_99 ?_
                        rw [show ((xup (xup I 30 0 0 15 (5)) 30 0 0 16 (nI st)) 30 0 0 8 : Int32) = 0 from ((xup_slot (by decide)).trans ((xup_slot (by decide)).trans m8))]
                        refine w_if_ne (tgt := 111) dX11_readLine_102 (by decide) (fun h => absurd (by decide) h) (fun _ => ?_)
                        refine w_iload_n dX11_readLine_105 rfl ?_
                        refine w_bipush (v := 8) dX11_readLine_106 (by decide) ?_
                        refine w_icmp_ne (tgt := 115) dX11_readLine_108 (by decide) (fun h6 => ?_) (fun h6 => ?_)
                        · skip
                          replace h6 : ¬ (((w : Nat) : Int) = 8) := fun q => h6 ((zeq (z_nI (by omega)) (by decide)).mpr q)
                          first
                          | (exfalso; omega)
                          | skip
                            refine w_iconst (v := 0) dX11_readLine_115 (by decide) ?_
                            refine w_putI ff_X11_54 rfl rfl rfl rfl dX11_readLine_116 ?_
                            have hu0 : (if nJ a < 4 then (Sum.inr (so, (st, (nx, v))) : tS) else flT 5 (Sum.inr (so, (st, (nx, v))) : tS)) = (Sum.inl (5, st) : tS) := if_neg (by omega)
                            refine w_aload_n dX11_readLine_119 rfl ?_
                            refine w_callV (as := []) (st := []) (Tri.mono (d_take (I := xup (xup (xup I 30 0 0 15 (5)) 30 0 0 16 (nI st)) 30 0 0 8 (0)) hk (ht.y (((FrY.rf.up30 (by decide)).up30 (by decide)).up30 (by decide))) (s := (Sum.inl (5, st) : tS)) ⟨by show 1 ≤ 5; omega, by show 5 ≤ 5; omega, g5⟩ ⟨(xup_slot (by decide)).trans ((xup_slot (by decide)).trans xup_self), (xup_slot (by decide)).trans xup_self⟩) (Nat.le_of_ble_eq_true rfl)) rfl rfl tg_X11_takes lk_X11_119 in_X11_takes se_X11_takes rfl dX11_readLine_120 rfl (Nat.le_of_ble_eq_true rfl) (Nat.le_refl _) (Nat.le_refl _) ?_
                            rintro v M9 ⟨rfl, I1, rfl, t1, f1⟩ -
                            have fy : FrY I I1 := (((FrY.rf.up30 (by decide)).up30 (by decide)).up30 (by decide)).tr f1.y
                            have hm1 : DM I1 a false := (DM.t8 hm (I' := xup (xup (xup I 30 0 0 15 (5)) 30 0 0 16 (nI st)) 30 0 0 8 (0)) (fun x => (xup_tag (by decide)).trans ((xup_tag (by decide)).trans (xup_tag (by decide)))) (fun x hx => (xup_slot (by omega)).trans ((xup_slot (by omega)).trans (xup_slot (by omega)))) (xup_self.trans (by rfl))).n f1
                            have hou : OKT n (tkT n b (Sum.inl (5, st) : tS)) := tk_ok ⟨by show 1 ≤ 5; omega, by show 5 ≤ 5; omega, g5⟩
                            obtain ⟨u, hu⟩ : ∃ u, u = tkT n b (Sum.inl (5, st) : tS) := ⟨_, rfl⟩
                            rw [← hu] at t1 hou
                            have hu1 : tkT n b (if nJ a < 4 then (Sum.inr (so, (st, (nx, v))) : tS) else flT 5 (Sum.inr (so, (st, (nx, v))) : tS)) = u := by rw [hu0, hu]
                            rw [show bodyT n b w (Sum.inr (so, (st, (nx, v))) : tS) a false = _ from if_pos (by omega)]
                            unfold pLz uJ2 uJ1
                            rw [hu1]
                            rcases u with ⟨c, p⟩ | ⟨so2, st2, nx2, v2⟩
                            · skip
                              have q1 := hou.1
                              have q2 := hou.2.1
                              replace q1 : 1 ≤ c := q1
                              replace q2 : c ≤ 5 := q2
                              refine w_aload_n dX11_readLine_123 rfl ?_
                              refine w_getI ff_X11_73 rfl rfl dX11_readLine_124 ?_
                              rw [show (I1 30 0 0 15 : Int32) = nI c from t1.1]
                              refine w_if_le (tgt := 131) dX11_readLine_127 (by decide) (fun h1 => ?_) (fun h1 => ?_)
                              · skip
                                replace h1 : ((c : Nat) : Int) ≤ 0 := (zle (z_nI (by omega)) (by decide)).mp h1
                                first
                                | (exfalso; omega)
                                | skip
                                  exfalso
                                  omega
                              · skip
                                replace h1 : ¬ (((c : Nat) : Int) ≤ 0) := fun q => h1 ((zle (z_nI (by omega)) (by decide)).mpr q)
                                first
                                | (exfalso; omega)
                                | skip
                                  exact w_return dX11_readLine_130 rfl rfl (⟨rfl, _, rfl, t1, fy, fun q z => by cases z⟩)
                            · skip
                              refine w_aload_n dX11_readLine_123 rfl ?_
                              refine w_getI ff_X11_73 rfl rfl dX11_readLine_124 ?_
                              rw [show (I1 30 0 0 15 : Int32) = 0 from t1.1]
                              refine w_if_le (tgt := 131) dX11_readLine_127 (by decide) (fun _ => ?_) (fun h => absurd (by decide) h)
                              refine w_aload_n dX11_readLine_131 rfl ?_
                              refine w_iload_n dX11_readLine_132 rfl ?_
                              cases hu
                        · skip
                          replace h6 : ((w : Nat) : Int) = 8 := (zeq (z_nI (by omega)) (by decide)).mp h6
                          first
                          | (exfalso; omega)
                          | skip
                            refine w_iconst (v := 1) dX11_readLine_111 (by decide) ?_
                            refine w_goto (tgt := 116) dX11_readLine_112 (by decide) ?_
                            refine w_putI ff_X11_54 rfl rfl rfl rfl dX11_readLine_116 ?_
                            have hu0 : (if nJ a < 4 then (Sum.inr (so, (st, (nx, v))) : tS) else flT 5 (Sum.inr (so, (st, (nx, v))) : tS)) = (Sum.inl (5, st) : tS) := if_neg (by omega)
                            refine w_aload_n dX11_readLine_119 rfl ?_
                            refine w_callV (as := []) (st := []) (Tri.mono (d_take (I := xup (xup (xup I 30 0 0 15 (5)) 30 0 0 16 (nI st)) 30 0 0 8 (1)) hk (ht.y (((FrY.rf.up30 (by decide)).up30 (by decide)).up30 (by decide))) (s := (Sum.inl (5, st) : tS)) ⟨by show 1 ≤ 5; omega, by show 5 ≤ 5; omega, g5⟩ ⟨(xup_slot (by decide)).trans ((xup_slot (by decide)).trans xup_self), (xup_slot (by decide)).trans xup_self⟩) (Nat.le_of_ble_eq_true rfl)) rfl rfl tg_X11_takes lk_X11_119 in_X11_takes se_X11_takes rfl dX11_readLine_120 rfl (Nat.le_of_ble_eq_true rfl) (Nat.le_refl _) (Nat.le_refl _) ?_
                            rintro v M9 ⟨rfl, I1, rfl, t1, f1⟩ -
                            have fy : FrY I I1 := (((FrY.rf.up30 (by decide)).up30 (by decide)).up30 (by decide)).tr f1.y
                            have hm1 : DM I1 a false := (DM.t8 hm (I' := xup (xup (xup I 30 0 0 15 (5)) 30 0 0 16 (nI st)) 30 0 0 8 (1)) (fun x => (xup_tag (by decide)).trans ((xup_tag (by decide)).trans (xup_tag (by decide)))) (fun x hx => (xup_slot (by omega)).trans ((xup_slot (by omega)).trans (xup_slot (by omega)))) (xup_self.trans (by rfl))).n f1
                            have hou : OKT n (tkT n b (Sum.inl (5, st) : tS)) := tk_ok ⟨by show 1 ≤ 5; omega, by show 5 ≤ 5; omega, g5⟩
                            obtain ⟨u, hu⟩ : ∃ u, u = tkT n b (Sum.inl (5, st) : tS) := ⟨_, rfl⟩
                            rw [← hu] at t1 hou
                            have hu1 : tkT n b (if nJ a < 4 then (Sum.inr (so, (st, (nx, v))) : tS) else flT 5 (Sum.inr (so, (st, (nx, v))) : tS)) = u := by rw [hu0, hu]
                            rw [show bodyT n b w (Sum.inr (so, (st, (nx, v))) : tS) a false = _ from if_pos (by omega)]
                            unfold pLz uJ2 uJ1
                            rw [hu1]
                            rcases u with ⟨c, p⟩ | ⟨so2, st2, nx2, v2⟩
                            · skip
                              have q1 := hou.1
                              have q2 := hou.2.1
                              replace q1 : 1 ≤ c := q1
                              replace q2 : c ≤ 5 := q2
                              refine w_aload_n dX11_readLine_123 rfl ?_
                              refine w_getI ff_X11_73 rfl rfl dX11_readLine_124 ?_
                              rw [show (I1 30 0 0 15 : Int32) = nI c from t1.1]
                              refine w_if_le (tgt := 131) dX11_readLine_127 (by decide) (fun h1 => ?_) (fun h1 => ?_)
                              · skip
                                replace h1 : ((c : Nat) : Int) ≤ 0 := (zle (z_nI (by omega)) (by decide)).mp h1
                                first
                                | (exfalso; omega)
                                | skip
                                  exfalso
                                  omega
                              · skip
                                replace h1 : ¬ (((c : Nat) : Int) ≤ 0) := fun q => h1 ((zle (z_nI (by omega)) (by decide)).mpr q)
                                first
                                | (exfalso; omega)
                                | skip
                                  exact w_return dX11_readLine_130 rfl rfl (⟨rfl, _, rfl, t1, fy, fun q z => by cases z⟩)
                            · skip
                              refine w_aload_n dX11_readLine_123 rfl ?_
                              refine w_getI ff_X11_73 rfl rfl dX11_readLine_124 ?_
                              rw [show (I1 30 0 0 15 : Int32) = 0 from t1.1]
                              refine w_if_le (tgt := 131) dX11_readLine_127 (by decide) (fun _ => ?_) (fun h => absurd (by decide) h)
                              refine w_aload_n dX11_readLine_131 rfl ?_
                              refine w_iload_n dX11_readLine_132 rfl ?_
                              cases hu
                    · skip
                      replace h5 : ((w : Nat) : Int) = 8 := (zeq (z_nI (by omega)) (by decide)).mp h5
                      first
                      | (exfalso; omega)
                      | skip
                        refine w_aload_n dX11_readLine_81 rfl ?_
                        refine w_getI ff_X11_54 rfl rfl dX11_readLine_82 ?_
                        rw [show ((xup (xup I 30 0 0 15 (5)) 30 0 0 16 (nI st)) 30 0 0 8 : Int32) = 0 from ((xup_slot (by decide)).trans ((xup_slot (by decide)).trans m8))]
                        refine w_if_ne (tgt := 92) dX11_readLine_85 (by decide) (fun h => absurd (by decide) h) (fun _ => ?_)
                        refine w_iconst (v := 1) dX11_readLine_88 (by decide) ?_
                        refine w_goto (tgt := 93) dX11_readLine_89 (by decide) ?_
                        refine w_iconst (v := 4) dX11_readLine_93 (by decide) ?_
                        refine w_callV (as := [vI (1), vI (4)]) (st := []) (Tri.mono (d_need1 (I := xup (xup I 30 0 0 15 (5)) 30 0 0 16 (nI st)) (4)) (Nat.le_of_ble_eq_true rfl)) rfl rfl tg_X11_needs lk_X11_115 in_X11_needs se_X11_needs rfl dX11_readLine_94 rfl (Nat.le_of_ble_eq_true rfl) (Nat.le_refl _) (Nat.le_refl _) ?_
                        rintro _ _ ⟨rfl, rfl⟩ -
                        refine w_aload_n dX11_readLine_97 rfl ?_
                        refine w_aload_n dX11_readLine_98 rfl ?_
                        refine w_getI ff_X11_54 rfl rfl dX11_readLine_99 ?_
                        rw [show ((xup (xup I 30 0 0 15 (5)) 30 0 0 16 (nI st)) 30 0 0 8 : Int32) = 0 from ((xup_slot (by decide)).trans ((xup_slot (by decide)).trans m8))]
                        refine w_if_ne (tgt := 111) dX11_readLine_102 (by decide) (fun h => absurd (by decide) h) (fun _ => ?_)
                        refine w_iload_n dX11_readLine_105 rfl ?_
                        refine w_bipush (v := 8) dX11_readLine_106 (by decide) ?_
                        refine w_icmp_ne (tgt := 115) dX11_readLine_108 (by decide) (fun h6 => ?_) (fun h6 => ?_)
                        · skip
                          replace h6 : ¬ (((w : Nat) : Int) = 8) := fun q => h6 ((zeq (z_nI (by omega)) (by decide)).mpr q)
                          first
                          | (exfalso; omega)
                          | skip
                            refine w_iconst (v := 0) dX11_readLine_115 (by decide) ?_
                            refine w_putI ff_X11_54 rfl rfl rfl rfl dX11_readLine_116 ?_
                            have hu0 : (if nJ a < 4 then (Sum.inr (so, (st, (nx, v))) : tS) else flT 5 (Sum.inr (so, (st, (nx, v))) : tS)) = (Sum.inl (5, st) : tS) := if_neg (by omega)
                            refine w_aload_n dX11_readLine_119 rfl ?_
                            refine w_callV (as := []) (st := []) (Tri.mono (d_take (I := xup (xup (xup I 30 0 0 15 (5)) 30 0 0 16 (nI st)) 30 0 0 8 (0)) hk (ht.y (((FrY.rf.up30 (by decide)).up30 (by decide)).up30 (by decide))) (s := (Sum.inl (5, st) : tS)) ⟨by show 1 ≤ 5; omega, by show 5 ≤ 5; omega, g5⟩ ⟨(xup_slot (by decide)).trans ((xup_slot (by decide)).trans xup_self), (xup_slot (by decide)).trans xup_self⟩) (Nat.le_of_ble_eq_true rfl)) rfl rfl tg_X11_takes lk_X11_119 in_X11_takes se_X11_takes rfl dX11_readLine_120 rfl (Nat.le_of_ble_eq_true rfl) (Nat.le_refl _) (Nat.le_refl _) ?_
                            rintro v M9 ⟨rfl, I1, rfl, t1, f1⟩ -
                            have fy : FrY I I1 := (((FrY.rf.up30 (by decide)).up30 (by decide)).up30 (by decide)).tr f1.y
                            have hm1 : DM I1 a false := (DM.t8 hm (I' := xup (xup (xup I 30 0 0 15 (5)) 30 0 0 16 (nI st)) 30 0 0 8 (0)) (fun x => (xup_tag (by decide)).trans ((xup_tag (by decide)).trans (xup_tag (by decide)))) (fun x hx => (xup_slot (by omega)).trans ((xup_slot (by omega)).trans (xup_slot (by omega)))) (xup_self.trans (by rfl))).n f1
                            have hou : OKT n (tkT n b (Sum.inl (5, st) : tS)) := tk_ok ⟨by show 1 ≤ 5; omega, by show 5 ≤ 5; omega, g5⟩
                            obtain ⟨u, hu⟩ : ∃ u, u = tkT n b (Sum.inl (5, st) : tS) := ⟨_, rfl⟩
                            rw [← hu] at t1 hou
                            have hu1 : tkT n b (if nJ a < 4 then (Sum.inr (so, (st, (nx, v))) : tS) else flT 5 (Sum.inr (so, (st, (nx, v))) : tS)) = u := by rw [hu0, hu]
                            rw [show bodyT n b w (Sum.inr (so, (st, (nx, v))) : tS) a false = _ from if_pos (by omega)]
                            unfold pLz uJ2 uJ1
                            rw [hu1]
                            rcases u with ⟨c, p⟩ | ⟨so2, st2, nx2, v2⟩
                            · skip
                              have q1 := hou.1
                              have q2 := hou.2.1
                              replace q1 : 1 ≤ c := q1
                              replace q2 : c ≤ 5 := q2
                              refine w_aload_n dX11_readLine_123 rfl ?_
                              refine w_getI ff_X11_73 rfl rfl dX11_readLine_124 ?_
                              rw [show (I1 30 0 0 15 : Int32) = nI c from t1.1]
                              refine w_if_le (tgt := 131) dX11_readLine_127 (by decide) (fun h1 => ?_) (fun h1 => ?_)
                              · skip
                                replace h1 : ((c : Nat) : Int) ≤ 0 := (zle (z_nI (by omega)) (by decide)).mp h1
                                first
                                | (exfalso; omega)
                                | skip
                                  exfalso
                                  omega
                              · skip
                                replace h1 : ¬ (((c : Nat) : Int) ≤ 0) := fun q => h1 ((zle (z_nI (by omega)) (by decide)).mpr q)
                                first
                                | (exfalso; omega)
                                | skip
                                  exact w_return dX11_readLine_130 rfl rfl (⟨rfl, _, rfl, t1, fy, fun q z => by cases z⟩)
                            · skip
                              refine w_aload_n dX11_readLine_123 rfl ?_
                              refine w_getI ff_X11_73 rfl rfl dX11_readLine_124 ?_
                              rw [show (I1 30 0 0 15 : Int32) = 0 from t1.1]
                              refine w_if_le (tgt := 131) dX11_readLine_127 (by decide) (fun _ => ?_) (fun h => absurd (by decide) h)
                              refine w_aload_n dX11_readLine_131 rfl ?_
                              refine w_iload_n dX11_readLine_132 rfl ?_
                              cases hu
                        · skip
                          replace h6 : ((w : Nat) : Int) = 8 := (zeq (z_nI (by omega)) (by decide)).mp h6
                          first
                          | (exfalso; omega)
                          | skip
                            refine w_iconst (v := 1) dX11_readLine_111 (by decide) ?_
                            refine w_goto (tgt := 116) dX11_readLine_112 (by decide) ?_
                            refine w_putI ff_X11_54 rfl rfl rfl rfl dX11_readLine_116 ?_
                            have hu0 : (if nJ a < 4 then (Sum.inr (so, (st, (nx, v))) : tS) else flT 5 (Sum.inr (so, (st, (nx, v))) : tS)) = (Sum.inl (5, st) : tS) := if_neg (by omega)
                            refine w_aload_n dX11_readLine_119 rfl ?_
                            refine w_callV (as := []) (st := []) (Tri.mono (d_take (I := xup (xup (xup I 30 0 0 15 (5)) 30 0 0 16 (nI st)) 30 0 0 8 (1)) hk (ht.y (((FrY.rf.up30 (by decide)).up30 (by decide)).up30 (by decide))) (s := (Sum.inl (5, st) : tS)) ⟨by show 1 ≤ 5; omega, by show 5 ≤ 5; omega, g5⟩ ⟨(xup_slot (by decide)).trans ((xup_slot (by decide)).trans xup_self), (xup_slot (by decide)).trans xup_self⟩) (Nat.le_of_ble_eq_true rfl)) rfl rfl tg_X11_takes lk_X11_119 in_X11_takes se_X11_takes rfl dX11_readLine_120 rfl (Nat.le_of_ble_eq_true rfl) (Nat.le_refl _) (Nat.le_refl _) ?_
                            rintro v M9 ⟨rfl, I1, rfl, t1, f1⟩ -
                            have fy : FrY I I1 := (((FrY.rf.up30 (by decide)).up30 (by decide)).up30 (by decide)).tr f1.y
                            have hm1 : DM I1 a false := (DM.t8 hm (I' := xup (xup (xup I 30 0 0 15 (5)) 30 0 0 16 (nI st)) 30 0 0 8 (1)) (fun x => (xup_tag (by decide)).trans ((xup_tag (by decide)).trans (xup_tag (by decide)))) (fun x hx => (xup_slot (by omega)).trans ((xup_slot (by omega)).trans (xup_slot (by omega)))) (xup_self.trans (by rfl))).n f1
                            have hou : OKT n (tkT n b (Sum.inl (5, st) : tS)) := tk_ok ⟨by show 1 ≤ 5; omega, by show 5 ≤ 5; omega, g5⟩
                            obtain ⟨u, hu⟩ : ∃ u, u = tkT n b (Sum.inl (5, st) : tS) := ⟨_, rfl⟩
                            rw [← hu] at t1 hou
                            have hu1 : tkT n b (if nJ a < 4 then (Sum.inr (so, (st, (nx, v))) : tS) else flT 5 (Sum.inr (so, (st, (nx, v))) : tS)) = u := by rw [hu0, hu]
                            rw [show bodyT n b w (Sum.inr (so, (st, (nx, v))) : tS) a false = _ from if_pos (by omega)]
                            unfold pLz uJ2 uJ1
                            rw [hu1]
                            rcases u with ⟨c, p⟩ | ⟨so2, st2, nx2, v2⟩
                            · skip
                              have q1 := hou.1
                              have q2 := hou.2.1
                              replace q1 : 1 ≤ c := q1
                              replace q2 : c ≤ 5 := q2
                              refine w_aload_n dX11_readLine_123 rfl ?_
                              refine w_getI ff_X11_73 rfl rfl dX11_readLine_124 ?_
                              rw [show (I1 30 0 0 15 : Int32) = nI c from t1.1]
                              refine w_if_le (tgt := 131) dX11_readLine_127 (by decide) (fun h1 => ?_) (fun h1 => ?_)
                              · skip
                                replace h1 : ((c : Nat) : Int) ≤ 0 := (zle (z_nI (by omega)) (by decide)).mp h1
                                first
                                | (exfalso; omega)
                                | skip
                                  exfalso
                                  omega
                              · skip
                                replace h1 : ¬ (((c : Nat) : Int) ≤ 0) := fun q => h1 ((zle (z_nI (by omega)) (by decide)).mpr q)
                                first
                                | (exfalso; omega)
                                | skip
                                  exact w_return dX11_readLine_130 rfl rfl (⟨rfl, _, rfl, t1, fy, fun q z => by cases z⟩)
                            · skip
                              refine w_aload_n dX11_readLine_123 rfl ?_
                              refine w_getI ff_X11_73 rfl rfl dX11_readLine_124 ?_
                              rw [show (I1 30 0 0 15 : Int32) = 0 from t1.1]
                              refine w_if_le (tgt := 131) dX11_readLine_127 (by decide) (fun _ => ?_) (fun h => absurd (by decide) h)
                              refine w_aload_n dX11_readLine_131 rfl ?_
                              refine w_iload_n dX11_readLine_132 rfl ?_
                              cases hu
                · skip
                  replace h4 : ¬ (5 ≤ ((nC a : Nat) : Int)) := fun q => h4 ((zle (by decide) (z_nI (by omega))).mpr q)
                  first
                  | (exfalso; omega)
                  | skip
                    refine w_goto (tgt := 65) dX11_readLine_54 (by decide) ?_
                    refine w_iconst (v := 1) dX11_readLine_65 (by decide) ?_
                    refine w_goto (tgt := 70) dX11_readLine_66 (by decide) ?_
                    refine w_iconst (v := 5) dX11_readLine_70 (by decide) ?_
                    refine w_callV (as := [vI (1), vI (5)]) (st := []) (Tri.mono (d_need1 (I := I) (5)) (Nat.le_of_ble_eq_true rfl)) rfl rfl tg_X11_needs lk_X11_115 in_X11_needs se_X11_needs rfl dX11_readLine_71 rfl (Nat.le_of_ble_eq_true rfl) (Nat.le_refl _) (Nat.le_refl _) ?_
                    rintro _ _ ⟨rfl, rfl⟩ -
                    refine w_aload_n dX11_readLine_74 rfl ?_
                    refine w_iload_n dX11_readLine_75 rfl ?_
                    refine w_bipush (v := 8) dX11_readLine_76 (by decide) ?_
                    refine w_icmp_ne (tgt := 88) dX11_readLine_78 (by decide) (fun h5 => ?_) (fun h5 => ?_)
                    · skip
                      replace h5 : ¬ (((w : Nat) : Int) = 8) := fun q => h5 ((zeq (z_nI (by omega)) (by decide)).mpr q)
                      first
                      | (exfalso; omega)
                      | skip
                        refine w_iconst (v := 1) dX11_readLine_88 (by decide) ?_
                        refine w_goto (tgt := 93) dX11_readLine_89 (by decide) ?_
                        refine w_iconst (v := 4) dX11_readLine_93 (by decide) ?_
                        refine w_callV (as := [vI (1), vI (4)]) (st := []) (Tri.mono (d_need1 (I := I) (4)) (Nat.le_of_ble_eq_true rfl)) rfl rfl tg_X11_needs lk_X11_115 in_X11_needs se_X11_needs rfl dX11_readLine_94 rfl (Nat.le_of_ble_eq_true rfl) (Nat.le_refl _) (Nat.le_refl _) ?_
                        rintro _ _ ⟨rfl, rfl⟩ -
                        refine w_aload_n dX11_readLine_97 rfl ?_
                        refine w_aload_n dX11_readLine_98 rfl ?_
                        refine w_getI ff_X11_54 rfl rfl dX11_readLine_99 ?_
                        rw [show (I 30 0 0 8 : Int32) = 0 from m8]
                        refine w_if_ne (tgt := 111) dX11_readLine_102 (by decide) (fun h => absurd (by decide) h) (fun _ => ?_)
                        refine w_iload_n dX11_readLine_105 rfl ?_
                        refine w_bipush (v := 8) dX11_readLine_106 (by decide) ?_
                        refine w_icmp_ne (tgt := 115) dX11_readLine_108 (by decide) (fun h6 => ?_) (fun h6 => ?_)
                        · skip
                          replace h6 : ¬ (((w : Nat) : Int) = 8) := fun q => h6 ((zeq (z_nI (by omega)) (by decide)).mpr q)
                          first
                          | (exfalso; omega)
                          | skip
                            refine w_iconst (v := 0) dX11_readLine_115 (by decide) ?_
                            refine w_putI ff_X11_54 rfl rfl rfl rfl dX11_readLine_116 ?_
                            have hu0 : (if nJ a < 4 then (Sum.inr (so, (st, (nx, v))) : tS) else flT 5 (Sum.inr (so, (st, (nx, v))) : tS)) = (Sum.inr (so, (st, (nx, v))) : tS) := if_pos (by omega)
                            refine w_aload_n dX11_readLine_119 rfl ?_
                            refine w_callV (as := []) (st := []) (Tri.mono (d_take (I := xup I 30 0 0 8 (0)) hk (ht.y (FrY.rf.up30 (by decide))) (s := (Sum.inr (so, (st, (nx, v))) : tS)) hok (h.eqv (fun x hx => xup_slot (by omega)))) (Nat.le_of_ble_eq_true rfl)) rfl rfl tg_X11_takes lk_X11_119 in_X11_takes se_X11_takes rfl dX11_readLine_120 rfl (Nat.le_of_ble_eq_true rfl) (Nat.le_refl _) (Nat.le_refl _) ?_
                            rintro v M9 ⟨rfl, I1, rfl, t1, f1⟩ -
                            have fy : FrY I I1 := (FrY.rf.up30 (by decide)).tr f1.y
                            have hm1 : DM I1 a false := (DM.t8 hm (I' := xup I 30 0 0 8 (0)) (fun x => xup_tag (by decide)) (fun x hx => xup_slot (by omega)) (xup_self.trans (by rfl))).n f1
                            have hou : OKT n (tkT n b (Sum.inr (so, (st, (nx, v))) : tS)) := tk_ok hok
                            obtain ⟨u, hu⟩ : ∃ u, u = tkT n b (Sum.inr (so, (st, (nx, v))) : tS) := ⟨_, rfl⟩
                            rw [← hu] at t1 hou
                            have hu1 : tkT n b (if nJ a < 4 then (Sum.inr (so, (st, (nx, v))) : tS) else flT 5 (Sum.inr (so, (st, (nx, v))) : tS)) = u := by rw [hu0, hu]
                            rw [show bodyT n b w (Sum.inr (so, (st, (nx, v))) : tS) a false = _ from if_pos (by omega)]
                            unfold pLz uJ2 uJ1
                            rw [hu1]
                            rcases u with ⟨c, p⟩ | ⟨so2, st2, nx2, v2⟩
                            · skip
                              have q1 := hou.1
                              have q2 := hou.2.1
                              replace q1 : 1 ≤ c := q1
                              replace q2 : c ≤ 5 := q2
                              refine w_aload_n dX11_readLine_123 rfl ?_
                              refine w_getI ff_X11_73 rfl rfl dX11_readLine_124 ?_
                              rw [show (I1 30 0 0 15 : Int32) = nI c from t1.1]
                              refine w_if_le (tgt := 131) dX11_readLine_127 (by decide) (fun h1 => ?_) (fun h1 => ?_)
                              · skip
                                replace h1 : ((c : Nat) : Int) ≤ 0 := (zle (z_nI (by omega)) (by decide)).mp h1
                                first
                                | (exfalso; omega)
                                | skip
                                  exfalso
                                  omega
                              · skip
                                replace h1 : ¬ (((c : Nat) : Int) ≤ 0) := fun q => h1 ((zle (z_nI (by omega)) (by decide)).mpr q)
                                first
                                | (exfalso; omega)
                                | skip
                                  exact w_return dX11_readLine_130 rfl rfl (⟨rfl, _, rfl, t1, fy, fun q z => by cases z⟩)
                            · skip
                              refine w_aload_n dX11_readLine_123 rfl ?_
                              refine w_getI ff_X11_73 rfl rfl dX11_readLine_124 ?_
                              rw [show (I1 30 0 0 15 : Int32) = 0 from t1.1]
                              refine w_if_le (tgt := 131) dX11_readLine_127 (by decide) (fun _ => ?_) (fun h => absurd (by decide) h)
                              refine w_aload_n dX11_readLine_131 rfl ?_
                              refine w_iload_n dX11_readLine_132 rfl ?_
                              refine w_callV (as := [vI (nI w)]) (st := []) (Tri.mono (d_lineJ hk (ht.y fy) hou t1 hd hm1 (by omega) (by omega)) (Nat.le_of_ble_eq_true rfl)) rfl rfl tg_X11_readLineOf lk_X11_133 in_X11_readLineOf se_X11_readLineOf rfl dX11_readLine_133 rfl (Nat.le_of_ble_eq_true rfl) (Nat.le_refl _) (Nat.le_refl _) ?_
                              rintro v M9 ⟨rfl, I2, rfl, t2, f2, m2⟩ -
                              exact l_rdEnd hk (ht.y (fy.tr f2)) (tk_ok (ch_ok (tk_ok (ch_ok hou)))) t2 (fun I3 t3 f3 => ⟨rfl, _, rfl, t3, fy.tr (f2.tr f3.y), fun q z => m2.n f3⟩)
                        · skip
                          replace h6 : ((w : Nat) : Int) = 8 := (zeq (z_nI (by omega)) (by decide)).mp h6
                          first
                          | (exfalso; omega)
                          | skip
                            refine w_iconst (v := 1) dX11_readLine_111 (by decide) ?_
                            refine w_goto (tgt := 116) dX11_readLine_112 (by decide) ?_
                            refine w_putI ff_X11_54 rfl rfl rfl rfl dX11_readLine_116 ?_
                            have hu0 : (if nJ a < 4 then (Sum.inr (so, (st, (nx, v))) : tS) else flT 5 (Sum.inr (so, (st, (nx, v))) : tS)) = (Sum.inr (so, (st, (nx, v))) : tS) := if_pos (by omega)
                            refine w_aload_n dX11_readLine_119 rfl ?_
                            refine w_callV (as := []) (st := []) (Tri.mono (d_take (I := xup I 30 0 0 8 (1)) hk (ht.y (FrY.rf.up30 (by decide))) (s := (Sum.inr (so, (st, (nx, v))) : tS)) hok (h.eqv (fun x hx => xup_slot (by omega)))) (Nat.le_of_ble_eq_true rfl)) rfl rfl tg_X11_takes lk_X11_119 in_X11_takes se_X11_takes rfl dX11_readLine_120 rfl (Nat.le_of_ble_eq_true rfl) (Nat.le_refl _) (Nat.le_refl _) ?_
                            rintro v M9 ⟨rfl, I1, rfl, t1, f1⟩ -
                            have fy : FrY I I1 := (FrY.rf.up30 (by decide)).tr f1.y
                            have hm1 : DM I1 a false := (DM.t8 hm (I' := xup I 30 0 0 8 (1)) (fun x => xup_tag (by decide)) (fun x hx => xup_slot (by omega)) (xup_self.trans (by rfl))).n f1
                            have hou : OKT n (tkT n b (Sum.inr (so, (st, (nx, v))) : tS)) := tk_ok hok
                            obtain ⟨u, hu⟩ : ∃ u, u = tkT n b (Sum.inr (so, (st, (nx, v))) : tS) := ⟨_, rfl⟩
                            rw [← hu] at t1 hou
                            have hu1 : tkT n b (if nJ a < 4 then (Sum.inr (so, (st, (nx, v))) : tS) else flT 5 (Sum.inr (so, (st, (nx, v))) : tS)) = u := by rw [hu0, hu]
                            rw [show bodyT n b w (Sum.inr (so, (st, (nx, v))) : tS) a false = _ from if_pos (by omega)]
                            unfold pLz uJ2 uJ1
                            rw [hu1]
                            rcases u with ⟨c, p⟩ | ⟨so2, st2, nx2, v2⟩
                            · skip
                              have q1 := hou.1
                              have q2 := hou.2.1
                              replace q1 : 1 ≤ c := q1
                              replace q2 : c ≤ 5 := q2
                              refine w_aload_n dX11_readLine_123 rfl ?_
                              refine w_getI ff_X11_73 rfl rfl dX11_readLine_124 ?_
                              rw [show (I1 30 0 0 15 : Int32) = nI c from t1.1]
                              refine w_if_le (tgt := 131) dX11_readLine_127 (by decide) (fun h1 => ?_) (fun h1 => ?_)
                              · skip
                                replace h1 : ((c : Nat) : Int) ≤ 0 := (zle (z_nI (by omega)) (by decide)).mp h1
                                first
                                | (exfalso; omega)
                                | skip
                                  exfalso
                                  omega
                              · skip
                                replace h1 : ¬ (((c : Nat) : Int) ≤ 0) := fun q => h1 ((zle (z_nI (by omega)) (by decide)).mpr q)
                                first
                                | (exfalso; omega)
                                | skip
                                  exact w_return dX11_readLine_130 rfl rfl (⟨rfl, _, rfl, t1, fy, fun q z => by cases z⟩)
                            · skip
                              refine w_aload_n dX11_readLine_123 rfl ?_
                              refine w_getI ff_X11_73 rfl rfl dX11_readLine_124 ?_
                              rw [show (I1 30 0 0 15 : Int32) = 0 from t1.1]
                              refine w_if_le (tgt := 131) dX11_readLine_127 (by decide) (fun _ => ?_) (fun h => absurd (by decide) h)
                              refine w_aload_n dX11_readLine_131 rfl ?_
                              refine w_iload_n dX11_readLine_132 rfl ?_
                              refine w_callV (as := [vI (nI w)]) (st := []) (Tri.mono (d_lineJ hk (ht.y fy) hou t1 hd hm1 (by omega) (by omega)) (Nat.le_of_ble_eq_true rfl)) rfl rfl tg_X11_readLineOf lk_X11_133 in_X11_readLineOf se_X11_readLineOf rfl dX11_readLine_133 rfl (Nat.le_of_ble_eq_true rfl) (Nat.le_refl _) (Nat.le_refl _) ?_
                              rintro v M9 ⟨rfl, I2, rfl, t2, f2, m2⟩ -
                              exact l_rdEnd hk (ht.y (fy.tr f2)) (tk_ok (ch_ok (tk_ok (ch_ok hou)))) t2 (fun I3 t3 f3 => ⟨rfl, _, rfl, t3, fy.tr (f2.tr f3.y), fun q z => m2.n f3⟩)
                    · skip
                      replace h5 : ((w : Nat) : Int) = 8 := (zeq (z_nI (by omega)) (by decide)).mp h5
                      first
                      | (exfalso; omega)
                      | skip
                        refine w_aload_n dX11_readLine_81 rfl ?_
                        refine w_getI ff_X11_54 rfl rfl dX11_readLine_82 ?_
                        rw [show (I 30 0 0 8 : Int32) = 0 from m8]
                        refine w_if_ne (tgt := 92) dX11_readLine_85 (by decide) (fun h => absurd (by decide) h) (fun _ => ?_)
                        refine w_iconst (v := 1) dX11_readLine_88 (by decide) ?_
                        refine w_goto (tgt := 93) dX11_readLine_89 (by decide) ?_
                        refine w_iconst (v := 4) dX11_readLine_93 (by decide) ?_
                        refine w_callV (as := [vI (1), vI (4)]) (st := []) (Tri.mono (d_need1 (I := I) (4)) (Nat.le_of_ble_eq_true rfl)) rfl rfl tg_X11_needs lk_X11_115 in_X11_needs se_X11_needs rfl dX11_readLine_94 rfl (Nat.le_of_ble_eq_true rfl) (Nat.le_refl _) (Nat.le_refl _) ?_
                        rintro _ _ ⟨rfl, rfl⟩ -
                        refine w_aload_n dX11_readLine_97 rfl ?_
                        refine w_aload_n dX11_readLine_98 rfl ?_
                        refine w_getI ff_X11_54 rfl rfl dX11_readLine_99 ?_
                        rw [show (I 30 0 0 8 : Int32) = 0 from m8]
                        refine w_if_ne (tgt := 111) dX11_readLine_102 (by decide) (fun h => absurd (by decide) h) (fun _ => ?_)
                        refine w_iload_n dX11_readLine_105 rfl ?_
                        refine w_bipush (v := 8) dX11_readLine_106 (by decide) ?_
                        refine w_icmp_ne (tgt := 115) dX11_readLine_108 (by decide) (fun h6 => ?_) (fun h6 => ?_)
                        · skip
                          replace h6 : ¬ (((w : Nat) : Int) = 8) := fun q => h6 ((zeq (z_nI (by omega)) (by decide)).mpr q)
                          first
                          | (exfalso; omega)
                          | skip
                            refine w_iconst (v := 0) dX11_readLine_115 (by decide) ?_
                            refine w_putI ff_X11_54 rfl rfl rfl rfl dX11_readLine_116 ?_
                            have hu0 : (if nJ a < 4 then (Sum.inr (so, (st, (nx, v))) : tS) else flT 5 (Sum.inr (so, (st, (nx, v))) : tS)) = (Sum.inr (so, (st, (nx, v))) : tS) := if_pos (by omega)
                            refine w_aload_n dX11_readLine_119 rfl ?_
                            refine w_callV (as := []) (st := []) (Tri.mono (d_take (I := xup I 30 0 0 8 (0)) hk (ht.y (FrY.rf.up30 (by decide))) (s := (Sum.inr (so, (st, (nx, v))) : tS)) hok (h.eqv (fun x hx => xup_slot (by omega)))) (Nat.le_of_ble_eq_true rfl)) rfl rfl tg_X11_takes lk_X11_119 in_X11_takes se_X11_takes rfl dX11_readLine_120 rfl (Nat.le_of_ble_eq_true rfl) (Nat.le_refl _) (Nat.le_refl _) ?_
                            rintro v M9 ⟨rfl, I1, rfl, t1, f1⟩ -
                            have fy : FrY I I1 := (FrY.rf.up30 (by decide)).tr f1.y
                            have hm1 : DM I1 a false := (DM.t8 hm (I' := xup I 30 0 0 8 (0)) (fun x => xup_tag (by decide)) (fun x hx => xup_slot (by omega)) (xup_self.trans (by rfl))).n f1
                            have hou : OKT n (tkT n b (Sum.inr (so, (st, (nx, v))) : tS)) := tk_ok hok
                            obtain ⟨u, hu⟩ : ∃ u, u = tkT n b (Sum.inr (so, (st, (nx, v))) : tS) := ⟨_, rfl⟩
                            rw [← hu] at t1 hou
                            have hu1 : tkT n b (if nJ a < 4 then (Sum.inr (so, (st, (nx, v))) : tS) else flT 5 (Sum.inr (so, (st, (nx, v))) : tS)) = u := by rw [hu0, hu]
                            rw [show bodyT n b w (Sum.inr (so, (st, (nx, v))) : tS) a false = _ from if_pos (by omega)]
                            unfold pLz uJ2 uJ1
                            rw [hu1]
                            rcases u with ⟨c, p⟩ | ⟨so2, st2, nx2, v2⟩
                            · skip
                              have q1 := hou.1
                              have q2 := hou.2.1
                              replace q1 : 1 ≤ c := q1
                              replace q2 : c ≤ 5 := q2
                              refine w_aload_n dX11_readLine_123 rfl ?_
                              refine w_getI ff_X11_73 rfl rfl dX11_readLine_124 ?_
                              rw [show (I1 30 0 0 15 : Int32) = nI c from t1.1]
                              refine w_if_le (tgt := 131) dX11_readLine_127 (by decide) (fun h1 => ?_) (fun h1 => ?_)
                              · skip
                                replace h1 : ((c : Nat) : Int) ≤ 0 := (zle (z_nI (by omega)) (by decide)).mp h1
                                first
                                | (exfalso; omega)
                                | skip
                                  exfalso
                                  omega
                              · skip
                                replace h1 : ¬ (((c : Nat) : Int) ≤ 0) := fun q => h1 ((zle (z_nI (by omega)) (by decide)).mpr q)
                                first
                                | (exfalso; omega)
                                | skip
                                  exact w_return dX11_readLine_130 rfl rfl (⟨rfl, _, rfl, t1, fy, fun q z => by cases z⟩)
                            · skip
                              refine w_aload_n dX11_readLine_123 rfl ?_
                              refine w_getI ff_X11_73 rfl rfl dX11_readLine_124 ?_
                              rw [show (I1 30 0 0 15 : Int32) = 0 from t1.1]
                              refine w_if_le (tgt := 131) dX11_readLine_127 (by decide) (fun _ => ?_) (fun h => absurd (by decide) h)
                              refine w_aload_n dX11_readLine_131 rfl ?_
                              refine w_iload_n dX11_readLine_132 rfl ?_
                              refine w_callV (as := [vI (nI w)]) (st := []) (Tri.mono (d_lineJ hk (ht.y fy) hou t1 hd hm1 (by omega) (by omega)) (Nat.le_of_ble_eq_true rfl)) rfl rfl tg_X11_readLineOf lk_X11_133 in_X11_readLineOf se_X11_readLineOf rfl dX11_readLine_133 rfl (Nat.le_of_ble_eq_true rfl) (Nat.le_refl _) (Nat.le_refl _) ?_
                              rintro v M9 ⟨rfl, I2, rfl, t2, f2, m2⟩ -
                              exact l_rdEnd hk (ht.y (fy.tr f2)) (tk_ok (ch_ok (tk_ok (ch_ok hou)))) t2 (fun I3 t3 f3 => ⟨rfl, _, rfl, t3, fy.tr (f2.tr f3.y), fun q z => m2.n f3⟩)
                        · skip
                          replace h6 : ((w : Nat) : Int) = 8 := (zeq (z_nI (by omega)) (by decide)).mp h6
                          first
                          | (exfalso; omega)
                          | skip
                            refine w_iconst (v := 1) dX11_readLine_111 (by decide) ?_
                            refine w_goto (tgt := 116) dX11_readLine_112 (by decide) ?_
                            refine w_putI ff_X11_54 rfl rfl rfl rfl dX11_readLine_116 ?_
                            have hu0 : (if nJ a < 4 then (Sum.inr (so, (st, (nx, v))) : tS) else flT 5 (Sum.inr (so, (st, (nx, v))) : tS)) = (Sum.inr (so, (st, (nx, v))) : tS) := if_pos (by omega)
                            refine w_aload_n dX11_readLine_119 rfl ?_
                            refine w_callV (as := []) (st := []) (Tri.mono (d_take (I := xup I 30 0 0 8 (1)) hk (ht.y (FrY.rf.up30 (by decide))) (s := (Sum.inr (so, (st, (nx, v))) : tS)) hok (h.eqv (fun x hx => xup_slot (by omega)))) (Nat.le_of_ble_eq_true rfl)) rfl rfl tg_X11_takes lk_X11_119 in_X11_takes se_X11_takes rfl dX11_readLine_120 rfl (Nat.le_of_ble_eq_true rfl) (Nat.le_refl _) (Nat.le_refl _) ?_
                            rintro v M9 ⟨rfl, I1, rfl, t1, f1⟩ -
                            have fy : FrY I I1 := (FrY.rf.up30 (by decide)).tr f1.y
                            have hm1 : DM I1 a false := (DM.t8 hm (I' := xup I 30 0 0 8 (1)) (fun x => xup_tag (by decide)) (fun x hx => xup_slot (by omega)) (xup_self.trans (by rfl))).n f1
                            have hou : OKT n (tkT n b (Sum.inr (so, (st, (nx, v))) : tS)) := tk_ok hok
                            obtain ⟨u, hu⟩ : ∃ u, u = tkT n b (Sum.inr (so, (st, (nx, v))) : tS) := ⟨_, rfl⟩
                            rw [← hu] at t1 hou
                            have hu1 : tkT n b (if nJ a < 4 then (Sum.inr (so, (st, (nx, v))) : tS) else flT 5 (Sum.inr (so, (st, (nx, v))) : tS)) = u := by rw [hu0, hu]
                            rw [show bodyT n b w (Sum.inr (so, (st, (nx, v))) : tS) a false = _ from if_pos (by omega)]
                            unfold pLz uJ2 uJ1
                            rw [hu1]
                            rcases u with ⟨c, p⟩ | ⟨so2, st2, nx2, v2⟩
                            · skip
                              have q1 := hou.1
                              have q2 := hou.2.1
                              replace q1 : 1 ≤ c := q1
                              replace q2 : c ≤ 5 := q2
                              refine w_aload_n dX11_readLine_123 rfl ?_
                              refine w_getI ff_X11_73 rfl rfl dX11_readLine_124 ?_
                              rw [show (I1 30 0 0 15 : Int32) = nI c from t1.1]
                              refine w_if_le (tgt := 131) dX11_readLine_127 (by decide) (fun h1 => ?_) (fun h1 => ?_)
                              · skip
                                replace h1 : ((c : Nat) : Int) ≤ 0 := (zle (z_nI (by omega)) (by decide)).mp h1
                                first
                                | (exfalso; omega)
                                | skip
                                  exfalso
                                  omega
                              · skip
                                replace h1 : ¬ (((c : Nat) : Int) ≤ 0) := fun q => h1 ((zle (z_nI (by omega)) (by decide)).mpr q)
                                first
                                | (exfalso; omega)
                                | skip
                                  exact w_return dX11_readLine_130 rfl rfl (⟨rfl, _, rfl, t1, fy, fun q z => by cases z⟩)
                            · skip
                              refine w_aload_n dX11_readLine_123 rfl ?_
                              refine w_getI ff_X11_73 rfl rfl dX11_readLine_124 ?_
                              rw [show (I1 30 0 0 15 : Int32) = 0 from t1.1]
                              refine w_if_le (tgt := 131) dX11_readLine_127 (by decide) (fun _ => ?_) (fun h => absurd (by decide) h)
                              refine w_aload_n dX11_readLine_131 rfl ?_
                              refine w_iload_n dX11_readLine_132 rfl ?_
                              refine w_callV (as := [vI (nI w)]) (st := []) (Tri.mono (d_lineJ hk (ht.y fy) hou t1 hd hm1 (by omega) (by omega)) (Nat.le_of_ble_eq_true rfl)) rfl rfl tg_X11_readLineOf lk_X11_133 in_X11_readLineOf se_X11_readLineOf rfl dX11_readLine_133 rfl (Nat.le_of_ble_eq_true rfl) (Nat.le_refl _) (Nat.le_refl _) ?_
                              rintro v M9 ⟨rfl, I2, rfl, t2, f2, m2⟩ -
                              exact l_rdEnd hk (ht.y (fy.tr f2)) (tk_ok (ch_ok (tk_ok (ch_ok hou)))) t2 (fun I3 t3 f3 => ⟨rfl, _, rfl, t3, fy.tr (f2.tr f3.y), fun q z => m2.n f3⟩)
  · skip
    refine w_aload_n dX11_readLine_18 rfl ?_
    refine w_iload_n dX11_readLine_19 rfl ?_
    refine w_bipush (v := (-4)) dX11_readLine_20 (by decide) ?_
    refine w_icmp_eq (tgt := 29) dX11_readLine_22 (by decide) (fun h1 => ?_) (fun h1 => ?_)
    · skip
      replace h1 : ((w : Nat) : Int) = (-4) := (zeq (z_nI (by omega)) (by decide)).mp h1
      first
      | (exfalso; omega)
      | skip
        refine w_iconst (v := 0) dX11_readLine_29 (by decide) ?_
        refine w_iconst (v := 2) dX11_readLine_30 (by decide) ?_
        refine w_callV (as := [vI (0), vI (2)]) (st := []) (Tri.mono (d_needL (I := I) h.1 h.2.2.1 (2)) (Nat.le_of_ble_eq_true rfl)) rfl rfl tg_X11_needs lk_X11_115 in_X11_needs se_X11_needs rfl dX11_readLine_31 rfl (Nat.le_of_ble_eq_true rfl) (Nat.le_refl _) (Nat.le_refl _) ?_
        rintro _ _ ⟨rfl, rfl⟩ -
        refine w_aload_n dX11_readLine_34 rfl ?_
        refine w_iload_n dX11_readLine_35 rfl ?_
        refine w_bipush (v := 8) dX11_readLine_36 (by decide) ?_
        refine w_icmp_eq (tgt := 65) dX11_readLine_38 (by decide) (fun h2 => ?_) (fun h2 => ?_)
        · skip
          replace h2 : ((w : Nat) : Int) = 8 := (zeq (z_nI (by omega)) (by decide)).mp h2
          first
          | (exfalso; omega)
          | skip
            refine w_iconst (v := 1) dX11_readLine_65 (by decide) ?_
            refine w_goto (tgt := 70) dX11_readLine_66 (by decide) ?_
            refine w_iconst (v := 5) dX11_readLine_70 (by decide) ?_
            refine w_callV (as := [vI (1), vI (5)]) (st := []) (Tri.mono (d_need1 (I := xup (xup I 30 0 0 15 (2)) 30 0 0 16 (nI st)) (5)) (Nat.le_of_ble_eq_true rfl)) rfl rfl tg_X11_needs lk_X11_115 in_X11_needs se_X11_needs rfl dX11_readLine_71 rfl (Nat.le_of_ble_eq_true rfl) (Nat.le_refl _) (Nat.le_refl _) ?_
            rintro _ _ ⟨rfl, rfl⟩ -
            refine w_aload_n dX11_readLine_74 rfl ?_
            refine w_iload_n dX11_readLine_75 rfl ?_
            refine w_bipush (v := 8) dX11_readLine_76 (by decide) ?_
            refine w_icmp_ne (tgt := 88) dX11_readLine_78 (by decide) (fun h3 => ?_) (fun h3 => ?_)
            · skip
              replace h3 : ¬ (((w : Nat) : Int) = 8) := fun q => h3 ((zeq (z_nI (by omega)) (by decide)).mpr q)
              first
              | (exfalso; omega)
              | skip
                refine w_iconst (v := 1) dX11_readLine_88 (by decide) ?_
                refine w_goto (tgt := 93) dX11_readLine_89 (by decide) ?_
                refine w_iconst (v := 4) dX11_readLine_93 (by decide) ?_
                refine w_callV (as := [vI (1), vI (4)]) (st := []) (Tri.mono (d_need1 (I := xup (xup I 30 0 0 15 (2)) 30 0 0 16 (nI st)) (4)) (Nat.le_of_ble_eq_true rfl)) rfl rfl tg_X11_needs lk_X11_115 in_X11_needs se_X11_needs rfl dX11_readLine_94 rfl (Nat.le_of_ble_eq_true rfl) (Nat.le_refl _) (Nat.le_refl _) ?_
                rintro _ _ ⟨rfl, rfl⟩ -
                refine w_aload_n dX11_readLine_97 rfl ?_
                refine w_aload_n dX11_readLine_98 rfl ?_
                refine w_getI ff_X11_54 rfl rfl dX11_readLine_99 ?_
                rw [show ((xup (xup I 30 0 0 15 (2)) 30 0 0 16 (nI st)) 30 0 0 8 : Int32) = 1 from ((xup_slot (by decide)).trans ((xup_slot (by decide)).trans m8))]
                refine w_if_ne (tgt := 111) dX11_readLine_102 (by decide) (fun _ => ?_) (fun h => absurd h (by decide))
                refine w_iconst (v := 1) dX11_readLine_111 (by decide) ?_
                refine w_goto (tgt := 116) dX11_readLine_112 (by decide) ?_
                refine w_putI ff_X11_54 rfl rfl rfl rfl dX11_readLine_116 ?_
                have hu0 : (if nJ a < 4 then (Sum.inr (so, (st, (nx, v))) : tS) else flT 5 (Sum.inr (so, (st, (nx, v))) : tS)) = (Sum.inl (2, st) : tS) := if_neg (by omega)
                refine w_aload_n dX11_readLine_119 rfl ?_
                refine w_callV (as := []) (st := []) (Tri.mono (d_take (I := xup (xup (xup I 30 0 0 15 (2)) 30 0 0 16 (nI st)) 30 0 0 8 (1)) hk (ht.y (((FrY.rf.up30 (by decide)).up30 (by decide)).up30 (by decide))) (s := (Sum.inl (2, st) : tS)) ⟨by show 1 ≤ 2; omega, by show 2 ≤ 5; omega, g5⟩ ⟨(xup_slot (by decide)).trans ((xup_slot (by decide)).trans xup_self), (xup_slot (by decide)).trans xup_self⟩) (Nat.le_of_ble_eq_true rfl)) rfl rfl tg_X11_takes lk_X11_119 in_X11_takes se_X11_takes rfl dX11_readLine_120 rfl (Nat.le_of_ble_eq_true rfl) (Nat.le_refl _) (Nat.le_refl _) ?_
                rintro v M9 ⟨rfl, I1, rfl, t1, f1⟩ -
                have fy : FrY I I1 := (((FrY.rf.up30 (by decide)).up30 (by decide)).up30 (by decide)).tr f1.y
                have hm1 : DM I1 a true := (DM.t8 hm (I' := xup (xup (xup I 30 0 0 15 (2)) 30 0 0 16 (nI st)) 30 0 0 8 (1)) (fun x => (xup_tag (by decide)).trans ((xup_tag (by decide)).trans (xup_tag (by decide)))) (fun x hx => (xup_slot (by omega)).trans ((xup_slot (by omega)).trans (xup_slot (by omega)))) (xup_self.trans (by rfl))).n f1
                have hou : OKT n (tkT n b (Sum.inl (2, st) : tS)) := tk_ok ⟨by show 1 ≤ 2; omega, by show 2 ≤ 5; omega, g5⟩
                obtain ⟨u, hu⟩ : ∃ u, u = tkT n b (Sum.inl (2, st) : tS) := ⟨_, rfl⟩
                rw [← hu] at t1 hou
                have hu1 : tkT n b (if nJ a < 4 then (Sum.inr (so, (st, (nx, v))) : tS) else flT 5 (Sum.inr (so, (st, (nx, v))) : tS)) = u := by rw [hu0, hu]
                rw [show bodyT n b w (Sum.inr (so, (st, (nx, v))) : tS) a true = _ from if_pos (by omega)]
                unfold pLz uJ2 uJ1
                rw [hu1]
                rcases u with ⟨c, p⟩ | ⟨so2, st2, nx2, v2⟩
                · skip
                  have q1 := hou.1
                  have q2 := hou.2.1
                  replace q1 : 1 ≤ c := q1
                  replace q2 : c ≤ 5 := q2
                  refine w_aload_n dX11_readLine_123 rfl ?_
                  refine w_getI ff_X11_73 rfl rfl dX11_readLine_124 ?_
                  rw [show (I1 30 0 0 15 : Int32) = nI c from t1.1]
                  refine w_if_le (tgt := 131) dX11_readLine_127 (by decide) (fun h1 => ?_) (fun h1 => ?_)
                  · skip
                    replace h1 : ((c : Nat) : Int) ≤ 0 := (zle (z_nI (by omega)) (by decide)).mp h1
                    first
                    | (exfalso; omega)
                    | skip
                      exfalso
                      omega
                  · skip
                    replace h1 : ¬ (((c : Nat) : Int) ≤ 0) := fun q => h1 ((zle (z_nI (by omega)) (by decide)).mpr q)
                    first
                    | (exfalso; omega)
                    | skip
                      exact w_return dX11_readLine_130 rfl rfl (⟨rfl, _, rfl, t1, fy, fun q z => by cases z⟩)
                · skip
                  refine w_aload_n dX11_readLine_123 rfl ?_
                  refine w_getI ff_X11_73 rfl rfl dX11_readLine_124 ?_
                  rw [show (I1 30 0 0 15 : Int32) = 0 from t1.1]
                  refine w_if_le (tgt := 131) dX11_readLine_127 (by decide) (fun _ => ?_) (fun h => absurd (by decide) h)
                  refine w_aload_n dX11_readLine_131 rfl ?_
                  refine w_iload_n dX11_readLine_132 rfl ?_
                  cases hu
            · skip
              replace h3 : ((w : Nat) : Int) = 8 := (zeq (z_nI (by omega)) (by decide)).mp h3
              first
              | (exfalso; omega)
              | skip
                refine w_aload_n dX11_readLine_81 rfl ?_
                refine w_getI ff_X11_54 rfl rfl dX11_readLine_82 ?_
                rw [show ((xup (xup I 30 0 0 15 (2)) 30 0 0 16 (nI st)) 30 0 0 8 : Int32) = 1 from ((xup_slot (by decide)).trans ((xup_slot (by decide)).trans m8))]
                refine w_if_ne (tgt := 92) dX11_readLine_85 (by decide) (fun _ => ?_) (fun h => absurd h (by decide))
                refine w_iconst (v := 0) dX11_readLine_92 (by decide) ?_
                refine w_iconst (v := 4) dX11_readLine_93 (by decide) ?_
                refine w_callV (as := [vI (0), vI (4)]) (st := []) (Tri.mono (d_needD (I := xup (xup I 30 0 0 15 (2)) 30 0 0 16 (nI st)) (e := 2) ⟨by decide, by decide⟩ (((xup_slot (by decide)).trans xup_self).trans (by rfl)) (4)) (Nat.le_of_ble_eq_true rfl)) rfl rfl tg_X11_needs lk_X11_115 in_X11_needs se_X11_needs rfl dX11_readLine_94 rfl (Nat.le_of_ble_eq_true rfl) (Nat.le_refl _) (Nat.le_refl _) ?_
                rintro _ _ ⟨rfl, rfl⟩ -
                refine w_aload_n dX11_readLine_97 rfl ?_
                refine w_aload_n dX11_readLine_98 rfl ?_
                refine w_getI ff_X11_54 rfl rfl dX11_readLine_99 ?_
                rw [show ((xup (xup I 30 0 0 15 (2)) 30 0 0 16 (nI st)) 30 0 0 8 : Int32) = 1 from ((xup_slot (by decide)).trans ((xup_slot (by decide)).trans m8))]
                refine w_if_ne (tgt := 111) dX11_readLine_102 (by decide) (fun _ => ?_) (fun h => absurd h (by decide))
                refine w_iconst (v := 1) dX11_readLine_111 (by decide) ?_
                refine w_goto (tgt := 116) dX11_readLine_112 (by decide) ?_
                refine w_putI ff_X11_54 rfl rfl rfl rfl dX11_readLine_116 ?_
                have hu0 : (if nJ a < 4 then (Sum.inr (so, (st, (nx, v))) : tS) else flT 5 (Sum.inr (so, (st, (nx, v))) : tS)) = (Sum.inl (2, st) : tS) := if_neg (by omega)
                refine w_aload_n dX11_readLine_119 rfl ?_
                refine w_callV (as := []) (st := []) (Tri.mono (d_take (I := xup (xup (xup I 30 0 0 15 (2)) 30 0 0 16 (nI st)) 30 0 0 8 (1)) hk (ht.y (((FrY.rf.up30 (by decide)).up30 (by decide)).up30 (by decide))) (s := (Sum.inl (2, st) : tS)) ⟨by show 1 ≤ 2; omega, by show 2 ≤ 5; omega, g5⟩ ⟨(xup_slot (by decide)).trans ((xup_slot (by decide)).trans xup_self), (xup_slot (by decide)).trans xup_self⟩) (Nat.le_of_ble_eq_true rfl)) rfl rfl tg_X11_takes lk_X11_119 in_X11_takes se_X11_takes rfl dX11_readLine_120 rfl (Nat.le_of_ble_eq_true rfl) (Nat.le_refl _) (Nat.le_refl _) ?_
                rintro v M9 ⟨rfl, I1, rfl, t1, f1⟩ -
                have fy : FrY I I1 := (((FrY.rf.up30 (by decide)).up30 (by decide)).up30 (by decide)).tr f1.y
                have hm1 : DM I1 a true := (DM.t8 hm (I' := xup (xup (xup I 30 0 0 15 (2)) 30 0 0 16 (nI st)) 30 0 0 8 (1)) (fun x => (xup_tag (by decide)).trans ((xup_tag (by decide)).trans (xup_tag (by decide)))) (fun x hx => (xup_slot (by omega)).trans ((xup_slot (by omega)).trans (xup_slot (by omega)))) (xup_self.trans (by rfl))).n f1
                have hou : OKT n (tkT n b (Sum.inl (2, st) : tS)) := tk_ok ⟨by show 1 ≤ 2; omega, by show 2 ≤ 5; omega, g5⟩
                obtain ⟨u, hu⟩ : ∃ u, u = tkT n b (Sum.inl (2, st) : tS) := ⟨_, rfl⟩
                rw [← hu] at t1 hou
                have hu1 : tkT n b (if nJ a < 4 then (Sum.inr (so, (st, (nx, v))) : tS) else flT 5 (Sum.inr (so, (st, (nx, v))) : tS)) = u := by rw [hu0, hu]
                rw [show bodyT n b w (Sum.inr (so, (st, (nx, v))) : tS) a true = _ from if_pos (by omega)]
                unfold pLz uJ2 uJ1
                rw [hu1]
                rcases u with ⟨c, p⟩ | ⟨so2, st2, nx2, v2⟩
                · skip
                  have q1 := hou.1
                  have q2 := hou.2.1
                  replace q1 : 1 ≤ c := q1
                  replace q2 : c ≤ 5 := q2
                  refine w_aload_n dX11_readLine_123 rfl ?_
                  refine w_getI ff_X11_73 rfl rfl dX11_readLine_124 ?_
                  rw [show (I1 30 0 0 15 : Int32) = nI c from t1.1]
                  refine w_if_le (tgt := 131) dX11_readLine_127 (by decide) (fun h1 => ?_) (fun h1 => ?_)
                  · skip
                    replace h1 : ((c : Nat) : Int) ≤ 0 := (zle (z_nI (by omega)) (by decide)).mp h1
                    first
                    | (exfalso; omega)
                    | skip
                      exfalso
                      omega
                  · skip
                    replace h1 : ¬ (((c : Nat) : Int) ≤ 0) := fun q => h1 ((zle (z_nI (by omega)) (by decide)).mpr q)
                    first
                    | (exfalso; omega)
                    | skip
                      exact w_return dX11_readLine_130 rfl rfl (⟨rfl, _, rfl, t1, fy, fun q z => by cases z⟩)
                · skip
                  refine w_aload_n dX11_readLine_123 rfl ?_
                  refine w_getI ff_X11_73 rfl rfl dX11_readLine_124 ?_
                  rw [show (I1 30 0 0 15 : Int32) = 0 from t1.1]
                  refine w_if_le (tgt := 131) dX11_readLine_127 (by decide) (fun _ => ?_) (fun h => absurd (by decide) h)
                  refine w_aload_n dX11_readLine_131 rfl ?_
                  refine w_iload_n dX11_readLine_132 rfl ?_
                  cases hu
        · skip
          replace h2 : ¬ (((w : Nat) : Int) = 8) := fun q => h2 ((zeq (z_nI (by omega)) (by decide)).mpr q)
          first
          | (exfalso; omega)
          | skip
            refine w_iload_n dX11_readLine_41 rfl ?_
            refine w_iconst (v := 4) dX11_readLine_42 (by decide) ?_
            refine w_icmp_lt (tgt := 57) dX11_readLine_43 (by decide) (fun h3 => ?_) (fun h3 => ?_)
            · skip
              replace h3 : ((w : Nat) : Int) < 4 := (zlt (z_nI (by omega)) (by decide)).mp h3
              first
              | (exfalso; omega)
              | skip
                refine w_aload_n dX11_readLine_57 rfl ?_
                refine w_getI ff_X11_47 rfl rfl dX11_readLine_58 ?_
                rw [show ((xup (xup I 30 0 0 15 (2)) 30 0 0 16 (nI st)) 30 0 0 6 : Int32) = nI (nJ a) from ((xup_slot (by decide)).trans ((xup_slot (by decide)).trans m6))]
                refine w_iconst (v := 4) dX11_readLine_61 (by decide) ?_
                refine w_icmp_ge (tgt := 69) dX11_readLine_62 (by decide) (fun h4 => ?_) (fun h4 => ?_)
                · skip
                  replace h4 : 4 ≤ ((nJ a : Nat) : Int) := (zle (by decide) (z_nI (by omega))).mp h4
                  first
                  | (exfalso; omega)
                  | skip
                    refine w_iconst (v := 0) dX11_readLine_69 (by decide) ?_
                    refine w_iconst (v := 5) dX11_readLine_70 (by decide) ?_
                    refine w_callV (as := [vI (0), vI (5)]) (st := []) (Tri.mono (d_needD (I := xup (xup I 30 0 0 15 (2)) 30 0 0 16 (nI st)) (e := 2) ⟨by decide, by decide⟩ (((xup_slot (by decide)).trans xup_self).trans (by rfl)) (5)) (Nat.le_of_ble_eq_true rfl)) rfl rfl tg_X11_needs lk_X11_115 in_X11_needs se_X11_needs rfl dX11_readLine_71 rfl (Nat.le_of_ble_eq_true rfl) (Nat.le_refl _) (Nat.le_refl _) ?_
                    rintro _ _ ⟨rfl, rfl⟩ -
                    refine w_aload_n dX11_readLine_74 rfl ?_
                    refine w_iload_n dX11_readLine_75 rfl ?_
                    refine w_bipush (v := 8) dX11_readLine_76 (by decide) ?_
                    refine w_icmp_ne (tgt := 88) dX11_readLine_78 (by decide) (fun h5 => ?_) (fun h5 => ?_)
                    · skip
                      replace h5 : ¬ (((w : Nat) : Int) = 8) := fun q => h5 ((zeq (z_nI (by omega)) (by decide)).mpr q)
                      first
                      | (exfalso; omega)
                      | skip
                        refine w_iconst (v := 1) dX11_readLine_88 (by decide) ?_
                        refine w_goto (tgt := 93) dX11_readLine_89 (by decide) ?_
                        refine w_iconst (v := 4) dX11_readLine_93 (by decide) ?_
                        refine w_callV (as := [vI (1), vI (4)]) (st := []) (Tri.mono (d_need1 (I := xup (xup I 30 0 0 15 (2)) 30 0 0 16 (nI st)) (4)) (Nat.le_of_ble_eq_true rfl)) rfl rfl tg_X11_needs lk_X11_115 in_X11_needs se_X11_needs rfl dX11_readLine_94 rfl (Nat.le_of_ble_eq_true rfl) (Nat.le_refl _) (Nat.le_refl _) ?_
                        rintro _ _ ⟨rfl, rfl⟩ -
                        refine w_aload_n dX11_readLine_97 rfl ?_
                        refine w_aload_n dX11_readLine_98 rfl ?_
                        refine w_getI ff_X11_54 rfl rfl dX11_readLine_99 ?_
                        rw [show ((xup (xup I 30 0 0 15 (2)) 30 0 0 16 (nI st)) 30 0 0 8 : Int32) = 1 from ((xup_slot (by decide)).trans ((xup_slot (by decide)).trans m8))]
                        refine w_if_ne (tgt := 111) dX11_readLine_102 (by decide) (fun _ => ?_) (fun h => absurd h (by decide))
                        refine w_iconst (v := 1) dX11_readLine_111 (by decide) ?_
                        refine w_goto (tgt := 116) dX11_readLine_112 (by decide) ?_
                        refine w_putI ff_X11_54 rfl rfl rfl rfl dX11_readLine_116 ?_
                        have hu0 : (if nJ a < 4 then (Sum.inr (so, (st, (nx, v))) : tS) else flT 5 (Sum.inr (so, (st, (nx, v))) : tS)) = (Sum.inl (2, st) : tS) := if_neg (by omega)
                        refine w_aload_n dX11_readLine_119 rfl ?_
                        refine w_callV (as := []) (st := []) (Tri.mono (d_take (I := xup (xup (xup I 30 0 0 15 (2)) 30 0 0 16 (nI st)) 30 0 0 8 (1)) hk (ht.y (((FrY.rf.up30 (by decide)).up30 (by decide)).up30 (by decide))) (s := (Sum.inl (2, st) : tS)) ⟨by show 1 ≤ 2; omega, by show 2 ≤ 5; omega, g5⟩ ⟨(xup_slot (by decide)).trans ((xup_slot (by decide)).trans xup_self), (xup_slot (by decide)).trans xup_self⟩) (Nat.le_of_ble_eq_true rfl)) rfl rfl tg_X11_takes lk_X11_119 in_X11_takes se_X11_takes rfl dX11_readLine_120 rfl (Nat.le_of_ble_eq_true rfl) (Nat.le_refl _) (Nat.le_refl _) ?_
                        rintro v M9 ⟨rfl, I1, rfl, t1, f1⟩ -
                        have fy : FrY I I1 := (((FrY.rf.up30 (by decide)).up30 (by decide)).up30 (by decide)).tr f1.y
                        have hm1 : DM I1 a true := (DM.t8 hm (I' := xup (xup (xup I 30 0 0 15 (2)) 30 0 0 16 (nI st)) 30 0 0 8 (1)) (fun x => (xup_tag (by decide)).trans ((xup_tag (by decide)).trans (xup_tag (by decide)))) (fun x hx => (xup_slot (by omega)).trans ((xup_slot (by omega)).trans (xup_slot (by omega)))) (xup_self.trans (by rfl))).n f1
                        have hou : OKT n (tkT n b (Sum.inl (2, st) : tS)) := tk_ok ⟨by show 1 ≤ 2; omega, by show 2 ≤ 5; omega, g5⟩
                        obtain ⟨u, hu⟩ : ∃ u, u = tkT n b (Sum.inl (2, st) : tS) := ⟨_, rfl⟩
                        rw [← hu] at t1 hou
                        have hu1 : tkT n b (if nJ a < 4 then (Sum.inr (so, (st, (nx, v))) : tS) else flT 5 (Sum.inr (so, (st, (nx, v))) : tS)) = u := by rw [hu0, hu]
                        rw [show bodyT n b w (Sum.inr (so, (st, (nx, v))) : tS) a true = _ from if_pos (by omega)]
                        unfold pLz uJ2 uJ1
                        rw [hu1]
                        rcases u with ⟨c, p⟩ | ⟨so2, st2, nx2, v2⟩
                        · skip
                          have q1 := hou.1
                          have q2 := hou.2.1
                          replace q1 : 1 ≤ c := q1
                          replace q2 : c ≤ 5 := q2
                          refine w_aload_n dX11_readLine_123 rfl ?_
                          refine w_getI ff_X11_73 rfl rfl dX11_readLine_124 ?_
                          rw [show (I1 30 0 0 15 : Int32) = nI c from t1.1]
                          refine w_if_le (tgt := 131) dX11_readLine_127 (by decide) (fun h1 => ?_) (fun h1 => ?_)
                          · skip
                            replace h1 : ((c : Nat) : Int) ≤ 0 := (zle (z_nI (by omega)) (by decide)).mp h1
                            first
                            | (exfalso; omega)
                            | skip
                              exfalso
                              omega
                          · skip
                            replace h1 : ¬ (((c : Nat) : Int) ≤ 0) := fun q => h1 ((zle (z_nI (by omega)) (by decide)).mpr q)
                            first
                            | (exfalso; omega)
                            | skip
                              exact w_return dX11_readLine_130 rfl rfl (⟨rfl, _, rfl, t1, fy, fun q z => by cases z⟩)
                        · skip
                          refine w_aload_n dX11_readLine_123 rfl ?_
                          refine w_getI ff_X11_73 rfl rfl dX11_readLine_124 ?_
                          rw [show (I1 30 0 0 15 : Int32) = 0 from t1.1]
                          refine w_if_le (tgt := 131) dX11_readLine_127 (by decide) (fun _ => ?_) (fun h => absurd (by decide) h)
                          refine w_aload_n dX11_readLine_131 rfl ?_
                          refine w_iload_n dX11_readLine_132 rfl ?_
                          cases hu
                    · skip
                      replace h5 : ((w : Nat) : Int) = 8 := (zeq (z_nI (by omega)) (by decide)).mp h5
                      first
                      | (exfalso; omega)
                      | skip
                        refine w_aload_n dX11_readLine_81 rfl ?_
                        refine w_getI ff_X11_54 rfl rfl dX11_readLine_82 ?_
                        rw [show ((xup (xup I 30 0 0 15 (2)) 30 0 0 16 (nI st)) 30 0 0 8 : Int32) = 1 from ((xup_slot (by decide)).trans ((xup_slot (by decide)).trans m8))]
                        refine w_if_ne (tgt := 92) dX11_readLine_85 (by decide) (fun _ => ?_) (fun h => absurd h (by decide))
                        refine w_iconst (v := 0) dX11_readLine_92 (by decide) ?_
                        refine w_iconst (v := 4) dX11_readLine_93 (by decide) ?_
                        refine w_callV (as := [vI (0), vI (4)]) (st := []) (Tri.mono (d_needD (I := xup (xup I 30 0 0 15 (2)) 30 0 0 16 (nI st)) (e := 2) ⟨by decide, by decide⟩ (((xup_slot (by decide)).trans xup_self).trans (by rfl)) (4)) (Nat.le_of_ble_eq_true rfl)) rfl rfl tg_X11_needs lk_X11_115 in_X11_needs se_X11_needs rfl dX11_readLine_94 rfl (Nat.le_of_ble_eq_true rfl) (Nat.le_refl _) (Nat.le_refl _) ?_
                        rintro _ _ ⟨rfl, rfl⟩ -
                        refine w_aload_n dX11_readLine_97 rfl ?_
                        refine w_aload_n dX11_readLine_98 rfl ?_
                        refine w_getI ff_X11_54 rfl rfl dX11_readLine_99 ?_
                        rw [show ((xup (xup I 30 0 0 15 (2)) 30 0 0 16 (nI st)) 30 0 0 8 : Int32) = 1 from ((xup_slot (by decide)).trans ((xup_slot (by decide)).trans m8))]
                        refine w_if_ne (tgt := 111) dX11_readLine_102 (by decide) (fun _ => ?_) (fun h => absurd h (by decide))
                        refine w_iconst (v := 1) dX11_readLine_111 (by decide) ?_
                        refine w_goto (tgt := 116) dX11_readLine_112 (by decide) ?_
                        refine w_putI ff_X11_54 rfl rfl rfl rfl dX11_readLine_116 ?_
                        have hu0 : (if nJ a < 4 then (Sum.inr (so, (st, (nx, v))) : tS) else flT 5 (Sum.inr (so, (st, (nx, v))) : tS)) = (Sum.inl (2, st) : tS) := if_neg (by omega)
                        refine w_aload_n dX11_readLine_119 rfl ?_
                        refine w_callV (as := []) (st := []) (Tri.mono (d_take (I := xup (xup (xup I 30 0 0 15 (2)) 30 0 0 16 (nI st)) 30 0 0 8 (1)) hk (ht.y (((FrY.rf.up30 (by decide)).up30 (by decide)).up30 (by decide))) (s := (Sum.inl (2, st) : tS)) ⟨by show 1 ≤ 2; omega, by show 2 ≤ 5; omega, g5⟩ ⟨(xup_slot (by decide)).trans ((xup_slot (by decide)).trans xup_self), (xup_slot (by decide)).trans xup_self⟩) (Nat.le_of_ble_eq_true rfl)) rfl rfl tg_X11_takes lk_X11_119 in_X11_takes se_X11_takes rfl dX11_readLine_120 rfl (Nat.le_of_ble_eq_true rfl) (Nat.le_refl _) (Nat.le_refl _) ?_
                        rintro v M9 ⟨rfl, I1, rfl, t1, f1⟩ -
                        have fy : FrY I I1 := (((FrY.rf.up30 (by decide)).up30 (by decide)).up30 (by decide)).tr f1.y
                        have hm1 : DM I1 a true := (DM.t8 hm (I' := xup (xup (xup I 30 0 0 15 (2)) 30 0 0 16 (nI st)) 30 0 0 8 (1)) (fun x => (xup_tag (by decide)).trans ((xup_tag (by decide)).trans (xup_tag (by decide)))) (fun x hx => (xup_slot (by omega)).trans ((xup_slot (by omega)).trans (xup_slot (by omega)))) (xup_self.trans (by rfl))).n f1
                        have hou : OKT n (tkT n b (Sum.inl (2, st) : tS)) := tk_ok ⟨by show 1 ≤ 2; omega, by show 2 ≤ 5; omega, g5⟩
                        obtain ⟨u, hu⟩ : ∃ u, u = tkT n b (Sum.inl (2, st) : tS) := ⟨_, rfl⟩
                        rw [← hu] at t1 hou
                        have hu1 : tkT n b (if nJ a < 4 then (Sum.inr (so, (st, (nx, v))) : tS) else flT 5 (Sum.inr (so, (st, (nx, v))) : tS)) = u := by rw [hu0, hu]
                        rw [show bodyT n b w (Sum.inr (so, (st, (nx, v))) : tS) a true = _ from if_pos (by omega)]
                        unfold pLz uJ2 uJ1
                        rw [hu1]
                        rcases u with ⟨c, p⟩ | ⟨so2, st2, nx2, v2⟩
                        · skip
                          have q1 := hou.1
                          have q2 := hou.2.1
                          replace q1 : 1 ≤ c := q1
                          replace q2 : c ≤ 5 := q2
                          refine w_aload_n dX11_readLine_123 rfl ?_
                          refine w_getI ff_X11_73 rfl rfl dX11_readLine_124 ?_
                          rw [show (I1 30 0 0 15 : Int32) = nI c from t1.1]
                          refine w_if_le (tgt := 131) dX11_readLine_127 (by decide) (fun h1 => ?_) (fun h1 => ?_)
                          · skip
                            replace h1 : ((c : Nat) : Int) ≤ 0 := (zle (z_nI (by omega)) (by decide)).mp h1
                            first
                            | (exfalso; omega)
                            | skip
                              exfalso
                              omega
                          · skip
                            replace h1 : ¬ (((c : Nat) : Int) ≤ 0) := fun q => h1 ((zle (z_nI (by omega)) (by decide)).mpr q)
                            first
                            | (exfalso; omega)
                            | skip
                              exact w_return dX11_readLine_130 rfl rfl (⟨rfl, _, rfl, t1, fy, fun q z => by cases z⟩)
                        · skip
                          refine w_aload_n dX11_readLine_123 rfl ?_
                          refine w_getI ff_X11_73 rfl rfl dX11_readLine_124 ?_
                          rw [show (I1 30 0 0 15 : Int32) = 0 from t1.1]
                          refine w_if_le (tgt := 131) dX11_readLine_127 (by decide) (fun _ => ?_) (fun h => absurd (by decide) h)
                          refine w_aload_n dX11_readLine_131 rfl ?_
                          refine w_iload_n dX11_readLine_132 rfl ?_
                          cases hu
                · skip
                  replace h4 : ¬ (4 ≤ ((nJ a : Nat) : Int)) := fun q => h4 ((zle (by decide) (z_nI (by omega))).mpr q)
                  first
                  | (exfalso; omega)
                  | skip
                    refine w_iconst (v := 1) dX11_readLine_65 (by decide) ?_
                    refine w_goto (tgt := 70) dX11_readLine_66 (by decide) ?_
                    refine w_iconst (v := 5) dX11_readLine_70 (by decide) ?_
                    refine w_callV (as := [vI (1), vI (5)]) (st := []) (Tri.mono (d_need1 (I := xup (xup I 30 0 0 15 (2)) 30 0 0 16 (nI st)) (5)) (Nat.le_of_ble_eq_true rfl)) rfl rfl tg_X11_needs lk_X11_115 in_X11_needs se_X11_needs rfl dX11_readLine_71 rfl (Nat.le_of_ble_eq_true rfl) (Nat.le_refl _) (Nat.le_refl _) ?_
                    rintro _ _ ⟨rfl, rfl⟩ -
                    refine w_aload_n dX11_readLine_74 rfl ?_
                    refine w_iload_n dX11_readLine_75 rfl ?_
                    refine w_bipush (v := 8) dX11_readLine_76 (by decide) ?_
                    refine w_icmp_ne (tgt := 88) dX11_readLine_78 (by decide) (fun h5 => ?_) (fun h5 => ?_)
                    · skip
                      replace h5 : ¬ (((w : Nat) : Int) = 8) := fun q => h5 ((zeq (z_nI (by omega)) (by decide)).mpr q)
                      first
                      | (exfalso; omega)
                      | skip
                        refine w_iconst (v := 1) dX11_readLine_88 (by decide) ?_
                        refine w_goto (tgt := 93) dX11_readLine_89 (by decide) ?_
                        refine w_iconst (v := 4) dX11_readLine_93 (by decide) ?_
                        refine w_callV (as := [vI (1), vI (4)]) (st := []) (Tri.mono (d_need1 (I := xup (xup I 30 0 0 15 (2)) 30 0 0 16 (nI st)) (4)) (Nat.le_of_ble_eq_true rfl)) rfl rfl tg_X11_needs lk_X11_115 in_X11_needs se_X11_needs rfl dX11_readLine_94 rfl (Nat.le_of_ble_eq_true rfl) (Nat.le_refl _) (Nat.le_refl _) ?_
                        rintro _ _ ⟨rfl, rfl⟩ -
                        refine w_aload_n dX11_readLine_97 rfl ?_
                        refine w_aload_n dX11_readLine_98 rfl ?_
                        refine w_getI ff_X11_54 rfl rfl dX11_readLine_99 ?_
                        rw [show ((xup (xup I 30 0 0 15 (2)) 30 0 0 16 (nI st)) 30 0 0 8 : Int32) = 1 from ((xup_slot (by decide)).trans ((xup_slot (by decide)).trans m8))]
                        refine w_if_ne (tgt := 111) dX11_readLine_102 (by decide) (fun _ => ?_) (fun h => absurd h (by decide))
                        refine w_iconst (v := 1) dX11_readLine_111 (by decide) ?_
                        refine w_goto (tgt := 116) dX11_readLine_112 (by decide) ?_
                        refine w_putI ff_X11_54 rfl rfl rfl rfl dX11_readLine_116 ?_
                        have hu0 : (if nJ a < 4 then (Sum.inr (so, (st, (nx, v))) : tS) else flT 5 (Sum.inr (so, (st, (nx, v))) : tS)) = (Sum.inl (2, st) : tS) := if_neg (by omega)
                        refine w_aload_n dX11_readLine_119 rfl ?_
                        refine w_callV (as := []) (st := []) (Tri.mono (d_take (I := xup (xup (xup I 30 0 0 15 (2)) 30 0 0 16 (nI st)) 30 0 0 8 (1)) hk (ht.y (((FrY.rf.up30 (by decide)).up30 (by decide)).up30 (by decide))) (s := (Sum.inl (2, st) : tS)) ⟨by show 1 ≤ 2; omega, by show 2 ≤ 5; omega, g5⟩ ⟨(xup_slot (by decide)).trans ((xup_slot (by decide)).trans xup_self), (xup_slot (by decide)).trans xup_self⟩) (Nat.le_of_ble_eq_true rfl)) rfl rfl tg_X11_takes lk_X11_119 in_X11_takes se_X11_takes rfl dX11_readLine_120 rfl (Nat.le_of_ble_eq_true rfl) (Nat.le_refl _) (Nat.le_refl _) ?_
                        rintro v M9 ⟨rfl, I1, rfl, t1, f1⟩ -
                        have fy : FrY I I1 := (((FrY.rf.up30 (by decide)).up30 (by decide)).up30 (by decide)).tr f1.y
                        have hm1 : DM I1 a true := (DM.t8 hm (I' := xup (xup (xup I 30 0 0 15 (2)) 30 0 0 16 (nI st)) 30 0 0 8 (1)) (fun x => (xup_tag (by decide)).trans ((xup_tag (by decide)).trans (xup_tag (by decide)))) (fun x hx => (xup_slot (by omega)).trans ((xup_slot (by omega)).trans (xup_slot (by omega)))) (xup_self.trans (by rfl))).n f1
                        have hou : OKT n (tkT n b (Sum.inl (2, st) : tS)) := tk_ok ⟨by show 1 ≤ 2; omega, by show 2 ≤ 5; omega, g5⟩
                        obtain ⟨u, hu⟩ : ∃ u, u = tkT n b (Sum.inl (2, st) : tS) := ⟨_, rfl⟩
                        rw [← hu] at t1 hou
                        have hu1 : tkT n b (if nJ a < 4 then (Sum.inr (so, (st, (nx, v))) : tS) else flT 5 (Sum.inr (so, (st, (nx, v))) : tS)) = u := by rw [hu0, hu]
                        rw [show bodyT n b w (Sum.inr (so, (st, (nx, v))) : tS) a true = _ from if_pos (by omega)]
                        unfold pLz uJ2 uJ1
                        rw [hu1]
                        rcases u with ⟨c, p⟩ | ⟨so2, st2, nx2, v2⟩
                        · skip
                          have q1 := hou.1
                          have q2 := hou.2.1
                          replace q1 : 1 ≤ c := q1
                          replace q2 : c ≤ 5 := q2
                          refine w_aload_n dX11_readLine_123 rfl ?_
                          refine w_getI ff_X11_73 rfl rfl dX11_readLine_124 ?_
                          rw [show (I1 30 0 0 15 : Int32) = nI c from t1.1]
                          refine w_if_le (tgt := 131) dX11_readLine_127 (by decide) (fun h1 => ?_) (fun h1 => ?_)
                          · skip
                            replace h1 : ((c : Nat) : Int) ≤ 0 := (zle (z_nI (by omega)) (by decide)).mp h1
                            first
                            | (exfalso; omega)
                            | skip
                              exfalso
                              omega
                          · skip
                            replace h1 : ¬ (((c : Nat) : Int) ≤ 0) := fun q => h1 ((zle (z_nI (by omega)) (by decide)).mpr q)
                            first
                            | (exfalso; omega)
                            | skip
                              exact w_return dX11_readLine_130 rfl rfl (⟨rfl, _, rfl, t1, fy, fun q z => by cases z⟩)
                        · skip
                          refine w_aload_n dX11_readLine_123 rfl ?_
                          refine w_getI ff_X11_73 rfl rfl dX11_readLine_124 ?_
                          rw [show (I1 30 0 0 15 : Int32) = 0 from t1.1]
                          refine w_if_le (tgt := 131) dX11_readLine_127 (by decide) (fun _ => ?_) (fun h => absurd (by decide) h)
                          refine w_aload_n dX11_readLine_131 rfl ?_
                          refine w_iload_n dX11_readLine_132 rfl ?_
                          cases hu
                    · skip
                      replace h5 : ((w : Nat) : Int) = 8 := (zeq (z_nI (by omega)) (by decide)).mp h5
                      first
                      | (exfalso; omega)
                      | skip
                        refine w_aload_n dX11_readLine_81 rfl ?_
                        refine w_getI ff_X11_54 rfl rfl dX11_readLine_82 ?_
                        rw [show ((xup (xup I 30 0 0 15 (2)) 30 0 0 16 (nI st)) 30 0 0 8 : Int32) = 1 from ((xup_slot (by decide)).trans ((xup_slot (by decide)).trans m8))]
                        refine w_if_ne (tgt := 92) dX11_readLine_85 (by decide) (fun _ => ?_) (fun h => absurd h (by decide))
                        refine w_iconst (v := 0) dX11_readLine_92 (by decide) ?_
                        refine w_iconst (v := 4) dX11_readLine_93 (by decide) ?_
                        refine w_callV (as := [vI (0), vI (4)]) (st := []) (Tri.mono (d_needD (I := xup (xup I 30 0 0 15 (2)) 30 0 0 16 (nI st)) (e := 2) ⟨by decide, by decide⟩ (((xup_slot (by decide)).trans xup_self).trans (by rfl)) (4)) (Nat.le_of_ble_eq_true rfl)) rfl rfl tg_X11_needs lk_X11_115 in_X11_needs se_X11_needs rfl dX11_readLine_94 rfl (Nat.le_of_ble_eq_true rfl) (Nat.le_refl _) (Nat.le_refl _) ?_
                        rintro _ _ ⟨rfl, rfl⟩ -
                        refine w_aload_n dX11_readLine_97 rfl ?_
                        refine w_aload_n dX11_readLine_98 rfl ?_
                        refine w_getI ff_X11_54 rfl rfl dX11_readLine_99 ?_
                        rw [show ((xup (xup I 30 0 0 15 (2)) 30 0 0 16 (nI st)) 30 0 0 8 : Int32) = 1 from ((xup_slot (by decide)).trans ((xup_slot (by decide)).trans m8))]
                        refine w_if_ne (tgt := 111) dX11_readLine_102 (by decide) (fun _ => ?_) (fun h => absurd h (by decide))
                        refine w_iconst (v := 1) dX11_readLine_111 (by decide) ?_
                        refine w_goto (tgt := 116) dX11_readLine_112 (by decide) ?_
                        refine w_putI ff_X11_54 rfl rfl rfl rfl dX11_readLine_116 ?_
                        have hu0 : (if nJ a < 4 then (Sum.inr (so, (st, (nx, v))) : tS) else flT 5 (Sum.inr (so, (st, (nx, v))) : tS)) = (Sum.inl (2, st) : tS) := if_neg (by omega)
                        refine w_aload_n dX11_readLine_119 rfl ?_
                        refine w_callV (as := []) (st := []) (Tri.mono (d_take (I := xup (xup (xup I 30 0 0 15 (2)) 30 0 0 16 (nI st)) 30 0 0 8 (1)) hk (ht.y (((FrY.rf.up30 (by decide)).up30 (by decide)).up30 (by decide))) (s := (Sum.inl (2, st) : tS)) ⟨by show 1 ≤ 2; omega, by show 2 ≤ 5; omega, g5⟩ ⟨(xup_slot (by decide)).trans ((xup_slot (by decide)).trans xup_self), (xup_slot (by decide)).trans xup_self⟩) (Nat.le_of_ble_eq_true rfl)) rfl rfl tg_X11_takes lk_X11_119 in_X11_takes se_X11_takes rfl dX11_readLine_120 rfl (Nat.le_of_ble_eq_true rfl) (Nat.le_refl _) (Nat.le_refl _) ?_
                        rintro v M9 ⟨rfl, I1, rfl, t1, f1⟩ -
                        have fy : FrY I I1 := (((FrY.rf.up30 (by decide)).up30 (by decide)).up30 (by decide)).tr f1.y
                        have hm1 : DM I1 a true := (DM.t8 hm (I' := xup (xup (xup I 30 0 0 15 (2)) 30 0 0 16 (nI st)) 30 0 0 8 (1)) (fun x => (xup_tag (by decide)).trans ((xup_tag (by decide)).trans (xup_tag (by decide)))) (fun x hx => (xup_slot (by omega)).trans ((xup_slot (by omega)).trans (xup_slot (by omega)))) (xup_self.trans (by rfl))).n f1
                        have hou : OKT n (tkT n b (Sum.inl (2, st) : tS)) := tk_ok ⟨by show 1 ≤ 2; omega, by show 2 ≤ 5; omega, g5⟩
                        obtain ⟨u, hu⟩ : ∃ u, u = tkT n b (Sum.inl (2, st) : tS) := ⟨_, rfl⟩
                        rw [← hu] at t1 hou
                        have hu1 : tkT n b (if nJ a < 4 then (Sum.inr (so, (st, (nx, v))) : tS) else flT 5 (Sum.inr (so, (st, (nx, v))) : tS)) = u := by rw [hu0, hu]
                        rw [show bodyT n b w (Sum.inr (so, (st, (nx, v))) : tS) a true = _ from if_pos (by omega)]
                        unfold pLz uJ2 uJ1
                        rw [hu1]
                        rcases u with ⟨c, p⟩ | ⟨so2, st2, nx2, v2⟩
                        · skip
                          have q1 := hou.1
                          have q2 := hou.2.1
                          replace q1 : 1 ≤ c := q1
                          replace q2 : c ≤ 5 := q2
                          refine w_aload_n dX11_readLine_123 rfl ?_
                          refine w_getI ff_X11_73 rfl rfl dX11_readLine_124 ?_
                          rw [show (I1 30 0 0 15 : Int32) = nI c from t1.1]
                          refine w_if_le (tgt := 131) dX11_readLine_127 (by decide) (fun h1 => ?_) (fun h1 => ?_)
                          · skip
                            replace h1 : ((c : Nat) : Int) ≤ 0 := (zle (z_nI (by omega)) (by decide)).mp h1
                            first
                            | (exfalso; omega)
                            | skip
                              exfalso
                              omega
                          · skip
                            replace h1 : ¬ (((c : Nat) : Int) ≤ 0) := fun q => h1 ((zle (z_nI (by omega)) (by decide)).mpr q)
                            first
                            | (exfalso; omega)
                            | skip
                              exact w_return dX11_readLine_130 rfl rfl (⟨rfl, _, rfl, t1, fy, fun q z => by cases z⟩)
                        · skip
                          refine w_aload_n dX11_readLine_123 rfl ?_
                          refine w_getI ff_X11_73 rfl rfl dX11_readLine_124 ?_
                          rw [show (I1 30 0 0 15 : Int32) = 0 from t1.1]
                          refine w_if_le (tgt := 131) dX11_readLine_127 (by decide) (fun _ => ?_) (fun h => absurd (by decide) h)
                          refine w_aload_n dX11_readLine_131 rfl ?_
                          refine w_iload_n dX11_readLine_132 rfl ?_
                          cases hu
            · skip
              replace h3 : ¬ (((w : Nat) : Int) < 4) := fun q => h3 ((zlt (z_nI (by omega)) (by decide)).mpr q)
              first
              | (exfalso; omega)
              | skip
                refine w_aload_n dX11_readLine_46 rfl ?_
                refine w_getI ff_X11_51 rfl rfl dX11_readLine_47 ?_
                rw [show ((xup (xup I 30 0 0 15 (2)) 30 0 0 16 (nI st)) 30 0 0 7 : Int32) = nI (nC a) from ((xup_slot (by decide)).trans ((xup_slot (by decide)).trans m7))]
                refine w_iconst (v := 5) dX11_readLine_50 (by decide) ?_
                refine w_icmp_ge (tgt := 69) dX11_readLine_51 (by decide) (fun h4 => ?_) (fun h4 => ?_)
                · skip
                  replace h4 : 5 ≤ ((nC a : Nat) : Int) := (zle (by decide) (z_nI (by omega))).mp h4
                  first
                  | (exfalso; omega)
                  | skip
                    refine w_iconst (v := 0) dX11_readLine_69 (by decide) ?_
                    refine w_iconst (v := 5) dX11_readLine_70 (by decide) ?_
                    refine w_callV (as := [vI (0), vI (5)]) (st := []) (Tri.mono (d_needD (I := xup (xup I 30 0 0 15 (2)) 30 0 0 16 (nI st)) (e := 2) ⟨by decide, by decide⟩ (((xup_slot (by decide)).trans xup_self).trans (by rfl)) (5)) (Nat.le_of_ble_eq_true rfl)) rfl rfl tg_X11_needs lk_X11_115 in_X11_needs se_X11_needs rfl dX11_readLine_71 rfl (Nat.le_of_ble_eq_true rfl) (Nat.le_refl _) (Nat.le_refl _) ?_
                    rintro _ _ ⟨rfl, rfl⟩ -
                    refine w_aload_n dX11_readLine_74 rfl ?_
                    refine w_iload_n dX11_readLine_75 rfl ?_
                    refine w_bipush (v := 8) dX11_readLine_76 (by decide) ?_
                    refine w_icmp_ne (tgt := 88) dX11_readLine_78 (by decide) (fun h5 => ?_) (fun h5 => ?_)
                    · skip
                      replace h5 : ¬ (((w : Nat) : Int) = 8) := fun q => h5 ((zeq (z_nI (by omega)) (by decide)).mpr q)
                      first
                      | (exfalso; omega)
                      | skip
                        refine w_iconst (v := 1) dX11_readLine_88 (by decide) ?_
                        refine w_goto (tgt := 93) dX11_readLine_89 (by decide) ?_
                        refine w_iconst (v := 4) dX11_readLine_93 (by decide) ?_
                        refine w_callV (as := [vI (1), vI (4)]) (st := []) (Tri.mono (d_need1 (I := xup (xup I 30 0 0 15 (2)) 30 0 0 16 (nI st)) (4)) (Nat.le_of_ble_eq_true rfl)) rfl rfl tg_X11_needs lk_X11_115 in_X11_needs se_X11_needs rfl dX11_readLine_94 rfl (Nat.le_of_ble_eq_true rfl) (Nat.le_refl _) (Nat.le_refl _) ?_
                        rintro _ _ ⟨rfl, rfl⟩ -
                        refine w_aload_n dX11_readLine_97 rfl ?_
                        refine w_aload_n dX11_readLine_98 rfl ?_
                        refine w_getI ff_X11_54 rfl rfl dX11_readLine_99 ?_
                        rw [show ((xup (xup I 30 0 0 15 (2)) 30 0 0 16 (nI st)) 30 0 0 8 : Int32) = 1 from ((xup_slot (by decide)).trans ((xup_slot (by decide)).trans m8))]
                        refine w_if_ne (tgt := 111) dX11_readLine_102 (by decide) (fun _ => ?_) (fun h => absurd h (by decide))
                        refine w_iconst (v := 1) dX11_readLine_111 (by decide) ?_
                        refine w_goto (tgt := 116) dX11_readLine_112 (by decide) ?_
                        refine w_putI ff_X11_54 rfl rfl rfl rfl dX11_readLine_116 ?_
                        have hu0 : (if nJ a < 4 then (Sum.inr (so, (st, (nx, v))) : tS) else flT 5 (Sum.inr (so, (st, (nx, v))) : tS)) = (Sum.inl (2, st) : tS) := if_neg (by omega)
                        refine w_aload_n dX11_readLine_119 rfl ?_
                        refine w_callV (as := []) (st := []) (Tri.mono (d_take (I := xup (xup (xup I 30 0 0 15 (2)) 30 0 0 16 (nI st)) 30 0 0 8 (1)) hk (ht.y (((FrY.rf.up30 (by decide)).up30 (by decide)).up30 (by decide))) (s := (Sum.inl (2, st) : tS)) ⟨by show 1 ≤ 2; omega, by show 2 ≤ 5; omega, g5⟩ ⟨(xup_slot (by decide)).trans ((xup_slot (by decide)).trans xup_self), (xup_slot (by decide)).trans xup_self⟩) (Nat.le_of_ble_eq_true rfl)) rfl rfl tg_X11_takes lk_X11_119 in_X11_takes se_X11_takes rfl dX11_readLine_120 rfl (Nat.le_of_ble_eq_true rfl) (Nat.le_refl _) (Nat.le_refl _) ?_
                        rintro v M9 ⟨rfl, I1, rfl, t1, f1⟩ -
                        have fy : FrY I I1 := (((FrY.rf.up30 (by decide)).up30 (by decide)).up30 (by decide)).tr f1.y
                        have hm1 : DM I1 a true := (DM.t8 hm (I' := xup (xup (xup I 30 0 0 15 (2)) 30 0 0 16 (nI st)) 30 0 0 8 (1)) (fun x => (xup_tag (by decide)).trans ((xup_tag (by decide)).trans (xup_tag (by decide)))) (fun x hx => (xup_slot (by omega)).trans ((xup_slot (by omega)).trans (xup_slot (by omega)))) (xup_self.trans (by rfl))).n f1
                        have hou : OKT n (tkT n b (Sum.inl (2, st) : tS)) := tk_ok ⟨by show 1 ≤ 2; omega, by show 2 ≤ 5; omega, g5⟩
                        obtain ⟨u, hu⟩ : ∃ u, u = tkT n b (Sum.inl (2, st) : tS) := ⟨_, rfl⟩
                        rw [← hu] at t1 hou
                        have hu1 : tkT n b (if nJ a < 4 then (Sum.inr (so, (st, (nx, v))) : tS) else flT 5 (Sum.inr (so, (st, (nx, v))) : tS)) = u := by rw [hu0, hu]
                        rw [show bodyT n b w (Sum.inr (so, (st, (nx, v))) : tS) a true = _ from if_pos (by omega)]
                        unfold pLz uJ2 uJ1
                        rw [hu1]
                        rcases u with ⟨c, p⟩ | ⟨so2, st2, nx2, v2⟩
                        · skip
                          have q1 := hou.1
                          have q2 := hou.2.1
                          replace q1 : 1 ≤ c := q1
                          replace q2 : c ≤ 5 := q2
                          refine w_aload_n dX11_readLine_123 rfl ?_
                          refine w_getI ff_X11_73 rfl rfl dX11_readLine_124 ?_
                          rw [show (I1 30 0 0 15 : Int32) = nI c from t1.1]
                          refine w_if_le (tgt := 131) dX11_readLine_127 (by decide) (fun h1 => ?_) (fun h1 => ?_)
                          · skip
                            replace h1 : ((c : Nat) : Int) ≤ 0 := (zle (z_nI (by omega)) (by decide)).mp h1
                            first
                            | (exfalso; omega)
                            | skip
                              exfalso
                              omega
                          · skip
                            replace h1 : ¬ (((c : Nat) : Int) ≤ 0) := fun q => h1 ((zle (z_nI (by omega)) (by decide)).mpr q)
                            first
                            | (exfalso; omega)
                            | skip
                              exact w_return dX11_readLine_130 rfl rfl (⟨rfl, _, rfl, t1, fy, fun q z => by cases z⟩)
                        · skip
                          refine w_aload_n dX11_readLine_123 rfl ?_
                          refine w_getI ff_X11_73 rfl rfl dX11_readLine_124 ?_
                          rw [show (I1 30 0 0 15 : Int32) = 0 from t1.1]
                          refine w_if_le (tgt := 131) dX11_readLine_127 (by decide) (fun _ => ?_) (fun h => absurd (by decide) h)
                          refine w_aload_n dX11_readLine_131 rfl ?_
                          refine w_iload_n dX11_readLine_132 rfl ?_
                          cases hu
                    · skip
                      replace h5 : ((w : Nat) : Int) = 8 := (zeq (z_nI (by omega)) (by decide)).mp h5
                      first
                      | (exfalso; omega)
                      | skip
                        refine w_aload_n dX11_readLine_81 rfl ?_
                        refine w_getI ff_X11_54 rfl rfl dX11_readLine_82 ?_
                        rw [show ((xup (xup I 30 0 0 15 (2)) 30 0 0 16 (nI st)) 30 0 0 8 : Int32) = 1 from ((xup_slot (by decide)).trans ((xup_slot (by decide)).trans m8))]
                        refine w_if_ne (tgt := 92) dX11_readLine_85 (by decide) (fun _ => ?_) (fun h => absurd h (by decide))
                        refine w_iconst (v := 0) dX11_readLine_92 (by decide) ?_
                        refine w_iconst (v := 4) dX11_readLine_93 (by decide) ?_
                        refine w_callV (as := [vI (0), vI (4)]) (st := []) (Tri.mono (d_needD (I := xup (xup I 30 0 0 15 (2)) 30 0 0 16 (nI st)) (e := 2) ⟨by decide, by decide⟩ (((xup_slot (by decide)).trans xup_self).trans (by rfl)) (4)) (Nat.le_of_ble_eq_true rfl)) rfl rfl tg_X11_needs lk_X11_115 in_X11_needs se_X11_needs rfl dX11_readLine_94 rfl (Nat.le_of_ble_eq_true rfl) (Nat.le_refl _) (Nat.le_refl _) ?_
                        rintro _ _ ⟨rfl, rfl⟩ -
                        refine w_aload_n dX11_readLine_97 rfl ?_
                        refine w_aload_n dX11_readLine_98 rfl ?_
                        refine w_getI ff_X11_54 rfl rfl dX11_readLine_99 ?_
                        rw [show ((xup (xup I 30 0 0 15 (2)) 30 0 0 16 (nI st)) 30 0 0 8 : Int32) = 1 from ((xup_slot (by decide)).trans ((xup_slot (by decide)).trans m8))]
                        refine w_if_ne (tgt := 111) dX11_readLine_102 (by decide) (fun _ => ?_) (fun h => absurd h (by decide))
                        refine w_iconst (v := 1) dX11_readLine_111 (by decide) ?_
                        refine w_goto (tgt := 116) dX11_readLine_112 (by decide) ?_
                        refine w_putI ff_X11_54 rfl rfl rfl rfl dX11_readLine_116 ?_
                        have hu0 : (if nJ a < 4 then (Sum.inr (so, (st, (nx, v))) : tS) else flT 5 (Sum.inr (so, (st, (nx, v))) : tS)) = (Sum.inl (2, st) : tS) := if_neg (by omega)
                        refine w_aload_n dX11_readLine_119 rfl ?_
                        refine w_callV (as := []) (st := []) (Tri.mono (d_take (I := xup (xup (xup I 30 0 0 15 (2)) 30 0 0 16 (nI st)) 30 0 0 8 (1)) hk (ht.y (((FrY.rf.up30 (by decide)).up30 (by decide)).up30 (by decide))) (s := (Sum.inl (2, st) : tS)) ⟨by show 1 ≤ 2; omega, by show 2 ≤ 5; omega, g5⟩ ⟨(xup_slot (by decide)).trans ((xup_slot (by decide)).trans xup_self), (xup_slot (by decide)).trans xup_self⟩) (Nat.le_of_ble_eq_true rfl)) rfl rfl tg_X11_takes lk_X11_119 in_X11_takes se_X11_takes rfl dX11_readLine_120 rfl (Nat.le_of_ble_eq_true rfl) (Nat.le_refl _) (Nat.le_refl _) ?_
                        rintro v M9 ⟨rfl, I1, rfl, t1, f1⟩ -
                        have fy : FrY I I1 := (((FrY.rf.up30 (by decide)).up30 (by decide)).up30 (by decide)).tr f1.y
                        have hm1 : DM I1 a true := (DM.t8 hm (I' := xup (xup (xup I 30 0 0 15 (2)) 30 0 0 16 (nI st)) 30 0 0 8 (1)) (fun x => (xup_tag (by decide)).trans ((xup_tag (by decide)).trans (xup_tag (by decide)))) (fun x hx => (xup_slot (by omega)).trans ((xup_slot (by omega)).trans (xup_slot (by omega)))) (xup_self.trans (by rfl))).n f1
                        have hou : OKT n (tkT n b (Sum.inl (2, st) : tS)) := tk_ok ⟨by show 1 ≤ 2; omega, by show 2 ≤ 5; omega, g5⟩
                        obtain ⟨u, hu⟩ : ∃ u, u = tkT n b (Sum.inl (2, st) : tS) := ⟨_, rfl⟩
                        rw [← hu] at t1 hou
                        have hu1 : tkT n b (if nJ a < 4 then (Sum.inr (so, (st, (nx, v))) : tS) else flT 5 (Sum.inr (so, (st, (nx, v))) : tS)) = u := by rw [hu0, hu]
                        rw [show bodyT n b w (Sum.inr (so, (st, (nx, v))) : tS) a true = _ from if_pos (by omega)]
                        unfold pLz uJ2 uJ1
                        rw [hu1]
                        rcases u with ⟨c, p⟩ | ⟨so2, st2, nx2, v2⟩
                        · skip
                          have q1 := hou.1
                          have q2 := hou.2.1
                          replace q1 : 1 ≤ c := q1
                          replace q2 : c ≤ 5 := q2
                          refine w_aload_n dX11_readLine_123 rfl ?_
                          refine w_getI ff_X11_73 rfl rfl dX11_readLine_124 ?_
                          rw [show (I1 30 0 0 15 : Int32) = nI c from t1.1]
                          refine w_if_le (tgt := 131) dX11_readLine_127 (by decide) (fun h1 => ?_) (fun h1 => ?_)
                          · skip
                            replace h1 : ((c : Nat) : Int) ≤ 0 := (zle (z_nI (by omega)) (by decide)).mp h1
                            first
                            | (exfalso; omega)
                            | skip
                              exfalso
                              omega
                          · skip
                            replace h1 : ¬ (((c : Nat) : Int) ≤ 0) := fun q => h1 ((zle (z_nI (by omega)) (by decide)).mpr q)
                            first
                            | (exfalso; omega)
                            | skip
                              exact w_return dX11_readLine_130 rfl rfl (⟨rfl, _, rfl, t1, fy, fun q z => by cases z⟩)
                        · skip
                          refine w_aload_n dX11_readLine_123 rfl ?_
                          refine w_getI ff_X11_73 rfl rfl dX11_readLine_124 ?_
                          rw [show (I1 30 0 0 15 : Int32) = 0 from t1.1]
                          refine w_if_le (tgt := 131) dX11_readLine_127 (by decide) (fun _ => ?_) (fun h => absurd (by decide) h)
                          refine w_aload_n dX11_readLine_131 rfl ?_
                          refine w_iload_n dX11_readLine_132 rfl ?_
                          cases hu
                · skip
                  replace h4 : ¬ (5 ≤ ((nC a : Nat) : Int)) := fun q => h4 ((zle (by decide) (z_nI (by omega))).mpr q)
                  first
                  | (exfalso; omega)
                  | skip
                    refine w_goto (tgt := 65) dX11_readLine_54 (by decide) ?_
                    refine w_iconst (v := 1) dX11_readLine_65 (by decide) ?_
                    refine w_goto (tgt := 70) dX11_readLine_66 (by decide) ?_
                    refine w_iconst (v := 5) dX11_readLine_70 (by decide) ?_
                    refine w_callV (as := [vI (1), vI (5)]) (st := []) (Tri.mono (d_need1 (I := xup (xup I 30 0 0 15 (2)) 30 0 0 16 (nI st)) (5)) (Nat.le_of_ble_eq_true rfl)) rfl rfl tg_X11_needs lk_X11_115 in_X11_needs se_X11_needs rfl dX11_readLine_71 rfl (Nat.le_of_ble_eq_true rfl) (Nat.le_refl _) (Nat.le_refl _) ?_
                    rintro _ _ ⟨rfl, rfl⟩ -
                    refine w_aload_n dX11_readLine_74 rfl ?_
                    refine w_iload_n dX11_readLine_75 rfl ?_
                    refine w_bipush (v := 8) dX11_readLine_76 (by decide) ?_
                    refine w_icmp_ne (tgt := 88) dX11_readLine_78 (by decide) (fun h5 => ?_) (fun h5 => ?_)
                    · skip
                      replace h5 : ¬ (((w : Nat) : Int) = 8) := fun q => h5 ((zeq (z_nI (by omega)) (by decide)).mpr q)
                      first
                      | (exfalso; omega)
                      | skip
                        refine w_iconst (v := 1) dX11_readLine_88 (by decide) ?_
                        refine w_goto (tgt := 93) dX11_readLine_89 (by decide) ?_
                        refine w_iconst (v := 4) dX11_readLine_93 (by decide) ?_
                        refine w_callV (as := [vI (1), vI (4)]) (st := []) (Tri.mono (d_need1 (I := xup (xup I 30 0 0 15 (2)) 30 0 0 16 (nI st)) (4)) (Nat.le_of_ble_eq_true rfl)) rfl rfl tg_X11_needs lk_X11_115 in_X11_needs se_X11_needs rfl dX11_readLine_94 rfl (Nat.le_of_ble_eq_true rfl) (Nat.le_refl _) (Nat.le_refl _) ?_
                        rintro _ _ ⟨rfl, rfl⟩ -
                        refine w_aload_n dX11_readLine_97 rfl ?_
                        refine w_aload_n dX11_readLine_98 rfl ?_
                        refine w_getI ff_X11_54 rfl rfl dX11_readLine_99 ?_
                        rw [show ((xup (xup I 30 0 0 15 (2)) 30 0 0 16 (nI st)) 30 0 0 8 : Int32) = 1 from ((xup_slot (by decide)).trans ((xup_slot (by decide)).trans m8))]
                        refine w_if_ne (tgt := 111) dX11_readLine_102 (by decide) (fun _ => ?_) (fun h => absurd h (by decide))
                        refine w_iconst (v := 1) dX11_readLine_111 (by decide) ?_
                        refine w_goto (tgt := 116) dX11_readLine_112 (by decide) ?_
                        refine w_putI ff_X11_54 rfl rfl rfl rfl dX11_readLine_116 ?_
                        have hu0 : (if nJ a < 4 then (Sum.inr (so, (st, (nx, v))) : tS) else flT 5 (Sum.inr (so, (st, (nx, v))) : tS)) = (Sum.inl (2, st) : tS) := if_neg (by omega)
                        refine w_aload_n dX11_readLine_119 rfl ?_
                        refine w_callV (as := []) (st := []) (Tri.mono (d_take (I := xup (xup (xup I 30 0 0 15 (2)) 30 0 0 16 (nI st)) 30 0 0 8 (1)) hk (ht.y (((FrY.rf.up30 (by decide)).up30 (by decide)).up30 (by decide))) (s := (Sum.inl (2, st) : tS)) ⟨by show 1 ≤ 2; omega, by show 2 ≤ 5; omega, g5⟩ ⟨(xup_slot (by decide)).trans ((xup_slot (by decide)).trans xup_self), (xup_slot (by decide)).trans xup_self⟩) (Nat.le_of_ble_eq_true rfl)) rfl rfl tg_X11_takes lk_X11_119 in_X11_takes se_X11_takes rfl dX11_readLine_120 rfl (Nat.le_of_ble_eq_true rfl) (Nat.le_refl _) (Nat.le_refl _) ?_
                        rintro v M9 ⟨rfl, I1, rfl, t1, f1⟩ -
                        have fy : FrY I I1 := (((FrY.rf.up30 (by decide)).up30 (by decide)).up30 (by decide)).tr f1.y
                        have hm1 : DM I1 a true := (DM.t8 hm (I' := xup (xup (xup I 30 0 0 15 (2)) 30 0 0 16 (nI st)) 30 0 0 8 (1)) (fun x => (xup_tag (by decide)).trans ((xup_tag (by decide)).trans (xup_tag (by decide)))) (fun x hx => (xup_slot (by omega)).trans ((xup_slot (by omega)).trans (xup_slot (by omega)))) (xup_self.trans (by rfl))).n f1
                        have hou : OKT n (tkT n b (Sum.inl (2, st) : tS)) := tk_ok ⟨by show 1 ≤ 2; omega, by show 2 ≤ 5; omega, g5⟩
                        obtain ⟨u, hu⟩ : ∃ u, u = tkT n b (Sum.inl (2, st) : tS) := ⟨_, rfl⟩
                        rw [← hu] at t1 hou
                        have hu1 : tkT n b (if nJ a < 4 then (Sum.inr (so, (st, (nx, v))) : tS) else flT 5 (Sum.inr (so, (st, (nx, v))) : tS)) = u := by rw [hu0, hu]
                        rw [show bodyT n b w (Sum.inr (so, (st, (nx, v))) : tS) a true = _ from if_pos (by omega)]
                        unfold pLz uJ2 uJ1
                        rw [hu1]
                        rcases u with ⟨c, p⟩ | ⟨so2, st2, nx2, v2⟩
                        · skip
                          have q1 := hou.1
                          have q2 := hou.2.1
                          replace q1 : 1 ≤ c := q1
                          replace q2 : c ≤ 5 := q2
                          refine w_aload_n dX11_readLine_123 rfl ?_
                          refine w_getI ff_X11_73 rfl rfl dX11_readLine_124 ?_
                          rw [show (I1 30 0 0 15 : Int32) = nI c from t1.1]
                          refine w_if_le (tgt := 131) dX11_readLine_127 (by decide) (fun h1 => ?_) (fun h1 => ?_)
                          · skip
                            replace h1 : ((c : Nat) : Int) ≤ 0 := (zle (z_nI (by omega)) (by decide)).mp h1
                            first
                            | (exfalso; omega)
                            | skip
                              exfalso
                              omega
                          · skip
                            replace h1 : ¬ (((c : Nat) : Int) ≤ 0) := fun q => h1 ((zle (z_nI (by omega)) (by decide)).mpr q)
                            first
                            | (exfalso; omega)
                            | skip
                              exact w_return dX11_readLine_130 rfl rfl (⟨rfl, _, rfl, t1, fy, fun q z => by cases z⟩)
                        · skip
                          refine w_aload_n dX11_readLine_123 rfl ?_
                          refine w_getI ff_X11_73 rfl rfl dX11_readLine_124 ?_
                          rw [show (I1 30 0 0 15 : Int32) = 0 from t1.1]
                          refine w_if_le (tgt := 131) dX11_readLine_127 (by decide) (fun _ => ?_) (fun h => absurd (by decide) h)
                          refine w_aload_n dX11_readLine_131 rfl ?_
                          refine w_iload_n dX11_readLine_132 rfl ?_
                          cases hu
                    · skip
                      replace h5 : ((w : Nat) : Int) = 8 := (zeq (z_nI (by omega)) (by decide)).mp h5
                      first
                      | (exfalso; omega)
                      | skip
                        refine w_aload_n dX11_readLine_81 rfl ?_
                        refine w_getI ff_X11_54 rfl rfl dX11_readLine_82 ?_
                        rw [show ((xup (xup I 30 0 0 15 (2)) 30 0 0 16 (nI st)) 30 0 0 8 : Int32) = 1 from ((xup_slot (by decide)).trans ((xup_slot (by decide)).trans m8))]
                        refine w_if_ne (tgt := 92) dX11_readLine_85 (by decide) (fun _ => ?_) (fun h => absurd h (by decide))
                        refine w_iconst (v := 0) dX11_readLine_92 (by decide) ?_
                        refine w_iconst (v := 4) dX11_readLine_93 (by decide) ?_
                        refine w_callV (as := [vI (0), vI (4)]) (st := []) (Tri.mono (d_needD (I := xup (xup I 30 0 0 15 (2)) 30 0 0 16 (nI st)) (e := 2) ⟨by decide, by decide⟩ (((xup_slot (by decide)).trans xup_self).trans (by rfl)) (4)) (Nat.le_of_ble_eq_true rfl)) rfl rfl tg_X11_needs lk_X11_115 in_X11_needs se_X11_needs rfl dX11_readLine_94 rfl (Nat.le_of_ble_eq_true rfl) (Nat.le_refl _) (Nat.le_refl _) ?_
                        rintro _ _ ⟨rfl, rfl⟩ -
                        refine w_aload_n dX11_readLine_97 rfl ?_
                        refine w_aload_n dX11_readLine_98 rfl ?_
                        refine w_getI ff_X11_54 rfl rfl dX11_readLine_99 ?_
                        rw [show ((xup (xup I 30 0 0 15 (2)) 30 0 0 16 (nI st)) 30 0 0 8 : Int32) = 1 from ((xup_slot (by decide)).trans ((xup_slot (by decide)).trans m8))]
                        refine w_if_ne (tgt := 111) dX11_readLine_102 (by decide) (fun _ => ?_) (fun h => absurd h (by decide))
                        refine w_iconst (v := 1) dX11_readLine_111 (by decide) ?_
                        refine w_goto (tgt := 116) dX11_readLine_112 (by decide) ?_
                        refine w_putI ff_X11_54 rfl rfl rfl rfl dX11_readLine_116 ?_
                        have hu0 : (if nJ a < 4 then (Sum.inr (so, (st, (nx, v))) : tS) else flT 5 (Sum.inr (so, (st, (nx, v))) : tS)) = (Sum.inl (2, st) : tS) := if_neg (by omega)
                        refine w_aload_n dX11_readLine_119 rfl ?_
                        refine w_callV (as := []) (st := []) (Tri.mono (d_take (I := xup (xup (xup I 30 0 0 15 (2)) 30 0 0 16 (nI st)) 30 0 0 8 (1)) hk (ht.y (((FrY.rf.up30 (by decide)).up30 (by decide)).up30 (by decide))) (s := (Sum.inl (2, st) : tS)) ⟨by show 1 ≤ 2; omega, by show 2 ≤ 5; omega, g5⟩ ⟨(xup_slot (by decide)).trans ((xup_slot (by decide)).trans xup_self), (xup_slot (by decide)).trans xup_self⟩) (Nat.le_of_ble_eq_true rfl)) rfl rfl tg_X11_takes lk_X11_119 in_X11_takes se_X11_takes rfl dX11_readLine_120 rfl (Nat.le_of_ble_eq_true rfl) (Nat.le_refl _) (Nat.le_refl _) ?_
                        rintro v M9 ⟨rfl, I1, rfl, t1, f1⟩ -
                        have fy : FrY I I1 := (((FrY.rf.up30 (by decide)).up30 (by decide)).up30 (by decide)).tr f1.y
                        have hm1 : DM I1 a true := (DM.t8 hm (I' := xup (xup (xup I 30 0 0 15 (2)) 30 0 0 16 (nI st)) 30 0 0 8 (1)) (fun x => (xup_tag (by decide)).trans ((xup_tag (by decide)).trans (xup_tag (by decide)))) (fun x hx => (xup_slot (by omega)).trans ((xup_slot (by omega)).trans (xup_slot (by omega)))) (xup_self.trans (by rfl))).n f1
                        have hou : OKT n (tkT n b (Sum.inl (2, st) : tS)) := tk_ok ⟨by show 1 ≤ 2; omega, by show 2 ≤ 5; omega, g5⟩
                        obtain ⟨u, hu⟩ : ∃ u, u = tkT n b (Sum.inl (2, st) : tS) := ⟨_, rfl⟩
                        rw [← hu] at t1 hou
                        have hu1 : tkT n b (if nJ a < 4 then (Sum.inr (so, (st, (nx, v))) : tS) else flT 5 (Sum.inr (so, (st, (nx, v))) : tS)) = u := by rw [hu0, hu]
                        rw [show bodyT n b w (Sum.inr (so, (st, (nx, v))) : tS) a true = _ from if_pos (by omega)]
                        unfold pLz uJ2 uJ1
                        rw [hu1]
                        rcases u with ⟨c, p⟩ | ⟨so2, st2, nx2, v2⟩
                        · skip
                          have q1 := hou.1
                          have q2 := hou.2.1
                          replace q1 : 1 ≤ c := q1
                          replace q2 : c ≤ 5 := q2
                          refine w_aload_n dX11_readLine_123 rfl ?_
                          refine w_getI ff_X11_73 rfl rfl dX11_readLine_124 ?_
                          rw [show (I1 30 0 0 15 : Int32) = nI c from t1.1]
                          refine w_if_le (tgt := 131) dX11_readLine_127 (by decide) (fun h1 => ?_) (fun h1 => ?_)
                          · skip
                            replace h1 : ((c : Nat) : Int) ≤ 0 := (zle (z_nI (by omega)) (by decide)).mp h1
                            first
                            | (exfalso; omega)
                            | skip
                              exfalso
                              omega
                          · skip
                            replace h1 : ¬ (((c : Nat) : Int) ≤ 0) := fun q => h1 ((zle (z_nI (by omega)) (by decide)).mpr q)
                            first
                            | (exfalso; omega)
                            | skip
                              exact w_return dX11_readLine_130 rfl rfl (⟨rfl, _, rfl, t1, fy, fun q z => by cases z⟩)
                        · skip
                          refine w_aload_n dX11_readLine_123 rfl ?_
                          refine w_getI ff_X11_73 rfl rfl dX11_readLine_124 ?_
                          rw [show (I1 30 0 0 15 : Int32) = 0 from t1.1]
                          refine w_if_le (tgt := 131) dX11_readLine_127 (by decide) (fun _ => ?_) (fun h => absurd (by decide) h)
                          refine w_aload_n dX11_readLine_131 rfl ?_
                          refine w_iload_n dX11_readLine_132 rfl ?_
                          cases hu
    · skip
      replace h1 : ¬ (((w : Nat) : Int) = (-4)) := fun q => h1 ((zeq (z_nI (by omega)) (by decide)).mpr q)
      first
      | (exfalso; omega)
      | skip
        refine w_iconst (v := 1) dX11_readLine_25 (by decide) ?_
        refine w_goto (tgt := 30) dX11_readLine_26 (by decide) ?_
        refine w_iconst (v := 2) dX11_readLine_30 (by decide) ?_
        refine w_callV (as := [vI (1), vI (2)]) (st := []) (Tri.mono (d_need1 (I := I) (2)) (Nat.le_of_ble_eq_true rfl)) rfl rfl tg_X11_needs lk_X11_115 in_X11_needs se_X11_needs rfl dX11_readLine_31 rfl (Nat.le_of_ble_eq_true rfl) (Nat.le_refl _) (Nat.le_refl _) ?_
        rintro _ _ ⟨rfl, rfl⟩ -
        refine w_aload_n dX11_readLine_34 rfl ?_
        refine w_iload_n dX11_readLine_35 rfl ?_
        refine w_bipush (v := 8) dX11_readLine_36 (by decide) ?_
        refine w_icmp_eq (tgt := 65) dX11_readLine_38 (by decide) (fun h2 => ?_) (fun h2 => ?_)
        · skip
          replace h2 : ((w : Nat) : Int) = 8 := (zeq (z_nI (by omega)) (by decide)).mp h2
          first
          | (exfalso; omega)
          | skip
            refine w_iconst (v := 1) dX11_readLine_65 (by decide) ?_
            refine w_goto (tgt := 70) dX11_readLine_66 (by decide) ?_
            refine w_iconst (v := 5) dX11_readLine_70 (by decide) ?_
            refine w_callV (as := [vI (1), vI (5)]) (st := []) (Tri.mono (d_need1 (I := I) (5)) (Nat.le_of_ble_eq_true rfl)) rfl rfl tg_X11_needs lk_X11_115 in_X11_needs se_X11_needs rfl dX11_readLine_71 rfl (Nat.le_of_ble_eq_true rfl) (Nat.le_refl _) (Nat.le_refl _) ?_
            rintro _ _ ⟨rfl, rfl⟩ -
            refine w_aload_n dX11_readLine_74 rfl ?_
            refine w_iload_n dX11_readLine_75 rfl ?_
            refine w_bipush (v := 8) dX11_readLine_76 (by decide) ?_
            refine w_icmp_ne (tgt := 88) dX11_readLine_78 (by decide) (fun h3 => ?_) (fun h3 => ?_)
            · skip
              replace h3 : ¬ (((w : Nat) : Int) = 8) := fun q => h3 ((zeq (z_nI (by omega)) (by decide)).mpr q)
              first
              | (exfalso; omega)
              | skip
                refine w_iconst (v := 1) dX11_readLine_88 (by decide) ?_
                refine w_goto (tgt := 93) dX11_readLine_89 (by decide) ?_
                refine w_iconst (v := 4) dX11_readLine_93 (by decide) ?_
                refine w_callV (as := [vI (1), vI (4)]) (st := []) (Tri.mono (d_need1 (I := I) (4)) (Nat.le_of_ble_eq_true rfl)) rfl rfl tg_X11_needs lk_X11_115 in_X11_needs se_X11_needs rfl dX11_readLine_94 rfl (Nat.le_of_ble_eq_true rfl) (Nat.le_refl _) (Nat.le_refl _) ?_
                rintro _ _ ⟨rfl, rfl⟩ -
                refine w_aload_n dX11_readLine_97 rfl ?_
                refine w_aload_n dX11_readLine_98 rfl ?_
                refine w_getI ff_X11_54 rfl rfl dX11_readLine_99 ?_
                rw [show (I 30 0 0 8 : Int32) = 1 from m8]
                refine w_if_ne (tgt := 111) dX11_readLine_102 (by decide) (fun _ => ?_) (fun h => absurd h (by decide))
                refine w_iconst (v := 1) dX11_readLine_111 (by decide) ?_
                refine w_goto (tgt := 116) dX11_readLine_112 (by decide) ?_
                refine w_putI ff_X11_54 rfl rfl rfl rfl dX11_readLine_116 ?_
                have hu0 : (if nJ a < 4 then (Sum.inr (so, (st, (nx, v))) : tS) else flT 5 (Sum.inr (so, (st, (nx, v))) : tS)) = (Sum.inr (so, (st, (nx, v))) : tS) := if_pos (by omega)
                refine w_aload_n dX11_readLine_119 rfl ?_
                refine w_callV (as := []) (st := []) (Tri.mono (d_take (I := xup I 30 0 0 8 (1)) hk (ht.y (FrY.rf.up30 (by decide))) (s := (Sum.inr (so, (st, (nx, v))) : tS)) hok (h.eqv (fun x hx => xup_slot (by omega)))) (Nat.le_of_ble_eq_true rfl)) rfl rfl tg_X11_takes lk_X11_119 in_X11_takes se_X11_takes rfl dX11_readLine_120 rfl (Nat.le_of_ble_eq_true rfl) (Nat.le_refl _) (Nat.le_refl _) ?_
                rintro v M9 ⟨rfl, I1, rfl, t1, f1⟩ -
                have fy : FrY I I1 := (FrY.rf.up30 (by decide)).tr f1.y
                have hm1 : DM I1 a true := (DM.t8 hm (I' := xup I 30 0 0 8 (1)) (fun x => xup_tag (by decide)) (fun x hx => xup_slot (by omega)) (xup_self.trans (by rfl))).n f1
                have hou : OKT n (tkT n b (Sum.inr (so, (st, (nx, v))) : tS)) := tk_ok hok
                obtain ⟨u, hu⟩ : ∃ u, u = tkT n b (Sum.inr (so, (st, (nx, v))) : tS) := ⟨_, rfl⟩
                rw [← hu] at t1 hou
                have hu1 : tkT n b (if nJ a < 4 then (Sum.inr (so, (st, (nx, v))) : tS) else flT 5 (Sum.inr (so, (st, (nx, v))) : tS)) = u := by rw [hu0, hu]
                rw [show bodyT n b w (Sum.inr (so, (st, (nx, v))) : tS) a true = _ from if_pos (by omega)]
                unfold pLz uJ2 uJ1
                rw [hu1]
                rcases u with ⟨c, p⟩ | ⟨so2, st2, nx2, v2⟩
                · skip
                  have q1 := hou.1
                  have q2 := hou.2.1
                  replace q1 : 1 ≤ c := q1
                  replace q2 : c ≤ 5 := q2
                  refine w_aload_n dX11_readLine_123 rfl ?_
                  refine w_getI ff_X11_73 rfl rfl dX11_readLine_124 ?_
                  rw [show (I1 30 0 0 15 : Int32) = nI c from t1.1]
                  refine w_if_le (tgt := 131) dX11_readLine_127 (by decide) (fun h1 => ?_) (fun h1 => ?_)
                  · skip
                    replace h1 : ((c : Nat) : Int) ≤ 0 := (zle (z_nI (by omega)) (by decide)).mp h1
                    first
                    | (exfalso; omega)
                    | skip
                      exfalso
                      omega
                  · skip
                    replace h1 : ¬ (((c : Nat) : Int) ≤ 0) := fun q => h1 ((zle (z_nI (by omega)) (by decide)).mpr q)
                    first
                    | (exfalso; omega)
                    | skip
                      exact w_return dX11_readLine_130 rfl rfl (⟨rfl, _, rfl, t1, fy, fun q z => by cases z⟩)
                · skip
                  refine w_aload_n dX11_readLine_123 rfl ?_
                  refine w_getI ff_X11_73 rfl rfl dX11_readLine_124 ?_
                  rw [show (I1 30 0 0 15 : Int32) = 0 from t1.1]
                  refine w_if_le (tgt := 131) dX11_readLine_127 (by decide) (fun _ => ?_) (fun h => absurd (by decide) h)
                  refine w_aload_n dX11_readLine_131 rfl ?_
                  refine w_iload_n dX11_readLine_132 rfl ?_
                  refine w_callV (as := [vI (nI w)]) (st := []) (Tri.mono (d_lineJ hk (ht.y fy) hou t1 hd hm1 (by omega) (by omega)) (Nat.le_of_ble_eq_true rfl)) rfl rfl tg_X11_readLineOf lk_X11_133 in_X11_readLineOf se_X11_readLineOf rfl dX11_readLine_133 rfl (Nat.le_of_ble_eq_true rfl) (Nat.le_refl _) (Nat.le_refl _) ?_
                  rintro v M9 ⟨rfl, I2, rfl, t2, f2, m2⟩ -
                  exact l_rdEnd hk (ht.y (fy.tr f2)) (tk_ok (ch_ok (tk_ok (ch_ok hou)))) t2 (fun I3 t3 f3 => ⟨rfl, _, rfl, t3, fy.tr (f2.tr f3.y), fun q z => m2.n f3⟩)
            · skip
              replace h3 : ((w : Nat) : Int) = 8 := (zeq (z_nI (by omega)) (by decide)).mp h3
              first
              | (exfalso; omega)
              | skip
                refine w_aload_n dX11_readLine_81 rfl ?_
                refine w_getI ff_X11_54 rfl rfl dX11_readLine_82 ?_
                rw [show (I 30 0 0 8 : Int32) = 1 from m8]
                refine w_if_ne (tgt := 92) dX11_readLine_85 (by decide) (fun _ => ?_) (fun h => absurd h (by decide))
                refine w_iconst (v := 0) dX11_readLine_92 (by decide) ?_
                refine w_iconst (v := 4) dX11_readLine_93 (by decide) ?_
                refine w_callV (as := [vI (0), vI (4)]) (st := []) (Tri.mono (d_needL (I := I) h.1 h.2.2.1 (4)) (Nat.le_of_ble_eq_true rfl)) rfl rfl tg_X11_needs lk_X11_115 in_X11_needs se_X11_needs rfl dX11_readLine_94 rfl (Nat.le_of_ble_eq_true rfl) (Nat.le_refl _) (Nat.le_refl _) ?_
                rintro _ _ ⟨rfl, rfl⟩ -
                refine w_aload_n dX11_readLine_97 rfl ?_
                refine w_aload_n dX11_readLine_98 rfl ?_
                refine w_getI ff_X11_54 rfl rfl dX11_readLine_99 ?_
                rw [show ((xup (xup I 30 0 0 15 (4)) 30 0 0 16 (nI st)) 30 0 0 8 : Int32) = 1 from ((xup_slot (by decide)).trans ((xup_slot (by decide)).trans m8))]
                refine w_if_ne (tgt := 111) dX11_readLine_102 (by decide) (fun _ => ?_) (fun h => absurd h (by decide))
                refine w_iconst (v := 1) dX11_readLine_111 (by decide) ?_
                refine w_goto (tgt := 116) dX11_readLine_112 (by decide) ?_
                refine w_putI ff_X11_54 rfl rfl rfl rfl dX11_readLine_116 ?_
                have hu0 : (if nJ a < 4 then (Sum.inr (so, (st, (nx, v))) : tS) else flT 5 (Sum.inr (so, (st, (nx, v))) : tS)) = (Sum.inl (4, st) : tS) := if_neg (by omega)
                refine w_aload_n dX11_readLine_119 rfl ?_
                refine w_callV (as := []) (st := []) (Tri.mono (d_take (I := xup (xup (xup I 30 0 0 15 (4)) 30 0 0 16 (nI st)) 30 0 0 8 (1)) hk (ht.y (((FrY.rf.up30 (by decide)).up30 (by decide)).up30 (by decide))) (s := (Sum.inl (4, st) : tS)) ⟨by show 1 ≤ 4; omega, by show 4 ≤ 5; omega, g5⟩ ⟨(xup_slot (by decide)).trans ((xup_slot (by decide)).trans xup_self), (xup_slot (by decide)).trans xup_self⟩) (Nat.le_of_ble_eq_true rfl)) rfl rfl tg_X11_takes lk_X11_119 in_X11_takes se_X11_takes rfl dX11_readLine_120 rfl (Nat.le_of_ble_eq_true rfl) (Nat.le_refl _) (Nat.le_refl _) ?_
                rintro v M9 ⟨rfl, I1, rfl, t1, f1⟩ -
                have fy : FrY I I1 := (((FrY.rf.up30 (by decide)).up30 (by decide)).up30 (by decide)).tr f1.y
                have hm1 : DM I1 a true := (DM.t8 hm (I' := xup (xup (xup I 30 0 0 15 (4)) 30 0 0 16 (nI st)) 30 0 0 8 (1)) (fun x => (xup_tag (by decide)).trans ((xup_tag (by decide)).trans (xup_tag (by decide)))) (fun x hx => (xup_slot (by omega)).trans ((xup_slot (by omega)).trans (xup_slot (by omega)))) (xup_self.trans (by rfl))).n f1
                have hou : OKT n (tkT n b (Sum.inl (4, st) : tS)) := tk_ok ⟨by show 1 ≤ 4; omega, by show 4 ≤ 5; omega, g5⟩
                obtain ⟨u, hu⟩ : ∃ u, u = tkT n b (Sum.inl (4, st) : tS) := ⟨_, rfl⟩
                rw [← hu] at t1 hou
                have hu1 : tkT n b (if nJ a < 4 then (Sum.inr (so, (st, (nx, v))) : tS) else flT 5 (Sum.inr (so, (st, (nx, v))) : tS)) = u := by rw [hu0, hu]
                rw [show bodyT n b w (Sum.inr (so, (st, (nx, v))) : tS) a true = _ from if_pos (by omega)]
                unfold pLz uJ2 uJ1
                rw [hu1]
                rcases u with ⟨c, p⟩ | ⟨so2, st2, nx2, v2⟩
                · skip
                  have q1 := hou.1
                  have q2 := hou.2.1
                  replace q1 : 1 ≤ c := q1
                  replace q2 : c ≤ 5 := q2
                  refine w_aload_n dX11_readLine_123 rfl ?_
                  refine w_getI ff_X11_73 rfl rfl dX11_readLine_124 ?_
                  rw [show (I1 30 0 0 15 : Int32) = nI c from t1.1]
                  refine w_if_le (tgt := 131) dX11_readLine_127 (by decide) (fun h1 => ?_) (fun h1 => ?_)
                  · skip
                    replace h1 : ((c : Nat) : Int) ≤ 0 := (zle (z_nI (by omega)) (by decide)).mp h1
                    first
                    | (exfalso; omega)
                    | skip
                      exfalso
                      omega
                  · skip
                    replace h1 : ¬ (((c : Nat) : Int) ≤ 0) := fun q => h1 ((zle (z_nI (by omega)) (by decide)).mpr q)
                    first
                    | (exfalso; omega)
                    | skip
                      exact w_return dX11_readLine_130 rfl rfl (⟨rfl, _, rfl, t1, fy, fun q z => by cases z⟩)
                · skip
                  refine w_aload_n dX11_readLine_123 rfl ?_
                  refine w_getI ff_X11_73 rfl rfl dX11_readLine_124 ?_
                  rw [show (I1 30 0 0 15 : Int32) = 0 from t1.1]
                  refine w_if_le (tgt := 131) dX11_readLine_127 (by decide) (fun _ => ?_) (fun h => absurd (by decide) h)
                  refine w_aload_n dX11_readLine_131 rfl ?_
                  refine w_iload_n dX11_readLine_132 rfl ?_
                  cases hu
        · skip
          replace h2 : ¬ (((w : Nat) : Int) = 8) := fun q => h2 ((zeq (z_nI (by omega)) (by decide)).mpr q)
          first
          | (exfalso; omega)
          | skip
            refine w_iload_n dX11_readLine_41 rfl ?_
            refine w_iconst (v := 4) dX11_readLine_42 (by decide) ?_
            refine w_icmp_lt (tgt := 57) dX11_readLine_43 (by decide) (fun h3 => ?_) (fun h3 => ?_)
            · skip
              replace h3 : ((w : Nat) : Int) < 4 := (zlt (z_nI (by omega)) (by decide)).mp h3
              first
              | (exfalso; omega)
              | skip
                refine w_aload_n dX11_readLine_57 rfl ?_
                refine w_getI ff_X11_47 rfl rfl dX11_readLine_58 ?_
                rw [show (I 30 0 0 6 : Int32) = nI (nJ a) from m6]
                refine w_iconst (v := 4) dX11_readLine_61 (by decide) ?_
                refine w_icmp_ge (tgt := 69) dX11_readLine_62 (by decide) (fun h4 => ?_) (fun h4 => ?_)
                · skip
                  replace h4 : 4 ≤ ((nJ a : Nat) : Int) := (zle (by decide) (z_nI (by omega))).mp h4
                  first
                  | (exfalso; omega)
                  | skip
                    refine w_iconst (v := 0) dX11_readLine_69 (by decide) ?_
                    refine w_iconst (v := 5) dX11_readLine_70 (by decide) ?_
                    refine w_callV (as := [vI (0), vI (5)]) (st := []) (Tri.mono (d_needL (I := I) h.1 h.2.2.1 (5)) (Nat.le_of_ble_eq_true rfl)) rfl rfl tg_X11_needs lk_X11_115 in_X11_needs se_X11_needs rfl dX11_readLine_71 rfl (Nat.le_of_ble_eq_true rfl) (Nat.le_refl _) (Nat.le_refl _) ?_
                    rintro _ _ ⟨rfl, rfl⟩ -
                    refine w_aload_n dX11_readLine_74 rfl ?_
                    refine w_iload_n dX11_readLine_75 rfl ?_
                    refine w_bipush (v := 8) dX11_readLine_76 (by decide) ?_
                    refine w_icmp_ne (tgt := 88) dX11_readLine_78 (by decide) (fun h5 => ?_) (fun h5 => ?_)
                    · skip
                      replace h5 : ¬ (((w : Nat) : Int) = 8) := fun q => h5 ((zeq (z_nI (by omega)) (by decide)).mpr q)
                      first
                      | (exfalso; omega)
                      | skip
                        refine w_iconst (v := 1) dX11_readLine_88 (by decide) ?_
                        refine w_goto (tgt := 93) dX11_readLine_89 (by decide) ?_
                        refine w_iconst (v := 4) dX11_readLine_93 (by decide) ?_
                        refine w_callV (as := [vI (1), vI (4)]) (st := []) (Tri.mono (d_need1 (I := xup (xup I 30 0 0 15 (5)) 30 0 0 16 (nI st)) (4)) (Nat.le_of_ble_eq_true rfl)) rfl rfl tg_X11_needs lk_X11_115 in_X11_needs se_X11_needs rfl dX11_readLine_94 rfl (Nat.le_of_ble_eq_true rfl) (Nat.le_refl _) (Nat.le_refl _) ?_
                        rintro _ _ ⟨rfl, rfl⟩ -
                        refine w_aload_n dX11_readLine_97 rfl ?_
                        refine w_aload_n dX11_readLine_98 rfl ?_
                        refine w_getI ff_X11_54 rfl rfl dX11_readLine_99 ?_
                        rw [show ((xup (xup I 30 0 0 15 (5)) 30 0 0 16 (nI st)) 30 0 0 8 : Int32) = 1 from ((xup_slot (by decide)).trans ((xup_slot (by decide)).trans m8))]
                        refine w_if_ne (tgt := 111) dX11_readLine_102 (by decide) (fun _ => ?_) (fun h => absurd h (by decide))
                        refine w_iconst (v := 1) dX11_readLine_111 (by decide) ?_
                        refine w_goto (tgt := 116) dX11_readLine_112 (by decide) ?_
                        refine w_putI ff_X11_54 rfl rfl rfl rfl dX11_readLine_116 ?_
                        have hu0 : (if nJ a < 4 then (Sum.inr (so, (st, (nx, v))) : tS) else flT 5 (Sum.inr (so, (st, (nx, v))) : tS)) = (Sum.inl (5, st) : tS) := if_neg (by omega)
                        refine w_aload_n dX11_readLine_119 rfl ?_
                        refine w_callV (as := []) (st := []) (Tri.mono (d_take (I := xup (xup (xup I 30 0 0 15 (5)) 30 0 0 16 (nI st)) 30 0 0 8 (1)) hk (ht.y (((FrY.rf.up30 (by decide)).up30 (by decide)).up30 (by decide))) (s := (Sum.inl (5, st) : tS)) ⟨by show 1 ≤ 5; omega, by show 5 ≤ 5; omega, g5⟩ ⟨(xup_slot (by decide)).trans ((xup_slot (by decide)).trans xup_self), (xup_slot (by decide)).trans xup_self⟩) (Nat.le_of_ble_eq_true rfl)) rfl rfl tg_X11_takes lk_X11_119 in_X11_takes se_X11_takes rfl dX11_readLine_120 rfl (Nat.le_of_ble_eq_true rfl) (Nat.le_refl _) (Nat.le_refl _) ?_
                        rintro v M9 ⟨rfl, I1, rfl, t1, f1⟩ -
                        have fy : FrY I I1 := (((FrY.rf.up30 (by decide)).up30 (by decide)).up30 (by decide)).tr f1.y
                        have hm1 : DM I1 a true := (DM.t8 hm (I' := xup (xup (xup I 30 0 0 15 (5)) 30 0 0 16 (nI st)) 30 0 0 8 (1)) (fun x => (xup_tag (by decide)).trans ((xup_tag (by decide)).trans (xup_tag (by decide)))) (fun x hx => (xup_slot (by omega)).trans ((xup_slot (by omega)).trans (xup_slot (by omega)))) (xup_self.trans (by rfl))).n f1
                        have hou : OKT n (tkT n b (Sum.inl (5, st) : tS)) := tk_ok ⟨by show 1 ≤ 5; omega, by show 5 ≤ 5; omega, g5⟩
                        obtain ⟨u, hu⟩ : ∃ u, u = tkT n b (Sum.inl (5, st) : tS) := ⟨_, rfl⟩
                        rw [← hu] at t1 hou
                        have hu1 : tkT n b (if nJ a < 4 then (Sum.inr (so, (st, (nx, v))) : tS) else flT 5 (Sum.inr (so, (st, (nx, v))) : tS)) = u := by rw [hu0, hu]
                        rw [show bodyT n b w (Sum.inr (so, (st, (nx, v))) : tS) a true = _ from if_pos (by omega)]
                        unfold pLz uJ2 uJ1
                        rw [hu1]
                        rcases u with ⟨c, p⟩ | ⟨so2, st2, nx2, v2⟩
                        · skip
                          have q1 := hou.1
                          have q2 := hou.2.1
                          replace q1 : 1 ≤ c := q1
                          replace q2 : c ≤ 5 := q2
                          refine w_aload_n dX11_readLine_123 rfl ?_
                          refine w_getI ff_X11_73 rfl rfl dX11_readLine_124 ?_
                          rw [show (I1 30 0 0 15 : Int32) = nI c from t1.1]
                          refine w_if_le (tgt := 131) dX11_readLine_127 (by decide) (fun h1 => ?_) (fun h1 => ?_)
                          · skip
                            replace h1 : ((c : Nat) : Int) ≤ 0 := (zle (z_nI (by omega)) (by decide)).mp h1
                            first
                            | (exfalso; omega)
                            | skip
                              exfalso
                              omega
                          · skip
                            replace h1 : ¬ (((c : Nat) : Int) ≤ 0) := fun q => h1 ((zle (z_nI (by omega)) (by decide)).mpr q)
                            first
                            | (exfalso; omega)
                            | skip
                              exact w_return dX11_readLine_130 rfl rfl (⟨rfl, _, rfl, t1, fy, fun q z => by cases z⟩)
                        · skip
                          refine w_aload_n dX11_readLine_123 rfl ?_
                          refine w_getI ff_X11_73 rfl rfl dX11_readLine_124 ?_
                          rw [show (I1 30 0 0 15 : Int32) = 0 from t1.1]
                          refine w_if_le (tgt := 131) dX11_readLine_127 (by decide) (fun _ => ?_) (fun h => absurd (by decide) h)
                          refine w_aload_n dX11_readLine_131 rfl ?_
                          refine w_iload_n dX11_readLine_132 rfl ?_
                          cases hu
                    · skip
                      replace h5 : ((w : Nat) : Int) = 8 := (zeq (z_nI (by omega)) (by decide)).mp h5
                      first
                      | (exfalso; omega)
                      | skip
                        refine w_aload_n dX11_readLine_81 rfl ?_
                        refine w_getI ff_X11_54 rfl rfl dX11_readLine_82 ?_
                        rw [show ((xup (xup I 30 0 0 15 (5)) 30 0 0 16 (nI st)) 30 0 0 8 : Int32) = 1 from ((xup_slot (by decide)).trans ((xup_slot (by decide)).trans m8))]
                        refine w_if_ne (tgt := 92) dX11_readLine_85 (by decide) (fun _ => ?_) (fun h => absurd h (by decide))
                        refine w_iconst (v := 0) dX11_readLine_92 (by decide) ?_
                        refine w_iconst (v := 4) dX11_readLine_93 (by decide) ?_
                        refine w_callV (as := [vI (0), vI (4)]) (st := []) (Tri.mono (d_needD (I := xup (xup I 30 0 0 15 (5)) 30 0 0 16 (nI st)) (e := 5) ⟨by decide, by decide⟩ (((xup_slot (by decide)).trans xup_self).trans (by rfl)) (4)) (Nat.le_of_ble_eq_true rfl)) rfl rfl tg_X11_needs lk_X11_115 in_X11_needs se_X11_needs rfl dX11_readLine_94 rfl (Nat.le_of_ble_eq_true rfl) (Nat.le_refl _) (Nat.le_refl _) ?_
                        rintro _ _ ⟨rfl, rfl⟩ -
                        refine w_aload_n dX11_readLine_97 rfl ?_
                        refine w_aload_n dX11_readLine_98 rfl ?_
                        refine w_getI ff_X11_54 rfl rfl dX11_readLine_99 ?_
                        rw [show ((xup (xup I 30 0 0 15 (5)) 30 0 0 16 (nI st)) 30 0 0 8 : Int32) = 1 from ((xup_slot (by decide)).trans ((xup_slot (by decide)).trans m8))]
                        refine w_if_ne (tgt := 111) dX11_readLine_102 (by decide) (fun _ => ?_) (fun h => absurd h (by decide))
                        refine w_iconst (v := 1) dX11_readLine_111 (by decide) ?_
                        refine w_goto (tgt := 116) dX11_readLine_112 (by decide) ?_
                        refine w_putI ff_X11_54 rfl rfl rfl rfl dX11_readLine_116 ?_
                        have hu0 : (if nJ a < 4 then (Sum.inr (so, (st, (nx, v))) : tS) else flT 5 (Sum.inr (so, (st, (nx, v))) : tS)) = (Sum.inl (5, st) : tS) := if_neg (by omega)
                        refine w_aload_n dX11_readLine_119 rfl ?_
                        refine w_callV (as := []) (st := []) (Tri.mono (d_take (I := xup (xup (xup I 30 0 0 15 (5)) 30 0 0 16 (nI st)) 30 0 0 8 (1)) hk (ht.y (((FrY.rf.up30 (by decide)).up30 (by decide)).up30 (by decide))) (s := (Sum.inl (5, st) : tS)) ⟨by show 1 ≤ 5; omega, by show 5 ≤ 5; omega, g5⟩ ⟨(xup_slot (by decide)).trans ((xup_slot (by decide)).trans xup_self), (xup_slot (by decide)).trans xup_self⟩) (Nat.le_of_ble_eq_true rfl)) rfl rfl tg_X11_takes lk_X11_119 in_X11_takes se_X11_takes rfl dX11_readLine_120 rfl (Nat.le_of_ble_eq_true rfl) (Nat.le_refl _) (Nat.le_refl _) ?_
                        rintro v M9 ⟨rfl, I1, rfl, t1, f1⟩ -
                        have fy : FrY I I1 := (((FrY.rf.up30 (by decide)).up30 (by decide)).up30 (by decide)).tr f1.y
                        have hm1 : DM I1 a true := (DM.t8 hm (I' := xup (xup (xup I 30 0 0 15 (5)) 30 0 0 16 (nI st)) 30 0 0 8 (1)) (fun x => (xup_tag (by decide)).trans ((xup_tag (by decide)).trans (xup_tag (by decide)))) (fun x hx => (xup_slot (by omega)).trans ((xup_slot (by omega)).trans (xup_slot (by omega)))) (xup_self.trans (by rfl))).n f1
                        have hou : OKT n (tkT n b (Sum.inl (5, st) : tS)) := tk_ok ⟨by show 1 ≤ 5; omega, by show 5 ≤ 5; omega, g5⟩
                        obtain ⟨u, hu⟩ : ∃ u, u = tkT n b (Sum.inl (5, st) : tS) := ⟨_, rfl⟩
                        rw [← hu] at t1 hou
                        have hu1 : tkT n b (if nJ a < 4 then (Sum.inr (so, (st, (nx, v))) : tS) else flT 5 (Sum.inr (so, (st, (nx, v))) : tS)) = u := by rw [hu0, hu]
                        rw [show bodyT n b w (Sum.inr (so, (st, (nx, v))) : tS) a true = _ from if_pos (by omega)]
                        unfold pLz uJ2 uJ1
                        rw [hu1]
                        rcases u with ⟨c, p⟩ | ⟨so2, st2, nx2, v2⟩
                        · skip
                          have q1 := hou.1
                          have q2 := hou.2.1
                          replace q1 : 1 ≤ c := q1
                          replace q2 : c ≤ 5 := q2
                          refine w_aload_n dX11_readLine_123 rfl ?_
                          refine w_getI ff_X11_73 rfl rfl dX11_readLine_124 ?_
                          rw [show (I1 30 0 0 15 : Int32) = nI c from t1.1]
                          refine w_if_le (tgt := 131) dX11_readLine_127 (by decide) (fun h1 => ?_) (fun h1 => ?_)
                          · skip
                            replace h1 : ((c : Nat) : Int) ≤ 0 := (zle (z_nI (by omega)) (by decide)).mp h1
                            first
                            | (exfalso; omega)
                            | skip
                              exfalso
                              omega
                          · skip
                            replace h1 : ¬ (((c : Nat) : Int) ≤ 0) := fun q => h1 ((zle (z_nI (by omega)) (by decide)).mpr q)
                            first
                            | (exfalso; omega)
                            | skip
                              exact w_return dX11_readLine_130 rfl rfl (⟨rfl, _, rfl, t1, fy, fun q z => by cases z⟩)
                        · skip
                          refine w_aload_n dX11_readLine_123 rfl ?_
                          refine w_getI ff_X11_73 rfl rfl dX11_readLine_124 ?_
                          rw [show (I1 30 0 0 15 : Int32) = 0 from t1.1]
                          refine w_if_le (tgt := 131) dX11_readLine_127 (by decide) (fun _ => ?_) (fun h => absurd (by decide) h)
                          refine w_aload_n dX11_readLine_131 rfl ?_
                          refine w_iload_n dX11_readLine_132 rfl ?_
                          cases hu
                · skip
                  replace h4 : ¬ (4 ≤ ((nJ a : Nat) : Int)) := fun q => h4 ((zle (by decide) (z_nI (by omega))).mpr q)
                  first
                  | (exfalso; omega)
                  | skip
                    refine w_iconst (v := 1) dX11_readLine_65 (by decide) ?_
                    refine w_goto (tgt := 70) dX11_readLine_66 (by decide) ?_
                    refine w_iconst (v := 5) dX11_readLine_70 (by decide) ?_
                    refine w_callV (as := [vI (1), vI (5)]) (st := []) (Tri.mono (d_need1 (I := I) (5)) (Nat.le_of_ble_eq_true rfl)) rfl rfl tg_X11_needs lk_X11_115 in_X11_needs se_X11_needs rfl dX11_readLine_71 rfl (Nat.le_of_ble_eq_true rfl) (Nat.le_refl _) (Nat.le_refl _) ?_
                    rintro _ _ ⟨rfl, rfl⟩ -
                    refine w_aload_n dX11_readLine_74 rfl ?_
                    refine w_iload_n dX11_readLine_75 rfl ?_
                    refine w_bipush (v := 8) dX11_readLine_76 (by decide) ?_
                    refine w_icmp_ne (tgt := 88) dX11_readLine_78 (by decide) (fun h5 => ?_) (fun h5 => ?_)
                    · skip
                      replace h5 : ¬ (((w : Nat) : Int) = 8) := fun q => h5 ((zeq (z_nI (by omega)) (by decide)).mpr q)
                      first
                      | (exfalso; omega)
                      | skip
                        refine w_iconst (v := 1) dX11_readLine_88 (by decide) ?_
                        refine w_goto (tgt := 93) dX11_readLine_89 (by decide) ?_
                        refine w_iconst (v := 4) dX11_readLine_93 (by decide) ?_
                        refine w_callV (as := [vI (1), vI (4)]) (st := []) (Tri.mono (d_need1 (I := I) (4)) (Nat.le_of_ble_eq_true rfl)) rfl rfl tg_X11_needs lk_X11_115 in_X11_needs se_X11_needs rfl dX11_readLine_94 rfl (Nat.le_of_ble_eq_true rfl) (Nat.le_refl _) (Nat.le_refl _) ?_
                        rintro _ _ ⟨rfl, rfl⟩ -
                        refine w_aload_n dX11_readLine_97 rfl ?_
                        refine w_aload_n dX11_readLine_98 rfl ?_
                        refine w_getI ff_X11_54 rfl rfl dX11_readLine_99 ?_
                        rw [show (I 30 0 0 8 : Int32) = 1 from m8]
                        refine w_if_ne (tgt := 111) dX11_readLine_102 (by decide) (fun _ => ?_) (fun h => absurd h (by decide))
                        refine w_iconst (v := 1) dX11_readLine_111 (by decide) ?_
                        refine w_goto (tgt := 116) dX11_readLine_112 (by decide) ?_
                        refine w_putI ff_X11_54 rfl rfl rfl rfl dX11_readLine_116 ?_
                        have hu0 : (if nJ a < 4 then (Sum.inr (so, (st, (nx, v))) : tS) else flT 5 (Sum.inr (so, (st, (nx, v))) : tS)) = (Sum.inr (so, (st, (nx, v))) : tS) := if_pos (by omega)
                        refine w_aload_n dX11_readLine_119 rfl ?_
                        refine w_callV (as := []) (st := []) (Tri.mono (d_take (I := xup I 30 0 0 8 (1)) hk (ht.y (FrY.rf.up30 (by decide))) (s := (Sum.inr (so, (st, (nx, v))) : tS)) hok (h.eqv (fun x hx => xup_slot (by omega)))) (Nat.le_of_ble_eq_true rfl)) rfl rfl tg_X11_takes lk_X11_119 in_X11_takes se_X11_takes rfl dX11_readLine_120 rfl (Nat.le_of_ble_eq_true rfl) (Nat.le_refl _) (Nat.le_refl _) ?_
                        rintro v M9 ⟨rfl, I1, rfl, t1, f1⟩ -
                        have fy : FrY I I1 := (FrY.rf.up30 (by decide)).tr f1.y
                        have hm1 : DM I1 a true := (DM.t8 hm (I' := xup I 30 0 0 8 (1)) (fun x => xup_tag (by decide)) (fun x hx => xup_slot (by omega)) (xup_self.trans (by rfl))).n f1
                        have hou : OKT n (tkT n b (Sum.inr (so, (st, (nx, v))) : tS)) := tk_ok hok
                        obtain ⟨u, hu⟩ : ∃ u, u = tkT n b (Sum.inr (so, (st, (nx, v))) : tS) := ⟨_, rfl⟩
                        rw [← hu] at t1 hou
                        have hu1 : tkT n b (if nJ a < 4 then (Sum.inr (so, (st, (nx, v))) : tS) else flT 5 (Sum.inr (so, (st, (nx, v))) : tS)) = u := by rw [hu0, hu]
                        rw [show bodyT n b w (Sum.inr (so, (st, (nx, v))) : tS) a true = _ from if_pos (by omega)]
                        unfold pLz uJ2 uJ1
                        rw [hu1]
                        rcases u with ⟨c, p⟩ | ⟨so2, st2, nx2, v2⟩
                        · skip
                          have q1 := hou.1
                          have q2 := hou.2.1
                          replace q1 : 1 ≤ c := q1
                          replace q2 : c ≤ 5 := q2
                          refine w_aload_n dX11_readLine_123 rfl ?_
                          refine w_getI ff_X11_73 rfl rfl dX11_readLine_124 ?_
                          rw [show (I1 30 0 0 15 : Int32) = nI c from t1.1]
                          refine w_if_le (tgt := 131) dX11_readLine_127 (by decide) (fun h1 => ?_) (fun h1 => ?_)
                          · skip
                            replace h1 : ((c : Nat) : Int) ≤ 0 := (zle (z_nI (by omega)) (by decide)).mp h1
                            first
                            | (exfalso; omega)
                            | skip
                              exfalso
                              omega
                          · skip
                            replace h1 : ¬ (((c : Nat) : Int) ≤ 0) := fun q => h1 ((zle (z_nI (by omega)) (by decide)).mpr q)
                            first
                            | (exfalso; omega)
                            | skip
                              exact w_return dX11_readLine_130 rfl rfl (⟨rfl, _, rfl, t1, fy, fun q z => by cases z⟩)
                        · skip
                          refine w_aload_n dX11_readLine_123 rfl ?_
                          refine w_getI ff_X11_73 rfl rfl dX11_readLine_124 ?_
                          rw [show (I1 30 0 0 15 : Int32) = 0 from t1.1]
                          refine w_if_le (tgt := 131) dX11_readLine_127 (by decide) (fun _ => ?_) (fun h => absurd (by decide) h)
                          refine w_aload_n dX11_readLine_131 rfl ?_
                          refine w_iload_n dX11_readLine_132 rfl ?_
                          refine w_callV (as := [vI (nI w)]) (st := []) (Tri.mono (d_lineJ hk (ht.y fy) hou t1 hd hm1 (by omega) (by omega)) (Nat.le_of_ble_eq_true rfl)) rfl rfl tg_X11_readLineOf lk_X11_133 in_X11_readLineOf se_X11_readLineOf rfl dX11_readLine_133 rfl (Nat.le_of_ble_eq_true rfl) (Nat.le_refl _) (Nat.le_refl _) ?_
                          rintro v M9 ⟨rfl, I2, rfl, t2, f2, m2⟩ -
                          exact l_rdEnd hk (ht.y (fy.tr f2)) (tk_ok (ch_ok (tk_ok (ch_ok hou)))) t2 (fun I3 t3 f3 => ⟨rfl, _, rfl, t3, fy.tr (f2.tr f3.y), fun q z => m2.n f3⟩)
                    · skip
                      replace h5 : ((w : Nat) : Int) = 8 := (zeq (z_nI (by omega)) (by decide)).mp h5
                      first
                      | (exfalso; omega)
                      | skip
                        refine w_aload_n dX11_readLine_81 rfl ?_
                        refine w_getI ff_X11_54 rfl rfl dX11_readLine_82 ?_
                        rw [show (I 30 0 0 8 : Int32) = 1 from m8]
                        refine w_if_ne (tgt := 92) dX11_readLine_85 (by decide) (fun _ => ?_) (fun h => absurd h (by decide))
                        refine w_iconst (v := 0) dX11_readLine_92 (by decide) ?_
                        refine w_iconst (v := 4) dX11_readLine_93 (by decide) ?_
                        refine w_callV (as := [vI (0), vI (4)]) (st := []) (Tri.mono (d_needL (I := I) h.1 h.2.2.1 (4)) (Nat.le_of_ble_eq_true rfl)) rfl rfl tg_X11_needs lk_X11_115 in_X11_needs se_X11_needs rfl dX11_readLine_94 rfl (Nat.le_of_ble_eq_true rfl) (Nat.le_refl _) (Nat.le_refl _) ?_
                        rintro _ _ ⟨rfl, rfl⟩ -
                        refine w_aload_n dX11_readLine_97 rfl ?_
                        refine w_aload_n dX11_readLine_98 rfl ?_
                        refine w_getI ff_X11_54 rfl rfl dX11_readLine_99 ?_
                        rw [show ((xup (xup I 30 0 0 15 (4)) 30 0 0 16 (nI st)) 30 0 0 8 : Int32) = 1 from ((xup_slot (by decide)).trans ((xup_slot (by decide)).trans m8))]
                        refine w_if_ne (tgt := 111) dX11_readLine_102 (by decide) (fun _ => ?_) (fun h => absurd h (by decide))
                        refine w_iconst (v := 1) dX11_readLine_111 (by decide) ?_
                        refine w_goto (tgt := 116) dX11_readLine_112 (by decide) ?_
                        refine w_putI ff_X11_54 rfl rfl rfl rfl dX11_readLine_116 ?_
                        have hu0 : (if nJ a < 4 then (Sum.inr (so, (st, (nx, v))) : tS) else flT 5 (Sum.inr (so, (st, (nx, v))) : tS)) = (Sum.inl (4, st) : tS) := if_neg (by omega)
                        refine w_aload_n dX11_readLine_119 rfl ?_
                        refine w_callV (as := []) (st := []) (Tri.mono (d_take (I := xup (xup (xup I 30 0 0 15 (4)) 30 0 0 16 (nI st)) 30 0 0 8 (1)) hk (ht.y (((FrY.rf.up30 (by decide)).up30 (by decide)).up30 (by decide))) (s := (Sum.inl (4, st) : tS)) ⟨by show 1 ≤ 4; omega, by show 4 ≤ 5; omega, g5⟩ ⟨(xup_slot (by decide)).trans ((xup_slot (by decide)).trans xup_self), (xup_slot (by decide)).trans xup_self⟩) (Nat.le_of_ble_eq_true rfl)) rfl rfl tg_X11_takes lk_X11_119 in_X11_takes se_X11_takes rfl dX11_readLine_120 rfl (Nat.le_of_ble_eq_true rfl) (Nat.le_refl _) (Nat.le_refl _) ?_
                        rintro v M9 ⟨rfl, I1, rfl, t1, f1⟩ -
                        have fy : FrY I I1 := (((FrY.rf.up30 (by decide)).up30 (by decide)).up30 (by decide)).tr f1.y
                        have hm1 : DM I1 a true := (DM.t8 hm (I' := xup (xup (xup I 30 0 0 15 (4)) 30 0 0 16 (nI st)) 30 0 0 8 (1)) (fun x => (xup_tag (by decide)).trans ((xup_tag (by decide)).trans (xup_tag (by decide)))) (fun x hx => (xup_slot (by omega)).trans ((xup_slot (by omega)).trans (xup_slot (by omega)))) (xup_self.trans (by rfl))).n f1
                        have hou : OKT n (tkT n b (Sum.inl (4, st) : tS)) := tk_ok ⟨by show 1 ≤ 4; omega, by show 4 ≤ 5; omega, g5⟩
                        obtain ⟨u, hu⟩ : ∃ u, u = tkT n b (Sum.inl (4, st) : tS) := ⟨_, rfl⟩
                        rw [← hu] at t1 hou
                        have hu1 : tkT n b (if nJ a < 4 then (Sum.inr (so, (st, (nx, v))) : tS) else flT 5 (Sum.inr (so, (st, (nx, v))) : tS)) = u := by rw [hu0, hu]
                        rw [show bodyT n b w (Sum.inr (so, (st, (nx, v))) : tS) a true = _ from if_pos (by omega)]
                        unfold pLz uJ2 uJ1
                        rw [hu1]
                        rcases u with ⟨c, p⟩ | ⟨so2, st2, nx2, v2⟩
                        · skip
                          have q1 := hou.1
                          have q2 := hou.2.1
                          replace q1 : 1 ≤ c := q1
                          replace q2 : c ≤ 5 := q2
                          refine w_aload_n dX11_readLine_123 rfl ?_
                          refine w_getI ff_X11_73 rfl rfl dX11_readLine_124 ?_
                          rw [show (I1 30 0 0 15 : Int32) = nI c from t1.1]
                          refine w_if_le (tgt := 131) dX11_readLine_127 (by decide) (fun h1 => ?_) (fun h1 => ?_)
                          · skip
                            replace h1 : ((c : Nat) : Int) ≤ 0 := (zle (z_nI (by omega)) (by decide)).mp h1
                            first
                            | (exfalso; omega)
                            | skip
                              exfalso
                              omega
                          · skip
                            replace h1 : ¬ (((c : Nat) : Int) ≤ 0) := fun q => h1 ((zle (z_nI (by omega)) (by decide)).mpr q)
                            first
                            | (exfalso; omega)
                            | skip
                              exact w_return dX11_readLine_130 rfl rfl (⟨rfl, _, rfl, t1, fy, fun q z => by cases z⟩)
                        · skip
                          refine w_aload_n dX11_readLine_123 rfl ?_
                          refine w_getI ff_X11_73 rfl rfl dX11_readLine_124 ?_
                          rw [show (I1 30 0 0 15 : Int32) = 0 from t1.1]
                          refine w_if_le (tgt := 131) dX11_readLine_127 (by decide) (fun _ => ?_) (fun h => absurd (by decide) h)
                          refine w_aload_n dX11_readLine_131 rfl ?_
                          refine w_iload_n dX11_readLine_132 rfl ?_
                          cases hu
            · skip
              replace h3 : ¬ (((w : Nat) : Int) < 4) := fun q => h3 ((zlt (z_nI (by omega)) (by decide)).mpr q)
              first
              | (exfalso; omega)
              | skip
                refine w_aload_n dX11_readLine_46 rfl ?_
                refine w_getI ff_X11_51 rfl rfl dX11_readLine_47 ?_
                rw [show (I 30 0 0 7 : Int32) = nI (nC a) from m7]
                refine w_iconst (v := 5) dX11_readLine_50 (by decide) ?_
                refine w_icmp_ge (tgt := 69) dX11_readLine_51 (by decide) (fun h4 => ?_) (fun h4 => ?_)
                · skip
                  replace h4 : 5 ≤ ((nC a : Nat) : Int) := (zle (by decide) (z_nI (by omega))).mp h4
                  first
                  | (exfalso; omega)
                  | skip
                    refine w_iconst (v := 0) dX11_readLine_69 (by decide) ?_
                    refine w_iconst (v := 5) dX11_readLine_70 (by decide) ?_
                    refine w_callV (as := [vI (0), vI (5)]) (st := []) (Tri.mono (d_needL (I := I) h.1 h.2.2.1 (5)) (Nat.le_of_ble_eq_true rfl)) rfl rfl tg_X11_needs lk_X11_115 in_X11_needs se_X11_needs rfl dX11_readLine_71 rfl (Nat.le_of_ble_eq_true rfl) (Nat.le_refl _) (Nat.le_refl _) ?_
                    rintro _ _ ⟨rfl, rfl⟩ -
                    refine w_aload_n dX11_readLine_74 rfl ?_
                    refine w_iload_n dX11_readLine_75 rfl ?_
                    refine w_bipush (v := 8) dX11_readLine_76 (by decide) ?_
                    refine w_icmp_ne (tgt := 88) dX11_readLine_78 (by decide) (fun h5 => ?_) (fun h5 => ?_)
                    · skip
                      replace h5 : ¬ (((w : Nat) : Int) = 8) := fun q => h5 ((zeq (z_nI (by omega)) (by decide)).mpr q)
                      first
                      | (exfalso; omega)
                      | skip
                        refine w_iconst (v := 1) dX11_readLine_88 (by decide) ?_
                        refine w_goto (tgt := 93) dX11_readLine_89 (by decide) ?_
                        refine w_iconst (v := 4) dX11_readLine_93 (by decide) ?_
                        refine w_callV (as := [vI (1), vI (4)]) (st := []) (Tri.mono (d_need1 (I := xup (xup I 30 0 0 15 (5)) 30 0 0 16 (nI st)) (4)) (Nat.le_of_ble_eq_true rfl)) rfl rfl tg_X11_needs lk_X11_115 in_X11_needs se_X11_needs rfl dX11_readLine_94 rfl (Nat.le_of_ble_eq_true rfl) (Nat.le_refl _) (Nat.le_refl _) ?_
                        rintro _ _ ⟨rfl, rfl⟩ -
                        refine w_aload_n dX11_readLine_97 rfl ?_
                        refine w_aload_n dX11_readLine_98 rfl ?_
                        refine w_getI ff_X11_54 rfl rfl dX11_readLine_99 ?_
                        rw [show ((xup (xup I 30 0 0 15 (5)) 30 0 0 16 (nI st)) 30 0 0 8 : Int32) = 1 from ((xup_slot (by decide)).trans ((xup_slot (by decide)).trans m8))]
                        refine w_if_ne (tgt := 111) dX11_readLine_102 (by decide) (fun _ => ?_) (fun h => absurd h (by decide))
                        refine w_iconst (v := 1) dX11_readLine_111 (by decide) ?_
                        refine w_goto (tgt := 116) dX11_readLine_112 (by decide) ?_
                        refine w_putI ff_X11_54 rfl rfl rfl rfl dX11_readLine_116 ?_
                        have hu0 : (if nJ a < 4 then (Sum.inr (so, (st, (nx, v))) : tS) else flT 5 (Sum.inr (so, (st, (nx, v))) : tS)) = (Sum.inl (5, st) : tS) := if_neg (by omega)
                        refine w_aload_n dX11_readLine_119 rfl ?_
                        refine w_callV (as := []) (st := []) (Tri.mono (d_take (I := xup (xup (xup I 30 0 0 15 (5)) 30 0 0 16 (nI st)) 30 0 0 8 (1)) hk (ht.y (((FrY.rf.up30 (by decide)).up30 (by decide)).up30 (by decide))) (s := (Sum.inl (5, st) : tS)) ⟨by show 1 ≤ 5; omega, by show 5 ≤ 5; omega, g5⟩ ⟨(xup_slot (by decide)).trans ((xup_slot (by decide)).trans xup_self), (xup_slot (by decide)).trans xup_self⟩) (Nat.le_of_ble_eq_true rfl)) rfl rfl tg_X11_takes lk_X11_119 in_X11_takes se_X11_takes rfl dX11_readLine_120 rfl (Nat.le_of_ble_eq_true rfl) (Nat.le_refl _) (Nat.le_refl _) ?_
                        rintro v M9 ⟨rfl, I1, rfl, t1, f1⟩ -
                        have fy : FrY I I1 := (((FrY.rf.up30 (by decide)).up30 (by decide)).up30 (by decide)).tr f1.y
                        have hm1 : DM I1 a true := (DM.t8 hm (I' := xup (xup (xup I 30 0 0 15 (5)) 30 0 0 16 (nI st)) 30 0 0 8 (1)) (fun x => (xup_tag (by decide)).trans ((xup_tag (by decide)).trans (xup_tag (by decide)))) (fun x hx => (xup_slot (by omega)).trans ((xup_slot (by omega)).trans (xup_slot (by omega)))) (xup_self.trans (by rfl))).n f1
                        have hou : OKT n (tkT n b (Sum.inl (5, st) : tS)) := tk_ok ⟨by show 1 ≤ 5; omega, by show 5 ≤ 5; omega, g5⟩
                        obtain ⟨u, hu⟩ : ∃ u, u = tkT n b (Sum.inl (5, st) : tS) := ⟨_, rfl⟩
                        rw [← hu] at t1 hou
                        have hu1 : tkT n b (if nJ a < 4 then (Sum.inr (so, (st, (nx, v))) : tS) else flT 5 (Sum.inr (so, (st, (nx, v))) : tS)) = u := by rw [hu0, hu]
                        rw [show bodyT n b w (Sum.inr (so, (st, (nx, v))) : tS) a true = _ from if_pos (by omega)]
                        unfold pLz uJ2 uJ1
                        rw [hu1]
                        rcases u with ⟨c, p⟩ | ⟨so2, st2, nx2, v2⟩
                        · skip
                          have q1 := hou.1
                          have q2 := hou.2.1
                          replace q1 : 1 ≤ c := q1
                          replace q2 : c ≤ 5 := q2
                          refine w_aload_n dX11_readLine_123 rfl ?_
                          refine w_getI ff_X11_73 rfl rfl dX11_readLine_124 ?_
                          rw [show (I1 30 0 0 15 : Int32) = nI c from t1.1]
                          refine w_if_le (tgt := 131) dX11_readLine_127 (by decide) (fun h1 => ?_) (fun h1 => ?_)
                          · skip
                            replace h1 : ((c : Nat) : Int) ≤ 0 := (zle (z_nI (by omega)) (by decide)).mp h1
                            first
                            | (exfalso; omega)
                            | skip
                              exfalso
                              omega
                          · skip
                            replace h1 : ¬ (((c : Nat) : Int) ≤ 0) := fun q => h1 ((zle (z_nI (by omega)) (by decide)).mpr q)
                            first
                            | (exfalso; omega)
                            | skip
                              exact w_return dX11_readLine_130 rfl rfl (⟨rfl, _, rfl, t1, fy, fun q z => by cases z⟩)
                        · skip
                          refine w_aload_n dX11_readLine_123 rfl ?_
                          refine w_getI ff_X11_73 rfl rfl dX11_readLine_124 ?_
                          rw [show (I1 30 0 0 15 : Int32) = 0 from t1.1]
                          refine w_if_le (tgt := 131) dX11_readLine_127 (by decide) (fun _ => ?_) (fun h => absurd (by decide) h)
                          refine w_aload_n dX11_readLine_131 rfl ?_
                          refine w_iload_n dX11_readLine_132 rfl ?_
                          cases hu
                    · skip
                      replace h5 : ((w : Nat) : Int) = 8 := (zeq (z_nI (by omega)) (by decide)).mp h5
                      first
                      | (exfalso; omega)
                      | skip
                        refine w_aload_n dX11_readLine_81 rfl ?_
                        refine w_getI ff_X11_54 rfl rfl dX11_readLine_82 ?_
                        rw [show ((xup (xup I 30 0 0 15 (5)) 30 0 0 16 (nI st)) 30 0 0 8 : Int32) = 1 from ((xup_slot (by decide)).trans ((xup_slot (by decide)).trans m8))]
                        refine w_if_ne (tgt := 92) dX11_readLine_85 (by decide) (fun _ => ?_) (fun h => absurd h (by decide))
                        refine w_iconst (v := 0) dX11_readLine_92 (by decide) ?_
                        refine w_iconst (v := 4) dX11_readLine_93 (by decide) ?_
                        refine w_callV (as := [vI (0), vI (4)]) (st := []) (Tri.mono (d_needD (I := xup (xup I 30 0 0 15 (5)) 30 0 0 16 (nI st)) (e := 5) ⟨by decide, by decide⟩ (((xup_slot (by decide)).trans xup_self).trans (by rfl)) (4)) (Nat.le_of_ble_eq_true rfl)) rfl rfl tg_X11_needs lk_X11_115 in_X11_needs se_X11_needs rfl dX11_readLine_94 rfl (Nat.le_of_ble_eq_true rfl) (Nat.le_refl _) (Nat.le_refl _) ?_
                        rintro _ _ ⟨rfl, rfl⟩ -
                        refine w_aload_n dX11_readLine_97 rfl ?_
                        refine w_aload_n dX11_readLine_98 rfl ?_
                        refine w_getI ff_X11_54 rfl rfl dX11_readLine_99 ?_
                        rw [show ((xup (xup I 30 0 0 15 (5)) 30 0 0 16 (nI st)) 30 0 0 8 : Int32) = 1 from ((xup_slot (by decide)).trans ((xup_slot (by decide)).trans m8))]
                        refine w_if_ne (tgt := 111) dX11_readLine_102 (by decide) (fun _ => ?_) (fun h => absurd h (by decide))
                        refine w_iconst (v := 1) dX11_readLine_111 (by decide) ?_
                        refine w_goto (tgt := 116) dX11_readLine_112 (by decide) ?_
                        refine w_putI ff_X11_54 rfl rfl rfl rfl dX11_readLine_116 ?_
                        have hu0 : (if nJ a < 4 then (Sum.inr (so, (st, (nx, v))) : tS) else flT 5 (Sum.inr (so, (st, (nx, v))) : tS)) = (Sum.inl (5, st) : tS) := if_neg (by omega)
                        refine w_aload_n dX11_readLine_119 rfl ?_
                        refine w_callV (as := []) (st := []) (Tri.mono (d_take (I := xup (xup (xup I 30 0 0 15 (5)) 30 0 0 16 (nI st)) 30 0 0 8 (1)) hk (ht.y (((FrY.rf.up30 (by decide)).up30 (by decide)).up30 (by decide))) (s := (Sum.inl (5, st) : tS)) ⟨by show 1 ≤ 5; omega, by show 5 ≤ 5; omega, g5⟩ ⟨(xup_slot (by decide)).trans ((xup_slot (by decide)).trans xup_self), (xup_slot (by decide)).trans xup_self⟩) (Nat.le_of_ble_eq_true rfl)) rfl rfl tg_X11_takes lk_X11_119 in_X11_takes se_X11_takes rfl dX11_readLine_120 rfl (Nat.le_of_ble_eq_true rfl) (Nat.le_refl _) (Nat.le_refl _) ?_
                        rintro v M9 ⟨rfl, I1, rfl, t1, f1⟩ -
                        have fy : FrY I I1 := (((FrY.rf.up30 (by decide)).up30 (by decide)).up30 (by decide)).tr f1.y
                        have hm1 : DM I1 a true := (DM.t8 hm (I' := xup (xup (xup I 30 0 0 15 (5)) 30 0 0 16 (nI st)) 30 0 0 8 (1)) (fun x => (xup_tag (by decide)).trans ((xup_tag (by decide)).trans (xup_tag (by decide)))) (fun x hx => (xup_slot (by omega)).trans ((xup_slot (by omega)).trans (xup_slot (by omega)))) (xup_self.trans (by rfl))).n f1
                        have hou : OKT n (tkT n b (Sum.inl (5, st) : tS)) := tk_ok ⟨by show 1 ≤ 5; omega, by show 5 ≤ 5; omega, g5⟩
                        obtain ⟨u, hu⟩ : ∃ u, u = tkT n b (Sum.inl (5, st) : tS) := ⟨_, rfl⟩
                        rw [← hu] at t1 hou
                        have hu1 : tkT n b (if nJ a < 4 then (Sum.inr (so, (st, (nx, v))) : tS) else flT 5 (Sum.inr (so, (st, (nx, v))) : tS)) = u := by rw [hu0, hu]
                        rw [show bodyT n b w (Sum.inr (so, (st, (nx, v))) : tS) a true = _ from if_pos (by omega)]
                        unfold pLz uJ2 uJ1
                        rw [hu1]
                        rcases u with ⟨c, p⟩ | ⟨so2, st2, nx2, v2⟩
                        · skip
                          have q1 := hou.1
                          have q2 := hou.2.1
                          replace q1 : 1 ≤ c := q1
                          replace q2 : c ≤ 5 := q2
                          refine w_aload_n dX11_readLine_123 rfl ?_
                          refine w_getI ff_X11_73 rfl rfl dX11_readLine_124 ?_
                          rw [show (I1 30 0 0 15 : Int32) = nI c from t1.1]
                          refine w_if_le (tgt := 131) dX11_readLine_127 (by decide) (fun h1 => ?_) (fun h1 => ?_)
                          · skip
                            replace h1 : ((c : Nat) : Int) ≤ 0 := (zle (z_nI (by omega)) (by decide)).mp h1
                            first
                            | (exfalso; omega)
                            | skip
                              exfalso
                              omega
                          · skip
                            replace h1 : ¬ (((c : Nat) : Int) ≤ 0) := fun q => h1 ((zle (z_nI (by omega)) (by decide)).mpr q)
                            first
                            | (exfalso; omega)
                            | skip
                              exact w_return dX11_readLine_130 rfl rfl (⟨rfl, _, rfl, t1, fy, fun q z => by cases z⟩)
                        · skip
                          refine w_aload_n dX11_readLine_123 rfl ?_
                          refine w_getI ff_X11_73 rfl rfl dX11_readLine_124 ?_
                          rw [show (I1 30 0 0 15 : Int32) = 0 from t1.1]
                          refine w_if_le (tgt := 131) dX11_readLine_127 (by decide) (fun _ => ?_) (fun h => absurd (by decide) h)
                          refine w_aload_n dX11_readLine_131 rfl ?_
                          refine w_iload_n dX11_readLine_132 rfl ?_
                          cases hu
                · skip
                  replace h4 : ¬ (5 ≤ ((nC a : Nat) : Int)) := fun q => h4 ((zle (by decide) (z_nI (by omega))).mpr q)
                  first
                  | (exfalso; omega)
                  | skip
                    refine w_goto (tgt := 65) dX11_readLine_54 (by decide) ?_
                    refine w_iconst (v := 1) dX11_readLine_65 (by decide) ?_
                    refine w_goto (tgt := 70) dX11_readLine_66 (by decide) ?_
                    refine w_iconst (v := 5) dX11_readLine_70 (by decide) ?_
                    refine w_callV (as := [vI (1), vI (5)]) (st := []) (Tri.mono (d_need1 (I := I) (5)) (Nat.le_of_ble_eq_true rfl)) rfl rfl tg_X11_needs lk_X11_115 in_X11_needs se_X11_needs rfl dX11_readLine_71 rfl (Nat.le_of_ble_eq_true rfl) (Nat.le_refl _) (Nat.le_refl _) ?_
                    rintro _ _ ⟨rfl, rfl⟩ -
                    refine w_aload_n dX11_readLine_74 rfl ?_
                    refine w_iload_n dX11_readLine_75 rfl ?_
                    refine w_bipush (v := 8) dX11_readLine_76 (by decide) ?_
                    refine w_icmp_ne (tgt := 88) dX11_readLine_78 (by decide) (fun h5 => ?_) (fun h5 => ?_)
                    · skip
                      replace h5 : ¬ (((w : Nat) : Int) = 8) := fun q => h5 ((zeq (z_nI (by omega)) (by decide)).mpr q)
                      first
                      | (exfalso; omega)
                      | skip
                        refine w_iconst (v := 1) dX11_readLine_88 (by decide) ?_
                        refine w_goto (tgt := 93) dX11_readLine_89 (by decide) ?_
                        refine w_iconst (v := 4) dX11_readLine_93 (by decide) ?_
                        refine w_callV (as := [vI (1), vI (4)]) (st := []) (Tri.mono (d_need1 (I := I) (4)) (Nat.le_of_ble_eq_true rfl)) rfl rfl tg_X11_needs lk_X11_115 in_X11_needs se_X11_needs rfl dX11_readLine_94 rfl (Nat.le_of_ble_eq_true rfl) (Nat.le_refl _) (Nat.le_refl _) ?_
                        rintro _ _ ⟨rfl, rfl⟩ -
                        refine w_aload_n dX11_readLine_97 rfl ?_
                        refine w_aload_n dX11_readLine_98 rfl ?_
                        refine w_getI ff_X11_54 rfl rfl dX11_readLine_99 ?_
                        rw [show (I 30 0 0 8 : Int32) = 1 from m8]
                        refine w_if_ne (tgt := 111) dX11_readLine_102 (by decide) (fun _ => ?_) (fun h => absurd h (by decide))
                        refine w_iconst (v := 1) dX11_readLine_111 (by decide) ?_
                        refine w_goto (tgt := 116) dX11_readLine_112 (by decide) ?_
                        refine w_putI ff_X11_54 rfl rfl rfl rfl dX11_readLine_116 ?_
                        have hu0 : (if nJ a < 4 then (Sum.inr (so, (st, (nx, v))) : tS) else flT 5 (Sum.inr (so, (st, (nx, v))) : tS)) = (Sum.inr (so, (st, (nx, v))) : tS) := if_pos (by omega)
                        refine w_aload_n dX11_readLine_119 rfl ?_
                        refine w_callV (as := []) (st := []) (Tri.mono (d_take (I := xup I 30 0 0 8 (1)) hk (ht.y (FrY.rf.up30 (by decide))) (s := (Sum.inr (so, (st, (nx, v))) : tS)) hok (h.eqv (fun x hx => xup_slot (by omega)))) (Nat.le_of_ble_eq_true rfl)) rfl rfl tg_X11_takes lk_X11_119 in_X11_takes se_X11_takes rfl dX11_readLine_120 rfl (Nat.le_of_ble_eq_true rfl) (Nat.le_refl _) (Nat.le_refl _) ?_
                        rintro v M9 ⟨rfl, I1, rfl, t1, f1⟩ -
                        have fy : FrY I I1 := (FrY.rf.up30 (by decide)).tr f1.y
                        have hm1 : DM I1 a true := (DM.t8 hm (I' := xup I 30 0 0 8 (1)) (fun x => xup_tag (by decide)) (fun x hx => xup_slot (by omega)) (xup_self.trans (by rfl))).n f1
                        have hou : OKT n (tkT n b (Sum.inr (so, (st, (nx, v))) : tS)) := tk_ok hok
                        obtain ⟨u, hu⟩ : ∃ u, u = tkT n b (Sum.inr (so, (st, (nx, v))) : tS) := ⟨_, rfl⟩
                        rw [← hu] at t1 hou
                        have hu1 : tkT n b (if nJ a < 4 then (Sum.inr (so, (st, (nx, v))) : tS) else flT 5 (Sum.inr (so, (st, (nx, v))) : tS)) = u := by rw [hu0, hu]
                        rw [show bodyT n b w (Sum.inr (so, (st, (nx, v))) : tS) a true = _ from if_pos (by omega)]
                        unfold pLz uJ2 uJ1
                        rw [hu1]
                        rcases u with ⟨c, p⟩ | ⟨so2, st2, nx2, v2⟩
                        · skip
                          have q1 := hou.1
                          have q2 := hou.2.1
                          replace q1 : 1 ≤ c := q1
                          replace q2 : c ≤ 5 := q2
                          refine w_aload_n dX11_readLine_123 rfl ?_
                          refine w_getI ff_X11_73 rfl rfl dX11_readLine_124 ?_
                          rw [show (I1 30 0 0 15 : Int32) = nI c from t1.1]
                          refine w_if_le (tgt := 131) dX11_readLine_127 (by decide) (fun h1 => ?_) (fun h1 => ?_)
                          · skip
                            replace h1 : ((c : Nat) : Int) ≤ 0 := (zle (z_nI (by omega)) (by decide)).mp h1
                            first
                            | (exfalso; omega)
                            | skip
                              exfalso
                              omega
                          · skip
                            replace h1 : ¬ (((c : Nat) : Int) ≤ 0) := fun q => h1 ((zle (z_nI (by omega)) (by decide)).mpr q)
                            first
                            | (exfalso; omega)
                            | skip
                              exact w_return dX11_readLine_130 rfl rfl (⟨rfl, _, rfl, t1, fy, fun q z => by cases z⟩)
                        · skip
                          refine w_aload_n dX11_readLine_123 rfl ?_
                          refine w_getI ff_X11_73 rfl rfl dX11_readLine_124 ?_
                          rw [show (I1 30 0 0 15 : Int32) = 0 from t1.1]
                          refine w_if_le (tgt := 131) dX11_readLine_127 (by decide) (fun _ => ?_) (fun h => absurd (by decide) h)
                          refine w_aload_n dX11_readLine_131 rfl ?_
                          refine w_iload_n dX11_readLine_132 rfl ?_
                          refine w_callV (as := [vI (nI w)]) (st := []) (Tri.mono (d_lineJ hk (ht.y fy) hou t1 hd hm1 (by omega) (by omega)) (Nat.le_of_ble_eq_true rfl)) rfl rfl tg_X11_readLineOf lk_X11_133 in_X11_readLineOf se_X11_readLineOf rfl dX11_readLine_133 rfl (Nat.le_of_ble_eq_true rfl) (Nat.le_refl _) (Nat.le_refl _) ?_
                          rintro v M9 ⟨rfl, I2, rfl, t2, f2, m2⟩ -
                          exact l_rdEnd hk (ht.y (fy.tr f2)) (tk_ok (ch_ok (tk_ok (ch_ok hou)))) t2 (fun I3 t3 f3 => ⟨rfl, _, rfl, t3, fy.tr (f2.tr f3.y), fun q z => m2.n f3⟩)
                    · skip
                      replace h5 : ((w : Nat) : Int) = 8 := (zeq (z_nI (by omega)) (by decide)).mp h5
                      first
                      | (exfalso; omega)
                      | skip
                        refine w_aload_n dX11_readLine_81 rfl ?_
                        refine w_getI ff_X11_54 rfl rfl dX11_readLine_82 ?_
                        rw [show (I 30 0 0 8 : Int32) = 1 from m8]
                        refine w_if_ne (tgt := 92) dX11_readLine_85 (by decide) (fun _ => ?_) (fun h => absurd h (by decide))
                        refine w_iconst (v := 0) dX11_readLine_92 (by decide) ?_
                        refine w_iconst (v := 4) dX11_readLine_93 (by decide) ?_
                        refine w_callV (as := [vI (0), vI (4)]) (st := []) (Tri.mono (d_needL (I := I) h.1 h.2.2.1 (4)) (Nat.le_of_ble_eq_true rfl)) rfl rfl tg_X11_needs lk_X11_115 in_X11_needs se_X11_needs rfl dX11_readLine_94 rfl (Nat.le_of_ble_eq_true rfl) (Nat.le_refl _) (Nat.le_refl _) ?_
                        rintro _ _ ⟨rfl, rfl⟩ -
                        refine w_aload_n dX11_readLine_97 rfl ?_
                        refine w_aload_n dX11_readLine_98 rfl ?_
                        refine w_getI ff_X11_54 rfl rfl dX11_readLine_99 ?_
                        rw [show ((xup (xup I 30 0 0 15 (4)) 30 0 0 16 (nI st)) 30 0 0 8 : Int32) = 1 from ((xup_slot (by decide)).trans ((xup_slot (by decide)).trans m8))]
                        refine w_if_ne (tgt := 111) dX11_readLine_102 (by decide) (fun _ => ?_) (fun h => absurd h (by decide))
                        refine w_iconst (v := 1) dX11_readLine_111 (by decide) ?_
                        refine w_goto (tgt := 116) dX11_readLine_112 (by decide) ?_
                        refine w_putI ff_X11_54 rfl rfl rfl rfl dX11_readLine_116 ?_
                        have hu0 : (if nJ a < 4 then (Sum.inr (so, (st, (nx, v))) : tS) else flT 5 (Sum.inr (so, (st, (nx, v))) : tS)) = (Sum.inl (4, st) : tS) := if_neg (by omega)
                        refine w_aload_n dX11_readLine_119 rfl ?_
                        refine w_callV (as := []) (st := []) (Tri.mono (d_take (I := xup (xup (xup I 30 0 0 15 (4)) 30 0 0 16 (nI st)) 30 0 0 8 (1)) hk (ht.y (((FrY.rf.up30 (by decide)).up30 (by decide)).up30 (by decide))) (s := (Sum.inl (4, st) : tS)) ⟨by show 1 ≤ 4; omega, by show 4 ≤ 5; omega, g5⟩ ⟨(xup_slot (by decide)).trans ((xup_slot (by decide)).trans xup_self), (xup_slot (by decide)).trans xup_self⟩) (Nat.le_of_ble_eq_true rfl)) rfl rfl tg_X11_takes lk_X11_119 in_X11_takes se_X11_takes rfl dX11_readLine_120 rfl (Nat.le_of_ble_eq_true rfl) (Nat.le_refl _) (Nat.le_refl _) ?_
                        rintro v M9 ⟨rfl, I1, rfl, t1, f1⟩ -
                        have fy : FrY I I1 := (((FrY.rf.up30 (by decide)).up30 (by decide)).up30 (by decide)).tr f1.y
                        have hm1 : DM I1 a true := (DM.t8 hm (I' := xup (xup (xup I 30 0 0 15 (4)) 30 0 0 16 (nI st)) 30 0 0 8 (1)) (fun x => (xup_tag (by decide)).trans ((xup_tag (by decide)).trans (xup_tag (by decide)))) (fun x hx => (xup_slot (by omega)).trans ((xup_slot (by omega)).trans (xup_slot (by omega)))) (xup_self.trans (by rfl))).n f1
                        have hou : OKT n (tkT n b (Sum.inl (4, st) : tS)) := tk_ok ⟨by show 1 ≤ 4; omega, by show 4 ≤ 5; omega, g5⟩
                        obtain ⟨u, hu⟩ : ∃ u, u = tkT n b (Sum.inl (4, st) : tS) := ⟨_, rfl⟩
                        rw [← hu] at t1 hou
                        have hu1 : tkT n b (if nJ a < 4 then (Sum.inr (so, (st, (nx, v))) : tS) else flT 5 (Sum.inr (so, (st, (nx, v))) : tS)) = u := by rw [hu0, hu]
                        rw [show bodyT n b w (Sum.inr (so, (st, (nx, v))) : tS) a true = _ from if_pos (by omega)]
                        unfold pLz uJ2 uJ1
                        rw [hu1]
                        rcases u with ⟨c, p⟩ | ⟨so2, st2, nx2, v2⟩
                        · skip
                          have q1 := hou.1
                          have q2 := hou.2.1
                          replace q1 : 1 ≤ c := q1
                          replace q2 : c ≤ 5 := q2
                          refine w_aload_n dX11_readLine_123 rfl ?_
                          refine w_getI ff_X11_73 rfl rfl dX11_readLine_124 ?_
                          rw [show (I1 30 0 0 15 : Int32) = nI c from t1.1]
                          refine w_if_le (tgt := 131) dX11_readLine_127 (by decide) (fun h1 => ?_) (fun h1 => ?_)
                          · skip
                            replace h1 : ((c : Nat) : Int) ≤ 0 := (zle (z_nI (by omega)) (by decide)).mp h1
                            first
                            | (exfalso; omega)
                            | skip
                              exfalso
                              omega
                          · skip
                            replace h1 : ¬ (((c : Nat) : Int) ≤ 0) := fun q => h1 ((zle (z_nI (by omega)) (by decide)).mpr q)
                            first
                            | (exfalso; omega)
                            | skip
                              exact w_return dX11_readLine_130 rfl rfl (⟨rfl, _, rfl, t1, fy, fun q z => by cases z⟩)
                        · skip
                          refine w_aload_n dX11_readLine_123 rfl ?_
                          refine w_getI ff_X11_73 rfl rfl dX11_readLine_124 ?_
                          rw [show (I1 30 0 0 15 : Int32) = 0 from t1.1]
                          refine w_if_le (tgt := 131) dX11_readLine_127 (by decide) (fun _ => ?_) (fun h => absurd (by decide) h)
                          refine w_aload_n dX11_readLine_131 rfl ?_
                          refine w_iload_n dX11_readLine_132 rfl ?_
                          cases hu

set_option maxHeartbeats 1000000 in
theorem l_rdS {I : xF4 Int32} {L : xF4 Int64} {n : Nat} {b : Nat → Nat} (hk : BK n b) (ht : TN I n b) {so st nx v : Nat} (hok : OKT n (.inr (so, (st, (nx, v))))) (h : TM I (.inr (so, (st, (nx, v))))) {a : aA} {t : Bool} (hd : DOK a) (hm : DM I a t) {w : Nat} (hw4 : 4 ≤ w) (hw : w < 8) : Wp 6 109 m_X11_readLine 18 [some (vR 30 0 0), some (vI (nI w))] [] (rM I L) (pLz (tkT n b (spS (tkT n b (bodyT n b w (Sum.inr (so, (st, (nx, v))) : tS) a t).1))) (bodyT n b w (Sum.inr (so, (st, (nx, v))) : tS) a t).2 I L) := by
  obtain ⟨g4, g5, g6, g7, g8, g9⟩ : so ≤ 3 ∧ st ≤ n ∧ nx ≤ n ∧ v ≤ 99 ∧ st ≤ nx ∧ (so = 0 ∨ (st < nx ∧ st < n)) := id hok
  obtain ⟨w1, w2, -⟩ := id hd.1
  have m6 := hm.1
  have m7 := hm.2.1
  have m8 := hm.2.2.1
  rcases t with _ | _
  · skip
    refine w_aload_n dX11_readLine_18 rfl ?_
    refine w_iload_n dX11_readLine_19 rfl ?_
    refine w_bipush (v := (-4)) dX11_readLine_20 (by decide) ?_
    refine w_icmp_eq (tgt := 29) dX11_readLine_22 (by decide) (fun h1 => ?_) (fun h1 => ?_)
    · skip
      replace h1 : ((w : Nat) : Int) = (-4) := (zeq (z_nI (by omega)) (by decide)).mp h1
      first
      | (exfalso; omega)
      | skip
        refine w_iconst (v := 0) dX11_readLine_29 (by decide) ?_
        refine w_iconst (v := 2) dX11_readLine_30 (by decide) ?_
        refine w_callV (as := [vI (0), vI (2)]) (st := []) (Tri.mono (d_needL (I := I) h.1 h.2.2.1 (2)) (Nat.le_of_ble_eq_true rfl)) rfl rfl tg_X11_needs lk_X11_115 in_X11_needs se_X11_needs rfl dX11_readLine_31 rfl (Nat.le_of_ble_eq_true rfl) (Nat.le_refl _) (Nat.le_refl _) ?_
        rintro _ _ ⟨rfl, rfl⟩ -
        refine w_aload_n dX11_readLine_34 rfl ?_
        refine w_iload_n dX11_readLine_35 rfl ?_
        refine w_bipush (v := 8) dX11_readLine_36 (by decide) ?_
        refine w_icmp_eq (tgt := 65) dX11_readLine_38 (by decide) (fun h2 => ?_) (fun h2 => ?_)
        · skip
          replace h2 : ((w : Nat) : Int) = 8 := (zeq (z_nI (by omega)) (by decide)).mp h2
          first
          | (exfalso; omega)
          | skip
            refine w_iconst (v := 1) dX11_readLine_65 (by decide) ?_
            refine w_goto (tgt := 70) dX11_readLine_66 (by decide) ?_
            refine w_iconst (v := 5) dX11_readLine_70 (by decide) ?_
            refine w_callV (as := [vI (1), vI (5)]) (st := []) (Tri.mono (d_need1 (I := xup (xup I 30 0 0 15 (2)) 30 0 0 16 (nI st)) (5)) (Nat.le_of_ble_eq_true rfl)) rfl rfl tg_X11_needs lk_X11_115 in_X11_needs se_X11_needs rfl dX11_readLine_71 rfl (Nat.le_of_ble_eq_true rfl) (Nat.le_refl _) (Nat.le_refl _) ?_
            rintro _ _ ⟨rfl, rfl⟩ -
            refine w_aload_n dX11_readLine_74 rfl ?_
            refine w_iload_n dX11_readLine_75 rfl ?_
            refine w_bipush (v := 8) dX11_readLine_76 (by decide) ?_
            refine w_icmp_ne (tgt := 88) dX11_readLine_78 (by decide) (fun h3 => ?_) (fun h3 => ?_)
            · skip
              replace h3 : ¬ (((w : Nat) : Int) = 8) := fun q => h3 ((zeq (z_nI (by omega)) (by decide)).mpr q)
              first
              | (exfalso; omega)
              | skip
                refine w_iconst (v := 1) dX11_readLine_88 (by decide) ?_
                refine w_goto (tgt := 93) dX11_readLine_89 (by decide) ?_
                refine w_iconst (v := 4) dX11_readLine_93 (by decide) ?_
                refine w_callV (as := [vI (1), vI (4)]) (st := []) (Tri.mono (d_need1 (I := xup (xup I 30 0 0 15 (2)) 30 0 0 16 (nI st)) (4)) (Nat.le_of_ble_eq_true rfl)) rfl rfl tg_X11_needs lk_X11_115 in_X11_needs se_X11_needs rfl dX11_readLine_94 rfl (Nat.le_of_ble_eq_true rfl) (Nat.le_refl _) (Nat.le_refl _) ?_
                rintro _ _ ⟨rfl, rfl⟩ -
                refine w_aload_n dX11_readLine_97 rfl ?_
                refine w_aload_n dX11_readLine_98 rfl ?_
                refine w_getI ff_X11_54 rfl rfl dX11_readLine_99 ?_
                rw [show ((xup (xup I 30 0 0 15 (2)) 30 0 0 16 (nI st)) 30 0 0 8 : Int32) = 0 from ((xup_slot (by decide)).trans ((xup_slot (by decide)).trans m8))]
                refine w_if_ne (tgt := 111) dX11_readLine_102 (by decide) (fun h => absurd (by decide) h) (fun _ => ?_)
                refine w_iload_n dX11_readLine_105 rfl ?_
                refine w_bipush (v := 8) dX11_readLine_106 (by decide) ?_
                refine w_icmp_ne (tgt := 115) dX11_readLine_108 (by decide) (fun h4 => ?_) (fun h4 => ?_)
                · skip
                  replace h4 : ¬ (((w : Nat) : Int) = 8) := fun q => h4 ((zeq (z_nI (by omega)) (by decide)).mpr q)
                  first
                  | (exfalso; omega)
                  | skip
                    refine w_iconst (v := 0) dX11_readLine_115 (by decide) ?_
                    refine w_putI ff_X11_54 rfl rfl rfl rfl dX11_readLine_116 ?_
                    have hu0 : (if nC a < 5 then (Sum.inr (so, (st, (nx, v))) : tS) else flT 5 (Sum.inr (so, (st, (nx, v))) : tS)) = (Sum.inl (2, st) : tS) := if_neg (by omega)
                    refine w_aload_n dX11_readLine_119 rfl ?_
                    refine w_callV (as := []) (st := []) (Tri.mono (d_take (I := xup (xup (xup I 30 0 0 15 (2)) 30 0 0 16 (nI st)) 30 0 0 8 (0)) hk (ht.y (((FrY.rf.up30 (by decide)).up30 (by decide)).up30 (by decide))) (s := (Sum.inl (2, st) : tS)) ⟨by show 1 ≤ 2; omega, by show 2 ≤ 5; omega, g5⟩ ⟨(xup_slot (by decide)).trans ((xup_slot (by decide)).trans xup_self), (xup_slot (by decide)).trans xup_self⟩) (Nat.le_of_ble_eq_true rfl)) rfl rfl tg_X11_takes lk_X11_119 in_X11_takes se_X11_takes rfl dX11_readLine_120 rfl (Nat.le_of_ble_eq_true rfl) (Nat.le_refl _) (Nat.le_refl _) ?_
                    rintro v M9 ⟨rfl, I1, rfl, t1, f1⟩ -
                    have fy : FrY I I1 := (((FrY.rf.up30 (by decide)).up30 (by decide)).up30 (by decide)).tr f1.y
                    have hm1 : DM I1 a false := (DM.t8 hm (I' := xup (xup (xup I 30 0 0 15 (2)) 30 0 0 16 (nI st)) 30 0 0 8 (0)) (fun x => (xup_tag (by decide)).trans ((xup_tag (by decide)).trans (xup_tag (by decide)))) (fun x hx => (xup_slot (by omega)).trans ((xup_slot (by omega)).trans (xup_slot (by omega)))) (xup_self.trans (by rfl))).n f1
                    have hou : OKT n (tkT n b (Sum.inl (2, st) : tS)) := tk_ok ⟨by show 1 ≤ 2; omega, by show 2 ≤ 5; omega, g5⟩
                    obtain ⟨u, hu⟩ : ∃ u, u = tkT n b (Sum.inl (2, st) : tS) := ⟨_, rfl⟩
                    rw [← hu] at t1 hou
                    have hu1 : tkT n b (if nC a < 5 then (Sum.inr (so, (st, (nx, v))) : tS) else flT 5 (Sum.inr (so, (st, (nx, v))) : tS)) = u := by rw [hu0, hu]
                    rw [show bodyT n b w (Sum.inr (so, (st, (nx, v))) : tS) a false = _ from (if_neg (by omega)).trans (if_pos (by omega))]
                    unfold pLz uS3 uS2 uS1
                    rw [hu1]
                    rcases u with ⟨c, p⟩ | ⟨so2, st2, nx2, v2⟩
                    · skip
                      have q1 := hou.1
                      have q2 := hou.2.1
                      replace q1 : 1 ≤ c := q1
                      replace q2 : c ≤ 5 := q2
                      refine w_aload_n dX11_readLine_123 rfl ?_
                      refine w_getI ff_X11_73 rfl rfl dX11_readLine_124 ?_
                      rw [show (I1 30 0 0 15 : Int32) = nI c from t1.1]
                      refine w_if_le (tgt := 131) dX11_readLine_127 (by decide) (fun h1 => ?_) (fun h1 => ?_)
                      · skip
                        replace h1 : ((c : Nat) : Int) ≤ 0 := (zle (z_nI (by omega)) (by decide)).mp h1
                        first
                        | (exfalso; omega)
                        | skip
                          exfalso
                          omega
                      · skip
                        replace h1 : ¬ (((c : Nat) : Int) ≤ 0) := fun q => h1 ((zle (z_nI (by omega)) (by decide)).mpr q)
                        first
                        | (exfalso; omega)
                        | skip
                          exact w_return dX11_readLine_130 rfl rfl (⟨rfl, _, rfl, t1, fy, fun q z => by cases z⟩)
                    · skip
                      refine w_aload_n dX11_readLine_123 rfl ?_
                      refine w_getI ff_X11_73 rfl rfl dX11_readLine_124 ?_
                      rw [show (I1 30 0 0 15 : Int32) = 0 from t1.1]
                      refine w_if_le (tgt := 131) dX11_readLine_127 (by decide) (fun _ => ?_) (fun h => absurd (by decide) h)
                      refine w_aload_n dX11_readLine_131 rfl ?_
                      refine w_iload_n dX11_readLine_132 rfl ?_
                      cases hu
                · skip
                  replace h4 : ((w : Nat) : Int) = 8 := (zeq (z_nI (by omega)) (by decide)).mp h4
                  first
                  | (exfalso; omega)
                  | skip
                    refine w_iconst (v := 1) dX11_readLine_111 (by decide) ?_
                    refine w_goto (tgt := 116) dX11_readLine_112 (by decide) ?_
                    refine w_putI ff_X11_54 rfl rfl rfl rfl dX11_readLine_116 ?_
                    have hu0 : (if nC a < 5 then (Sum.inr (so, (st, (nx, v))) : tS) else flT 5 (Sum.inr (so, (st, (nx, v))) : tS)) = (Sum.inl (2, st) : tS) := if_neg (by omega)
                    refine w_aload_n dX11_readLine_119 rfl ?_
                    refine w_callV (as := []) (st := []) (Tri.mono (d_take (I := xup (xup (xup I 30 0 0 15 (2)) 30 0 0 16 (nI st)) 30 0 0 8 (1)) hk (ht.y (((FrY.rf.up30 (by decide)).up30 (by decide)).up30 (by decide))) (s := (Sum.inl (2, st) : tS)) ⟨by show 1 ≤ 2; omega, by show 2 ≤ 5; omega, g5⟩ ⟨(xup_slot (by decide)).trans ((xup_slot (by decide)).trans xup_self), (xup_slot (by decide)).trans xup_self⟩) (Nat.le_of_ble_eq_true rfl)) rfl rfl tg_X11_takes lk_X11_119 in_X11_takes se_X11_takes rfl dX11_readLine_120 rfl (Nat.le_of_ble_eq_true rfl) (Nat.le_refl _) (Nat.le_refl _) ?_
                    rintro v M9 ⟨rfl, I1, rfl, t1, f1⟩ -
                    have fy : FrY I I1 := (((FrY.rf.up30 (by decide)).up30 (by decide)).up30 (by decide)).tr f1.y
                    have hm1 : DM I1 a false := (DM.t8 hm (I' := xup (xup (xup I 30 0 0 15 (2)) 30 0 0 16 (nI st)) 30 0 0 8 (1)) (fun x => (xup_tag (by decide)).trans ((xup_tag (by decide)).trans (xup_tag (by decide)))) (fun x hx => (xup_slot (by omega)).trans ((xup_slot (by omega)).trans (xup_slot (by omega)))) (xup_self.trans (by rfl))).n f1
                    have hou : OKT n (tkT n b (Sum.inl (2, st) : tS)) := tk_ok ⟨by show 1 ≤ 2; omega, by show 2 ≤ 5; omega, g5⟩
                    obtain ⟨u, hu⟩ : ∃ u, u = tkT n b (Sum.inl (2, st) : tS) := ⟨_, rfl⟩
                    rw [← hu] at t1 hou
                    have hu1 : tkT n b (if nC a < 5 then (Sum.inr (so, (st, (nx, v))) : tS) else flT 5 (Sum.inr (so, (st, (nx, v))) : tS)) = u := by rw [hu0, hu]
                    rw [show bodyT n b w (Sum.inr (so, (st, (nx, v))) : tS) a false = _ from (if_neg (by omega)).trans (if_pos (by omega))]
                    unfold pLz uS3 uS2 uS1
                    rw [hu1]
                    rcases u with ⟨c, p⟩ | ⟨so2, st2, nx2, v2⟩
                    · skip
                      have q1 := hou.1
                      have q2 := hou.2.1
                      replace q1 : 1 ≤ c := q1
                      replace q2 : c ≤ 5 := q2
                      refine w_aload_n dX11_readLine_123 rfl ?_
                      refine w_getI ff_X11_73 rfl rfl dX11_readLine_124 ?_
                      rw [show (I1 30 0 0 15 : Int32) = nI c from t1.1]
                      refine w_if_le (tgt := 131) dX11_readLine_127 (by decide) (fun h1 => ?_) (fun h1 => ?_)
                      · skip
                        replace h1 : ((c : Nat) : Int) ≤ 0 := (zle (z_nI (by omega)) (by decide)).mp h1
                        first
                        | (exfalso; omega)
                        | skip
                          exfalso
                          omega
                      · skip
                        replace h1 : ¬ (((c : Nat) : Int) ≤ 0) := fun q => h1 ((zle (z_nI (by omega)) (by decide)).mpr q)
                        first
                        | (exfalso; omega)
                        | skip
                          exact w_return dX11_readLine_130 rfl rfl (⟨rfl, _, rfl, t1, fy, fun q z => by cases z⟩)
                    · skip
                      refine w_aload_n dX11_readLine_123 rfl ?_
                      refine w_getI ff_X11_73 rfl rfl dX11_readLine_124 ?_
                      rw [show (I1 30 0 0 15 : Int32) = 0 from t1.1]
                      refine w_if_le (tgt := 131) dX11_readLine_127 (by decide) (fun _ => ?_) (fun h => absurd (by decide) h)
                      refine w_aload_n dX11_readLine_131 rfl ?_
                      refine w_iload_n dX11_readLine_132 rfl ?_
                      cases hu
            · skip
              replace h3 : ((w : Nat) : Int) = 8 := (zeq (z_nI (by omega)) (by decide)).mp h3
              first
              | (exfalso; omega)
              | skip
                refine w_aload_n dX11_readLine_81 rfl ?_
                refine w_getI ff_X11_54 rfl rfl dX11_readLine_82 ?_
                rw [show ((xup (xup I 30 0 0 15 (2)) 30 0 0 16 (nI st)) 30 0 0 8 : Int32) = 0 from ((xup_slot (by decide)).trans ((xup_slot (by decide)).trans m8))]
                refine w_if_ne (tgt := 92) dX11_readLine_85 (by decide) (fun h => absurd (by decide) h) (fun _ => ?_)
                refine w_iconst (v := 1) dX11_readLine_88 (by decide) ?_
                refine w_goto (tgt := 93) dX11_readLine_89 (by decide) ?_
                refine w_iconst (v := 4) dX11_readLine_93 (by decide) ?_
                refine w_callV (as := [vI (1), vI (4)]) (st := []) (Tri.mono (d_need1 (I := xup (xup I 30 0 0 15 (2)) 30 0 0 16 (nI st)) (4)) (Nat.le_of_ble_eq_true rfl)) rfl rfl tg_X11_needs lk_X11_115 in_X11_needs se_X11_needs rfl dX11_readLine_94 rfl (Nat.le_of_ble_eq_true rfl) (Nat.le_refl _) (Nat.le_refl _) ?_
                rintro _ _ ⟨rfl, rfl⟩ -
                refine w_aload_n dX11_readLine_97 rfl ?_
                refine w_aload_n dX11_readLine_98 rfl ?_
                refine w_getI ff_X11_54 rfl rfl dX11_readLine_99 ?_
                rw [show ((xup (xup I 30 0 0 15 (2)) 30 0 0 16 (nI st)) 30 0 0 8 : Int32) = 0 from ((xup_slot (by decide)).trans ((xup_slot (by decide)).trans m8))]
                refine w_if_ne (tgt := 111) dX11_readLine_102 (by decide) (fun h => absurd (by decide) h) (fun _ => ?_)
                refine w_iload_n dX11_readLine_105 rfl ?_
                refine w_bipush (v := 8) dX11_readLine_106 (by decide) ?_
                refine w_icmp_ne (tgt := 115) dX11_readLine_108 (by decide) (fun h4 => ?_) (fun h4 => ?_)
                · skip
                  replace h4 : ¬ (((w : Nat) : Int) = 8) := fun q => h4 ((zeq (z_nI (by omega)) (by decide)).mpr q)
                  first
                  | (exfalso; omega)
                  | skip
                    refine w_iconst (v := 0) dX11_readLine_115 (by decide) ?_
                    refine w_putI ff_X11_54 rfl rfl rfl rfl dX11_readLine_116 ?_
                    have hu0 : (if nC a < 5 then (Sum.inr (so, (st, (nx, v))) : tS) else flT 5 (Sum.inr (so, (st, (nx, v))) : tS)) = (Sum.inl (2, st) : tS) := if_neg (by omega)
                    refine w_aload_n dX11_readLine_119 rfl ?_
                    refine w_callV (as := []) (st := []) (Tri.mono (d_take (I := xup (xup (xup I 30 0 0 15 (2)) 30 0 0 16 (nI st)) 30 0 0 8 (0)) hk (ht.y (((FrY.rf.up30 (by decide)).up30 (by decide)).up30 (by decide))) (s := (Sum.inl (2, st) : tS)) ⟨by show 1 ≤ 2; omega, by show 2 ≤ 5; omega, g5⟩ ⟨(xup_slot (by decide)).trans ((xup_slot (by decide)).trans xup_self), (xup_slot (by decide)).trans xup_self⟩) (Nat.le_of_ble_eq_true rfl)) rfl rfl tg_X11_takes lk_X11_119 in_X11_takes se_X11_takes rfl dX11_readLine_120 rfl (Nat.le_of_ble_eq_true rfl) (Nat.le_refl _) (Nat.le_refl _) ?_
                    rintro v M9 ⟨rfl, I1, rfl, t1, f1⟩ -
                    have fy : FrY I I1 := (((FrY.rf.up30 (by decide)).up30 (by decide)).up30 (by decide)).tr f1.y
                    have hm1 : DM I1 a false := (DM.t8 hm (I' := xup (xup (xup I 30 0 0 15 (2)) 30 0 0 16 (nI st)) 30 0 0 8 (0)) (fun x => (xup_tag (by decide)).trans ((xup_tag (by decide)).trans (xup_tag (by decide)))) (fun x hx => (xup_slot (by omega)).trans ((xup_slot (by omega)).trans (xup_slot (by omega)))) (xup_self.trans (by rfl))).n f1
                    have hou : OKT n (tkT n b (Sum.inl (2, st) : tS)) := tk_ok ⟨by show 1 ≤ 2; omega, by show 2 ≤ 5; omega, g5⟩
                    obtain ⟨u, hu⟩ : ∃ u, u = tkT n b (Sum.inl (2, st) : tS) := ⟨_, rfl⟩
                    rw [← hu] at t1 hou
                    have hu1 : tkT n b (if nC a < 5 then (Sum.inr (so, (st, (nx, v))) : tS) else flT 5 (Sum.inr (so, (st, (nx, v))) : tS)) = u := by rw [hu0, hu]
                    rw [show bodyT n b w (Sum.inr (so, (st, (nx, v))) : tS) a false = _ from (if_neg (by omega)).trans (if_pos (by omega))]
                    unfold pLz uS3 uS2 uS1
                    rw [hu1]
                    rcases u with ⟨c, p⟩ | ⟨so2, st2, nx2, v2⟩
                    · skip
                      have q1 := hou.1
                      have q2 := hou.2.1
                      replace q1 : 1 ≤ c := q1
                      replace q2 : c ≤ 5 := q2
                      refine w_aload_n dX11_readLine_123 rfl ?_
                      refine w_getI ff_X11_73 rfl rfl dX11_readLine_124 ?_
                      rw [show (I1 30 0 0 15 : Int32) = nI c from t1.1]
                      refine w_if_le (tgt := 131) dX11_readLine_127 (by decide) (fun h1 => ?_) (fun h1 => ?_)
                      · skip
                        replace h1 : ((c : Nat) : Int) ≤ 0 := (zle (z_nI (by omega)) (by decide)).mp h1
                        first
                        | (exfalso; omega)
                        | skip
                          exfalso
                          omega
                      · skip
                        replace h1 : ¬ (((c : Nat) : Int) ≤ 0) := fun q => h1 ((zle (z_nI (by omega)) (by decide)).mpr q)
                        first
                        | (exfalso; omega)
                        | skip
                          exact w_return dX11_readLine_130 rfl rfl (⟨rfl, _, rfl, t1, fy, fun q z => by cases z⟩)
                    · skip
                      refine w_aload_n dX11_readLine_123 rfl ?_
                      refine w_getI ff_X11_73 rfl rfl dX11_readLine_124 ?_
                      rw [show (I1 30 0 0 15 : Int32) = 0 from t1.1]
                      refine w_if_le (tgt := 131) dX11_readLine_127 (by decide) (fun _ => ?_) (fun h => absurd (by decide) h)
                      refine w_aload_n dX11_readLine_131 rfl ?_
                      refine w_iload_n dX11_readLine_132 rfl ?_
                      cases hu
                · skip
                  replace h4 : ((w : Nat) : Int) = 8 := (zeq (z_nI (by omega)) (by decide)).mp h4
                  first
                  | (exfalso; omega)
                  | skip
                    refine w_iconst (v := 1) dX11_readLine_111 (by decide) ?_
                    refine w_goto (tgt := 116) dX11_readLine_112 (by decide) ?_
                    refine w_putI ff_X11_54 rfl rfl rfl rfl dX11_readLine_116 ?_
                    have hu0 : (if nC a < 5 then (Sum.inr (so, (st, (nx, v))) : tS) else flT 5 (Sum.inr (so, (st, (nx, v))) : tS)) = (Sum.inl (2, st) : tS) := if_neg (by omega)
                    refine w_aload_n dX11_readLine_119 rfl ?_
                    refine w_callV (as := []) (st := []) (Tri.mono (d_take (I := xup (xup (xup I 30 0 0 15 (2)) 30 0 0 16 (nI st)) 30 0 0 8 (1)) hk (ht.y (((FrY.rf.up30 (by decide)).up30 (by decide)).up30 (by decide))) (s := (Sum.inl (2, st) : tS)) ⟨by show 1 ≤ 2; omega, by show 2 ≤ 5; omega, g5⟩ ⟨(xup_slot (by decide)).trans ((xup_slot (by decide)).trans xup_self), (xup_slot (by decide)).trans xup_self⟩) (Nat.le_of_ble_eq_true rfl)) rfl rfl tg_X11_takes lk_X11_119 in_X11_takes se_X11_takes rfl dX11_readLine_120 rfl (Nat.le_of_ble_eq_true rfl) (Nat.le_refl _) (Nat.le_refl _) ?_
                    rintro v M9 ⟨rfl, I1, rfl, t1, f1⟩ -
                    have fy : FrY I I1 := (((FrY.rf.up30 (by decide)).up30 (by decide)).up30 (by decide)).tr f1.y
                    have hm1 : DM I1 a false := (DM.t8 hm (I' := xup (xup (xup I 30 0 0 15 (2)) 30 0 0 16 (nI st)) 30 0 0 8 (1)) (fun x => (xup_tag (by decide)).trans ((xup_tag (by decide)).trans (xup_tag (by decide)))) (fun x hx => (xup_slot (by omega)).trans ((xup_slot (by omega)).trans (xup_slot (by omega)))) (xup_self.trans (by rfl))).n f1
                    have hou : OKT n (tkT n b (Sum.inl (2, st) : tS)) := tk_ok ⟨by show 1 ≤ 2; omega, by show 2 ≤ 5; omega, g5⟩
                    obtain ⟨u, hu⟩ : ∃ u, u = tkT n b (Sum.inl (2, st) : tS) := ⟨_, rfl⟩
                    rw [← hu] at t1 hou
                    have hu1 : tkT n b (if nC a < 5 then (Sum.inr (so, (st, (nx, v))) : tS) else flT 5 (Sum.inr (so, (st, (nx, v))) : tS)) = u := by rw [hu0, hu]
                    rw [show bodyT n b w (Sum.inr (so, (st, (nx, v))) : tS) a false = _ from (if_neg (by omega)).trans (if_pos (by omega))]
                    unfold pLz uS3 uS2 uS1
                    rw [hu1]
                    rcases u with ⟨c, p⟩ | ⟨so2, st2, nx2, v2⟩
                    · skip
                      have q1 := hou.1
                      have q2 := hou.2.1
                      replace q1 : 1 ≤ c := q1
                      replace q2 : c ≤ 5 := q2
                      refine w_aload_n dX11_readLine_123 rfl ?_
                      refine w_getI ff_X11_73 rfl rfl dX11_readLine_124 ?_
                      rw [show (I1 30 0 0 15 : Int32) = nI c from t1.1]
                      refine w_if_le (tgt := 131) dX11_readLine_127 (by decide) (fun h1 => ?_) (fun h1 => ?_)
                      · skip
                        replace h1 : ((c : Nat) : Int) ≤ 0 := (zle (z_nI (by omega)) (by decide)).mp h1
                        first
                        | (exfalso; omega)
                        | skip
                          exfalso
                          omega
                      · skip
                        replace h1 : ¬ (((c : Nat) : Int) ≤ 0) := fun q => h1 ((zle (z_nI (by omega)) (by decide)).mpr q)
                        first
                        | (exfalso; omega)
                        | skip
                          exact w_return dX11_readLine_130 rfl rfl (⟨rfl, _, rfl, t1, fy, fun q z => by cases z⟩)
                    · skip
                      refine w_aload_n dX11_readLine_123 rfl ?_
                      refine w_getI ff_X11_73 rfl rfl dX11_readLine_124 ?_
                      rw [show (I1 30 0 0 15 : Int32) = 0 from t1.1]
                      refine w_if_le (tgt := 131) dX11_readLine_127 (by decide) (fun _ => ?_) (fun h => absurd (by decide) h)
                      refine w_aload_n dX11_readLine_131 rfl ?_
                      refine w_iload_n dX11_readLine_132 rfl ?_
                      cases hu
        · skip
          replace h2 : ¬ (((w : Nat) : Int) = 8) := fun q => h2 ((zeq (z_nI (by omega)) (by decide)).mpr q)
          first
          | (exfalso; omega)
          | skip
            refine w_iload_n dX11_readLine_41 rfl ?_
            refine w_iconst (v := 4) dX11_readLine_42 (by decide) ?_
            refine w_icmp_lt (tgt := 57) dX11_readLine_43 (by decide) (fun h3 => ?_) (fun h3 => ?_)
            · skip
              replace h3 : ((w : Nat) : Int) < 4 := (zlt (z_nI (by omega)) (by decide)).mp h3
              first
              | (exfalso; omega)
              | skip
                refine w_aload_n dX11_readLine_57 rfl ?_
                refine w_getI ff_X11_47 rfl rfl dX11_readLine_58 ?_
                rw [show ((xup (xup I 30 0 0 15 (2)) 30 0 0 16 (nI st)) 30 0 0 6 : Int32) = nI (nJ a) from ((xup_slot (by decide)).trans ((xup_slot (by decide)).trans m6))]
                refine w_iconst (v := 4) dX11_readLine_61 (by decide) ?_
                refine w_icmp_ge (tgt := 69) dX11_readLine_62 (by decide) (fun h4 => ?_) (fun h4 => ?_)
                · skip
                  replace h4 : 4 ≤ ((nJ a : Nat) : Int) := (zle (by decide) (z_nI (by omega))).mp h4
                  first
                  | (exfalso; omega)
                  | skip
                    refine w_iconst (v := 0) dX11_readLine_69 (by decide) ?_
                    refine w_iconst (v := 5) dX11_readLine_70 (by decide) ?_
                    refine w_callV (as := [vI (0), vI (5)]) (st := []) (Tri.mono (d_needD (I := xup (xup I 30 0 0 15 (2)) 30 0 0 16 (nI st)) (e := 2) ⟨by decide, by decide⟩ (((xup_slot (by decide)).trans xup_self).trans (by rfl)) (5)) (Nat.le_of_ble_eq_true rfl)) rfl rfl tg_X11_needs lk_X11_115 in_X11_needs se_X11_needs rfl dX11_readLine_71 rfl (Nat.le_of_ble_eq_true rfl) (Nat.le_refl _) (Nat.le_refl _) ?_
                    rintro _ _ ⟨rfl, rfl⟩ -
                    refine w_aload_n dX11_readLine_74 rfl ?_
                    refine w_iload_n dX11_readLine_75 rfl ?_
                    refine w_bipush (v := 8) dX11_readLine_76 (by decide) ?_
                    refine w_icmp_ne (tgt := 88) dX11_readLine_78 (by decide) (fun h5 => ?_) (fun h5 => ?_)
                    · skip
                      replace h5 : ¬ (((w : Nat) : Int) = 8) := fun q => h5 ((zeq (z_nI (by omega)) (by decide)).mpr q)
                      first
                      | (exfalso; omega)
                      | skip
                        refine w_iconst (v := 1) dX11_readLine_88 (by decide) ?_
                        refine w_goto (tgt := 93) dX11_readLine_89 (by decide) ?_
                        refine w_iconst (v := 4) dX11_readLine_93 (by decide) ?_
                        refine w_callV (as := [vI (1), vI (4)]) (st := []) (Tri.mono (d_need1 (I := xup (xup I 30 0 0 15 (2)) 30 0 0 16 (nI st)) (4)) (Nat.le_of_ble_eq_true rfl)) rfl rfl tg_X11_needs lk_X11_115 in_X11_needs se_X11_needs rfl dX11_readLine_94 rfl (Nat.le_of_ble_eq_true rfl) (Nat.le_refl _) (Nat.le_refl _) ?_
                        rintro _ _ ⟨rfl, rfl⟩ -
                        refine w_aload_n dX11_readLine_97 rfl ?_
                        refine w_aload_n dX11_readLine_98 rfl ?_
                        refine w_getI ff_X11_54 rfl rfl dX11_readLine_99 ?_
                        rw [show ((xup (xup I 30 0 0 15 (2)) 30 0 0 16 (nI st)) 30 0 0 8 : Int32) = 0 from ((xup_slot (by decide)).trans ((xup_slot (by decide)).trans m8))]
                        refine w_if_ne (tgt := 111) dX11_readLine_102 (by decide) (fun h => absurd (by decide) h) (fun _ => ?_)
                        refine w_iload_n dX11_readLine_105 rfl ?_
                        refine w_bipush (v := 8) dX11_readLine_106 (by decide) ?_
                        refine w_icmp_ne (tgt := 115) dX11_readLine_108 (by decide) (fun h6 => ?_) (fun h6 => ?_)
                        · skip
                          replace h6 : ¬ (((w : Nat) : Int) = 8) := fun q => h6 ((zeq (z_nI (by omega)) (by decide)).mpr q)
                          first
                          | (exfalso; omega)
                          | skip
                            refine w_iconst (v := 0) dX11_readLine_115 (by decide) ?_
                            refine w_putI ff_X11_54 rfl rfl rfl rfl dX11_readLine_116 ?_
                            have hu0 : (if nC a < 5 then (Sum.inr (so, (st, (nx, v))) : tS) else flT 5 (Sum.inr (so, (st, (nx, v))) : tS)) = (Sum.inl (2, st) : tS) := if_neg (by omega)
                            refine w_aload_n dX11_readLine_119 rfl ?_
                            refine w_callV (as := []) (st := []) (Tri.mono (d_take (I := xup (xup (xup I 30 0 0 15 (2)) 30 0 0 16 (nI st)) 30 0 0 8 (0)) hk (ht.y (((FrY.rf.up30 (by decide)).up30 (by decide)).up30 (by decide))) (s := (Sum.inl (2, st) : tS)) ⟨by show 1 ≤ 2; omega, by show 2 ≤ 5; omega, g5⟩ ⟨(xup_slot (by decide)).trans ((xup_slot (by decide)).trans xup_self), (xup_slot (by decide)).trans xup_self⟩) (Nat.le_of_ble_eq_true rfl)) rfl rfl tg_X11_takes lk_X11_119 in_X11_takes se_X11_takes rfl dX11_readLine_120 rfl (Nat.le_of_ble_eq_true rfl) (Nat.le_refl _) (Nat.le_refl _) ?_
                            rintro v M9 ⟨rfl, I1, rfl, t1, f1⟩ -
                            have fy : FrY I I1 := (((FrY.rf.up30 (by decide)).up30 (by decide)).up30 (by decide)).tr f1.y
                            have hm1 : DM I1 a false := (DM.t8 hm (I' := xup (xup (xup I 30 0 0 15 (2)) 30 0 0 16 (nI st)) 30 0 0 8 (0)) (fun x => (xup_tag (by decide)).trans ((xup_tag (by decide)).trans (xup_tag (by decide)))) (fun x hx => (xup_slot (by omega)).trans ((xup_slot (by omega)).trans (xup_slot (by omega)))) (xup_self.trans (by rfl))).n f1
                            have hou : OKT n (tkT n b (Sum.inl (2, st) : tS)) := tk_ok ⟨by show 1 ≤ 2; omega, by show 2 ≤ 5; omega, g5⟩
                            obtain ⟨u, hu⟩ : ∃ u, u = tkT n b (Sum.inl (2, st) : tS) := ⟨_, rfl⟩
                            rw [← hu] at t1 hou
                            have hu1 : tkT n b (if nC a < 5 then (Sum.inr (so, (st, (nx, v))) : tS) else flT 5 (Sum.inr (so, (st, (nx, v))) : tS)) = u := by rw [hu0, hu]
                            rw [show bodyT n b w (Sum.inr (so, (st, (nx, v))) : tS) a false = _ from (if_neg (by omega)).trans (if_pos (by omega))]
                            unfold pLz uS3 uS2 uS1
                            rw [hu1]
                            rcases u with ⟨c, p⟩ | ⟨so2, st2, nx2, v2⟩
                            · skip
                              have q1 := hou.1
                              have q2 := hou.2.1
                              replace q1 : 1 ≤ c := q1
                              replace q2 : c ≤ 5 := q2
                              refine w_aload_n dX11_readLine_123 rfl ?_
                              refine w_getI ff_X11_73 rfl rfl dX11_readLine_124 ?_
                              rw [show (I1 30 0 0 15 : Int32) = nI c from t1.1]
                              refine w_if_le (tgt := 131) dX11_readLine_127 (by decide) (fun h1 => ?_) (fun h1 => ?_)
                              · skip
                                replace h1 : ((c : Nat) : Int) ≤ 0 := (zle (z_nI (by omega)) (by decide)).mp h1
                                first
                                | (exfalso; omega)
                                | skip
                                  exfalso
                                  omega
                              · skip
                                replace h1 : ¬ (((c : Nat) : Int) ≤ 0) := fun q => h1 ((zle (z_nI (by omega)) (by decide)).mpr q)
                                first
                                | (exfalso; omega)
                                | skip
                                  exact w_return dX11_readLine_130 rfl rfl (⟨rfl, _, rfl, t1, fy, fun q z => by cases z⟩)
                            · skip
                              refine w_aload_n dX11_readLine_123 rfl ?_
                              refine w_getI ff_X11_73 rfl rfl dX11_readLine_124 ?_
                              rw [show (I1 30 0 0 15 : Int32) = 0 from t1.1]
                              refine w_if_le (tgt := 131) dX11_readLine_127 (by decide) (fun _ => ?_) (fun h => absurd (by decide) h)
                              refine w_aload_n dX11_readLine_131 rfl ?_
                              refine w_iload_n dX11_readLine_132 rfl ?_
                              cases hu
                        · skip
                          replace h6 : ((w : Nat) : Int) = 8 := (zeq (z_nI (by omega)) (by decide)).mp h6
                          first
                          | (exfalso; omega)
                          | skip
                            refine w_iconst (v := 1) dX11_readLine_111 (by decide) ?_
                            refine w_goto (tgt := 116) dX11_readLine_112 (by decide) ?_
                            refine w_putI ff_X11_54 rfl rfl rfl rfl dX11_readLine_116 ?_
                            have hu0 : (if nC a < 5 then (Sum.inr (so, (st, (nx, v))) : tS) else flT 5 (Sum.inr (so, (st, (nx, v))) : tS)) = (Sum.inl (2, st) : tS) := if_neg (by omega)
                            refine w_aload_n dX11_readLine_119 rfl ?_
                            refine w_callV (as := []) (st := []) (Tri.mono (d_take (I := xup (xup (xup I 30 0 0 15 (2)) 30 0 0 16 (nI st)) 30 0 0 8 (1)) hk (ht.y (((FrY.rf.up30 (by decide)).up30 (by decide)).up30 (by decide))) (s := (Sum.inl (2, st) : tS)) ⟨by show 1 ≤ 2; omega, by show 2 ≤ 5; omega, g5⟩ ⟨(xup_slot (by decide)).trans ((xup_slot (by decide)).trans xup_self), (xup_slot (by decide)).trans xup_self⟩) (Nat.le_of_ble_eq_true rfl)) rfl rfl tg_X11_takes lk_X11_119 in_X11_takes se_X11_takes rfl dX11_readLine_120 rfl (Nat.le_of_ble_eq_true rfl) (Nat.le_refl _) (Nat.le_refl _) ?_
                            rintro v M9 ⟨rfl, I1, rfl, t1, f1⟩ -
                            have fy : FrY I I1 := (((FrY.rf.up30 (by decide)).up30 (by decide)).up30 (by decide)).tr f1.y
                            have hm1 : DM I1 a false := (DM.t8 hm (I' := xup (xup (xup I 30 0 0 15 (2)) 30 0 0 16 (nI st)) 30 0 0 8 (1)) (fun x => (xup_tag (by decide)).trans ((xup_tag (by decide)).trans (xup_tag (by decide)))) (fun x hx => (xup_slot (by omega)).trans ((xup_slot (by omega)).trans (xup_slot (by omega)))) (xup_self.trans (by rfl))).n f1
                            have hou : OKT n (tkT n b (Sum.inl (2, st) : tS)) := tk_ok ⟨by show 1 ≤ 2; omega, by show 2 ≤ 5; omega, g5⟩
                            obtain ⟨u, hu⟩ : ∃ u, u = tkT n b (Sum.inl (2, st) : tS) := ⟨_, rfl⟩
                            rw [← hu] at t1 hou
                            have hu1 : tkT n b (if nC a < 5 then (Sum.inr (so, (st, (nx, v))) : tS) else flT 5 (Sum.inr (so, (st, (nx, v))) : tS)) = u := by rw [hu0, hu]
                            rw [show bodyT n b w (Sum.inr (so, (st, (nx, v))) : tS) a false = _ from (if_neg (by omega)).trans (if_pos (by omega))]
                            unfold pLz uS3 uS2 uS1
                            rw [hu1]
                            rcases u with ⟨c, p⟩ | ⟨so2, st2, nx2, v2⟩
                            · skip
                              have q1 := hou.1
                              have q2 := hou.2.1
                              replace q1 : 1 ≤ c := q1
                              replace q2 : c ≤ 5 := q2
                              refine w_aload_n dX11_readLine_123 rfl ?_
                              refine w_getI ff_X11_73 rfl rfl dX11_readLine_124 ?_
                              rw [show (I1 30 0 0 15 : Int32) = nI c from t1.1]
                              refine w_if_le (tgt := 131) dX11_readLine_127 (by decide) (fun h1 => ?_) (fun h1 => ?_)
                              · skip
                                replace h1 : ((c : Nat) : Int) ≤ 0 := (zle (z_nI (by omega)) (by decide)).mp h1
                                first
                                | (exfalso; omega)
                                | skip
                                  exfalso
                                  omega
                              · skip
                                replace h1 : ¬ (((c : Nat) : Int) ≤ 0) := fun q => h1 ((zle (z_nI (by omega)) (by decide)).mpr q)
                                first
                                | (exfalso; omega)
                                | skip
                                  exact w_return dX11_readLine_130 rfl rfl (⟨rfl, _, rfl, t1, fy, fun q z => by cases z⟩)
                            · skip
                              refine w_aload_n dX11_readLine_123 rfl ?_
                              refine w_getI ff_X11_73 rfl rfl dX11_readLine_124 ?_
                              rw [show (I1 30 0 0 15 : Int32) = 0 from t1.1]
                              refine w_if_le (tgt := 131) dX11_readLine_127 (by decide) (fun _ => ?_) (fun h => absurd (by decide) h)
                              refine w_aload_n dX11_readLine_131 rfl ?_
                              refine w_iload_n dX11_readLine_132 rfl ?_
                              cases hu
                    · skip
                      replace h5 : ((w : Nat) : Int) = 8 := (zeq (z_nI (by omega)) (by decide)).mp h5
                      first
                      | (exfalso; omega)
                      | skip
                        refine w_aload_n dX11_readLine_81 rfl ?_
                        refine w_getI ff_X11_54 rfl rfl dX11_readLine_82 ?_
                        rw [show ((xup (xup I 30 0 0 15 (2)) 30 0 0 16 (nI st)) 30 0 0 8 : Int32) = 0 from ((xup_slot (by decide)).trans ((xup_slot (by decide)).trans m8))]
                        refine w_if_ne (tgt := 92) dX11_readLine_85 (by decide) (fun h => absurd (by decide) h) (fun _ => ?_)
                        refine w_iconst (v := 1) dX11_readLine_88 (by decide) ?_
                        refine w_goto (tgt := 93) dX11_readLine_89 (by decide) ?_
                        refine w_iconst (v := 4) dX11_readLine_93 (by decide) ?_
                        refine w_callV (as := [vI (1), vI (4)]) (st := []) (Tri.mono (d_need1 (I := xup (xup I 30 0 0 15 (2)) 30 0 0 16 (nI st)) (4)) (Nat.le_of_ble_eq_true rfl)) rfl rfl tg_X11_needs lk_X11_115 in_X11_needs se_X11_needs rfl dX11_readLine_94 rfl (Nat.le_of_ble_eq_true rfl) (Nat.le_refl _) (Nat.le_refl _) ?_
                        rintro _ _ ⟨rfl, rfl⟩ -
                        refine w_aload_n dX11_readLine_97 rfl ?_
                        refine w_aload_n dX11_readLine_98 rfl ?_
                        refine w_getI ff_X11_54 rfl rfl dX11_readLine_99 ?_
                        rw [show ((xup (xup I 30 0 0 15 (2)) 30 0 0 16 (nI st)) 30 0 0 8 : Int32) = 0 from ((xup_slot (by decide)).trans ((xup_slot (by decide)).trans m8))]
                        refine w_if_ne (tgt := 111) dX11_readLine_102 (by decide) (fun h => absurd (by decide) h) (fun _ => ?_)
                        refine w_iload_n dX11_readLine_105 rfl ?_
                        refine w_bipush (v := 8) dX11_readLine_106 (by decide) ?_
                        refine w_icmp_ne (tgt := 115) dX11_readLine_108 (by decide) (fun h6 => ?_) (fun h6 => ?_)
                        · skip
                          replace h6 : ¬ (((w : Nat) : Int) = 8) := fun q => h6 ((zeq (z_nI (by omega)) (by decide)).mpr q)
                          first
                          | (exfalso; omega)
                          | skip
                            refine w_iconst (v := 0) dX11_readLine_115 (by decide) ?_
                            refine w_putI ff_X11_54 rfl rfl rfl rfl dX11_readLine_116 ?_
                            have hu0 : (if nC a < 5 then (Sum.inr (so, (st, (nx, v))) : tS) else flT 5 (Sum.inr (so, (st, (nx, v))) : tS)) = (Sum.inl (2, st) : tS) := if_neg (by omega)
                            refine w_aload_n dX11_readLine_119 rfl ?_
                            refine w_callV (as := []) (st := []) (Tri.mono (d_take (I := xup (xup (xup I 30 0 0 15 (2)) 30 0 0 16 (nI st)) 30 0 0 8 (0)) hk (ht.y (((FrY.rf.up30 (by decide)).up30 (by decide)).up30 (by decide))) (s := (Sum.inl (2, st) : tS)) ⟨by show 1 ≤ 2; omega, by show 2 ≤ 5; omega, g5⟩ ⟨(xup_slot (by decide)).trans ((xup_slot (by decide)).trans xup_self), (xup_slot (by decide)).trans xup_self⟩) (Nat.le_of_ble_eq_true rfl)) rfl rfl tg_X11_takes lk_X11_119 in_X11_takes se_X11_takes rfl dX11_readLine_120 rfl (Nat.le_of_ble_eq_true rfl) (Nat.le_refl _) (Nat.le_refl _) ?_
                            rintro v M9 ⟨rfl, I1, rfl, t1, f1⟩ -
                            have fy : FrY I I1 := (((FrY.rf.up30 (by decide)).up30 (by decide)).up30 (by decide)).tr f1.y
                            have hm1 : DM I1 a false := (DM.t8 hm (I' := xup (xup (xup I 30 0 0 15 (2)) 30 0 0 16 (nI st)) 30 0 0 8 (0)) (fun x => (xup_tag (by decide)).trans ((xup_tag (by decide)).trans (xup_tag (by decide)))) (fun x hx => (xup_slot (by omega)).trans ((xup_slot (by omega)).trans (xup_slot (by omega)))) (xup_self.trans (by rfl))).n f1
                            have hou : OKT n (tkT n b (Sum.inl (2, st) : tS)) := tk_ok ⟨by show 1 ≤ 2; omega, by show 2 ≤ 5; omega, g5⟩
                            obtain ⟨u, hu⟩ : ∃ u, u = tkT n b (Sum.inl (2, st) : tS) := ⟨_, rfl⟩
                            rw [← hu] at t1 hou
                            have hu1 : tkT n b (if nC a < 5 then (Sum.inr (so, (st, (nx, v))) : tS) else flT 5 (Sum.inr (so, (st, (nx, v))) : tS)) = u := by rw [hu0, hu]
                            rw [show bodyT n b w (Sum.inr (so, (st, (nx, v))) : tS) a false = _ from (if_neg (by omega)).trans (if_pos (by omega))]
                            unfold pLz uS3 uS2 uS1
                            rw [hu1]
                            rcases u with ⟨c, p⟩ | ⟨so2, st2, nx2, v2⟩
                            · skip
                              have q1 := hou.1
                              have q2 := hou.2.1
                              replace q1 : 1 ≤ c := q1
                              replace q2 : c ≤ 5 := q2
                              refine w_aload_n dX11_readLine_123 rfl ?_
                              refine w_getI ff_X11_73 rfl rfl dX11_readLine_124 ?_
                              rw [show (I1 30 0 0 15 : Int32) = nI c from t1.1]
                              refine w_if_le (tgt := 131) dX11_readLine_127 (by decide) (fun h1 => ?_) (fun h1 => ?_)
                              · skip
                                replace h1 : ((c : Nat) : Int) ≤ 0 := (zle (z_nI (by omega)) (by decide)).mp h1
                                first
                                | (exfalso; omega)
                                | skip
                                  exfalso
                                  omega
                              · skip
                                replace h1 : ¬ (((c : Nat) : Int) ≤ 0) := fun q => h1 ((zle (z_nI (by omega)) (by decide)).mpr q)
                                first
                                | (exfalso; omega)
                                | skip
                                  exact w_return dX11_readLine_130 rfl rfl (⟨rfl, _, rfl, t1, fy, fun q z => by cases z⟩)
                            · skip
                              refine w_aload_n dX11_readLine_123 rfl ?_
                              refine w_getI ff_X11_73 rfl rfl dX11_readLine_124 ?_
                              rw [show (I1 30 0 0 15 : Int32) = 0 from t1.1]
                              refine w_if_le (tgt := 131) dX11_readLine_127 (by decide) (fun _ => ?_) (fun h => absurd (by decide) h)
                              refine w_aload_n dX11_readLine_131 rfl ?_
                              refine w_iload_n dX11_readLine_132 rfl ?_
                              cases hu
                        · skip
                          replace h6 : ((w : Nat) : Int) = 8 := (zeq (z_nI (by omega)) (by decide)).mp h6
                          first
                          | (exfalso; omega)
                          | skip
                            refine w_iconst (v := 1) dX11_readLine_111 (by decide) ?_
                            refine w_goto (tgt := 116) dX11_readLine_112 (by decide) ?_
                            refine w_putI ff_X11_54 rfl rfl rfl rfl dX11_readLine_116 ?_
                            have hu0 : (if nC a < 5 then (Sum.inr (so, (st, (nx, v))) : tS) else flT 5 (Sum.inr (so, (st, (nx, v))) : tS)) = (Sum.inl (2, st) : tS) := if_neg (by omega)
                            refine w_aload_n dX11_readLine_119 rfl ?_
                            refine w_callV (as := []) (st := []) (Tri.mono (d_take (I := xup (xup (xup I 30 0 0 15 (2)) 30 0 0 16 (nI st)) 30 0 0 8 (1)) hk (ht.y (((FrY.rf.up30 (by decide)).up30 (by decide)).up30 (by decide))) (s := (Sum.inl (2, st) : tS)) ⟨by show 1 ≤ 2; omega, by show 2 ≤ 5; omega, g5⟩ ⟨(xup_slot (by decide)).trans ((xup_slot (by decide)).trans xup_self), (xup_slot (by decide)).trans xup_self⟩) (Nat.le_of_ble_eq_true rfl)) rfl rfl tg_X11_takes lk_X11_119 in_X11_takes se_X11_takes rfl dX11_readLine_120 rfl (Nat.le_of_ble_eq_true rfl) (Nat.le_refl _) (Nat.le_refl _) ?_
                            rintro v M9 ⟨rfl, I1, rfl, t1, f1⟩ -
                            have fy : FrY I I1 := (((FrY.rf.up30 (by decide)).up30 (by decide)).up30 (by decide)).tr f1.y
                            have hm1 : DM I1 a false := (DM.t8 hm (I' := xup (xup (xup I 30 0 0 15 (2)) 30 0 0 16 (nI st)) 30 0 0 8 (1)) (fun x => (xup_tag (by decide)).trans ((xup_tag (by decide)).trans (xup_tag (by decide)))) (fun x hx => (xup_slot (by omega)).trans ((xup_slot (by omega)).trans (xup_slot (by omega)))) (xup_self.trans (by rfl))).n f1
                            have hou : OKT n (tkT n b (Sum.inl (2, st) : tS)) := tk_ok ⟨by show 1 ≤ 2; omega, by show 2 ≤ 5; omega, g5⟩
                            obtain ⟨u, hu⟩ : ∃ u, u = tkT n b (Sum.inl (2, st) : tS) := ⟨_, rfl⟩
                            rw [← hu] at t1 hou
                            have hu1 : tkT n b (if nC a < 5 then (Sum.inr (so, (st, (nx, v))) : tS) else flT 5 (Sum.inr (so, (st, (nx, v))) : tS)) = u := by rw [hu0, hu]
                            rw [show bodyT n b w (Sum.inr (so, (st, (nx, v))) : tS) a false = _ from (if_neg (by omega)).trans (if_pos (by omega))]
                            unfold pLz uS3 uS2 uS1
                            rw [hu1]
                            rcases u with ⟨c, p⟩ | ⟨so2, st2, nx2, v2⟩
                            · skip
                              have q1 := hou.1
                              have q2 := hou.2.1
                              replace q1 : 1 ≤ c := q1
                              replace q2 : c ≤ 5 := q2
                              refine w_aload_n dX11_readLine_123 rfl ?_
                              refine w_getI ff_X11_73 rfl rfl dX11_readLine_124 ?_
                              rw [show (I1 30 0 0 15 : Int32) = nI c from t1.1]
                              refine w_if_le (tgt := 131) dX11_readLine_127 (by decide) (fun h1 => ?_) (fun h1 => ?_)
                              · skip
                                replace h1 : ((c : Nat) : Int) ≤ 0 := (zle (z_nI (by omega)) (by decide)).mp h1
                                first
                                | (exfalso; omega)
                                | skip
                                  exfalso
                                  omega
                              · skip
                                replace h1 : ¬ (((c : Nat) : Int) ≤ 0) := fun q => h1 ((zle (z_nI (by omega)) (by decide)).mpr q)
                                first
                                | (exfalso; omega)
                                | skip
                                  exact w_return dX11_readLine_130 rfl rfl (⟨rfl, _, rfl, t1, fy, fun q z => by cases z⟩)
                            · skip
                              refine w_aload_n dX11_readLine_123 rfl ?_
                              refine w_getI ff_X11_73 rfl rfl dX11_readLine_124 ?_
                              rw [show (I1 30 0 0 15 : Int32) = 0 from t1.1]
                              refine w_if_le (tgt := 131) dX11_readLine_127 (by decide) (fun _ => ?_) (fun h => absurd (by decide) h)
                              refine w_aload_n dX11_readLine_131 rfl ?_
                              refine w_iload_n dX11_readLine_132 rfl ?_
                              cases hu
                · skip
                  replace h4 : ¬ (4 ≤ ((nJ a : Nat) : Int)) := fun q => h4 ((zle (by decide) (z_nI (by omega))).mpr q)
                  first
                  | (exfalso; omega)
                  | skip
                    refine w_iconst (v := 1) dX11_readLine_65 (by decide) ?_
                    refine w_goto (tgt := 70) dX11_readLine_66 (by decide) ?_
                    refine w_iconst (v := 5) dX11_readLine_70 (by decide) ?_
                    refine w_callV (as := [vI (1), vI (5)]) (st := []) (Tri.mono (d_need1 (I := xup (xup I 30 0 0 15 (2)) 30 0 0 16 (nI st)) (5)) (Nat.le_of_ble_eq_true rfl)) rfl rfl tg_X11_needs lk_X11_115 in_X11_needs se_X11_needs rfl dX11_readLine_71 rfl (Nat.le_of_ble_eq_true rfl) (Nat.le_refl _) (Nat.le_refl _) ?_
                    rintro _ _ ⟨rfl, rfl⟩ -
                    refine w_aload_n dX11_readLine_74 rfl ?_
                    refine w_iload_n dX11_readLine_75 rfl ?_
                    refine w_bipush (v := 8) dX11_readLine_76 (by decide) ?_
                    refine w_icmp_ne (tgt := 88) dX11_readLine_78 (by decide) (fun h5 => ?_) (fun h5 => ?_)
                    · skip
                      replace h5 : ¬ (((w : Nat) : Int) = 8) := fun q => h5 ((zeq (z_nI (by omega)) (by decide)).mpr q)
                      first
                      | (exfalso; omega)
                      | skip
                        refine w_iconst (v := 1) dX11_readLine_88 (by decide) ?_
                        refine w_goto (tgt := 93) dX11_readLine_89 (by decide) ?_
                        refine w_iconst (v := 4) dX11_readLine_93 (by decide) ?_
                        refine w_callV (as := [vI (1), vI (4)]) (st := []) (Tri.mono (d_need1 (I := xup (xup I 30 0 0 15 (2)) 30 0 0 16 (nI st)) (4)) (Nat.le_of_ble_eq_true rfl)) rfl rfl tg_X11_needs lk_X11_115 in_X11_needs se_X11_needs rfl dX11_readLine_94 rfl (Nat.le_of_ble_eq_true rfl) (Nat.le_refl _) (Nat.le_refl _) ?_
                        rintro _ _ ⟨rfl, rfl⟩ -
                        refine w_aload_n dX11_readLine_97 rfl ?_
                        refine w_aload_n dX11_readLine_98 rfl ?_
                        refine w_getI ff_X11_54 rfl rfl dX11_readLine_99 ?_
                        rw [show ((xup (xup I 30 0 0 15 (2)) 30 0 0 16 (nI st)) 30 0 0 8 : Int32) = 0 from ((xup_slot (by decide)).trans ((xup_slot (by decide)).trans m8))]
                        refine w_if_ne (tgt := 111) dX11_readLine_102 (by decide) (fun h => absurd (by decide) h) (fun _ => ?_)
                        refine w_iload_n dX11_readLine_105 rfl ?_
                        refine w_bipush (v := 8) dX11_readLine_106 (by decide) ?_
                        refine w_icmp_ne (tgt := 115) dX11_readLine_108 (by decide) (fun h6 => ?_) (fun h6 => ?_)
                        · skip
                          replace h6 : ¬ (((w : Nat) : Int) = 8) := fun q => h6 ((zeq (z_nI (by omega)) (by decide)).mpr q)
                          first
                          | (exfalso; omega)
                          | skip
                            refine w_iconst (v := 0) dX11_readLine_115 (by decide) ?_
                            refine w_putI ff_X11_54 rfl rfl rfl rfl dX11_readLine_116 ?_
                            have hu0 : (if nC a < 5 then (Sum.inr (so, (st, (nx, v))) : tS) else flT 5 (Sum.inr (so, (st, (nx, v))) : tS)) = (Sum.inl (2, st) : tS) := if_neg (by omega)
                            refine w_aload_n dX11_readLine_119 rfl ?_
                            refine w_callV (as := []) (st := []) (Tri.mono (d_take (I := xup (xup (xup I 30 0 0 15 (2)) 30 0 0 16 (nI st)) 30 0 0 8 (0)) hk (ht.y (((FrY.rf.up30 (by decide)).up30 (by decide)).up30 (by decide))) (s := (Sum.inl (2, st) : tS)) ⟨by show 1 ≤ 2; omega, by show 2 ≤ 5; omega, g5⟩ ⟨(xup_slot (by decide)).trans ((xup_slot (by decide)).trans xup_self), (xup_slot (by decide)).trans xup_self⟩) (Nat.le_of_ble_eq_true rfl)) rfl rfl tg_X11_takes lk_X11_119 in_X11_takes se_X11_takes rfl dX11_readLine_120 rfl (Nat.le_of_ble_eq_true rfl) (Nat.le_refl _) (Nat.le_refl _) ?_
                            rintro v M9 ⟨rfl, I1, rfl, t1, f1⟩ -
                            have fy : FrY I I1 := (((FrY.rf.up30 (by decide)).up30 (by decide)).up30 (by decide)).tr f1.y
                            have hm1 : DM I1 a false := (DM.t8 hm (I' := xup (xup (xup I 30 0 0 15 (2)) 30 0 0 16 (nI st)) 30 0 0 8 (0)) (fun x => (xup_tag (by decide)).trans ((xup_tag (by decide)).trans (xup_tag (by decide)))) (fun x hx => (xup_slot (by omega)).trans ((xup_slot (by omega)).trans (xup_slot (by omega)))) (xup_self.trans (by rfl))).n f1
                            have hou : OKT n (tkT n b (Sum.inl (2, st) : tS)) := tk_ok ⟨by show 1 ≤ 2; omega, by show 2 ≤ 5; omega, g5⟩
                            obtain ⟨u, hu⟩ : ∃ u, u = tkT n b (Sum.inl (2, st) : tS) := ⟨_, rfl⟩
                            rw [← hu] at t1 hou
                            have hu1 : tkT n b (if nC a < 5 then (Sum.inr (so, (st, (nx, v))) : tS) else flT 5 (Sum.inr (so, (st, (nx, v))) : tS)) = u := by rw [hu0, hu]
                            rw [show bodyT n b w (Sum.inr (so, (st, (nx, v))) : tS) a false = _ from (if_neg (by omega)).trans (if_pos (by omega))]
                            unfold pLz uS3 uS2 uS1
                            rw [hu1]
                            rcases u with ⟨c, p⟩ | ⟨so2, st2, nx2, v2⟩
                            · skip
                              have q1 := hou.1
                              have q2 := hou.2.1
                              replace q1 : 1 ≤ c := q1
                              replace q2 : c ≤ 5 := q2
                              refine w_aload_n dX11_readLine_123 rfl ?_
                              refine w_getI ff_X11_73 rfl rfl dX11_readLine_124 ?_
                              rw [show (I1 30 0 0 15 : Int32) = nI c from t1.1]
                              refine w_if_le (tgt := 131) dX11_readLine_127 (by decide) (fun h1 => ?_) (fun h1 => ?_)
                              · skip
                                replace h1 : ((c : Nat) : Int) ≤ 0 := (zle (z_nI (by omega)) (by decide)).mp h1
                                first
                                | (exfalso; omega)
                                | skip
                                  exfalso
                                  omega
                              · skip
                                replace h1 : ¬ (((c : Nat) : Int) ≤ 0) := fun q => h1 ((zle (z_nI (by omega)) (by decide)).mpr q)
                                first
                                | (exfalso; omega)
                                | skip
                                  exact w_return dX11_readLine_130 rfl rfl (⟨rfl, _, rfl, t1, fy, fun q z => by cases z⟩)
                            · skip
                              refine w_aload_n dX11_readLine_123 rfl ?_
                              refine w_getI ff_X11_73 rfl rfl dX11_readLine_124 ?_
                              rw [show (I1 30 0 0 15 : Int32) = 0 from t1.1]
                              refine w_if_le (tgt := 131) dX11_readLine_127 (by decide) (fun _ => ?_) (fun h => absurd (by decide) h)
                              refine w_aload_n dX11_readLine_131 rfl ?_
                              refine w_iload_n dX11_readLine_132 rfl ?_
                              cases hu
                        · skip
                          replace h6 : ((w : Nat) : Int) = 8 := (zeq (z_nI (by omega)) (by decide)).mp h6
                          first
                          | (exfalso; omega)
                          | skip
                            refine w_iconst (v := 1) dX11_readLine_111 (by decide) ?_
                            refine w_goto (tgt := 116) dX11_readLine_112 (by decide) ?_
                            refine w_putI ff_X11_54 rfl rfl rfl rfl dX11_readLine_116 ?_
                            have hu0 : (if nC a < 5 then (Sum.inr (so, (st, (nx, v))) : tS) else flT 5 (Sum.inr (so, (st, (nx, v))) : tS)) = (Sum.inl (2, st) : tS) := if_neg (by omega)
                            refine w_aload_n dX11_readLine_119 rfl ?_
                            refine w_callV (as := []) (st := []) (Tri.mono (d_take (I := xup (xup (xup I 30 0 0 15 (2)) 30 0 0 16 (nI st)) 30 0 0 8 (1)) hk (ht.y (((FrY.rf.up30 (by decide)).up30 (by decide)).up30 (by decide))) (s := (Sum.inl (2, st) : tS)) ⟨by show 1 ≤ 2; omega, by show 2 ≤ 5; omega, g5⟩ ⟨(xup_slot (by decide)).trans ((xup_slot (by decide)).trans xup_self), (xup_slot (by decide)).trans xup_self⟩) (Nat.le_of_ble_eq_true rfl)) rfl rfl tg_X11_takes lk_X11_119 in_X11_takes se_X11_takes rfl dX11_readLine_120 rfl (Nat.le_of_ble_eq_true rfl) (Nat.le_refl _) (Nat.le_refl _) ?_
                            rintro v M9 ⟨rfl, I1, rfl, t1, f1⟩ -
                            have fy : FrY I I1 := (((FrY.rf.up30 (by decide)).up30 (by decide)).up30 (by decide)).tr f1.y
                            have hm1 : DM I1 a false := (DM.t8 hm (I' := xup (xup (xup I 30 0 0 15 (2)) 30 0 0 16 (nI st)) 30 0 0 8 (1)) (fun x => (xup_tag (by decide)).trans ((xup_tag (by decide)).trans (xup_tag (by decide)))) (fun x hx => (xup_slot (by omega)).trans ((xup_slot (by omega)).trans (xup_slot (by omega)))) (xup_self.trans (by rfl))).n f1
                            have hou : OKT n (tkT n b (Sum.inl (2, st) : tS)) := tk_ok ⟨by show 1 ≤ 2; omega, by show 2 ≤ 5; omega, g5⟩
                            obtain ⟨u, hu⟩ : ∃ u, u = tkT n b (Sum.inl (2, st) : tS) := ⟨_, rfl⟩
                            rw [← hu] at t1 hou
                            have hu1 : tkT n b (if nC a < 5 then (Sum.inr (so, (st, (nx, v))) : tS) else flT 5 (Sum.inr (so, (st, (nx, v))) : tS)) = u := by rw [hu0, hu]
                            rw [show bodyT n b w (Sum.inr (so, (st, (nx, v))) : tS) a false = _ from (if_neg (by omega)).trans (if_pos (by omega))]
                            unfold pLz uS3 uS2 uS1
                            rw [hu1]
                            rcases u with ⟨c, p⟩ | ⟨so2, st2, nx2, v2⟩
                            · skip
                              have q1 := hou.1
                              have q2 := hou.2.1
                              replace q1 : 1 ≤ c := q1
                              replace q2 : c ≤ 5 := q2
                              refine w_aload_n dX11_readLine_123 rfl ?_
                              refine w_getI ff_X11_73 rfl rfl dX11_readLine_124 ?_
                              rw [show (I1 30 0 0 15 : Int32) = nI c from t1.1]
                              refine w_if_le (tgt := 131) dX11_readLine_127 (by decide) (fun h1 => ?_) (fun h1 => ?_)
                              · skip
                                replace h1 : ((c : Nat) : Int) ≤ 0 := (zle (z_nI (by omega)) (by decide)).mp h1
                                first
                                | (exfalso; omega)
                                | skip
                                  exfalso
                                  omega
                              · skip
                                replace h1 : ¬ (((c : Nat) : Int) ≤ 0) := fun q => h1 ((zle (z_nI (by omega)) (by decide)).mpr q)
                                first
                                | (exfalso; omega)
                                | skip
                                  exact w_return dX11_readLine_130 rfl rfl (⟨rfl, _, rfl, t1, fy, fun q z => by cases z⟩)
                            · skip
                              refine w_aload_n dX11_readLine_123 rfl ?_
                              refine w_getI ff_X11_73 rfl rfl dX11_readLine_124 ?_
                              rw [show (I1 30 0 0 15 : Int32) = 0 from t1.1]
                              refine w_if_le (tgt := 131) dX11_readLine_127 (by decide) (fun _ => ?_) (fun h => absurd (by decide) h)
                              refine w_aload_n dX11_readLine_131 rfl ?_
                              refine w_iload_n dX11_readLine_132 rfl ?_
                              cases hu
                    · skip
                      replace h5 : ((w : Nat) : Int) = 8 := (zeq (z_nI (by omega)) (by decide)).mp h5
                      first
                      | (exfalso; omega)
                      | skip
                        refine w_aload_n dX11_readLine_81 rfl ?_
                        refine w_getI ff_X11_54 rfl rfl dX11_readLine_82 ?_
                        rw [show ((xup (xup I 30 0 0 15 (2)) 30 0 0 16 (nI st)) 30 0 0 8 : Int32) = 0 from ((xup_slot (by decide)).trans ((xup_slot (by decide)).trans m8))]
                        refine w_if_ne (tgt := 92) dX11_readLine_85 (by decide) (fun h => absurd (by decide) h) (fun _ => ?_)
                        refine w_iconst (v := 1) dX11_readLine_88 (by decide) ?_
                        refine w_goto (tgt := 93) dX11_readLine_89 (by decide) ?_
                        refine w_iconst (v := 4) dX11_readLine_93 (by decide) ?_
                        refine w_callV (as := [vI (1), vI (4)]) (st := []) (Tri.mono (d_need1 (I := xup (xup I 30 0 0 15 (2)) 30 0 0 16 (nI st)) (4)) (Nat.le_of_ble_eq_true rfl)) rfl rfl tg_X11_needs lk_X11_115 in_X11_needs se_X11_needs rfl dX11_readLine_94 rfl (Nat.le_of_ble_eq_true rfl) (Nat.le_refl _) (Nat.le_refl _) ?_
                        rintro _ _ ⟨rfl, rfl⟩ -
                        refine w_aload_n dX11_readLine_97 rfl ?_
                        refine w_aload_n dX11_readLine_98 rfl ?_
                        refine w_getI ff_X11_54 rfl rfl dX11_readLine_99 ?_
                        rw [show ((xup (xup I 30 0 0 15 (2)) 30 0 0 16 (nI st)) 30 0 0 8 : Int32) = 0 from ((xup_slot (by decide)).trans ((xup_slot (by decide)).trans m8))]
                        refine w_if_ne (tgt := 111) dX11_readLine_102 (by decide) (fun h => absurd (by decide) h) (fun _ => ?_)
                        refine w_iload_n dX11_readLine_105 rfl ?_
                        refine w_bipush (v := 8) dX11_readLine_106 (by decide) ?_
                        refine w_icmp_ne (tgt := 115) dX11_readLine_108 (by decide) (fun h6 => ?_) (fun h6 => ?_)
                        · skip
                          replace h6 : ¬ (((w : Nat) : Int) = 8) := fun q => h6 ((zeq (z_nI (by omega)) (by decide)).mpr q)
                          first
                          | (exfalso; omega)
                          | skip
                            refine w_iconst (v := 0) dX11_readLine_115 (by decide) ?_
                            refine w_putI ff_X11_54 rfl rfl rfl rfl dX11_readLine_116 ?_
                            have hu0 : (if nC a < 5 then (Sum.inr (so, (st, (nx, v))) : tS) else flT 5 (Sum.inr (so, (st, (nx, v))) : tS)) = (Sum.inl (2, st) : tS) := if_neg (by omega)
                            refine w_aload_n dX11_readLine_119 rfl ?_
                            refine w_callV (as := []) (st := []) (Tri.mono (d_take (I := xup (xup (xup I 30 0 0 15 (2)) 30 0 0 16 (nI st)) 30 0 0 8 (0)) hk (ht.y (((FrY.rf.up30 (by decide)).up30 (by decide)).up30 (by decide))) (s := (Sum.inl (2, st) : tS)) ⟨by show 1 ≤ 2; omega, by show 2 ≤ 5; omega, g5⟩ ⟨(xup_slot (by decide)).trans ((xup_slot (by decide)).trans xup_self), (xup_slot (by decide)).trans xup_self⟩) (Nat.le_of_ble_eq_true rfl)) rfl rfl tg_X11_takes lk_X11_119 in_X11_takes se_X11_takes rfl dX11_readLine_120 rfl (Nat.le_of_ble_eq_true rfl) (Nat.le_refl _) (Nat.le_refl _) ?_
                            rintro v M9 ⟨rfl, I1, rfl, t1, f1⟩ -
                            have fy : FrY I I1 := (((FrY.rf.up30 (by decide)).up30 (by decide)).up30 (by decide)).tr f1.y
                            have hm1 : DM I1 a false := (DM.t8 hm (I' := xup (xup (xup I 30 0 0 15 (2)) 30 0 0 16 (nI st)) 30 0 0 8 (0)) (fun x => (xup_tag (by decide)).trans ((xup_tag (by decide)).trans (xup_tag (by decide)))) (fun x hx => (xup_slot (by omega)).trans ((xup_slot (by omega)).trans (xup_slot (by omega)))) (xup_self.trans (by rfl))).n f1
                            have hou : OKT n (tkT n b (Sum.inl (2, st) : tS)) := tk_ok ⟨by show 1 ≤ 2; omega, by show 2 ≤ 5; omega, g5⟩
                            obtain ⟨u, hu⟩ : ∃ u, u = tkT n b (Sum.inl (2, st) : tS) := ⟨_, rfl⟩
                            rw [← hu] at t1 hou
                            have hu1 : tkT n b (if nC a < 5 then (Sum.inr (so, (st, (nx, v))) : tS) else flT 5 (Sum.inr (so, (st, (nx, v))) : tS)) = u := by rw [hu0, hu]
                            rw [show bodyT n b w (Sum.inr (so, (st, (nx, v))) : tS) a false = _ from (if_neg (by omega)).trans (if_pos (by omega))]
                            unfold pLz uS3 uS2 uS1
                            rw [hu1]
                            rcases u with ⟨c, p⟩ | ⟨so2, st2, nx2, v2⟩
                            · skip
                              have q1 := hou.1
                              have q2 := hou.2.1
                              replace q1 : 1 ≤ c := q1
                              replace q2 : c ≤ 5 := q2
                              refine w_aload_n dX11_readLine_123 rfl ?_
                              refine w_getI ff_X11_73 rfl rfl dX11_readLine_124 ?_
                              rw [show (I1 30 0 0 15 : Int32) = nI c from t1.1]
                              refine w_if_le (tgt := 131) dX11_readLine_127 (by decide) (fun h1 => ?_) (fun h1 => ?_)
                              · skip
                                replace h1 : ((c : Nat) : Int) ≤ 0 := (zle (z_nI (by omega)) (by decide)).mp h1
                                first
                                | (exfalso; omega)
                                | skip
                                  exfalso
                                  omega
                              · skip
                                replace h1 : ¬ (((c : Nat) : Int) ≤ 0) := fun q => h1 ((zle (z_nI (by omega)) (by decide)).mpr q)
                                first
                                | (exfalso; omega)
                                | skip
                                  exact w_return dX11_readLine_130 rfl rfl (⟨rfl, _, rfl, t1, fy, fun q z => by cases z⟩)
                            · skip
                              refine w_aload_n dX11_readLine_123 rfl ?_
                              refine w_getI ff_X11_73 rfl rfl dX11_readLine_124 ?_
                              rw [show (I1 30 0 0 15 : Int32) = 0 from t1.1]
                              refine w_if_le (tgt := 131) dX11_readLine_127 (by decide) (fun _ => ?_) (fun h => absurd (by decide) h)
                              refine w_aload_n dX11_readLine_131 rfl ?_
                              refine w_iload_n dX11_readLine_132 rfl ?_
                              cases hu
                        · skip
                          replace h6 : ((w : Nat) : Int) = 8 := (zeq (z_nI (by omega)) (by decide)).mp h6
                          first
                          | (exfalso; omega)
                          | skip
                            refine w_iconst (v := 1) dX11_readLine_111 (by decide) ?_
                            refine w_goto (tgt := 116) dX11_readLine_112 (by decide) ?_
                            refine w_putI ff_X11_54 rfl rfl rfl rfl dX11_readLine_116 ?_
                            have hu0 : (if nC a < 5 then (Sum.inr (so, (st, (nx, v))) : tS) else flT 5 (Sum.inr (so, (st, (nx, v))) : tS)) = (Sum.inl (2, st) : tS) := if_neg (by omega)
                            refine w_aload_n dX11_readLine_119 rfl ?_
                            refine w_callV (as := []) (st := []) (Tri.mono (d_take (I := xup (xup (xup I 30 0 0 15 (2)) 30 0 0 16 (nI st)) 30 0 0 8 (1)) hk (ht.y (((FrY.rf.up30 (by decide)).up30 (by decide)).up30 (by decide))) (s := (Sum.inl (2, st) : tS)) ⟨by show 1 ≤ 2; omega, by show 2 ≤ 5; omega, g5⟩ ⟨(xup_slot (by decide)).trans ((xup_slot (by decide)).trans xup_self), (xup_slot (by decide)).trans xup_self⟩) (Nat.le_of_ble_eq_true rfl)) rfl rfl tg_X11_takes lk_X11_119 in_X11_takes se_X11_takes rfl dX11_readLine_120 rfl (Nat.le_of_ble_eq_true rfl) (Nat.le_refl _) (Nat.le_refl _) ?_
                            rintro v M9 ⟨rfl, I1, rfl, t1, f1⟩ -
                            have fy : FrY I I1 := (((FrY.rf.up30 (by decide)).up30 (by decide)).up30 (by decide)).tr f1.y
                            have hm1 : DM I1 a false := (DM.t8 hm (I' := xup (xup (xup I 30 0 0 15 (2)) 30 0 0 16 (nI st)) 30 0 0 8 (1)) (fun x => (xup_tag (by decide)).trans ((xup_tag (by decide)).trans (xup_tag (by decide)))) (fun x hx => (xup_slot (by omega)).trans ((xup_slot (by omega)).trans (xup_slot (by omega)))) (xup_self.trans (by rfl))).n f1
                            have hou : OKT n (tkT n b (Sum.inl (2, st) : tS)) := tk_ok ⟨by show 1 ≤ 2; omega, by show 2 ≤ 5; omega, g5⟩
                            obtain ⟨u, hu⟩ : ∃ u, u = tkT n b (Sum.inl (2, st) : tS) := ⟨_, rfl⟩
                            rw [← hu] at t1 hou
                            have hu1 : tkT n b (if nC a < 5 then (Sum.inr (so, (st, (nx, v))) : tS) else flT 5 (Sum.inr (so, (st, (nx, v))) : tS)) = u := by rw [hu0, hu]
                            rw [show bodyT n b w (Sum.inr (so, (st, (nx, v))) : tS) a false = _ from (if_neg (by omega)).trans (if_pos (by omega))]
                            unfold pLz uS3 uS2 uS1
                            rw [hu1]
                            rcases u with ⟨c, p⟩ | ⟨so2, st2, nx2, v2⟩
                            · skip
                              have q1 := hou.1
                              have q2 := hou.2.1
                              replace q1 : 1 ≤ c := q1
                              replace q2 : c ≤ 5 := q2
                              refine w_aload_n dX11_readLine_123 rfl ?_
                              refine w_getI ff_X11_73 rfl rfl dX11_readLine_124 ?_
                              rw [show (I1 30 0 0 15 : Int32) = nI c from t1.1]
                              refine w_if_le (tgt := 131) dX11_readLine_127 (by decide) (fun h1 => ?_) (fun h1 => ?_)
                              · skip
                                replace h1 : ((c : Nat) : Int) ≤ 0 := (zle (z_nI (by omega)) (by decide)).mp h1
                                first
                                | (exfalso; omega)
                                | skip
                                  exfalso
                                  omega
                              · skip
                                replace h1 : ¬ (((c : Nat) : Int) ≤ 0) := fun q => h1 ((zle (z_nI (by omega)) (by decide)).mpr q)
                                first
                                | (exfalso; omega)
                                | skip
                                  exact w_return dX11_readLine_130 rfl rfl (⟨rfl, _, rfl, t1, fy, fun q z => by cases z⟩)
                            · skip
                              refine w_aload_n dX11_readLine_123 rfl ?_
                              refine w_getI ff_X11_73 rfl rfl dX11_readLine_124 ?_
                              rw [show (I1 30 0 0 15 : Int32) = 0 from t1.1]
                              refine w_if_le (tgt := 131) dX11_readLine_127 (by decide) (fun _ => ?_) (fun h => absurd (by decide) h)
                              refine w_aload_n dX11_readLine_131 rfl ?_
                              refine w_iload_n dX11_readLine_132 rfl ?_
                              cases hu
            · skip
              replace h3 : ¬ (((w : Nat) : Int) < 4) := fun q => h3 ((zlt (z_nI (by omega)) (by decide)).mpr q)
              first
              | (exfalso; omega)
              | skip
                refine w_aload_n dX11_readLine_46 rfl ?_
                refine w_getI ff_X11_51 rfl rfl dX11_readLine_47 ?_
                rw [show ((xup (xup I 30 0 0 15 (2)) 30 0 0 16 (nI st)) 30 0 0 7 : Int32) = nI (nC a) from ((xup_slot (by decide)).trans ((xup_slot (by decide)).trans m7))]
                refine w_iconst (v := 5) dX11_readLine_50 (by decide) ?_
                refine w_icmp_ge (tgt := 69) dX11_readLine_51 (by decide) (fun h4 => ?_) (fun h4 => ?_)
                · skip
                  replace h4 : 5 ≤ ((nC a : Nat) : Int) := (zle (by decide) (z_nI (by omega))).mp h4
                  first
                  | (exfalso; omega)
                  | skip
                    refine w_iconst (v := 0) dX11_readLine_69 (by decide) ?_
                    refine w_iconst (v := 5) dX11_readLine_70 (by decide) ?_
                    refine w_callV (as := [vI (0), vI (5)]) (st := []) (Tri.mono (d_needD (I := xup (xup I 30 0 0 15 (2)) 30 0 0 16 (nI st)) (e := 2) ⟨by decide, by decide⟩ (((xup_slot (by decide)).trans xup_self).trans (by rfl)) (5)) (Nat.le_of_ble_eq_true rfl)) rfl rfl tg_X11_needs lk_X11_115 in_X11_needs se_X11_needs rfl dX11_readLine_71 rfl (Nat.le_of_ble_eq_true rfl) (Nat.le_refl _) (Nat.le_refl _) ?_
                    rintro _ _ ⟨rfl, rfl⟩ -
                    refine w_aload_n dX11_readLine_74 rfl ?_
                    refine w_iload_n dX11_readLine_75 rfl ?_
                    refine w_bipush (v := 8) dX11_readLine_76 (by decide) ?_
                    refine w_icmp_ne (tgt := 88) dX11_readLine_78 (by decide) (fun h5 => ?_) (fun h5 => ?_)
                    · skip
                      replace h5 : ¬ (((w : Nat) : Int) = 8) := fun q => h5 ((zeq (z_nI (by omega)) (by decide)).mpr q)
                      first
                      | (exfalso; omega)
                      | skip
                        refine w_iconst (v := 1) dX11_readLine_88 (by decide) ?_
                        refine w_goto (tgt := 93) dX11_readLine_89 (by decide) ?_
                        refine w_iconst (v := 4) dX11_readLine_93 (by decide) ?_
                        refine w_callV (as := [vI (1), vI (4)]) (st := []) (Tri.mono (d_need1 (I := xup (xup I 30 0 0 15 (2)) 30 0 0 16 (nI st)) (4)) (Nat.le_of_ble_eq_true rfl)) rfl rfl tg_X11_needs lk_X11_115 in_X11_needs se_X11_needs rfl dX11_readLine_94 rfl (Nat.le_of_ble_eq_true rfl) (Nat.le_refl _) (Nat.le_refl _) ?_
                        rintro _ _ ⟨rfl, rfl⟩ -
                        refine w_aload_n dX11_readLine_97 rfl ?_
                        refine w_aload_n dX11_readLine_98 rfl ?_
                        refine w_getI ff_X11_54 rfl rfl dX11_readLine_99 ?_
                        rw [show ((xup (xup I 30 0 0 15 (2)) 30 0 0 16 (nI st)) 30 0 0 8 : Int32) = 0 from ((xup_slot (by decide)).trans ((xup_slot (by decide)).trans m8))]
                        refine w_if_ne (tgt := 111) dX11_readLine_102 (by decide) (fun h => absurd (by decide) h) (fun _ => ?_)
                        refine w_iload_n dX11_readLine_105 rfl ?_
                        refine w_bipush (v := 8) dX11_readLine_106 (by decide) ?_
                        refine w_icmp_ne (tgt := 115) dX11_readLine_108 (by decide) (fun h6 => ?_) (fun h6 => ?_)
                        · skip
                          replace h6 : ¬ (((w : Nat) : Int) = 8) := fun q => h6 ((zeq (z_nI (by omega)) (by decide)).mpr q)
                          first
                          | (exfalso; omega)
                          | skip
                            refine w_iconst (v := 0) dX11_readLine_115 (by decide) ?_
                            refine w_putI ff_X11_54 rfl rfl rfl rfl dX11_readLine_116 ?_
                            have hu0 : (if nC a < 5 then (Sum.inr (so, (st, (nx, v))) : tS) else flT 5 (Sum.inr (so, (st, (nx, v))) : tS)) = (Sum.inl (2, st) : tS) := if_neg (by omega)
                            refine w_aload_n dX11_readLine_119 rfl ?_
                            refine w_callV (as := []) (st := []) (Tri.mono (d_take (I := xup (xup (xup I 30 0 0 15 (2)) 30 0 0 16 (nI st)) 30 0 0 8 (0)) hk (ht.y (((FrY.rf.up30 (by decide)).up30 (by decide)).up30 (by decide))) (s := (Sum.inl (2, st) : tS)) ⟨by show 1 ≤ 2; omega, by show 2 ≤ 5; omega, g5⟩ ⟨(xup_slot (by decide)).trans ((xup_slot (by decide)).trans xup_self), (xup_slot (by decide)).trans xup_self⟩) (Nat.le_of_ble_eq_true rfl)) rfl rfl tg_X11_takes lk_X11_119 in_X11_takes se_X11_takes rfl dX11_readLine_120 rfl (Nat.le_of_ble_eq_true rfl) (Nat.le_refl _) (Nat.le_refl _) ?_
                            rintro v M9 ⟨rfl, I1, rfl, t1, f1⟩ -
                            have fy : FrY I I1 := (((FrY.rf.up30 (by decide)).up30 (by decide)).up30 (by decide)).tr f1.y
                            have hm1 : DM I1 a false := (DM.t8 hm (I' := xup (xup (xup I 30 0 0 15 (2)) 30 0 0 16 (nI st)) 30 0 0 8 (0)) (fun x => (xup_tag (by decide)).trans ((xup_tag (by decide)).trans (xup_tag (by decide)))) (fun x hx => (xup_slot (by omega)).trans ((xup_slot (by omega)).trans (xup_slot (by omega)))) (xup_self.trans (by rfl))).n f1
                            have hou : OKT n (tkT n b (Sum.inl (2, st) : tS)) := tk_ok ⟨by show 1 ≤ 2; omega, by show 2 ≤ 5; omega, g5⟩
                            obtain ⟨u, hu⟩ : ∃ u, u = tkT n b (Sum.inl (2, st) : tS) := ⟨_, rfl⟩
                            rw [← hu] at t1 hou
                            have hu1 : tkT n b (if nC a < 5 then (Sum.inr (so, (st, (nx, v))) : tS) else flT 5 (Sum.inr (so, (st, (nx, v))) : tS)) = u := by rw [hu0, hu]
                            rw [show bodyT n b w (Sum.inr (so, (st, (nx, v))) : tS) a false = _ from (if_neg (by omega)).trans (if_pos (by omega))]
                            unfold pLz uS3 uS2 uS1
                            rw [hu1]
                            rcases u with ⟨c, p⟩ | ⟨so2, st2, nx2, v2⟩
                            · skip
                              have q1 := hou.1
                              have q2 := hou.2.1
                              replace q1 : 1 ≤ c := q1
                              replace q2 : c ≤ 5 := q2
                              refine w_aload_n dX11_readLine_123 rfl ?_
                              refine w_getI ff_X11_73 rfl rfl dX11_readLine_124 ?_
                              rw [show (I1 30 0 0 15 : Int32) = nI c from t1.1]
                              refine w_if_le (tgt := 131) dX11_readLine_127 (by decide) (fun h1 => ?_) (fun h1 => ?_)
                              · skip
                                replace h1 : ((c : Nat) : Int) ≤ 0 := (zle (z_nI (by omega)) (by decide)).mp h1
                                first
                                | (exfalso; omega)
                                | skip
                                  exfalso
                                  omega
                              · skip
                                replace h1 : ¬ (((c : Nat) : Int) ≤ 0) := fun q => h1 ((zle (z_nI (by omega)) (by decide)).mpr q)
                                first
                                | (exfalso; omega)
                                | skip
                                  exact w_return dX11_readLine_130 rfl rfl (⟨rfl, _, rfl, t1, fy, fun q z => by cases z⟩)
                            · skip
                              refine w_aload_n dX11_readLine_123 rfl ?_
                              refine w_getI ff_X11_73 rfl rfl dX11_readLine_124 ?_
                              rw [show (I1 30 0 0 15 : Int32) = 0 from t1.1]
                              refine w_if_le (tgt := 131) dX11_readLine_127 (by decide) (fun _ => ?_) (fun h => absurd (by decide) h)
                              refine w_aload_n dX11_readLine_131 rfl ?_
                              refine w_iload_n dX11_readLine_132 rfl ?_
                              cases hu
                        · skip
                          replace h6 : ((w : Nat) : Int) = 8 := (zeq (z_nI (by omega)) (by decide)).mp h6
                          first
                          | (exfalso; omega)
                          | skip
                            refine w_iconst (v := 1) dX11_readLine_111 (by decide) ?_
                            refine w_goto (tgt := 116) dX11_readLine_112 (by decide) ?_
                            refine w_putI ff_X11_54 rfl rfl rfl rfl dX11_readLine_116 ?_
                            have hu0 : (if nC a < 5 then (Sum.inr (so, (st, (nx, v))) : tS) else flT 5 (Sum.inr (so, (st, (nx, v))) : tS)) = (Sum.inl (2, st) : tS) := if_neg (by omega)
                            refine w_aload_n dX11_readLine_119 rfl ?_
                            refine w_callV (as := []) (st := []) (Tri.mono (d_take (I := xup (xup (xup I 30 0 0 15 (2)) 30 0 0 16 (nI st)) 30 0 0 8 (1)) hk (ht.y (((FrY.rf.up30 (by decide)).up30 (by decide)).up30 (by decide))) (s := (Sum.inl (2, st) : tS)) ⟨by show 1 ≤ 2; omega, by show 2 ≤ 5; omega, g5⟩ ⟨(xup_slot (by decide)).trans ((xup_slot (by decide)).trans xup_self), (xup_slot (by decide)).trans xup_self⟩) (Nat.le_of_ble_eq_true rfl)) rfl rfl tg_X11_takes lk_X11_119 in_X11_takes se_X11_takes rfl dX11_readLine_120 rfl (Nat.le_of_ble_eq_true rfl) (Nat.le_refl _) (Nat.le_refl _) ?_
                            rintro v M9 ⟨rfl, I1, rfl, t1, f1⟩ -
                            have fy : FrY I I1 := (((FrY.rf.up30 (by decide)).up30 (by decide)).up30 (by decide)).tr f1.y
                            have hm1 : DM I1 a false := (DM.t8 hm (I' := xup (xup (xup I 30 0 0 15 (2)) 30 0 0 16 (nI st)) 30 0 0 8 (1)) (fun x => (xup_tag (by decide)).trans ((xup_tag (by decide)).trans (xup_tag (by decide)))) (fun x hx => (xup_slot (by omega)).trans ((xup_slot (by omega)).trans (xup_slot (by omega)))) (xup_self.trans (by rfl))).n f1
                            have hou : OKT n (tkT n b (Sum.inl (2, st) : tS)) := tk_ok ⟨by show 1 ≤ 2; omega, by show 2 ≤ 5; omega, g5⟩
                            obtain ⟨u, hu⟩ : ∃ u, u = tkT n b (Sum.inl (2, st) : tS) := ⟨_, rfl⟩
                            rw [← hu] at t1 hou
                            have hu1 : tkT n b (if nC a < 5 then (Sum.inr (so, (st, (nx, v))) : tS) else flT 5 (Sum.inr (so, (st, (nx, v))) : tS)) = u := by rw [hu0, hu]
                            rw [show bodyT n b w (Sum.inr (so, (st, (nx, v))) : tS) a false = _ from (if_neg (by omega)).trans (if_pos (by omega))]
                            unfold pLz uS3 uS2 uS1
                            rw [hu1]
                            rcases u with ⟨c, p⟩ | ⟨so2, st2, nx2, v2⟩
                            · skip
                              have q1 := hou.1
                              have q2 := hou.2.1
                              replace q1 : 1 ≤ c := q1
                              replace q2 : c ≤ 5 := q2
                              refine w_aload_n dX11_readLine_123 rfl ?_
                              refine w_getI ff_X11_73 rfl rfl dX11_readLine_124 ?_
                              rw [show (I1 30 0 0 15 : Int32) = nI c from t1.1]
                              refine w_if_le (tgt := 131) dX11_readLine_127 (by decide) (fun h1 => ?_) (fun h1 => ?_)
                              · skip
                                replace h1 : ((c : Nat) : Int) ≤ 0 := (zle (z_nI (by omega)) (by decide)).mp h1
                                first
                                | (exfalso; omega)
                                | skip
                                  exfalso
                                  omega
                              · skip
                                replace h1 : ¬ (((c : Nat) : Int) ≤ 0) := fun q => h1 ((zle (z_nI (by omega)) (by decide)).mpr q)
                                first
                                | (exfalso; omega)
                                | skip
                                  exact w_return dX11_readLine_130 rfl rfl (⟨rfl, _, rfl, t1, fy, fun q z => by cases z⟩)
                            · skip
                              refine w_aload_n dX11_readLine_123 rfl ?_
                              refine w_getI ff_X11_73 rfl rfl dX11_readLine_124 ?_
                              rw [show (I1 30 0 0 15 : Int32) = 0 from t1.1]
                              refine w_if_le (tgt := 131) dX11_readLine_127 (by decide) (fun _ => ?_) (fun h => absurd (by decide) h)
                              refine w_aload_n dX11_readLine_131 rfl ?_
                              refine w_iload_n dX11_readLine_132 rfl ?_
                              cases hu
                    · skip
                      replace h5 : ((w : Nat) : Int) = 8 := (zeq (z_nI (by omega)) (by decide)).mp h5
                      first
                      | (exfalso; omega)
                      | skip
                        refine w_aload_n dX11_readLine_81 rfl ?_
                        refine w_getI ff_X11_54 rfl rfl dX11_readLine_82 ?_
                        rw [show ((xup (xup I 30 0 0 15 (2)) 30 0 0 16 (nI st)) 30 0 0 8 : Int32) = 0 from ((xup_slot (by decide)).trans ((xup_slot (by decide)).trans m8))]
                        refine w_if_ne (tgt := 92) dX11_readLine_85 (by decide) (fun h => absurd (by decide) h) (fun _ => ?_)
                        refine w_iconst (v := 1) dX11_readLine_88 (by decide) ?_
                        refine w_goto (tgt := 93) dX11_readLine_89 (by decide) ?_
                        refine w_iconst (v := 4) dX11_readLine_93 (by decide) ?_
                        refine w_callV (as := [vI (1), vI (4)]) (st := []) (Tri.mono (d_need1 (I := xup (xup I 30 0 0 15 (2)) 30 0 0 16 (nI st)) (4)) (Nat.le_of_ble_eq_true rfl)) rfl rfl tg_X11_needs lk_X11_115 in_X11_needs se_X11_needs rfl dX11_readLine_94 rfl (Nat.le_of_ble_eq_true rfl) (Nat.le_refl _) (Nat.le_refl _) ?_
                        rintro _ _ ⟨rfl, rfl⟩ -
                        refine w_aload_n dX11_readLine_97 rfl ?_
                        refine w_aload_n dX11_readLine_98 rfl ?_
                        refine w_getI ff_X11_54 rfl rfl dX11_readLine_99 ?_
                        rw [show ((xup (xup I 30 0 0 15 (2)) 30 0 0 16 (nI st)) 30 0 0 8 : Int32) = 0 from ((xup_slot (by decide)).trans ((xup_slot (by decide)).trans m8))]
                        refine w_if_ne (tgt := 111) dX11_readLine_102 (by decide) (fun h => absurd (by decide) h) (fun _ => ?_)
                        refine w_iload_n dX11_readLine_105 rfl ?_
                        refine w_bipush (v := 8) dX11_readLine_106 (by decide) ?_
                        refine w_icmp_ne (tgt := 115) dX11_readLine_108 (by decide) (fun h6 => ?_) (fun h6 => ?_)
                        · skip
                          replace h6 : ¬ (((w : Nat) : Int) = 8) := fun q => h6 ((zeq (z_nI (by omega)) (by decide)).mpr q)
                          first
                          | (exfalso; omega)
                          | skip
                            refine w_iconst (v := 0) dX11_readLine_115 (by decide) ?_
                            refine w_putI ff_X11_54 rfl rfl rfl rfl dX11_readLine_116 ?_
                            have hu0 : (if nC a < 5 then (Sum.inr (so, (st, (nx, v))) : tS) else flT 5 (Sum.inr (so, (st, (nx, v))) : tS)) = (Sum.inl (2, st) : tS) := if_neg (by omega)
                            refine w_aload_n dX11_readLine_119 rfl ?_
                            refine w_callV (as := []) (st := []) (Tri.mono (d_take (I := xup (xup (xup I 30 0 0 15 (2)) 30 0 0 16 (nI st)) 30 0 0 8 (0)) hk (ht.y (((FrY.rf.up30 (by decide)).up30 (by decide)).up30 (by decide))) (s := (Sum.inl (2, st) : tS)) ⟨by show 1 ≤ 2; omega, by show 2 ≤ 5; omega, g5⟩ ⟨(xup_slot (by decide)).trans ((xup_slot (by decide)).trans xup_self), (xup_slot (by decide)).trans xup_self⟩) (Nat.le_of_ble_eq_true rfl)) rfl rfl tg_X11_takes lk_X11_119 in_X11_takes se_X11_takes rfl dX11_readLine_120 rfl (Nat.le_of_ble_eq_true rfl) (Nat.le_refl _) (Nat.le_refl _) ?_
                            rintro v M9 ⟨rfl, I1, rfl, t1, f1⟩ -
                            have fy : FrY I I1 := (((FrY.rf.up30 (by decide)).up30 (by decide)).up30 (by decide)).tr f1.y
                            have hm1 : DM I1 a false := (DM.t8 hm (I' := xup (xup (xup I 30 0 0 15 (2)) 30 0 0 16 (nI st)) 30 0 0 8 (0)) (fun x => (xup_tag (by decide)).trans ((xup_tag (by decide)).trans (xup_tag (by decide)))) (fun x hx => (xup_slot (by omega)).trans ((xup_slot (by omega)).trans (xup_slot (by omega)))) (xup_self.trans (by rfl))).n f1
                            have hou : OKT n (tkT n b (Sum.inl (2, st) : tS)) := tk_ok ⟨by show 1 ≤ 2; omega, by show 2 ≤ 5; omega, g5⟩
                            obtain ⟨u, hu⟩ : ∃ u, u = tkT n b (Sum.inl (2, st) : tS) := ⟨_, rfl⟩
                            rw [← hu] at t1 hou
                            have hu1 : tkT n b (if nC a < 5 then (Sum.inr (so, (st, (nx, v))) : tS) else flT 5 (Sum.inr (so, (st, (nx, v))) : tS)) = u := by rw [hu0, hu]
                            rw [show bodyT n b w (Sum.inr (so, (st, (nx, v))) : tS) a false = _ from (if_neg (by omega)).trans (if_pos (by omega))]
                            unfold pLz uS3 uS2 uS1
                            rw [hu1]
                            rcases u with ⟨c, p⟩ | ⟨so2, st2, nx2, v2⟩
                            · skip
                              have q1 := hou.1
                              have q2 := hou.2.1
                              replace q1 : 1 ≤ c := q1
                              replace q2 : c ≤ 5 := q2
                              refine w_aload_n dX11_readLine_123 rfl ?_
                              refine w_getI ff_X11_73 rfl rfl dX11_readLine_124 ?_
                              rw [show (I1 30 0 0 15 : Int32) = nI c from t1.1]
                              refine w_if_le (tgt := 131) dX11_readLine_127 (by decide) (fun h1 => ?_) (fun h1 => ?_)
                              · skip
                                replace h1 : ((c : Nat) : Int) ≤ 0 := (zle (z_nI (by omega)) (by decide)).mp h1
                                first
                                | (exfalso; omega)
                                | skip
                                  exfalso
                                  omega
                              · skip
                                replace h1 : ¬ (((c : Nat) : Int) ≤ 0) := fun q => h1 ((zle (z_nI (by omega)) (by decide)).mpr q)
                                first
                                | (exfalso; omega)
                                | skip
                                  exact w_return dX11_readLine_130 rfl rfl (⟨rfl, _, rfl, t1, fy, fun q z => by cases z⟩)
                            · skip
                              refine w_aload_n dX11_readLine_123 rfl ?_
                              refine w_getI ff_X11_73 rfl rfl dX11_readLine_124 ?_
                              rw [show (I1 30 0 0 15 : Int32) = 0 from t1.1]
                              refine w_if_le (tgt := 131) dX11_readLine_127 (by decide) (fun _ => ?_) (fun h => absurd (by decide) h)
                              refine w_aload_n dX11_readLine_131 rfl ?_
                              refine w_iload_n dX11_readLine_132 rfl ?_
                              cases hu
                        · skip
                          replace h6 : ((w : Nat) : Int) = 8 := (zeq (z_nI (by omega)) (by decide)).mp h6
                          first
                          | (exfalso; omega)
                          | skip
                            refine w_iconst (v := 1) dX11_readLine_111 (by decide) ?_
                            refine w_goto (tgt := 116) dX11_readLine_112 (by decide) ?_
                            refine w_putI ff_X11_54 rfl rfl rfl rfl dX11_readLine_116 ?_
                            have hu0 : (if nC a < 5 then (Sum.inr (so, (st, (nx, v))) : tS) else flT 5 (Sum.inr (so, (st, (nx, v))) : tS)) = (Sum.inl (2, st) : tS) := if_neg (by omega)
                            refine w_aload_n dX11_readLine_119 rfl ?_
                            refine w_callV (as := []) (st := []) (Tri.mono (d_take (I := xup (xup (xup I 30 0 0 15 (2)) 30 0 0 16 (nI st)) 30 0 0 8 (1)) hk (ht.y (((FrY.rf.up30 (by decide)).up30 (by decide)).up30 (by decide))) (s := (Sum.inl (2, st) : tS)) ⟨by show 1 ≤ 2; omega, by show 2 ≤ 5; omega, g5⟩ ⟨(xup_slot (by decide)).trans ((xup_slot (by decide)).trans xup_self), (xup_slot (by decide)).trans xup_self⟩) (Nat.le_of_ble_eq_true rfl)) rfl rfl tg_X11_takes lk_X11_119 in_X11_takes se_X11_takes rfl dX11_readLine_120 rfl (Nat.le_of_ble_eq_true rfl) (Nat.le_refl _) (Nat.le_refl _) ?_
                            rintro v M9 ⟨rfl, I1, rfl, t1, f1⟩ -
                            have fy : FrY I I1 := (((FrY.rf.up30 (by decide)).up30 (by decide)).up30 (by decide)).tr f1.y
                            have hm1 : DM I1 a false := (DM.t8 hm (I' := xup (xup (xup I 30 0 0 15 (2)) 30 0 0 16 (nI st)) 30 0 0 8 (1)) (fun x => (xup_tag (by decide)).trans ((xup_tag (by decide)).trans (xup_tag (by decide)))) (fun x hx => (xup_slot (by omega)).trans ((xup_slot (by omega)).trans (xup_slot (by omega)))) (xup_self.trans (by rfl))).n f1
                            have hou : OKT n (tkT n b (Sum.inl (2, st) : tS)) := tk_ok ⟨by show 1 ≤ 2; omega, by show 2 ≤ 5; omega, g5⟩
                            obtain ⟨u, hu⟩ : ∃ u, u = tkT n b (Sum.inl (2, st) : tS) := ⟨_, rfl⟩
                            rw [← hu] at t1 hou
                            have hu1 : tkT n b (if nC a < 5 then (Sum.inr (so, (st, (nx, v))) : tS) else flT 5 (Sum.inr (so, (st, (nx, v))) : tS)) = u := by rw [hu0, hu]
                            rw [show bodyT n b w (Sum.inr (so, (st, (nx, v))) : tS) a false = _ from (if_neg (by omega)).trans (if_pos (by omega))]
                            unfold pLz uS3 uS2 uS1
                            rw [hu1]
                            rcases u with ⟨c, p⟩ | ⟨so2, st2, nx2, v2⟩
                            · skip
                              have q1 := hou.1
                              have q2 := hou.2.1
                              replace q1 : 1 ≤ c := q1
                              replace q2 : c ≤ 5 := q2
                              refine w_aload_n dX11_readLine_123 rfl ?_
                              refine w_getI ff_X11_73 rfl rfl dX11_readLine_124 ?_
                              rw [show (I1 30 0 0 15 : Int32) = nI c from t1.1]
                              refine w_if_le (tgt := 131) dX11_readLine_127 (by decide) (fun h1 => ?_) (fun h1 => ?_)
                              · skip
                                replace h1 : ((c : Nat) : Int) ≤ 0 := (zle (z_nI (by omega)) (by decide)).mp h1
                                first
                                | (exfalso; omega)
                                | skip
                                  exfalso
                                  omega
                              · skip
                                replace h1 : ¬ (((c : Nat) : Int) ≤ 0) := fun q => h1 ((zle (z_nI (by omega)) (by decide)).mpr q)
                                first
                                | (exfalso; omega)
                                | skip
                                  exact w_return dX11_readLine_130 rfl rfl (⟨rfl, _, rfl, t1, fy, fun q z => by cases z⟩)
                            · skip
                              refine w_aload_n dX11_readLine_123 rfl ?_
                              refine w_getI ff_X11_73 rfl rfl dX11_readLine_124 ?_
                              rw [show (I1 30 0 0 15 : Int32) = 0 from t1.1]
                              refine w_if_le (tgt := 131) dX11_readLine_127 (by decide) (fun _ => ?_) (fun h => absurd (by decide) h)
                              refine w_aload_n dX11_readLine_131 rfl ?_
                              refine w_iload_n dX11_readLine_132 rfl ?_
                              cases hu
                · skip
                  replace h4 : ¬ (5 ≤ ((nC a : Nat) : Int)) := fun q => h4 ((zle (by decide) (z_nI (by omega))).mpr q)
                  first
                  | (exfalso; omega)
                  | skip
                    refine w_goto (tgt := 65) dX11_readLine_54 (by decide) ?_
                    refine w_iconst (v := 1) dX11_readLine_65 (by decide) ?_
                    refine w_goto (tgt := 70) dX11_readLine_66 (by decide) ?_
                    refine w_iconst (v := 5) dX11_readLine_70 (by decide) ?_
                    refine w_callV (as := [vI (1), vI (5)]) (st := []) (Tri.mono (d_need1 (I := xup (xup I 30 0 0 15 (2)) 30 0 0 16 (nI st)) (5)) (Nat.le_of_ble_eq_true rfl)) rfl rfl tg_X11_needs lk_X11_115 in_X11_needs se_X11_needs rfl dX11_readLine_71 rfl (Nat.le_of_ble_eq_true rfl) (Nat.le_refl _) (Nat.le_refl _) ?_
                    rintro _ _ ⟨rfl, rfl⟩ -
                    refine w_aload_n dX11_readLine_74 rfl ?_
                    refine w_iload_n dX11_readLine_75 rfl ?_
                    refine w_bipush (v := 8) dX11_readLine_76 (by decide) ?_
                    refine w_icmp_ne (tgt := 88) dX11_readLine_78 (by decide) (fun h5 => ?_) (fun h5 => ?_)
                    · skip
                      replace h5 : ¬ (((w : Nat) : Int) = 8) := fun q => h5 ((zeq (z_nI (by omega)) (by decide)).mpr q)
                      first
                      | (exfalso; omega)
                      | skip
                        refine w_iconst (v := 1) dX11_readLine_88 (by decide) ?_
                        refine w_goto (tgt := 93) dX11_readLine_89 (by decide) ?_
                        refine w_iconst (v := 4) dX11_readLine_93 (by decide) ?_
                        refine w_callV (as := [vI (1), vI (4)]) (st := []) (Tri.mono (d_need1 (I := xup (xup I 30 0 0 15 (2)) 30 0 0 16 (nI st)) (4)) (Nat.le_of_ble_eq_true rfl)) rfl rfl tg_X11_needs lk_X11_115 in_X11_needs se_X11_needs rfl dX11_readLine_94 rfl (Nat.le_of_ble_eq_true rfl) (Nat.le_refl _) (Nat.le_refl _) ?_
                        rintro _ _ ⟨rfl, rfl⟩ -
                        refine w_aload_n dX11_readLine_97 rfl ?_
                        refine w_aload_n dX11_readLine_98 rfl ?_
                        refine w_getI ff_X11_54 rfl rfl dX11_readLine_99 ?_
                        rw [show ((xup (xup I 30 0 0 15 (2)) 30 0 0 16 (nI st)) 30 0 0 8 : Int32) = 0 from ((xup_slot (by decide)).trans ((xup_slot (by decide)).trans m8))]
                        refine w_if_ne (tgt := 111) dX11_readLine_102 (by decide) (fun h => absurd (by decide) h) (fun _ => ?_)
                        refine w_iload_n dX11_readLine_105 rfl ?_
                        refine w_bipush (v := 8) dX11_readLine_106 (by decide) ?_
                        refine w_icmp_ne (tgt := 115) dX11_readLine_108 (by decide) (fun h6 => ?_) (fun h6 => ?_)
                        · skip
                          replace h6 : ¬ (((w : Nat) : Int) = 8) := fun q => h6 ((zeq (z_nI (by omega)) (by decide)).mpr q)
                          first
                          | (exfalso; omega)
                          | skip
                            refine w_iconst (v := 0) dX11_readLine_115 (by decide) ?_
                            refine w_putI ff_X11_54 rfl rfl rfl rfl dX11_readLine_116 ?_
                            have hu0 : (if nC a < 5 then (Sum.inr (so, (st, (nx, v))) : tS) else flT 5 (Sum.inr (so, (st, (nx, v))) : tS)) = (Sum.inl (2, st) : tS) := if_neg (by omega)
                            refine w_aload_n dX11_readLine_119 rfl ?_
                            refine w_callV (as := []) (st := []) (Tri.mono (d_take (I := xup (xup (xup I 30 0 0 15 (2)) 30 0 0 16 (nI st)) 30 0 0 8 (0)) hk (ht.y (((FrY.rf.up30 (by decide)).up30 (by decide)).up30 (by decide))) (s := (Sum.inl (2, st) : tS)) ⟨by show 1 ≤ 2; omega, by show 2 ≤ 5; omega, g5⟩ ⟨(xup_slot (by decide)).trans ((xup_slot (by decide)).trans xup_self), (xup_slot (by decide)).trans xup_self⟩) (Nat.le_of_ble_eq_true rfl)) rfl rfl tg_X11_takes lk_X11_119 in_X11_takes se_X11_takes rfl dX11_readLine_120 rfl (Nat.le_of_ble_eq_true rfl) (Nat.le_refl _) (Nat.le_refl _) ?_
                            rintro v M9 ⟨rfl, I1, rfl, t1, f1⟩ -
                            have fy : FrY I I1 := (((FrY.rf.up30 (by decide)).up30 (by decide)).up30 (by decide)).tr f1.y
                            have hm1 : DM I1 a false := (DM.t8 hm (I' := xup (xup (xup I 30 0 0 15 (2)) 30 0 0 16 (nI st)) 30 0 0 8 (0)) (fun x => (xup_tag (by decide)).trans ((xup_tag (by decide)).trans (xup_tag (by decide)))) (fun x hx => (xup_slot (by omega)).trans ((xup_slot (by omega)).trans (xup_slot (by omega)))) (xup_self.trans (by rfl))).n f1
                            have hou : OKT n (tkT n b (Sum.inl (2, st) : tS)) := tk_ok ⟨by show 1 ≤ 2; omega, by show 2 ≤ 5; omega, g5⟩
                            obtain ⟨u, hu⟩ : ∃ u, u = tkT n b (Sum.inl (2, st) : tS) := ⟨_, rfl⟩
                            rw [← hu] at t1 hou
                            have hu1 : tkT n b (if nC a < 5 then (Sum.inr (so, (st, (nx, v))) : tS) else flT 5 (Sum.inr (so, (st, (nx, v))) : tS)) = u := by rw [hu0, hu]
                            rw [show bodyT n b w (Sum.inr (so, (st, (nx, v))) : tS) a false = _ from (if_neg (by omega)).trans (if_pos (by omega))]
                            unfold pLz uS3 uS2 uS1
                            rw [hu1]
                            rcases u with ⟨c, p⟩ | ⟨so2, st2, nx2, v2⟩
                            · skip
                              have q1 := hou.1
                              have q2 := hou.2.1
                              replace q1 : 1 ≤ c := q1
                              replace q2 : c ≤ 5 := q2
                              refine w_aload_n dX11_readLine_123 rfl ?_
                              refine w_getI ff_X11_73 rfl rfl dX11_readLine_124 ?_
                              rw [show (I1 30 0 0 15 : Int32) = nI c from t1.1]
                              refine w_if_le (tgt := 131) dX11_readLine_127 (by decide) (fun h1 => ?_) (fun h1 => ?_)
                              · skip
                                replace h1 : ((c : Nat) : Int) ≤ 0 := (zle (z_nI (by omega)) (by decide)).mp h1
                                first
                                | (exfalso; omega)
                                | skip
                                  exfalso
                                  omega
                              · skip
                                replace h1 : ¬ (((c : Nat) : Int) ≤ 0) := fun q => h1 ((zle (z_nI (by omega)) (by decide)).mpr q)
                                first
                                | (exfalso; omega)
                                | skip
                                  exact w_return dX11_readLine_130 rfl rfl (⟨rfl, _, rfl, t1, fy, fun q z => by cases z⟩)
                            · skip
                              refine w_aload_n dX11_readLine_123 rfl ?_
                              refine w_getI ff_X11_73 rfl rfl dX11_readLine_124 ?_
                              rw [show (I1 30 0 0 15 : Int32) = 0 from t1.1]
                              refine w_if_le (tgt := 131) dX11_readLine_127 (by decide) (fun _ => ?_) (fun h => absurd (by decide) h)
                              refine w_aload_n dX11_readLine_131 rfl ?_
                              refine w_iload_n dX11_readLine_132 rfl ?_
                              cases hu
                        · skip
                          replace h6 : ((w : Nat) : Int) = 8 := (zeq (z_nI (by omega)) (by decide)).mp h6
                          first
                          | (exfalso; omega)
                          | skip
                            refine w_iconst (v := 1) dX11_readLine_111 (by decide) ?_
                            refine w_goto (tgt := 116) dX11_readLine_112 (by decide) ?_
                            refine w_putI ff_X11_54 rfl rfl rfl rfl dX11_readLine_116 ?_
                            have hu0 : (if nC a < 5 then (Sum.inr (so, (st, (nx, v))) : tS) else flT 5 (Sum.inr (so, (st, (nx, v))) : tS)) = (Sum.inl (2, st) : tS) := if_neg (by omega)
                            refine w_aload_n dX11_readLine_119 rfl ?_
                            refine w_callV (as := []) (st := []) (Tri.mono (d_take (I := xup (xup (xup I 30 0 0 15 (2)) 30 0 0 16 (nI st)) 30 0 0 8 (1)) hk (ht.y (((FrY.rf.up30 (by decide)).up30 (by decide)).up30 (by decide))) (s := (Sum.inl (2, st) : tS)) ⟨by show 1 ≤ 2; omega, by show 2 ≤ 5; omega, g5⟩ ⟨(xup_slot (by decide)).trans ((xup_slot (by decide)).trans xup_self), (xup_slot (by decide)).trans xup_self⟩) (Nat.le_of_ble_eq_true rfl)) rfl rfl tg_X11_takes lk_X11_119 in_X11_takes se_X11_takes rfl dX11_readLine_120 rfl (Nat.le_of_ble_eq_true rfl) (Nat.le_refl _) (Nat.le_refl _) ?_
                            rintro v M9 ⟨rfl, I1, rfl, t1, f1⟩ -
                            have fy : FrY I I1 := (((FrY.rf.up30 (by decide)).up30 (by decide)).up30 (by decide)).tr f1.y
                            have hm1 : DM I1 a false := (DM.t8 hm (I' := xup (xup (xup I 30 0 0 15 (2)) 30 0 0 16 (nI st)) 30 0 0 8 (1)) (fun x => (xup_tag (by decide)).trans ((xup_tag (by decide)).trans (xup_tag (by decide)))) (fun x hx => (xup_slot (by omega)).trans ((xup_slot (by omega)).trans (xup_slot (by omega)))) (xup_self.trans (by rfl))).n f1
                            have hou : OKT n (tkT n b (Sum.inl (2, st) : tS)) := tk_ok ⟨by show 1 ≤ 2; omega, by show 2 ≤ 5; omega, g5⟩
                            obtain ⟨u, hu⟩ : ∃ u, u = tkT n b (Sum.inl (2, st) : tS) := ⟨_, rfl⟩
                            rw [← hu] at t1 hou
                            have hu1 : tkT n b (if nC a < 5 then (Sum.inr (so, (st, (nx, v))) : tS) else flT 5 (Sum.inr (so, (st, (nx, v))) : tS)) = u := by rw [hu0, hu]
                            rw [show bodyT n b w (Sum.inr (so, (st, (nx, v))) : tS) a false = _ from (if_neg (by omega)).trans (if_pos (by omega))]
                            unfold pLz uS3 uS2 uS1
                            rw [hu1]
                            rcases u with ⟨c, p⟩ | ⟨so2, st2, nx2, v2⟩
                            · skip
                              have q1 := hou.1
                              have q2 := hou.2.1
                              replace q1 : 1 ≤ c := q1
                              replace q2 : c ≤ 5 := q2
                              refine w_aload_n dX11_readLine_123 rfl ?_
                              refine w_getI ff_X11_73 rfl rfl dX11_readLine_124 ?_
                              rw [show (I1 30 0 0 15 : Int32) = nI c from t1.1]
                              refine w_if_le (tgt := 131) dX11_readLine_127 (by decide) (fun h1 => ?_) (fun h1 => ?_)
                              · skip
                                replace h1 : ((c : Nat) : Int) ≤ 0 := (zle (z_nI (by omega)) (by decide)).mp h1
                                first
                                | (exfalso; omega)
                                | skip
                                  exfalso
                                  omega
                              · skip
                                replace h1 : ¬ (((c : Nat) : Int) ≤ 0) := fun q => h1 ((zle (z_nI (by omega)) (by decide)).mpr q)
                                first
                                | (exfalso; omega)
                                | skip
                                  exact w_return dX11_readLine_130 rfl rfl (⟨rfl, _, rfl, t1, fy, fun q z => by cases z⟩)
                            · skip
                              refine w_aload_n dX11_readLine_123 rfl ?_
                              refine w_getI ff_X11_73 rfl rfl dX11_readLine_124 ?_
                              rw [show (I1 30 0 0 15 : Int32) = 0 from t1.1]
                              refine w_if_le (tgt := 131) dX11_readLine_127 (by decide) (fun _ => ?_) (fun h => absurd (by decide) h)
                              refine w_aload_n dX11_readLine_131 rfl ?_
                              refine w_iload_n dX11_readLine_132 rfl ?_
                              cases hu
                    · skip
                      replace h5 : ((w : Nat) : Int) = 8 := (zeq (z_nI (by omega)) (by decide)).mp h5
                      first
                      | (exfalso; omega)
                      | skip
                        refine w_aload_n dX11_readLine_81 rfl ?_
                        refine w_getI ff_X11_54 rfl rfl dX11_readLine_82 ?_
                        rw [show ((xup (xup I 30 0 0 15 (2)) 30 0 0 16 (nI st)) 30 0 0 8 : Int32) = 0 from ((xup_slot (by decide)).trans ((xup_slot (by decide)).trans m8))]
                        refine w_if_ne (tgt := 92) dX11_readLine_85 (by decide) (fun h => absurd (by decide) h) (fun _ => ?_)
                        refine w_iconst (v := 1) dX11_readLine_88 (by decide) ?_
                        refine w_goto (tgt := 93) dX11_readLine_89 (by decide) ?_
                        refine w_iconst (v := 4) dX11_readLine_93 (by decide) ?_
                        refine w_callV (as := [vI (1), vI (4)]) (st := []) (Tri.mono (d_need1 (I := xup (xup I 30 0 0 15 (2)) 30 0 0 16 (nI st)) (4)) (Nat.le_of_ble_eq_true rfl)) rfl rfl tg_X11_needs lk_X11_115 in_X11_needs se_X11_needs rfl dX11_readLine_94 rfl (Nat.le_of_ble_eq_true rfl) (Nat.le_refl _) (Nat.le_refl _) ?_
                        rintro _ _ ⟨rfl, rfl⟩ -
                        refine w_aload_n dX11_readLine_97 rfl ?_
                        refine w_aload_n dX11_readLine_98 rfl ?_
                        refine w_getI ff_X11_54 rfl rfl dX11_readLine_99 ?_
                        rw [show ((xup (xup I 30 0 0 15 (2)) 30 0 0 16 (nI st)) 30 0 0 8 : Int32) = 0 from ((xup_slot (by decide)).trans ((xup_slot (by decide)).trans m8))]
                        refine w_if_ne (tgt := 111) dX11_readLine_102 (by decide) (fun h => absurd (by decide) h) (fun _ => ?_)
                        refine w_iload_n dX11_readLine_105 rfl ?_
                        refine w_bipush (v := 8) dX11_readLine_106 (by decide) ?_
                        refine w_icmp_ne (tgt := 115) dX11_readLine_108 (by decide) (fun h6 => ?_) (fun h6 => ?_)
                        · skip
                          replace h6 : ¬ (((w : Nat) : Int) = 8) := fun q => h6 ((zeq (z_nI (by omega)) (by decide)).mpr q)
                          first
                          | (exfalso; omega)
                          | skip
                            refine w_iconst (v := 0) dX11_readLine_115 (by decide) ?_
                            refine w_putI ff_X11_54 rfl rfl rfl rfl dX11_readLine_116 ?_
                            have hu0 : (if nC a < 5 then (Sum.inr (so, (st, (nx, v))) : tS) else flT 5 (Sum.inr (so, (st, (nx, v))) : tS)) = (Sum.inl (2, st) : tS) := if_neg (by omega)
                            refine w_aload_n dX11_readLine_119 rfl ?_
                            refine w_callV (as := []) (st := []) (Tri.mono (d_take (I := xup (xup (xup I 30 0 0 15 (2)) 30 0 0 16 (nI st)) 30 0 0 8 (0)) hk (ht.y (((FrY.rf.up30 (by decide)).up30 (by decide)).up30 (by decide))) (s := (Sum.inl (2, st) : tS)) ⟨by show 1 ≤ 2; omega, by show 2 ≤ 5; omega, g5⟩ ⟨(xup_slot (by decide)).trans ((xup_slot (by decide)).trans xup_self), (xup_slot (by decide)).trans xup_self⟩) (Nat.le_of_ble_eq_true rfl)) rfl rfl tg_X11_takes lk_X11_119 in_X11_takes se_X11_takes rfl dX11_readLine_120 rfl (Nat.le_of_ble_eq_true rfl) (Nat.le_refl _) (Nat.le_refl _) ?_
                            rintro v M9 ⟨rfl, I1, rfl, t1, f1⟩ -
                            have fy : FrY I I1 := (((FrY.rf.up30 (by decide)).up30 (by decide)).up30 (by decide)).tr f1.y
                            have hm1 : DM I1 a false := (DM.t8 hm (I' := xup (xup (xup I 30 0 0 15 (2)) 30 0 0 16 (nI st)) 30 0 0 8 (0)) (fun x => (xup_tag (by decide)).trans ((xup_tag (by decide)).trans (xup_tag (by decide)))) (fun x hx => (xup_slot (by omega)).trans ((xup_slot (by omega)).trans (xup_slot (by omega)))) (xup_self.trans (by rfl))).n f1
                            have hou : OKT n (tkT n b (Sum.inl (2, st) : tS)) := tk_ok ⟨by show 1 ≤ 2; omega, by show 2 ≤ 5; omega, g5⟩
                            obtain ⟨u, hu⟩ : ∃ u, u = tkT n b (Sum.inl (2, st) : tS) := ⟨_, rfl⟩
                            rw [← hu] at t1 hou
                            have hu1 : tkT n b (if nC a < 5 then (Sum.inr (so, (st, (nx, v))) : tS) else flT 5 (Sum.inr (so, (st, (nx, v))) : tS)) = u := by rw [hu0, hu]
                            rw [show bodyT n b w (Sum.inr (so, (st, (nx, v))) : tS) a false = _ from (if_neg (by omega)).trans (if_pos (by omega))]
                            unfold pLz uS3 uS2 uS1
                            rw [hu1]
                            rcases u with ⟨c, p⟩ | ⟨so2, st2, nx2, v2⟩
                            · skip
                              have q1 := hou.1
                              have q2 := hou.2.1
                              replace q1 : 1 ≤ c := q1
                              replace q2 : c ≤ 5 := q2
                              refine w_aload_n dX11_readLine_123 rfl ?_
                              refine w_getI ff_X11_73 rfl rfl dX11_readLine_124 ?_
                              rw [show (I1 30 0 0 15 : Int32) = nI c from t1.1]
                              refine w_if_le (tgt := 131) dX11_readLine_127 (by decide) (fun h1 => ?_) (fun h1 => ?_)
                              · skip
                                replace h1 : ((c : Nat) : Int) ≤ 0 := (zle (z_nI (by omega)) (by decide)).mp h1
                                first
                                | (exfalso; omega)
                                | skip
                                  exfalso
                                  omega
                              · skip
                                replace h1 : ¬ (((c : Nat) : Int) ≤ 0) := fun q => h1 ((zle (z_nI (by omega)) (by decide)).mpr q)
                                first
                                | (exfalso; omega)
                                | skip
                                  exact w_return dX11_readLine_130 rfl rfl (⟨rfl, _, rfl, t1, fy, fun q z => by cases z⟩)
                            · skip
                              refine w_aload_n dX11_readLine_123 rfl ?_
                              refine w_getI ff_X11_73 rfl rfl dX11_readLine_124 ?_
                              rw [show (I1 30 0 0 15 : Int32) = 0 from t1.1]
                              refine w_if_le (tgt := 131) dX11_readLine_127 (by decide) (fun _ => ?_) (fun h => absurd (by decide) h)
                              refine w_aload_n dX11_readLine_131 rfl ?_
                              refine w_iload_n dX11_readLine_132 rfl ?_
                              cases hu
                        · skip
                          replace h6 : ((w : Nat) : Int) = 8 := (zeq (z_nI (by omega)) (by decide)).mp h6
                          first
                          | (exfalso; omega)
                          | skip
                            refine w_iconst (v := 1) dX11_readLine_111 (by decide) ?_
                            refine w_goto (tgt := 116) dX11_readLine_112 (by decide) ?_
                            refine w_putI ff_X11_54 rfl rfl rfl rfl dX11_readLine_116 ?_
                            have hu0 : (if nC a < 5 then (Sum.inr (so, (st, (nx, v))) : tS) else flT 5 (Sum.inr (so, (st, (nx, v))) : tS)) = (Sum.inl (2, st) : tS) := if_neg (by omega)
                            refine w_aload_n dX11_readLine_119 rfl ?_
                            refine w_callV (as := []) (st := []) (Tri.mono (d_take (I := xup (xup (xup I 30 0 0 15 (2)) 30 0 0 16 (nI st)) 30 0 0 8 (1)) hk (ht.y (((FrY.rf.up30 (by decide)).up30 (by decide)).up30 (by decide))) (s := (Sum.inl (2, st) : tS)) ⟨by show 1 ≤ 2; omega, by show 2 ≤ 5; omega, g5⟩ ⟨(xup_slot (by decide)).trans ((xup_slot (by decide)).trans xup_self), (xup_slot (by decide)).trans xup_self⟩) (Nat.le_of_ble_eq_true rfl)) rfl rfl tg_X11_takes lk_X11_119 in_X11_takes se_X11_takes rfl dX11_readLine_120 rfl (Nat.le_of_ble_eq_true rfl) (Nat.le_refl _) (Nat.le_refl _) ?_
                            rintro v M9 ⟨rfl, I1, rfl, t1, f1⟩ -
                            have fy : FrY I I1 := (((FrY.rf.up30 (by decide)).up30 (by decide)).up30 (by decide)).tr f1.y
                            have hm1 : DM I1 a false := (DM.t8 hm (I' := xup (xup (xup I 30 0 0 15 (2)) 30 0 0 16 (nI st)) 30 0 0 8 (1)) (fun x => (xup_tag (by decide)).trans ((xup_tag (by decide)).trans (xup_tag (by decide)))) (fun x hx => (xup_slot (by omega)).trans ((xup_slot (by omega)).trans (xup_slot (by omega)))) (xup_self.trans (by rfl))).n f1
                            have hou : OKT n (tkT n b (Sum.inl (2, st) : tS)) := tk_ok ⟨by show 1 ≤ 2; omega, by show 2 ≤ 5; omega, g5⟩
                            obtain ⟨u, hu⟩ : ∃ u, u = tkT n b (Sum.inl (2, st) : tS) := ⟨_, rfl⟩
                            rw [← hu] at t1 hou
                            have hu1 : tkT n b (if nC a < 5 then (Sum.inr (so, (st, (nx, v))) : tS) else flT 5 (Sum.inr (so, (st, (nx, v))) : tS)) = u := by rw [hu0, hu]
                            rw [show bodyT n b w (Sum.inr (so, (st, (nx, v))) : tS) a false = _ from (if_neg (by omega)).trans (if_pos (by omega))]
                            unfold pLz uS3 uS2 uS1
                            rw [hu1]
                            rcases u with ⟨c, p⟩ | ⟨so2, st2, nx2, v2⟩
                            · skip
                              have q1 := hou.1
                              have q2 := hou.2.1
                              replace q1 : 1 ≤ c := q1
                              replace q2 : c ≤ 5 := q2
                              refine w_aload_n dX11_readLine_123 rfl ?_
                              refine w_getI ff_X11_73 rfl rfl dX11_readLine_124 ?_
                              rw [show (I1 30 0 0 15 : Int32) = nI c from t1.1]
                              refine w_if_le (tgt := 131) dX11_readLine_127 (by decide) (fun h1 => ?_) (fun h1 => ?_)
                              · skip
                                replace h1 : ((c : Nat) : Int) ≤ 0 := (zle (z_nI (by omega)) (by decide)).mp h1
                                first
                                | (exfalso; omega)
                                | skip
                                  exfalso
                                  omega
                              · skip
                                replace h1 : ¬ (((c : Nat) : Int) ≤ 0) := fun q => h1 ((zle (z_nI (by omega)) (by decide)).mpr q)
                                first
                                | (exfalso; omega)
                                | skip
                                  exact w_return dX11_readLine_130 rfl rfl (⟨rfl, _, rfl, t1, fy, fun q z => by cases z⟩)
                            · skip
                              refine w_aload_n dX11_readLine_123 rfl ?_
                              refine w_getI ff_X11_73 rfl rfl dX11_readLine_124 ?_
                              rw [show (I1 30 0 0 15 : Int32) = 0 from t1.1]
                              refine w_if_le (tgt := 131) dX11_readLine_127 (by decide) (fun _ => ?_) (fun h => absurd (by decide) h)
                              refine w_aload_n dX11_readLine_131 rfl ?_
                              refine w_iload_n dX11_readLine_132 rfl ?_
                              cases hu
    · skip
      replace h1 : ¬ (((w : Nat) : Int) = (-4)) := fun q => h1 ((zeq (z_nI (by omega)) (by decide)).mpr q)
      first
      | (exfalso; omega)
      | skip
        refine w_iconst (v := 1) dX11_readLine_25 (by decide) ?_
        refine w_goto (tgt := 30) dX11_readLine_26 (by decide) ?_
        refine w_iconst (v := 2) dX11_readLine_30 (by decide) ?_
        refine w_callV (as := [vI (1), vI (2)]) (st := []) (Tri.mono (d_need1 (I := I) (2)) (Nat.le_of_ble_eq_true rfl)) rfl rfl tg_X11_needs lk_X11_115 in_X11_needs se_X11_needs rfl dX11_readLine_31 rfl (Nat.le_of_ble_eq_true rfl) (Nat.le_refl _) (Nat.le_refl _) ?_
        rintro _ _ ⟨rfl, rfl⟩ -
        refine w_aload_n dX11_readLine_34 rfl ?_
        refine w_iload_n dX11_readLine_35 rfl ?_
        refine w_bipush (v := 8) dX11_readLine_36 (by decide) ?_
        refine w_icmp_eq (tgt := 65) dX11_readLine_38 (by decide) (fun h2 => ?_) (fun h2 => ?_)
        · skip
          replace h2 : ((w : Nat) : Int) = 8 := (zeq (z_nI (by omega)) (by decide)).mp h2
          first
          | (exfalso; omega)
          | skip
            refine w_iconst (v := 1) dX11_readLine_65 (by decide) ?_
            refine w_goto (tgt := 70) dX11_readLine_66 (by decide) ?_
            refine w_iconst (v := 5) dX11_readLine_70 (by decide) ?_
            refine w_callV (as := [vI (1), vI (5)]) (st := []) (Tri.mono (d_need1 (I := I) (5)) (Nat.le_of_ble_eq_true rfl)) rfl rfl tg_X11_needs lk_X11_115 in_X11_needs se_X11_needs rfl dX11_readLine_71 rfl (Nat.le_of_ble_eq_true rfl) (Nat.le_refl _) (Nat.le_refl _) ?_
            rintro _ _ ⟨rfl, rfl⟩ -
            refine w_aload_n dX11_readLine_74 rfl ?_
            refine w_iload_n dX11_readLine_75 rfl ?_
            refine w_bipush (v := 8) dX11_readLine_76 (by decide) ?_
            refine w_icmp_ne (tgt := 88) dX11_readLine_78 (by decide) (fun h3 => ?_) (fun h3 => ?_)
            · skip
              replace h3 : ¬ (((w : Nat) : Int) = 8) := fun q => h3 ((zeq (z_nI (by omega)) (by decide)).mpr q)
              first
              | (exfalso; omega)
              | skip
                refine w_iconst (v := 1) dX11_readLine_88 (by decide) ?_
                refine w_goto (tgt := 93) dX11_readLine_89 (by decide) ?_
                refine w_iconst (v := 4) dX11_readLine_93 (by decide) ?_
                refine w_callV (as := [vI (1), vI (4)]) (st := []) (Tri.mono (d_need1 (I := I) (4)) (Nat.le_of_ble_eq_true rfl)) rfl rfl tg_X11_needs lk_X11_115 in_X11_needs se_X11_needs rfl dX11_readLine_94 rfl (Nat.le_of_ble_eq_true rfl) (Nat.le_refl _) (Nat.le_refl _) ?_
                rintro _ _ ⟨rfl, rfl⟩ -
                refine w_aload_n dX11_readLine_97 rfl ?_
                refine w_aload_n dX11_readLine_98 rfl ?_
                refine w_getI ff_X11_54 rfl rfl dX11_readLine_99 ?_
                rw [show (I 30 0 0 8 : Int32) = 0 from m8]
                refine w_if_ne (tgt := 111) dX11_readLine_102 (by decide) (fun h => absurd (by decide) h) (fun _ => ?_)
                refine w_iload_n dX11_readLine_105 rfl ?_
                refine w_bipush (v := 8) dX11_readLine_106 (by decide) ?_
                refine w_icmp_ne (tgt := 115) dX11_readLine_108 (by decide) (fun h4 => ?_) (fun h4 => ?_)
                · skip
                  replace h4 : ¬ (((w : Nat) : Int) = 8) := fun q => h4 ((zeq (z_nI (by omega)) (by decide)).mpr q)
                  first
                  | (exfalso; omega)
                  | skip
                    refine w_iconst (v := 0) dX11_readLine_115 (by decide) ?_
                    refine w_putI ff_X11_54 rfl rfl rfl rfl dX11_readLine_116 ?_
                    have hu0 : (if nC a < 5 then (Sum.inr (so, (st, (nx, v))) : tS) else flT 5 (Sum.inr (so, (st, (nx, v))) : tS)) = (Sum.inr (so, (st, (nx, v))) : tS) := if_pos (by omega)
                    refine w_aload_n dX11_readLine_119 rfl ?_
                    refine w_callV (as := []) (st := []) (Tri.mono (d_take (I := xup I 30 0 0 8 (0)) hk (ht.y (FrY.rf.up30 (by decide))) (s := (Sum.inr (so, (st, (nx, v))) : tS)) hok (h.eqv (fun x hx => xup_slot (by omega)))) (Nat.le_of_ble_eq_true rfl)) rfl rfl tg_X11_takes lk_X11_119 in_X11_takes se_X11_takes rfl dX11_readLine_120 rfl (Nat.le_of_ble_eq_true rfl) (Nat.le_refl _) (Nat.le_refl _) ?_
                    rintro v M9 ⟨rfl, I1, rfl, t1, f1⟩ -
                    have fy : FrY I I1 := (FrY.rf.up30 (by decide)).tr f1.y
                    have hm1 : DM I1 a false := (DM.t8 hm (I' := xup I 30 0 0 8 (0)) (fun x => xup_tag (by decide)) (fun x hx => xup_slot (by omega)) (xup_self.trans (by rfl))).n f1
                    have hou : OKT n (tkT n b (Sum.inr (so, (st, (nx, v))) : tS)) := tk_ok hok
                    obtain ⟨u, hu⟩ : ∃ u, u = tkT n b (Sum.inr (so, (st, (nx, v))) : tS) := ⟨_, rfl⟩
                    rw [← hu] at t1 hou
                    have hu1 : tkT n b (if nC a < 5 then (Sum.inr (so, (st, (nx, v))) : tS) else flT 5 (Sum.inr (so, (st, (nx, v))) : tS)) = u := by rw [hu0, hu]
                    rw [show bodyT n b w (Sum.inr (so, (st, (nx, v))) : tS) a false = _ from (if_neg (by omega)).trans (if_pos (by omega))]
                    unfold pLz uS3 uS2 uS1
                    rw [hu1]
                    rcases u with ⟨c, p⟩ | ⟨so2, st2, nx2, v2⟩
                    · skip
                      have q1 := hou.1
                      have q2 := hou.2.1
                      replace q1 : 1 ≤ c := q1
                      replace q2 : c ≤ 5 := q2
                      refine w_aload_n dX11_readLine_123 rfl ?_
                      refine w_getI ff_X11_73 rfl rfl dX11_readLine_124 ?_
                      rw [show (I1 30 0 0 15 : Int32) = nI c from t1.1]
                      refine w_if_le (tgt := 131) dX11_readLine_127 (by decide) (fun h1 => ?_) (fun h1 => ?_)
                      · skip
                        replace h1 : ((c : Nat) : Int) ≤ 0 := (zle (z_nI (by omega)) (by decide)).mp h1
                        first
                        | (exfalso; omega)
                        | skip
                          exfalso
                          omega
                      · skip
                        replace h1 : ¬ (((c : Nat) : Int) ≤ 0) := fun q => h1 ((zle (z_nI (by omega)) (by decide)).mpr q)
                        first
                        | (exfalso; omega)
                        | skip
                          exact w_return dX11_readLine_130 rfl rfl (⟨rfl, _, rfl, t1, fy, fun q z => by cases z⟩)
                    · skip
                      refine w_aload_n dX11_readLine_123 rfl ?_
                      refine w_getI ff_X11_73 rfl rfl dX11_readLine_124 ?_
                      rw [show (I1 30 0 0 15 : Int32) = 0 from t1.1]
                      refine w_if_le (tgt := 131) dX11_readLine_127 (by decide) (fun _ => ?_) (fun h => absurd (by decide) h)
                      refine w_aload_n dX11_readLine_131 rfl ?_
                      refine w_iload_n dX11_readLine_132 rfl ?_
                      refine w_callV (as := [vI (nI w)]) (st := []) (Tri.mono (d_lineS hk (ht.y fy) hou t1 hd hm1 (by omega) (by omega) (by omega)) (Nat.le_of_ble_eq_true rfl)) rfl rfl tg_X11_readLineOf lk_X11_133 in_X11_readLineOf se_X11_readLineOf rfl dX11_readLine_133 rfl (Nat.le_of_ble_eq_true rfl) (Nat.le_refl _) (Nat.le_refl _) ?_
                      rintro v M9 ⟨rfl, I2, rfl, t2, f2, m2⟩ -
                      exact l_rdEnd hk (ht.y (fy.tr f2)) (tk_ok (ch_ok (tk_ok (ch_ok (tk_ok (ch_ok hou)))))) t2 (fun I3 t3 f3 => ⟨rfl, _, rfl, t3, fy.tr (f2.tr f3.y), fun q z => m2.n f3⟩)
                · skip
                  replace h4 : ((w : Nat) : Int) = 8 := (zeq (z_nI (by omega)) (by decide)).mp h4
                  first
                  | (exfalso; omega)
                  | skip
                    refine w_iconst (v := 1) dX11_readLine_111 (by decide) ?_
                    refine w_goto (tgt := 116) dX11_readLine_112 (by decide) ?_
                    refine w_putI ff_X11_54 rfl rfl rfl rfl dX11_readLine_116 ?_
                    have hu0 : (if nC a < 5 then (Sum.inr (so, (st, (nx, v))) : tS) else flT 5 (Sum.inr (so, (st, (nx, v))) : tS)) = (Sum.inr (so, (st, (nx, v))) : tS) := if_pos (by omega)
                    refine w_aload_n dX11_readLine_119 rfl ?_
                    refine w_callV (as := []) (st := []) (Tri.mono (d_take (I := xup I 30 0 0 8 (1)) hk (ht.y (FrY.rf.up30 (by decide))) (s := (Sum.inr (so, (st, (nx, v))) : tS)) hok (h.eqv (fun x hx => xup_slot (by omega)))) (Nat.le_of_ble_eq_true rfl)) rfl rfl tg_X11_takes lk_X11_119 in_X11_takes se_X11_takes rfl dX11_readLine_120 rfl (Nat.le_of_ble_eq_true rfl) (Nat.le_refl _) (Nat.le_refl _) ?_
                    rintro v M9 ⟨rfl, I1, rfl, t1, f1⟩ -
                    have fy : FrY I I1 := (FrY.rf.up30 (by decide)).tr f1.y
                    have hm1 : DM I1 a false := (DM.t8 hm (I' := xup I 30 0 0 8 (1)) (fun x => xup_tag (by decide)) (fun x hx => xup_slot (by omega)) (xup_self.trans (by rfl))).n f1
                    have hou : OKT n (tkT n b (Sum.inr (so, (st, (nx, v))) : tS)) := tk_ok hok
                    obtain ⟨u, hu⟩ : ∃ u, u = tkT n b (Sum.inr (so, (st, (nx, v))) : tS) := ⟨_, rfl⟩
                    rw [← hu] at t1 hou
                    have hu1 : tkT n b (if nC a < 5 then (Sum.inr (so, (st, (nx, v))) : tS) else flT 5 (Sum.inr (so, (st, (nx, v))) : tS)) = u := by rw [hu0, hu]
                    rw [show bodyT n b w (Sum.inr (so, (st, (nx, v))) : tS) a false = _ from (if_neg (by omega)).trans (if_pos (by omega))]
                    unfold pLz uS3 uS2 uS1
                    rw [hu1]
                    rcases u with ⟨c, p⟩ | ⟨so2, st2, nx2, v2⟩
                    · skip
                      have q1 := hou.1
                      have q2 := hou.2.1
                      replace q1 : 1 ≤ c := q1
                      replace q2 : c ≤ 5 := q2
                      refine w_aload_n dX11_readLine_123 rfl ?_
                      refine w_getI ff_X11_73 rfl rfl dX11_readLine_124 ?_
                      rw [show (I1 30 0 0 15 : Int32) = nI c from t1.1]
                      refine w_if_le (tgt := 131) dX11_readLine_127 (by decide) (fun h1 => ?_) (fun h1 => ?_)
                      · skip
                        replace h1 : ((c : Nat) : Int) ≤ 0 := (zle (z_nI (by omega)) (by decide)).mp h1
                        first
                        | (exfalso; omega)
                        | skip
                          exfalso
                          omega
                      · skip
                        replace h1 : ¬ (((c : Nat) : Int) ≤ 0) := fun q => h1 ((zle (z_nI (by omega)) (by decide)).mpr q)
                        first
                        | (exfalso; omega)
                        | skip
                          exact w_return dX11_readLine_130 rfl rfl (⟨rfl, _, rfl, t1, fy, fun q z => by cases z⟩)
                    · skip
                      refine w_aload_n dX11_readLine_123 rfl ?_
                      refine w_getI ff_X11_73 rfl rfl dX11_readLine_124 ?_
                      rw [show (I1 30 0 0 15 : Int32) = 0 from t1.1]
                      refine w_if_le (tgt := 131) dX11_readLine_127 (by decide) (fun _ => ?_) (fun h => absurd (by decide) h)
                      refine w_aload_n dX11_readLine_131 rfl ?_
                      refine w_iload_n dX11_readLine_132 rfl ?_
                      refine w_callV (as := [vI (nI w)]) (st := []) (Tri.mono (d_lineS hk (ht.y fy) hou t1 hd hm1 (by omega) (by omega) (by omega)) (Nat.le_of_ble_eq_true rfl)) rfl rfl tg_X11_readLineOf lk_X11_133 in_X11_readLineOf se_X11_readLineOf rfl dX11_readLine_133 rfl (Nat.le_of_ble_eq_true rfl) (Nat.le_refl _) (Nat.le_refl _) ?_
                      rintro v M9 ⟨rfl, I2, rfl, t2, f2, m2⟩ -
                      exact l_rdEnd hk (ht.y (fy.tr f2)) (tk_ok (ch_ok (tk_ok (ch_ok (tk_ok (ch_ok hou)))))) t2 (fun I3 t3 f3 => ⟨rfl, _, rfl, t3, fy.tr (f2.tr f3.y), fun q z => m2.n f3⟩)
            · skip
              replace h3 : ((w : Nat) : Int) = 8 := (zeq (z_nI (by omega)) (by decide)).mp h3
              first
              | (exfalso; omega)
              | skip
                refine w_aload_n dX11_readLine_81 rfl ?_
                refine w_getI ff_X11_54 rfl rfl dX11_readLine_82 ?_
                rw [show (I 30 0 0 8 : Int32) = 0 from m8]
                refine w_if_ne (tgt := 92) dX11_readLine_85 (by decide) (fun h => absurd (by decide) h) (fun _ => ?_)
                refine w_iconst (v := 1) dX11_readLine_88 (by decide) ?_
                refine w_goto (tgt := 93) dX11_readLine_89 (by decide) ?_
                refine w_iconst (v := 4) dX11_readLine_93 (by decide) ?_
                refine w_callV (as := [vI (1), vI (4)]) (st := []) (Tri.mono (d_need1 (I := I) (4)) (Nat.le_of_ble_eq_true rfl)) rfl rfl tg_X11_needs lk_X11_115 in_X11_needs se_X11_needs rfl dX11_readLine_94 rfl (Nat.le_of_ble_eq_true rfl) (Nat.le_refl _) (Nat.le_refl _) ?_
                rintro _ _ ⟨rfl, rfl⟩ -
                refine w_aload_n dX11_readLine_97 rfl ?_
                refine w_aload_n dX11_readLine_98 rfl ?_
                refine w_getI ff_X11_54 rfl rfl dX11_readLine_99 ?_
                rw [show (I 30 0 0 8 : Int32) = 0 from m8]
                refine w_if_ne (tgt := 111) dX11_readLine_102 (by decide) (fun h => absurd (by decide) h) (fun _ => ?_)
                refine w_iload_n dX11_readLine_105 rfl ?_
                refine w_bipush (v := 8) dX11_readLine_106 (by decide) ?_
                refine w_icmp_ne (tgt := 115) dX11_readLine_108 (by decide) (fun h4 => ?_) (fun h4 => ?_)
                · skip
                  replace h4 : ¬ (((w : Nat) : Int) = 8) := fun q => h4 ((zeq (z_nI (by omega)) (by decide)).mpr q)
                  first
                  | (exfalso; omega)
                  | skip
                    refine w_iconst (v := 0) dX11_readLine_115 (by decide) ?_
                    refine w_putI ff_X11_54 rfl rfl rfl rfl dX11_readLine_116 ?_
                    have hu0 : (if nC a < 5 then (Sum.inr (so, (st, (nx, v))) : tS) else flT 5 (Sum.inr (so, (st, (nx, v))) : tS)) = (Sum.inr (so, (st, (nx, v))) : tS) := if_pos (by omega)
                    refine w_aload_n dX11_readLine_119 rfl ?_
                    refine w_callV (as := []) (st := []) (Tri.mono (d_take (I := xup I 30 0 0 8 (0)) hk (ht.y (FrY.rf.up30 (by decide))) (s := (Sum.inr (so, (st, (nx, v))) : tS)) hok (h.eqv (fun x hx => xup_slot (by omega)))) (Nat.le_of_ble_eq_true rfl)) rfl rfl tg_X11_takes lk_X11_119 in_X11_takes se_X11_takes rfl dX11_readLine_120 rfl (Nat.le_of_ble_eq_true rfl) (Nat.le_refl _) (Nat.le_refl _) ?_
                    rintro v M9 ⟨rfl, I1, rfl, t1, f1⟩ -
                    have fy : FrY I I1 := (FrY.rf.up30 (by decide)).tr f1.y
                    have hm1 : DM I1 a false := (DM.t8 hm (I' := xup I 30 0 0 8 (0)) (fun x => xup_tag (by decide)) (fun x hx => xup_slot (by omega)) (xup_self.trans (by rfl))).n f1
                    have hou : OKT n (tkT n b (Sum.inr (so, (st, (nx, v))) : tS)) := tk_ok hok
                    obtain ⟨u, hu⟩ : ∃ u, u = tkT n b (Sum.inr (so, (st, (nx, v))) : tS) := ⟨_, rfl⟩
                    rw [← hu] at t1 hou
                    have hu1 : tkT n b (if nC a < 5 then (Sum.inr (so, (st, (nx, v))) : tS) else flT 5 (Sum.inr (so, (st, (nx, v))) : tS)) = u := by rw [hu0, hu]
                    rw [show bodyT n b w (Sum.inr (so, (st, (nx, v))) : tS) a false = _ from (if_neg (by omega)).trans (if_pos (by omega))]
                    unfold pLz uS3 uS2 uS1
                    rw [hu1]
                    rcases u with ⟨c, p⟩ | ⟨so2, st2, nx2, v2⟩
                    · skip
                      have q1 := hou.1
                      have q2 := hou.2.1
                      replace q1 : 1 ≤ c := q1
                      replace q2 : c ≤ 5 := q2
                      refine w_aload_n dX11_readLine_123 rfl ?_
                      refine w_getI ff_X11_73 rfl rfl dX11_readLine_124 ?_
                      rw [show (I1 30 0 0 15 : Int32) = nI c from t1.1]
                      refine w_if_le (tgt := 131) dX11_readLine_127 (by decide) (fun h1 => ?_) (fun h1 => ?_)
                      · skip
                        replace h1 : ((c : Nat) : Int) ≤ 0 := (zle (z_nI (by omega)) (by decide)).mp h1
                        first
                        | (exfalso; omega)
                        | skip
                          exfalso
                          omega
                      · skip
                        replace h1 : ¬ (((c : Nat) : Int) ≤ 0) := fun q => h1 ((zle (z_nI (by omega)) (by decide)).mpr q)
                        first
                        | (exfalso; omega)
                        | skip
                          exact w_return dX11_readLine_130 rfl rfl (⟨rfl, _, rfl, t1, fy, fun q z => by cases z⟩)
                    · skip
                      refine w_aload_n dX11_readLine_123 rfl ?_
                      refine w_getI ff_X11_73 rfl rfl dX11_readLine_124 ?_
                      rw [show (I1 30 0 0 15 : Int32) = 0 from t1.1]
                      refine w_if_le (tgt := 131) dX11_readLine_127 (by decide) (fun _ => ?_) (fun h => absurd (by decide) h)
                      refine w_aload_n dX11_readLine_131 rfl ?_
                      refine w_iload_n dX11_readLine_132 rfl ?_
                      refine w_callV (as := [vI (nI w)]) (st := []) (Tri.mono (d_lineS hk (ht.y fy) hou t1 hd hm1 (by omega) (by omega) (by omega)) (Nat.le_of_ble_eq_true rfl)) rfl rfl tg_X11_readLineOf lk_X11_133 in_X11_readLineOf se_X11_readLineOf rfl dX11_readLine_133 rfl (Nat.le_of_ble_eq_true rfl) (Nat.le_refl _) (Nat.le_refl _) ?_
                      rintro v M9 ⟨rfl, I2, rfl, t2, f2, m2⟩ -
                      exact l_rdEnd hk (ht.y (fy.tr f2)) (tk_ok (ch_ok (tk_ok (ch_ok (tk_ok (ch_ok hou)))))) t2 (fun I3 t3 f3 => ⟨rfl, _, rfl, t3, fy.tr (f2.tr f3.y), fun q z => m2.n f3⟩)
                · skip
                  replace h4 : ((w : Nat) : Int) = 8 := (zeq (z_nI (by omega)) (by decide)).mp h4
                  first
                  | (exfalso; omega)
                  | skip
                    refine w_iconst (v := 1) dX11_readLine_111 (by decide) ?_
                    refine w_goto (tgt := 116) dX11_readLine_112 (by decide) ?_
                    refine w_putI ff_X11_54 rfl rfl rfl rfl dX11_readLine_116 ?_
                    have hu0 : (if nC a < 5 then (Sum.inr (so, (st, (nx, v))) : tS) else flT 5 (Sum.inr (so, (st, (nx, v))) : tS)) = (Sum.inr (so, (st, (nx, v))) : tS) := if_pos (by omega)
                    refine w_aload_n dX11_readLine_119 rfl ?_
                    refine w_callV (as := []) (st := []) (Tri.mono (d_take (I := xup I 30 0 0 8 (1)) hk (ht.y (FrY.rf.up30 (by decide))) (s := (Sum.inr (so, (st, (nx, v))) : tS)) hok (h.eqv (fun x hx => xup_slot (by omega)))) (Nat.le_of_ble_eq_true rfl)) rfl rfl tg_X11_takes lk_X11_119 in_X11_takes se_X11_takes rfl dX11_readLine_120 rfl (Nat.le_of_ble_eq_true rfl) (Nat.le_refl _) (Nat.le_refl _) ?_
                    rintro v M9 ⟨rfl, I1, rfl, t1, f1⟩ -
                    have fy : FrY I I1 := (FrY.rf.up30 (by decide)).tr f1.y
                    have hm1 : DM I1 a false := (DM.t8 hm (I' := xup I 30 0 0 8 (1)) (fun x => xup_tag (by decide)) (fun x hx => xup_slot (by omega)) (xup_self.trans (by rfl))).n f1
                    have hou : OKT n (tkT n b (Sum.inr (so, (st, (nx, v))) : tS)) := tk_ok hok
                    obtain ⟨u, hu⟩ : ∃ u, u = tkT n b (Sum.inr (so, (st, (nx, v))) : tS) := ⟨_, rfl⟩
                    rw [← hu] at t1 hou
                    have hu1 : tkT n b (if nC a < 5 then (Sum.inr (so, (st, (nx, v))) : tS) else flT 5 (Sum.inr (so, (st, (nx, v))) : tS)) = u := by rw [hu0, hu]
                    rw [show bodyT n b w (Sum.inr (so, (st, (nx, v))) : tS) a false = _ from (if_neg (by omega)).trans (if_pos (by omega))]
                    unfold pLz uS3 uS2 uS1
                    rw [hu1]
                    rcases u with ⟨c, p⟩ | ⟨so2, st2, nx2, v2⟩
                    · skip
                      have q1 := hou.1
                      have q2 := hou.2.1
                      replace q1 : 1 ≤ c := q1
                      replace q2 : c ≤ 5 := q2
                      refine w_aload_n dX11_readLine_123 rfl ?_
                      refine w_getI ff_X11_73 rfl rfl dX11_readLine_124 ?_
                      rw [show (I1 30 0 0 15 : Int32) = nI c from t1.1]
                      refine w_if_le (tgt := 131) dX11_readLine_127 (by decide) (fun h1 => ?_) (fun h1 => ?_)
                      · skip
                        replace h1 : ((c : Nat) : Int) ≤ 0 := (zle (z_nI (by omega)) (by decide)).mp h1
                        first
                        | (exfalso; omega)
                        | skip
                          exfalso
                          omega
                      · skip
                        replace h1 : ¬ (((c : Nat) : Int) ≤ 0) := fun q => h1 ((zle (z_nI (by omega)) (by decide)).mpr q)
                        first
                        | (exfalso; omega)
                        | skip
                          exact w_return dX11_readLine_130 rfl rfl (⟨rfl, _, rfl, t1, fy, fun q z => by cases z⟩)
                    · skip
                      refine w_aload_n dX11_readLine_123 rfl ?_
                      refine w_getI ff_X11_73 rfl rfl dX11_readLine_124 ?_
                      rw [show (I1 30 0 0 15 : Int32) = 0 from t1.1]
                      refine w_if_le (tgt := 131) dX11_readLine_127 (by decide) (fun _ => ?_) (fun h => absurd (by decide) h)
                      refine w_aload_n dX11_readLine_131 rfl ?_
                      refine w_iload_n dX11_readLine_132 rfl ?_
                      refine w_callV (as := [vI (nI w)]) (st := []) (Tri.mono (d_lineS hk (ht.y fy) hou t1 hd hm1 (by omega) (by omega) (by omega)) (Nat.le_of_ble_eq_true rfl)) rfl rfl tg_X11_readLineOf lk_X11_133 in_X11_readLineOf se_X11_readLineOf rfl dX11_readLine_133 rfl (Nat.le_of_ble_eq_true rfl) (Nat.le_refl _) (Nat.le_refl _) ?_
                      rintro v M9 ⟨rfl, I2, rfl, t2, f2, m2⟩ -
                      exact l_rdEnd hk (ht.y (fy.tr f2)) (tk_ok (ch_ok (tk_ok (ch_ok (tk_ok (ch_ok hou)))))) t2 (fun I3 t3 f3 => ⟨rfl, _, rfl, t3, fy.tr (f2.tr f3.y), fun q z => m2.n f3⟩)
        · skip
          replace h2 : ¬ (((w : Nat) : Int) = 8) := fun q => h2 ((zeq (z_nI (by omega)) (by decide)).mpr q)
          first
          | (exfalso; omega)
          | skip
            refine w_iload_n dX11_readLine_41 rfl ?_
            refine w_iconst (v := 4) dX11_readLine_42 (by decide) ?_
            refine w_icmp_lt (tgt := 57) dX11_readLine_43 (by decide) (fun h3 => ?_) (fun h3 => ?_)
            · skip
              replace h3 : ((w : Nat) : Int) < 4 := (zlt (z_nI (by omega)) (by decide)).mp h3
              first
              | (exfalso; omega)
              | skip
                refine w_aload_n dX11_readLine_57 rfl ?_
                refine w_getI ff_X11_47 rfl rfl dX11_readLine_58 ?_
                rw [show (I 30 0 0 6 : Int32) = nI (nJ a) from m6]
                refine w_iconst (v := 4) dX11_readLine_61 (by decide) ?_
                refine w_icmp_ge (tgt := 69) dX11_readLine_62 (by decide) (fun h4 => ?_) (fun h4 => ?_)
                · skip
                  replace h4 : 4 ≤ ((nJ a : Nat) : Int) := (zle (by decide) (z_nI (by omega))).mp h4
                  first
                  | (exfalso; omega)
                  | skip
                    refine w_iconst (v := 0) dX11_readLine_69 (by decide) ?_
                    refine w_iconst (v := 5) dX11_readLine_70 (by decide) ?_
                    refine w_callV (as := [vI (0), vI (5)]) (st := []) (Tri.mono (d_needL (I := I) h.1 h.2.2.1 (5)) (Nat.le_of_ble_eq_true rfl)) rfl rfl tg_X11_needs lk_X11_115 in_X11_needs se_X11_needs rfl dX11_readLine_71 rfl (Nat.le_of_ble_eq_true rfl) (Nat.le_refl _) (Nat.le_refl _) ?_
                    rintro _ _ ⟨rfl, rfl⟩ -
                    refine w_aload_n dX11_readLine_74 rfl ?_
                    refine w_iload_n dX11_readLine_75 rfl ?_
                    refine w_bipush (v := 8) dX11_readLine_76 (by decide) ?_
                    refine w_icmp_ne (tgt := 88) dX11_readLine_78 (by decide) (fun h5 => ?_) (fun h5 => ?_)
                    · skip
                      replace h5 : ¬ (((w : Nat) : Int) = 8) := fun q => h5 ((zeq (z_nI (by omega)) (by decide)).mpr q)
                      first
                      | (exfalso; omega)
                      | skip
                        refine w_iconst (v := 1) dX11_readLine_88 (by decide) ?_
                        refine w_goto (tgt := 93) dX11_readLine_89 (by decide) ?_
                        refine w_iconst (v := 4) dX11_readLine_93 (by decide) ?_
                        refine w_callV (as := [vI (1), vI (4)]) (st := []) (Tri.mono (d_need1 (I := xup (xup I 30 0 0 15 (5)) 30 0 0 16 (nI st)) (4)) (Nat.le_of_ble_eq_true rfl)) rfl rfl tg_X11_needs lk_X11_115 in_X11_needs se_X11_needs rfl dX11_readLine_94 rfl (Nat.le_of_ble_eq_true rfl) (Nat.le_refl _) (Nat.le_refl _) ?_
                        rintro _ _ ⟨rfl, rfl⟩ -
                        refine w_aload_n dX11_readLine_97 rfl ?_
                        refine w_aload_n dX11_readLine_98 rfl ?_
                        refine w_getI ff_X11_54 rfl rfl dX11_readLine_99 ?_
                        rw [show ((xup (xup I 30 0 0 15 (5)) 30 0 0 16 (nI st)) 30 0 0 8 : Int32) = 0 from ((xup_slot (by decide)).trans ((xup_slot (by decide)).trans m8))]
                        refine w_if_ne (tgt := 111) dX11_readLine_102 (by decide) (fun h => absurd (by decide) h) (fun _ => ?_)
                        refine w_iload_n dX11_readLine_105 rfl ?_
                        refine w_bipush (v := 8) dX11_readLine_106 (by decide) ?_
                        refine w_icmp_ne (tgt := 115) dX11_readLine_108 (by decide) (fun h6 => ?_) (fun h6 => ?_)
                        · skip
                          replace h6 : ¬ (((w : Nat) : Int) = 8) := fun q => h6 ((zeq (z_nI (by omega)) (by decide)).mpr q)
                          first
                          | (exfalso; omega)
                          | skip
                            refine w_iconst (v := 0) dX11_readLine_115 (by decide) ?_
                            refine w_putI ff_X11_54 rfl rfl rfl rfl dX11_readLine_116 ?_
                            have hu0 : (if nC a < 5 then (Sum.inr (so, (st, (nx, v))) : tS) else flT 5 (Sum.inr (so, (st, (nx, v))) : tS)) = (Sum.inl (5, st) : tS) := if_neg (by omega)
                            refine w_aload_n dX11_readLine_119 rfl ?_
                            refine w_callV (as := []) (st := []) (Tri.mono (d_take (I := xup (xup (xup I 30 0 0 15 (5)) 30 0 0 16 (nI st)) 30 0 0 8 (0)) hk (ht.y (((FrY.rf.up30 (by decide)).up30 (by decide)).up30 (by decide))) (s := (Sum.inl (5, st) : tS)) ⟨by show 1 ≤ 5; omega, by show 5 ≤ 5; omega, g5⟩ ⟨(xup_slot (by decide)).trans ((xup_slot (by decide)).trans xup_self), (xup_slot (by decide)).trans xup_self⟩) (Nat.le_of_ble_eq_true rfl)) rfl rfl tg_X11_takes lk_X11_119 in_X11_takes se_X11_takes rfl dX11_readLine_120 rfl (Nat.le_of_ble_eq_true rfl) (Nat.le_refl _) (Nat.le_refl _) ?_
                            rintro v M9 ⟨rfl, I1, rfl, t1, f1⟩ -
                            have fy : FrY I I1 := (((FrY.rf.up30 (by decide)).up30 (by decide)).up30 (by decide)).tr f1.y
                            have hm1 : DM I1 a false := (DM.t8 hm (I' := xup (xup (xup I 30 0 0 15 (5)) 30 0 0 16 (nI st)) 30 0 0 8 (0)) (fun x => (xup_tag (by decide)).trans ((xup_tag (by decide)).trans (xup_tag (by decide)))) (fun x hx => (xup_slot (by omega)).trans ((xup_slot (by omega)).trans (xup_slot (by omega)))) (xup_self.trans (by rfl))).n f1
                            have hou : OKT n (tkT n b (Sum.inl (5, st) : tS)) := tk_ok ⟨by show 1 ≤ 5; omega, by show 5 ≤ 5; omega, g5⟩
                            obtain ⟨u, hu⟩ : ∃ u, u = tkT n b (Sum.inl (5, st) : tS) := ⟨_, rfl⟩
                            rw [← hu] at t1 hou
                            have hu1 : tkT n b (if nC a < 5 then (Sum.inr (so, (st, (nx, v))) : tS) else flT 5 (Sum.inr (so, (st, (nx, v))) : tS)) = u := by rw [hu0, hu]
                            rw [show bodyT n b w (Sum.inr (so, (st, (nx, v))) : tS) a false = _ from (if_neg (by omega)).trans (if_pos (by omega))]
                            unfold pLz uS3 uS2 uS1
                            rw [hu1]
                            rcases u with ⟨c, p⟩ | ⟨so2, st2, nx2, v2⟩
                            · skip
                              have q1 := hou.1
                              have q2 := hou.2.1
                              replace q1 : 1 ≤ c := q1
                              replace q2 : c ≤ 5 := q2
                              refine w_aload_n dX11_readLine_123 rfl ?_
                              refine w_getI ff_X11_73 rfl rfl dX11_readLine_124 ?_
                              rw [show (I1 30 0 0 15 : Int32) = nI c from t1.1]
                              refine w_if_le (tgt := 131) dX11_readLine_127 (by decide) (fun h1 => ?_) (fun h1 => ?_)
                              · skip
                                replace h1 : ((c : Nat) : Int) ≤ 0 := (zle (z_nI (by omega)) (by decide)).mp h1
                                first
                                | (exfalso; omega)
                                | skip
                                  exfalso
                                  omega
                              · skip
                                replace h1 : ¬ (((c : Nat) : Int) ≤ 0) := fun q => h1 ((zle (z_nI (by omega)) (by decide)).mpr q)
                                first
                                | (exfalso; omega)
                                | skip
                                  exact w_return dX11_readLine_130 rfl rfl (⟨rfl, _, rfl, t1, fy, fun q z => by cases z⟩)
                            · skip
                              refine w_aload_n dX11_readLine_123 rfl ?_
                              refine w_getI ff_X11_73 rfl rfl dX11_readLine_124 ?_
                              rw [show (I1 30 0 0 15 : Int32) = 0 from t1.1]
                              refine w_if_le (tgt := 131) dX11_readLine_127 (by decide) (fun _ => ?_) (fun h => absurd (by decide) h)
                              refine w_aload_n dX11_readLine_131 rfl ?_
                              refine w_iload_n dX11_readLine_132 rfl ?_
                              cases hu
                        · skip
                          replace h6 : ((w : Nat) : Int) = 8 := (zeq (z_nI (by omega)) (by decide)).mp h6
                          first
                          | (exfalso; omega)
                          | skip
                            refine w_iconst (v := 1) dX11_readLine_111 (by decide) ?_
                            refine w_goto (tgt := 116) dX11_readLine_112 (by decide) ?_
                            refine w_putI ff_X11_54 rfl rfl rfl rfl dX11_readLine_116 ?_
                            have hu0 : (if nC a < 5 then (Sum.inr (so, (st, (nx, v))) : tS) else flT 5 (Sum.inr (so, (st, (nx, v))) : tS)) = (Sum.inl (5, st) : tS) := if_neg (by omega)
                            refine w_aload_n dX11_readLine_119 rfl ?_
                            refine w_callV (as := []) (st := []) (Tri.mono (d_take (I := xup (xup (xup I 30 0 0 15 (5)) 30 0 0 16 (nI st)) 30 0 0 8 (1)) hk (ht.y (((FrY.rf.up30 (by decide)).up30 (by decide)).up30 (by decide))) (s := (Sum.inl (5, st) : tS)) ⟨by show 1 ≤ 5; omega, by show 5 ≤ 5; omega, g5⟩ ⟨(xup_slot (by decide)).trans ((xup_slot (by decide)).trans xup_self), (xup_slot (by decide)).trans xup_self⟩) (Nat.le_of_ble_eq_true rfl)) rfl rfl tg_X11_takes lk_X11_119 in_X11_takes se_X11_takes rfl dX11_readLine_120 rfl (Nat.le_of_ble_eq_true rfl) (Nat.le_refl _) (Nat.le_refl _) ?_
                            rintro v M9 ⟨rfl, I1, rfl, t1, f1⟩ -
                            have fy : FrY I I1 := (((FrY.rf.up30 (by decide)).up30 (by decide)).up30 (by decide)).tr f1.y
                            have hm1 : DM I1 a false := (DM.t8 hm (I' := xup (xup (xup I 30 0 0 15 (5)) 30 0 0 16 (nI st)) 30 0 0 8 (1)) (fun x => (xup_tag (by decide)).trans ((xup_tag (by decide)).trans (xup_tag (by decide)))) (fun x hx => (xup_slot (by omega)).trans ((xup_slot (by omega)).trans (xup_slot (by omega)))) (xup_self.trans (by rfl))).n f1
                            have hou : OKT n (tkT n b (Sum.inl (5, st) : tS)) := tk_ok ⟨by show 1 ≤ 5; omega, by show 5 ≤ 5; omega, g5⟩
                            obtain ⟨u, hu⟩ : ∃ u, u = tkT n b (Sum.inl (5, st) : tS) := ⟨_, rfl⟩
                            rw [← hu] at t1 hou
                            have hu1 : tkT n b (if nC a < 5 then (Sum.inr (so, (st, (nx, v))) : tS) else flT 5 (Sum.inr (so, (st, (nx, v))) : tS)) = u := by rw [hu0, hu]
                            rw [show bodyT n b w (Sum.inr (so, (st, (nx, v))) : tS) a false = _ from (if_neg (by omega)).trans (if_pos (by omega))]
                            unfold pLz uS3 uS2 uS1
                            rw [hu1]
                            rcases u with ⟨c, p⟩ | ⟨so2, st2, nx2, v2⟩
                            · skip
                              have q1 := hou.1
                              have q2 := hou.2.1
                              replace q1 : 1 ≤ c := q1
                              replace q2 : c ≤ 5 := q2
                              refine w_aload_n dX11_readLine_123 rfl ?_
                              refine w_getI ff_X11_73 rfl rfl dX11_readLine_124 ?_
                              rw [show (I1 30 0 0 15 : Int32) = nI c from t1.1]
                              refine w_if_le (tgt := 131) dX11_readLine_127 (by decide) (fun h1 => ?_) (fun h1 => ?_)
                              · skip
                                replace h1 : ((c : Nat) : Int) ≤ 0 := (zle (z_nI (by omega)) (by decide)).mp h1
                                first
                                | (exfalso; omega)
                                | skip
                                  exfalso
                                  omega
                              · skip
                                replace h1 : ¬ (((c : Nat) : Int) ≤ 0) := fun q => h1 ((zle (z_nI (by omega)) (by decide)).mpr q)
                                first
                                | (exfalso; omega)
                                | skip
                                  exact w_return dX11_readLine_130 rfl rfl (⟨rfl, _, rfl, t1, fy, fun q z => by cases z⟩)
                            · skip
                              refine w_aload_n dX11_readLine_123 rfl ?_
                              refine w_getI ff_X11_73 rfl rfl dX11_readLine_124 ?_
                              rw [show (I1 30 0 0 15 : Int32) = 0 from t1.1]
                              refine w_if_le (tgt := 131) dX11_readLine_127 (by decide) (fun _ => ?_) (fun h => absurd (by decide) h)
                              refine w_aload_n dX11_readLine_131 rfl ?_
                              refine w_iload_n dX11_readLine_132 rfl ?_
                              cases hu
                    · skip
                      replace h5 : ((w : Nat) : Int) = 8 := (zeq (z_nI (by omega)) (by decide)).mp h5
                      first
                      | (exfalso; omega)
                      | skip
                        refine w_aload_n dX11_readLine_81 rfl ?_
                        refine w_getI ff_X11_54 rfl rfl dX11_readLine_82 ?_
                        rw [show ((xup (xup I 30 0 0 15 (5)) 30 0 0 16 (nI st)) 30 0 0 8 : Int32) = 0 from ((xup_slot (by decide)).trans ((xup_slot (by decide)).trans m8))]
                        refine w_if_ne (tgt := 92) dX11_readLine_85 (by decide) (fun h => absurd (by decide) h) (fun _ => ?_)
                        refine w_iconst (v := 1) dX11_readLine_88 (by decide) ?_
                        refine w_goto (tgt := 93) dX11_readLine_89 (by decide) ?_
                        refine w_iconst (v := 4) dX11_readLine_93 (by decide) ?_
                        refine w_callV (as := [vI (1), vI (4)]) (st := []) (Tri.mono (d_need1 (I := xup (xup I 30 0 0 15 (5)) 30 0 0 16 (nI st)) (4)) (Nat.le_of_ble_eq_true rfl)) rfl rfl tg_X11_needs lk_X11_115 in_X11_needs se_X11_needs rfl dX11_readLine_94 rfl (Nat.le_of_ble_eq_true rfl) (Nat.le_refl _) (Nat.le_refl _) ?_
                        rintro _ _ ⟨rfl, rfl⟩ -
                        refine w_aload_n dX11_readLine_97 rfl ?_
                        refine w_aload_n dX11_readLine_98 rfl ?_
                        refine w_getI ff_X11_54 rfl rfl dX11_readLine_99 ?_
                        rw [show ((xup (xup I 30 0 0 15 (5)) 30 0 0 16 (nI st)) 30 0 0 8 : Int32) = 0 from ((xup_slot (by decide)).trans ((xup_slot (by decide)).trans m8))]
                        refine w_if_ne (tgt := 111) dX11_readLine_102 (by decide) (fun h => absurd (by decide) h) (fun _ => ?_)
                        refine w_iload_n dX11_readLine_105 rfl ?_
                        refine w_bipush (v := 8) dX11_readLine_106 (by decide) ?_
                        refine w_icmp_ne (tgt := 115) dX11_readLine_108 (by decide) (fun h6 => ?_) (fun h6 => ?_)
                        · skip
                          replace h6 : ¬ (((w : Nat) : Int) = 8) := fun q => h6 ((zeq (z_nI (by omega)) (by decide)).mpr q)
                          first
                          | (exfalso; omega)
                          | skip
                            refine w_iconst (v := 0) dX11_readLine_115 (by decide) ?_
                            refine w_putI ff_X11_54 rfl rfl rfl rfl dX11_readLine_116 ?_
                            have hu0 : (if nC a < 5 then (Sum.inr (so, (st, (nx, v))) : tS) else flT 5 (Sum.inr (so, (st, (nx, v))) : tS)) = (Sum.inl (5, st) : tS) := if_neg (by omega)
                            refine w_aload_n dX11_readLine_119 rfl ?_
                            refine w_callV (as := []) (st := []) (Tri.mono (d_take (I := xup (xup (xup I 30 0 0 15 (5)) 30 0 0 16 (nI st)) 30 0 0 8 (0)) hk (ht.y (((FrY.rf.up30 (by decide)).up30 (by decide)).up30 (by decide))) (s := (Sum.inl (5, st) : tS)) ⟨by show 1 ≤ 5; omega, by show 5 ≤ 5; omega, g5⟩ ⟨(xup_slot (by decide)).trans ((xup_slot (by decide)).trans xup_self), (xup_slot (by decide)).trans xup_self⟩) (Nat.le_of_ble_eq_true rfl)) rfl rfl tg_X11_takes lk_X11_119 in_X11_takes se_X11_takes rfl dX11_readLine_120 rfl (Nat.le_of_ble_eq_true rfl) (Nat.le_refl _) (Nat.le_refl _) ?_
                            rintro v M9 ⟨rfl, I1, rfl, t1, f1⟩ -
                            have fy : FrY I I1 := (((FrY.rf.up30 (by decide)).up30 (by decide)).up30 (by decide)).tr f1.y
                            have hm1 : DM I1 a false := (DM.t8 hm (I' := xup (xup (xup I 30 0 0 15 (5)) 30 0 0 16 (nI st)) 30 0 0 8 (0)) (fun x => (xup_tag (by decide)).trans ((xup_tag (by decide)).trans (xup_tag (by decide)))) (fun x hx => (xup_slot (by omega)).trans ((xup_slot (by omega)).trans (xup_slot (by omega)))) (xup_self.trans (by rfl))).n f1
                            have hou : OKT n (tkT n b (Sum.inl (5, st) : tS)) := tk_ok ⟨by show 1 ≤ 5; omega, by show 5 ≤ 5; omega, g5⟩
                            obtain ⟨u, hu⟩ : ∃ u, u = tkT n b (Sum.inl (5, st) : tS) := ⟨_, rfl⟩
                            rw [← hu] at t1 hou
                            have hu1 : tkT n b (if nC a < 5 then (Sum.inr (so, (st, (nx, v))) : tS) else flT 5 (Sum.inr (so, (st, (nx, v))) : tS)) = u := by rw [hu0, hu]
                            rw [show bodyT n b w (Sum.inr (so, (st, (nx, v))) : tS) a false = _ from (if_neg (by omega)).trans (if_pos (by omega))]
                            unfold pLz uS3 uS2 uS1
                            rw [hu1]
                            rcases u with ⟨c, p⟩ | ⟨so2, st2, nx2, v2⟩
                            · skip
                              have q1 := hou.1
                              have q2 := hou.2.1
                              replace q1 : 1 ≤ c := q1
                              replace q2 : c ≤ 5 := q2
                              refine w_aload_n dX11_readLine_123 rfl ?_
                              refine w_getI ff_X11_73 rfl rfl dX11_readLine_124 ?_
                              rw [show (I1 30 0 0 15 : Int32) = nI c from t1.1]
                              refine w_if_le (tgt := 131) dX11_readLine_127 (by decide) (fun h1 => ?_) (fun h1 => ?_)
                              · skip
                                replace h1 : ((c : Nat) : Int) ≤ 0 := (zle (z_nI (by omega)) (by decide)).mp h1
                                first
                                | (exfalso; omega)
                                | skip
                                  exfalso
                                  omega
                              · skip
                                replace h1 : ¬ (((c : Nat) : Int) ≤ 0) := fun q => h1 ((zle (z_nI (by omega)) (by decide)).mpr q)
                                first
                                | (exfalso; omega)
                                | skip
                                  exact w_return dX11_readLine_130 rfl rfl (⟨rfl, _, rfl, t1, fy, fun q z => by cases z⟩)
                            · skip
                              refine w_aload_n dX11_readLine_123 rfl ?_
                              refine w_getI ff_X11_73 rfl rfl dX11_readLine_124 ?_
                              rw [show (I1 30 0 0 15 : Int32) = 0 from t1.1]
                              refine w_if_le (tgt := 131) dX11_readLine_127 (by decide) (fun _ => ?_) (fun h => absurd (by decide) h)
                              refine w_aload_n dX11_readLine_131 rfl ?_
                              refine w_iload_n dX11_readLine_132 rfl ?_
                              cases hu
                        · skip
                          replace h6 : ((w : Nat) : Int) = 8 := (zeq (z_nI (by omega)) (by decide)).mp h6
                          first
                          | (exfalso; omega)
                          | skip
                            refine w_iconst (v := 1) dX11_readLine_111 (by decide) ?_
                            refine w_goto (tgt := 116) dX11_readLine_112 (by decide) ?_
                            refine w_putI ff_X11_54 rfl rfl rfl rfl dX11_readLine_116 ?_
                            have hu0 : (if nC a < 5 then (Sum.inr (so, (st, (nx, v))) : tS) else flT 5 (Sum.inr (so, (st, (nx, v))) : tS)) = (Sum.inl (5, st) : tS) := if_neg (by omega)
                            refine w_aload_n dX11_readLine_119 rfl ?_
                            refine w_callV (as := []) (st := []) (Tri.mono (d_take (I := xup (xup (xup I 30 0 0 15 (5)) 30 0 0 16 (nI st)) 30 0 0 8 (1)) hk (ht.y (((FrY.rf.up30 (by decide)).up30 (by decide)).up30 (by decide))) (s := (Sum.inl (5, st) : tS)) ⟨by show 1 ≤ 5; omega, by show 5 ≤ 5; omega, g5⟩ ⟨(xup_slot (by decide)).trans ((xup_slot (by decide)).trans xup_self), (xup_slot (by decide)).trans xup_self⟩) (Nat.le_of_ble_eq_true rfl)) rfl rfl tg_X11_takes lk_X11_119 in_X11_takes se_X11_takes rfl dX11_readLine_120 rfl (Nat.le_of_ble_eq_true rfl) (Nat.le_refl _) (Nat.le_refl _) ?_
                            rintro v M9 ⟨rfl, I1, rfl, t1, f1⟩ -
                            have fy : FrY I I1 := (((FrY.rf.up30 (by decide)).up30 (by decide)).up30 (by decide)).tr f1.y
                            have hm1 : DM I1 a false := (DM.t8 hm (I' := xup (xup (xup I 30 0 0 15 (5)) 30 0 0 16 (nI st)) 30 0 0 8 (1)) (fun x => (xup_tag (by decide)).trans ((xup_tag (by decide)).trans (xup_tag (by decide)))) (fun x hx => (xup_slot (by omega)).trans ((xup_slot (by omega)).trans (xup_slot (by omega)))) (xup_self.trans (by rfl))).n f1
                            have hou : OKT n (tkT n b (Sum.inl (5, st) : tS)) := tk_ok ⟨by show 1 ≤ 5; omega, by show 5 ≤ 5; omega, g5⟩
                            obtain ⟨u, hu⟩ : ∃ u, u = tkT n b (Sum.inl (5, st) : tS) := ⟨_, rfl⟩
                            rw [← hu] at t1 hou
                            have hu1 : tkT n b (if nC a < 5 then (Sum.inr (so, (st, (nx, v))) : tS) else flT 5 (Sum.inr (so, (st, (nx, v))) : tS)) = u := by rw [hu0, hu]
                            rw [show bodyT n b w (Sum.inr (so, (st, (nx, v))) : tS) a false = _ from (if_neg (by omega)).trans (if_pos (by omega))]
                            unfold pLz uS3 uS2 uS1
                            rw [hu1]
                            rcases u with ⟨c, p⟩ | ⟨so2, st2, nx2, v2⟩
                            · skip
                              have q1 := hou.1
                              have q2 := hou.2.1
                              replace q1 : 1 ≤ c := q1
                              replace q2 : c ≤ 5 := q2
                              refine w_aload_n dX11_readLine_123 rfl ?_
                              refine w_getI ff_X11_73 rfl rfl dX11_readLine_124 ?_
                              rw [show (I1 30 0 0 15 : Int32) = nI c from t1.1]
                              refine w_if_le (tgt := 131) dX11_readLine_127 (by decide) (fun h1 => ?_) (fun h1 => ?_)
                              · skip
                                replace h1 : ((c : Nat) : Int) ≤ 0 := (zle (z_nI (by omega)) (by decide)).mp h1
                                first
                                | (exfalso; omega)
                                | skip
                                  exfalso
                                  omega
                              · skip
                                replace h1 : ¬ (((c : Nat) : Int) ≤ 0) := fun q => h1 ((zle (z_nI (by omega)) (by decide)).mpr q)
                                first
                                | (exfalso; omega)
                                | skip
                                  exact w_return dX11_readLine_130 rfl rfl (⟨rfl, _, rfl, t1, fy, fun q z => by cases z⟩)
                            · skip
                              refine w_aload_n dX11_readLine_123 rfl ?_
                              refine w_getI ff_X11_73 rfl rfl dX11_readLine_124 ?_
                              rw [show (I1 30 0 0 15 : Int32) = 0 from t1.1]
                              refine w_if_le (tgt := 131) dX11_readLine_127 (by decide) (fun _ => ?_) (fun h => absurd (by decide) h)
                              refine w_aload_n dX11_readLine_131 rfl ?_
                              refine w_iload_n dX11_readLine_132 rfl ?_
                              cases hu
                · skip
                  replace h4 : ¬ (4 ≤ ((nJ a : Nat) : Int)) := fun q => h4 ((zle (by decide) (z_nI (by omega))).mpr q)
                  first
                  | (exfalso; omega)
                  | skip
                    refine w_iconst (v := 1) dX11_readLine_65 (by decide) ?_
                    refine w_goto (tgt := 70) dX11_readLine_66 (by decide) ?_
                    refine w_iconst (v := 5) dX11_readLine_70 (by decide) ?_
                    refine w_callV (as := [vI (1), vI (5)]) (st := []) (Tri.mono (d_need1 (I := I) (5)) (Nat.le_of_ble_eq_true rfl)) rfl rfl tg_X11_needs lk_X11_115 in_X11_needs se_X11_needs rfl dX11_readLine_71 rfl (Nat.le_of_ble_eq_true rfl) (Nat.le_refl _) (Nat.le_refl _) ?_
                    rintro _ _ ⟨rfl, rfl⟩ -
                    refine w_aload_n dX11_readLine_74 rfl ?_
                    refine w_iload_n dX11_readLine_75 rfl ?_
                    refine w_bipush (v := 8) dX11_readLine_76 (by decide) ?_
                    refine w_icmp_ne (tgt := 88) dX11_readLine_78 (by decide) (fun h5 => ?_) (fun h5 => ?_)
                    · skip
                      replace h5 : ¬ (((w : Nat) : Int) = 8) := fun q => h5 ((zeq (z_nI (by omega)) (by decide)).mpr q)
                      first
                      | (exfalso; omega)
                      | skip
                        refine w_iconst (v := 1) dX11_readLine_88 (by decide) ?_
                        refine w_goto (tgt := 93) dX11_readLine_89 (by decide) ?_
                        refine w_iconst (v := 4) dX11_readLine_93 (by decide) ?_
                        refine w_callV (as := [vI (1), vI (4)]) (st := []) (Tri.mono (d_need1 (I := I) (4)) (Nat.le_of_ble_eq_true rfl)) rfl rfl tg_X11_needs lk_X11_115 in_X11_needs se_X11_needs rfl dX11_readLine_94 rfl (Nat.le_of_ble_eq_true rfl) (Nat.le_refl _) (Nat.le_refl _) ?_
                        rintro _ _ ⟨rfl, rfl⟩ -
                        refine w_aload_n dX11_readLine_97 rfl ?_
                        refine w_aload_n dX11_readLine_98 rfl ?_
                        refine w_getI ff_X11_54 rfl rfl dX11_readLine_99 ?_
                        rw [show (I 30 0 0 8 : Int32) = 0 from m8]
                        refine w_if_ne (tgt := 111) dX11_readLine_102 (by decide) (fun h => absurd (by decide) h) (fun _ => ?_)
                        refine w_iload_n dX11_readLine_105 rfl ?_
                        refine w_bipush (v := 8) dX11_readLine_106 (by decide) ?_
                        refine w_icmp_ne (tgt := 115) dX11_readLine_108 (by decide) (fun h6 => ?_) (fun h6 => ?_)
                        · skip
                          replace h6 : ¬ (((w : Nat) : Int) = 8) := fun q => h6 ((zeq (z_nI (by omega)) (by decide)).mpr q)
                          first
                          | (exfalso; omega)
                          | skip
                            refine w_iconst (v := 0) dX11_readLine_115 (by decide) ?_
                            refine w_putI ff_X11_54 rfl rfl rfl rfl dX11_readLine_116 ?_
                            have hu0 : (if nC a < 5 then (Sum.inr (so, (st, (nx, v))) : tS) else flT 5 (Sum.inr (so, (st, (nx, v))) : tS)) = (Sum.inr (so, (st, (nx, v))) : tS) := if_pos (by omega)
                            refine w_aload_n dX11_readLine_119 rfl ?_
                            refine w_callV (as := []) (st := []) (Tri.mono (d_take (I := xup I 30 0 0 8 (0)) hk (ht.y (FrY.rf.up30 (by decide))) (s := (Sum.inr (so, (st, (nx, v))) : tS)) hok (h.eqv (fun x hx => xup_slot (by omega)))) (Nat.le_of_ble_eq_true rfl)) rfl rfl tg_X11_takes lk_X11_119 in_X11_takes se_X11_takes rfl dX11_readLine_120 rfl (Nat.le_of_ble_eq_true rfl) (Nat.le_refl _) (Nat.le_refl _) ?_
                            rintro v M9 ⟨rfl, I1, rfl, t1, f1⟩ -
                            have fy : FrY I I1 := (FrY.rf.up30 (by decide)).tr f1.y
                            have hm1 : DM I1 a false := (DM.t8 hm (I' := xup I 30 0 0 8 (0)) (fun x => xup_tag (by decide)) (fun x hx => xup_slot (by omega)) (xup_self.trans (by rfl))).n f1
                            have hou : OKT n (tkT n b (Sum.inr (so, (st, (nx, v))) : tS)) := tk_ok hok
                            obtain ⟨u, hu⟩ : ∃ u, u = tkT n b (Sum.inr (so, (st, (nx, v))) : tS) := ⟨_, rfl⟩
                            rw [← hu] at t1 hou
                            have hu1 : tkT n b (if nC a < 5 then (Sum.inr (so, (st, (nx, v))) : tS) else flT 5 (Sum.inr (so, (st, (nx, v))) : tS)) = u := by rw [hu0, hu]
                            rw [show bodyT n b w (Sum.inr (so, (st, (nx, v))) : tS) a false = _ from (if_neg (by omega)).trans (if_pos (by omega))]
                            unfold pLz uS3 uS2 uS1
                            rw [hu1]
                            rcases u with ⟨c, p⟩ | ⟨so2, st2, nx2, v2⟩
                            · skip
                              have q1 := hou.1
                              have q2 := hou.2.1
                              replace q1 : 1 ≤ c := q1
                              replace q2 : c ≤ 5 := q2
                              refine w_aload_n dX11_readLine_123 rfl ?_
                              refine w_getI ff_X11_73 rfl rfl dX11_readLine_124 ?_
                              rw [show (I1 30 0 0 15 : Int32) = nI c from t1.1]
                              refine w_if_le (tgt := 131) dX11_readLine_127 (by decide) (fun h1 => ?_) (fun h1 => ?_)
                              · skip
                                replace h1 : ((c : Nat) : Int) ≤ 0 := (zle (z_nI (by omega)) (by decide)).mp h1
                                first
                                | (exfalso; omega)
                                | skip
                                  exfalso
                                  omega
                              · skip
                                replace h1 : ¬ (((c : Nat) : Int) ≤ 0) := fun q => h1 ((zle (z_nI (by omega)) (by decide)).mpr q)
                                first
                                | (exfalso; omega)
                                | skip
                                  exact w_return dX11_readLine_130 rfl rfl (⟨rfl, _, rfl, t1, fy, fun q z => by cases z⟩)
                            · skip
                              refine w_aload_n dX11_readLine_123 rfl ?_
                              refine w_getI ff_X11_73 rfl rfl dX11_readLine_124 ?_
                              rw [show (I1 30 0 0 15 : Int32) = 0 from t1.1]
                              refine w_if_le (tgt := 131) dX11_readLine_127 (by decide) (fun _ => ?_) (fun h => absurd (by decide) h)
                              refine w_aload_n dX11_readLine_131 rfl ?_
                              refine w_iload_n dX11_readLine_132 rfl ?_
                              refine w_callV (as := [vI (nI w)]) (st := []) (Tri.mono (d_lineS hk (ht.y fy) hou t1 hd hm1 (by omega) (by omega) (by omega)) (Nat.le_of_ble_eq_true rfl)) rfl rfl tg_X11_readLineOf lk_X11_133 in_X11_readLineOf se_X11_readLineOf rfl dX11_readLine_133 rfl (Nat.le_of_ble_eq_true rfl) (Nat.le_refl _) (Nat.le_refl _) ?_
                              rintro v M9 ⟨rfl, I2, rfl, t2, f2, m2⟩ -
                              exact l_rdEnd hk (ht.y (fy.tr f2)) (tk_ok (ch_ok (tk_ok (ch_ok (tk_ok (ch_ok hou)))))) t2 (fun I3 t3 f3 => ⟨rfl, _, rfl, t3, fy.tr (f2.tr f3.y), fun q z => m2.n f3⟩)
                        · skip
                          replace h6 : ((w : Nat) : Int) = 8 := (zeq (z_nI (by omega)) (by decide)).mp h6
                          first
                          | (exfalso; omega)
                          | skip
                            refine w_iconst (v := 1) dX11_readLine_111 (by decide) ?_
                            refine w_goto (tgt := 116) dX11_readLine_112 (by decide) ?_
                            refine w_putI ff_X11_54 rfl rfl rfl rfl dX11_readLine_116 ?_
                            have hu0 : (if nC a < 5 then (Sum.inr (so, (st, (nx, v))) : tS) else flT 5 (Sum.inr (so, (st, (nx, v))) : tS)) = (Sum.inr (so, (st, (nx, v))) : tS) := if_pos (by omega)
                            refine w_aload_n dX11_readLine_119 rfl ?_
                            refine w_callV (as := []) (st := []) (Tri.mono (d_take (I := xup I 30 0 0 8 (1)) hk (ht.y (FrY.rf.up30 (by decide))) (s := (Sum.inr (so, (st, (nx, v))) : tS)) hok (h.eqv (fun x hx => xup_slot (by omega)))) (Nat.le_of_ble_eq_true rfl)) rfl rfl tg_X11_takes lk_X11_119 in_X11_takes se_X11_takes rfl dX11_readLine_120 rfl (Nat.le_of_ble_eq_true rfl) (Nat.le_refl _) (Nat.le_refl _) ?_
                            rintro v M9 ⟨rfl, I1, rfl, t1, f1⟩ -
                            have fy : FrY I I1 := (FrY.rf.up30 (by decide)).tr f1.y
                            have hm1 : DM I1 a false := (DM.t8 hm (I' := xup I 30 0 0 8 (1)) (fun x => xup_tag (by decide)) (fun x hx => xup_slot (by omega)) (xup_self.trans (by rfl))).n f1
                            have hou : OKT n (tkT n b (Sum.inr (so, (st, (nx, v))) : tS)) := tk_ok hok
                            obtain ⟨u, hu⟩ : ∃ u, u = tkT n b (Sum.inr (so, (st, (nx, v))) : tS) := ⟨_, rfl⟩
                            rw [← hu] at t1 hou
                            have hu1 : tkT n b (if nC a < 5 then (Sum.inr (so, (st, (nx, v))) : tS) else flT 5 (Sum.inr (so, (st, (nx, v))) : tS)) = u := by rw [hu0, hu]
                            rw [show bodyT n b w (Sum.inr (so, (st, (nx, v))) : tS) a false = _ from (if_neg (by omega)).trans (if_pos (by omega))]
                            unfold pLz uS3 uS2 uS1
                            rw [hu1]
                            rcases u with ⟨c, p⟩ | ⟨so2, st2, nx2, v2⟩
                            · skip
                              have q1 := hou.1
                              have q2 := hou.2.1
                              replace q1 : 1 ≤ c := q1
                              replace q2 : c ≤ 5 := q2
                              refine w_aload_n dX11_readLine_123 rfl ?_
                              refine w_getI ff_X11_73 rfl rfl dX11_readLine_124 ?_
                              rw [show (I1 30 0 0 15 : Int32) = nI c from t1.1]
                              refine w_if_le (tgt := 131) dX11_readLine_127 (by decide) (fun h1 => ?_) (fun h1 => ?_)
                              · skip
                                replace h1 : ((c : Nat) : Int) ≤ 0 := (zle (z_nI (by omega)) (by decide)).mp h1
                                first
                                | (exfalso; omega)
                                | skip
                                  exfalso
                                  omega
                              · skip
                                replace h1 : ¬ (((c : Nat) : Int) ≤ 0) := fun q => h1 ((zle (z_nI (by omega)) (by decide)).mpr q)
                                first
                                | (exfalso; omega)
                                | skip
                                  exact w_return dX11_readLine_130 rfl rfl (⟨rfl, _, rfl, t1, fy, fun q z => by cases z⟩)
                            · skip
                              refine w_aload_n dX11_readLine_123 rfl ?_
                              refine w_getI ff_X11_73 rfl rfl dX11_readLine_124 ?_
                              rw [show (I1 30 0 0 15 : Int32) = 0 from t1.1]
                              refine w_if_le (tgt := 131) dX11_readLine_127 (by decide) (fun _ => ?_) (fun h => absurd (by decide) h)
                              refine w_aload_n dX11_readLine_131 rfl ?_
                              refine w_iload_n dX11_readLine_132 rfl ?_
                              refine w_callV (as := [vI (nI w)]) (st := []) (Tri.mono (d_lineS hk (ht.y fy) hou t1 hd hm1 (by omega) (by omega) (by omega)) (Nat.le_of_ble_eq_true rfl)) rfl rfl tg_X11_readLineOf lk_X11_133 in_X11_readLineOf se_X11_readLineOf rfl dX11_readLine_133 rfl (Nat.le_of_ble_eq_true rfl) (Nat.le_refl _) (Nat.le_refl _) ?_
                              rintro v M9 ⟨rfl, I2, rfl, t2, f2, m2⟩ -
                              exact l_rdEnd hk (ht.y (fy.tr f2)) (tk_ok (ch_ok (tk_ok (ch_ok (tk_ok (ch_ok hou)))))) t2 (fun I3 t3 f3 => ⟨rfl, _, rfl, t3, fy.tr (f2.tr f3.y), fun q z => m2.n f3⟩)
                    · skip
                      replace h5 : ((w : Nat) : Int) = 8 := (zeq (z_nI (by omega)) (by decide)).mp h5
                      first
                      | (exfalso; omega)
                      | skip
                        refine w_aload_n dX11_readLine_81 rfl ?_
                        refine w_getI ff_X11_54 rfl rfl dX11_readLine_82 ?_
                        rw [show (I 30 0 0 8 : Int32) = 0 from m8]
                        refine w_if_ne (tgt := 92) dX11_readLine_85 (by decide) (fun h => absurd (by decide) h) (fun _ => ?_)
                        refine w_iconst (v := 1) dX11_readLine_88 (by decide) ?_
                        refine w_goto (tgt := 93) dX11_readLine_89 (by decide) ?_
                        refine w_iconst (v := 4) dX11_readLine_93 (by decide) ?_
                        refine w_callV (as := [vI (1), vI (4)]) (st := []) (Tri.mono (d_need1 (I := I) (4)) (Nat.le_of_ble_eq_true rfl)) rfl rfl tg_X11_needs lk_X11_115 in_X11_needs se_X11_needs rfl dX11_readLine_94 rfl (Nat.le_of_ble_eq_true rfl) (Nat.le_refl _) (Nat.le_refl _) ?_
                        rintro _ _ ⟨rfl, rfl⟩ -
                        refine w_aload_n dX11_readLine_97 rfl ?_
                        refine w_aload_n dX11_readLine_98 rfl ?_
                        refine w_getI ff_X11_54 rfl rfl dX11_readLine_99 ?_
                        rw [show (I 30 0 0 8 : Int32) = 0 from m8]
                        refine w_if_ne (tgt := 111) dX11_readLine_102 (by decide) (fun h => absurd (by decide) h) (fun _ => ?_)
                        refine w_iload_n dX11_readLine_105 rfl ?_
                        refine w_bipush (v := 8) dX11_readLine_106 (by decide) ?_
                        refine w_icmp_ne (tgt := 115) dX11_readLine_108 (by decide) (fun h6 => ?_) (fun h6 => ?_)
                        · skip
                          replace h6 : ¬ (((w : Nat) : Int) = 8) := fun q => h6 ((zeq (z_nI (by omega)) (by decide)).mpr q)
                          first
                          | (exfalso; omega)
                          | skip
                            refine w_iconst (v := 0) dX11_readLine_115 (by decide) ?_
                            refine w_putI ff_X11_54 rfl rfl rfl rfl dX11_readLine_116 ?_
                            have hu0 : (if nC a < 5 then (Sum.inr (so, (st, (nx, v))) : tS) else flT 5 (Sum.inr (so, (st, (nx, v))) : tS)) = (Sum.inr (so, (st, (nx, v))) : tS) := if_pos (by omega)
                            refine w_aload_n dX11_readLine_119 rfl ?_
                            refine w_callV (as := []) (st := []) (Tri.mono (d_take (I := xup I 30 0 0 8 (0)) hk (ht.y (FrY.rf.up30 (by decide))) (s := (Sum.inr (so, (st, (nx, v))) : tS)) hok (h.eqv (fun x hx => xup_slot (by omega)))) (Nat.le_of_ble_eq_true rfl)) rfl rfl tg_X11_takes lk_X11_119 in_X11_takes se_X11_takes rfl dX11_readLine_120 rfl (Nat.le_of_ble_eq_true rfl) (Nat.le_refl _) (Nat.le_refl _) ?_
                            rintro v M9 ⟨rfl, I1, rfl, t1, f1⟩ -
                            have fy : FrY I I1 := (FrY.rf.up30 (by decide)).tr f1.y
                            have hm1 : DM I1 a false := (DM.t8 hm (I' := xup I 30 0 0 8 (0)) (fun x => xup_tag (by decide)) (fun x hx => xup_slot (by omega)) (xup_self.trans (by rfl))).n f1
                            have hou : OKT n (tkT n b (Sum.inr (so, (st, (nx, v))) : tS)) := tk_ok hok
                            obtain ⟨u, hu⟩ : ∃ u, u = tkT n b (Sum.inr (so, (st, (nx, v))) : tS) := ⟨_, rfl⟩
                            rw [← hu] at t1 hou
                            have hu1 : tkT n b (if nC a < 5 then (Sum.inr (so, (st, (nx, v))) : tS) else flT 5 (Sum.inr (so, (st, (nx, v))) : tS)) = u := by rw [hu0, hu]
                            rw [show bodyT n b w (Sum.inr (so, (st, (nx, v))) : tS) a false = _ from (if_neg (by omega)).trans (if_pos (by omega))]
                            unfold pLz uS3 uS2 uS1
                            rw [hu1]
                            rcases u with ⟨c, p⟩ | ⟨so2, st2, nx2, v2⟩
                            · skip
                              have q1 := hou.1
                              have q2 := hou.2.1
                              replace q1 : 1 ≤ c := q1
                              replace q2 : c ≤ 5 := q2
                              refine w_aload_n dX11_readLine_123 rfl ?_
                              refine w_getI ff_X11_73 rfl rfl dX11_readLine_124 ?_
                              rw [show (I1 30 0 0 15 : Int32) = nI c from t1.1]
                              refine w_if_le (tgt := 131) dX11_readLine_127 (by decide) (fun h1 => ?_) (fun h1 => ?_)
                              · skip
                                replace h1 : ((c : Nat) : Int) ≤ 0 := (zle (z_nI (by omega)) (by decide)).mp h1
                                first
                                | (exfalso; omega)
                                | skip
                                  exfalso
                                  omega
                              · skip
                                replace h1 : ¬ (((c : Nat) : Int) ≤ 0) := fun q => h1 ((zle (z_nI (by omega)) (by decide)).mpr q)
                                first
                                | (exfalso; omega)
                                | skip
                                  exact w_return dX11_readLine_130 rfl rfl (⟨rfl, _, rfl, t1, fy, fun q z => by cases z⟩)
                            · skip
                              refine w_aload_n dX11_readLine_123 rfl ?_
                              refine w_getI ff_X11_73 rfl rfl dX11_readLine_124 ?_
                              rw [show (I1 30 0 0 15 : Int32) = 0 from t1.1]
                              refine w_if_le (tgt := 131) dX11_readLine_127 (by decide) (fun _ => ?_) (fun h => absurd (by decide) h)
                              refine w_aload_n dX11_readLine_131 rfl ?_
                              refine w_iload_n dX11_readLine_132 rfl ?_
                              refine w_callV (as := [vI (nI w)]) (st := []) (Tri.mono (d_lineS hk (ht.y fy) hou t1 hd hm1 (by omega) (by omega) (by omega)) (Nat.le_of_ble_eq_true rfl)) rfl rfl tg_X11_readLineOf lk_X11_133 in_X11_readLineOf se_X11_readLineOf rfl dX11_readLine_133 rfl (Nat.le_of_ble_eq_true rfl) (Nat.le_refl _) (Nat.le_refl _) ?_
                              rintro v M9 ⟨rfl, I2, rfl, t2, f2, m2⟩ -
                              exact l_rdEnd hk (ht.y (fy.tr f2)) (tk_ok (ch_ok (tk_ok (ch_ok (tk_ok (ch_ok hou)))))) t2 (fun I3 t3 f3 => ⟨rfl, _, rfl, t3, fy.tr (f2.tr f3.y), fun q z => m2.n f3⟩)
                        · skip
                          replace h6 : ((w : Nat) : Int) = 8 := (zeq (z_nI (by omega)) (by decide)).mp h6
                          first
                          | (exfalso; omega)
                          | skip
                            refine w_iconst (v := 1) dX11_readLine_111 (by decide) ?_
                            refine w_goto (tgt := 116) dX11_readLine_112 (by decide) ?_
                            refine w_putI ff_X11_54 rfl rfl rfl rfl dX11_readLine_116 ?_
                            have hu0 : (if nC a < 5 then (Sum.inr (so, (st, (nx, v))) : tS) else flT 5 (Sum.inr (so, (st, (nx, v))) : tS)) = (Sum.inr (so, (st, (nx, v))) : tS) := if_pos (by omega)
                            refine w_aload_n dX11_readLine_119 rfl ?_
                            refine w_callV (as := []) (st := []) (Tri.mono (d_take (I := xup I 30 0 0 8 (1)) hk (ht.y (FrY.rf.up30 (by decide))) (s := (Sum.inr (so, (st, (nx, v))) : tS)) hok (h.eqv (fun x hx => xup_slot (by omega)))) (Nat.le_of_ble_eq_true rfl)) rfl rfl tg_X11_takes lk_X11_119 in_X11_takes se_X11_takes rfl dX11_readLine_120 rfl (Nat.le_of_ble_eq_true rfl) (Nat.le_refl _) (Nat.le_refl _) ?_
                            rintro v M9 ⟨rfl, I1, rfl, t1, f1⟩ -
                            have fy : FrY I I1 := (FrY.rf.up30 (by decide)).tr f1.y
                            have hm1 : DM I1 a false := (DM.t8 hm (I' := xup I 30 0 0 8 (1)) (fun x => xup_tag (by decide)) (fun x hx => xup_slot (by omega)) (xup_self.trans (by rfl))).n f1
                            have hou : OKT n (tkT n b (Sum.inr (so, (st, (nx, v))) : tS)) := tk_ok hok
                            obtain ⟨u, hu⟩ : ∃ u, u = tkT n b (Sum.inr (so, (st, (nx, v))) : tS) := ⟨_, rfl⟩
                            rw [← hu] at t1 hou
                            have hu1 : tkT n b (if nC a < 5 then (Sum.inr (so, (st, (nx, v))) : tS) else flT 5 (Sum.inr (so, (st, (nx, v))) : tS)) = u := by rw [hu0, hu]
                            rw [show bodyT n b w (Sum.inr (so, (st, (nx, v))) : tS) a false = _ from (if_neg (by omega)).trans (if_pos (by omega))]
                            unfold pLz uS3 uS2 uS1
                            rw [hu1]
                            rcases u with ⟨c, p⟩ | ⟨so2, st2, nx2, v2⟩
                            · skip
                              have q1 := hou.1
                              have q2 := hou.2.1
                              replace q1 : 1 ≤ c := q1
                              replace q2 : c ≤ 5 := q2
                              refine w_aload_n dX11_readLine_123 rfl ?_
                              refine w_getI ff_X11_73 rfl rfl dX11_readLine_124 ?_
                              rw [show (I1 30 0 0 15 : Int32) = nI c from t1.1]
                              refine w_if_le (tgt := 131) dX11_readLine_127 (by decide) (fun h1 => ?_) (fun h1 => ?_)
                              · skip
                                replace h1 : ((c : Nat) : Int) ≤ 0 := (zle (z_nI (by omega)) (by decide)).mp h1
                                first
                                | (exfalso; omega)
                                | skip
                                  exfalso
                                  omega
                              · skip
                                replace h1 : ¬ (((c : Nat) : Int) ≤ 0) := fun q => h1 ((zle (z_nI (by omega)) (by decide)).mpr q)
                                first
                                | (exfalso; omega)
                                | skip
                                  exact w_return dX11_readLine_130 rfl rfl (⟨rfl, _, rfl, t1, fy, fun q z => by cases z⟩)
                            · skip
                              refine w_aload_n dX11_readLine_123 rfl ?_
                              refine w_getI ff_X11_73 rfl rfl dX11_readLine_124 ?_
                              rw [show (I1 30 0 0 15 : Int32) = 0 from t1.1]
                              refine w_if_le (tgt := 131) dX11_readLine_127 (by decide) (fun _ => ?_) (fun h => absurd (by decide) h)
                              refine w_aload_n dX11_readLine_131 rfl ?_
                              refine w_iload_n dX11_readLine_132 rfl ?_
                              refine w_callV (as := [vI (nI w)]) (st := []) (Tri.mono (d_lineS hk (ht.y fy) hou t1 hd hm1 (by omega) (by omega) (by omega)) (Nat.le_of_ble_eq_true rfl)) rfl rfl tg_X11_readLineOf lk_X11_133 in_X11_readLineOf se_X11_readLineOf rfl dX11_readLine_133 rfl (Nat.le_of_ble_eq_true rfl) (Nat.le_refl _) (Nat.le_refl _) ?_
                              rintro v M9 ⟨rfl, I2, rfl, t2, f2, m2⟩ -
                              exact l_rdEnd hk (ht.y (fy.tr f2)) (tk_ok (ch_ok (tk_ok (ch_ok (tk_ok (ch_ok hou)))))) t2 (fun I3 t3 f3 => ⟨rfl, _, rfl, t3, fy.tr (f2.tr f3.y), fun q z => m2.n f3⟩)
            · skip
              replace h3 : ¬ (((w : Nat) : Int) < 4) := fun q => h3 ((zlt (z_nI (by omega)) (by decide)).mpr q)
              first
              | (exfalso; omega)
              | skip
                refine w_aload_n dX11_readLine_46 rfl ?_
                refine w_getI ff_X11_51 rfl rfl dX11_readLine_47 ?_
                rw [show (I 30 0 0 7 : Int32) = nI (nC a) from m7]
                refine w_iconst (v := 5) dX11_readLine_50 (by decide) ?_
                refine w_icmp_ge (tgt := 69) dX11_readLine_51 (by decide) (fun h4 => ?_) (fun h4 => ?_)
                · skip
                  replace h4 : 5 ≤ ((nC a : Nat) : Int) := (zle (by decide) (z_nI (by omega))).mp h4
                  first
                  | (exfalso; omega)
                  | skip
                    refine w_iconst (v := 0) dX11_readLine_69 (by decide) ?_
                    refine w_iconst (v := 5) dX11_readLine_70 (by decide) ?_
                    refine w_callV (as := [vI (0), vI (5)]) (st := []) (Tri.mono (d_needL (I := I) h.1 h.2.2.1 (5)) (Nat.le_of_ble_eq_true rfl)) rfl rfl tg_X11_needs lk_X11_115 in_X11_needs se_X11_needs rfl dX11_readLine_71 rfl (Nat.le_of_ble_eq_true rfl) (Nat.le_refl _) (Nat.le_refl _) ?_
                    rintro _ _ ⟨rfl, rfl⟩ -
                    refine w_aload_n dX11_readLine_74 rfl ?_
                    refine w_iload_n dX11_readLine_75 rfl ?_
                    refine w_bipush (v := 8) dX11_readLine_76 (by decide) ?_
                    refine w_icmp_ne (tgt := 88) dX11_readLine_78 (by decide) (fun h5 => ?_) (fun h5 => ?_)
                    · skip
                      replace h5 : ¬ (((w : Nat) : Int) = 8) := fun q => h5 ((zeq (z_nI (by omega)) (by decide)).mpr q)
                      first
                      | (exfalso; omega)
                      | skip
                        refine w_iconst (v := 1) dX11_readLine_88 (by decide) ?_
                        refine w_goto (tgt := 93) dX11_readLine_89 (by decide) ?_
                        refine w_iconst (v := 4) dX11_readLine_93 (by decide) ?_
                        refine w_callV (as := [vI (1), vI (4)]) (st := []) (Tri.mono (d_need1 (I := xup (xup I 30 0 0 15 (5)) 30 0 0 16 (nI st)) (4)) (Nat.le_of_ble_eq_true rfl)) rfl rfl tg_X11_needs lk_X11_115 in_X11_needs se_X11_needs rfl dX11_readLine_94 rfl (Nat.le_of_ble_eq_true rfl) (Nat.le_refl _) (Nat.le_refl _) ?_
                        rintro _ _ ⟨rfl, rfl⟩ -
                        refine w_aload_n dX11_readLine_97 rfl ?_
                        refine w_aload_n dX11_readLine_98 rfl ?_
                        refine w_getI ff_X11_54 rfl rfl dX11_readLine_99 ?_
                        rw [show ((xup (xup I 30 0 0 15 (5)) 30 0 0 16 (nI st)) 30 0 0 8 : Int32) = 0 from ((xup_slot (by decide)).trans ((xup_slot (by decide)).trans m8))]
                        refine w_if_ne (tgt := 111) dX11_readLine_102 (by decide) (fun h => absurd (by decide) h) (fun _ => ?_)
                        refine w_iload_n dX11_readLine_105 rfl ?_
                        refine w_bipush (v := 8) dX11_readLine_106 (by decide) ?_
                        refine w_icmp_ne (tgt := 115) dX11_readLine_108 (by decide) (fun h6 => ?_) (fun h6 => ?_)
                        · skip
                          replace h6 : ¬ (((w : Nat) : Int) = 8) := fun q => h6 ((zeq (z_nI (by omega)) (by decide)).mpr q)
                          first
                          | (exfalso; omega)
                          | skip
                            refine w_iconst (v := 0) dX11_readLine_115 (by decide) ?_
                            refine w_putI ff_X11_54 rfl rfl rfl rfl dX11_readLine_116 ?_
                            have hu0 : (if nC a < 5 then (Sum.inr (so, (st, (nx, v))) : tS) else flT 5 (Sum.inr (so, (st, (nx, v))) : tS)) = (Sum.inl (5, st) : tS) := if_neg (by omega)
                            refine w_aload_n dX11_readLine_119 rfl ?_
                            refine w_callV (as := []) (st := []) (Tri.mono (d_take (I := xup (xup (xup I 30 0 0 15 (5)) 30 0 0 16 (nI st)) 30 0 0 8 (0)) hk (ht.y (((FrY.rf.up30 (by decide)).up30 (by decide)).up30 (by decide))) (s := (Sum.inl (5, st) : tS)) ⟨by show 1 ≤ 5; omega, by show 5 ≤ 5; omega, g5⟩ ⟨(xup_slot (by decide)).trans ((xup_slot (by decide)).trans xup_self), (xup_slot (by decide)).trans xup_self⟩) (Nat.le_of_ble_eq_true rfl)) rfl rfl tg_X11_takes lk_X11_119 in_X11_takes se_X11_takes rfl dX11_readLine_120 rfl (Nat.le_of_ble_eq_true rfl) (Nat.le_refl _) (Nat.le_refl _) ?_
                            rintro v M9 ⟨rfl, I1, rfl, t1, f1⟩ -
                            have fy : FrY I I1 := (((FrY.rf.up30 (by decide)).up30 (by decide)).up30 (by decide)).tr f1.y
                            have hm1 : DM I1 a false := (DM.t8 hm (I' := xup (xup (xup I 30 0 0 15 (5)) 30 0 0 16 (nI st)) 30 0 0 8 (0)) (fun x => (xup_tag (by decide)).trans ((xup_tag (by decide)).trans (xup_tag (by decide)))) (fun x hx => (xup_slot (by omega)).trans ((xup_slot (by omega)).trans (xup_slot (by omega)))) (xup_self.trans (by rfl))).n f1
                            have hou : OKT n (tkT n b (Sum.inl (5, st) : tS)) := tk_ok ⟨by show 1 ≤ 5; omega, by show 5 ≤ 5; omega, g5⟩
                            obtain ⟨u, hu⟩ : ∃ u, u = tkT n b (Sum.inl (5, st) : tS) := ⟨_, rfl⟩
                            rw [← hu] at t1 hou
                            have hu1 : tkT n b (if nC a < 5 then (Sum.inr (so, (st, (nx, v))) : tS) else flT 5 (Sum.inr (so, (st, (nx, v))) : tS)) = u := by rw [hu0, hu]
                            rw [show bodyT n b w (Sum.inr (so, (st, (nx, v))) : tS) a false = _ from (if_neg (by omega)).trans (if_pos (by omega))]
                            unfold pLz uS3 uS2 uS1
                            rw [hu1]
                            rcases u with ⟨c, p⟩ | ⟨so2, st2, nx2, v2⟩
                            · skip
                              have q1 := hou.1
                              have q2 := hou.2.1
                              replace q1 : 1 ≤ c := q1
                              replace q2 : c ≤ 5 := q2
                              refine w_aload_n dX11_readLine_123 rfl ?_
                              refine w_getI ff_X11_73 rfl rfl dX11_readLine_124 ?_
                              rw [show (I1 30 0 0 15 : Int32) = nI c from t1.1]
                              refine w_if_le (tgt := 131) dX11_readLine_127 (by decide) (fun h1 => ?_) (fun h1 => ?_)
                              · skip
                                replace h1 : ((c : Nat) : Int) ≤ 0 := (zle (z_nI (by omega)) (by decide)).mp h1
                                first
                                | (exfalso; omega)
                                | skip
                                  exfalso
                                  omega
                              · skip
                                replace h1 : ¬ (((c : Nat) : Int) ≤ 0) := fun q => h1 ((zle (z_nI (by omega)) (by decide)).mpr q)
                                first
                                | (exfalso; omega)
                                | skip
                                  exact w_return dX11_readLine_130 rfl rfl (⟨rfl, _, rfl, t1, fy, fun q z => by cases z⟩)
                            · skip
                              refine w_aload_n dX11_readLine_123 rfl ?_
                              refine w_getI ff_X11_73 rfl rfl dX11_readLine_124 ?_
                              rw [show (I1 30 0 0 15 : Int32) = 0 from t1.1]
                              refine w_if_le (tgt := 131) dX11_readLine_127 (by decide) (fun _ => ?_) (fun h => absurd (by decide) h)
                              refine w_aload_n dX11_readLine_131 rfl ?_
                              refine w_iload_n dX11_readLine_132 rfl ?_
                              cases hu
                        · skip
                          replace h6 : ((w : Nat) : Int) = 8 := (zeq (z_nI (by omega)) (by decide)).mp h6
                          first
                          | (exfalso; omega)
                          | skip
                            refine w_iconst (v := 1) dX11_readLine_111 (by decide) ?_
                            refine w_goto (tgt := 116) dX11_readLine_112 (by decide) ?_
                            refine w_putI ff_X11_54 rfl rfl rfl rfl dX11_readLine_116 ?_
                            have hu0 : (if nC a < 5 then (Sum.inr (so, (st, (nx, v))) : tS) else flT 5 (Sum.inr (so, (st, (nx, v))) : tS)) = (Sum.inl (5, st) : tS) := if_neg (by omega)
                            refine w_aload_n dX11_readLine_119 rfl ?_
                            refine w_callV (as := []) (st := []) (Tri.mono (d_take (I := xup (xup (xup I 30 0 0 15 (5)) 30 0 0 16 (nI st)) 30 0 0 8 (1)) hk (ht.y (((FrY.rf.up30 (by decide)).up30 (by decide)).up30 (by decide))) (s := (Sum.inl (5, st) : tS)) ⟨by show 1 ≤ 5; omega, by show 5 ≤ 5; omega, g5⟩ ⟨(xup_slot (by decide)).trans ((xup_slot (by decide)).trans xup_self), (xup_slot (by decide)).trans xup_self⟩) (Nat.le_of_ble_eq_true rfl)) rfl rfl tg_X11_takes lk_X11_119 in_X11_takes se_X11_takes rfl dX11_readLine_120 rfl (Nat.le_of_ble_eq_true rfl) (Nat.le_refl _) (Nat.le_refl _) ?_
                            rintro v M9 ⟨rfl, I1, rfl, t1, f1⟩ -
                            have fy : FrY I I1 := (((FrY.rf.up30 (by decide)).up30 (by decide)).up30 (by decide)).tr f1.y
                            have hm1 : DM I1 a false := (DM.t8 hm (I' := xup (xup (xup I 30 0 0 15 (5)) 30 0 0 16 (nI st)) 30 0 0 8 (1)) (fun x => (xup_tag (by decide)).trans ((xup_tag (by decide)).trans (xup_tag (by decide)))) (fun x hx => (xup_slot (by omega)).trans ((xup_slot (by omega)).trans (xup_slot (by omega)))) (xup_self.trans (by rfl))).n f1
                            have hou : OKT n (tkT n b (Sum.inl (5, st) : tS)) := tk_ok ⟨by show 1 ≤ 5; omega, by show 5 ≤ 5; omega, g5⟩
                            obtain ⟨u, hu⟩ : ∃ u, u = tkT n b (Sum.inl (5, st) : tS) := ⟨_, rfl⟩
                            rw [← hu] at t1 hou
                            have hu1 : tkT n b (if nC a < 5 then (Sum.inr (so, (st, (nx, v))) : tS) else flT 5 (Sum.inr (so, (st, (nx, v))) : tS)) = u := by rw [hu0, hu]
                            rw [show bodyT n b w (Sum.inr (so, (st, (nx, v))) : tS) a false = _ from (if_neg (by omega)).trans (if_pos (by omega))]
                            unfold pLz uS3 uS2 uS1
                            rw [hu1]
                            rcases u with ⟨c, p⟩ | ⟨so2, st2, nx2, v2⟩
                            · skip
                              have q1 := hou.1
                              have q2 := hou.2.1
                              replace q1 : 1 ≤ c := q1
                              replace q2 : c ≤ 5 := q2
                              refine w_aload_n dX11_readLine_123 rfl ?_
                              refine w_getI ff_X11_73 rfl rfl dX11_readLine_124 ?_
                              rw [show (I1 30 0 0 15 : Int32) = nI c from t1.1]
                              refine w_if_le (tgt := 131) dX11_readLine_127 (by decide) (fun h1 => ?_) (fun h1 => ?_)
                              · skip
                                replace h1 : ((c : Nat) : Int) ≤ 0 := (zle (z_nI (by omega)) (by decide)).mp h1
                                first
                                | (exfalso; omega)
                                | skip
                                  exfalso
                                  omega
                              · skip
                                replace h1 : ¬ (((c : Nat) : Int) ≤ 0) := fun q => h1 ((zle (z_nI (by omega)) (by decide)).mpr q)
                                first
                                | (exfalso; omega)
                                | skip
                                  exact w_return dX11_readLine_130 rfl rfl (⟨rfl, _, rfl, t1, fy, fun q z => by cases z⟩)
                            · skip
                              refine w_aload_n dX11_readLine_123 rfl ?_
                              refine w_getI ff_X11_73 rfl rfl dX11_readLine_124 ?_
                              rw [show (I1 30 0 0 15 : Int32) = 0 from t1.1]
                              refine w_if_le (tgt := 131) dX11_readLine_127 (by decide) (fun _ => ?_) (fun h => absurd (by decide) h)
                              refine w_aload_n dX11_readLine_131 rfl ?_
                              refine w_iload_n dX11_readLine_132 rfl ?_
                              cases hu
                    · skip
                      replace h5 : ((w : Nat) : Int) = 8 := (zeq (z_nI (by omega)) (by decide)).mp h5
                      first
                      | (exfalso; omega)
                      | skip
                        refine w_aload_n dX11_readLine_81 rfl ?_
                        refine w_getI ff_X11_54 rfl rfl dX11_readLine_82 ?_
                        rw [show ((xup (xup I 30 0 0 15 (5)) 30 0 0 16 (nI st)) 30 0 0 8 : Int32) = 0 from ((xup_slot (by decide)).trans ((xup_slot (by decide)).trans m8))]
                        refine w_if_ne (tgt := 92) dX11_readLine_85 (by decide) (fun h => absurd (by decide) h) (fun _ => ?_)
                        refine w_iconst (v := 1) dX11_readLine_88 (by decide) ?_
                        refine w_goto (tgt := 93) dX11_readLine_89 (by decide) ?_
                        refine w_iconst (v := 4) dX11_readLine_93 (by decide) ?_
                        refine w_callV (as := [vI (1), vI (4)]) (st := []) (Tri.mono (d_need1 (I := xup (xup I 30 0 0 15 (5)) 30 0 0 16 (nI st)) (4)) (Nat.le_of_ble_eq_true rfl)) rfl rfl tg_X11_needs lk_X11_115 in_X11_needs se_X11_needs rfl dX11_readLine_94 rfl (Nat.le_of_ble_eq_true rfl) (Nat.le_refl _) (Nat.le_refl _) ?_
                        rintro _ _ ⟨rfl, rfl⟩ -
                        refine w_aload_n dX11_readLine_97 rfl ?_
                        refine w_aload_n dX11_readLine_98 rfl ?_
                        refine w_getI ff_X11_54 rfl rfl dX11_readLine_99 ?_
                        rw [show ((xup (xup I 30 0 0 15 (5)) 30 0 0 16 (nI st)) 30 0 0 8 : Int32) = 0 from ((xup_slot (by decide)).trans ((xup_slot (by decide)).trans m8))]
                        refine w_if_ne (tgt := 111) dX11_readLine_102 (by decide) (fun h => absurd (by decide) h) (fun _ => ?_)
                        refine w_iload_n dX11_readLine_105 rfl ?_
                        refine w_bipush (v := 8) dX11_readLine_106 (by decide) ?_
                        refine w_icmp_ne (tgt := 115) dX11_readLine_108 (by decide) (fun h6 => ?_) (fun h6 => ?_)
                        · skip
                          replace h6 : ¬ (((w : Nat) : Int) = 8) := fun q => h6 ((zeq (z_nI (by omega)) (by decide)).mpr q)
                          first
                          | (exfalso; omega)
                          | skip
                            refine w_iconst (v := 0) dX11_readLine_115 (by decide) ?_
                            refine w_putI ff_X11_54 rfl rfl rfl rfl dX11_readLine_116 ?_
                            have hu0 : (if nC a < 5 then (Sum.inr (so, (st, (nx, v))) : tS) else flT 5 (Sum.inr (so, (st, (nx, v))) : tS)) = (Sum.inl (5, st) : tS) := if_neg (by omega)
                            refine w_aload_n dX11_readLine_119 rfl ?_
                            refine w_callV (as := []) (st := []) (Tri.mono (d_take (I := xup (xup (xup I 30 0 0 15 (5)) 30 0 0 16 (nI st)) 30 0 0 8 (0)) hk (ht.y (((FrY.rf.up30 (by decide)).up30 (by decide)).up30 (by decide))) (s := (Sum.inl (5, st) : tS)) ⟨by show 1 ≤ 5; omega, by show 5 ≤ 5; omega, g5⟩ ⟨(xup_slot (by decide)).trans ((xup_slot (by decide)).trans xup_self), (xup_slot (by decide)).trans xup_self⟩) (Nat.le_of_ble_eq_true rfl)) rfl rfl tg_X11_takes lk_X11_119 in_X11_takes se_X11_takes rfl dX11_readLine_120 rfl (Nat.le_of_ble_eq_true rfl) (Nat.le_refl _) (Nat.le_refl _) ?_
                            rintro v M9 ⟨rfl, I1, rfl, t1, f1⟩ -
                            have fy : FrY I I1 := (((FrY.rf.up30 (by decide)).up30 (by decide)).up30 (by decide)).tr f1.y
                            have hm1 : DM I1 a false := (DM.t8 hm (I' := xup (xup (xup I 30 0 0 15 (5)) 30 0 0 16 (nI st)) 30 0 0 8 (0)) (fun x => (xup_tag (by decide)).trans ((xup_tag (by decide)).trans (xup_tag (by decide)))) (fun x hx => (xup_slot (by omega)).trans ((xup_slot (by omega)).trans (xup_slot (by omega)))) (xup_self.trans (by rfl))).n f1
                            have hou : OKT n (tkT n b (Sum.inl (5, st) : tS)) := tk_ok ⟨by show 1 ≤ 5; omega, by show 5 ≤ 5; omega, g5⟩
                            obtain ⟨u, hu⟩ : ∃ u, u = tkT n b (Sum.inl (5, st) : tS) := ⟨_, rfl⟩
                            rw [← hu] at t1 hou
                            have hu1 : tkT n b (if nC a < 5 then (Sum.inr (so, (st, (nx, v))) : tS) else flT 5 (Sum.inr (so, (st, (nx, v))) : tS)) = u := by rw [hu0, hu]
                            rw [show bodyT n b w (Sum.inr (so, (st, (nx, v))) : tS) a false = _ from (if_neg (by omega)).trans (if_pos (by omega))]
                            unfold pLz uS3 uS2 uS1
                            rw [hu1]
                            rcases u with ⟨c, p⟩ | ⟨so2, st2, nx2, v2⟩
                            · skip
                              have q1 := hou.1
                              have q2 := hou.2.1
                              replace q1 : 1 ≤ c := q1
                              replace q2 : c ≤ 5 := q2
                              refine w_aload_n dX11_readLine_123 rfl ?_
                              refine w_getI ff_X11_73 rfl rfl dX11_readLine_124 ?_
                              rw [show (I1 30 0 0 15 : Int32) = nI c from t1.1]
                              refine w_if_le (tgt := 131) dX11_readLine_127 (by decide) (fun h1 => ?_) (fun h1 => ?_)
                              · skip
                                replace h1 : ((c : Nat) : Int) ≤ 0 := (zle (z_nI (by omega)) (by decide)).mp h1
                                first
                                | (exfalso; omega)
                                | skip
                                  exfalso
                                  omega
                              · skip
                                replace h1 : ¬ (((c : Nat) : Int) ≤ 0) := fun q => h1 ((zle (z_nI (by omega)) (by decide)).mpr q)
                                first
                                | (exfalso; omega)
                                | skip
                                  exact w_return dX11_readLine_130 rfl rfl (⟨rfl, _, rfl, t1, fy, fun q z => by cases z⟩)
                            · skip
                              refine w_aload_n dX11_readLine_123 rfl ?_
                              refine w_getI ff_X11_73 rfl rfl dX11_readLine_124 ?_
                              rw [show (I1 30 0 0 15 : Int32) = 0 from t1.1]
                              refine w_if_le (tgt := 131) dX11_readLine_127 (by decide) (fun _ => ?_) (fun h => absurd (by decide) h)
                              refine w_aload_n dX11_readLine_131 rfl ?_
                              refine w_iload_n dX11_readLine_132 rfl ?_
                              cases hu
                        · skip
                          replace h6 : ((w : Nat) : Int) = 8 := (zeq (z_nI (by omega)) (by decide)).mp h6
                          first
                          | (exfalso; omega)
                          | skip
                            refine w_iconst (v := 1) dX11_readLine_111 (by decide) ?_
                            refine w_goto (tgt := 116) dX11_readLine_112 (by decide) ?_
                            refine w_putI ff_X11_54 rfl rfl rfl rfl dX11_readLine_116 ?_
                            have hu0 : (if nC a < 5 then (Sum.inr (so, (st, (nx, v))) : tS) else flT 5 (Sum.inr (so, (st, (nx, v))) : tS)) = (Sum.inl (5, st) : tS) := if_neg (by omega)
                            refine w_aload_n dX11_readLine_119 rfl ?_
                            refine w_callV (as := []) (st := []) (Tri.mono (d_take (I := xup (xup (xup I 30 0 0 15 (5)) 30 0 0 16 (nI st)) 30 0 0 8 (1)) hk (ht.y (((FrY.rf.up30 (by decide)).up30 (by decide)).up30 (by decide))) (s := (Sum.inl (5, st) : tS)) ⟨by show 1 ≤ 5; omega, by show 5 ≤ 5; omega, g5⟩ ⟨(xup_slot (by decide)).trans ((xup_slot (by decide)).trans xup_self), (xup_slot (by decide)).trans xup_self⟩) (Nat.le_of_ble_eq_true rfl)) rfl rfl tg_X11_takes lk_X11_119 in_X11_takes se_X11_takes rfl dX11_readLine_120 rfl (Nat.le_of_ble_eq_true rfl) (Nat.le_refl _) (Nat.le_refl _) ?_
                            rintro v M9 ⟨rfl, I1, rfl, t1, f1⟩ -
                            have fy : FrY I I1 := (((FrY.rf.up30 (by decide)).up30 (by decide)).up30 (by decide)).tr f1.y
                            have hm1 : DM I1 a false := (DM.t8 hm (I' := xup (xup (xup I 30 0 0 15 (5)) 30 0 0 16 (nI st)) 30 0 0 8 (1)) (fun x => (xup_tag (by decide)).trans ((xup_tag (by decide)).trans (xup_tag (by decide)))) (fun x hx => (xup_slot (by omega)).trans ((xup_slot (by omega)).trans (xup_slot (by omega)))) (xup_self.trans (by rfl))).n f1
                            have hou : OKT n (tkT n b (Sum.inl (5, st) : tS)) := tk_ok ⟨by show 1 ≤ 5; omega, by show 5 ≤ 5; omega, g5⟩
                            obtain ⟨u, hu⟩ : ∃ u, u = tkT n b (Sum.inl (5, st) : tS) := ⟨_, rfl⟩
                            rw [← hu] at t1 hou
                            have hu1 : tkT n b (if nC a < 5 then (Sum.inr (so, (st, (nx, v))) : tS) else flT 5 (Sum.inr (so, (st, (nx, v))) : tS)) = u := by rw [hu0, hu]
                            rw [show bodyT n b w (Sum.inr (so, (st, (nx, v))) : tS) a false = _ from (if_neg (by omega)).trans (if_pos (by omega))]
                            unfold pLz uS3 uS2 uS1
                            rw [hu1]
                            rcases u with ⟨c, p⟩ | ⟨so2, st2, nx2, v2⟩
                            · skip
                              have q1 := hou.1
                              have q2 := hou.2.1
                              replace q1 : 1 ≤ c := q1
                              replace q2 : c ≤ 5 := q2
                              refine w_aload_n dX11_readLine_123 rfl ?_
                              refine w_getI ff_X11_73 rfl rfl dX11_readLine_124 ?_
                              rw [show (I1 30 0 0 15 : Int32) = nI c from t1.1]
                              refine w_if_le (tgt := 131) dX11_readLine_127 (by decide) (fun h1 => ?_) (fun h1 => ?_)
                              · skip
                                replace h1 : ((c : Nat) : Int) ≤ 0 := (zle (z_nI (by omega)) (by decide)).mp h1
                                first
                                | (exfalso; omega)
                                | skip
                                  exfalso
                                  omega
                              · skip
                                replace h1 : ¬ (((c : Nat) : Int) ≤ 0) := fun q => h1 ((zle (z_nI (by omega)) (by decide)).mpr q)
                                first
                                | (exfalso; omega)
                                | skip
                                  exact w_return dX11_readLine_130 rfl rfl (⟨rfl, _, rfl, t1, fy, fun q z => by cases z⟩)
                            · skip
                              refine w_aload_n dX11_readLine_123 rfl ?_
                              refine w_getI ff_X11_73 rfl rfl dX11_readLine_124 ?_
                              rw [show (I1 30 0 0 15 : Int32) = 0 from t1.1]
                              refine w_if_le (tgt := 131) dX11_readLine_127 (by decide) (fun _ => ?_) (fun h => absurd (by decide) h)
                              refine w_aload_n dX11_readLine_131 rfl ?_
                              refine w_iload_n dX11_readLine_132 rfl ?_
                              cases hu
                · skip
                  replace h4 : ¬ (5 ≤ ((nC a : Nat) : Int)) := fun q => h4 ((zle (by decide) (z_nI (by omega))).mpr q)
                  first
                  | (exfalso; omega)
                  | skip
                    refine w_goto (tgt := 65) dX11_readLine_54 (by decide) ?_
                    refine w_iconst (v := 1) dX11_readLine_65 (by decide) ?_
                    refine w_goto (tgt := 70) dX11_readLine_66 (by decide) ?_
                    refine w_iconst (v := 5) dX11_readLine_70 (by decide) ?_
                    refine w_callV (as := [vI (1), vI (5)]) (st := []) (Tri.mono (d_need1 (I := I) (5)) (Nat.le_of_ble_eq_true rfl)) rfl rfl tg_X11_needs lk_X11_115 in_X11_needs se_X11_needs rfl dX11_readLine_71 rfl (Nat.le_of_ble_eq_true rfl) (Nat.le_refl _) (Nat.le_refl _) ?_
                    rintro _ _ ⟨rfl, rfl⟩ -
                    refine w_aload_n dX11_readLine_74 rfl ?_
                    refine w_iload_n dX11_readLine_75 rfl ?_
                    refine w_bipush (v := 8) dX11_readLine_76 (by decide) ?_
                    refine w_icmp_ne (tgt := 88) dX11_readLine_78 (by decide) (fun h5 => ?_) (fun h5 => ?_)
                    · skip
                      replace h5 : ¬ (((w : Nat) : Int) = 8) := fun q => h5 ((zeq (z_nI (by omega)) (by decide)).mpr q)
                      first
                      | (exfalso; omega)
                      | skip
                        refine w_iconst (v := 1) dX11_readLine_88 (by decide) ?_
                        refine w_goto (tgt := 93) dX11_readLine_89 (by decide) ?_
                        refine w_iconst (v := 4) dX11_readLine_93 (by decide) ?_
                        refine w_callV (as := [vI (1), vI (4)]) (st := []) (Tri.mono (d_need1 (I := I) (4)) (Nat.le_of_ble_eq_true rfl)) rfl rfl tg_X11_needs lk_X11_115 in_X11_needs se_X11_needs rfl dX11_readLine_94 rfl (Nat.le_of_ble_eq_true rfl) (Nat.le_refl _) (Nat.le_refl _) ?_
                        rintro _ _ ⟨rfl, rfl⟩ -
                        refine w_aload_n dX11_readLine_97 rfl ?_
                        refine w_aload_n dX11_readLine_98 rfl ?_
                        refine w_getI ff_X11_54 rfl rfl dX11_readLine_99 ?_
                        rw [show (I 30 0 0 8 : Int32) = 0 from m8]
                        refine w_if_ne (tgt := 111) dX11_readLine_102 (by decide) (fun h => absurd (by decide) h) (fun _ => ?_)
                        refine w_iload_n dX11_readLine_105 rfl ?_
                        refine w_bipush (v := 8) dX11_readLine_106 (by decide) ?_
                        refine w_icmp_ne (tgt := 115) dX11_readLine_108 (by decide) (fun h6 => ?_) (fun h6 => ?_)
                        · skip
                          replace h6 : ¬ (((w : Nat) : Int) = 8) := fun q => h6 ((zeq (z_nI (by omega)) (by decide)).mpr q)
                          first
                          | (exfalso; omega)
                          | skip
                            refine w_iconst (v := 0) dX11_readLine_115 (by decide) ?_
                            refine w_putI ff_X11_54 rfl rfl rfl rfl dX11_readLine_116 ?_
                            have hu0 : (if nC a < 5 then (Sum.inr (so, (st, (nx, v))) : tS) else flT 5 (Sum.inr (so, (st, (nx, v))) : tS)) = (Sum.inr (so, (st, (nx, v))) : tS) := if_pos (by omega)
                            refine w_aload_n dX11_readLine_119 rfl ?_
                            refine w_callV (as := []) (st := []) (Tri.mono (d_take (I := xup I 30 0 0 8 (0)) hk (ht.y (FrY.rf.up30 (by decide))) (s := (Sum.inr (so, (st, (nx, v))) : tS)) hok (h.eqv (fun x hx => xup_slot (by omega)))) (Nat.le_of_ble_eq_true rfl)) rfl rfl tg_X11_takes lk_X11_119 in_X11_takes se_X11_takes rfl dX11_readLine_120 rfl (Nat.le_of_ble_eq_true rfl) (Nat.le_refl _) (Nat.le_refl _) ?_
                            rintro v M9 ⟨rfl, I1, rfl, t1, f1⟩ -
                            have fy : FrY I I1 := (FrY.rf.up30 (by decide)).tr f1.y
                            have hm1 : DM I1 a false := (DM.t8 hm (I' := xup I 30 0 0 8 (0)) (fun x => xup_tag (by decide)) (fun x hx => xup_slot (by omega)) (xup_self.trans (by rfl))).n f1
                            have hou : OKT n (tkT n b (Sum.inr (so, (st, (nx, v))) : tS)) := tk_ok hok
                            obtain ⟨u, hu⟩ : ∃ u, u = tkT n b (Sum.inr (so, (st, (nx, v))) : tS) := ⟨_, rfl⟩
                            rw [← hu] at t1 hou
                            have hu1 : tkT n b (if nC a < 5 then (Sum.inr (so, (st, (nx, v))) : tS) else flT 5 (Sum.inr (so, (st, (nx, v))) : tS)) = u := by rw [hu0, hu]
                            rw [show bodyT n b w (Sum.inr (so, (st, (nx, v))) : tS) a false = _ from (if_neg (by omega)).trans (if_pos (by omega))]
                            unfold pLz uS3 uS2 uS1
                            rw [hu1]
                            rcases u with ⟨c, p⟩ | ⟨so2, st2, nx2, v2⟩
                            · skip
                              have q1 := hou.1
                              have q2 := hou.2.1
                              replace q1 : 1 ≤ c := q1
                              replace q2 : c ≤ 5 := q2
                              refine w_aload_n dX11_readLine_123 rfl ?_
                              refine w_getI ff_X11_73 rfl rfl dX11_readLine_124 ?_
                              rw [show (I1 30 0 0 15 : Int32) = nI c from t1.1]
                              refine w_if_le (tgt := 131) dX11_readLine_127 (by decide) (fun h1 => ?_) (fun h1 => ?_)
                              · skip
                                replace h1 : ((c : Nat) : Int) ≤ 0 := (zle (z_nI (by omega)) (by decide)).mp h1
                                first
                                | (exfalso; omega)
                                | skip
                                  exfalso
                                  omega
                              · skip
                                replace h1 : ¬ (((c : Nat) : Int) ≤ 0) := fun q => h1 ((zle (z_nI (by omega)) (by decide)).mpr q)
                                first
                                | (exfalso; omega)
                                | skip
                                  exact w_return dX11_readLine_130 rfl rfl (⟨rfl, _, rfl, t1, fy, fun q z => by cases z⟩)
                            · skip
                              refine w_aload_n dX11_readLine_123 rfl ?_
                              refine w_getI ff_X11_73 rfl rfl dX11_readLine_124 ?_
                              rw [show (I1 30 0 0 15 : Int32) = 0 from t1.1]
                              refine w_if_le (tgt := 131) dX11_readLine_127 (by decide) (fun _ => ?_) (fun h => absurd (by decide) h)
                              refine w_aload_n dX11_readLine_131 rfl ?_
                              refine w_iload_n dX11_readLine_132 rfl ?_
                              refine w_callV (as := [vI (nI w)]) (st := []) (Tri.mono (d_lineS hk (ht.y fy) hou t1 hd hm1 (by omega) (by omega) (by omega)) (Nat.le_of_ble_eq_true rfl)) rfl rfl tg_X11_readLineOf lk_X11_133 in_X11_readLineOf se_X11_readLineOf rfl dX11_readLine_133 rfl (Nat.le_of_ble_eq_true rfl) (Nat.le_refl _) (Nat.le_refl _) ?_
                              rintro v M9 ⟨rfl, I2, rfl, t2, f2, m2⟩ -
                              exact l_rdEnd hk (ht.y (fy.tr f2)) (tk_ok (ch_ok (tk_ok (ch_ok (tk_ok (ch_ok hou)))))) t2 (fun I3 t3 f3 => ⟨rfl, _, rfl, t3, fy.tr (f2.tr f3.y), fun q z => m2.n f3⟩)
                        · skip
                          replace h6 : ((w : Nat) : Int) = 8 := (zeq (z_nI (by omega)) (by decide)).mp h6
                          first
                          | (exfalso; omega)
                          | skip
                            refine w_iconst (v := 1) dX11_readLine_111 (by decide) ?_
                            refine w_goto (tgt := 116) dX11_readLine_112 (by decide) ?_
                            refine w_putI ff_X11_54 rfl rfl rfl rfl dX11_readLine_116 ?_
                            have hu0 : (if nC a < 5 then (Sum.inr (so, (st, (nx, v))) : tS) else flT 5 (Sum.inr (so, (st, (nx, v))) : tS)) = (Sum.inr (so, (st, (nx, v))) : tS) := if_pos (by omega)
                            refine w_aload_n dX11_readLine_119 rfl ?_
                            refine w_callV (as := []) (st := []) (Tri.mono (d_take (I := xup I 30 0 0 8 (1)) hk (ht.y (FrY.rf.up30 (by decide))) (s := (Sum.inr (so, (st, (nx, v))) : tS)) hok (h.eqv (fun x hx => xup_slot (by omega)))) (Nat.le_of_ble_eq_true rfl)) rfl rfl tg_X11_takes lk_X11_119 in_X11_takes se_X11_takes rfl dX11_readLine_120 rfl (Nat.le_of_ble_eq_true rfl) (Nat.le_refl _) (Nat.le_refl _) ?_
                            rintro v M9 ⟨rfl, I1, rfl, t1, f1⟩ -
                            have fy : FrY I I1 := (FrY.rf.up30 (by decide)).tr f1.y
                            have hm1 : DM I1 a false := (DM.t8 hm (I' := xup I 30 0 0 8 (1)) (fun x => xup_tag (by decide)) (fun x hx => xup_slot (by omega)) (xup_self.trans (by rfl))).n f1
                            have hou : OKT n (tkT n b (Sum.inr (so, (st, (nx, v))) : tS)) := tk_ok hok
                            obtain ⟨u, hu⟩ : ∃ u, u = tkT n b (Sum.inr (so, (st, (nx, v))) : tS) := ⟨_, rfl⟩
                            rw [← hu] at t1 hou
                            have hu1 : tkT n b (if nC a < 5 then (Sum.inr (so, (st, (nx, v))) : tS) else flT 5 (Sum.inr (so, (st, (nx, v))) : tS)) = u := by rw [hu0, hu]
                            rw [show bodyT n b w (Sum.inr (so, (st, (nx, v))) : tS) a false = _ from (if_neg (by omega)).trans (if_pos (by omega))]
                            unfold pLz uS3 uS2 uS1
                            rw [hu1]
                            rcases u with ⟨c, p⟩ | ⟨so2, st2, nx2, v2⟩
                            · skip
                              have q1 := hou.1
                              have q2 := hou.2.1
                              replace q1 : 1 ≤ c := q1
                              replace q2 : c ≤ 5 := q2
                              refine w_aload_n dX11_readLine_123 rfl ?_
                              refine w_getI ff_X11_73 rfl rfl dX11_readLine_124 ?_
                              rw [show (I1 30 0 0 15 : Int32) = nI c from t1.1]
                              refine w_if_le (tgt := 131) dX11_readLine_127 (by decide) (fun h1 => ?_) (fun h1 => ?_)
                              · skip
                                replace h1 : ((c : Nat) : Int) ≤ 0 := (zle (z_nI (by omega)) (by decide)).mp h1
                                first
                                | (exfalso; omega)
                                | skip
                                  exfalso
                                  omega
                              · skip
                                replace h1 : ¬ (((c : Nat) : Int) ≤ 0) := fun q => h1 ((zle (z_nI (by omega)) (by decide)).mpr q)
                                first
                                | (exfalso; omega)
                                | skip
                                  exact w_return dX11_readLine_130 rfl rfl (⟨rfl, _, rfl, t1, fy, fun q z => by cases z⟩)
                            · skip
                              refine w_aload_n dX11_readLine_123 rfl ?_
                              refine w_getI ff_X11_73 rfl rfl dX11_readLine_124 ?_
                              rw [show (I1 30 0 0 15 : Int32) = 0 from t1.1]
                              refine w_if_le (tgt := 131) dX11_readLine_127 (by decide) (fun _ => ?_) (fun h => absurd (by decide) h)
                              refine w_aload_n dX11_readLine_131 rfl ?_
                              refine w_iload_n dX11_readLine_132 rfl ?_
                              refine w_callV (as := [vI (nI w)]) (st := []) (Tri.mono (d_lineS hk (ht.y fy) hou t1 hd hm1 (by omega) (by omega) (by omega)) (Nat.le_of_ble_eq_true rfl)) rfl rfl tg_X11_readLineOf lk_X11_133 in_X11_readLineOf se_X11_readLineOf rfl dX11_readLine_133 rfl (Nat.le_of_ble_eq_true rfl) (Nat.le_refl _) (Nat.le_refl _) ?_
                              rintro v M9 ⟨rfl, I2, rfl, t2, f2, m2⟩ -
                              exact l_rdEnd hk (ht.y (fy.tr f2)) (tk_ok (ch_ok (tk_ok (ch_ok (tk_ok (ch_ok hou)))))) t2 (fun I3 t3 f3 => ⟨rfl, _, rfl, t3, fy.tr (f2.tr f3.y), fun q z => m2.n f3⟩)
                    · skip
                      replace h5 : ((w : Nat) : Int) = 8 := (zeq (z_nI (by omega)) (by decide)).mp h5
                      first
                      | (exfalso; omega)
                      | skip
                        refine w_aload_n dX11_readLine_81 rfl ?_
                        refine w_getI ff_X11_54 rfl rfl dX11_readLine_82 ?_
                        rw [show (I 30 0 0 8 : Int32) = 0 from m8]
                        refine w_if_ne (tgt := 92) dX11_readLine_85 (by decide) (fun h => absurd (by decide) h) (fun _ => ?_)
                        refine w_iconst (v := 1) dX11_readLine_88 (by decide) ?_
                        refine w_goto (tgt := 93) dX11_readLine_89 (by decide) ?_
                        refine w_iconst (v := 4) dX11_readLine_93 (by decide) ?_
                        refine w_callV (as := [vI (1), vI (4)]) (st := []) (Tri.mono (d_need1 (I := I) (4)) (Nat.le_of_ble_eq_true rfl)) rfl rfl tg_X11_needs lk_X11_115 in_X11_needs se_X11_needs rfl dX11_readLine_94 rfl (Nat.le_of_ble_eq_true rfl) (Nat.le_refl _) (Nat.le_refl _) ?_
                        rintro _ _ ⟨rfl, rfl⟩ -
                        refine w_aload_n dX11_readLine_97 rfl ?_
                        refine w_aload_n dX11_readLine_98 rfl ?_
                        refine w_getI ff_X11_54 rfl rfl dX11_readLine_99 ?_
                        rw [show (I 30 0 0 8 : Int32) = 0 from m8]
                        refine w_if_ne (tgt := 111) dX11_readLine_102 (by decide) (fun h => absurd (by decide) h) (fun _ => ?_)
                        refine w_iload_n dX11_readLine_105 rfl ?_
                        refine w_bipush (v := 8) dX11_readLine_106 (by decide) ?_
                        refine w_icmp_ne (tgt := 115) dX11_readLine_108 (by decide) (fun h6 => ?_) (fun h6 => ?_)
                        · skip
                          replace h6 : ¬ (((w : Nat) : Int) = 8) := fun q => h6 ((zeq (z_nI (by omega)) (by decide)).mpr q)
                          first
                          | (exfalso; omega)
                          | skip
                            refine w_iconst (v := 0) dX11_readLine_115 (by decide) ?_
                            refine w_putI ff_X11_54 rfl rfl rfl rfl dX11_readLine_116 ?_
                            have hu0 : (if nC a < 5 then (Sum.inr (so, (st, (nx, v))) : tS) else flT 5 (Sum.inr (so, (st, (nx, v))) : tS)) = (Sum.inr (so, (st, (nx, v))) : tS) := if_pos (by omega)
                            refine w_aload_n dX11_readLine_119 rfl ?_
                            refine w_callV (as := []) (st := []) (Tri.mono (d_take (I := xup I 30 0 0 8 (0)) hk (ht.y (FrY.rf.up30 (by decide))) (s := (Sum.inr (so, (st, (nx, v))) : tS)) hok (h.eqv (fun x hx => xup_slot (by omega)))) (Nat.le_of_ble_eq_true rfl)) rfl rfl tg_X11_takes lk_X11_119 in_X11_takes se_X11_takes rfl dX11_readLine_120 rfl (Nat.le_of_ble_eq_true rfl) (Nat.le_refl _) (Nat.le_refl _) ?_
                            rintro v M9 ⟨rfl, I1, rfl, t1, f1⟩ -
                            have fy : FrY I I1 := (FrY.rf.up30 (by decide)).tr f1.y
                            have hm1 : DM I1 a false := (DM.t8 hm (I' := xup I 30 0 0 8 (0)) (fun x => xup_tag (by decide)) (fun x hx => xup_slot (by omega)) (xup_self.trans (by rfl))).n f1
                            have hou : OKT n (tkT n b (Sum.inr (so, (st, (nx, v))) : tS)) := tk_ok hok
                            obtain ⟨u, hu⟩ : ∃ u, u = tkT n b (Sum.inr (so, (st, (nx, v))) : tS) := ⟨_, rfl⟩
                            rw [← hu] at t1 hou
                            have hu1 : tkT n b (if nC a < 5 then (Sum.inr (so, (st, (nx, v))) : tS) else flT 5 (Sum.inr (so, (st, (nx, v))) : tS)) = u := by rw [hu0, hu]
                            rw [show bodyT n b w (Sum.inr (so, (st, (nx, v))) : tS) a false = _ from (if_neg (by omega)).trans (if_pos (by omega))]
                            unfold pLz uS3 uS2 uS1
                            rw [hu1]
                            rcases u with ⟨c, p⟩ | ⟨so2, st2, nx2, v2⟩
                            · skip
                              have q1 := hou.1
                              have q2 := hou.2.1
                              replace q1 : 1 ≤ c := q1
                              replace q2 : c ≤ 5 := q2
                              refine w_aload_n dX11_readLine_123 rfl ?_
                              refine w_getI ff_X11_73 rfl rfl dX11_readLine_124 ?_
                              rw [show (I1 30 0 0 15 : Int32) = nI c from t1.1]
                              refine w_if_le (tgt := 131) dX11_readLine_127 (by decide) (fun h1 => ?_) (fun h1 => ?_)
                              · skip
                                replace h1 : ((c : Nat) : Int) ≤ 0 := (zle (z_nI (by omega)) (by decide)).mp h1
                                first
                                | (exfalso; omega)
                                | skip
                                  exfalso
                                  omega
                              · skip
                                replace h1 : ¬ (((c : Nat) : Int) ≤ 0) := fun q => h1 ((zle (z_nI (by omega)) (by decide)).mpr q)
                                first
                                | (exfalso; omega)
                                | skip
                                  exact w_return dX11_readLine_130 rfl rfl (⟨rfl, _, rfl, t1, fy, fun q z => by cases z⟩)
                            · skip
                              refine w_aload_n dX11_readLine_123 rfl ?_
                              refine w_getI ff_X11_73 rfl rfl dX11_readLine_124 ?_
                              rw [show (I1 30 0 0 15 : Int32) = 0 from t1.1]
                              refine w_if_le (tgt := 131) dX11_readLine_127 (by decide) (fun _ => ?_) (fun h => absurd (by decide) h)
                              refine w_aload_n dX11_readLine_131 rfl ?_
                              refine w_iload_n dX11_readLine_132 rfl ?_
                              refine w_callV (as := [vI (nI w)]) (st := []) (Tri.mono (d_lineS hk (ht.y fy) hou t1 hd hm1 (by omega) (by omega) (by omega)) (Nat.le_of_ble_eq_true rfl)) rfl rfl tg_X11_readLineOf lk_X11_133 in_X11_readLineOf se_X11_readLineOf rfl dX11_readLine_133 rfl (Nat.le_of_ble_eq_true rfl) (Nat.le_refl _) (Nat.le_refl _) ?_
                              rintro v M9 ⟨rfl, I2, rfl, t2, f2, m2⟩ -
                              exact l_rdEnd hk (ht.y (fy.tr f2)) (tk_ok (ch_ok (tk_ok (ch_ok (tk_ok (ch_ok hou)))))) t2 (fun I3 t3 f3 => ⟨rfl, _, rfl, t3, fy.tr (f2.tr f3.y), fun q z => m2.n f3⟩)
                        · skip
                          replace h6 : ((w : Nat) : Int) = 8 := (zeq (z_nI (by omega)) (by decide)).mp h6
                          first
                          | (exfalso; omega)
                          | skip
                            refine w_iconst (v := 1) dX11_readLine_111 (by decide) ?_
                            refine w_goto (tgt := 116) dX11_readLine_112 (by decide) ?_
                            refine w_putI ff_X11_54 rfl rfl rfl rfl dX11_readLine_116 ?_
                            have hu0 : (if nC a < 5 then (Sum.inr (so, (st, (nx, v))) : tS) else flT 5 (Sum.inr (so, (st, (nx, v))) : tS)) = (Sum.inr (so, (st, (nx, v))) : tS) := if_pos (by omega)
                            refine w_aload_n dX11_readLine_119 rfl ?_
                            refine w_callV (as := []) (st := []) (Tri.mono (d_take (I := xup I 30 0 0 8 (1)) hk (ht.y (FrY.rf.up30 (by decide))) (s := (Sum.inr (so, (st, (nx, v))) : tS)) hok (h.eqv (fun x hx => xup_slot (by omega)))) (Nat.le_of_ble_eq_true rfl)) rfl rfl tg_X11_takes lk_X11_119 in_X11_takes se_X11_takes rfl dX11_readLine_120 rfl (Nat.le_of_ble_eq_true rfl) (Nat.le_refl _) (Nat.le_refl _) ?_
                            rintro v M9 ⟨rfl, I1, rfl, t1, f1⟩ -
                            have fy : FrY I I1 := (FrY.rf.up30 (by decide)).tr f1.y
                            have hm1 : DM I1 a false := (DM.t8 hm (I' := xup I 30 0 0 8 (1)) (fun x => xup_tag (by decide)) (fun x hx => xup_slot (by omega)) (xup_self.trans (by rfl))).n f1
                            have hou : OKT n (tkT n b (Sum.inr (so, (st, (nx, v))) : tS)) := tk_ok hok
                            obtain ⟨u, hu⟩ : ∃ u, u = tkT n b (Sum.inr (so, (st, (nx, v))) : tS) := ⟨_, rfl⟩
                            rw [← hu] at t1 hou
                            have hu1 : tkT n b (if nC a < 5 then (Sum.inr (so, (st, (nx, v))) : tS) else flT 5 (Sum.inr (so, (st, (nx, v))) : tS)) = u := by rw [hu0, hu]
                            rw [show bodyT n b w (Sum.inr (so, (st, (nx, v))) : tS) a false = _ from (if_neg (by omega)).trans (if_pos (by omega))]
                            unfold pLz uS3 uS2 uS1
                            rw [hu1]
                            rcases u with ⟨c, p⟩ | ⟨so2, st2, nx2, v2⟩
                            · skip
                              have q1 := hou.1
                              have q2 := hou.2.1
                              replace q1 : 1 ≤ c := q1
                              replace q2 : c ≤ 5 := q2
                              refine w_aload_n dX11_readLine_123 rfl ?_
                              refine w_getI ff_X11_73 rfl rfl dX11_readLine_124 ?_
                              rw [show (I1 30 0 0 15 : Int32) = nI c from t1.1]
                              refine w_if_le (tgt := 131) dX11_readLine_127 (by decide) (fun h1 => ?_) (fun h1 => ?_)
                              · skip
                                replace h1 : ((c : Nat) : Int) ≤ 0 := (zle (z_nI (by omega)) (by decide)).mp h1
                                first
                                | (exfalso; omega)
                                | skip
                                  exfalso
                                  omega
                              · skip
                                replace h1 : ¬ (((c : Nat) : Int) ≤ 0) := fun q => h1 ((zle (z_nI (by omega)) (by decide)).mpr q)
                                first
                                | (exfalso; omega)
                                | skip
                                  exact w_return dX11_readLine_130 rfl rfl (⟨rfl, _, rfl, t1, fy, fun q z => by cases z⟩)
                            · skip
                              refine w_aload_n dX11_readLine_123 rfl ?_
                              refine w_getI ff_X11_73 rfl rfl dX11_readLine_124 ?_
                              rw [show (I1 30 0 0 15 : Int32) = 0 from t1.1]
                              refine w_if_le (tgt := 131) dX11_readLine_127 (by decide) (fun _ => ?_) (fun h => absurd (by decide) h)
                              refine w_aload_n dX11_readLine_131 rfl ?_
                              refine w_iload_n dX11_readLine_132 rfl ?_
                              refine w_callV (as := [vI (nI w)]) (st := []) (Tri.mono (d_lineS hk (ht.y fy) hou t1 hd hm1 (by omega) (by omega) (by omega)) (Nat.le_of_ble_eq_true rfl)) rfl rfl tg_X11_readLineOf lk_X11_133 in_X11_readLineOf se_X11_readLineOf rfl dX11_readLine_133 rfl (Nat.le_of_ble_eq_true rfl) (Nat.le_refl _) (Nat.le_refl _) ?_
                              rintro v M9 ⟨rfl, I2, rfl, t2, f2, m2⟩ -
                              exact l_rdEnd hk (ht.y (fy.tr f2)) (tk_ok (ch_ok (tk_ok (ch_ok (tk_ok (ch_ok hou)))))) t2 (fun I3 t3 f3 => ⟨rfl, _, rfl, t3, fy.tr (f2.tr f3.y), fun q z => m2.n f3⟩)
  · skip
    refine w_aload_n dX11_readLine_18 rfl ?_
    refine w_iload_n dX11_readLine_19 rfl ?_
    refine w_bipush (v := (-4)) dX11_readLine_20 (by decide) ?_
    refine w_icmp_eq (tgt := 29) dX11_readLine_22 (by decide) (fun h1 => ?_) (fun h1 => ?_)
    · skip
      replace h1 : ((w : Nat) : Int) = (-4) := (zeq (z_nI (by omega)) (by decide)).mp h1
      first
      | (exfalso; omega)
      | skip
        refine w_iconst (v := 0) dX11_readLine_29 (by decide) ?_
        refine w_iconst (v := 2) dX11_readLine_30 (by decide) ?_
        refine w_callV (as := [vI (0), vI (2)]) (st := []) (Tri.mono (d_needL (I := I) h.1 h.2.2.1 (2)) (Nat.le_of_ble_eq_true rfl)) rfl rfl tg_X11_needs lk_X11_115 in_X11_needs se_X11_needs rfl dX11_readLine_31 rfl (Nat.le_of_ble_eq_true rfl) (Nat.le_refl _) (Nat.le_refl _) ?_
        rintro _ _ ⟨rfl, rfl⟩ -
        refine w_aload_n dX11_readLine_34 rfl ?_
        refine w_iload_n dX11_readLine_35 rfl ?_
        refine w_bipush (v := 8) dX11_readLine_36 (by decide) ?_
        refine w_icmp_eq (tgt := 65) dX11_readLine_38 (by decide) (fun h2 => ?_) (fun h2 => ?_)
        · skip
          replace h2 : ((w : Nat) : Int) = 8 := (zeq (z_nI (by omega)) (by decide)).mp h2
          first
          | (exfalso; omega)
          | skip
            refine w_iconst (v := 1) dX11_readLine_65 (by decide) ?_
            refine w_goto (tgt := 70) dX11_readLine_66 (by decide) ?_
            refine w_iconst (v := 5) dX11_readLine_70 (by decide) ?_
            refine w_callV (as := [vI (1), vI (5)]) (st := []) (Tri.mono (d_need1 (I := xup (xup I 30 0 0 15 (2)) 30 0 0 16 (nI st)) (5)) (Nat.le_of_ble_eq_true rfl)) rfl rfl tg_X11_needs lk_X11_115 in_X11_needs se_X11_needs rfl dX11_readLine_71 rfl (Nat.le_of_ble_eq_true rfl) (Nat.le_refl _) (Nat.le_refl _) ?_
            rintro _ _ ⟨rfl, rfl⟩ -
            refine w_aload_n dX11_readLine_74 rfl ?_
            refine w_iload_n dX11_readLine_75 rfl ?_
            refine w_bipush (v := 8) dX11_readLine_76 (by decide) ?_
            refine w_icmp_ne (tgt := 88) dX11_readLine_78 (by decide) (fun h3 => ?_) (fun h3 => ?_)
            · skip
              replace h3 : ¬ (((w : Nat) : Int) = 8) := fun q => h3 ((zeq (z_nI (by omega)) (by decide)).mpr q)
              first
              | (exfalso; omega)
              | skip
                refine w_iconst (v := 1) dX11_readLine_88 (by decide) ?_
                refine w_goto (tgt := 93) dX11_readLine_89 (by decide) ?_
                refine w_iconst (v := 4) dX11_readLine_93 (by decide) ?_
                refine w_callV (as := [vI (1), vI (4)]) (st := []) (Tri.mono (d_need1 (I := xup (xup I 30 0 0 15 (2)) 30 0 0 16 (nI st)) (4)) (Nat.le_of_ble_eq_true rfl)) rfl rfl tg_X11_needs lk_X11_115 in_X11_needs se_X11_needs rfl dX11_readLine_94 rfl (Nat.le_of_ble_eq_true rfl) (Nat.le_refl _) (Nat.le_refl _) ?_
                rintro _ _ ⟨rfl, rfl⟩ -
                refine w_aload_n dX11_readLine_97 rfl ?_
                refine w_aload_n dX11_readLine_98 rfl ?_
                refine w_getI ff_X11_54 rfl rfl dX11_readLine_99 ?_
                rw [show ((xup (xup I 30 0 0 15 (2)) 30 0 0 16 (nI st)) 30 0 0 8 : Int32) = 1 from ((xup_slot (by decide)).trans ((xup_slot (by decide)).trans m8))]
                refine w_if_ne (tgt := 111) dX11_readLine_102 (by decide) (fun _ => ?_) (fun h => absurd h (by decide))
                refine w_iconst (v := 1) dX11_readLine_111 (by decide) ?_
                refine w_goto (tgt := 116) dX11_readLine_112 (by decide) ?_
                refine w_putI ff_X11_54 rfl rfl rfl rfl dX11_readLine_116 ?_
                have hu0 : (if nC a < 5 then (Sum.inr (so, (st, (nx, v))) : tS) else flT 5 (Sum.inr (so, (st, (nx, v))) : tS)) = (Sum.inl (2, st) : tS) := if_neg (by omega)
                refine w_aload_n dX11_readLine_119 rfl ?_
                refine w_callV (as := []) (st := []) (Tri.mono (d_take (I := xup (xup (xup I 30 0 0 15 (2)) 30 0 0 16 (nI st)) 30 0 0 8 (1)) hk (ht.y (((FrY.rf.up30 (by decide)).up30 (by decide)).up30 (by decide))) (s := (Sum.inl (2, st) : tS)) ⟨by show 1 ≤ 2; omega, by show 2 ≤ 5; omega, g5⟩ ⟨(xup_slot (by decide)).trans ((xup_slot (by decide)).trans xup_self), (xup_slot (by decide)).trans xup_self⟩) (Nat.le_of_ble_eq_true rfl)) rfl rfl tg_X11_takes lk_X11_119 in_X11_takes se_X11_takes rfl dX11_readLine_120 rfl (Nat.le_of_ble_eq_true rfl) (Nat.le_refl _) (Nat.le_refl _) ?_
                rintro v M9 ⟨rfl, I1, rfl, t1, f1⟩ -
                have fy : FrY I I1 := (((FrY.rf.up30 (by decide)).up30 (by decide)).up30 (by decide)).tr f1.y
                have hm1 : DM I1 a true := (DM.t8 hm (I' := xup (xup (xup I 30 0 0 15 (2)) 30 0 0 16 (nI st)) 30 0 0 8 (1)) (fun x => (xup_tag (by decide)).trans ((xup_tag (by decide)).trans (xup_tag (by decide)))) (fun x hx => (xup_slot (by omega)).trans ((xup_slot (by omega)).trans (xup_slot (by omega)))) (xup_self.trans (by rfl))).n f1
                have hou : OKT n (tkT n b (Sum.inl (2, st) : tS)) := tk_ok ⟨by show 1 ≤ 2; omega, by show 2 ≤ 5; omega, g5⟩
                obtain ⟨u, hu⟩ : ∃ u, u = tkT n b (Sum.inl (2, st) : tS) := ⟨_, rfl⟩
                rw [← hu] at t1 hou
                have hu1 : tkT n b (if nC a < 5 then (Sum.inr (so, (st, (nx, v))) : tS) else flT 5 (Sum.inr (so, (st, (nx, v))) : tS)) = u := by rw [hu0, hu]
                rw [show bodyT n b w (Sum.inr (so, (st, (nx, v))) : tS) a true = _ from (if_neg (by omega)).trans (if_pos (by omega))]
                unfold pLz uS3 uS2 uS1
                rw [hu1]
                rcases u with ⟨c, p⟩ | ⟨so2, st2, nx2, v2⟩
                · skip
                  have q1 := hou.1
                  have q2 := hou.2.1
                  replace q1 : 1 ≤ c := q1
                  replace q2 : c ≤ 5 := q2
                  refine w_aload_n dX11_readLine_123 rfl ?_
                  refine w_getI ff_X11_73 rfl rfl dX11_readLine_124 ?_
                  rw [show (I1 30 0 0 15 : Int32) = nI c from t1.1]
                  refine w_if_le (tgt := 131) dX11_readLine_127 (by decide) (fun h1 => ?_) (fun h1 => ?_)
                  · skip
                    replace h1 : ((c : Nat) : Int) ≤ 0 := (zle (z_nI (by omega)) (by decide)).mp h1
                    first
                    | (exfalso; omega)
                    | skip
                      exfalso
                      omega
                  · skip
                    replace h1 : ¬ (((c : Nat) : Int) ≤ 0) := fun q => h1 ((zle (z_nI (by omega)) (by decide)).mpr q)
                    first
                    | (exfalso; omega)
                    | skip
                      exact w_return dX11_readLine_130 rfl rfl (⟨rfl, _, rfl, t1, fy, fun q z => by cases z⟩)
                · skip
                  refine w_aload_n dX11_readLine_123 rfl ?_
                  refine w_getI ff_X11_73 rfl rfl dX11_readLine_124 ?_
                  rw [show (I1 30 0 0 15 : Int32) = 0 from t1.1]
                  refine w_if_le (tgt := 131) dX11_readLine_127 (by decide) (fun _ => ?_) (fun h => absurd (by decide) h)
                  refine w_aload_n dX11_readLine_131 rfl ?_
                  refine w_iload_n dX11_readLine_132 rfl ?_
                  cases hu
            · skip
              replace h3 : ((w : Nat) : Int) = 8 := (zeq (z_nI (by omega)) (by decide)).mp h3
              first
              | (exfalso; omega)
              | skip
                refine w_aload_n dX11_readLine_81 rfl ?_
                refine w_getI ff_X11_54 rfl rfl dX11_readLine_82 ?_
                rw [show ((xup (xup I 30 0 0 15 (2)) 30 0 0 16 (nI st)) 30 0 0 8 : Int32) = 1 from ((xup_slot (by decide)).trans ((xup_slot (by decide)).trans m8))]
                refine w_if_ne (tgt := 92) dX11_readLine_85 (by decide) (fun _ => ?_) (fun h => absurd h (by decide))
                refine w_iconst (v := 0) dX11_readLine_92 (by decide) ?_
                refine w_iconst (v := 4) dX11_readLine_93 (by decide) ?_
                refine w_callV (as := [vI (0), vI (4)]) (st := []) (Tri.mono (d_needD (I := xup (xup I 30 0 0 15 (2)) 30 0 0 16 (nI st)) (e := 2) ⟨by decide, by decide⟩ (((xup_slot (by decide)).trans xup_self).trans (by rfl)) (4)) (Nat.le_of_ble_eq_true rfl)) rfl rfl tg_X11_needs lk_X11_115 in_X11_needs se_X11_needs rfl dX11_readLine_94 rfl (Nat.le_of_ble_eq_true rfl) (Nat.le_refl _) (Nat.le_refl _) ?_
                rintro _ _ ⟨rfl, rfl⟩ -
                refine w_aload_n dX11_readLine_97 rfl ?_
                refine w_aload_n dX11_readLine_98 rfl ?_
                refine w_getI ff_X11_54 rfl rfl dX11_readLine_99 ?_
                rw [show ((xup (xup I 30 0 0 15 (2)) 30 0 0 16 (nI st)) 30 0 0 8 : Int32) = 1 from ((xup_slot (by decide)).trans ((xup_slot (by decide)).trans m8))]
                refine w_if_ne (tgt := 111) dX11_readLine_102 (by decide) (fun _ => ?_) (fun h => absurd h (by decide))
                refine w_iconst (v := 1) dX11_readLine_111 (by decide) ?_
                refine w_goto (tgt := 116) dX11_readLine_112 (by decide) ?_
                refine w_putI ff_X11_54 rfl rfl rfl rfl dX11_readLine_116 ?_
                have hu0 : (if nC a < 5 then (Sum.inr (so, (st, (nx, v))) : tS) else flT 5 (Sum.inr (so, (st, (nx, v))) : tS)) = (Sum.inl (2, st) : tS) := if_neg (by omega)
                refine w_aload_n dX11_readLine_119 rfl ?_
                refine w_callV (as := []) (st := []) (Tri.mono (d_take (I := xup (xup (xup I 30 0 0 15 (2)) 30 0 0 16 (nI st)) 30 0 0 8 (1)) hk (ht.y (((FrY.rf.up30 (by decide)).up30 (by decide)).up30 (by decide))) (s := (Sum.inl (2, st) : tS)) ⟨by show 1 ≤ 2; omega, by show 2 ≤ 5; omega, g5⟩ ⟨(xup_slot (by decide)).trans ((xup_slot (by decide)).trans xup_self), (xup_slot (by decide)).trans xup_self⟩) (Nat.le_of_ble_eq_true rfl)) rfl rfl tg_X11_takes lk_X11_119 in_X11_takes se_X11_takes rfl dX11_readLine_120 rfl (Nat.le_of_ble_eq_true rfl) (Nat.le_refl _) (Nat.le_refl _) ?_
                rintro v M9 ⟨rfl, I1, rfl, t1, f1⟩ -
                have fy : FrY I I1 := (((FrY.rf.up30 (by decide)).up30 (by decide)).up30 (by decide)).tr f1.y
                have hm1 : DM I1 a true := (DM.t8 hm (I' := xup (xup (xup I 30 0 0 15 (2)) 30 0 0 16 (nI st)) 30 0 0 8 (1)) (fun x => (xup_tag (by decide)).trans ((xup_tag (by decide)).trans (xup_tag (by decide)))) (fun x hx => (xup_slot (by omega)).trans ((xup_slot (by omega)).trans (xup_slot (by omega)))) (xup_self.trans (by rfl))).n f1
                have hou : OKT n (tkT n b (Sum.inl (2, st) : tS)) := tk_ok ⟨by show 1 ≤ 2; omega, by show 2 ≤ 5; omega, g5⟩
                obtain ⟨u, hu⟩ : ∃ u, u = tkT n b (Sum.inl (2, st) : tS) := ⟨_, rfl⟩
                rw [← hu] at t1 hou
                have hu1 : tkT n b (if nC a < 5 then (Sum.inr (so, (st, (nx, v))) : tS) else flT 5 (Sum.inr (so, (st, (nx, v))) : tS)) = u := by rw [hu0, hu]
                rw [show bodyT n b w (Sum.inr (so, (st, (nx, v))) : tS) a true = _ from (if_neg (by omega)).trans (if_pos (by omega))]
                unfold pLz uS3 uS2 uS1
                rw [hu1]
                rcases u with ⟨c, p⟩ | ⟨so2, st2, nx2, v2⟩
                · skip
                  have q1 := hou.1
                  have q2 := hou.2.1
                  replace q1 : 1 ≤ c := q1
                  replace q2 : c ≤ 5 := q2
                  refine w_aload_n dX11_readLine_123 rfl ?_
                  refine w_getI ff_X11_73 rfl rfl dX11_readLine_124 ?_
                  rw [show (I1 30 0 0 15 : Int32) = nI c from t1.1]
                  refine w_if_le (tgt := 131) dX11_readLine_127 (by decide) (fun h1 => ?_) (fun h1 => ?_)
                  · skip
                    replace h1 : ((c : Nat) : Int) ≤ 0 := (zle (z_nI (by omega)) (by decide)).mp h1
                    first
                    | (exfalso; omega)
                    | skip
                      exfalso
                      omega
                  · skip
                    replace h1 : ¬ (((c : Nat) : Int) ≤ 0) := fun q => h1 ((zle (z_nI (by omega)) (by decide)).mpr q)
                    first
                    | (exfalso; omega)
                    | skip
                      exact w_return dX11_readLine_130 rfl rfl (⟨rfl, _, rfl, t1, fy, fun q z => by cases z⟩)
                · skip
                  refine w_aload_n dX11_readLine_123 rfl ?_
                  refine w_getI ff_X11_73 rfl rfl dX11_readLine_124 ?_
                  rw [show (I1 30 0 0 15 : Int32) = 0 from t1.1]
                  refine w_if_le (tgt := 131) dX11_readLine_127 (by decide) (fun _ => ?_) (fun h => absurd (by decide) h)
                  refine w_aload_n dX11_readLine_131 rfl ?_
                  refine w_iload_n dX11_readLine_132 rfl ?_
                  cases hu
        · skip
          replace h2 : ¬ (((w : Nat) : Int) = 8) := fun q => h2 ((zeq (z_nI (by omega)) (by decide)).mpr q)
          first
          | (exfalso; omega)
          | skip
            refine w_iload_n dX11_readLine_41 rfl ?_
            refine w_iconst (v := 4) dX11_readLine_42 (by decide) ?_
            refine w_icmp_lt (tgt := 57) dX11_readLine_43 (by decide) (fun h3 => ?_) (fun h3 => ?_)
            · skip
              replace h3 : ((w : Nat) : Int) < 4 := (zlt (z_nI (by omega)) (by decide)).mp h3
              first
              | (exfalso; omega)
              | skip
                refine w_aload_n dX11_readLine_57 rfl ?_
                refine w_getI ff_X11_47 rfl rfl dX11_readLine_58 ?_
                rw [show ((xup (xup I 30 0 0 15 (2)) 30 0 0 16 (nI st)) 30 0 0 6 : Int32) = nI (nJ a) from ((xup_slot (by decide)).trans ((xup_slot (by decide)).trans m6))]
                refine w_iconst (v := 4) dX11_readLine_61 (by decide) ?_
                refine w_icmp_ge (tgt := 69) dX11_readLine_62 (by decide) (fun h4 => ?_) (fun h4 => ?_)
                · skip
                  replace h4 : 4 ≤ ((nJ a : Nat) : Int) := (zle (by decide) (z_nI (by omega))).mp h4
                  first
                  | (exfalso; omega)
                  | skip
                    refine w_iconst (v := 0) dX11_readLine_69 (by decide) ?_
                    refine w_iconst (v := 5) dX11_readLine_70 (by decide) ?_
                    refine w_callV (as := [vI (0), vI (5)]) (st := []) (Tri.mono (d_needD (I := xup (xup I 30 0 0 15 (2)) 30 0 0 16 (nI st)) (e := 2) ⟨by decide, by decide⟩ (((xup_slot (by decide)).trans xup_self).trans (by rfl)) (5)) (Nat.le_of_ble_eq_true rfl)) rfl rfl tg_X11_needs lk_X11_115 in_X11_needs se_X11_needs rfl dX11_readLine_71 rfl (Nat.le_of_ble_eq_true rfl) (Nat.le_refl _) (Nat.le_refl _) ?_
                    rintro _ _ ⟨rfl, rfl⟩ -
                    refine w_aload_n dX11_readLine_74 rfl ?_
                    refine w_iload_n dX11_readLine_75 rfl ?_
                    refine w_bipush (v := 8) dX11_readLine_76 (by decide) ?_
                    refine w_icmp_ne (tgt := 88) dX11_readLine_78 (by decide) (fun h5 => ?_) (fun h5 => ?_)
                    · skip
                      replace h5 : ¬ (((w : Nat) : Int) = 8) := fun q => h5 ((zeq (z_nI (by omega)) (by decide)).mpr q)
                      first
                      | (exfalso; omega)
                      | skip
                        refine w_iconst (v := 1) dX11_readLine_88 (by decide) ?_
                        refine w_goto (tgt := 93) dX11_readLine_89 (by decide) ?_
                        refine w_iconst (v := 4) dX11_readLine_93 (by decide) ?_
                        refine w_callV (as := [vI (1), vI (4)]) (st := []) (Tri.mono (d_need1 (I := xup (xup I 30 0 0 15 (2)) 30 0 0 16 (nI st)) (4)) (Nat.le_of_ble_eq_true rfl)) rfl rfl tg_X11_needs lk_X11_115 in_X11_needs se_X11_needs rfl dX11_readLine_94 rfl (Nat.le_of_ble_eq_true rfl) (Nat.le_refl _) (Nat.le_refl _) ?_
                        rintro _ _ ⟨rfl, rfl⟩ -
                        refine w_aload_n dX11_readLine_97 rfl ?_
                        refine w_aload_n dX11_readLine_98 rfl ?_
                        refine w_getI ff_X11_54 rfl rfl dX11_readLine_99 ?_
                        rw [show ((xup (xup I 30 0 0 15 (2)) 30 0 0 16 (nI st)) 30 0 0 8 : Int32) = 1 from ((xup_slot (by decide)).trans ((xup_slot (by decide)).trans m8))]
                        refine w_if_ne (tgt := 111) dX11_readLine_102 (by decide) (fun _ => ?_) (fun h => absurd h (by decide))
                        refine w_iconst (v := 1) dX11_readLine_111 (by decide) ?_
                        refine w_goto (tgt := 116) dX11_readLine_112 (by decide) ?_
                        refine w_putI ff_X11_54 rfl rfl rfl rfl dX11_readLine_116 ?_
                        have hu0 : (if nC a < 5 then (Sum.inr (so, (st, (nx, v))) : tS) else flT 5 (Sum.inr (so, (st, (nx, v))) : tS)) = (Sum.inl (2, st) : tS) := if_neg (by omega)
                        refine w_aload_n dX11_readLine_119 rfl ?_
                        refine w_callV (as := []) (st := []) (Tri.mono (d_take (I := xup (xup (xup I 30 0 0 15 (2)) 30 0 0 16 (nI st)) 30 0 0 8 (1)) hk (ht.y (((FrY.rf.up30 (by decide)).up30 (by decide)).up30 (by decide))) (s := (Sum.inl (2, st) : tS)) ⟨by show 1 ≤ 2; omega, by show 2 ≤ 5; omega, g5⟩ ⟨(xup_slot (by decide)).trans ((xup_slot (by decide)).trans xup_self), (xup_slot (by decide)).trans xup_self⟩) (Nat.le_of_ble_eq_true rfl)) rfl rfl tg_X11_takes lk_X11_119 in_X11_takes se_X11_takes rfl dX11_readLine_120 rfl (Nat.le_of_ble_eq_true rfl) (Nat.le_refl _) (Nat.le_refl _) ?_
                        rintro v M9 ⟨rfl, I1, rfl, t1, f1⟩ -
                        have fy : FrY I I1 := (((FrY.rf.up30 (by decide)).up30 (by decide)).up30 (by decide)).tr f1.y
                        have hm1 : DM I1 a true := (DM.t8 hm (I' := xup (xup (xup I 30 0 0 15 (2)) 30 0 0 16 (nI st)) 30 0 0 8 (1)) (fun x => (xup_tag (by decide)).trans ((xup_tag (by decide)).trans (xup_tag (by decide)))) (fun x hx => (xup_slot (by omega)).trans ((xup_slot (by omega)).trans (xup_slot (by omega)))) (xup_self.trans (by rfl))).n f1
                        have hou : OKT n (tkT n b (Sum.inl (2, st) : tS)) := tk_ok ⟨by show 1 ≤ 2; omega, by show 2 ≤ 5; omega, g5⟩
                        obtain ⟨u, hu⟩ : ∃ u, u = tkT n b (Sum.inl (2, st) : tS) := ⟨_, rfl⟩
                        rw [← hu] at t1 hou
                        have hu1 : tkT n b (if nC a < 5 then (Sum.inr (so, (st, (nx, v))) : tS) else flT 5 (Sum.inr (so, (st, (nx, v))) : tS)) = u := by rw [hu0, hu]
                        rw [show bodyT n b w (Sum.inr (so, (st, (nx, v))) : tS) a true = _ from (if_neg (by omega)).trans (if_pos (by omega))]
                        unfold pLz uS3 uS2 uS1
                        rw [hu1]
                        rcases u with ⟨c, p⟩ | ⟨so2, st2, nx2, v2⟩
                        · skip
                          have q1 := hou.1
                          have q2 := hou.2.1
                          replace q1 : 1 ≤ c := q1
                          replace q2 : c ≤ 5 := q2
                          refine w_aload_n dX11_readLine_123 rfl ?_
                          refine w_getI ff_X11_73 rfl rfl dX11_readLine_124 ?_
                          rw [show (I1 30 0 0 15 : Int32) = nI c from t1.1]
                          refine w_if_le (tgt := 131) dX11_readLine_127 (by decide) (fun h1 => ?_) (fun h1 => ?_)
                          · skip
                            replace h1 : ((c : Nat) : Int) ≤ 0 := (zle (z_nI (by omega)) (by decide)).mp h1
                            first
                            | (exfalso; omega)
                            | skip
                              exfalso
                              omega
                          · skip
                            replace h1 : ¬ (((c : Nat) : Int) ≤ 0) := fun q => h1 ((zle (z_nI (by omega)) (by decide)).mpr q)
                            first
                            | (exfalso; omega)
                            | skip
                              exact w_return dX11_readLine_130 rfl rfl (⟨rfl, _, rfl, t1, fy, fun q z => by cases z⟩)
                        · skip
                          refine w_aload_n dX11_readLine_123 rfl ?_
                          refine w_getI ff_X11_73 rfl rfl dX11_readLine_124 ?_
                          rw [show (I1 30 0 0 15 : Int32) = 0 from t1.1]
                          refine w_if_le (tgt := 131) dX11_readLine_127 (by decide) (fun _ => ?_) (fun h => absurd (by decide) h)
                          refine w_aload_n dX11_readLine_131 rfl ?_
                          refine w_iload_n dX11_readLine_132 rfl ?_
                          cases hu
                    · skip
                      replace h5 : ((w : Nat) : Int) = 8 := (zeq (z_nI (by omega)) (by decide)).mp h5
                      first
                      | (exfalso; omega)
                      | skip
                        refine w_aload_n dX11_readLine_81 rfl ?_
                        refine w_getI ff_X11_54 rfl rfl dX11_readLine_82 ?_
                        rw [show ((xup (xup I 30 0 0 15 (2)) 30 0 0 16 (nI st)) 30 0 0 8 : Int32) = 1 from ((xup_slot (by decide)).trans ((xup_slot (by decide)).trans m8))]
                        refine w_if_ne (tgt := 92) dX11_readLine_85 (by decide) (fun _ => ?_) (fun h => absurd h (by decide))
                        refine w_iconst (v := 0) dX11_readLine_92 (by decide) ?_
                        refine w_iconst (v := 4) dX11_readLine_93 (by decide) ?_
                        refine w_callV (as := [vI (0), vI (4)]) (st := []) (Tri.mono (d_needD (I := xup (xup I 30 0 0 15 (2)) 30 0 0 16 (nI st)) (e := 2) ⟨by decide, by decide⟩ (((xup_slot (by decide)).trans xup_self).trans (by rfl)) (4)) (Nat.le_of_ble_eq_true rfl)) rfl rfl tg_X11_needs lk_X11_115 in_X11_needs se_X11_needs rfl dX11_readLine_94 rfl (Nat.le_of_ble_eq_true rfl) (Nat.le_refl _) (Nat.le_refl _) ?_
                        rintro _ _ ⟨rfl, rfl⟩ -
                        refine w_aload_n dX11_readLine_97 rfl ?_
                        refine w_aload_n dX11_readLine_98 rfl ?_
                        refine w_getI ff_X11_54 rfl rfl dX11_readLine_99 ?_
                        rw [show ((xup (xup I 30 0 0 15 (2)) 30 0 0 16 (nI st)) 30 0 0 8 : Int32) = 1 from ((xup_slot (by decide)).trans ((xup_slot (by decide)).trans m8))]
                        refine w_if_ne (tgt := 111) dX11_readLine_102 (by decide) (fun _ => ?_) (fun h => absurd h (by decide))
                        refine w_iconst (v := 1) dX11_readLine_111 (by decide) ?_
                        refine w_goto (tgt := 116) dX11_readLine_112 (by decide) ?_
                        refine w_putI ff_X11_54 rfl rfl rfl rfl dX11_readLine_116 ?_
                        have hu0 : (if nC a < 5 then (Sum.inr (so, (st, (nx, v))) : tS) else flT 5 (Sum.inr (so, (st, (nx, v))) : tS)) = (Sum.inl (2, st) : tS) := if_neg (by omega)
                        refine w_aload_n dX11_readLine_119 rfl ?_
                        refine w_callV (as := []) (st := []) (Tri.mono (d_take (I := xup (xup (xup I 30 0 0 15 (2)) 30 0 0 16 (nI st)) 30 0 0 8 (1)) hk (ht.y (((FrY.rf.up30 (by decide)).up30 (by decide)).up30 (by decide))) (s := (Sum.inl (2, st) : tS)) ⟨by show 1 ≤ 2; omega, by show 2 ≤ 5; omega, g5⟩ ⟨(xup_slot (by decide)).trans ((xup_slot (by decide)).trans xup_self), (xup_slot (by decide)).trans xup_self⟩) (Nat.le_of_ble_eq_true rfl)) rfl rfl tg_X11_takes lk_X11_119 in_X11_takes se_X11_takes rfl dX11_readLine_120 rfl (Nat.le_of_ble_eq_true rfl) (Nat.le_refl _) (Nat.le_refl _) ?_
                        rintro v M9 ⟨rfl, I1, rfl, t1, f1⟩ -
                        have fy : FrY I I1 := (((FrY.rf.up30 (by decide)).up30 (by decide)).up30 (by decide)).tr f1.y
                        have hm1 : DM I1 a true := (DM.t8 hm (I' := xup (xup (xup I 30 0 0 15 (2)) 30 0 0 16 (nI st)) 30 0 0 8 (1)) (fun x => (xup_tag (by decide)).trans ((xup_tag (by decide)).trans (xup_tag (by decide)))) (fun x hx => (xup_slot (by omega)).trans ((xup_slot (by omega)).trans (xup_slot (by omega)))) (xup_self.trans (by rfl))).n f1
                        have hou : OKT n (tkT n b (Sum.inl (2, st) : tS)) := tk_ok ⟨by show 1 ≤ 2; omega, by show 2 ≤ 5; omega, g5⟩
                        obtain ⟨u, hu⟩ : ∃ u, u = tkT n b (Sum.inl (2, st) : tS) := ⟨_, rfl⟩
                        rw [← hu] at t1 hou
                        have hu1 : tkT n b (if nC a < 5 then (Sum.inr (so, (st, (nx, v))) : tS) else flT 5 (Sum.inr (so, (st, (nx, v))) : tS)) = u := by rw [hu0, hu]
                        rw [show bodyT n b w (Sum.inr (so, (st, (nx, v))) : tS) a true = _ from (if_neg (by omega)).trans (if_pos (by omega))]
                        unfold pLz uS3 uS2 uS1
                        rw [hu1]
                        rcases u with ⟨c, p⟩ | ⟨so2, st2, nx2, v2⟩
                        · skip
                          have q1 := hou.1
                          have q2 := hou.2.1
                          replace q1 : 1 ≤ c := q1
                          replace q2 : c ≤ 5 := q2
                          refine w_aload_n dX11_readLine_123 rfl ?_
                          refine w_getI ff_X11_73 rfl rfl dX11_readLine_124 ?_
                          rw [show (I1 30 0 0 15 : Int32) = nI c from t1.1]
                          refine w_if_le (tgt := 131) dX11_readLine_127 (by decide) (fun h1 => ?_) (fun h1 => ?_)
                          · skip
                            replace h1 : ((c : Nat) : Int) ≤ 0 := (zle (z_nI (by omega)) (by decide)).mp h1
                            first
                            | (exfalso; omega)
                            | skip
                              exfalso
                              omega
                          · skip
                            replace h1 : ¬ (((c : Nat) : Int) ≤ 0) := fun q => h1 ((zle (z_nI (by omega)) (by decide)).mpr q)
                            first
                            | (exfalso; omega)
                            | skip
                              exact w_return dX11_readLine_130 rfl rfl (⟨rfl, _, rfl, t1, fy, fun q z => by cases z⟩)
                        · skip
                          refine w_aload_n dX11_readLine_123 rfl ?_
                          refine w_getI ff_X11_73 rfl rfl dX11_readLine_124 ?_
                          rw [show (I1 30 0 0 15 : Int32) = 0 from t1.1]
                          refine w_if_le (tgt := 131) dX11_readLine_127 (by decide) (fun _ => ?_) (fun h => absurd (by decide) h)
                          refine w_aload_n dX11_readLine_131 rfl ?_
                          refine w_iload_n dX11_readLine_132 rfl ?_
                          cases hu
                · skip
                  replace h4 : ¬ (4 ≤ ((nJ a : Nat) : Int)) := fun q => h4 ((zle (by decide) (z_nI (by omega))).mpr q)
                  first
                  | (exfalso; omega)
                  | skip
                    refine w_iconst (v := 1) dX11_readLine_65 (by decide) ?_
                    refine w_goto (tgt := 70) dX11_readLine_66 (by decide) ?_
                    refine w_iconst (v := 5) dX11_readLine_70 (by decide) ?_
                    refine w_callV (as := [vI (1), vI (5)]) (st := []) (Tri.mono (d_need1 (I := xup (xup I 30 0 0 15 (2)) 30 0 0 16 (nI st)) (5)) (Nat.le_of_ble_eq_true rfl)) rfl rfl tg_X11_needs lk_X11_115 in_X11_needs se_X11_needs rfl dX11_readLine_71 rfl (Nat.le_of_ble_eq_true rfl) (Nat.le_refl _) (Nat.le_refl _) ?_
                    rintro _ _ ⟨rfl, rfl⟩ -
                    refine w_aload_n dX11_readLine_74 rfl ?_
                    refine w_iload_n dX11_readLine_75 rfl ?_
                    refine w_bipush (v := 8) dX11_readLine_76 (by decide) ?_
                    refine w_icmp_ne (tgt := 88) dX11_readLine_78 (by decide) (fun h5 => ?_) (fun h5 => ?_)
                    · skip
                      replace h5 : ¬ (((w : Nat) : Int) = 8) := fun q => h5 ((zeq (z_nI (by omega)) (by decide)).mpr q)
                      first
                      | (exfalso; omega)
                      | skip
                        refine w_iconst (v := 1) dX11_readLine_88 (by decide) ?_
                        refine w_goto (tgt := 93) dX11_readLine_89 (by decide) ?_
                        refine w_iconst (v := 4) dX11_readLine_93 (by decide) ?_
                        refine w_callV (as := [vI (1), vI (4)]) (st := []) (Tri.mono (d_need1 (I := xup (xup I 30 0 0 15 (2)) 30 0 0 16 (nI st)) (4)) (Nat.le_of_ble_eq_true rfl)) rfl rfl tg_X11_needs lk_X11_115 in_X11_needs se_X11_needs rfl dX11_readLine_94 rfl (Nat.le_of_ble_eq_true rfl) (Nat.le_refl _) (Nat.le_refl _) ?_
                        rintro _ _ ⟨rfl, rfl⟩ -
                        refine w_aload_n dX11_readLine_97 rfl ?_
                        refine w_aload_n dX11_readLine_98 rfl ?_
                        refine w_getI ff_X11_54 rfl rfl dX11_readLine_99 ?_
                        rw [show ((xup (xup I 30 0 0 15 (2)) 30 0 0 16 (nI st)) 30 0 0 8 : Int32) = 1 from ((xup_slot (by decide)).trans ((xup_slot (by decide)).trans m8))]
                        refine w_if_ne (tgt := 111) dX11_readLine_102 (by decide) (fun _ => ?_) (fun h => absurd h (by decide))
                        refine w_iconst (v := 1) dX11_readLine_111 (by decide) ?_
                        refine w_goto (tgt := 116) dX11_readLine_112 (by decide) ?_
                        refine w_putI ff_X11_54 rfl rfl rfl rfl dX11_readLine_116 ?_
                        have hu0 : (if nC a < 5 then (Sum.inr (so, (st, (nx, v))) : tS) else flT 5 (Sum.inr (so, (st, (nx, v))) : tS)) = (Sum.inl (2, st) : tS) := if_neg (by omega)
                        refine w_aload_n dX11_readLine_119 rfl ?_
                        refine w_callV (as := []) (st := []) (Tri.mono (d_take (I := xup (xup (xup I 30 0 0 15 (2)) 30 0 0 16 (nI st)) 30 0 0 8 (1)) hk (ht.y (((FrY.rf.up30 (by decide)).up30 (by decide)).up30 (by decide))) (s := (Sum.inl (2, st) : tS)) ⟨by show 1 ≤ 2; omega, by show 2 ≤ 5; omega, g5⟩ ⟨(xup_slot (by decide)).trans ((xup_slot (by decide)).trans xup_self), (xup_slot (by decide)).trans xup_self⟩) (Nat.le_of_ble_eq_true rfl)) rfl rfl tg_X11_takes lk_X11_119 in_X11_takes se_X11_takes rfl dX11_readLine_120 rfl (Nat.le_of_ble_eq_true rfl) (Nat.le_refl _) (Nat.le_refl _) ?_
                        rintro v M9 ⟨rfl, I1, rfl, t1, f1⟩ -
                        have fy : FrY I I1 := (((FrY.rf.up30 (by decide)).up30 (by decide)).up30 (by decide)).tr f1.y
                        have hm1 : DM I1 a true := (DM.t8 hm (I' := xup (xup (xup I 30 0 0 15 (2)) 30 0 0 16 (nI st)) 30 0 0 8 (1)) (fun x => (xup_tag (by decide)).trans ((xup_tag (by decide)).trans (xup_tag (by decide)))) (fun x hx => (xup_slot (by omega)).trans ((xup_slot (by omega)).trans (xup_slot (by omega)))) (xup_self.trans (by rfl))).n f1
                        have hou : OKT n (tkT n b (Sum.inl (2, st) : tS)) := tk_ok ⟨by show 1 ≤ 2; omega, by show 2 ≤ 5; omega, g5⟩
                        obtain ⟨u, hu⟩ : ∃ u, u = tkT n b (Sum.inl (2, st) : tS) := ⟨_, rfl⟩
                        rw [← hu] at t1 hou
                        have hu1 : tkT n b (if nC a < 5 then (Sum.inr (so, (st, (nx, v))) : tS) else flT 5 (Sum.inr (so, (st, (nx, v))) : tS)) = u := by rw [hu0, hu]
                        rw [show bodyT n b w (Sum.inr (so, (st, (nx, v))) : tS) a true = _ from (if_neg (by omega)).trans (if_pos (by omega))]
                        unfold pLz uS3 uS2 uS1
                        rw [hu1]
                        rcases u with ⟨c, p⟩ | ⟨so2, st2, nx2, v2⟩
                        · skip
                          have q1 := hou.1
                          have q2 := hou.2.1
                          replace q1 : 1 ≤ c := q1
                          replace q2 : c ≤ 5 := q2
                          refine w_aload_n dX11_readLine_123 rfl ?_
                          refine w_getI ff_X11_73 rfl rfl dX11_readLine_124 ?_
                          rw [show (I1 30 0 0 15 : Int32) = nI c from t1.1]
                          refine w_if_le (tgt := 131) dX11_readLine_127 (by decide) (fun h1 => ?_) (fun h1 => ?_)
                          · skip
                            replace h1 : ((c : Nat) : Int) ≤ 0 := (zle (z_nI (by omega)) (by decide)).mp h1
                            first
                            | (exfalso; omega)
                            | skip
                              exfalso
                              omega
                          · skip
                            replace h1 : ¬ (((c : Nat) : Int) ≤ 0) := fun q => h1 ((zle (z_nI (by omega)) (by decide)).mpr q)
                            first
                            | (exfalso; omega)
                            | skip
                              exact w_return dX11_readLine_130 rfl rfl (⟨rfl, _, rfl, t1, fy, fun q z => by cases z⟩)
                        · skip
                          refine w_aload_n dX11_readLine_123 rfl ?_
                          refine w_getI ff_X11_73 rfl rfl dX11_readLine_124 ?_
                          rw [show (I1 30 0 0 15 : Int32) = 0 from t1.1]
                          refine w_if_le (tgt := 131) dX11_readLine_127 (by decide) (fun _ => ?_) (fun h => absurd (by decide) h)
                          refine w_aload_n dX11_readLine_131 rfl ?_
                          refine w_iload_n dX11_readLine_132 rfl ?_
                          cases hu
                    · skip
                      replace h5 : ((w : Nat) : Int) = 8 := (zeq (z_nI (by omega)) (by decide)).mp h5
                      first
                      | (exfalso; omega)
                      | skip
                        refine w_aload_n dX11_readLine_81 rfl ?_
                        refine w_getI ff_X11_54 rfl rfl dX11_readLine_82 ?_
                        rw [show ((xup (xup I 30 0 0 15 (2)) 30 0 0 16 (nI st)) 30 0 0 8 : Int32) = 1 from ((xup_slot (by decide)).trans ((xup_slot (by decide)).trans m8))]
                        refine w_if_ne (tgt := 92) dX11_readLine_85 (by decide) (fun _ => ?_) (fun h => absurd h (by decide))
                        refine w_iconst (v := 0) dX11_readLine_92 (by decide) ?_
                        refine w_iconst (v := 4) dX11_readLine_93 (by decide) ?_
                        refine w_callV (as := [vI (0), vI (4)]) (st := []) (Tri.mono (d_needD (I := xup (xup I 30 0 0 15 (2)) 30 0 0 16 (nI st)) (e := 2) ⟨by decide, by decide⟩ (((xup_slot (by decide)).trans xup_self).trans (by rfl)) (4)) (Nat.le_of_ble_eq_true rfl)) rfl rfl tg_X11_needs lk_X11_115 in_X11_needs se_X11_needs rfl dX11_readLine_94 rfl (Nat.le_of_ble_eq_true rfl) (Nat.le_refl _) (Nat.le_refl _) ?_
                        rintro _ _ ⟨rfl, rfl⟩ -
                        refine w_aload_n dX11_readLine_97 rfl ?_
                        refine w_aload_n dX11_readLine_98 rfl ?_
                        refine w_getI ff_X11_54 rfl rfl dX11_readLine_99 ?_
                        rw [show ((xup (xup I 30 0 0 15 (2)) 30 0 0 16 (nI st)) 30 0 0 8 : Int32) = 1 from ((xup_slot (by decide)).trans ((xup_slot (by decide)).trans m8))]
                        refine w_if_ne (tgt := 111) dX11_readLine_102 (by decide) (fun _ => ?_) (fun h => absurd h (by decide))
                        refine w_iconst (v := 1) dX11_readLine_111 (by decide) ?_
                        refine w_goto (tgt := 116) dX11_readLine_112 (by decide) ?_
                        refine w_putI ff_X11_54 rfl rfl rfl rfl dX11_readLine_116 ?_
                        have hu0 : (if nC a < 5 then (Sum.inr (so, (st, (nx, v))) : tS) else flT 5 (Sum.inr (so, (st, (nx, v))) : tS)) = (Sum.inl (2, st) : tS) := if_neg (by omega)
                        refine w_aload_n dX11_readLine_119 rfl ?_
                        refine w_callV (as := []) (st := []) (Tri.mono (d_take (I := xup (xup (xup I 30 0 0 15 (2)) 30 0 0 16 (nI st)) 30 0 0 8 (1)) hk (ht.y (((FrY.rf.up30 (by decide)).up30 (by decide)).up30 (by decide))) (s := (Sum.inl (2, st) : tS)) ⟨by show 1 ≤ 2; omega, by show 2 ≤ 5; omega, g5⟩ ⟨(xup_slot (by decide)).trans ((xup_slot (by decide)).trans xup_self), (xup_slot (by decide)).trans xup_self⟩) (Nat.le_of_ble_eq_true rfl)) rfl rfl tg_X11_takes lk_X11_119 in_X11_takes se_X11_takes rfl dX11_readLine_120 rfl (Nat.le_of_ble_eq_true rfl) (Nat.le_refl _) (Nat.le_refl _) ?_
                        rintro v M9 ⟨rfl, I1, rfl, t1, f1⟩ -
                        have fy : FrY I I1 := (((FrY.rf.up30 (by decide)).up30 (by decide)).up30 (by decide)).tr f1.y
                        have hm1 : DM I1 a true := (DM.t8 hm (I' := xup (xup (xup I 30 0 0 15 (2)) 30 0 0 16 (nI st)) 30 0 0 8 (1)) (fun x => (xup_tag (by decide)).trans ((xup_tag (by decide)).trans (xup_tag (by decide)))) (fun x hx => (xup_slot (by omega)).trans ((xup_slot (by omega)).trans (xup_slot (by omega)))) (xup_self.trans (by rfl))).n f1
                        have hou : OKT n (tkT n b (Sum.inl (2, st) : tS)) := tk_ok ⟨by show 1 ≤ 2; omega, by show 2 ≤ 5; omega, g5⟩
                        obtain ⟨u, hu⟩ : ∃ u, u = tkT n b (Sum.inl (2, st) : tS) := ⟨_, rfl⟩
                        rw [← hu] at t1 hou
                        have hu1 : tkT n b (if nC a < 5 then (Sum.inr (so, (st, (nx, v))) : tS) else flT 5 (Sum.inr (so, (st, (nx, v))) : tS)) = u := by rw [hu0, hu]
                        rw [show bodyT n b w (Sum.inr (so, (st, (nx, v))) : tS) a true = _ from (if_neg (by omega)).trans (if_pos (by omega))]
                        unfold pLz uS3 uS2 uS1
                        rw [hu1]
                        rcases u with ⟨c, p⟩ | ⟨so2, st2, nx2, v2⟩
                        · skip
                          have q1 := hou.1
                          have q2 := hou.2.1
                          replace q1 : 1 ≤ c := q1
                          replace q2 : c ≤ 5 := q2
                          refine w_aload_n dX11_readLine_123 rfl ?_
                          refine w_getI ff_X11_73 rfl rfl dX11_readLine_124 ?_
                          rw [show (I1 30 0 0 15 : Int32) = nI c from t1.1]
                          refine w_if_le (tgt := 131) dX11_readLine_127 (by decide) (fun h1 => ?_) (fun h1 => ?_)
                          · skip
                            replace h1 : ((c : Nat) : Int) ≤ 0 := (zle (z_nI (by omega)) (by decide)).mp h1
                            first
                            | (exfalso; omega)
                            | skip
                              exfalso
                              omega
                          · skip
                            replace h1 : ¬ (((c : Nat) : Int) ≤ 0) := fun q => h1 ((zle (z_nI (by omega)) (by decide)).mpr q)
                            first
                            | (exfalso; omega)
                            | skip
                              exact w_return dX11_readLine_130 rfl rfl (⟨rfl, _, rfl, t1, fy, fun q z => by cases z⟩)
                        · skip
                          refine w_aload_n dX11_readLine_123 rfl ?_
                          refine w_getI ff_X11_73 rfl rfl dX11_readLine_124 ?_
                          rw [show (I1 30 0 0 15 : Int32) = 0 from t1.1]
                          refine w_if_le (tgt := 131) dX11_readLine_127 (by decide) (fun _ => ?_) (fun h => absurd (by decide) h)
                          refine w_aload_n dX11_readLine_131 rfl ?_
                          refine w_iload_n dX11_readLine_132 rfl ?_
                          cases hu
            · skip
              replace h3 : ¬ (((w : Nat) : Int) < 4) := fun q => h3 ((zlt (z_nI (by omega)) (by decide)).mpr q)
              first
              | (exfalso; omega)
              | skip
                refine w_aload_n dX11_readLine_46 rfl ?_
                refine w_getI ff_X11_51 rfl rfl dX11_readLine_47 ?_
                rw [show ((xup (xup I 30 0 0 15 (2)) 30 0 0 16 (nI st)) 30 0 0 7 : Int32) = nI (nC a) from ((xup_slot (by decide)).trans ((xup_slot (by decide)).trans m7))]
                refine w_iconst (v := 5) dX11_readLine_50 (by decide) ?_
                refine w_icmp_ge (tgt := 69) dX11_readLine_51 (by decide) (fun h4 => ?_) (fun h4 => ?_)
                · skip
                  replace h4 : 5 ≤ ((nC a : Nat) : Int) := (zle (by decide) (z_nI (by omega))).mp h4
                  first
                  | (exfalso; omega)
                  | skip
                    refine w_iconst (v := 0) dX11_readLine_69 (by decide) ?_
                    refine w_iconst (v := 5) dX11_readLine_70 (by decide) ?_
                    refine w_callV (as := [vI (0), vI (5)]) (st := []) (Tri.mono (d_needD (I := xup (xup I 30 0 0 15 (2)) 30 0 0 16 (nI st)) (e := 2) ⟨by decide, by decide⟩ (((xup_slot (by decide)).trans xup_self).trans (by rfl)) (5)) (Nat.le_of_ble_eq_true rfl)) rfl rfl tg_X11_needs lk_X11_115 in_X11_needs se_X11_needs rfl dX11_readLine_71 rfl (Nat.le_of_ble_eq_true rfl) (Nat.le_refl _) (Nat.le_refl _) ?_
                    rintro _ _ ⟨rfl, rfl⟩ -
                    refine w_aload_n dX11_readLine_74 rfl ?_
                    refine w_iload_n dX11_readLine_75 rfl ?_
                    refine w_bipush (v := 8) dX11_readLine_76 (by decide) ?_
                    refine w_icmp_ne (tgt := 88) dX11_readLine_78 (by decide) (fun h5 => ?_) (fun h5 => ?_)
                    · skip
                      replace h5 : ¬ (((w : Nat) : Int) = 8) := fun q => h5 ((zeq (z_nI (by omega)) (by decide)).mpr q)
                      first
                      | (exfalso; omega)
                      | skip
                        refine w_iconst (v := 1) dX11_readLine_88 (by decide) ?_
                        refine w_goto (tgt := 93) dX11_readLine_89 (by decide) ?_
                        refine w_iconst (v := 4) dX11_readLine_93 (by decide) ?_
                        refine w_callV (as := [vI (1), vI (4)]) (st := []) (Tri.mono (d_need1 (I := xup (xup I 30 0 0 15 (2)) 30 0 0 16 (nI st)) (4)) (Nat.le_of_ble_eq_true rfl)) rfl rfl tg_X11_needs lk_X11_115 in_X11_needs se_X11_needs rfl dX11_readLine_94 rfl (Nat.le_of_ble_eq_true rfl) (Nat.le_refl _) (Nat.le_refl _) ?_
                        rintro _ _ ⟨rfl, rfl⟩ -
                        refine w_aload_n dX11_readLine_97 rfl ?_
                        refine w_aload_n dX11_readLine_98 rfl ?_
                        refine w_getI ff_X11_54 rfl rfl dX11_readLine_99 ?_
                        rw [show ((xup (xup I 30 0 0 15 (2)) 30 0 0 16 (nI st)) 30 0 0 8 : Int32) = 1 from ((xup_slot (by decide)).trans ((xup_slot (by decide)).trans m8))]
                        refine w_if_ne (tgt := 111) dX11_readLine_102 (by decide) (fun _ => ?_) (fun h => absurd h (by decide))
                        refine w_iconst (v := 1) dX11_readLine_111 (by decide) ?_
                        refine w_goto (tgt := 116) dX11_readLine_112 (by decide) ?_
                        refine w_putI ff_X11_54 rfl rfl rfl rfl dX11_readLine_116 ?_
                        have hu0 : (if nC a < 5 then (Sum.inr (so, (st, (nx, v))) : tS) else flT 5 (Sum.inr (so, (st, (nx, v))) : tS)) = (Sum.inl (2, st) : tS) := if_neg (by omega)
                        refine w_aload_n dX11_readLine_119 rfl ?_
                        refine w_callV (as := []) (st := []) (Tri.mono (d_take (I := xup (xup (xup I 30 0 0 15 (2)) 30 0 0 16 (nI st)) 30 0 0 8 (1)) hk (ht.y (((FrY.rf.up30 (by decide)).up30 (by decide)).up30 (by decide))) (s := (Sum.inl (2, st) : tS)) ⟨by show 1 ≤ 2; omega, by show 2 ≤ 5; omega, g5⟩ ⟨(xup_slot (by decide)).trans ((xup_slot (by decide)).trans xup_self), (xup_slot (by decide)).trans xup_self⟩) (Nat.le_of_ble_eq_true rfl)) rfl rfl tg_X11_takes lk_X11_119 in_X11_takes se_X11_takes rfl dX11_readLine_120 rfl (Nat.le_of_ble_eq_true rfl) (Nat.le_refl _) (Nat.le_refl _) ?_
                        rintro v M9 ⟨rfl, I1, rfl, t1, f1⟩ -
                        have fy : FrY I I1 := (((FrY.rf.up30 (by decide)).up30 (by decide)).up30 (by decide)).tr f1.y
                        have hm1 : DM I1 a true := (DM.t8 hm (I' := xup (xup (xup I 30 0 0 15 (2)) 30 0 0 16 (nI st)) 30 0 0 8 (1)) (fun x => (xup_tag (by decide)).trans ((xup_tag (by decide)).trans (xup_tag (by decide)))) (fun x hx => (xup_slot (by omega)).trans ((xup_slot (by omega)).trans (xup_slot (by omega)))) (xup_self.trans (by rfl))).n f1
                        have hou : OKT n (tkT n b (Sum.inl (2, st) : tS)) := tk_ok ⟨by show 1 ≤ 2; omega, by show 2 ≤ 5; omega, g5⟩
                        obtain ⟨u, hu⟩ : ∃ u, u = tkT n b (Sum.inl (2, st) : tS) := ⟨_, rfl⟩
                        rw [← hu] at t1 hou
                        have hu1 : tkT n b (if nC a < 5 then (Sum.inr (so, (st, (nx, v))) : tS) else flT 5 (Sum.inr (so, (st, (nx, v))) : tS)) = u := by rw [hu0, hu]
                        rw [show bodyT n b w (Sum.inr (so, (st, (nx, v))) : tS) a true = _ from (if_neg (by omega)).trans (if_pos (by omega))]
                        unfold pLz uS3 uS2 uS1
                        rw [hu1]
                        rcases u with ⟨c, p⟩ | ⟨so2, st2, nx2, v2⟩
                        · skip
                          have q1 := hou.1
                          have q2 := hou.2.1
                          replace q1 : 1 ≤ c := q1
                          replace q2 : c ≤ 5 := q2
                          refine w_aload_n dX11_readLine_123 rfl ?_
                          refine w_getI ff_X11_73 rfl rfl dX11_readLine_124 ?_
                          rw [show (I1 30 0 0 15 : Int32) = nI c from t1.1]
                          refine w_if_le (tgt := 131) dX11_readLine_127 (by decide) (fun h1 => ?_) (fun h1 => ?_)
                          · skip
                            replace h1 : ((c : Nat) : Int) ≤ 0 := (zle (z_nI (by omega)) (by decide)).mp h1
                            first
                            | (exfalso; omega)
                            | skip
                              exfalso
                              omega
                          · skip
                            replace h1 : ¬ (((c : Nat) : Int) ≤ 0) := fun q => h1 ((zle (z_nI (by omega)) (by decide)).mpr q)
                            first
                            | (exfalso; omega)
                            | skip
                              exact w_return dX11_readLine_130 rfl rfl (⟨rfl, _, rfl, t1, fy, fun q z => by cases z⟩)
                        · skip
                          refine w_aload_n dX11_readLine_123 rfl ?_
                          refine w_getI ff_X11_73 rfl rfl dX11_readLine_124 ?_
                          rw [show (I1 30 0 0 15 : Int32) = 0 from t1.1]
                          refine w_if_le (tgt := 131) dX11_readLine_127 (by decide) (fun _ => ?_) (fun h => absurd (by decide) h)
                          refine w_aload_n dX11_readLine_131 rfl ?_
                          refine w_iload_n dX11_readLine_132 rfl ?_
                          cases hu
                    · skip
                      replace h5 : ((w : Nat) : Int) = 8 := (zeq (z_nI (by omega)) (by decide)).mp h5
                      first
                      | (exfalso; omega)
                      | skip
                        refine w_aload_n dX11_readLine_81 rfl ?_
                        refine w_getI ff_X11_54 rfl rfl dX11_readLine_82 ?_
                        rw [show ((xup (xup I 30 0 0 15 (2)) 30 0 0 16 (nI st)) 30 0 0 8 : Int32) = 1 from ((xup_slot (by decide)).trans ((xup_slot (by decide)).trans m8))]
                        refine w_if_ne (tgt := 92) dX11_readLine_85 (by decide) (fun _ => ?_) (fun h => absurd h (by decide))
                        refine w_iconst (v := 0) dX11_readLine_92 (by decide) ?_
                        refine w_iconst (v := 4) dX11_readLine_93 (by decide) ?_
                        refine w_callV (as := [vI (0), vI (4)]) (st := []) (Tri.mono (d_needD (I := xup (xup I 30 0 0 15 (2)) 30 0 0 16 (nI st)) (e := 2) ⟨by decide, by decide⟩ (((xup_slot (by decide)).trans xup_self).trans (by rfl)) (4)) (Nat.le_of_ble_eq_true rfl)) rfl rfl tg_X11_needs lk_X11_115 in_X11_needs se_X11_needs rfl dX11_readLine_94 rfl (Nat.le_of_ble_eq_true rfl) (Nat.le_refl _) (Nat.le_refl _) ?_
                        rintro _ _ ⟨rfl, rfl⟩ -
                        refine w_aload_n dX11_readLine_97 rfl ?_
                        refine w_aload_n dX11_readLine_98 rfl ?_
                        refine w_getI ff_X11_54 rfl rfl dX11_readLine_99 ?_
                        rw [show ((xup (xup I 30 0 0 15 (2)) 30 0 0 16 (nI st)) 30 0 0 8 : Int32) = 1 from ((xup_slot (by decide)).trans ((xup_slot (by decide)).trans m8))]
                        refine w_if_ne (tgt := 111) dX11_readLine_102 (by decide) (fun _ => ?_) (fun h => absurd h (by decide))
                        refine w_iconst (v := 1) dX11_readLine_111 (by decide) ?_
                        refine w_goto (tgt := 116) dX11_readLine_112 (by decide) ?_
                        refine w_putI ff_X11_54 rfl rfl rfl rfl dX11_readLine_116 ?_
                        have hu0 : (if nC a < 5 then (Sum.inr (so, (st, (nx, v))) : tS) else flT 5 (Sum.inr (so, (st, (nx, v))) : tS)) = (Sum.inl (2, st) : tS) := if_neg (by omega)
                        refine w_aload_n dX11_readLine_119 rfl ?_
                        refine w_callV (as := []) (st := []) (Tri.mono (d_take (I := xup (xup (xup I 30 0 0 15 (2)) 30 0 0 16 (nI st)) 30 0 0 8 (1)) hk (ht.y (((FrY.rf.up30 (by decide)).up30 (by decide)).up30 (by decide))) (s := (Sum.inl (2, st) : tS)) ⟨by show 1 ≤ 2; omega, by show 2 ≤ 5; omega, g5⟩ ⟨(xup_slot (by decide)).trans ((xup_slot (by decide)).trans xup_self), (xup_slot (by decide)).trans xup_self⟩) (Nat.le_of_ble_eq_true rfl)) rfl rfl tg_X11_takes lk_X11_119 in_X11_takes se_X11_takes rfl dX11_readLine_120 rfl (Nat.le_of_ble_eq_true rfl) (Nat.le_refl _) (Nat.le_refl _) ?_
                        rintro v M9 ⟨rfl, I1, rfl, t1, f1⟩ -
                        have fy : FrY I I1 := (((FrY.rf.up30 (by decide)).up30 (by decide)).up30 (by decide)).tr f1.y
                        have hm1 : DM I1 a true := (DM.t8 hm (I' := xup (xup (xup I 30 0 0 15 (2)) 30 0 0 16 (nI st)) 30 0 0 8 (1)) (fun x => (xup_tag (by decide)).trans ((xup_tag (by decide)).trans (xup_tag (by decide)))) (fun x hx => (xup_slot (by omega)).trans ((xup_slot (by omega)).trans (xup_slot (by omega)))) (xup_self.trans (by rfl))).n f1
                        have hou : OKT n (tkT n b (Sum.inl (2, st) : tS)) := tk_ok ⟨by show 1 ≤ 2; omega, by show 2 ≤ 5; omega, g5⟩
                        obtain ⟨u, hu⟩ : ∃ u, u = tkT n b (Sum.inl (2, st) : tS) := ⟨_, rfl⟩
                        rw [← hu] at t1 hou
                        have hu1 : tkT n b (if nC a < 5 then (Sum.inr (so, (st, (nx, v))) : tS) else flT 5 (Sum.inr (so, (st, (nx, v))) : tS)) = u := by rw [hu0, hu]
                        rw [show bodyT n b w (Sum.inr (so, (st, (nx, v))) : tS) a true = _ from (if_neg (by omega)).trans (if_pos (by omega))]
                        unfold pLz uS3 uS2 uS1
                        rw [hu1]
                        rcases u with ⟨c, p⟩ | ⟨so2, st2, nx2, v2⟩
                        · skip
                          have q1 := hou.1
                          have q2 := hou.2.1
                          replace q1 : 1 ≤ c := q1
                          replace q2 : c ≤ 5 := q2
                          refine w_aload_n dX11_readLine_123 rfl ?_
                          refine w_getI ff_X11_73 rfl rfl dX11_readLine_124 ?_
                          rw [show (I1 30 0 0 15 : Int32) = nI c from t1.1]
                          refine w_if_le (tgt := 131) dX11_readLine_127 (by decide) (fun h1 => ?_) (fun h1 => ?_)
                          · skip
                            replace h1 : ((c : Nat) : Int) ≤ 0 := (zle (z_nI (by omega)) (by decide)).mp h1
                            first
                            | (exfalso; omega)
                            | skip
                              exfalso
                              omega
                          · skip
                            replace h1 : ¬ (((c : Nat) : Int) ≤ 0) := fun q => h1 ((zle (z_nI (by omega)) (by decide)).mpr q)
                            first
                            | (exfalso; omega)
                            | skip
                              exact w_return dX11_readLine_130 rfl rfl (⟨rfl, _, rfl, t1, fy, fun q z => by cases z⟩)
                        · skip
                          refine w_aload_n dX11_readLine_123 rfl ?_
                          refine w_getI ff_X11_73 rfl rfl dX11_readLine_124 ?_
                          rw [show (I1 30 0 0 15 : Int32) = 0 from t1.1]
                          refine w_if_le (tgt := 131) dX11_readLine_127 (by decide) (fun _ => ?_) (fun h => absurd (by decide) h)
                          refine w_aload_n dX11_readLine_131 rfl ?_
                          refine w_iload_n dX11_readLine_132 rfl ?_
                          cases hu
                · skip
                  replace h4 : ¬ (5 ≤ ((nC a : Nat) : Int)) := fun q => h4 ((zle (by decide) (z_nI (by omega))).mpr q)
                  first
                  | (exfalso; omega)
                  | skip
                    refine w_goto (tgt := 65) dX11_readLine_54 (by decide) ?_
                    refine w_iconst (v := 1) dX11_readLine_65 (by decide) ?_
                    refine w_goto (tgt := 70) dX11_readLine_66 (by decide) ?_
                    refine w_iconst (v := 5) dX11_readLine_70 (by decide) ?_
                    refine w_callV (as := [vI (1), vI (5)]) (st := []) (Tri.mono (d_need1 (I := xup (xup I 30 0 0 15 (2)) 30 0 0 16 (nI st)) (5)) (Nat.le_of_ble_eq_true rfl)) rfl rfl tg_X11_needs lk_X11_115 in_X11_needs se_X11_needs rfl dX11_readLine_71 rfl (Nat.le_of_ble_eq_true rfl) (Nat.le_refl _) (Nat.le_refl _) ?_
                    rintro _ _ ⟨rfl, rfl⟩ -
                    refine w_aload_n dX11_readLine_74 rfl ?_
                    refine w_iload_n dX11_readLine_75 rfl ?_
                    refine w_bipush (v := 8) dX11_readLine_76 (by decide) ?_
                    refine w_icmp_ne (tgt := 88) dX11_readLine_78 (by decide) (fun h5 => ?_) (fun h5 => ?_)
                    · skip
                      replace h5 : ¬ (((w : Nat) : Int) = 8) := fun q => h5 ((zeq (z_nI (by omega)) (by decide)).mpr q)
                      first
                      | (exfalso; omega)
                      | skip
                        refine w_iconst (v := 1) dX11_readLine_88 (by decide) ?_
                        refine w_goto (tgt := 93) dX11_readLine_89 (by decide) ?_
                        refine w_iconst (v := 4) dX11_readLine_93 (by decide) ?_
                        refine w_callV (as := [vI (1), vI (4)]) (st := []) (Tri.mono (d_need1 (I := xup (xup I 30 0 0 15 (2)) 30 0 0 16 (nI st)) (4)) (Nat.le_of_ble_eq_true rfl)) rfl rfl tg_X11_needs lk_X11_115 in_X11_needs se_X11_needs rfl dX11_readLine_94 rfl (Nat.le_of_ble_eq_true rfl) (Nat.le_refl _) (Nat.le_refl _) ?_
                        rintro _ _ ⟨rfl, rfl⟩ -
                        refine w_aload_n dX11_readLine_97 rfl ?_
                        refine w_aload_n dX11_readLine_98 rfl ?_
                        refine w_getI ff_X11_54 rfl rfl dX11_readLine_99 ?_
                        rw [show ((xup (xup I 30 0 0 15 (2)) 30 0 0 16 (nI st)) 30 0 0 8 : Int32) = 1 from ((xup_slot (by decide)).trans ((xup_slot (by decide)).trans m8))]
                        refine w_if_ne (tgt := 111) dX11_readLine_102 (by decide) (fun _ => ?_) (fun h => absurd h (by decide))
                        refine w_iconst (v := 1) dX11_readLine_111 (by decide) ?_
                        refine w_goto (tgt := 116) dX11_readLine_112 (by decide) ?_
                        refine w_putI ff_X11_54 rfl rfl rfl rfl dX11_readLine_116 ?_
                        have hu0 : (if nC a < 5 then (Sum.inr (so, (st, (nx, v))) : tS) else flT 5 (Sum.inr (so, (st, (nx, v))) : tS)) = (Sum.inl (2, st) : tS) := if_neg (by omega)
                        refine w_aload_n dX11_readLine_119 rfl ?_
                        refine w_callV (as := []) (st := []) (Tri.mono (d_take (I := xup (xup (xup I 30 0 0 15 (2)) 30 0 0 16 (nI st)) 30 0 0 8 (1)) hk (ht.y (((FrY.rf.up30 (by decide)).up30 (by decide)).up30 (by decide))) (s := (Sum.inl (2, st) : tS)) ⟨by show 1 ≤ 2; omega, by show 2 ≤ 5; omega, g5⟩ ⟨(xup_slot (by decide)).trans ((xup_slot (by decide)).trans xup_self), (xup_slot (by decide)).trans xup_self⟩) (Nat.le_of_ble_eq_true rfl)) rfl rfl tg_X11_takes lk_X11_119 in_X11_takes se_X11_takes rfl dX11_readLine_120 rfl (Nat.le_of_ble_eq_true rfl) (Nat.le_refl _) (Nat.le_refl _) ?_
                        rintro v M9 ⟨rfl, I1, rfl, t1, f1⟩ -
                        have fy : FrY I I1 := (((FrY.rf.up30 (by decide)).up30 (by decide)).up30 (by decide)).tr f1.y
                        have hm1 : DM I1 a true := (DM.t8 hm (I' := xup (xup (xup I 30 0 0 15 (2)) 30 0 0 16 (nI st)) 30 0 0 8 (1)) (fun x => (xup_tag (by decide)).trans ((xup_tag (by decide)).trans (xup_tag (by decide)))) (fun x hx => (xup_slot (by omega)).trans ((xup_slot (by omega)).trans (xup_slot (by omega)))) (xup_self.trans (by rfl))).n f1
                        have hou : OKT n (tkT n b (Sum.inl (2, st) : tS)) := tk_ok ⟨by show 1 ≤ 2; omega, by show 2 ≤ 5; omega, g5⟩
                        obtain ⟨u, hu⟩ : ∃ u, u = tkT n b (Sum.inl (2, st) : tS) := ⟨_, rfl⟩
                        rw [← hu] at t1 hou
                        have hu1 : tkT n b (if nC a < 5 then (Sum.inr (so, (st, (nx, v))) : tS) else flT 5 (Sum.inr (so, (st, (nx, v))) : tS)) = u := by rw [hu0, hu]
                        rw [show bodyT n b w (Sum.inr (so, (st, (nx, v))) : tS) a true = _ from (if_neg (by omega)).trans (if_pos (by omega))]
                        unfold pLz uS3 uS2 uS1
                        rw [hu1]
                        rcases u with ⟨c, p⟩ | ⟨so2, st2, nx2, v2⟩
                        · skip
                          have q1 := hou.1
                          have q2 := hou.2.1
                          replace q1 : 1 ≤ c := q1
                          replace q2 : c ≤ 5 := q2
                          refine w_aload_n dX11_readLine_123 rfl ?_
                          refine w_getI ff_X11_73 rfl rfl dX11_readLine_124 ?_
                          rw [show (I1 30 0 0 15 : Int32) = nI c from t1.1]
                          refine w_if_le (tgt := 131) dX11_readLine_127 (by decide) (fun h1 => ?_) (fun h1 => ?_)
                          · skip
                            replace h1 : ((c : Nat) : Int) ≤ 0 := (zle (z_nI (by omega)) (by decide)).mp h1
                            first
                            | (exfalso; omega)
                            | skip
                              exfalso
                              omega
                          · skip
                            replace h1 : ¬ (((c : Nat) : Int) ≤ 0) := fun q => h1 ((zle (z_nI (by omega)) (by decide)).mpr q)
                            first
                            | (exfalso; omega)
                            | skip
                              exact w_return dX11_readLine_130 rfl rfl (⟨rfl, _, rfl, t1, fy, fun q z => by cases z⟩)
                        · skip
                          refine w_aload_n dX11_readLine_123 rfl ?_
                          refine w_getI ff_X11_73 rfl rfl dX11_readLine_124 ?_
                          rw [show (I1 30 0 0 15 : Int32) = 0 from t1.1]
                          refine w_if_le (tgt := 131) dX11_readLine_127 (by decide) (fun _ => ?_) (fun h => absurd (by decide) h)
                          refine w_aload_n dX11_readLine_131 rfl ?_
                          refine w_iload_n dX11_readLine_132 rfl ?_
                          cases hu
                    · skip
                      replace h5 : ((w : Nat) : Int) = 8 := (zeq (z_nI (by omega)) (by decide)).mp h5
                      first
                      | (exfalso; omega)
                      | skip
                        refine w_aload_n dX11_readLine_81 rfl ?_
                        refine w_getI ff_X11_54 rfl rfl dX11_readLine_82 ?_
                        rw [show ((xup (xup I 30 0 0 15 (2)) 30 0 0 16 (nI st)) 30 0 0 8 : Int32) = 1 from ((xup_slot (by decide)).trans ((xup_slot (by decide)).trans m8))]
                        refine w_if_ne (tgt := 92) dX11_readLine_85 (by decide) (fun _ => ?_) (fun h => absurd h (by decide))
                        refine w_iconst (v := 0) dX11_readLine_92 (by decide) ?_
                        refine w_iconst (v := 4) dX11_readLine_93 (by decide) ?_
                        refine w_callV (as := [vI (0), vI (4)]) (st := []) (Tri.mono (d_needD (I := xup (xup I 30 0 0 15 (2)) 30 0 0 16 (nI st)) (e := 2) ⟨by decide, by decide⟩ (((xup_slot (by decide)).trans xup_self).trans (by rfl)) (4)) (Nat.le_of_ble_eq_true rfl)) rfl rfl tg_X11_needs lk_X11_115 in_X11_needs se_X11_needs rfl dX11_readLine_94 rfl (Nat.le_of_ble_eq_true rfl) (Nat.le_refl _) (Nat.le_refl _) ?_
                        rintro _ _ ⟨rfl, rfl⟩ -
                        refine w_aload_n dX11_readLine_97 rfl ?_
                        refine w_aload_n dX11_readLine_98 rfl ?_
                        refine w_getI ff_X11_54 rfl rfl dX11_readLine_99 ?_
                        rw [show ((xup (xup I 30 0 0 15 (2)) 30 0 0 16 (nI st)) 30 0 0 8 : Int32) = 1 from ((xup_slot (by decide)).trans ((xup_slot (by decide)).trans m8))]
                        refine w_if_ne (tgt := 111) dX11_readLine_102 (by decide) (fun _ => ?_) (fun h => absurd h (by decide))
                        refine w_iconst (v := 1) dX11_readLine_111 (by decide) ?_
                        refine w_goto (tgt := 116) dX11_readLine_112 (by decide) ?_
                        refine w_putI ff_X11_54 rfl rfl rfl rfl dX11_readLine_116 ?_
                        have hu0 : (if nC a < 5 then (Sum.inr (so, (st, (nx, v))) : tS) else flT 5 (Sum.inr (so, (st, (nx, v))) : tS)) = (Sum.inl (2, st) : tS) := if_neg (by omega)
                        refine w_aload_n dX11_readLine_119 rfl ?_
                        refine w_callV (as := []) (st := []) (Tri.mono (d_take (I := xup (xup (xup I 30 0 0 15 (2)) 30 0 0 16 (nI st)) 30 0 0 8 (1)) hk (ht.y (((FrY.rf.up30 (by decide)).up30 (by decide)).up30 (by decide))) (s := (Sum.inl (2, st) : tS)) ⟨by show 1 ≤ 2; omega, by show 2 ≤ 5; omega, g5⟩ ⟨(xup_slot (by decide)).trans ((xup_slot (by decide)).trans xup_self), (xup_slot (by decide)).trans xup_self⟩) (Nat.le_of_ble_eq_true rfl)) rfl rfl tg_X11_takes lk_X11_119 in_X11_takes se_X11_takes rfl dX11_readLine_120 rfl (Nat.le_of_ble_eq_true rfl) (Nat.le_refl _) (Nat.le_refl _) ?_
                        rintro v M9 ⟨rfl, I1, rfl, t1, f1⟩ -
                        have fy : FrY I I1 := (((FrY.rf.up30 (by decide)).up30 (by decide)).up30 (by decide)).tr f1.y
                        have hm1 : DM I1 a true := (DM.t8 hm (I' := xup (xup (xup I 30 0 0 15 (2)) 30 0 0 16 (nI st)) 30 0 0 8 (1)) (fun x => (xup_tag (by decide)).trans ((xup_tag (by decide)).trans (xup_tag (by decide)))) (fun x hx => (xup_slot (by omega)).trans ((xup_slot (by omega)).trans (xup_slot (by omega)))) (xup_self.trans (by rfl))).n f1
                        have hou : OKT n (tkT n b (Sum.inl (2, st) : tS)) := tk_ok ⟨by show 1 ≤ 2; omega, by show 2 ≤ 5; omega, g5⟩
                        obtain ⟨u, hu⟩ : ∃ u, u = tkT n b (Sum.inl (2, st) : tS) := ⟨_, rfl⟩
                        rw [← hu] at t1 hou
                        have hu1 : tkT n b (if nC a < 5 then (Sum.inr (so, (st, (nx, v))) : tS) else flT 5 (Sum.inr (so, (st, (nx, v))) : tS)) = u := by rw [hu0, hu]
                        rw [show bodyT n b w (Sum.inr (so, (st, (nx, v))) : tS) a true = _ from (if_neg (by omega)).trans (if_pos (by omega))]
                        unfold pLz uS3 uS2 uS1
                        rw [hu1]
                        rcases u with ⟨c, p⟩ | ⟨so2, st2, nx2, v2⟩
                        · skip
                          have q1 := hou.1
                          have q2 := hou.2.1
                          replace q1 : 1 ≤ c := q1
                          replace q2 : c ≤ 5 := q2
                          refine w_aload_n dX11_readLine_123 rfl ?_
                          refine w_getI ff_X11_73 rfl rfl dX11_readLine_124 ?_
                          rw [show (I1 30 0 0 15 : Int32) = nI c from t1.1]
                          refine w_if_le (tgt := 131) dX11_readLine_127 (by decide) (fun h1 => ?_) (fun h1 => ?_)
                          · skip
                            replace h1 : ((c : Nat) : Int) ≤ 0 := (zle (z_nI (by omega)) (by decide)).mp h1
                            first
                            | (exfalso; omega)
                            | skip
                              exfalso
                              omega
                          · skip
                            replace h1 : ¬ (((c : Nat) : Int) ≤ 0) := fun q => h1 ((zle (z_nI (by omega)) (by decide)).mpr q)
                            first
                            | (exfalso; omega)
                            | skip
                              exact w_return dX11_readLine_130 rfl rfl (⟨rfl, _, rfl, t1, fy, fun q z => by cases z⟩)
                        · skip
                          refine w_aload_n dX11_readLine_123 rfl ?_
                          refine w_getI ff_X11_73 rfl rfl dX11_readLine_124 ?_
                          rw [show (I1 30 0 0 15 : Int32) = 0 from t1.1]
                          refine w_if_le (tgt := 131) dX11_readLine_127 (by decide) (fun _ => ?_) (fun h => absurd (by decide) h)
                          refine w_aload_n dX11_readLine_131 rfl ?_
                          refine w_iload_n dX11_readLine_132 rfl ?_
                          cases hu
    · skip
      replace h1 : ¬ (((w : Nat) : Int) = (-4)) := fun q => h1 ((zeq (z_nI (by omega)) (by decide)).mpr q)
      first
      | (exfalso; omega)
      | skip
        refine w_iconst (v := 1) dX11_readLine_25 (by decide) ?_
        refine w_goto (tgt := 30) dX11_readLine_26 (by decide) ?_
        refine w_iconst (v := 2) dX11_readLine_30 (by decide) ?_
        refine w_callV (as := [vI (1), vI (2)]) (st := []) (Tri.mono (d_need1 (I := I) (2)) (Nat.le_of_ble_eq_true rfl)) rfl rfl tg_X11_needs lk_X11_115 in_X11_needs se_X11_needs rfl dX11_readLine_31 rfl (Nat.le_of_ble_eq_true rfl) (Nat.le_refl _) (Nat.le_refl _) ?_
        rintro _ _ ⟨rfl, rfl⟩ -
        refine w_aload_n dX11_readLine_34 rfl ?_
        refine w_iload_n dX11_readLine_35 rfl ?_
        refine w_bipush (v := 8) dX11_readLine_36 (by decide) ?_
        refine w_icmp_eq (tgt := 65) dX11_readLine_38 (by decide) (fun h2 => ?_) (fun h2 => ?_)
        · skip
          replace h2 : ((w : Nat) : Int) = 8 := (zeq (z_nI (by omega)) (by decide)).mp h2
          first
          | (exfalso; omega)
          | skip
            refine w_iconst (v := 1) dX11_readLine_65 (by decide) ?_
            refine w_goto (tgt := 70) dX11_readLine_66 (by decide) ?_
            refine w_iconst (v := 5) dX11_readLine_70 (by decide) ?_
            refine w_callV (as := [vI (1), vI (5)]) (st := []) (Tri.mono (d_need1 (I := I) (5)) (Nat.le_of_ble_eq_true rfl)) rfl rfl tg_X11_needs lk_X11_115 in_X11_needs se_X11_needs rfl dX11_readLine_71 rfl (Nat.le_of_ble_eq_true rfl) (Nat.le_refl _) (Nat.le_refl _) ?_
            rintro _ _ ⟨rfl, rfl⟩ -
            refine w_aload_n dX11_readLine_74 rfl ?_
            refine w_iload_n dX11_readLine_75 rfl ?_
            refine w_bipush (v := 8) dX11_readLine_76 (by decide) ?_
            refine w_icmp_ne (tgt := 88) dX11_readLine_78 (by decide) (fun h3 => ?_) (fun h3 => ?_)
            · skip
              replace h3 : ¬ (((w : Nat) : Int) = 8) := fun q => h3 ((zeq (z_nI (by omega)) (by decide)).mpr q)
              first
              | (exfalso; omega)
              | skip
                refine w_iconst (v := 1) dX11_readLine_88 (by decide) ?_
                refine w_goto (tgt := 93) dX11_readLine_89 (by decide) ?_
                refine w_iconst (v := 4) dX11_readLine_93 (by decide) ?_
                refine w_callV (as := [vI (1), vI (4)]) (st := []) (Tri.mono (d_need1 (I := I) (4)) (Nat.le_of_ble_eq_true rfl)) rfl rfl tg_X11_needs lk_X11_115 in_X11_needs se_X11_needs rfl dX11_readLine_94 rfl (Nat.le_of_ble_eq_true rfl) (Nat.le_refl _) (Nat.le_refl _) ?_
                rintro _ _ ⟨rfl, rfl⟩ -
                refine w_aload_n dX11_readLine_97 rfl ?_
                refine w_aload_n dX11_readLine_98 rfl ?_
                refine w_getI ff_X11_54 rfl rfl dX11_readLine_99 ?_
                rw [show (I 30 0 0 8 : Int32) = 1 from m8]
                refine w_if_ne (tgt := 111) dX11_readLine_102 (by decide) (fun _ => ?_) (fun h => absurd h (by decide))
                refine w_iconst (v := 1) dX11_readLine_111 (by decide) ?_
                refine w_goto (tgt := 116) dX11_readLine_112 (by decide) ?_
                refine w_putI ff_X11_54 rfl rfl rfl rfl dX11_readLine_116 ?_
                have hu0 : (if nC a < 5 then (Sum.inr (so, (st, (nx, v))) : tS) else flT 5 (Sum.inr (so, (st, (nx, v))) : tS)) = (Sum.inr (so, (st, (nx, v))) : tS) := if_pos (by omega)
                refine w_aload_n dX11_readLine_119 rfl ?_
                refine w_callV (as := []) (st := []) (Tri.mono (d_take (I := xup I 30 0 0 8 (1)) hk (ht.y (FrY.rf.up30 (by decide))) (s := (Sum.inr (so, (st, (nx, v))) : tS)) hok (h.eqv (fun x hx => xup_slot (by omega)))) (Nat.le_of_ble_eq_true rfl)) rfl rfl tg_X11_takes lk_X11_119 in_X11_takes se_X11_takes rfl dX11_readLine_120 rfl (Nat.le_of_ble_eq_true rfl) (Nat.le_refl _) (Nat.le_refl _) ?_
                rintro v M9 ⟨rfl, I1, rfl, t1, f1⟩ -
                have fy : FrY I I1 := (FrY.rf.up30 (by decide)).tr f1.y
                have hm1 : DM I1 a true := (DM.t8 hm (I' := xup I 30 0 0 8 (1)) (fun x => xup_tag (by decide)) (fun x hx => xup_slot (by omega)) (xup_self.trans (by rfl))).n f1
                have hou : OKT n (tkT n b (Sum.inr (so, (st, (nx, v))) : tS)) := tk_ok hok
                obtain ⟨u, hu⟩ : ∃ u, u = tkT n b (Sum.inr (so, (st, (nx, v))) : tS) := ⟨_, rfl⟩
                rw [← hu] at t1 hou
                have hu1 : tkT n b (if nC a < 5 then (Sum.inr (so, (st, (nx, v))) : tS) else flT 5 (Sum.inr (so, (st, (nx, v))) : tS)) = u := by rw [hu0, hu]
                rw [show bodyT n b w (Sum.inr (so, (st, (nx, v))) : tS) a true = _ from (if_neg (by omega)).trans (if_pos (by omega))]
                unfold pLz uS3 uS2 uS1
                rw [hu1]
                rcases u with ⟨c, p⟩ | ⟨so2, st2, nx2, v2⟩
                · skip
                  have q1 := hou.1
                  have q2 := hou.2.1
                  replace q1 : 1 ≤ c := q1
                  replace q2 : c ≤ 5 := q2
                  refine w_aload_n dX11_readLine_123 rfl ?_
                  refine w_getI ff_X11_73 rfl rfl dX11_readLine_124 ?_
                  rw [show (I1 30 0 0 15 : Int32) = nI c from t1.1]
                  refine w_if_le (tgt := 131) dX11_readLine_127 (by decide) (fun h1 => ?_) (fun h1 => ?_)
                  · skip
                    replace h1 : ((c : Nat) : Int) ≤ 0 := (zle (z_nI (by omega)) (by decide)).mp h1
                    first
                    | (exfalso; omega)
                    | skip
                      exfalso
                      omega
                  · skip
                    replace h1 : ¬ (((c : Nat) : Int) ≤ 0) := fun q => h1 ((zle (z_nI (by omega)) (by decide)).mpr q)
                    first
                    | (exfalso; omega)
                    | skip
                      exact w_return dX11_readLine_130 rfl rfl (⟨rfl, _, rfl, t1, fy, fun q z => by cases z⟩)
                · skip
                  refine w_aload_n dX11_readLine_123 rfl ?_
                  refine w_getI ff_X11_73 rfl rfl dX11_readLine_124 ?_
                  rw [show (I1 30 0 0 15 : Int32) = 0 from t1.1]
                  refine w_if_le (tgt := 131) dX11_readLine_127 (by decide) (fun _ => ?_) (fun h => absurd (by decide) h)
                  refine w_aload_n dX11_readLine_131 rfl ?_
                  refine w_iload_n dX11_readLine_132 rfl ?_
                  refine w_callV (as := [vI (nI w)]) (st := []) (Tri.mono (d_lineS hk (ht.y fy) hou t1 hd hm1 (by omega) (by omega) (by omega)) (Nat.le_of_ble_eq_true rfl)) rfl rfl tg_X11_readLineOf lk_X11_133 in_X11_readLineOf se_X11_readLineOf rfl dX11_readLine_133 rfl (Nat.le_of_ble_eq_true rfl) (Nat.le_refl _) (Nat.le_refl _) ?_
                  rintro v M9 ⟨rfl, I2, rfl, t2, f2, m2⟩ -
                  exact l_rdEnd hk (ht.y (fy.tr f2)) (tk_ok (ch_ok (tk_ok (ch_ok (tk_ok (ch_ok hou)))))) t2 (fun I3 t3 f3 => ⟨rfl, _, rfl, t3, fy.tr (f2.tr f3.y), fun q z => m2.n f3⟩)
            · skip
              replace h3 : ((w : Nat) : Int) = 8 := (zeq (z_nI (by omega)) (by decide)).mp h3
              first
              | (exfalso; omega)
              | skip
                refine w_aload_n dX11_readLine_81 rfl ?_
                refine w_getI ff_X11_54 rfl rfl dX11_readLine_82 ?_
                rw [show (I 30 0 0 8 : Int32) = 1 from m8]
                refine w_if_ne (tgt := 92) dX11_readLine_85 (by decide) (fun _ => ?_) (fun h => absurd h (by decide))
                refine w_iconst (v := 0) dX11_readLine_92 (by decide) ?_
                refine w_iconst (v := 4) dX11_readLine_93 (by decide) ?_
                refine w_callV (as := [vI (0), vI (4)]) (st := []) (Tri.mono (d_needL (I := I) h.1 h.2.2.1 (4)) (Nat.le_of_ble_eq_true rfl)) rfl rfl tg_X11_needs lk_X11_115 in_X11_needs se_X11_needs rfl dX11_readLine_94 rfl (Nat.le_of_ble_eq_true rfl) (Nat.le_refl _) (Nat.le_refl _) ?_
                rintro _ _ ⟨rfl, rfl⟩ -
                refine w_aload_n dX11_readLine_97 rfl ?_
                refine w_aload_n dX11_readLine_98 rfl ?_
                refine w_getI ff_X11_54 rfl rfl dX11_readLine_99 ?_
                rw [show ((xup (xup I 30 0 0 15 (4)) 30 0 0 16 (nI st)) 30 0 0 8 : Int32) = 1 from ((xup_slot (by decide)).trans ((xup_slot (by decide)).trans m8))]
                refine w_if_ne (tgt := 111) dX11_readLine_102 (by decide) (fun _ => ?_) (fun h => absurd h (by decide))
                refine w_iconst (v := 1) dX11_readLine_111 (by decide) ?_
                refine w_goto (tgt := 116) dX11_readLine_112 (by decide) ?_
                refine w_putI ff_X11_54 rfl rfl rfl rfl dX11_readLine_116 ?_
                have hu0 : (if nC a < 5 then (Sum.inr (so, (st, (nx, v))) : tS) else flT 5 (Sum.inr (so, (st, (nx, v))) : tS)) = (Sum.inl (4, st) : tS) := if_neg (by omega)
                refine w_aload_n dX11_readLine_119 rfl ?_
                refine w_callV (as := []) (st := []) (Tri.mono (d_take (I := xup (xup (xup I 30 0 0 15 (4)) 30 0 0 16 (nI st)) 30 0 0 8 (1)) hk (ht.y (((FrY.rf.up30 (by decide)).up30 (by decide)).up30 (by decide))) (s := (Sum.inl (4, st) : tS)) ⟨by show 1 ≤ 4; omega, by show 4 ≤ 5; omega, g5⟩ ⟨(xup_slot (by decide)).trans ((xup_slot (by decide)).trans xup_self), (xup_slot (by decide)).trans xup_self⟩) (Nat.le_of_ble_eq_true rfl)) rfl rfl tg_X11_takes lk_X11_119 in_X11_takes se_X11_takes rfl dX11_readLine_120 rfl (Nat.le_of_ble_eq_true rfl) (Nat.le_refl _) (Nat.le_refl _) ?_
                rintro v M9 ⟨rfl, I1, rfl, t1, f1⟩ -
                have fy : FrY I I1 := (((FrY.rf.up30 (by decide)).up30 (by decide)).up30 (by decide)).tr f1.y
                have hm1 : DM I1 a true := (DM.t8 hm (I' := xup (xup (xup I 30 0 0 15 (4)) 30 0 0 16 (nI st)) 30 0 0 8 (1)) (fun x => (xup_tag (by decide)).trans ((xup_tag (by decide)).trans (xup_tag (by decide)))) (fun x hx => (xup_slot (by omega)).trans ((xup_slot (by omega)).trans (xup_slot (by omega)))) (xup_self.trans (by rfl))).n f1
                have hou : OKT n (tkT n b (Sum.inl (4, st) : tS)) := tk_ok ⟨by show 1 ≤ 4; omega, by show 4 ≤ 5; omega, g5⟩
                obtain ⟨u, hu⟩ : ∃ u, u = tkT n b (Sum.inl (4, st) : tS) := ⟨_, rfl⟩
                rw [← hu] at t1 hou
                have hu1 : tkT n b (if nC a < 5 then (Sum.inr (so, (st, (nx, v))) : tS) else flT 5 (Sum.inr (so, (st, (nx, v))) : tS)) = u := by rw [hu0, hu]
                rw [show bodyT n b w (Sum.inr (so, (st, (nx, v))) : tS) a true = _ from (if_neg (by omega)).trans (if_pos (by omega))]
                unfold pLz uS3 uS2 uS1
                rw [hu1]
                rcases u with ⟨c, p⟩ | ⟨so2, st2, nx2, v2⟩
                · skip
                  have q1 := hou.1
                  have q2 := hou.2.1
                  replace q1 : 1 ≤ c := q1
                  replace q2 : c ≤ 5 := q2
                  refine w_aload_n dX11_readLine_123 rfl ?_
                  refine w_getI ff_X11_73 rfl rfl dX11_readLine_124 ?_
                  rw [show (I1 30 0 0 15 : Int32) = nI c from t1.1]
                  refine w_if_le (tgt := 131) dX11_readLine_127 (by decide) (fun h1 => ?_) (fun h1 => ?_)
                  · skip
                    replace h1 : ((c : Nat) : Int) ≤ 0 := (zle (z_nI (by omega)) (by decide)).mp h1
                    first
                    | (exfalso; omega)
                    | skip
                      exfalso
                      omega
                  · skip
                    replace h1 : ¬ (((c : Nat) : Int) ≤ 0) := fun q => h1 ((zle (z_nI (by omega)) (by decide)).mpr q)
                    first
                    | (exfalso; omega)
                    | skip
                      exact w_return dX11_readLine_130 rfl rfl (⟨rfl, _, rfl, t1, fy, fun q z => by cases z⟩)
                · skip
                  refine w_aload_n dX11_readLine_123 rfl ?_
                  refine w_getI ff_X11_73 rfl rfl dX11_readLine_124 ?_
                  rw [show (I1 30 0 0 15 : Int32) = 0 from t1.1]
                  refine w_if_le (tgt := 131) dX11_readLine_127 (by decide) (fun _ => ?_) (fun h => absurd (by decide) h)
                  refine w_aload_n dX11_readLine_131 rfl ?_
                  refine w_iload_n dX11_readLine_132 rfl ?_
                  cases hu
        · skip
          replace h2 : ¬ (((w : Nat) : Int) = 8) := fun q => h2 ((zeq (z_nI (by omega)) (by decide)).mpr q)
          first
          | (exfalso; omega)
          | skip
            refine w_iload_n dX11_readLine_41 rfl ?_
            refine w_iconst (v := 4) dX11_readLine_42 (by decide) ?_
            refine w_icmp_lt (tgt := 57) dX11_readLine_43 (by decide) (fun h3 => ?_) (fun h3 => ?_)
            · skip
              replace h3 : ((w : Nat) : Int) < 4 := (zlt (z_nI (by omega)) (by decide)).mp h3
              first
              | (exfalso; omega)
              | skip
                refine w_aload_n dX11_readLine_57 rfl ?_
                refine w_getI ff_X11_47 rfl rfl dX11_readLine_58 ?_
                rw [show (I 30 0 0 6 : Int32) = nI (nJ a) from m6]
                refine w_iconst (v := 4) dX11_readLine_61 (by decide) ?_
                refine w_icmp_ge (tgt := 69) dX11_readLine_62 (by decide) (fun h4 => ?_) (fun h4 => ?_)
                · skip
                  replace h4 : 4 ≤ ((nJ a : Nat) : Int) := (zle (by decide) (z_nI (by omega))).mp h4
                  first
                  | (exfalso; omega)
                  | skip
                    refine w_iconst (v := 0) dX11_readLine_69 (by decide) ?_
                    refine w_iconst (v := 5) dX11_readLine_70 (by decide) ?_
                    refine w_callV (as := [vI (0), vI (5)]) (st := []) (Tri.mono (d_needL (I := I) h.1 h.2.2.1 (5)) (Nat.le_of_ble_eq_true rfl)) rfl rfl tg_X11_needs lk_X11_115 in_X11_needs se_X11_needs rfl dX11_readLine_71 rfl (Nat.le_of_ble_eq_true rfl) (Nat.le_refl _) (Nat.le_refl _) ?_
                    rintro _ _ ⟨rfl, rfl⟩ -
                    refine w_aload_n dX11_readLine_74 rfl ?_
                    refine w_iload_n dX11_readLine_75 rfl ?_
                    refine w_bipush (v := 8) dX11_readLine_76 (by decide) ?_
                    refine w_icmp_ne (tgt := 88) dX11_readLine_78 (by decide) (fun h5 => ?_) (fun h5 => ?_)
                    · skip
                      replace h5 : ¬ (((w : Nat) : Int) = 8) := fun q => h5 ((zeq (z_nI (by omega)) (by decide)).mpr q)
                      first
                      | (exfalso; omega)
                      | skip
                        refine w_iconst (v := 1) dX11_readLine_88 (by decide) ?_
                        refine w_goto (tgt := 93) dX11_readLine_89 (by decide) ?_
                        refine w_iconst (v := 4) dX11_readLine_93 (by decide) ?_
                        refine w_callV (as := [vI (1), vI (4)]) (st := []) (Tri.mono (d_need1 (I := xup (xup I 30 0 0 15 (5)) 30 0 0 16 (nI st)) (4)) (Nat.le_of_ble_eq_true rfl)) rfl rfl tg_X11_needs lk_X11_115 in_X11_needs se_X11_needs rfl dX11_readLine_94 rfl (Nat.le_of_ble_eq_true rfl) (Nat.le_refl _) (Nat.le_refl _) ?_
                        rintro _ _ ⟨rfl, rfl⟩ -
                        refine w_aload_n dX11_readLine_97 rfl ?_
                        refine w_aload_n dX11_readLine_98 rfl ?_
                        refine w_getI ff_X11_54 rfl rfl dX11_readLine_99 ?_
                        rw [show ((xup (xup I 30 0 0 15 (5)) 30 0 0 16 (nI st)) 30 0 0 8 : Int32) = 1 from ((xup_slot (by decide)).trans ((xup_slot (by decide)).trans m8))]
                        refine w_if_ne (tgt := 111) dX11_readLine_102 (by decide) (fun _ => ?_) (fun h => absurd h (by decide))
                        refine w_iconst (v := 1) dX11_readLine_111 (by decide) ?_
                        refine w_goto (tgt := 116) dX11_readLine_112 (by decide) ?_
                        refine w_putI ff_X11_54 rfl rfl rfl rfl dX11_readLine_116 ?_
                        have hu0 : (if nC a < 5 then (Sum.inr (so, (st, (nx, v))) : tS) else flT 5 (Sum.inr (so, (st, (nx, v))) : tS)) = (Sum.inl (5, st) : tS) := if_neg (by omega)
                        refine w_aload_n dX11_readLine_119 rfl ?_
                        refine w_callV (as := []) (st := []) (Tri.mono (d_take (I := xup (xup (xup I 30 0 0 15 (5)) 30 0 0 16 (nI st)) 30 0 0 8 (1)) hk (ht.y (((FrY.rf.up30 (by decide)).up30 (by decide)).up30 (by decide))) (s := (Sum.inl (5, st) : tS)) ⟨by show 1 ≤ 5; omega, by show 5 ≤ 5; omega, g5⟩ ⟨(xup_slot (by decide)).trans ((xup_slot (by decide)).trans xup_self), (xup_slot (by decide)).trans xup_self⟩) (Nat.le_of_ble_eq_true rfl)) rfl rfl tg_X11_takes lk_X11_119 in_X11_takes se_X11_takes rfl dX11_readLine_120 rfl (Nat.le_of_ble_eq_true rfl) (Nat.le_refl _) (Nat.le_refl _) ?_
                        rintro v M9 ⟨rfl, I1, rfl, t1, f1⟩ -
                        have fy : FrY I I1 := (((FrY.rf.up30 (by decide)).up30 (by decide)).up30 (by decide)).tr f1.y
                        have hm1 : DM I1 a true := (DM.t8 hm (I' := xup (xup (xup I 30 0 0 15 (5)) 30 0 0 16 (nI st)) 30 0 0 8 (1)) (fun x => (xup_tag (by decide)).trans ((xup_tag (by decide)).trans (xup_tag (by decide)))) (fun x hx => (xup_slot (by omega)).trans ((xup_slot (by omega)).trans (xup_slot (by omega)))) (xup_self.trans (by rfl))).n f1
                        have hou : OKT n (tkT n b (Sum.inl (5, st) : tS)) := tk_ok ⟨by show 1 ≤ 5; omega, by show 5 ≤ 5; omega, g5⟩
                        obtain ⟨u, hu⟩ : ∃ u, u = tkT n b (Sum.inl (5, st) : tS) := ⟨_, rfl⟩
                        rw [← hu] at t1 hou
                        have hu1 : tkT n b (if nC a < 5 then (Sum.inr (so, (st, (nx, v))) : tS) else flT 5 (Sum.inr (so, (st, (nx, v))) : tS)) = u := by rw [hu0, hu]
                        rw [show bodyT n b w (Sum.inr (so, (st, (nx, v))) : tS) a true = _ from (if_neg (by omega)).trans (if_pos (by omega))]
                        unfold pLz uS3 uS2 uS1
                        rw [hu1]
                        rcases u with ⟨c, p⟩ | ⟨so2, st2, nx2, v2⟩
                        · skip
                          have q1 := hou.1
                          have q2 := hou.2.1
                          replace q1 : 1 ≤ c := q1
                          replace q2 : c ≤ 5 := q2
                          refine w_aload_n dX11_readLine_123 rfl ?_
                          refine w_getI ff_X11_73 rfl rfl dX11_readLine_124 ?_
                          rw [show (I1 30 0 0 15 : Int32) = nI c from t1.1]
                          refine w_if_le (tgt := 131) dX11_readLine_127 (by decide) (fun h1 => ?_) (fun h1 => ?_)
                          · skip
                            replace h1 : ((c : Nat) : Int) ≤ 0 := (zle (z_nI (by omega)) (by decide)).mp h1
                            first
                            | (exfalso; omega)
                            | skip
                              exfalso
                              omega
                          · skip
                            replace h1 : ¬ (((c : Nat) : Int) ≤ 0) := fun q => h1 ((zle (z_nI (by omega)) (by decide)).mpr q)
                            first
                            | (exfalso; omega)
                            | skip
                              exact w_return dX11_readLine_130 rfl rfl (⟨rfl, _, rfl, t1, fy, fun q z => by cases z⟩)
                        · skip
                          refine w_aload_n dX11_readLine_123 rfl ?_
                          refine w_getI ff_X11_73 rfl rfl dX11_readLine_124 ?_
                          rw [show (I1 30 0 0 15 : Int32) = 0 from t1.1]
                          refine w_if_le (tgt := 131) dX11_readLine_127 (by decide) (fun _ => ?_) (fun h => absurd (by decide) h)
                          refine w_aload_n dX11_readLine_131 rfl ?_
                          refine w_iload_n dX11_readLine_132 rfl ?_
                          cases hu
                    · skip
                      replace h5 : ((w : Nat) : Int) = 8 := (zeq (z_nI (by omega)) (by decide)).mp h5
                      first
                      | (exfalso; omega)
                      | skip
                        refine w_aload_n dX11_readLine_81 rfl ?_
                        refine w_getI ff_X11_54 rfl rfl dX11_readLine_82 ?_
                        rw [show ((xup (xup I 30 0 0 15 (5)) 30 0 0 16 (nI st)) 30 0 0 8 : Int32) = 1 from ((xup_slot (by decide)).trans ((xup_slot (by decide)).trans m8))]
                        refine w_if_ne (tgt := 92) dX11_readLine_85 (by decide) (fun _ => ?_) (fun h => absurd h (by decide))
                        refine w_iconst (v := 0) dX11_readLine_92 (by decide) ?_
                        refine w_iconst (v := 4) dX11_readLine_93 (by decide) ?_
                        refine w_callV (as := [vI (0), vI (4)]) (st := []) (Tri.mono (d_needD (I := xup (xup I 30 0 0 15 (5)) 30 0 0 16 (nI st)) (e := 5) ⟨by decide, by decide⟩ (((xup_slot (by decide)).trans xup_self).trans (by rfl)) (4)) (Nat.le_of_ble_eq_true rfl)) rfl rfl tg_X11_needs lk_X11_115 in_X11_needs se_X11_needs rfl dX11_readLine_94 rfl (Nat.le_of_ble_eq_true rfl) (Nat.le_refl _) (Nat.le_refl _) ?_
                        rintro _ _ ⟨rfl, rfl⟩ -
                        refine w_aload_n dX11_readLine_97 rfl ?_
                        refine w_aload_n dX11_readLine_98 rfl ?_
                        refine w_getI ff_X11_54 rfl rfl dX11_readLine_99 ?_
                        rw [show ((xup (xup I 30 0 0 15 (5)) 30 0 0 16 (nI st)) 30 0 0 8 : Int32) = 1 from ((xup_slot (by decide)).trans ((xup_slot (by decide)).trans m8))]
                        refine w_if_ne (tgt := 111) dX11_readLine_102 (by decide) (fun _ => ?_) (fun h => absurd h (by decide))
                        refine w_iconst (v := 1) dX11_readLine_111 (by decide) ?_
                        refine w_goto (tgt := 116) dX11_readLine_112 (by decide) ?_
                        refine w_putI ff_X11_54 rfl rfl rfl rfl dX11_readLine_116 ?_
                        have hu0 : (if nC a < 5 then (Sum.inr (so, (st, (nx, v))) : tS) else flT 5 (Sum.inr (so, (st, (nx, v))) : tS)) = (Sum.inl (5, st) : tS) := if_neg (by omega)
                        refine w_aload_n dX11_readLine_119 rfl ?_
                        refine w_callV (as := []) (st := []) (Tri.mono (d_take (I := xup (xup (xup I 30 0 0 15 (5)) 30 0 0 16 (nI st)) 30 0 0 8 (1)) hk (ht.y (((FrY.rf.up30 (by decide)).up30 (by decide)).up30 (by decide))) (s := (Sum.inl (5, st) : tS)) ⟨by show 1 ≤ 5; omega, by show 5 ≤ 5; omega, g5⟩ ⟨(xup_slot (by decide)).trans ((xup_slot (by decide)).trans xup_self), (xup_slot (by decide)).trans xup_self⟩) (Nat.le_of_ble_eq_true rfl)) rfl rfl tg_X11_takes lk_X11_119 in_X11_takes se_X11_takes rfl dX11_readLine_120 rfl (Nat.le_of_ble_eq_true rfl) (Nat.le_refl _) (Nat.le_refl _) ?_
                        rintro v M9 ⟨rfl, I1, rfl, t1, f1⟩ -
                        have fy : FrY I I1 := (((FrY.rf.up30 (by decide)).up30 (by decide)).up30 (by decide)).tr f1.y
                        have hm1 : DM I1 a true := (DM.t8 hm (I' := xup (xup (xup I 30 0 0 15 (5)) 30 0 0 16 (nI st)) 30 0 0 8 (1)) (fun x => (xup_tag (by decide)).trans ((xup_tag (by decide)).trans (xup_tag (by decide)))) (fun x hx => (xup_slot (by omega)).trans ((xup_slot (by omega)).trans (xup_slot (by omega)))) (xup_self.trans (by rfl))).n f1
                        have hou : OKT n (tkT n b (Sum.inl (5, st) : tS)) := tk_ok ⟨by show 1 ≤ 5; omega, by show 5 ≤ 5; omega, g5⟩
                        obtain ⟨u, hu⟩ : ∃ u, u = tkT n b (Sum.inl (5, st) : tS) := ⟨_, rfl⟩
                        rw [← hu] at t1 hou
                        have hu1 : tkT n b (if nC a < 5 then (Sum.inr (so, (st, (nx, v))) : tS) else flT 5 (Sum.inr (so, (st, (nx, v))) : tS)) = u := by rw [hu0, hu]
                        rw [show bodyT n b w (Sum.inr (so, (st, (nx, v))) : tS) a true = _ from (if_neg (by omega)).trans (if_pos (by omega))]
                        unfold pLz uS3 uS2 uS1
                        rw [hu1]
                        rcases u with ⟨c, p⟩ | ⟨so2, st2, nx2, v2⟩
                        · skip
                          have q1 := hou.1
                          have q2 := hou.2.1
                          replace q1 : 1 ≤ c := q1
                          replace q2 : c ≤ 5 := q2
                          refine w_aload_n dX11_readLine_123 rfl ?_
                          refine w_getI ff_X11_73 rfl rfl dX11_readLine_124 ?_
                          rw [show (I1 30 0 0 15 : Int32) = nI c from t1.1]
                          refine w_if_le (tgt := 131) dX11_readLine_127 (by decide) (fun h1 => ?_) (fun h1 => ?_)
                          · skip
                            replace h1 : ((c : Nat) : Int) ≤ 0 := (zle (z_nI (by omega)) (by decide)).mp h1
                            first
                            | (exfalso; omega)
                            | skip
                              exfalso
                              omega
                          · skip
                            replace h1 : ¬ (((c : Nat) : Int) ≤ 0) := fun q => h1 ((zle (z_nI (by omega)) (by decide)).mpr q)
                            first
                            | (exfalso; omega)
                            | skip
                              exact w_return dX11_readLine_130 rfl rfl (⟨rfl, _, rfl, t1, fy, fun q z => by cases z⟩)
                        · skip
                          refine w_aload_n dX11_readLine_123 rfl ?_
                          refine w_getI ff_X11_73 rfl rfl dX11_readLine_124 ?_
                          rw [show (I1 30 0 0 15 : Int32) = 0 from t1.1]
                          refine w_if_le (tgt := 131) dX11_readLine_127 (by decide) (fun _ => ?_) (fun h => absurd (by decide) h)
                          refine w_aload_n dX11_readLine_131 rfl ?_
                          refine w_iload_n dX11_readLine_132 rfl ?_
                          cases hu
                · skip
                  replace h4 : ¬ (4 ≤ ((nJ a : Nat) : Int)) := fun q => h4 ((zle (by decide) (z_nI (by omega))).mpr q)
                  first
                  | (exfalso; omega)
                  | skip
                    refine w_iconst (v := 1) dX11_readLine_65 (by decide) ?_
                    refine w_goto (tgt := 70) dX11_readLine_66 (by decide) ?_
                    refine w_iconst (v := 5) dX11_readLine_70 (by decide) ?_
                    refine w_callV (as := [vI (1), vI (5)]) (st := []) (Tri.mono (d_need1 (I := I) (5)) (Nat.le_of_ble_eq_true rfl)) rfl rfl tg_X11_needs lk_X11_115 in_X11_needs se_X11_needs rfl dX11_readLine_71 rfl (Nat.le_of_ble_eq_true rfl) (Nat.le_refl _) (Nat.le_refl _) ?_
                    rintro _ _ ⟨rfl, rfl⟩ -
                    refine w_aload_n dX11_readLine_74 rfl ?_
                    refine w_iload_n dX11_readLine_75 rfl ?_
                    refine w_bipush (v := 8) dX11_readLine_76 (by decide) ?_
                    refine w_icmp_ne (tgt := 88) dX11_readLine_78 (by decide) (fun h5 => ?_) (fun h5 => ?_)
                    · skip
                      replace h5 : ¬ (((w : Nat) : Int) = 8) := fun q => h5 ((zeq (z_nI (by omega)) (by decide)).mpr q)
                      first
                      | (exfalso; omega)
                      | skip
                        refine w_iconst (v := 1) dX11_readLine_88 (by decide) ?_
                        refine w_goto (tgt := 93) dX11_readLine_89 (by decide) ?_
                        refine w_iconst (v := 4) dX11_readLine_93 (by decide) ?_
                        refine w_callV (as := [vI (1), vI (4)]) (st := []) (Tri.mono (d_need1 (I := I) (4)) (Nat.le_of_ble_eq_true rfl)) rfl rfl tg_X11_needs lk_X11_115 in_X11_needs se_X11_needs rfl dX11_readLine_94 rfl (Nat.le_of_ble_eq_true rfl) (Nat.le_refl _) (Nat.le_refl _) ?_
                        rintro _ _ ⟨rfl, rfl⟩ -
                        refine w_aload_n dX11_readLine_97 rfl ?_
                        refine w_aload_n dX11_readLine_98 rfl ?_
                        refine w_getI ff_X11_54 rfl rfl dX11_readLine_99 ?_
                        rw [show (I 30 0 0 8 : Int32) = 1 from m8]
                        refine w_if_ne (tgt := 111) dX11_readLine_102 (by decide) (fun _ => ?_) (fun h => absurd h (by decide))
                        refine w_iconst (v := 1) dX11_readLine_111 (by decide) ?_
                        refine w_goto (tgt := 116) dX11_readLine_112 (by decide) ?_
                        refine w_putI ff_X11_54 rfl rfl rfl rfl dX11_readLine_116 ?_
                        have hu0 : (if nC a < 5 then (Sum.inr (so, (st, (nx, v))) : tS) else flT 5 (Sum.inr (so, (st, (nx, v))) : tS)) = (Sum.inr (so, (st, (nx, v))) : tS) := if_pos (by omega)
                        refine w_aload_n dX11_readLine_119 rfl ?_
                        refine w_callV (as := []) (st := []) (Tri.mono (d_take (I := xup I 30 0 0 8 (1)) hk (ht.y (FrY.rf.up30 (by decide))) (s := (Sum.inr (so, (st, (nx, v))) : tS)) hok (h.eqv (fun x hx => xup_slot (by omega)))) (Nat.le_of_ble_eq_true rfl)) rfl rfl tg_X11_takes lk_X11_119 in_X11_takes se_X11_takes rfl dX11_readLine_120 rfl (Nat.le_of_ble_eq_true rfl) (Nat.le_refl _) (Nat.le_refl _) ?_
                        rintro v M9 ⟨rfl, I1, rfl, t1, f1⟩ -
                        have fy : FrY I I1 := (FrY.rf.up30 (by decide)).tr f1.y
                        have hm1 : DM I1 a true := (DM.t8 hm (I' := xup I 30 0 0 8 (1)) (fun x => xup_tag (by decide)) (fun x hx => xup_slot (by omega)) (xup_self.trans (by rfl))).n f1
                        have hou : OKT n (tkT n b (Sum.inr (so, (st, (nx, v))) : tS)) := tk_ok hok
                        obtain ⟨u, hu⟩ : ∃ u, u = tkT n b (Sum.inr (so, (st, (nx, v))) : tS) := ⟨_, rfl⟩
                        rw [← hu] at t1 hou
                        have hu1 : tkT n b (if nC a < 5 then (Sum.inr (so, (st, (nx, v))) : tS) else flT 5 (Sum.inr (so, (st, (nx, v))) : tS)) = u := by rw [hu0, hu]
                        rw [show bodyT n b w (Sum.inr (so, (st, (nx, v))) : tS) a true = _ from (if_neg (by omega)).trans (if_pos (by omega))]
                        unfold pLz uS3 uS2 uS1
                        rw [hu1]
                        rcases u with ⟨c, p⟩ | ⟨so2, st2, nx2, v2⟩
                        · skip
                          have q1 := hou.1
                          have q2 := hou.2.1
                          replace q1 : 1 ≤ c := q1
                          replace q2 : c ≤ 5 := q2
                          refine w_aload_n dX11_readLine_123 rfl ?_
                          refine w_getI ff_X11_73 rfl rfl dX11_readLine_124 ?_
                          rw [show (I1 30 0 0 15 : Int32) = nI c from t1.1]
                          refine w_if_le (tgt := 131) dX11_readLine_127 (by decide) (fun h1 => ?_) (fun h1 => ?_)
                          · skip
                            replace h1 : ((c : Nat) : Int) ≤ 0 := (zle (z_nI (by omega)) (by decide)).mp h1
                            first
                            | (exfalso; omega)
                            | skip
                              exfalso
                              omega
                          · skip
                            replace h1 : ¬ (((c : Nat) : Int) ≤ 0) := fun q => h1 ((zle (z_nI (by omega)) (by decide)).mpr q)
                            first
                            | (exfalso; omega)
                            | skip
                              exact w_return dX11_readLine_130 rfl rfl (⟨rfl, _, rfl, t1, fy, fun q z => by cases z⟩)
                        · skip
                          refine w_aload_n dX11_readLine_123 rfl ?_
                          refine w_getI ff_X11_73 rfl rfl dX11_readLine_124 ?_
                          rw [show (I1 30 0 0 15 : Int32) = 0 from t1.1]
                          refine w_if_le (tgt := 131) dX11_readLine_127 (by decide) (fun _ => ?_) (fun h => absurd (by decide) h)
                          refine w_aload_n dX11_readLine_131 rfl ?_
                          refine w_iload_n dX11_readLine_132 rfl ?_
                          refine w_callV (as := [vI (nI w)]) (st := []) (Tri.mono (d_lineS hk (ht.y fy) hou t1 hd hm1 (by omega) (by omega) (by omega)) (Nat.le_of_ble_eq_true rfl)) rfl rfl tg_X11_readLineOf lk_X11_133 in_X11_readLineOf se_X11_readLineOf rfl dX11_readLine_133 rfl (Nat.le_of_ble_eq_true rfl) (Nat.le_refl _) (Nat.le_refl _) ?_
                          rintro v M9 ⟨rfl, I2, rfl, t2, f2, m2⟩ -
                          exact l_rdEnd hk (ht.y (fy.tr f2)) (tk_ok (ch_ok (tk_ok (ch_ok (tk_ok (ch_ok hou)))))) t2 (fun I3 t3 f3 => ⟨rfl, _, rfl, t3, fy.tr (f2.tr f3.y), fun q z => m2.n f3⟩)
                    · skip
                      replace h5 : ((w : Nat) : Int) = 8 := (zeq (z_nI (by omega)) (by decide)).mp h5
                      first
                      | (exfalso; omega)
                      | skip
                        refine w_aload_n dX11_readLine_81 rfl ?_
                        refine w_getI ff_X11_54 rfl rfl dX11_readLine_82 ?_
                        rw [show (I 30 0 0 8 : Int32) = 1 from m8]
                        refine w_if_ne (tgt := 92) dX11_readLine_85 (by decide) (fun _ => ?_) (fun h => absurd h (by decide))
                        refine w_iconst (v := 0) dX11_readLine_92 (by decide) ?_
                        refine w_iconst (v := 4) dX11_readLine_93 (by decide) ?_
                        refine w_callV (as := [vI (0), vI (4)]) (st := []) (Tri.mono (d_needL (I := I) h.1 h.2.2.1 (4)) (Nat.le_of_ble_eq_true rfl)) rfl rfl tg_X11_needs lk_X11_115 in_X11_needs se_X11_needs rfl dX11_readLine_94 rfl (Nat.le_of_ble_eq_true rfl) (Nat.le_refl _) (Nat.le_refl _) ?_
                        rintro _ _ ⟨rfl, rfl⟩ -
                        refine w_aload_n dX11_readLine_97 rfl ?_
                        refine w_aload_n dX11_readLine_98 rfl ?_
                        refine w_getI ff_X11_54 rfl rfl dX11_readLine_99 ?_
                        rw [show ((xup (xup I 30 0 0 15 (4)) 30 0 0 16 (nI st)) 30 0 0 8 : Int32) = 1 from ((xup_slot (by decide)).trans ((xup_slot (by decide)).trans m8))]
                        refine w_if_ne (tgt := 111) dX11_readLine_102 (by decide) (fun _ => ?_) (fun h => absurd h (by decide))
                        refine w_iconst (v := 1) dX11_readLine_111 (by decide) ?_
                        refine w_goto (tgt := 116) dX11_readLine_112 (by decide) ?_
                        refine w_putI ff_X11_54 rfl rfl rfl rfl dX11_readLine_116 ?_
                        have hu0 : (if nC a < 5 then (Sum.inr (so, (st, (nx, v))) : tS) else flT 5 (Sum.inr (so, (st, (nx, v))) : tS)) = (Sum.inl (4, st) : tS) := if_neg (by omega)
                        refine w_aload_n dX11_readLine_119 rfl ?_
                        refine w_callV (as := []) (st := []) (Tri.mono (d_take (I := xup (xup (xup I 30 0 0 15 (4)) 30 0 0 16 (nI st)) 30 0 0 8 (1)) hk (ht.y (((FrY.rf.up30 (by decide)).up30 (by decide)).up30 (by decide))) (s := (Sum.inl (4, st) : tS)) ⟨by show 1 ≤ 4; omega, by show 4 ≤ 5; omega, g5⟩ ⟨(xup_slot (by decide)).trans ((xup_slot (by decide)).trans xup_self), (xup_slot (by decide)).trans xup_self⟩) (Nat.le_of_ble_eq_true rfl)) rfl rfl tg_X11_takes lk_X11_119 in_X11_takes se_X11_takes rfl dX11_readLine_120 rfl (Nat.le_of_ble_eq_true rfl) (Nat.le_refl _) (Nat.le_refl _) ?_
                        rintro v M9 ⟨rfl, I1, rfl, t1, f1⟩ -
                        have fy : FrY I I1 := (((FrY.rf.up30 (by decide)).up30 (by decide)).up30 (by decide)).tr f1.y
                        have hm1 : DM I1 a true := (DM.t8 hm (I' := xup (xup (xup I 30 0 0 15 (4)) 30 0 0 16 (nI st)) 30 0 0 8 (1)) (fun x => (xup_tag (by decide)).trans ((xup_tag (by decide)).trans (xup_tag (by decide)))) (fun x hx => (xup_slot (by omega)).trans ((xup_slot (by omega)).trans (xup_slot (by omega)))) (xup_self.trans (by rfl))).n f1
                        have hou : OKT n (tkT n b (Sum.inl (4, st) : tS)) := tk_ok ⟨by show 1 ≤ 4; omega, by show 4 ≤ 5; omega, g5⟩
                        obtain ⟨u, hu⟩ : ∃ u, u = tkT n b (Sum.inl (4, st) : tS) := ⟨_, rfl⟩
                        rw [← hu] at t1 hou
                        have hu1 : tkT n b (if nC a < 5 then (Sum.inr (so, (st, (nx, v))) : tS) else flT 5 (Sum.inr (so, (st, (nx, v))) : tS)) = u := by rw [hu0, hu]
                        rw [show bodyT n b w (Sum.inr (so, (st, (nx, v))) : tS) a true = _ from (if_neg (by omega)).trans (if_pos (by omega))]
                        unfold pLz uS3 uS2 uS1
                        rw [hu1]
                        rcases u with ⟨c, p⟩ | ⟨so2, st2, nx2, v2⟩
                        · skip
                          have q1 := hou.1
                          have q2 := hou.2.1
                          replace q1 : 1 ≤ c := q1
                          replace q2 : c ≤ 5 := q2
                          refine w_aload_n dX11_readLine_123 rfl ?_
                          refine w_getI ff_X11_73 rfl rfl dX11_readLine_124 ?_
                          rw [show (I1 30 0 0 15 : Int32) = nI c from t1.1]
                          refine w_if_le (tgt := 131) dX11_readLine_127 (by decide) (fun h1 => ?_) (fun h1 => ?_)
                          · skip
                            replace h1 : ((c : Nat) : Int) ≤ 0 := (zle (z_nI (by omega)) (by decide)).mp h1
                            first
                            | (exfalso; omega)
                            | skip
                              exfalso
                              omega
                          · skip
                            replace h1 : ¬ (((c : Nat) : Int) ≤ 0) := fun q => h1 ((zle (z_nI (by omega)) (by decide)).mpr q)
                            first
                            | (exfalso; omega)
                            | skip
                              exact w_return dX11_readLine_130 rfl rfl (⟨rfl, _, rfl, t1, fy, fun q z => by cases z⟩)
                        · skip
                          refine w_aload_n dX11_readLine_123 rfl ?_
                          refine w_getI ff_X11_73 rfl rfl dX11_readLine_124 ?_
                          rw [show (I1 30 0 0 15 : Int32) = 0 from t1.1]
                          refine w_if_le (tgt := 131) dX11_readLine_127 (by decide) (fun _ => ?_) (fun h => absurd (by decide) h)
                          refine w_aload_n dX11_readLine_131 rfl ?_
                          refine w_iload_n dX11_readLine_132 rfl ?_
                          cases hu
            · skip
              replace h3 : ¬ (((w : Nat) : Int) < 4) := fun q => h3 ((zlt (z_nI (by omega)) (by decide)).mpr q)
              first
              | (exfalso; omega)
              | skip
                refine w_aload_n dX11_readLine_46 rfl ?_
                refine w_getI ff_X11_51 rfl rfl dX11_readLine_47 ?_
                rw [show (I 30 0 0 7 : Int32) = nI (nC a) from m7]
                refine w_iconst (v := 5) dX11_readLine_50 (by decide) ?_
                refine w_icmp_ge (tgt := 69) dX11_readLine_51 (by decide) (fun h4 => ?_) (fun h4 => ?_)
                · skip
                  replace h4 : 5 ≤ ((nC a : Nat) : Int) := (zle (by decide) (z_nI (by omega))).mp h4
                  first
                  | (exfalso; omega)
                  | skip
                    refine w_iconst (v := 0) dX11_readLine_69 (by decide) ?_
                    refine w_iconst (v := 5) dX11_readLine_70 (by decide) ?_
                    refine w_callV (as := [vI (0), vI (5)]) (st := []) (Tri.mono (d_needL (I := I) h.1 h.2.2.1 (5)) (Nat.le_of_ble_eq_true rfl)) rfl rfl tg_X11_needs lk_X11_115 in_X11_needs se_X11_needs rfl dX11_readLine_71 rfl (Nat.le_of_ble_eq_true rfl) (Nat.le_refl _) (Nat.le_refl _) ?_
                    rintro _ _ ⟨rfl, rfl⟩ -
                    refine w_aload_n dX11_readLine_74 rfl ?_
                    refine w_iload_n dX11_readLine_75 rfl ?_
                    refine w_bipush (v := 8) dX11_readLine_76 (by decide) ?_
                    refine w_icmp_ne (tgt := 88) dX11_readLine_78 (by decide) (fun h5 => ?_) (fun h5 => ?_)
                    · skip
                      replace h5 : ¬ (((w : Nat) : Int) = 8) := fun q => h5 ((zeq (z_nI (by omega)) (by decide)).mpr q)
                      first
                      | (exfalso; omega)
                      | skip
                        refine w_iconst (v := 1) dX11_readLine_88 (by decide) ?_
                        refine w_goto (tgt := 93) dX11_readLine_89 (by decide) ?_
                        refine w_iconst (v := 4) dX11_readLine_93 (by decide) ?_
                        refine w_callV (as := [vI (1), vI (4)]) (st := []) (Tri.mono (d_need1 (I := xup (xup I 30 0 0 15 (5)) 30 0 0 16 (nI st)) (4)) (Nat.le_of_ble_eq_true rfl)) rfl rfl tg_X11_needs lk_X11_115 in_X11_needs se_X11_needs rfl dX11_readLine_94 rfl (Nat.le_of_ble_eq_true rfl) (Nat.le_refl _) (Nat.le_refl _) ?_
                        rintro _ _ ⟨rfl, rfl⟩ -
                        refine w_aload_n dX11_readLine_97 rfl ?_
                        refine w_aload_n dX11_readLine_98 rfl ?_
                        refine w_getI ff_X11_54 rfl rfl dX11_readLine_99 ?_
                        rw [show ((xup (xup I 30 0 0 15 (5)) 30 0 0 16 (nI st)) 30 0 0 8 : Int32) = 1 from ((xup_slot (by decide)).trans ((xup_slot (by decide)).trans m8))]
                        refine w_if_ne (tgt := 111) dX11_readLine_102 (by decide) (fun _ => ?_) (fun h => absurd h (by decide))
                        refine w_iconst (v := 1) dX11_readLine_111 (by decide) ?_
                        refine w_goto (tgt := 116) dX11_readLine_112 (by decide) ?_
                        refine w_putI ff_X11_54 rfl rfl rfl rfl dX11_readLine_116 ?_
                        have hu0 : (if nC a < 5 then (Sum.inr (so, (st, (nx, v))) : tS) else flT 5 (Sum.inr (so, (st, (nx, v))) : tS)) = (Sum.inl (5, st) : tS) := if_neg (by omega)
                        refine w_aload_n dX11_readLine_119 rfl ?_
                        refine w_callV (as := []) (st := []) (Tri.mono (d_take (I := xup (xup (xup I 30 0 0 15 (5)) 30 0 0 16 (nI st)) 30 0 0 8 (1)) hk (ht.y (((FrY.rf.up30 (by decide)).up30 (by decide)).up30 (by decide))) (s := (Sum.inl (5, st) : tS)) ⟨by show 1 ≤ 5; omega, by show 5 ≤ 5; omega, g5⟩ ⟨(xup_slot (by decide)).trans ((xup_slot (by decide)).trans xup_self), (xup_slot (by decide)).trans xup_self⟩) (Nat.le_of_ble_eq_true rfl)) rfl rfl tg_X11_takes lk_X11_119 in_X11_takes se_X11_takes rfl dX11_readLine_120 rfl (Nat.le_of_ble_eq_true rfl) (Nat.le_refl _) (Nat.le_refl _) ?_
                        rintro v M9 ⟨rfl, I1, rfl, t1, f1⟩ -
                        have fy : FrY I I1 := (((FrY.rf.up30 (by decide)).up30 (by decide)).up30 (by decide)).tr f1.y
                        have hm1 : DM I1 a true := (DM.t8 hm (I' := xup (xup (xup I 30 0 0 15 (5)) 30 0 0 16 (nI st)) 30 0 0 8 (1)) (fun x => (xup_tag (by decide)).trans ((xup_tag (by decide)).trans (xup_tag (by decide)))) (fun x hx => (xup_slot (by omega)).trans ((xup_slot (by omega)).trans (xup_slot (by omega)))) (xup_self.trans (by rfl))).n f1
                        have hou : OKT n (tkT n b (Sum.inl (5, st) : tS)) := tk_ok ⟨by show 1 ≤ 5; omega, by show 5 ≤ 5; omega, g5⟩
                        obtain ⟨u, hu⟩ : ∃ u, u = tkT n b (Sum.inl (5, st) : tS) := ⟨_, rfl⟩
                        rw [← hu] at t1 hou
                        have hu1 : tkT n b (if nC a < 5 then (Sum.inr (so, (st, (nx, v))) : tS) else flT 5 (Sum.inr (so, (st, (nx, v))) : tS)) = u := by rw [hu0, hu]
                        rw [show bodyT n b w (Sum.inr (so, (st, (nx, v))) : tS) a true = _ from (if_neg (by omega)).trans (if_pos (by omega))]
                        unfold pLz uS3 uS2 uS1
                        rw [hu1]
                        rcases u with ⟨c, p⟩ | ⟨so2, st2, nx2, v2⟩
                        · skip
                          have q1 := hou.1
                          have q2 := hou.2.1
                          replace q1 : 1 ≤ c := q1
                          replace q2 : c ≤ 5 := q2
                          refine w_aload_n dX11_readLine_123 rfl ?_
                          refine w_getI ff_X11_73 rfl rfl dX11_readLine_124 ?_
                          rw [show (I1 30 0 0 15 : Int32) = nI c from t1.1]
                          refine w_if_le (tgt := 131) dX11_readLine_127 (by decide) (fun h1 => ?_) (fun h1 => ?_)
                          · skip
                            replace h1 : ((c : Nat) : Int) ≤ 0 := (zle (z_nI (by omega)) (by decide)).mp h1
                            first
                            | (exfalso; omega)
                            | skip
                              exfalso
                              omega
                          · skip
                            replace h1 : ¬ (((c : Nat) : Int) ≤ 0) := fun q => h1 ((zle (z_nI (by omega)) (by decide)).mpr q)
                            first
                            | (exfalso; omega)
                            | skip
                              exact w_return dX11_readLine_130 rfl rfl (⟨rfl, _, rfl, t1, fy, fun q z => by cases z⟩)
                        · skip
                          refine w_aload_n dX11_readLine_123 rfl ?_
                          refine w_getI ff_X11_73 rfl rfl dX11_readLine_124 ?_
                          rw [show (I1 30 0 0 15 : Int32) = 0 from t1.1]
                          refine w_if_le (tgt := 131) dX11_readLine_127 (by decide) (fun _ => ?_) (fun h => absurd (by decide) h)
                          refine w_aload_n dX11_readLine_131 rfl ?_
                          refine w_iload_n dX11_readLine_132 rfl ?_
                          cases hu
                    · skip
                      replace h5 : ((w : Nat) : Int) = 8 := (zeq (z_nI (by omega)) (by decide)).mp h5
                      first
                      | (exfalso; omega)
                      | skip
                        refine w_aload_n dX11_readLine_81 rfl ?_
                        refine w_getI ff_X11_54 rfl rfl dX11_readLine_82 ?_
                        rw [show ((xup (xup I 30 0 0 15 (5)) 30 0 0 16 (nI st)) 30 0 0 8 : Int32) = 1 from ((xup_slot (by decide)).trans ((xup_slot (by decide)).trans m8))]
                        refine w_if_ne (tgt := 92) dX11_readLine_85 (by decide) (fun _ => ?_) (fun h => absurd h (by decide))
                        refine w_iconst (v := 0) dX11_readLine_92 (by decide) ?_
                        refine w_iconst (v := 4) dX11_readLine_93 (by decide) ?_
                        refine w_callV (as := [vI (0), vI (4)]) (st := []) (Tri.mono (d_needD (I := xup (xup I 30 0 0 15 (5)) 30 0 0 16 (nI st)) (e := 5) ⟨by decide, by decide⟩ (((xup_slot (by decide)).trans xup_self).trans (by rfl)) (4)) (Nat.le_of_ble_eq_true rfl)) rfl rfl tg_X11_needs lk_X11_115 in_X11_needs se_X11_needs rfl dX11_readLine_94 rfl (Nat.le_of_ble_eq_true rfl) (Nat.le_refl _) (Nat.le_refl _) ?_
                        rintro _ _ ⟨rfl, rfl⟩ -
                        refine w_aload_n dX11_readLine_97 rfl ?_
                        refine w_aload_n dX11_readLine_98 rfl ?_
                        refine w_getI ff_X11_54 rfl rfl dX11_readLine_99 ?_
                        rw [show ((xup (xup I 30 0 0 15 (5)) 30 0 0 16 (nI st)) 30 0 0 8 : Int32) = 1 from ((xup_slot (by decide)).trans ((xup_slot (by decide)).trans m8))]
                        refine w_if_ne (tgt := 111) dX11_readLine_102 (by decide) (fun _ => ?_) (fun h => absurd h (by decide))
                        refine w_iconst (v := 1) dX11_readLine_111 (by decide) ?_
                        refine w_goto (tgt := 116) dX11_readLine_112 (by decide) ?_
                        refine w_putI ff_X11_54 rfl rfl rfl rfl dX11_readLine_116 ?_
                        have hu0 : (if nC a < 5 then (Sum.inr (so, (st, (nx, v))) : tS) else flT 5 (Sum.inr (so, (st, (nx, v))) : tS)) = (Sum.inl (5, st) : tS) := if_neg (by omega)
                        refine w_aload_n dX11_readLine_119 rfl ?_
                        refine w_callV (as := []) (st := []) (Tri.mono (d_take (I := xup (xup (xup I 30 0 0 15 (5)) 30 0 0 16 (nI st)) 30 0 0 8 (1)) hk (ht.y (((FrY.rf.up30 (by decide)).up30 (by decide)).up30 (by decide))) (s := (Sum.inl (5, st) : tS)) ⟨by show 1 ≤ 5; omega, by show 5 ≤ 5; omega, g5⟩ ⟨(xup_slot (by decide)).trans ((xup_slot (by decide)).trans xup_self), (xup_slot (by decide)).trans xup_self⟩) (Nat.le_of_ble_eq_true rfl)) rfl rfl tg_X11_takes lk_X11_119 in_X11_takes se_X11_takes rfl dX11_readLine_120 rfl (Nat.le_of_ble_eq_true rfl) (Nat.le_refl _) (Nat.le_refl _) ?_
                        rintro v M9 ⟨rfl, I1, rfl, t1, f1⟩ -
                        have fy : FrY I I1 := (((FrY.rf.up30 (by decide)).up30 (by decide)).up30 (by decide)).tr f1.y
                        have hm1 : DM I1 a true := (DM.t8 hm (I' := xup (xup (xup I 30 0 0 15 (5)) 30 0 0 16 (nI st)) 30 0 0 8 (1)) (fun x => (xup_tag (by decide)).trans ((xup_tag (by decide)).trans (xup_tag (by decide)))) (fun x hx => (xup_slot (by omega)).trans ((xup_slot (by omega)).trans (xup_slot (by omega)))) (xup_self.trans (by rfl))).n f1
                        have hou : OKT n (tkT n b (Sum.inl (5, st) : tS)) := tk_ok ⟨by show 1 ≤ 5; omega, by show 5 ≤ 5; omega, g5⟩
                        obtain ⟨u, hu⟩ : ∃ u, u = tkT n b (Sum.inl (5, st) : tS) := ⟨_, rfl⟩
                        rw [← hu] at t1 hou
                        have hu1 : tkT n b (if nC a < 5 then (Sum.inr (so, (st, (nx, v))) : tS) else flT 5 (Sum.inr (so, (st, (nx, v))) : tS)) = u := by rw [hu0, hu]
                        rw [show bodyT n b w (Sum.inr (so, (st, (nx, v))) : tS) a true = _ from (if_neg (by omega)).trans (if_pos (by omega))]
                        unfold pLz uS3 uS2 uS1
                        rw [hu1]
                        rcases u with ⟨c, p⟩ | ⟨so2, st2, nx2, v2⟩
                        · skip
                          have q1 := hou.1
                          have q2 := hou.2.1
                          replace q1 : 1 ≤ c := q1
                          replace q2 : c ≤ 5 := q2
                          refine w_aload_n dX11_readLine_123 rfl ?_
                          refine w_getI ff_X11_73 rfl rfl dX11_readLine_124 ?_
                          rw [show (I1 30 0 0 15 : Int32) = nI c from t1.1]
                          refine w_if_le (tgt := 131) dX11_readLine_127 (by decide) (fun h1 => ?_) (fun h1 => ?_)
                          · skip
                            replace h1 : ((c : Nat) : Int) ≤ 0 := (zle (z_nI (by omega)) (by decide)).mp h1
                            first
                            | (exfalso; omega)
                            | skip
                              exfalso
                              omega
                          · skip
                            replace h1 : ¬ (((c : Nat) : Int) ≤ 0) := fun q => h1 ((zle (z_nI (by omega)) (by decide)).mpr q)
                            first
                            | (exfalso; omega)
                            | skip
                              exact w_return dX11_readLine_130 rfl rfl (⟨rfl, _, rfl, t1, fy, fun q z => by cases z⟩)
                        · skip
                          refine w_aload_n dX11_readLine_123 rfl ?_
                          refine w_getI ff_X11_73 rfl rfl dX11_readLine_124 ?_
                          rw [show (I1 30 0 0 15 : Int32) = 0 from t1.1]
                          refine w_if_le (tgt := 131) dX11_readLine_127 (by decide) (fun _ => ?_) (fun h => absurd (by decide) h)
                          refine w_aload_n dX11_readLine_131 rfl ?_
                          refine w_iload_n dX11_readLine_132 rfl ?_
                          cases hu
                · skip
                  replace h4 : ¬ (5 ≤ ((nC a : Nat) : Int)) := fun q => h4 ((zle (by decide) (z_nI (by omega))).mpr q)
                  first
                  | (exfalso; omega)
                  | skip
                    refine w_goto (tgt := 65) dX11_readLine_54 (by decide) ?_
                    refine w_iconst (v := 1) dX11_readLine_65 (by decide) ?_
                    refine w_goto (tgt := 70) dX11_readLine_66 (by decide) ?_
                    refine w_iconst (v := 5) dX11_readLine_70 (by decide) ?_
                    refine w_callV (as := [vI (1), vI (5)]) (st := []) (Tri.mono (d_need1 (I := I) (5)) (Nat.le_of_ble_eq_true rfl)) rfl rfl tg_X11_needs lk_X11_115 in_X11_needs se_X11_needs rfl dX11_readLine_71 rfl (Nat.le_of_ble_eq_true rfl) (Nat.le_refl _) (Nat.le_refl _) ?_
                    rintro _ _ ⟨rfl, rfl⟩ -
                    refine w_aload_n dX11_readLine_74 rfl ?_
                    refine w_iload_n dX11_readLine_75 rfl ?_
                    refine w_bipush (v := 8) dX11_readLine_76 (by decide) ?_
                    refine w_icmp_ne (tgt := 88) dX11_readLine_78 (by decide) (fun h5 => ?_) (fun h5 => ?_)
                    · skip
                      replace h5 : ¬ (((w : Nat) : Int) = 8) := fun q => h5 ((zeq (z_nI (by omega)) (by decide)).mpr q)
                      first
                      | (exfalso; omega)
                      | skip
                        refine w_iconst (v := 1) dX11_readLine_88 (by decide) ?_
                        refine w_goto (tgt := 93) dX11_readLine_89 (by decide) ?_
                        refine w_iconst (v := 4) dX11_readLine_93 (by decide) ?_
                        refine w_callV (as := [vI (1), vI (4)]) (st := []) (Tri.mono (d_need1 (I := I) (4)) (Nat.le_of_ble_eq_true rfl)) rfl rfl tg_X11_needs lk_X11_115 in_X11_needs se_X11_needs rfl dX11_readLine_94 rfl (Nat.le_of_ble_eq_true rfl) (Nat.le_refl _) (Nat.le_refl _) ?_
                        rintro _ _ ⟨rfl, rfl⟩ -
                        refine w_aload_n dX11_readLine_97 rfl ?_
                        refine w_aload_n dX11_readLine_98 rfl ?_
                        refine w_getI ff_X11_54 rfl rfl dX11_readLine_99 ?_
                        rw [show (I 30 0 0 8 : Int32) = 1 from m8]
                        refine w_if_ne (tgt := 111) dX11_readLine_102 (by decide) (fun _ => ?_) (fun h => absurd h (by decide))
                        refine w_iconst (v := 1) dX11_readLine_111 (by decide) ?_
                        refine w_goto (tgt := 116) dX11_readLine_112 (by decide) ?_
                        refine w_putI ff_X11_54 rfl rfl rfl rfl dX11_readLine_116 ?_
                        have hu0 : (if nC a < 5 then (Sum.inr (so, (st, (nx, v))) : tS) else flT 5 (Sum.inr (so, (st, (nx, v))) : tS)) = (Sum.inr (so, (st, (nx, v))) : tS) := if_pos (by omega)
                        refine w_aload_n dX11_readLine_119 rfl ?_
                        refine w_callV (as := []) (st := []) (Tri.mono (d_take (I := xup I 30 0 0 8 (1)) hk (ht.y (FrY.rf.up30 (by decide))) (s := (Sum.inr (so, (st, (nx, v))) : tS)) hok (h.eqv (fun x hx => xup_slot (by omega)))) (Nat.le_of_ble_eq_true rfl)) rfl rfl tg_X11_takes lk_X11_119 in_X11_takes se_X11_takes rfl dX11_readLine_120 rfl (Nat.le_of_ble_eq_true rfl) (Nat.le_refl _) (Nat.le_refl _) ?_
                        rintro v M9 ⟨rfl, I1, rfl, t1, f1⟩ -
                        have fy : FrY I I1 := (FrY.rf.up30 (by decide)).tr f1.y
                        have hm1 : DM I1 a true := (DM.t8 hm (I' := xup I 30 0 0 8 (1)) (fun x => xup_tag (by decide)) (fun x hx => xup_slot (by omega)) (xup_self.trans (by rfl))).n f1
                        have hou : OKT n (tkT n b (Sum.inr (so, (st, (nx, v))) : tS)) := tk_ok hok
                        obtain ⟨u, hu⟩ : ∃ u, u = tkT n b (Sum.inr (so, (st, (nx, v))) : tS) := ⟨_, rfl⟩
                        rw [← hu] at t1 hou
                        have hu1 : tkT n b (if nC a < 5 then (Sum.inr (so, (st, (nx, v))) : tS) else flT 5 (Sum.inr (so, (st, (nx, v))) : tS)) = u := by rw [hu0, hu]
                        rw [show bodyT n b w (Sum.inr (so, (st, (nx, v))) : tS) a true = _ from (if_neg (by omega)).trans (if_pos (by omega))]
                        unfold pLz uS3 uS2 uS1
                        rw [hu1]
                        rcases u with ⟨c, p⟩ | ⟨so2, st2, nx2, v2⟩
                        · skip
                          have q1 := hou.1
                          have q2 := hou.2.1
                          replace q1 : 1 ≤ c := q1
                          replace q2 : c ≤ 5 := q2
                          refine w_aload_n dX11_readLine_123 rfl ?_
                          refine w_getI ff_X11_73 rfl rfl dX11_readLine_124 ?_
                          rw [show (I1 30 0 0 15 : Int32) = nI c from t1.1]
                          refine w_if_le (tgt := 131) dX11_readLine_127 (by decide) (fun h1 => ?_) (fun h1 => ?_)
                          · skip
                            replace h1 : ((c : Nat) : Int) ≤ 0 := (zle (z_nI (by omega)) (by decide)).mp h1
                            first
                            | (exfalso; omega)
                            | skip
                              exfalso
                              omega
                          · skip
                            replace h1 : ¬ (((c : Nat) : Int) ≤ 0) := fun q => h1 ((zle (z_nI (by omega)) (by decide)).mpr q)
                            first
                            | (exfalso; omega)
                            | skip
                              exact w_return dX11_readLine_130 rfl rfl (⟨rfl, _, rfl, t1, fy, fun q z => by cases z⟩)
                        · skip
                          refine w_aload_n dX11_readLine_123 rfl ?_
                          refine w_getI ff_X11_73 rfl rfl dX11_readLine_124 ?_
                          rw [show (I1 30 0 0 15 : Int32) = 0 from t1.1]
                          refine w_if_le (tgt := 131) dX11_readLine_127 (by decide) (fun _ => ?_) (fun h => absurd (by decide) h)
                          refine w_aload_n dX11_readLine_131 rfl ?_
                          refine w_iload_n dX11_readLine_132 rfl ?_
                          refine w_callV (as := [vI (nI w)]) (st := []) (Tri.mono (d_lineS hk (ht.y fy) hou t1 hd hm1 (by omega) (by omega) (by omega)) (Nat.le_of_ble_eq_true rfl)) rfl rfl tg_X11_readLineOf lk_X11_133 in_X11_readLineOf se_X11_readLineOf rfl dX11_readLine_133 rfl (Nat.le_of_ble_eq_true rfl) (Nat.le_refl _) (Nat.le_refl _) ?_
                          rintro v M9 ⟨rfl, I2, rfl, t2, f2, m2⟩ -
                          exact l_rdEnd hk (ht.y (fy.tr f2)) (tk_ok (ch_ok (tk_ok (ch_ok (tk_ok (ch_ok hou)))))) t2 (fun I3 t3 f3 => ⟨rfl, _, rfl, t3, fy.tr (f2.tr f3.y), fun q z => m2.n f3⟩)
                    · skip
                      replace h5 : ((w : Nat) : Int) = 8 := (zeq (z_nI (by omega)) (by decide)).mp h5
                      first
                      | (exfalso; omega)
                      | skip
                        refine w_aload_n dX11_readLine_81 rfl ?_
                        refine w_getI ff_X11_54 rfl rfl dX11_readLine_82 ?_
                        rw [show (I 30 0 0 8 : Int32) = 1 from m8]
                        refine w_if_ne (tgt := 92) dX11_readLine_85 (by decide) (fun _ => ?_) (fun h => absurd h (by decide))
                        refine w_iconst (v := 0) dX11_readLine_92 (by decide) ?_
                        refine w_iconst (v := 4) dX11_readLine_93 (by decide) ?_
                        refine w_callV (as := [vI (0), vI (4)]) (st := []) (Tri.mono (d_needL (I := I) h.1 h.2.2.1 (4)) (Nat.le_of_ble_eq_true rfl)) rfl rfl tg_X11_needs lk_X11_115 in_X11_needs se_X11_needs rfl dX11_readLine_94 rfl (Nat.le_of_ble_eq_true rfl) (Nat.le_refl _) (Nat.le_refl _) ?_
                        rintro _ _ ⟨rfl, rfl⟩ -
                        refine w_aload_n dX11_readLine_97 rfl ?_
                        refine w_aload_n dX11_readLine_98 rfl ?_
                        refine w_getI ff_X11_54 rfl rfl dX11_readLine_99 ?_
                        rw [show ((xup (xup I 30 0 0 15 (4)) 30 0 0 16 (nI st)) 30 0 0 8 : Int32) = 1 from ((xup_slot (by decide)).trans ((xup_slot (by decide)).trans m8))]
                        refine w_if_ne (tgt := 111) dX11_readLine_102 (by decide) (fun _ => ?_) (fun h => absurd h (by decide))
                        refine w_iconst (v := 1) dX11_readLine_111 (by decide) ?_
                        refine w_goto (tgt := 116) dX11_readLine_112 (by decide) ?_
                        refine w_putI ff_X11_54 rfl rfl rfl rfl dX11_readLine_116 ?_
                        have hu0 : (if nC a < 5 then (Sum.inr (so, (st, (nx, v))) : tS) else flT 5 (Sum.inr (so, (st, (nx, v))) : tS)) = (Sum.inl (4, st) : tS) := if_neg (by omega)
                        refine w_aload_n dX11_readLine_119 rfl ?_
                        refine w_callV (as := []) (st := []) (Tri.mono (d_take (I := xup (xup (xup I 30 0 0 15 (4)) 30 0 0 16 (nI st)) 30 0 0 8 (1)) hk (ht.y (((FrY.rf.up30 (by decide)).up30 (by decide)).up30 (by decide))) (s := (Sum.inl (4, st) : tS)) ⟨by show 1 ≤ 4; omega, by show 4 ≤ 5; omega, g5⟩ ⟨(xup_slot (by decide)).trans ((xup_slot (by decide)).trans xup_self), (xup_slot (by decide)).trans xup_self⟩) (Nat.le_of_ble_eq_true rfl)) rfl rfl tg_X11_takes lk_X11_119 in_X11_takes se_X11_takes rfl dX11_readLine_120 rfl (Nat.le_of_ble_eq_true rfl) (Nat.le_refl _) (Nat.le_refl _) ?_
                        rintro v M9 ⟨rfl, I1, rfl, t1, f1⟩ -
                        have fy : FrY I I1 := (((FrY.rf.up30 (by decide)).up30 (by decide)).up30 (by decide)).tr f1.y
                        have hm1 : DM I1 a true := (DM.t8 hm (I' := xup (xup (xup I 30 0 0 15 (4)) 30 0 0 16 (nI st)) 30 0 0 8 (1)) (fun x => (xup_tag (by decide)).trans ((xup_tag (by decide)).trans (xup_tag (by decide)))) (fun x hx => (xup_slot (by omega)).trans ((xup_slot (by omega)).trans (xup_slot (by omega)))) (xup_self.trans (by rfl))).n f1
                        have hou : OKT n (tkT n b (Sum.inl (4, st) : tS)) := tk_ok ⟨by show 1 ≤ 4; omega, by show 4 ≤ 5; omega, g5⟩
                        obtain ⟨u, hu⟩ : ∃ u, u = tkT n b (Sum.inl (4, st) : tS) := ⟨_, rfl⟩
                        rw [← hu] at t1 hou
                        have hu1 : tkT n b (if nC a < 5 then (Sum.inr (so, (st, (nx, v))) : tS) else flT 5 (Sum.inr (so, (st, (nx, v))) : tS)) = u := by rw [hu0, hu]
                        rw [show bodyT n b w (Sum.inr (so, (st, (nx, v))) : tS) a true = _ from (if_neg (by omega)).trans (if_pos (by omega))]
                        unfold pLz uS3 uS2 uS1
                        rw [hu1]
                        rcases u with ⟨c, p⟩ | ⟨so2, st2, nx2, v2⟩
                        · skip
                          have q1 := hou.1
                          have q2 := hou.2.1
                          replace q1 : 1 ≤ c := q1
                          replace q2 : c ≤ 5 := q2
                          refine w_aload_n dX11_readLine_123 rfl ?_
                          refine w_getI ff_X11_73 rfl rfl dX11_readLine_124 ?_
                          rw [show (I1 30 0 0 15 : Int32) = nI c from t1.1]
                          refine w_if_le (tgt := 131) dX11_readLine_127 (by decide) (fun h1 => ?_) (fun h1 => ?_)
                          · skip
                            replace h1 : ((c : Nat) : Int) ≤ 0 := (zle (z_nI (by omega)) (by decide)).mp h1
                            first
                            | (exfalso; omega)
                            | skip
                              exfalso
                              omega
                          · skip
                            replace h1 : ¬ (((c : Nat) : Int) ≤ 0) := fun q => h1 ((zle (z_nI (by omega)) (by decide)).mpr q)
                            first
                            | (exfalso; omega)
                            | skip
                              exact w_return dX11_readLine_130 rfl rfl (⟨rfl, _, rfl, t1, fy, fun q z => by cases z⟩)
                        · skip
                          refine w_aload_n dX11_readLine_123 rfl ?_
                          refine w_getI ff_X11_73 rfl rfl dX11_readLine_124 ?_
                          rw [show (I1 30 0 0 15 : Int32) = 0 from t1.1]
                          refine w_if_le (tgt := 131) dX11_readLine_127 (by decide) (fun _ => ?_) (fun h => absurd (by decide) h)
                          refine w_aload_n dX11_readLine_131 rfl ?_
                          refine w_iload_n dX11_readLine_132 rfl ?_
                          cases hu

set_option maxHeartbeats 1000000 in
theorem l_rdC {I : xF4 Int32} {L : xF4 Int64} {n : Nat} {b : Nat → Nat} (hk : BK n b) (ht : TN I n b) {so st nx v : Nat} (hok : OKT n (.inr (so, (st, (nx, v))))) (h : TM I (.inr (so, (st, (nx, v))))) {a : aA} {t : Bool} (hd : DOK a) (hm : DM I a t) : Wp 6 109 m_X11_readLine 18 [some (vR 30 0 0), some (vI (8))] [] (rM I L) (pLz (tkT n b (spS (tkT n b (bodyT n b 8 (Sum.inr (so, (st, (nx, v))) : tS) a t).1))) (bodyT n b 8 (Sum.inr (so, (st, (nx, v))) : tS) a t).2 I L) := by
  obtain ⟨g4, g5, g6, g7, g8, g9⟩ : so ≤ 3 ∧ st ≤ n ∧ nx ≤ n ∧ v ≤ 99 ∧ st ≤ nx ∧ (so = 0 ∨ (st < nx ∧ st < n)) := id hok
  obtain ⟨w1, w2, -⟩ := id hd.1
  have m6 := hm.1
  have m7 := hm.2.1
  have m8 := hm.2.2.1
  rcases t with _ | _
  · skip
    refine w_aload_n dX11_readLine_18 rfl ?_
    refine w_iload_n dX11_readLine_19 rfl ?_
    refine w_bipush (v := (-4)) dX11_readLine_20 (by decide) ?_
    refine w_icmp_eq (tgt := 29) dX11_readLine_22 (by decide) (fun h => absurd h (by decide)) (fun _ => ?_)
    refine w_iconst (v := 1) dX11_readLine_25 (by decide) ?_
    refine w_goto (tgt := 30) dX11_readLine_26 (by decide) ?_
    refine w_iconst (v := 2) dX11_readLine_30 (by decide) ?_
    refine w_callV (as := [vI (1), vI (2)]) (st := []) (Tri.mono (d_need1 (I := I) (2)) (Nat.le_of_ble_eq_true rfl)) rfl rfl tg_X11_needs lk_X11_115 in_X11_needs se_X11_needs rfl dX11_readLine_31 rfl (Nat.le_of_ble_eq_true rfl) (Nat.le_refl _) (Nat.le_refl _) ?_
    rintro _ _ ⟨rfl, rfl⟩ -
    refine w_aload_n dX11_readLine_34 rfl ?_
    refine w_iload_n dX11_readLine_35 rfl ?_
    refine w_bipush (v := 8) dX11_readLine_36 (by decide) ?_
    refine w_icmp_eq (tgt := 65) dX11_readLine_38 (by decide) (fun _ => ?_) (fun h => absurd (by decide) h)
    refine w_iconst (v := 1) dX11_readLine_65 (by decide) ?_
    refine w_goto (tgt := 70) dX11_readLine_66 (by decide) ?_
    refine w_iconst (v := 5) dX11_readLine_70 (by decide) ?_
    refine w_callV (as := [vI (1), vI (5)]) (st := []) (Tri.mono (d_need1 (I := I) (5)) (Nat.le_of_ble_eq_true rfl)) rfl rfl tg_X11_needs lk_X11_115 in_X11_needs se_X11_needs rfl dX11_readLine_71 rfl (Nat.le_of_ble_eq_true rfl) (Nat.le_refl _) (Nat.le_refl _) ?_
    rintro _ _ ⟨rfl, rfl⟩ -
    refine w_aload_n dX11_readLine_74 rfl ?_
    refine w_iload_n dX11_readLine_75 rfl ?_
    refine w_bipush (v := 8) dX11_readLine_76 (by decide) ?_
    refine w_icmp_ne (tgt := 88) dX11_readLine_78 (by decide) (fun h => absurd (by decide) h) (fun _ => ?_)
    refine w_aload_n dX11_readLine_81 rfl ?_
    refine w_getI ff_X11_54 rfl rfl dX11_readLine_82 ?_
    rw [show (I 30 0 0 8 : Int32) = 0 from m8]
    refine w_if_ne (tgt := 92) dX11_readLine_85 (by decide) (fun h => absurd (by decide) h) (fun _ => ?_)
    refine w_iconst (v := 1) dX11_readLine_88 (by decide) ?_
    refine w_goto (tgt := 93) dX11_readLine_89 (by decide) ?_
    refine w_iconst (v := 4) dX11_readLine_93 (by decide) ?_
    refine w_callV (as := [vI (1), vI (4)]) (st := []) (Tri.mono (d_need1 (I := I) (4)) (Nat.le_of_ble_eq_true rfl)) rfl rfl tg_X11_needs lk_X11_115 in_X11_needs se_X11_needs rfl dX11_readLine_94 rfl (Nat.le_of_ble_eq_true rfl) (Nat.le_refl _) (Nat.le_refl _) ?_
    rintro _ _ ⟨rfl, rfl⟩ -
    refine w_aload_n dX11_readLine_97 rfl ?_
    refine w_aload_n dX11_readLine_98 rfl ?_
    refine w_getI ff_X11_54 rfl rfl dX11_readLine_99 ?_
    rw [show (I 30 0 0 8 : Int32) = 0 from m8]
    refine w_if_ne (tgt := 111) dX11_readLine_102 (by decide) (fun h => absurd (by decide) h) (fun _ => ?_)
    refine w_iload_n dX11_readLine_105 rfl ?_
    refine w_bipush (v := 8) dX11_readLine_106 (by decide) ?_
    refine w_icmp_ne (tgt := 115) dX11_readLine_108 (by decide) (fun h => absurd (by decide) h) (fun _ => ?_)
    refine w_iconst (v := 1) dX11_readLine_111 (by decide) ?_
    refine w_goto (tgt := 116) dX11_readLine_112 (by decide) ?_
    refine w_putI ff_X11_54 rfl rfl rfl rfl dX11_readLine_116 ?_
    have hu0 : (if false = true then flT 4 (Sum.inr (so, (st, (nx, v))) : tS) else (Sum.inr (so, (st, (nx, v))) : tS)) = (Sum.inr (so, (st, (nx, v))) : tS) := if_neg (by decide)
    refine w_aload_n dX11_readLine_119 rfl ?_
    refine w_callV (as := []) (st := []) (Tri.mono (d_take (I := xup I 30 0 0 8 (1)) hk (ht.y (FrY.rf.up30 (by decide))) (s := (Sum.inr (so, (st, (nx, v))) : tS)) hok (h.eqv (fun x hx => xup_slot (by omega)))) (Nat.le_of_ble_eq_true rfl)) rfl rfl tg_X11_takes lk_X11_119 in_X11_takes se_X11_takes rfl dX11_readLine_120 rfl (Nat.le_of_ble_eq_true rfl) (Nat.le_refl _) (Nat.le_refl _) ?_
    rintro v M9 ⟨rfl, I1, rfl, t1, f1⟩ -
    have fy : FrY I I1 := (FrY.rf.up30 (by decide)).tr f1.y
    have hm1 : DM I1 a true := (DM.t8 hm (I' := xup I 30 0 0 8 (1)) (fun x => xup_tag (by decide)) (fun x hx => xup_slot (by omega)) (xup_self.trans (by rfl))).n f1
    have hou : OKT n (tkT n b (Sum.inr (so, (st, (nx, v))) : tS)) := tk_ok hok
    obtain ⟨u, hu⟩ : ∃ u, u = tkT n b (Sum.inr (so, (st, (nx, v))) : tS) := ⟨_, rfl⟩
    rw [← hu] at t1 hou
    have hu1 : tkT n b (if false = true then flT 4 (Sum.inr (so, (st, (nx, v))) : tS) else (Sum.inr (so, (st, (nx, v))) : tS)) = u := by rw [hu0, hu]
    rw [show bodyT n b 8 (Sum.inr (so, (st, (nx, v))) : tS) a false = _ from (if_neg (by omega)).trans ((if_neg (by omega)).trans (if_pos (by omega)))]
    unfold pLz uC1
    rw [hu1]
    rcases u with ⟨c, p⟩ | ⟨so2, st2, nx2, v2⟩
    · skip
      have q1 := hou.1
      have q2 := hou.2.1
      replace q1 : 1 ≤ c := q1
      replace q2 : c ≤ 5 := q2
      refine w_aload_n dX11_readLine_123 rfl ?_
      refine w_getI ff_X11_73 rfl rfl dX11_readLine_124 ?_
      rw [show (I1 30 0 0 15 : Int32) = nI c from t1.1]
      refine w_if_le (tgt := 131) dX11_readLine_127 (by decide) (fun h1 => ?_) (fun h1 => ?_)
      · skip
        replace h1 : ((c : Nat) : Int) ≤ 0 := (zle (z_nI (by omega)) (by decide)).mp h1
        first
        | (exfalso; omega)
        | skip
          exfalso
          omega
      · skip
        replace h1 : ¬ (((c : Nat) : Int) ≤ 0) := fun q => h1 ((zle (z_nI (by omega)) (by decide)).mpr q)
        first
        | (exfalso; omega)
        | skip
          exact w_return dX11_readLine_130 rfl rfl (⟨rfl, _, rfl, t1, fy, fun q z => by cases z⟩)
    · skip
      refine w_aload_n dX11_readLine_123 rfl ?_
      refine w_getI ff_X11_73 rfl rfl dX11_readLine_124 ?_
      rw [show (I1 30 0 0 15 : Int32) = 0 from t1.1]
      refine w_if_le (tgt := 131) dX11_readLine_127 (by decide) (fun _ => ?_) (fun h => absurd (by decide) h)
      refine w_aload_n dX11_readLine_131 rfl ?_
      refine w_iload_n dX11_readLine_132 rfl ?_
      refine w_callV (as := [vI (8)]) (st := []) (Tri.mono (d_lineC hk (ht.y fy) hou t1 hd hm1) (Nat.le_of_ble_eq_true rfl)) rfl rfl tg_X11_readLineOf lk_X11_133 in_X11_readLineOf se_X11_readLineOf rfl dX11_readLine_133 rfl (Nat.le_of_ble_eq_true rfl) (Nat.le_refl _) (Nat.le_refl _) ?_
      rintro v M9 ⟨rfl, I2, rfl, t2, f2, m2⟩ -
      exact l_rdEnd hk (ht.y (fy.tr f2)) (tk_ok (ch_ok hou)) t2 (fun I3 t3 f3 => ⟨rfl, _, rfl, t3, fy.tr (f2.tr f3.y), fun q z => m2.n f3⟩)
  · skip
    refine w_aload_n dX11_readLine_18 rfl ?_
    refine w_iload_n dX11_readLine_19 rfl ?_
    refine w_bipush (v := (-4)) dX11_readLine_20 (by decide) ?_
    refine w_icmp_eq (tgt := 29) dX11_readLine_22 (by decide) (fun h => absurd h (by decide)) (fun _ => ?_)
    refine w_iconst (v := 1) dX11_readLine_25 (by decide) ?_
    refine w_goto (tgt := 30) dX11_readLine_26 (by decide) ?_
    refine w_iconst (v := 2) dX11_readLine_30 (by decide) ?_
    refine w_callV (as := [vI (1), vI (2)]) (st := []) (Tri.mono (d_need1 (I := I) (2)) (Nat.le_of_ble_eq_true rfl)) rfl rfl tg_X11_needs lk_X11_115 in_X11_needs se_X11_needs rfl dX11_readLine_31 rfl (Nat.le_of_ble_eq_true rfl) (Nat.le_refl _) (Nat.le_refl _) ?_
    rintro _ _ ⟨rfl, rfl⟩ -
    refine w_aload_n dX11_readLine_34 rfl ?_
    refine w_iload_n dX11_readLine_35 rfl ?_
    refine w_bipush (v := 8) dX11_readLine_36 (by decide) ?_
    refine w_icmp_eq (tgt := 65) dX11_readLine_38 (by decide) (fun _ => ?_) (fun h => absurd (by decide) h)
    refine w_iconst (v := 1) dX11_readLine_65 (by decide) ?_
    refine w_goto (tgt := 70) dX11_readLine_66 (by decide) ?_
    refine w_iconst (v := 5) dX11_readLine_70 (by decide) ?_
    refine w_callV (as := [vI (1), vI (5)]) (st := []) (Tri.mono (d_need1 (I := I) (5)) (Nat.le_of_ble_eq_true rfl)) rfl rfl tg_X11_needs lk_X11_115 in_X11_needs se_X11_needs rfl dX11_readLine_71 rfl (Nat.le_of_ble_eq_true rfl) (Nat.le_refl _) (Nat.le_refl _) ?_
    rintro _ _ ⟨rfl, rfl⟩ -
    refine w_aload_n dX11_readLine_74 rfl ?_
    refine w_iload_n dX11_readLine_75 rfl ?_
    refine w_bipush (v := 8) dX11_readLine_76 (by decide) ?_
    refine w_icmp_ne (tgt := 88) dX11_readLine_78 (by decide) (fun h => absurd (by decide) h) (fun _ => ?_)
    refine w_aload_n dX11_readLine_81 rfl ?_
    refine w_getI ff_X11_54 rfl rfl dX11_readLine_82 ?_
    rw [show (I 30 0 0 8 : Int32) = 1 from m8]
    refine w_if_ne (tgt := 92) dX11_readLine_85 (by decide) (fun _ => ?_) (fun h => absurd h (by decide))
    refine w_iconst (v := 0) dX11_readLine_92 (by decide) ?_
    refine w_iconst (v := 4) dX11_readLine_93 (by decide) ?_
    refine w_callV (as := [vI (0), vI (4)]) (st := []) (Tri.mono (d_needL (I := I) h.1 h.2.2.1 (4)) (Nat.le_of_ble_eq_true rfl)) rfl rfl tg_X11_needs lk_X11_115 in_X11_needs se_X11_needs rfl dX11_readLine_94 rfl (Nat.le_of_ble_eq_true rfl) (Nat.le_refl _) (Nat.le_refl _) ?_
    rintro _ _ ⟨rfl, rfl⟩ -
    refine w_aload_n dX11_readLine_97 rfl ?_
    refine w_aload_n dX11_readLine_98 rfl ?_
    refine w_getI ff_X11_54 rfl rfl dX11_readLine_99 ?_
    rw [show ((xup (xup I 30 0 0 15 (4)) 30 0 0 16 (nI st)) 30 0 0 8 : Int32) = 1 from ((xup_slot (by decide)).trans ((xup_slot (by decide)).trans m8))]
    refine w_if_ne (tgt := 111) dX11_readLine_102 (by decide) (fun _ => ?_) (fun h => absurd h (by decide))
    refine w_iconst (v := 1) dX11_readLine_111 (by decide) ?_
    refine w_goto (tgt := 116) dX11_readLine_112 (by decide) ?_
    refine w_putI ff_X11_54 rfl rfl rfl rfl dX11_readLine_116 ?_
    have hu0 : (if true = true then flT 4 (Sum.inr (so, (st, (nx, v))) : tS) else (Sum.inr (so, (st, (nx, v))) : tS)) = (Sum.inl (4, st) : tS) := if_pos rfl
    refine w_aload_n dX11_readLine_119 rfl ?_
    refine w_callV (as := []) (st := []) (Tri.mono (d_take (I := xup (xup (xup I 30 0 0 15 (4)) 30 0 0 16 (nI st)) 30 0 0 8 (1)) hk (ht.y (((FrY.rf.up30 (by decide)).up30 (by decide)).up30 (by decide))) (s := (Sum.inl (4, st) : tS)) ⟨by show 1 ≤ 4; omega, by show 4 ≤ 5; omega, g5⟩ ⟨(xup_slot (by decide)).trans ((xup_slot (by decide)).trans xup_self), (xup_slot (by decide)).trans xup_self⟩) (Nat.le_of_ble_eq_true rfl)) rfl rfl tg_X11_takes lk_X11_119 in_X11_takes se_X11_takes rfl dX11_readLine_120 rfl (Nat.le_of_ble_eq_true rfl) (Nat.le_refl _) (Nat.le_refl _) ?_
    rintro v M9 ⟨rfl, I1, rfl, t1, f1⟩ -
    have fy : FrY I I1 := (((FrY.rf.up30 (by decide)).up30 (by decide)).up30 (by decide)).tr f1.y
    have hm1 : DM I1 a true := (DM.t8 hm (I' := xup (xup (xup I 30 0 0 15 (4)) 30 0 0 16 (nI st)) 30 0 0 8 (1)) (fun x => (xup_tag (by decide)).trans ((xup_tag (by decide)).trans (xup_tag (by decide)))) (fun x hx => (xup_slot (by omega)).trans ((xup_slot (by omega)).trans (xup_slot (by omega)))) (xup_self.trans (by rfl))).n f1
    have hou : OKT n (tkT n b (Sum.inl (4, st) : tS)) := tk_ok ⟨by show 1 ≤ 4; omega, by show 4 ≤ 5; omega, g5⟩
    obtain ⟨u, hu⟩ : ∃ u, u = tkT n b (Sum.inl (4, st) : tS) := ⟨_, rfl⟩
    rw [← hu] at t1 hou
    have hu1 : tkT n b (if true = true then flT 4 (Sum.inr (so, (st, (nx, v))) : tS) else (Sum.inr (so, (st, (nx, v))) : tS)) = u := by rw [hu0, hu]
    rw [show bodyT n b 8 (Sum.inr (so, (st, (nx, v))) : tS) a true = _ from (if_neg (by omega)).trans ((if_neg (by omega)).trans (if_pos (by omega)))]
    unfold pLz uC1
    rw [hu1]
    rcases u with ⟨c, p⟩ | ⟨so2, st2, nx2, v2⟩
    · skip
      have q1 := hou.1
      have q2 := hou.2.1
      replace q1 : 1 ≤ c := q1
      replace q2 : c ≤ 5 := q2
      refine w_aload_n dX11_readLine_123 rfl ?_
      refine w_getI ff_X11_73 rfl rfl dX11_readLine_124 ?_
      rw [show (I1 30 0 0 15 : Int32) = nI c from t1.1]
      refine w_if_le (tgt := 131) dX11_readLine_127 (by decide) (fun h1 => ?_) (fun h1 => ?_)
      · skip
        replace h1 : ((c : Nat) : Int) ≤ 0 := (zle (z_nI (by omega)) (by decide)).mp h1
        first
        | (exfalso; omega)
        | skip
          exfalso
          omega
      · skip
        replace h1 : ¬ (((c : Nat) : Int) ≤ 0) := fun q => h1 ((zle (z_nI (by omega)) (by decide)).mpr q)
        first
        | (exfalso; omega)
        | skip
          exact w_return dX11_readLine_130 rfl rfl (⟨rfl, _, rfl, t1, fy, fun q z => by cases z⟩)
    · skip
      refine w_aload_n dX11_readLine_123 rfl ?_
      refine w_getI ff_X11_73 rfl rfl dX11_readLine_124 ?_
      rw [show (I1 30 0 0 15 : Int32) = 0 from t1.1]
      refine w_if_le (tgt := 131) dX11_readLine_127 (by decide) (fun _ => ?_) (fun h => absurd (by decide) h)
      refine w_aload_n dX11_readLine_131 rfl ?_
      refine w_iload_n dX11_readLine_132 rfl ?_
      cases hu

set_option maxHeartbeats 1000000 in
theorem l_rdN {I : xF4 Int32} {L : xF4 Int64} {n : Nat} {b : Nat → Nat} (hk : BK n b) (ht : TN I n b) {so st nx v : Nat} (hok : OKT n (.inr (so, (st, (nx, v))))) (h : TM I (.inr (so, (st, (nx, v))))) {a : aA} {t : Bool} (hd : DOK a) (hm : DM I a t) : Wp 6 109 m_X11_readLine 18 [some (vR 30 0 0), some (vI ((-4)))] [] (rM I L) (pLz (tkT n b (spS (tkT n b (bodyT n b 9 (Sum.inr (so, (st, (nx, v))) : tS) a t).1))) (bodyT n b 9 (Sum.inr (so, (st, (nx, v))) : tS) a t).2 I L) := by
  obtain ⟨g4, g5, g6, g7, g8, g9⟩ : so ≤ 3 ∧ st ≤ n ∧ nx ≤ n ∧ v ≤ 99 ∧ st ≤ nx ∧ (so = 0 ∨ (st < nx ∧ st < n)) := id hok
  obtain ⟨w1, w2, -⟩ := id hd.1
  have m6 := hm.1
  have m7 := hm.2.1
  have m8 := hm.2.2.1
  rcases t with _ | _
  · skip
    refine w_aload_n dX11_readLine_18 rfl ?_
    refine w_iload_n dX11_readLine_19 rfl ?_
    refine w_bipush (v := (-4)) dX11_readLine_20 (by decide) ?_
    refine w_icmp_eq (tgt := 29) dX11_readLine_22 (by decide) (fun _ => ?_) (fun h => absurd (by decide) h)
    refine w_iconst (v := 0) dX11_readLine_29 (by decide) ?_
    refine w_iconst (v := 2) dX11_readLine_30 (by decide) ?_
    refine w_callV (as := [vI (0), vI (2)]) (st := []) (Tri.mono (d_needL (I := I) h.1 h.2.2.1 (2)) (Nat.le_of_ble_eq_true rfl)) rfl rfl tg_X11_needs lk_X11_115 in_X11_needs se_X11_needs rfl dX11_readLine_31 rfl (Nat.le_of_ble_eq_true rfl) (Nat.le_refl _) (Nat.le_refl _) ?_
    rintro _ _ ⟨rfl, rfl⟩ -
    refine w_aload_n dX11_readLine_34 rfl ?_
    refine w_iload_n dX11_readLine_35 rfl ?_
    refine w_bipush (v := 8) dX11_readLine_36 (by decide) ?_
    refine w_icmp_eq (tgt := 65) dX11_readLine_38 (by decide) (fun h => absurd h (by decide)) (fun _ => ?_)
    refine w_iload_n dX11_readLine_41 rfl ?_
    refine w_iconst (v := 4) dX11_readLine_42 (by decide) ?_
    refine w_icmp_lt (tgt := 57) dX11_readLine_43 (by decide) (fun _ => ?_) (fun h => absurd (by decide) h)
    refine w_aload_n dX11_readLine_57 rfl ?_
    refine w_getI ff_X11_47 rfl rfl dX11_readLine_58 ?_
    rw [show ((xup (xup I 30 0 0 15 (2)) 30 0 0 16 (nI st)) 30 0 0 6 : Int32) = nI (nJ a) from ((xup_slot (by decide)).trans ((xup_slot (by decide)).trans m6))]
    refine w_iconst (v := 4) dX11_readLine_61 (by decide) ?_
    refine w_icmp_ge (tgt := 69) dX11_readLine_62 (by decide) (fun h1 => ?_) (fun h1 => ?_)
    · skip
      replace h1 : 4 ≤ ((nJ a : Nat) : Int) := (zle (by decide) (z_nI (by omega))).mp h1
      first
      | (exfalso; omega)
      | skip
        refine w_iconst (v := 0) dX11_readLine_69 (by decide) ?_
        refine w_iconst (v := 5) dX11_readLine_70 (by decide) ?_
        refine w_callV (as := [vI (0), vI (5)]) (st := []) (Tri.mono (d_needD (I := xup (xup I 30 0 0 15 (2)) 30 0 0 16 (nI st)) (e := 2) ⟨by decide, by decide⟩ (((xup_slot (by decide)).trans xup_self).trans (by rfl)) (5)) (Nat.le_of_ble_eq_true rfl)) rfl rfl tg_X11_needs lk_X11_115 in_X11_needs se_X11_needs rfl dX11_readLine_71 rfl (Nat.le_of_ble_eq_true rfl) (Nat.le_refl _) (Nat.le_refl _) ?_
        rintro _ _ ⟨rfl, rfl⟩ -
        refine w_aload_n dX11_readLine_74 rfl ?_
        refine w_iload_n dX11_readLine_75 rfl ?_
        refine w_bipush (v := 8) dX11_readLine_76 (by decide) ?_
        refine w_icmp_ne (tgt := 88) dX11_readLine_78 (by decide) (fun _ => ?_) (fun h => absurd h (by decide))
        refine w_iconst (v := 1) dX11_readLine_88 (by decide) ?_
        refine w_goto (tgt := 93) dX11_readLine_89 (by decide) ?_
        refine w_iconst (v := 4) dX11_readLine_93 (by decide) ?_
        refine w_callV (as := [vI (1), vI (4)]) (st := []) (Tri.mono (d_need1 (I := xup (xup I 30 0 0 15 (2)) 30 0 0 16 (nI st)) (4)) (Nat.le_of_ble_eq_true rfl)) rfl rfl tg_X11_needs lk_X11_115 in_X11_needs se_X11_needs rfl dX11_readLine_94 rfl (Nat.le_of_ble_eq_true rfl) (Nat.le_refl _) (Nat.le_refl _) ?_
        rintro _ _ ⟨rfl, rfl⟩ -
        refine w_aload_n dX11_readLine_97 rfl ?_
        refine w_aload_n dX11_readLine_98 rfl ?_
        refine w_getI ff_X11_54 rfl rfl dX11_readLine_99 ?_
        rw [show ((xup (xup I 30 0 0 15 (2)) 30 0 0 16 (nI st)) 30 0 0 8 : Int32) = 0 from ((xup_slot (by decide)).trans ((xup_slot (by decide)).trans m8))]
        refine w_if_ne (tgt := 111) dX11_readLine_102 (by decide) (fun h => absurd (by decide) h) (fun _ => ?_)
        refine w_iload_n dX11_readLine_105 rfl ?_
        refine w_bipush (v := 8) dX11_readLine_106 (by decide) ?_
        refine w_icmp_ne (tgt := 115) dX11_readLine_108 (by decide) (fun _ => ?_) (fun h => absurd h (by decide))
        refine w_iconst (v := 0) dX11_readLine_115 (by decide) ?_
        refine w_putI ff_X11_54 rfl rfl rfl rfl dX11_readLine_116 ?_
        have hu0 : (flT 2 (Sum.inr (so, (st, (nx, v))) : tS)) = (Sum.inl (2, st) : tS) := rfl
        refine w_aload_n dX11_readLine_119 rfl ?_
        refine w_callV (as := []) (st := []) (Tri.mono (d_take (I := xup (xup (xup I 30 0 0 15 (2)) 30 0 0 16 (nI st)) 30 0 0 8 (0)) hk (ht.y (((FrY.rf.up30 (by decide)).up30 (by decide)).up30 (by decide))) (s := (Sum.inl (2, st) : tS)) ⟨by show 1 ≤ 2; omega, by show 2 ≤ 5; omega, g5⟩ ⟨(xup_slot (by decide)).trans ((xup_slot (by decide)).trans xup_self), (xup_slot (by decide)).trans xup_self⟩) (Nat.le_of_ble_eq_true rfl)) rfl rfl tg_X11_takes lk_X11_119 in_X11_takes se_X11_takes rfl dX11_readLine_120 rfl (Nat.le_of_ble_eq_true rfl) (Nat.le_refl _) (Nat.le_refl _) ?_
        rintro v M9 ⟨rfl, I1, rfl, t1, f1⟩ -
        have fy : FrY I I1 := (((FrY.rf.up30 (by decide)).up30 (by decide)).up30 (by decide)).tr f1.y
        have hm1 : DM I1 a false := (DM.t8 hm (I' := xup (xup (xup I 30 0 0 15 (2)) 30 0 0 16 (nI st)) 30 0 0 8 (0)) (fun x => (xup_tag (by decide)).trans ((xup_tag (by decide)).trans (xup_tag (by decide)))) (fun x hx => (xup_slot (by omega)).trans ((xup_slot (by omega)).trans (xup_slot (by omega)))) (xup_self.trans (by rfl))).n f1
        have hou : OKT n (tkT n b (Sum.inl (2, st) : tS)) := tk_ok ⟨by show 1 ≤ 2; omega, by show 2 ≤ 5; omega, g5⟩
        obtain ⟨u, hu⟩ : ∃ u, u = tkT n b (Sum.inl (2, st) : tS) := ⟨_, rfl⟩
        rw [← hu] at t1 hou
        have hu1 : tkT n b (flT 2 (Sum.inr (so, (st, (nx, v))) : tS)) = u := by rw [hu0, hu]
        rw [show bodyT n b 9 (Sum.inr (so, (st, (nx, v))) : tS) a false = _ from (if_neg (by omega)).trans ((if_neg (by omega)).trans (if_neg (by omega)))]
        unfold pLz
        simp only [hu1]
        rcases u with ⟨c, p⟩ | ⟨so2, st2, nx2, v2⟩
        · skip
          have q1 := hou.1
          have q2 := hou.2.1
          replace q1 : 1 ≤ c := q1
          replace q2 : c ≤ 5 := q2
          refine w_aload_n dX11_readLine_123 rfl ?_
          refine w_getI ff_X11_73 rfl rfl dX11_readLine_124 ?_
          rw [show (I1 30 0 0 15 : Int32) = nI c from t1.1]
          refine w_if_le (tgt := 131) dX11_readLine_127 (by decide) (fun h1 => ?_) (fun h1 => ?_)
          · skip
            replace h1 : ((c : Nat) : Int) ≤ 0 := (zle (z_nI (by omega)) (by decide)).mp h1
            first
            | (exfalso; omega)
            | skip
              exfalso
              omega
          · skip
            replace h1 : ¬ (((c : Nat) : Int) ≤ 0) := fun q => h1 ((zle (z_nI (by omega)) (by decide)).mpr q)
            first
            | (exfalso; omega)
            | skip
              exact w_return dX11_readLine_130 rfl rfl (⟨rfl, _, rfl, t1, fy, fun q z => by cases z⟩)
        · skip
          cases hu1
    · skip
      replace h1 : ¬ (4 ≤ ((nJ a : Nat) : Int)) := fun q => h1 ((zle (by decide) (z_nI (by omega))).mpr q)
      first
      | (exfalso; omega)
      | skip
        refine w_iconst (v := 1) dX11_readLine_65 (by decide) ?_
        refine w_goto (tgt := 70) dX11_readLine_66 (by decide) ?_
        refine w_iconst (v := 5) dX11_readLine_70 (by decide) ?_
        refine w_callV (as := [vI (1), vI (5)]) (st := []) (Tri.mono (d_need1 (I := xup (xup I 30 0 0 15 (2)) 30 0 0 16 (nI st)) (5)) (Nat.le_of_ble_eq_true rfl)) rfl rfl tg_X11_needs lk_X11_115 in_X11_needs se_X11_needs rfl dX11_readLine_71 rfl (Nat.le_of_ble_eq_true rfl) (Nat.le_refl _) (Nat.le_refl _) ?_
        rintro _ _ ⟨rfl, rfl⟩ -
        refine w_aload_n dX11_readLine_74 rfl ?_
        refine w_iload_n dX11_readLine_75 rfl ?_
        refine w_bipush (v := 8) dX11_readLine_76 (by decide) ?_
        refine w_icmp_ne (tgt := 88) dX11_readLine_78 (by decide) (fun _ => ?_) (fun h => absurd h (by decide))
        refine w_iconst (v := 1) dX11_readLine_88 (by decide) ?_
        refine w_goto (tgt := 93) dX11_readLine_89 (by decide) ?_
        refine w_iconst (v := 4) dX11_readLine_93 (by decide) ?_
        refine w_callV (as := [vI (1), vI (4)]) (st := []) (Tri.mono (d_need1 (I := xup (xup I 30 0 0 15 (2)) 30 0 0 16 (nI st)) (4)) (Nat.le_of_ble_eq_true rfl)) rfl rfl tg_X11_needs lk_X11_115 in_X11_needs se_X11_needs rfl dX11_readLine_94 rfl (Nat.le_of_ble_eq_true rfl) (Nat.le_refl _) (Nat.le_refl _) ?_
        rintro _ _ ⟨rfl, rfl⟩ -
        refine w_aload_n dX11_readLine_97 rfl ?_
        refine w_aload_n dX11_readLine_98 rfl ?_
        refine w_getI ff_X11_54 rfl rfl dX11_readLine_99 ?_
        rw [show ((xup (xup I 30 0 0 15 (2)) 30 0 0 16 (nI st)) 30 0 0 8 : Int32) = 0 from ((xup_slot (by decide)).trans ((xup_slot (by decide)).trans m8))]
        refine w_if_ne (tgt := 111) dX11_readLine_102 (by decide) (fun h => absurd (by decide) h) (fun _ => ?_)
        refine w_iload_n dX11_readLine_105 rfl ?_
        refine w_bipush (v := 8) dX11_readLine_106 (by decide) ?_
        refine w_icmp_ne (tgt := 115) dX11_readLine_108 (by decide) (fun _ => ?_) (fun h => absurd h (by decide))
        refine w_iconst (v := 0) dX11_readLine_115 (by decide) ?_
        refine w_putI ff_X11_54 rfl rfl rfl rfl dX11_readLine_116 ?_
        have hu0 : (flT 2 (Sum.inr (so, (st, (nx, v))) : tS)) = (Sum.inl (2, st) : tS) := rfl
        refine w_aload_n dX11_readLine_119 rfl ?_
        refine w_callV (as := []) (st := []) (Tri.mono (d_take (I := xup (xup (xup I 30 0 0 15 (2)) 30 0 0 16 (nI st)) 30 0 0 8 (0)) hk (ht.y (((FrY.rf.up30 (by decide)).up30 (by decide)).up30 (by decide))) (s := (Sum.inl (2, st) : tS)) ⟨by show 1 ≤ 2; omega, by show 2 ≤ 5; omega, g5⟩ ⟨(xup_slot (by decide)).trans ((xup_slot (by decide)).trans xup_self), (xup_slot (by decide)).trans xup_self⟩) (Nat.le_of_ble_eq_true rfl)) rfl rfl tg_X11_takes lk_X11_119 in_X11_takes se_X11_takes rfl dX11_readLine_120 rfl (Nat.le_of_ble_eq_true rfl) (Nat.le_refl _) (Nat.le_refl _) ?_
        rintro v M9 ⟨rfl, I1, rfl, t1, f1⟩ -
        have fy : FrY I I1 := (((FrY.rf.up30 (by decide)).up30 (by decide)).up30 (by decide)).tr f1.y
        have hm1 : DM I1 a false := (DM.t8 hm (I' := xup (xup (xup I 30 0 0 15 (2)) 30 0 0 16 (nI st)) 30 0 0 8 (0)) (fun x => (xup_tag (by decide)).trans ((xup_tag (by decide)).trans (xup_tag (by decide)))) (fun x hx => (xup_slot (by omega)).trans ((xup_slot (by omega)).trans (xup_slot (by omega)))) (xup_self.trans (by rfl))).n f1
        have hou : OKT n (tkT n b (Sum.inl (2, st) : tS)) := tk_ok ⟨by show 1 ≤ 2; omega, by show 2 ≤ 5; omega, g5⟩
        obtain ⟨u, hu⟩ : ∃ u, u = tkT n b (Sum.inl (2, st) : tS) := ⟨_, rfl⟩
        rw [← hu] at t1 hou
        have hu1 : tkT n b (flT 2 (Sum.inr (so, (st, (nx, v))) : tS)) = u := by rw [hu0, hu]
        rw [show bodyT n b 9 (Sum.inr (so, (st, (nx, v))) : tS) a false = _ from (if_neg (by omega)).trans ((if_neg (by omega)).trans (if_neg (by omega)))]
        unfold pLz
        simp only [hu1]
        rcases u with ⟨c, p⟩ | ⟨so2, st2, nx2, v2⟩
        · skip
          have q1 := hou.1
          have q2 := hou.2.1
          replace q1 : 1 ≤ c := q1
          replace q2 : c ≤ 5 := q2
          refine w_aload_n dX11_readLine_123 rfl ?_
          refine w_getI ff_X11_73 rfl rfl dX11_readLine_124 ?_
          rw [show (I1 30 0 0 15 : Int32) = nI c from t1.1]
          refine w_if_le (tgt := 131) dX11_readLine_127 (by decide) (fun h1 => ?_) (fun h1 => ?_)
          · skip
            replace h1 : ((c : Nat) : Int) ≤ 0 := (zle (z_nI (by omega)) (by decide)).mp h1
            first
            | (exfalso; omega)
            | skip
              exfalso
              omega
          · skip
            replace h1 : ¬ (((c : Nat) : Int) ≤ 0) := fun q => h1 ((zle (z_nI (by omega)) (by decide)).mpr q)
            first
            | (exfalso; omega)
            | skip
              exact w_return dX11_readLine_130 rfl rfl (⟨rfl, _, rfl, t1, fy, fun q z => by cases z⟩)
        · skip
          cases hu1
  · skip
    refine w_aload_n dX11_readLine_18 rfl ?_
    refine w_iload_n dX11_readLine_19 rfl ?_
    refine w_bipush (v := (-4)) dX11_readLine_20 (by decide) ?_
    refine w_icmp_eq (tgt := 29) dX11_readLine_22 (by decide) (fun _ => ?_) (fun h => absurd (by decide) h)
    refine w_iconst (v := 0) dX11_readLine_29 (by decide) ?_
    refine w_iconst (v := 2) dX11_readLine_30 (by decide) ?_
    refine w_callV (as := [vI (0), vI (2)]) (st := []) (Tri.mono (d_needL (I := I) h.1 h.2.2.1 (2)) (Nat.le_of_ble_eq_true rfl)) rfl rfl tg_X11_needs lk_X11_115 in_X11_needs se_X11_needs rfl dX11_readLine_31 rfl (Nat.le_of_ble_eq_true rfl) (Nat.le_refl _) (Nat.le_refl _) ?_
    rintro _ _ ⟨rfl, rfl⟩ -
    refine w_aload_n dX11_readLine_34 rfl ?_
    refine w_iload_n dX11_readLine_35 rfl ?_
    refine w_bipush (v := 8) dX11_readLine_36 (by decide) ?_
    refine w_icmp_eq (tgt := 65) dX11_readLine_38 (by decide) (fun h => absurd h (by decide)) (fun _ => ?_)
    refine w_iload_n dX11_readLine_41 rfl ?_
    refine w_iconst (v := 4) dX11_readLine_42 (by decide) ?_
    refine w_icmp_lt (tgt := 57) dX11_readLine_43 (by decide) (fun _ => ?_) (fun h => absurd (by decide) h)
    refine w_aload_n dX11_readLine_57 rfl ?_
    refine w_getI ff_X11_47 rfl rfl dX11_readLine_58 ?_
    rw [show ((xup (xup I 30 0 0 15 (2)) 30 0 0 16 (nI st)) 30 0 0 6 : Int32) = nI (nJ a) from ((xup_slot (by decide)).trans ((xup_slot (by decide)).trans m6))]
    refine w_iconst (v := 4) dX11_readLine_61 (by decide) ?_
    refine w_icmp_ge (tgt := 69) dX11_readLine_62 (by decide) (fun h1 => ?_) (fun h1 => ?_)
    · skip
      replace h1 : 4 ≤ ((nJ a : Nat) : Int) := (zle (by decide) (z_nI (by omega))).mp h1
      first
      | (exfalso; omega)
      | skip
        refine w_iconst (v := 0) dX11_readLine_69 (by decide) ?_
        refine w_iconst (v := 5) dX11_readLine_70 (by decide) ?_
        refine w_callV (as := [vI (0), vI (5)]) (st := []) (Tri.mono (d_needD (I := xup (xup I 30 0 0 15 (2)) 30 0 0 16 (nI st)) (e := 2) ⟨by decide, by decide⟩ (((xup_slot (by decide)).trans xup_self).trans (by rfl)) (5)) (Nat.le_of_ble_eq_true rfl)) rfl rfl tg_X11_needs lk_X11_115 in_X11_needs se_X11_needs rfl dX11_readLine_71 rfl (Nat.le_of_ble_eq_true rfl) (Nat.le_refl _) (Nat.le_refl _) ?_
        rintro _ _ ⟨rfl, rfl⟩ -
        refine w_aload_n dX11_readLine_74 rfl ?_
        refine w_iload_n dX11_readLine_75 rfl ?_
        refine w_bipush (v := 8) dX11_readLine_76 (by decide) ?_
        refine w_icmp_ne (tgt := 88) dX11_readLine_78 (by decide) (fun _ => ?_) (fun h => absurd h (by decide))
        refine w_iconst (v := 1) dX11_readLine_88 (by decide) ?_
        refine w_goto (tgt := 93) dX11_readLine_89 (by decide) ?_
        refine w_iconst (v := 4) dX11_readLine_93 (by decide) ?_
        refine w_callV (as := [vI (1), vI (4)]) (st := []) (Tri.mono (d_need1 (I := xup (xup I 30 0 0 15 (2)) 30 0 0 16 (nI st)) (4)) (Nat.le_of_ble_eq_true rfl)) rfl rfl tg_X11_needs lk_X11_115 in_X11_needs se_X11_needs rfl dX11_readLine_94 rfl (Nat.le_of_ble_eq_true rfl) (Nat.le_refl _) (Nat.le_refl _) ?_
        rintro _ _ ⟨rfl, rfl⟩ -
        refine w_aload_n dX11_readLine_97 rfl ?_
        refine w_aload_n dX11_readLine_98 rfl ?_
        refine w_getI ff_X11_54 rfl rfl dX11_readLine_99 ?_
        rw [show ((xup (xup I 30 0 0 15 (2)) 30 0 0 16 (nI st)) 30 0 0 8 : Int32) = 1 from ((xup_slot (by decide)).trans ((xup_slot (by decide)).trans m8))]
        refine w_if_ne (tgt := 111) dX11_readLine_102 (by decide) (fun _ => ?_) (fun h => absurd h (by decide))
        refine w_iconst (v := 1) dX11_readLine_111 (by decide) ?_
        refine w_goto (tgt := 116) dX11_readLine_112 (by decide) ?_
        refine w_putI ff_X11_54 rfl rfl rfl rfl dX11_readLine_116 ?_
        have hu0 : (flT 2 (Sum.inr (so, (st, (nx, v))) : tS)) = (Sum.inl (2, st) : tS) := rfl
        refine w_aload_n dX11_readLine_119 rfl ?_
        refine w_callV (as := []) (st := []) (Tri.mono (d_take (I := xup (xup (xup I 30 0 0 15 (2)) 30 0 0 16 (nI st)) 30 0 0 8 (1)) hk (ht.y (((FrY.rf.up30 (by decide)).up30 (by decide)).up30 (by decide))) (s := (Sum.inl (2, st) : tS)) ⟨by show 1 ≤ 2; omega, by show 2 ≤ 5; omega, g5⟩ ⟨(xup_slot (by decide)).trans ((xup_slot (by decide)).trans xup_self), (xup_slot (by decide)).trans xup_self⟩) (Nat.le_of_ble_eq_true rfl)) rfl rfl tg_X11_takes lk_X11_119 in_X11_takes se_X11_takes rfl dX11_readLine_120 rfl (Nat.le_of_ble_eq_true rfl) (Nat.le_refl _) (Nat.le_refl _) ?_
        rintro v M9 ⟨rfl, I1, rfl, t1, f1⟩ -
        have fy : FrY I I1 := (((FrY.rf.up30 (by decide)).up30 (by decide)).up30 (by decide)).tr f1.y
        have hm1 : DM I1 a true := (DM.t8 hm (I' := xup (xup (xup I 30 0 0 15 (2)) 30 0 0 16 (nI st)) 30 0 0 8 (1)) (fun x => (xup_tag (by decide)).trans ((xup_tag (by decide)).trans (xup_tag (by decide)))) (fun x hx => (xup_slot (by omega)).trans ((xup_slot (by omega)).trans (xup_slot (by omega)))) (xup_self.trans (by rfl))).n f1
        have hou : OKT n (tkT n b (Sum.inl (2, st) : tS)) := tk_ok ⟨by show 1 ≤ 2; omega, by show 2 ≤ 5; omega, g5⟩
        obtain ⟨u, hu⟩ : ∃ u, u = tkT n b (Sum.inl (2, st) : tS) := ⟨_, rfl⟩
        rw [← hu] at t1 hou
        have hu1 : tkT n b (flT 2 (Sum.inr (so, (st, (nx, v))) : tS)) = u := by rw [hu0, hu]
        rw [show bodyT n b 9 (Sum.inr (so, (st, (nx, v))) : tS) a true = _ from (if_neg (by omega)).trans ((if_neg (by omega)).trans (if_neg (by omega)))]
        unfold pLz
        simp only [hu1]
        rcases u with ⟨c, p⟩ | ⟨so2, st2, nx2, v2⟩
        · skip
          have q1 := hou.1
          have q2 := hou.2.1
          replace q1 : 1 ≤ c := q1
          replace q2 : c ≤ 5 := q2
          refine w_aload_n dX11_readLine_123 rfl ?_
          refine w_getI ff_X11_73 rfl rfl dX11_readLine_124 ?_
          rw [show (I1 30 0 0 15 : Int32) = nI c from t1.1]
          refine w_if_le (tgt := 131) dX11_readLine_127 (by decide) (fun h1 => ?_) (fun h1 => ?_)
          · skip
            replace h1 : ((c : Nat) : Int) ≤ 0 := (zle (z_nI (by omega)) (by decide)).mp h1
            first
            | (exfalso; omega)
            | skip
              exfalso
              omega
          · skip
            replace h1 : ¬ (((c : Nat) : Int) ≤ 0) := fun q => h1 ((zle (z_nI (by omega)) (by decide)).mpr q)
            first
            | (exfalso; omega)
            | skip
              exact w_return dX11_readLine_130 rfl rfl (⟨rfl, _, rfl, t1, fy, fun q z => by cases z⟩)
        · skip
          cases hu1
    · skip
      replace h1 : ¬ (4 ≤ ((nJ a : Nat) : Int)) := fun q => h1 ((zle (by decide) (z_nI (by omega))).mpr q)
      first
      | (exfalso; omega)
      | skip
        refine w_iconst (v := 1) dX11_readLine_65 (by decide) ?_
        refine w_goto (tgt := 70) dX11_readLine_66 (by decide) ?_
        refine w_iconst (v := 5) dX11_readLine_70 (by decide) ?_
        refine w_callV (as := [vI (1), vI (5)]) (st := []) (Tri.mono (d_need1 (I := xup (xup I 30 0 0 15 (2)) 30 0 0 16 (nI st)) (5)) (Nat.le_of_ble_eq_true rfl)) rfl rfl tg_X11_needs lk_X11_115 in_X11_needs se_X11_needs rfl dX11_readLine_71 rfl (Nat.le_of_ble_eq_true rfl) (Nat.le_refl _) (Nat.le_refl _) ?_
        rintro _ _ ⟨rfl, rfl⟩ -
        refine w_aload_n dX11_readLine_74 rfl ?_
        refine w_iload_n dX11_readLine_75 rfl ?_
        refine w_bipush (v := 8) dX11_readLine_76 (by decide) ?_
        refine w_icmp_ne (tgt := 88) dX11_readLine_78 (by decide) (fun _ => ?_) (fun h => absurd h (by decide))
        refine w_iconst (v := 1) dX11_readLine_88 (by decide) ?_
        refine w_goto (tgt := 93) dX11_readLine_89 (by decide) ?_
        refine w_iconst (v := 4) dX11_readLine_93 (by decide) ?_
        refine w_callV (as := [vI (1), vI (4)]) (st := []) (Tri.mono (d_need1 (I := xup (xup I 30 0 0 15 (2)) 30 0 0 16 (nI st)) (4)) (Nat.le_of_ble_eq_true rfl)) rfl rfl tg_X11_needs lk_X11_115 in_X11_needs se_X11_needs rfl dX11_readLine_94 rfl (Nat.le_of_ble_eq_true rfl) (Nat.le_refl _) (Nat.le_refl _) ?_
        rintro _ _ ⟨rfl, rfl⟩ -
        refine w_aload_n dX11_readLine_97 rfl ?_
        refine w_aload_n dX11_readLine_98 rfl ?_
        refine w_getI ff_X11_54 rfl rfl dX11_readLine_99 ?_
        rw [show ((xup (xup I 30 0 0 15 (2)) 30 0 0 16 (nI st)) 30 0 0 8 : Int32) = 1 from ((xup_slot (by decide)).trans ((xup_slot (by decide)).trans m8))]
        refine w_if_ne (tgt := 111) dX11_readLine_102 (by decide) (fun _ => ?_) (fun h => absurd h (by decide))
        refine w_iconst (v := 1) dX11_readLine_111 (by decide) ?_
        refine w_goto (tgt := 116) dX11_readLine_112 (by decide) ?_
        refine w_putI ff_X11_54 rfl rfl rfl rfl dX11_readLine_116 ?_
        have hu0 : (flT 2 (Sum.inr (so, (st, (nx, v))) : tS)) = (Sum.inl (2, st) : tS) := rfl
        refine w_aload_n dX11_readLine_119 rfl ?_
        refine w_callV (as := []) (st := []) (Tri.mono (d_take (I := xup (xup (xup I 30 0 0 15 (2)) 30 0 0 16 (nI st)) 30 0 0 8 (1)) hk (ht.y (((FrY.rf.up30 (by decide)).up30 (by decide)).up30 (by decide))) (s := (Sum.inl (2, st) : tS)) ⟨by show 1 ≤ 2; omega, by show 2 ≤ 5; omega, g5⟩ ⟨(xup_slot (by decide)).trans ((xup_slot (by decide)).trans xup_self), (xup_slot (by decide)).trans xup_self⟩) (Nat.le_of_ble_eq_true rfl)) rfl rfl tg_X11_takes lk_X11_119 in_X11_takes se_X11_takes rfl dX11_readLine_120 rfl (Nat.le_of_ble_eq_true rfl) (Nat.le_refl _) (Nat.le_refl _) ?_
        rintro v M9 ⟨rfl, I1, rfl, t1, f1⟩ -
        have fy : FrY I I1 := (((FrY.rf.up30 (by decide)).up30 (by decide)).up30 (by decide)).tr f1.y
        have hm1 : DM I1 a true := (DM.t8 hm (I' := xup (xup (xup I 30 0 0 15 (2)) 30 0 0 16 (nI st)) 30 0 0 8 (1)) (fun x => (xup_tag (by decide)).trans ((xup_tag (by decide)).trans (xup_tag (by decide)))) (fun x hx => (xup_slot (by omega)).trans ((xup_slot (by omega)).trans (xup_slot (by omega)))) (xup_self.trans (by rfl))).n f1
        have hou : OKT n (tkT n b (Sum.inl (2, st) : tS)) := tk_ok ⟨by show 1 ≤ 2; omega, by show 2 ≤ 5; omega, g5⟩
        obtain ⟨u, hu⟩ : ∃ u, u = tkT n b (Sum.inl (2, st) : tS) := ⟨_, rfl⟩
        rw [← hu] at t1 hou
        have hu1 : tkT n b (flT 2 (Sum.inr (so, (st, (nx, v))) : tS)) = u := by rw [hu0, hu]
        rw [show bodyT n b 9 (Sum.inr (so, (st, (nx, v))) : tS) a true = _ from (if_neg (by omega)).trans ((if_neg (by omega)).trans (if_neg (by omega)))]
        unfold pLz
        simp only [hu1]
        rcases u with ⟨c, p⟩ | ⟨so2, st2, nx2, v2⟩
        · skip
          have q1 := hou.1
          have q2 := hou.2.1
          replace q1 : 1 ≤ c := q1
          replace q2 : c ≤ 5 := q2
          refine w_aload_n dX11_readLine_123 rfl ?_
          refine w_getI ff_X11_73 rfl rfl dX11_readLine_124 ?_
          rw [show (I1 30 0 0 15 : Int32) = nI c from t1.1]
          refine w_if_le (tgt := 131) dX11_readLine_127 (by decide) (fun h1 => ?_) (fun h1 => ?_)
          · skip
            replace h1 : ((c : Nat) : Int) ≤ 0 := (zle (z_nI (by omega)) (by decide)).mp h1
            first
            | (exfalso; omega)
            | skip
              exfalso
              omega
          · skip
            replace h1 : ¬ (((c : Nat) : Int) ≤ 0) := fun q => h1 ((zle (z_nI (by omega)) (by decide)).mpr q)
            first
            | (exfalso; omega)
            | skip
              exact w_return dX11_readLine_130 rfl rfl (⟨rfl, _, rfl, t1, fy, fun q z => by cases z⟩)
        · skip
          cases hu1
