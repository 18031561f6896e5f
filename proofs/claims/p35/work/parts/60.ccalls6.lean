/-! the class's calls: setPart, clear, addSchema (class side) -/
theorem hM8g {h9 H8 : mw_H} {b : Nat} {x : va_E} (h : mw_g h9 b = some x) (hF : yF [1, 2] h9 H8) (hb : 2 < b) : mw_g H8 b = some x := hF.g (by simp; omega) h
section CF
variable {g : mS} {H H0 : mw_H} {sa ma : Nat → Nat}
theorem k_setPart (hC : cC g H sa ma) (m t o : Int32) : mw_Con mm_X6_setPart 7 1 6 [.ref 1, .int m, .int t, .int o] H (cP H [eIO, eIA, eIS] (sp_setPart g m t o)) := by
  refine gm_con pl_X6 rfl rfl (Nat.le_of_ble_eq_true rfl) rfl ?_
  unfold sp_setPart
  refine mw_wf (fun hw => ?_)
  have h_this := cC_x hC
  cases hs : sM g m with
  | none =>
    refine mw_aload_n (i := 0) dX6_setPart_0 rfl rfl ?_
    refine mw_iload_n (i := 1) dX6_setPart_1 rfl rfl ?_
    refine mw_callV dX6_setPart_2 mk_X6_119 h_this rfl (y_mA0 hC hs) (by decide) (Nat.le_refl _) (Nat.le_refl _) rfl rfl (Nat.le_of_ble_eq_true rfl) (fun E9 h9 q9 => ?_) (fun v9 h9 q9 => ?_)
    · obtain ⟨e9, rfl⟩ := q9
      cases e9
      exact mw_out rfl (cP_x hC hw yG.rf 0 (by decide) rfl)
    · cases q9.1
  | some q =>
    obtain ⟨m', s, L⟩ := q
    obtain ⟨hm, rfl, hT⟩ := sM_in hs
    cases ho : sM g o with
    | none =>
      refine mw_aload_n (i := 0) dX6_setPart_0 rfl rfl ?_
      refine mw_iload_n (i := 1) dX6_setPart_1 rfl rfl ?_
      refine mw_callVr dX6_setPart_2 mk_X6_119 h_this rfl (y_mA1 hC hs) (by decide) (Nat.le_refl _) (Nat.le_refl _) rfl rfl (Nat.le_of_ble_eq_true rfl) ?_
      refine mw_astore_4 dX6_setPart_5 (by decide) ?_
      refine mw_aload_n (i := 0) dX6_setPart_7 rfl rfl ?_
      refine mw_iload_n (i := 3) dX6_setPart_8 rfl rfl ?_
      refine mw_callV dX6_setPart_9 mk_X6_119 h_this rfl (y_mA0 hC ho) (by decide) (Nat.le_refl _) (Nat.le_refl _) rfl rfl (Nat.le_of_ble_eq_true rfl) (fun E9 h9 q9 => ?_) (fun v9 h9 q9 => ?_)
      · obtain ⟨e9, rfl⟩ := q9
        cases e9
        exact mw_out rfl (cP_x hC hw yG.rf 0 (by decide) rfl)
      · cases q9.1
    | some q2 =>
      obtain ⟨o', s2, L2⟩ := q2
      obtain ⟨hm2, rfl, hT2⟩ := sM_in ho
      obtain ⟨hsn, o2, o3⟩ := cC_ok hC hm hT
      obtain ⟨hsn2, p2, p3⟩ := cC_ok hC hm2 hT2
      have h56 := hC.2.2.1.2.2.1 _ hm (by rw [hT]; exact fun z => by cases z)
      have h562 := hC.2.2.1.2.2.1 _ hm2 (by rw [hT2]; exact fun z => by cases z)
      have h_r2 := (cC_me hC hm hT).1
      have h_r9 := (cC_me hC hm2 hT2).1
      dsimp only
      by_cases hk : zKind g.2.1 s t = 4
      · obtain ⟨tn, t1, t2, rfl⟩ := zK_tag (t := t) hk (by decide)
        have hw2 := cC_w hC s tn hsn t1 t2 hk
        have h6 := cC_ns hC
        rw [tix_n (show tn < 2 ^ 31 by omega)]
        have hp := y_pA1 (cC_sc hC hsn) hk
        rw [nI_clamp (show tn < 2 ^ 31 by omega)] at hp
        refine mw_aload_n (i := 0) dX6_setPart_0 rfl rfl ?_
        refine mw_iload_n (i := 1) dX6_setPart_1 rfl rfl ?_
        refine mw_callVr dX6_setPart_2 mk_X6_119 h_this rfl (y_mA1 hC hs) (by decide) (Nat.le_refl _) (Nat.le_refl _) rfl rfl (Nat.le_of_ble_eq_true rfl) ?_
        refine mw_astore_4 dX6_setPart_5 (by decide) ?_
        refine mw_aload_n (i := 0) dX6_setPart_7 rfl rfl ?_
        refine mw_iload_n (i := 3) dX6_setPart_8 rfl rfl ?_
        refine mw_callVr dX6_setPart_9 mk_X6_119 h_this rfl (y_mA1 hC ho) (by decide) (Nat.le_refl _) (Nat.le_refl _) rfl rfl (Nat.le_of_ble_eq_true rfl) ?_
        refine mw_astore_5 dX6_setPart_12 (by decide) ?_
        refine mw_aload (i := 4) dX6_setPart_14 rfl ?_
        refine mw_get dX6_setPart_16 fk_X6_141 h_r2 rfl ?_
        refine mw_iload_n (i := 2) dX6_setPart_19 rfl rfl ?_
        refine mw_callSr dX6_setPart_20 mk_X6_195 (hp) (by decide) (Nat.le_refl _) (Nat.le_refl _) rfl rfl (Nat.le_of_ble_eq_true rfl) ?_
        refine mw_aload (i := 5) dX6_setPart_23 rfl ?_
        refine mw_get dX6_setPart_25 fk_X6_141 h_r9 rfl ?_
        by_cases he : pn g.2.1 s tn = s2
        · have hcond : ¬ (zKind g.2.1 s (nI tn) ≠ 4 ∨ g.2.1 2 (32 * s + tn) ≠ nI s2) := by
            rintro (z | z)
            · exact z hk
            · exact z (by rw [hw2.2, he])
          rw [if_neg hcond]
          refine mw_acmp_eq (r := some (sa (pn g.2.1 s tn))) (z := some (sa s2)) (tgt := 41) dX6_setPart_28 (by decide) (fun _ => ?_) (fun c9 => absurd (by rw [he]) c9)
          obtain ⟨⟨n0, h_this_canon⟩, -⟩ := hC.2.2.2.2.2.2.1
          refine mw_aload_n (i := 0) dX6_setPart_41 rfl rfl ?_
          refine mw_get dX6_setPart_42 fk_X6_45 h_this rfl ?_
          refine mw_aload (i := 5) dX6_setPart_45 rfl ?_
          refine mw_get dX6_setPart_47 fk_X6_123 h_r9 rfl ?_
          refine mw_aload (i := 5) dX6_setPart_50 rfl ?_
          refine mw_get dX6_setPart_52 fk_X6_141 h_r9 rfl ?_
          refine mw_callV dX6_setPart_55 mk_X6_201 h_this_canon rfl (y_ch (Or.inl rfl) hC hm2 hT2) (by decide) (Nat.le_refl _) (Nat.le_refl _) rfl rfl (Nat.le_of_ble_eq_true rfl) (fun E9 h9 q9 => ?_) (fun v9 h9 q9 => ?_)
          · cases q9.1
          obtain ⟨e9, a1, a2, hC9⟩ := q9
          cases e9
          have hG9 : yG H h9 := a1.M.G (by decide)
          have hc1 := can_le g.2.1 s2 L2
          have h_this := cC_x hC9
          obtain ⟨⟨n1, h_this_canon⟩, -⟩ := hC9.2.2.2.2.2.2.1
          obtain ⟨X7, hB7⟩ := hC9.2.2.2.2.2.2.2.2.1
          refine mw_aload_n (i := 0) dX6_setPart_58 rfl rfl ?_
          refine mw_get dX6_setPart_59 fk_X6_45 h_this rfl ?_
          refine mw_aload_n (i := 0) dX6_setPart_62 rfl rfl ?_
          refine mw_get dX6_setPart_63 fk_X6_52 h_this rfl ?_
          refine mw_callV dX6_setPart_66 mk_X6_205 h_this_canon rfl (y_kwriteTo a2 (cC_me hC9 hm2 hT2).2 hB7 (by omega) (by omega) (by omega) (by rw [cnR_can]; omega)) (by decide) (Nat.le_refl _) (Nat.le_refl _) rfl rfl (Nat.le_of_ble_eq_true rfl) (fun E9 h9 q9 => ?_) (fun v9 h9 q9 => ?_)
          · cases q9.1
          obtain ⟨e9, b1, b2⟩ := q9
          cases e9
          rw [cnR_can] at b2
          have hC8 := cC_scr hC9 b1.M (by decide) (cW_M hC9.2.2.2.2 b1.M (Or.inl (by decide)) (Or.inl (by decide)) (Or.inl (by decide)) (Or.inl (by decide)) (Or.inr ⟨_, b2⟩) (Or.inl (by decide)) (Or.inl (by decide)))
          have hG8 := hG9.tr (b1.M.G (by decide))
          have hYok : ∀ z ∈ eL (can g.2.1 s2 L2), z < 256 := b2.2.2.1
          have hYl : (eL (can g.2.1 s2 L2)).length ≤ 120 := by omega
          generalize eL (can g.2.1 s2 L2) = Y at *
          have h_this := cC_x hC8
          refine mw_aload_n (i := 0) dX6_setPart_69 rfl rfl ?_
          refine mw_aload_n (i := 0) dX6_setPart_70 rfl rfl ?_
          refine mw_aload (i := 4) dX6_setPart_71 rfl ?_
          refine mw_callV dX6_setPart_73 mk_X6_130 h_this rfl (y_fieldsOf hC8 hm hT) (by decide) (Nat.le_refl _) (Nat.le_refl _) rfl rfl (Nat.le_of_ble_eq_true rfl) (fun E9 h9 q9 => ?_) (fun v9 h9 q9 => ?_)
          · cases q9.1
          obtain ⟨e9, q1, E, hI⟩ := q9
          cases e9
          have hC7 := cC_scan hC8 q1 hI.r
          have hG7 := hG8.tr (q1.M.G (by decide))
          have b3 := isB_F b2 q1 (by decide) (by decide)
          have h_this := cC_x hC7
          have h_r2 := (cC_me hC7 hm hT).1
          refine mw_aload (i := 4) dX6_setPart_76 rfl ?_
          refine mw_get dX6_setPart_78 fk_X6_141 h_r2 rfl ?_
          refine mw_iload_n (i := 2) dX6_setPart_81 rfl rfl ?_
          refine mw_callV dX6_setPart_82 mk_X6_149 h_this rfl (y_draftWithoutKnown hC7 hsn hI (cC_me hC7 hm hT).2 (by omega) (by omega) (by omega) (nI tn)) (by decide) (Nat.le_refl _) (Nat.le_refl _) rfl rfl (Nat.le_of_ble_eq_true rfl) (fun E9 h9 q9 => ?_) (fun v9 h9 q9 => ?_)
          · cases q9.1
          obtain ⟨e9, u1, u2⟩ := q9
          cases e9
          have hC6 := cC_draft hC7 u1 u2
          have hG6 := hG7.tr (u1.M.G (by decide))
          have b4 := isB_F b3 u1 (by decide) (by decide)
          have h_this := cC_x hC6
          have h_this_draft := u2.1
          have h_this_canonical := b4.1
          have hle := oth_le g.2.1 s (nI tn) L
          have hel := enum_le tn 2 Y.length
          refine mw_aload_n (i := 0) dX6_setPart_85 rfl rfl ?_
          refine mw_get dX6_setPart_86 fk_X6_58 h_this rfl ?_
          refine mw_iload_n (i := 2) dX6_setPart_89 rfl rfl ?_
          refine mw_aload_n (i := 0) dX6_setPart_90 rfl rfl ?_
          refine mw_get dX6_setPart_91 fk_X6_52 h_this rfl ?_
          refine mw_callVr dX6_setPart_94 mk_X6_208 h_this_canonical rfl (y_count b4) (by decide) (Nat.le_refl _) (Nat.le_refl _) rfl rfl (Nat.le_of_ble_eq_true rfl) ?_
          refine mw_callV dX6_setPart_97 mk_X6_178 h_this_draft rfl (y_addBytesHead u2 (t := tn) (n := Y.length) t2 (by omega) (by omega)) (by decide) (Nat.le_refl _) (Nat.le_refl _) rfl rfl (Nat.le_of_ble_eq_true rfl) (fun E9 h9 q9 => ?_) (fun v9 h9 q9 => ?_)
          · cases q9.1
          obtain ⟨e9, v1, v2⟩ := q9
          cases e9
          have hC5 := cC_draft hC6 v2 v1
          have hG5 := hG6.tr (v2.M.G (by decide))
          have b5 := isB_F b4 v2 (by decide) (by decide)
          have h_this := cC_x hC5
          have h_this_draft := v1.1
          have h_this_canonical := b5.1
          refine mw_aload_n (i := 0) dX6_setPart_100 rfl rfl ?_
          refine mw_get dX6_setPart_101 fk_X6_58 h_this rfl ?_
          refine mw_aload_n (i := 0) dX6_setPart_104 rfl rfl ?_
          refine mw_get dX6_setPart_105 fk_X6_52 h_this rfl ?_
          refine mw_iconst (v := 0) dX6_setPart_108 (by decide) ?_
          refine mw_aload_n (i := 0) dX6_setPart_109 rfl rfl ?_
          refine mw_get dX6_setPart_110 fk_X6_52 h_this rfl ?_
          refine mw_callVr dX6_setPart_113 mk_X6_208 h_this_canonical rfl (y_count b5) (by decide) (Nat.le_refl _) (Nat.le_refl _) rfl rfl (Nat.le_of_ble_eq_true rfl) ?_
          refine mw_callV dX6_setPart_116 mk_X6_187 h_this_draft rfl (y_addRange v1 b5 (by decide) (by decide) (p := 0) (n := Y.length) (Nat.zero_add _) (Nat.le_refl _) (by rw [List.length_append]; omega)) (by decide) (Nat.le_refl _) (Nat.le_refl _) rfl rfl (Nat.le_of_ble_eq_true rfl) (fun E9 h9 q9 => ?_) (fun v9 h9 q9 => ?_)
          · cases q9.1
          obtain ⟨e9, w1, w2⟩ := q9
          cases e9
          rw [List.drop_zero, List.take_length] at w1
          have e5 : eL (oth g.2.1 s (nI tn) L) ++ enum tn 2 Y.length ++ Y = eL (oth g.2.1 s (nI tn) L ++ [(tn, 2, Y.length, Y)]) := by
            rw [eL_snoc, ef_b, List.append_assoc]
          rw [e5] at w1
          have hC4 := cC_draft hC5 w2 w1
          have hG4 := hG5.tr (w2.M.G (by decide))
          have b6 := isB_F b5 w2 (by decide) (by decide)
          have h_this := cC_x hC4
          refine mw_wf (fun hw4 => ?_)
          refine mw_aload_n (i := 0) dX6_setPart_119 rfl rfl ?_
          refine mw_aload (i := 4) dX6_setPart_120 rfl ?_
          unfold putB putM
          rw [nI_clamp (show tn < 2 ^ 31 by omega)]
          have hokx := okf_b (tn := tn) t1 t2 (Y := Y) (by omega) hYok
          by_cases h120 : 120 < (eL (oth g.2.1 s (nI tn) L ++ [(tn, 2, Y.length, Y)])).length
          · rw [if_pos h120]
            refine mw_callV dX6_setPart_122 mk_X6_164 h_this rfl (y_takeDraft0 hC4 hm hT w1 h120) (by decide) (Nat.le_refl _) (Nat.le_refl _) rfl rfl (Nat.le_of_ble_eq_true rfl) (fun E9 h9 q9 => ?_) (fun v9 h9 q9 => ?_)
            · obtain ⟨e9, rfl⟩ := q9
              cases e9
              exact mw_out rfl (cP_x hC4 hw4 hG4 2 (by decide) rfl)
            · cases q9.1
          · rw [if_neg h120]
            refine mw_callV dX6_setPart_122 mk_X6_164 h_this rfl (y_takeDraft1 hC4 hm hT w1 (by omega) (ok_snoc (oth_ok o2) hokx)) (by decide) (Nat.le_refl _) (Nat.le_refl _) rfl rfl (Nat.le_of_ble_eq_true rfl) (fun E9 h9 q9 => ?_) (fun v9 h9 q9 => ?_)
            · cases q9.1
            obtain ⟨e9, c1, c2⟩ := q9
            cases e9
            have b7 := isB_F b6 c1 (by simp; omega) (by simp; omega)
            have h_this := cC_x c2
            have h_this_canonical := b7.1
            refine mw_aload_n (i := 0) dX6_setPart_125 rfl rfl ?_
            refine mw_get dX6_setPart_126 fk_X6_52 h_this rfl ?_
            refine mw_callVr dX6_setPart_129 mk_X6_208 h_this_canonical rfl (y_count b7) (by decide) (Nat.le_refl _) (Nat.le_refl _) rfl rfl (Nat.le_of_ble_eq_true rfl) ?_
            exact mw_ireturn dX6_setPart_132 ⟨_, rfl, rfl⟩ (cP_r c2 (hG4.tr (row_G hC4 hm hT c1)))
        · have hcond : zKind g.2.1 s (nI tn) ≠ 4 ∨ g.2.1 2 (32 * s + tn) ≠ nI s2 := Or.inr (fun z => he (by rw [hw2.2, nI_eq (by omega) (by omega)] at z; exact z))
          rw [if_pos hcond]
          have hsa : sa (pn g.2.1 s tn) ≠ sa s2 := by
            have := hC.2.1.2.2.2.2 _ _ hw2.1 hsn2 he
            omega
          refine mw_acmp_eq (r := some (sa (pn g.2.1 s tn))) (z := some (sa s2)) (tgt := 41) dX6_setPart_28 (by decide) (fun c9 => absurd (Option.some.inj c9) hsa) (fun _ => ?_)
          refine mw_throw th_X6_82_199_86 dX6_setPart_31 dX6_setPart_34 dX6_setPart_35 dX6_setPart_37 dX6_setPart_40 rfl (by decide) (by decide) (by decide) (Nat.le_of_ble_eq_true rfl) (cP_x hC hw yG.rf 1 (by decide) rfl)
      · rw [if_pos (Or.inl hk)]
        refine mw_aload_n (i := 0) dX6_setPart_0 rfl rfl ?_
        refine mw_iload_n (i := 1) dX6_setPart_1 rfl rfl ?_
        refine mw_callVr dX6_setPart_2 mk_X6_119 h_this rfl (y_mA1 hC hs) (by decide) (Nat.le_refl _) (Nat.le_refl _) rfl rfl (Nat.le_of_ble_eq_true rfl) ?_
        refine mw_astore_4 dX6_setPart_5 (by decide) ?_
        refine mw_aload_n (i := 0) dX6_setPart_7 rfl rfl ?_
        refine mw_iload_n (i := 3) dX6_setPart_8 rfl rfl ?_
        refine mw_callVr dX6_setPart_9 mk_X6_119 h_this rfl (y_mA1 hC ho) (by decide) (Nat.le_refl _) (Nat.le_refl _) rfl rfl (Nat.le_of_ble_eq_true rfl) ?_
        refine mw_astore_5 dX6_setPart_12 (by decide) ?_
        refine mw_aload (i := 4) dX6_setPart_14 rfl ?_
        refine mw_get dX6_setPart_16 fk_X6_141 h_r2 rfl ?_
        refine mw_iload_n (i := 2) dX6_setPart_19 rfl rfl ?_
        refine mw_callS dX6_setPart_20 mk_X6_195 (y_pA0 (cC_sc hC hsn) hk) (by decide) (Nat.le_refl _) (Nat.le_refl _) rfl rfl (Nat.le_of_ble_eq_true rfl) (fun E9 h9 q9 => ?_) (fun v9 h9 q9 => ?_)
        · obtain ⟨e9, rfl⟩ := q9
          cases e9
          exact mw_out rfl (cP_x hC hw yG.rf 1 (by decide) rfl)
        · cases q9.1
theorem lp_xcl {src cs n0 a : Nat} {X : List Nat} {L : List af} {E : Nat → Nat} {pb pa t : Int32} {Po : mw_P} (hI : isF H 10 src X L E pb pa) (hB : isB H src cs X) (h1 : mw_g H 1 = some (xV n0)) (hD0 : isB H 41 42 []) (n1 : src ≠ 41) (n2 : cs ≠ 42) (hl : (eL L).length ≤ 256) (x1 : Option Value) (K9 : ∀ (x6 : Option Value) (H' : mw_H), yF [41, 42] H H' → isB H' 41 42 (eL (L.filter (fun x => !decide (nI x.1 = t)))) → mw_W mm_X6_clear 7 1 6 75 [some (.ref 1), x1, some (.int t), some (.ref a), some (.ref 10), some (.int (nI (L.filter (fun x => decide (nI x.1 = t))).length)), x6] [] H' Po) : ∀ (r n : Nat) (H' : mw_H), n + r = L.length → yF [41, 42] H H' → isB H' 41 42 (eL ((L.take n).filter (fun x => !decide (nI x.1 = t)))) →
    mw_W mm_X6_clear 7 1 6 31 [some (.ref 1), x1, some (.int t), some (.ref a), some (.ref 10), some (.int (nI ((L.take n).filter (fun x => decide (nI x.1 = t))).length)), some (.int (nI n))] [] H' Po := by
  intro r
  induction r with
  | zero =>
    intro n H' hn hF hD
    have hn : n = L.length := hn
    have hI' := isF_T hI hD0 hF
    have hI0 := hI'
    obtain ⟨h60, nx, lm, f1, f2, f3, f4, h_r12, -, -⟩ := hI'
    refine mw_iload (i := 6) dX6_clear_31 rfl ?_
    refine mw_aload (i := 4) dX6_clear_33 rfl ?_
    refine mw_callVr dX6_clear_35 mk_X6_134 h_r12 rfl (y_fcount hI0) (by decide) (Nat.le_refl _) (Nat.le_refl _) rfl rfl (Nat.le_of_ble_eq_true rfl) ?_
    refine mw_icmp_ge (tgt := 75) dX6_clear_38 (by decide) (fun _ => ?_) (fun c9 => absurd c9 (fun z => z (nI_le (by omega) (by omega))))
    rw [hn, List.take_length] at hD ⊢
    exact K9 _ H' hF hD
  | succ r ih =>
    intro n H' hn hF hD
    have hnl : n < L.length := by omega
    have hI' := isF_T hI hD0 hF
    have hI0 := hI'
    have hB' := isB_T hB hD0 n1 n2 hF
    obtain ⟨h60, nx, lm, f1, f2, f3, f4, h_r12, -, -⟩ := hI'
    have h_this := hF.g (b := 1) (by simp) h1
    have h_this_draft := hD.1
    have hle := eL_take L (n + 1)
    have hle2 := fil_le (fun x => !decide (nI x.1 = t)) (L.take (n + 1))
    have ih' := fun H' => ih (n + 1) H' (by omega)
    rw [take_ga hnl, List.filter_append, List.filter_append, List.filter_cons, List.filter_cons] at ih'
    rw [take_ga hnl, List.filter_append, List.filter_cons] at hle2
    rw [take_ga hnl] at hle
    refine mw_iload (i := 6) dX6_clear_31 rfl ?_
    refine mw_aload (i := 4) dX6_clear_33 rfl ?_
    refine mw_callVr dX6_clear_35 mk_X6_134 h_r12 rfl (y_fcount hI0) (by decide) (Nat.le_refl _) (Nat.le_refl _) rfl rfl (Nat.le_of_ble_eq_true rfl) ?_
    refine mw_icmp_ge (tgt := 75) dX6_clear_38 (by decide) (fun c9 => absurd c9 (nI_ge hnl (by omega))) (fun _ => ?_)
    refine mw_aload (i := 4) dX6_clear_41 rfl ?_
    refine mw_iload (i := 6) dX6_clear_43 rfl ?_
    refine mw_callVr dX6_clear_45 mk_X6_212 h_r12 rfl (y_tagAt hI0 hnl) (by decide) (Nat.le_refl _) (Nat.le_refl _) rfl rfl (Nat.le_of_ble_eq_true rfl) ?_
    refine mw_iload_n (i := 2) dX6_clear_48 rfl rfl ?_
    by_cases ht : nI (ga L n).1 = t
    · rw [if_neg (by rw [decide_eq_true ht]; decide), if_pos (decide_eq_true ht)] at ih'
      refine mw_icmp_ne (tgt := 58) dX6_clear_49 (by decide) (fun c9 => absurd c9 (fun z => z ht)) (fun _ => ?_)
      refine mw_iinc_5 dX6_clear_52 (by decide) rfl ?_
      refine mw_goto (tgt := 69) dX6_clear_55 (by decide) ?_
      refine mw_iinc_6 dX6_clear_69 (by decide) rfl ?_
      refine mw_goto (tgt := 31) dX6_clear_72 (by decide) ?_
      rw [show nI n + Int32.ofInt 1 = nI (n + 1) from nI_1 n, show nI ((L.take n).filter (fun x => decide (nI x.1 = t))).length + Int32.ofInt 1 = nI (((L.take n).filter (fun x => decide (nI x.1 = t))).length + 1) from nI_1 _]
      have h9 := ih' H' hF (by
        show isB H' 41 42 (eL (List.filter _ (L.take n) ++ []))
        rw [List.append_nil]
        exact hD)
      rw [List.length_append] at h9
      exact h9
    · rw [if_pos (by rw [decide_eq_false ht]; decide), if_neg (by rw [decide_eq_false ht]; decide)] at ih'
      rw [if_pos (by rw [decide_eq_false ht]; decide)] at hle2
      have e2 : eL ((L.take n).filter (fun x => !decide (nI x.1 = t)) ++ [ga L n]) = eL ((L.take n).filter (fun x => !decide (nI x.1 = t))) ++ ef (ga L n) := eL_snoc _ _
      have hle3 : (eL ((L.take n).filter (fun x => !decide (nI x.1 = t)) ++ [ga L n])).length ≤ (eL (L.take n ++ [ga L n])).length := hle2
      rw [e2, List.length_append] at hle3
      refine mw_icmp_ne (tgt := 58) dX6_clear_49 (by decide) (fun _ => ?_) (fun c9 => absurd c9 ht)
      refine mw_aload (i := 4) dX6_clear_58 rfl ?_
      refine mw_aload_n (i := 0) dX6_clear_60 rfl rfl ?_
      refine mw_get dX6_clear_61 fk_X6_58 h_this rfl ?_
      refine mw_iload (i := 6) dX6_clear_64 rfl ?_
      refine mw_callV dX6_clear_66 mk_X6_215 h_r12 rfl (y_fwriteTo hI0 hB' hD n1 n2 hnl (by omega)) (by decide) (Nat.le_refl _) (Nat.le_refl _) rfl rfl (Nat.le_of_ble_eq_true rfl) (fun E9 h9 q9 => ?_) (fun v9 h9 q9 => ?_)
      · cases q9.1
      obtain ⟨e9, u1, u2⟩ := q9
      cases e9
      refine mw_iinc_6 dX6_clear_69 (by decide) rfl ?_
      refine mw_goto (tgt := 31) dX6_clear_72 (by decide) ?_
      rw [show nI n + Int32.ofInt 1 = nI (n + 1) from nI_1 n]
      rw [← e2] at u1
      have h7 := ih' h9 (hF.tr u2) u1
      rw [show List.filter (fun x : af => decide (nI x.1 = t)) [] = [] from rfl, List.append_nil] at h7
      exact h7
theorem k_clear (hC : cC g H sa ma) (m t : Int32) : mw_Con mm_X6_clear 7 1 6 [.ref 1, .int m, .int t] H (cP H [eIO, eIA] (sp_clear g m t)) := by
  refine gm_con pl_X6 rfl rfl (Nat.le_of_ble_eq_true rfl) rfl ?_
  unfold sp_clear
  refine mw_wf (fun hw => ?_)
  have h_this := cC_x hC
  cases hs : sM g m with
  | none =>
    refine mw_aload_n (i := 0) dX6_clear_0 rfl rfl ?_
    refine mw_iload_n (i := 1) dX6_clear_1 rfl rfl ?_
    refine mw_callV dX6_clear_2 mk_X6_119 h_this rfl (y_mA0 hC hs) (by decide) (Nat.le_refl _) (Nat.le_refl _) rfl rfl (Nat.le_of_ble_eq_true rfl) (fun E9 h9 q9 => ?_) (fun v9 h9 q9 => ?_)
    · obtain ⟨e9, rfl⟩ := q9
      cases e9
      exact mw_out rfl (cP_x hC hw yG.rf 0 (by decide) rfl)
    · cases q9.1
  | some q =>
    obtain ⟨m', s, L⟩ := q
    obtain ⟨hm, rfl, hT⟩ := sM_in hs
    obtain ⟨hsn, o2, o3⟩ := cC_ok hC hm hT
    have h56 := hC.2.2.1.2.2.1 _ hm (by rw [hT]; exact fun z => by cases z)
    dsimp only
    by_cases ht : zTag t = 0
    · rw [if_pos ht]
      refine mw_aload_n (i := 0) dX6_clear_0 rfl rfl ?_
      refine mw_iload_n (i := 1) dX6_clear_1 rfl rfl ?_
      refine mw_callVr dX6_clear_2 mk_X6_119 h_this rfl (y_mA1 hC hs) (by decide) (Nat.le_refl _) (Nat.le_refl _) rfl rfl (Nat.le_of_ble_eq_true rfl) ?_
      refine mw_astore_3 dX6_clear_5 (by decide) ?_
      refine mw_iload_n (i := 2) dX6_clear_6 rfl rfl ?_
      refine mw_callS dX6_clear_7 mk_X6_79 (y_cT0 ht) (by decide) (Nat.le_refl _) (Nat.le_refl _) rfl rfl (Nat.le_of_ble_eq_true rfl) (fun E9 h9 q9 => ?_) (fun v9 h9 q9 => ?_)
      · obtain ⟨e9, rfl⟩ := q9
        cases e9
        exact mw_out rfl (cP_x hC hw yG.rf 1 (by decide) rfl)
      · cases q9.1
    · rw [if_neg ht]
      refine mw_aload_n (i := 0) dX6_clear_0 rfl rfl ?_
      refine mw_iload_n (i := 1) dX6_clear_1 rfl rfl ?_
      refine mw_callVr dX6_clear_2 mk_X6_119 h_this rfl (y_mA1 hC hs) (by decide) (Nat.le_refl _) (Nat.le_refl _) rfl rfl (Nat.le_of_ble_eq_true rfl) ?_
      refine mw_astore_3 dX6_clear_5 (by decide) ?_
      refine mw_iload_n (i := 2) dX6_clear_6 rfl rfl ?_
      refine mw_callSv dX6_clear_7 mk_X6_79 (y_cT1 ht) (by decide) (Nat.le_refl _) (Nat.le_refl _) rfl rfl (Nat.le_of_ble_eq_true rfl) ?_
      refine mw_aload_n (i := 0) dX6_clear_10 rfl rfl ?_
      refine mw_aload_n (i := 3) dX6_clear_11 rfl rfl ?_
      refine mw_callV dX6_clear_12 mk_X6_130 h_this rfl (y_fieldsOf hC hm hT) (by decide) (Nat.le_refl _) (Nat.le_refl _) rfl rfl (Nat.le_of_ble_eq_true rfl) (fun E9 h9 q9 => ?_) (fun v9 h9 q9 => ?_)
      · cases q9.1
      obtain ⟨e9, q1, E, hI⟩ := q9
      cases e9
      have hC9 := cC_scan hC q1 hI.r
      have hG9 : yG H h9 := q1.M.G (by decide)
      have h_this := cC_x hC9
      obtain ⟨X7, hD⟩ := hC9.2.2.2.2.2.2.2.2.2.2
      have h_this_draft := hD.1
      refine mw_astore_4 dX6_clear_15 (by decide) ?_
      refine mw_aload_n (i := 0) dX6_clear_17 rfl rfl ?_
      refine mw_get dX6_clear_18 fk_X6_58 h_this rfl ?_
      refine mw_iconst (v := 0) dX6_clear_21 (by decide) ?_
      refine mw_callV dX6_clear_22 mk_X6_209 h_this_draft rfl (y_keep hD (k := 0) (Nat.zero_le _)) (by decide) (Nat.le_refl _) (Nat.le_refl _) rfl rfl (Nat.le_of_ble_eq_true rfl) (fun E9 h9 q9 => ?_) (fun v9 h9 q9 => ?_)
      · cases q9.1
      obtain ⟨e9, u1, u2⟩ := q9
      cases e9
      have u1 : isB h9 41 42 [] := u1
      have hC8 := cC_draft hC9 u2 u1
      have hG8 := hG9.tr (u2.M.G (by decide))
      refine mw_iconst (v := 0) dX6_clear_25 (by decide) ?_
      refine mw_istore_5 dX6_clear_26 (by decide) ?_
      refine mw_iconst (v := 0) dX6_clear_28 (by decide) ?_
      refine mw_istore_6 dX6_clear_29 (by decide) ?_
      refine lp_xcl (t := t) (isF_T hI hD u2) (cC_me hC8 hm hT).2 (cC_x hC8) u1 (by omega) (by omega) (by omega) _ (fun x6 H' hF hD2 => ?_) L.length 0 h9 (Nat.zero_add _) yF.rf u1
      have hC7 := cC_draft hC8 hF hD2
      have hG7 := hG8.tr (hF.M.G (by decide))
      have h_this := cC_x hC7
      obtain ⟨h_r2, hB7⟩ := cC_me hC7 hm hT
      have h_r2_row := hB7.1
      have hle := fil_le (fun x => !decide (nI x.1 = t)) L
      refine mw_aload_n (i := 3) dX6_clear_75 rfl rfl ?_
      refine mw_get dX6_clear_76 fk_X6_123 h_r2 rfl ?_
      refine mw_aload_n (i := 0) dX6_clear_79 rfl rfl ?_
      refine mw_get dX6_clear_80 fk_X6_58 h_this rfl ?_
      refine mw_callV dX6_clear_83 mk_X6_126 h_r2_row rfl (y_replaceBy hB7 hD2 (by omega) (by omega)) (by decide) (Nat.le_refl _) (Nat.le_refl _) rfl rfl (Nat.le_of_ble_eq_true rfl) (fun E9 h9 q9 => ?_) (fun v9 h9 q9 => ?_)
      · cases q9.1
      obtain ⟨e9, v1, v2⟩ := q9
      cases e9
      refine mw_iload (i := 5) dX6_clear_86 rfl ?_
      exact mw_ireturn dX6_clear_88 ⟨_, rfl, rfl⟩ (cP_r (cC_row hC7 hm hT v2 v1 (fun x hx => o2 x (List.mem_filter.mp hx).1) (by omega)) (hG7.tr (row_G hC7 hm hT v2)))
theorem k_addSchema (hC : cC g H sa ma) (h56 : 55 ≤ H.1) : mw_Con mm_X6_addSchema 6 5 133 [.ref 1] H (cP H [eIS] (sp_addSchema g)) := by
  refine gm_con pl_X6 rfl rfl (Nat.le_of_ble_eq_true rfl) rfl ?_
  unfold sp_addSchema
  refine mw_wf (fun hw => ?_)
  have h_this := cC_x hC
  have h6 := cC_ns hC
  obtain ⟨f, h2, hf⟩ := hC.2.1.2.1
  have h_this_schemas := h2
  obtain ⟨ds, dm⟩ := dis_a hC hw
  by_cases e : g.1 = 6
  · rw [if_pos e]
    refine mw_aload_n (i := 0) dX6_addSchema_0 rfl rfl ?_
    refine mw_get dX6_addSchema_1 fk_X6_61 h_this rfl ?_
    refine mw_istore_1 dX6_addSchema_4 (by decide) ?_
    refine mw_iload_n (i := 1) dX6_addSchema_5 rfl rfl ?_
    refine mw_if_lt (tgt := 18) dX6_addSchema_6 (by decide) (fun c9 => absurd c9 (nI_pos (by omega))) (fun _ => ?_)
    refine mw_iload_n (i := 1) dX6_addSchema_9 rfl rfl ?_
    refine mw_aload_n (i := 0) dX6_addSchema_10 rfl rfl ?_
    refine mw_get dX6_addSchema_11 fk_X6_11 h_this rfl ?_
    refine mw_alen (fun _ => rfl) dX6_addSchema_14 h_this_schemas ?_
    refine mw_icmp_lt (tgt := 28) dX6_addSchema_15 (by decide) (fun c9 => absurd c9 (nI_nlt (b := 6) (by omega) (by omega))) (fun _ => ?_)
    refine mw_throw th_X6_65_67_69 dX6_addSchema_18 dX6_addSchema_21 dX6_addSchema_22 dX6_addSchema_24 dX6_addSchema_27 rfl (by decide) (by decide) (by decide) (Nat.le_of_ble_eq_true rfl) (cP_x hC hw yG.rf 0 (by decide) rfl)
  · rw [if_neg e]
    refine mw_aload_n (i := 0) dX6_addSchema_0 rfl rfl ?_
    refine mw_get dX6_addSchema_1 fk_X6_61 h_this rfl ?_
    refine mw_istore_1 dX6_addSchema_4 (by decide) ?_
    refine mw_iload_n (i := 1) dX6_addSchema_5 rfl rfl ?_
    refine mw_if_lt (tgt := 18) dX6_addSchema_6 (by decide) (fun c9 => absurd c9 (nI_pos (by omega))) (fun _ => ?_)
    refine mw_iload_n (i := 1) dX6_addSchema_9 rfl rfl ?_
    refine mw_aload_n (i := 0) dX6_addSchema_10 rfl rfl ?_
    refine mw_get dX6_addSchema_11 fk_X6_11 h_this rfl ?_
    refine mw_alen (fun _ => rfl) dX6_addSchema_14 h_this_schemas ?_
    refine mw_icmp_lt (tgt := 28) dX6_addSchema_15 (by decide) (fun _ => ?_) (fun c9 => absurd c9 (fun y => y (nI_lt (b := 6) (by omega) (by decide))))
    refine mw_aload_n (i := 0) dX6_addSchema_28 rfl rfl ?_
    refine mw_get dX6_addSchema_29 fk_X6_11 h_this rfl ?_
    refine mw_iload_n (i := 1) dX6_addSchema_32 rfl rfl ?_
    refine mw_new (ci := 5) rfl cf_5 nw_X6_9 df_5 (fun _ => rfl) dX6_addSchema_33 (Nat.le_refl _) (Nat.le_refl _) ?_
    refine mw_dup dX6_addSchema_36 rfl ?_
    refine mw_iload_n (i := 1) dX6_addSchema_37 rfl rfl ?_
    refine mw_callI dX6_addSchema_38 mk_X6_72 (y_X5_init (n := nI g.1) (a := H.1) mw_gn) (by decide) (Nat.le_refl _) (Nat.le_refl _) rfl rfl (Nat.le_of_ble_eq_true rfl) (fun E9 h9 q9 => ?_) (fun v9 h9 q9 => ?_)
    · cases q9.1
    obtain ⟨e9, u1, u2, u3, ⟨fk, u4, u5⟩, ⟨ft, u8, u9⟩, ⟨fd, u6⟩, u7⟩ := q9
    cases e9
    have hM : yM [] H h9 := yM.trw hw (yM.n hw) u2 (fun b hb => Or.inl (by rw [List.mem_singleton] at hb; omega))
    have hC9 := cC_M0 hC hM
    have h_this := cC_x hC9
    have h_this_schemas := hM.g (b := 2) List.not_mem_nil h2
    have h_new33 := u3
    refine mw_aast ty_S dX6_addSchema_41 h_this_schemas (mw_ix rfl (show g.1 < 6 by omega) (by decide)) h_new33 rfl ?_
    refine mw_aload_n (i := 0) dX6_addSchema_42 rfl rfl ?_
    refine mw_dup dX6_addSchema_43 rfl ?_
    refine mw_get dX6_addSchema_44 fk_X6_61 ((mw_go (by omega)).trans h_this) rfl ?_
    refine mw_iconst (v := 1) dX6_addSchema_47 (by decide) ?_
    refine mw_iadd dX6_addSchema_48 ?_
    refine mw_put dX6_addSchema_49 fk_X6_61 ((mw_go (by omega)).trans h_this) (Nat.le_of_ble_eq_true rfl) (fun _ => ⟨rfl, rfl⟩) ?_
    refine mw_iload_n (i := 1) dX6_addSchema_52 rfl rfl ?_
    refine mw_heap (fun H' => mw_g H' 1 = some (xV (g.1 + 1)) ∧ mw_g H' 2 = some (xS (va_up f g.1 (some H.1))) ∧ yF [1, 2] h9 H') ⟨mw_gs.trans (by rw [nI_1]; rfl), (mw_go (by decide)).trans mw_gs, (yF.rf.s (by simp)).s (by simp)⟩ (fun H8 q8 => ?_)
    obtain ⟨g1, g2, hF⟩ := q8
    have hM8 : yM [1, 2] H H8 := (hM.mo (by simp)).tr hF.M
    have hlow : ∀ b, 2 < b → b ∉ [1, 2] := fun b hb => by simp; omega
    obtain ⟨⟨b1, b2, b3, b4, b5, b6⟩, ⟨-, -, c3, c4, c5⟩, ⟨⟨fM, d1, d2⟩, d3, d4, d5, d6⟩, d7, d8⟩ := hC
    generalize hK' : va_up g.2.1 1 (fun j => if 32 * g.1 ≤ j ∧ j < 32 * g.1 + 32 then -1 else g.2.1 1 j) = K'
    have k1 : ∀ i, i < 32 * g.1 → K' 1 i = g.2.1 1 i := fun i hi => by rw [← hK', va_up_self, if_neg (by omega)]
    have k1n : ∀ t, t ≤ 31 → K' 1 (32 * g.1 + t) = -1 := fun t ht => by rw [← hK', va_up_self, if_pos (by omega)]
    have k2 : K' 2 = g.2.1 2 := by rw [← hK']; exact va_up_ne _ _ (by decide)
    have k3 : K' 3 = g.2.1 3 := by rw [← hK']; exact va_up_ne _ _ (by decide)
    have hpn : ∀ s t, pn K' s t = pn g.2.1 s t := fun s t => by unfold pn; rw [k2]
    clear hK'
    have hsa : ∀ s, s ≠ g.1 → (fun i => if i = g.1 then H.1 else sa i) s = sa s := fun s hs => if_neg hs
    have hsn : (fun i => if i = g.1 then H.1 else sa i) g.1 = H.1 := if_pos rfl
    have hsp : ∀ m s L, m < 12 → g.2.2.1 m = some (s, L) → s ≠ g.1 := fun m s L hm hT => by
      have := (b4 m s L hm hT).1
      omega
    refine mw_ireturn dX6_addSchema_53 ⟨_, rfl, rfl⟩ ⟨hM8.G (by decide), ⟨fun i => if i = g.1 then H.1 else sa i, ma, ⟨by show g.1 + 1 ≤ 6; omega, ?_, ?_, ?_, b5, b6⟩, ⟨g1, ⟨_, g2, ?_⟩, ?_, ?_, ?_⟩, ⟨⟨fM, hM8.g (hlow 3 (by decide)) d1, d2⟩, ?_, d4, d5, ?_⟩, isB_M d7 hM8 (hlow 4 (by decide)) (hlow 5 (by decide)), cW_M d8 hM8 (Or.inl (by decide)) (Or.inl (by decide)) (Or.inl (by decide)) (Or.inl (by decide)) (Or.inl (by decide)) (Or.inl (by decide)) (Or.inl (by decide))⟩, Or.inl ⟨rfl, rfl⟩⟩
    · intro s t hs t1 t2 h4
      have hs : s < g.1 + 1 := hs
      show pn K' s t < g.1 + 1 ∧ K' 2 (32 * s + t) = nI (pn K' s t)
      have h4 : zKind K' s (nI t) = 4 := h4
      rw [zKind_of t1 t2] at h4
      rw [hpn, k2]
      by_cases z : s = g.1
      · rw [z, k1n t t2] at h4; exact absurd h4 (by decide)
      · rw [k1 _ (by omega)] at h4
        obtain ⟨p1, p2⟩ := b2 s t (by omega) t1 t2 (by rw [zKind_of t1 t2]; exact h4)
        exact ⟨by omega, p2⟩
    · intro s t hs t1 t2
      have hs : s < g.1 + 1 := hs
      show K' 1 (32 * s + t) = -1 ∨ _
      by_cases z : s = g.1
      · rw [z, k1n t t2]; exact Or.inl rfl
      · show _ ∨ ∃ k : Nat, k ≤ 4 ∧ K' 1 (32 * s + t) = nI k
        rw [k1 _ (by omega)]
        exact b3 s t (by omega) t1 t2
    · intro m s L hm hT
      obtain ⟨z1, z2⟩ := b4 m s L hm hT
      exact ⟨by show s < g.1 + 1; omega, z2⟩
    · intro s hs
      show va_up f g.1 (some H.1) s = if s < g.1 + 1 then some ((fun i => if i = g.1 then H.1 else sa i) s) else none
      by_cases z : s = g.1
      · rw [z, va_up_self, if_pos (by omega), hsn]
      · rw [va_up_ne _ _ z, hf s hs, hsa s z]
        by_cases z2 : s < g.1
        · rw [if_pos z2, if_pos (by omega)]
        · rw [if_neg z2, if_neg (by omega)]
    · intro s hs
      have hs : s < g.1 + 1 := hs
      show isS H8 K' (fun i => if i = g.1 then H.1 else sa i) s _ _ _ _ _
      by_cases z : s = g.1
      · rw [z, hsn]
        refine ⟨hM8g u3 hF (by omega), ⟨fk, hM8g u4 hF (show 2 < H.1 + 1 by omega), fun t t1 t2 => ?_⟩, ⟨fd, hM8g u6 hF (show 2 < H.1 + 3 by omega), fun t t1 t2 hz => absurd (k1n t t2) hz⟩, ⟨_, hM8g u7 hF (show 2 < H.1 + 4 by omega), fun t t1 t2 => ?_⟩, ⟨ft, hM8g u8 hF (show 2 < H.1 + 2 by omega), fun t t1 t2 => ?_⟩⟩
        · rw [k1n t t2]; exact u5 t (by omega)
        · rw [k1n t t2, if_neg (by decide)]
        · rw [k1n t t2, zTyK_n]; exact u9 t (by omega)
      · rw [hsa s z]
        have c9 := ds s (by omega)
        have c8 := c4 s (by omega)
        obtain ⟨a1, ⟨fa, a2, a3⟩, ⟨fb, a4, a5⟩, ⟨fc, a6, a7⟩, ⟨fe, a8, a9⟩⟩ := c3 s (by omega)
        refine ⟨hM8.g (hlow _ (by omega)) a1, ⟨fa, hM8.g (hlow _ (by omega)) a2, fun t t1 t2 => ?_⟩, ⟨fb, hM8.g (hlow _ (by omega)) a4, fun t t1 t2 hz => ?_⟩, ⟨fc, hM8.g (hlow _ (by omega)) a6, fun t t1 t2 => ?_⟩, ⟨fe, hM8.g (hlow _ (by omega)) a8, fun t t1 t2 => ?_⟩⟩
        · rw [k1 _ (by omega)]; exact a3 t t1 t2
        · rw [k1 _ (by omega)] at hz
          rw [k3]
          exact a5 t t1 t2 hz
        · rw [k1 _ (by omega), hpn, a7 t t1 t2]
          by_cases h4 : g.2.1 1 (32 * s + t) = 4
          · rw [if_pos h4, if_pos h4]
            have := (b2 s t (by omega) t1 t2 (by rw [zKind_of t1 t2]; exact h4)).1
            rw [hsa _ (by omega)]
          · rw [if_neg h4, if_neg h4]
        · rw [k1 _ (by omega)]; exact a9 t t1 t2
    · intro s hs
      have hs : s < g.1 + 1 := hs
      show 55 ≤ (fun i => if i = g.1 then H.1 else sa i) s
      by_cases z : s = g.1
      · rw [z, hsn]; exact h56
      · rw [hsa s z]; exact c4 s (by omega)
    · intro s s' hs hs' hne
      have hs : s < g.1 + 1 := hs
      have hs' : s' < g.1 + 1 := hs'
      show (fun i => if i = g.1 then H.1 else sa i) s + 5 ≤ (fun i => if i = g.1 then H.1 else sa i) s' ∨ (fun i => if i = g.1 then H.1 else sa i) s' + 5 ≤ (fun i => if i = g.1 then H.1 else sa i) s
      by_cases z : s = g.1
      · rw [z, hsn, hsa s' (by omega)]; exact Or.inr (ds s' (by omega))
      · rw [hsa s z]
        by_cases z' : s' = g.1
        · rw [z', hsn]; exact Or.inl (ds s (by omega))
        · rw [hsa s' z']; exact c5 s s' (by omega) (by omega) hne
    · intro m s L hm hT
      have hT : g.2.2.1 m = some (s, L) := hT
      have c9 := d4 m hm (by rw [hT]; exact fun z => by cases z)
      obtain ⟨a1, a2⟩ := d3 m s L hm hT
      refine ⟨?_, isB_M a2 hM8 (hlow _ (by omega)) (hlow _ (by omega))⟩
      rw [hsa s (hsp m s L hm hT)]
      exact hM8.g (hlow _ (by omega)) a1
    · intro s m hs hm hT
      have hs : s < g.1 + 1 := hs
      show (fun i => if i = g.1 then H.1 else sa i) s + 5 ≤ ma m ∨ ma m + 3 ≤ (fun i => if i = g.1 then H.1 else sa i) s
      by_cases z : s = g.1
      · rw [z, hsn]; exact Or.inr (dm m hm hT)
      · rw [hsa s z]; exact d6 s m (by omega) hm hT
end CF
