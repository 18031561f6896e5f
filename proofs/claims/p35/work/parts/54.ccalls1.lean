/-! the class's calls: those that only look (class side) -/
section CA
variable {g : mS} {H : mw_H} {sa ma : Nat → Nat}
theorem k_kindOf (hC : cC g H sa ma) (s t : Int32) : mw_Con mm_X6_kindOf 7 1 6 [.ref 1, .int s, .int t] H (cP H [eIO, eIA] (sp_kindOf g s t)) := by
  refine gm_con pl_X6 rfl rfl (Nat.le_of_ble_eq_true rfl) rfl ?_
  unfold sp_kindOf
  refine mw_wf (fun hw => ?_)
  have h_this := cC_x hC
  cases hs : sS g s with
  | none =>
    refine mw_aload_n (i := 0) dX6_kindOf_0 rfl rfl ?_
    refine mw_iload_n (i := 1) dX6_kindOf_1 rfl rfl ?_
    refine mw_callV dX6_kindOf_2 mk_X6_75 h_this rfl (y_sA0 hC hs) (by decide) (Nat.le_refl _) (Nat.le_refl _) rfl rfl (Nat.le_of_ble_eq_true rfl) (fun E9 h9 q9 => ?_) (fun v9 h9 q9 => ?_)
    · obtain ⟨e9, rfl⟩ := q9
      cases e9
      exact mw_out rfl (cP_x hC hw yG.rf 0 (by decide) rfl)
    · cases q9.1
  | some j =>
    obtain ⟨hj, rfl⟩ := sS_in (cC_ns hC) hs
    dsimp only
    by_cases ht : zTag t = 0
    · rw [if_pos ht]
      refine mw_aload_n (i := 0) dX6_kindOf_0 rfl rfl ?_
      refine mw_iload_n (i := 1) dX6_kindOf_1 rfl rfl ?_
      refine mw_callVr dX6_kindOf_2 mk_X6_75 h_this rfl (y_sA1 hC hs) (by decide) (Nat.le_refl _) (Nat.le_refl _) rfl rfl (Nat.le_of_ble_eq_true rfl) ?_
      refine mw_astore_3 dX6_kindOf_5 (by decide) ?_
      refine mw_iload_n (i := 2) dX6_kindOf_6 rfl rfl ?_
      refine mw_callS dX6_kindOf_7 mk_X6_79 (y_cT0 ht) (by decide) (Nat.le_refl _) (Nat.le_refl _) rfl rfl (Nat.le_of_ble_eq_true rfl) (fun E9 h9 q9 => ?_) (fun v9 h9 q9 => ?_)
      · obtain ⟨e9, rfl⟩ := q9
        cases e9
        exact mw_out rfl (cP_x hC hw yG.rf 1 (by decide) rfl)
      · cases q9.1
    · rw [if_neg ht]
      have hS := cC_sc hC hj
      have h_r2 := hS.1
      refine mw_aload_n (i := 0) dX6_kindOf_0 rfl rfl ?_
      refine mw_iload_n (i := 1) dX6_kindOf_1 rfl rfl ?_
      refine mw_callVr dX6_kindOf_2 mk_X6_75 h_this rfl (y_sA1 hC hs) (by decide) (Nat.le_refl _) (Nat.le_refl _) rfl rfl (Nat.le_of_ble_eq_true rfl) ?_
      refine mw_astore_3 dX6_kindOf_5 (by decide) ?_
      refine mw_iload_n (i := 2) dX6_kindOf_6 rfl rfl ?_
      refine mw_callSv dX6_kindOf_7 mk_X6_79 (y_cT1 ht) (by decide) (Nat.le_refl _) (Nat.le_refl _) rfl rfl (Nat.le_of_ble_eq_true rfl) ?_
      refine mw_aload_n (i := 3) dX6_kindOf_10 rfl rfl ?_
      refine mw_iload_n (i := 2) dX6_kindOf_11 rfl rfl ?_
      refine mw_callVr dX6_kindOf_12 mk_X6_87 h_r2 rfl (y_kindAt hS t) (by decide) (Nat.le_refl _) (Nat.le_refl _) rfl rfl (Nat.le_of_ble_eq_true rfl) ?_
      exact mw_ireturn dX6_kindOf_15 ⟨_, rfl, rfl⟩ (cP_r hC yG.rf)
theorem k_schemaOf (hC : cC g H sa ma) (m : Int32) : mw_Con mm_X6_schemaOf 7 1 6 [.ref 1, .int m] H (cP H [eIO] (sp_schemaOf g m)) := by
  refine gm_con pl_X6 rfl rfl (Nat.le_of_ble_eq_true rfl) rfl ?_
  unfold sp_schemaOf
  refine mw_wf (fun hw => ?_)
  have h_this := cC_x hC
  cases hs : sM g m with
  | none =>
    refine mw_aload_n (i := 0) dX6_schemaOf_0 rfl rfl ?_
    refine mw_iload_n (i := 1) dX6_schemaOf_1 rfl rfl ?_
    refine mw_callV dX6_schemaOf_2 mk_X6_119 h_this rfl (y_mA0 hC hs) (by decide) (Nat.le_refl _) (Nat.le_refl _) rfl rfl (Nat.le_of_ble_eq_true rfl) (fun E9 h9 q9 => ?_) (fun v9 h9 q9 => ?_)
    · obtain ⟨e9, rfl⟩ := q9
      cases e9
      exact mw_out rfl (cP_x hC hw yG.rf 0 (by decide) rfl)
    · cases q9.1
  | some q =>
    obtain ⟨m', s, L⟩ := q
    obtain ⟨hm, rfl, hT⟩ := sM_in hs
    have h_r2 := (cC_me hC hm hT).1
    have h_r2_schema := (cC_sc hC (cC_ok hC hm hT).1).1
    refine mw_aload_n (i := 0) dX6_schemaOf_0 rfl rfl ?_
    refine mw_iload_n (i := 1) dX6_schemaOf_1 rfl rfl ?_
    refine mw_callVr dX6_schemaOf_2 mk_X6_119 h_this rfl (y_mA1 hC hs) (by decide) (Nat.le_refl _) (Nat.le_refl _) rfl rfl (Nat.le_of_ble_eq_true rfl) ?_
    refine mw_get dX6_schemaOf_5 fk_X6_141 h_r2 rfl ?_
    refine mw_get dX6_schemaOf_8 fk_X6_218 h_r2_schema rfl ?_
    exact mw_ireturn dX6_schemaOf_11 ⟨_, rfl, rfl⟩ (cP_r hC yG.rf)
theorem k_weight (hC : cC g H sa ma) (m : Int32) : mw_Con mm_X6_weight 7 1 6 [.ref 1, .int m] H (cP H [eIO] (sp_weight g m)) := by
  refine gm_con pl_X6 rfl rfl (Nat.le_of_ble_eq_true rfl) rfl ?_
  unfold sp_weight
  refine mw_wf (fun hw => ?_)
  have h_this := cC_x hC
  cases hs : sM g m with
  | none =>
    refine mw_aload_n (i := 0) dX6_weight_0 rfl rfl ?_
    refine mw_iload_n (i := 1) dX6_weight_1 rfl rfl ?_
    refine mw_callV dX6_weight_2 mk_X6_119 h_this rfl (y_mA0 hC hs) (by decide) (Nat.le_refl _) (Nat.le_refl _) rfl rfl (Nat.le_of_ble_eq_true rfl) (fun E9 h9 q9 => ?_) (fun v9 h9 q9 => ?_)
    · obtain ⟨e9, rfl⟩ := q9
      cases e9
      exact mw_out rfl (cP_x hC hw yG.rf 0 (by decide) rfl)
    · cases q9.1
  | some q =>
    obtain ⟨m', s, L⟩ := q
    obtain ⟨hm, rfl, hT⟩ := sM_in hs
    obtain ⟨h_r2, hB⟩ := cC_me hC hm hT
    have h_r2_row := hB.1
    refine mw_aload_n (i := 0) dX6_weight_0 rfl rfl ?_
    refine mw_iload_n (i := 1) dX6_weight_1 rfl rfl ?_
    refine mw_callVr dX6_weight_2 mk_X6_119 h_this rfl (y_mA1 hC hs) (by decide) (Nat.le_refl _) (Nat.le_refl _) rfl rfl (Nat.le_of_ble_eq_true rfl) ?_
    refine mw_get dX6_weight_5 fk_X6_123 h_r2 rfl ?_
    refine mw_callVr dX6_weight_8 mk_X6_208 h_r2_row rfl (y_count hB) (by decide) (Nat.le_refl _) (Nat.le_refl _) rfl rfl (Nat.le_of_ble_eq_true rfl) ?_
    exact mw_ireturn dX6_weight_11 ⟨_, rfl, rfl⟩ (cP_r hC yG.rf)
theorem k_length (hC : cC g H sa ma) : mw_Con mm_X6_length 1 0 0 [.ref 1] H (cP H [] (sp_length g)) := by
  refine gm_con pl_X6 rfl rfl (Nat.le_of_ble_eq_true rfl) rfl ?_
  have h_this := cC_x hC
  have hB := hC.2.2.2.1
  have h_this_tape := hB.1
  refine mw_aload_n (i := 0) dX6_length_0 rfl rfl ?_
  refine mw_get dX6_length_1 fk_X6_24 h_this rfl ?_
  refine mw_callVr dX6_length_4 mk_X6_208 h_this_tape rfl (y_count hB) (by decide) (Nat.le_refl _) (Nat.le_refl _) rfl rfl (Nat.le_of_ble_eq_true rfl) ?_
  exact mw_ireturn dX6_length_7 ⟨_, rfl, rfl⟩ (cP_r hC yG.rf)
theorem k_byteAt (hC : cC g H sa ma) (p : Int32) : mw_Con mm_X6_byteAt 6 1 6 [.ref 1, .int p] H (cP H [eIO] (sp_byteAt g p)) := by
  refine gm_con pl_X6 rfl rfl (Nat.le_of_ble_eq_true rfl) rfl ?_
  have h_this := cC_x hC
  have hB := hC.2.2.2.1
  have h_this_tape := hB.1
  have hl := hC.1.2.2.2.2.1
  unfold sp_byteAt
  refine mw_wf (fun hw => ?_)
  rcases pk_ix p (n := g.2.2.2.length) (by omega) with z | z | ⟨j, hj, rfl⟩
  · rw [if_pos (by unfold zIn; rw [if_pos z])]
    refine mw_iload_n (i := 1) dX6_byteAt_0 rfl rfl ?_
    refine mw_if_lt (tgt := 15) dX6_byteAt_1 (by decide) (fun _ => ?_) (fun c9 => absurd c9 (fun y => y z))
    refine mw_throw th_X6_257_233_261 dX6_byteAt_15 dX6_byteAt_18 dX6_byteAt_19 dX6_byteAt_21 dX6_byteAt_24 rfl (by decide) (by decide) (by decide) (Nat.le_of_ble_eq_true rfl) (cP_x hC hw yG.rf 0 (by decide) rfl)
  · have hz : zIn p 0 (nI g.2.2.2.length - 1) = 0 := by
      unfold zIn
      rw [if_neg (ge_nneg (by omega) z)]
      refine if_pos ?_
      rcases Nat.eq_zero_or_pos g.2.2.2.length with e | e
      · rw [e] at z ⊢
        exact Int32.lt_of_lt_of_le (by decide) z
      · rw [show nI g.2.2.2.length - 1 = nI (g.2.2.2.length - 1) from pk_sub e]
        exact Int32.lt_of_lt_of_le (nI_lt (by omega) (by omega)) z
    rw [if_pos hz]
    refine mw_iload_n (i := 1) dX6_byteAt_0 rfl rfl ?_
    refine mw_if_lt (tgt := 15) dX6_byteAt_1 (by decide) (fun c9 => absurd c9 (ge_nneg (show g.2.2.2.length < 2 ^ 31 by omega) z)) (fun _ => ?_)
    refine mw_iload_n (i := 1) dX6_byteAt_4 rfl rfl ?_
    refine mw_aload_n (i := 0) dX6_byteAt_5 rfl rfl ?_
    refine mw_get dX6_byteAt_6 fk_X6_24 h_this rfl ?_
    refine mw_callVr dX6_byteAt_9 mk_X6_208 h_this_tape rfl (y_count hB) (by decide) (Nat.le_refl _) (Nat.le_refl _) rfl rfl (Nat.le_of_ble_eq_true rfl) ?_
    refine mw_icmp_lt (tgt := 25) dX6_byteAt_12 (by decide) (fun c9 => absurd c9 (fun y => Int32.not_lt.mpr z y)) (fun _ => ?_)
    refine mw_throw th_X6_257_233_261 dX6_byteAt_15 dX6_byteAt_18 dX6_byteAt_19 dX6_byteAt_21 dX6_byteAt_24 rfl (by decide) (by decide) (by decide) (Nat.le_of_ble_eq_true rfl) (cP_x hC hw yG.rf 0 (by decide) rfl)
  · have hz : ¬ zIn (nI j) 0 (nI g.2.2.2.length - 1) = 0 := by
      unfold zIn
      rw [show nI g.2.2.2.length - 1 = nI (g.2.2.2.length - 1) from pk_sub (show 1 ≤ g.2.2.2.length by omega), if_neg (nI_pos (by omega)), if_neg (nI_nlt (by omega) (by omega))]
      decide
    rw [if_neg hz, nI_clamp (by omega)]
    refine mw_iload_n (i := 1) dX6_byteAt_0 rfl rfl ?_
    refine mw_if_lt (tgt := 15) dX6_byteAt_1 (by decide) (fun c9 => absurd c9 (nI_pos (by omega))) (fun _ => ?_)
    refine mw_iload_n (i := 1) dX6_byteAt_4 rfl rfl ?_
    refine mw_aload_n (i := 0) dX6_byteAt_5 rfl rfl ?_
    refine mw_get dX6_byteAt_6 fk_X6_24 h_this rfl ?_
    refine mw_callVr dX6_byteAt_9 mk_X6_208 h_this_tape rfl (y_count hB) (by decide) (Nat.le_refl _) (Nat.le_refl _) rfl rfl (Nat.le_of_ble_eq_true rfl) ?_
    refine mw_icmp_lt (tgt := 25) dX6_byteAt_12 (by decide) (fun _ => ?_) (fun c9 => absurd c9 (fun y => y (nI_lt hj (by omega))))
    refine mw_aload_n (i := 0) dX6_byteAt_25 rfl rfl ?_
    refine mw_get dX6_byteAt_26 fk_X6_24 h_this rfl ?_
    refine mw_iload_n (i := 1) dX6_byteAt_29 rfl rfl ?_
    refine mw_callVr dX6_byteAt_30 mk_X6_236 h_this_tape rfl (y_at hB hj) (by decide) (Nat.le_refl _) (Nat.le_refl _) rfl rfl (Nat.le_of_ble_eq_true rfl) ?_
    exact mw_ireturn dX6_byteAt_33 ⟨_, rfl, nb_byte _⟩ (cP_r hC yG.rf)
theorem k_fault (hC : cC g H sa ma) : mw_Con mm_X6_fault 6 0 0 [.ref 1] H (cP H [] (sp_fault g)) := by
  refine gm_con pl_X6 rfl rfl (Nat.le_of_ble_eq_true rfl) rfl ?_
  have h_this := cC_x hC
  refine mw_aload_n (i := 0) dX6_fault_0 rfl rfl ?_
  refine mw_callV dX6_fault_1 mk_X6_278 h_this rfl (y_fieldsOfTape hC) (by decide) (Nat.le_refl _) (Nat.le_refl _) rfl rfl (Nat.le_of_ble_eq_true rfl) (fun E9 h9 q9 => ?_) (fun v9 h9 q9 => ?_)
  · cases q9.1
  obtain ⟨e9, q1, E, hI⟩ := q9
  cases e9
  have hI0 := hI
  have hC9 := cC_scan hC q1 hI.r
  obtain ⟨-, nx, lm, f1, f2, f3, f4, h_r1, -, -⟩ := hI
  refine mw_callVr dX6_fault_4 mk_X6_244 h_r1 rfl (y_problem hI0) (by decide) (Nat.le_refl _) (Nat.le_refl _) rfl rfl (Nat.le_of_ble_eq_true rfl) ?_
  exact mw_ireturn dX6_fault_7 ⟨_, rfl, rfl⟩ (cP_r hC9 (q1.M.G (by decide)))
theorem k_faultAt (hC : cC g H sa ma) : mw_Con mm_X6_faultAt 6 0 0 [.ref 1] H (cP H [] (sp_faultAt g)) := by
  refine gm_con pl_X6 rfl rfl (Nat.le_of_ble_eq_true rfl) rfl ?_
  have h_this := cC_x hC
  refine mw_aload_n (i := 0) dX6_faultAt_0 rfl rfl ?_
  refine mw_callV dX6_faultAt_1 mk_X6_278 h_this rfl (y_fieldsOfTape hC) (by decide) (Nat.le_refl _) (Nat.le_refl _) rfl rfl (Nat.le_of_ble_eq_true rfl) (fun E9 h9 q9 => ?_) (fun v9 h9 q9 => ?_)
  · cases q9.1
  obtain ⟨e9, q1, E, hI⟩ := q9
  cases e9
  have hI0 := hI
  have hC9 := cC_scan hC q1 hI.r
  obtain ⟨-, nx, lm, f1, f2, f3, f4, h_r1, -, -⟩ := hI
  refine mw_callVr dX6_faultAt_4 mk_X6_282 h_r1 rfl (y_problemAt hI0) (by decide) (Nat.le_refl _) (Nat.le_refl _) rfl rfl (Nat.le_of_ble_eq_true rfl) ?_
  exact mw_ireturn dX6_faultAt_7 ⟨_, rfl, rfl⟩ (cP_r hC9 (q1.M.G (by decide)))
theorem k_has (hC : cC g H sa ma) (m t : Int32) : mw_Con mm_X6_has 7 1 6 [.ref 1, .int m, .int t] H (cP H [eIO, eIA] (sp_has g m t)) := by
  refine gm_con pl_X6 rfl rfl (Nat.le_of_ble_eq_true rfl) rfl ?_
  unfold sp_has
  refine mw_wf (fun hw => ?_)
  have h_this := cC_x hC
  cases hs : sM g m with
  | none =>
    refine mw_aload_n (i := 0) dX6_has_0 rfl rfl ?_
    refine mw_iload_n (i := 1) dX6_has_1 rfl rfl ?_
    refine mw_callV dX6_has_2 mk_X6_119 h_this rfl (y_mA0 hC hs) (by decide) (Nat.le_refl _) (Nat.le_refl _) rfl rfl (Nat.le_of_ble_eq_true rfl) (fun E9 h9 q9 => ?_) (fun v9 h9 q9 => ?_)
    · obtain ⟨e9, rfl⟩ := q9
      cases e9
      exact mw_out rfl (cP_x hC hw yG.rf 0 (by decide) rfl)
    · cases q9.1
  | some q =>
    obtain ⟨m', s, L⟩ := q
    obtain ⟨hm, rfl, hT⟩ := sM_in hs
    dsimp only
    by_cases ht : zTag t = 0
    · rw [if_pos ht]
      refine mw_aload_n (i := 0) dX6_has_0 rfl rfl ?_
      refine mw_iload_n (i := 1) dX6_has_1 rfl rfl ?_
      refine mw_callVr dX6_has_2 mk_X6_119 h_this rfl (y_mA1 hC hs) (by decide) (Nat.le_refl _) (Nat.le_refl _) rfl rfl (Nat.le_of_ble_eq_true rfl) ?_
      refine mw_astore_3 dX6_has_5 (by decide) ?_
      refine mw_iload_n (i := 2) dX6_has_6 rfl rfl ?_
      refine mw_callS dX6_has_7 mk_X6_79 (y_cT0 ht) (by decide) (Nat.le_refl _) (Nat.le_refl _) rfl rfl (Nat.le_of_ble_eq_true rfl) (fun E9 h9 q9 => ?_) (fun v9 h9 q9 => ?_)
      · obtain ⟨e9, rfl⟩ := q9
        cases e9
        exact mw_out rfl (cP_x hC hw yG.rf 1 (by decide) rfl)
      · cases q9.1
    · rw [if_neg ht]
      refine mw_aload_n (i := 0) dX6_has_0 rfl rfl ?_
      refine mw_iload_n (i := 1) dX6_has_1 rfl rfl ?_
      refine mw_callVr dX6_has_2 mk_X6_119 h_this rfl (y_mA1 hC hs) (by decide) (Nat.le_refl _) (Nat.le_refl _) rfl rfl (Nat.le_of_ble_eq_true rfl) ?_
      refine mw_astore_3 dX6_has_5 (by decide) ?_
      refine mw_iload_n (i := 2) dX6_has_6 rfl rfl ?_
      refine mw_callSv dX6_has_7 mk_X6_79 (y_cT1 ht) (by decide) (Nat.le_refl _) (Nat.le_refl _) rfl rfl (Nat.le_of_ble_eq_true rfl) ?_
      refine mw_aload_n (i := 0) dX6_has_10 rfl rfl ?_
      refine mw_aload_n (i := 3) dX6_has_11 rfl rfl ?_
      refine mw_callV dX6_has_12 mk_X6_130 h_this rfl (y_fieldsOf hC hm hT) (by decide) (Nat.le_refl _) (Nat.le_refl _) rfl rfl (Nat.le_of_ble_eq_true rfl) (fun E9 h9 q9 => ?_) (fun v9 h9 q9 => ?_)
      · cases q9.1
      obtain ⟨e9, q1, E, hI⟩ := q9
      cases e9
      have hI0 := hI
      have hC9 := cC_scan hC q1 hI.r
      have hsn := (cC_ok hC hm hT).1
      have h_r2 := (cC_me hC9 hm hT).1
      obtain ⟨-, nx, lm, f1, f2, f3, f4, h_r12, -, -⟩ := hI
      refine mw_aload_n (i := 3) dX6_has_15 rfl rfl ?_
      refine mw_get dX6_has_16 fk_X6_141 h_r2 rfl ?_
      refine mw_iload_n (i := 2) dX6_has_19 rfl rfl ?_
      refine mw_callV dX6_has_20 mk_X6_171 h_r12 rfl (y_flastKnown (cC_K hC9) hsn (cC_sc hC9 hsn) hI0 t) (by decide) (Nat.le_refl _) (Nat.le_refl _) rfl rfl (Nat.le_of_ble_eq_true rfl) (fun E9 h9 q9 => ?_) (fun v9 h9 q9 => ?_)
      · obtain ⟨-, z | ⟨j, -, z⟩⟩ := q9
        · cases z.1
        · cases z.1
      obtain ⟨rfl, z | ⟨j, hj, z⟩⟩ := q9
      · obtain ⟨z1, z2⟩ := z
        cases z1
        rw [z2]
        refine mw_iconst (v := -1) dX6_has_23 (by decide) ?_
        refine mw_icmp_eq (tgt := 31) dX6_has_24 (by decide) (fun _ => ?_) (fun c9 => absurd c9 (by first | decide | (rw [pk_us]; decide)))
        refine mw_iconst (v := 0) dX6_has_31 (by decide) ?_
        exact mw_ireturn dX6_has_32 ⟨_, rfl, rfl⟩ (cP_r hC9 (q1.M.G (by decide)))
      · obtain ⟨z1, z2⟩ := z
        cases z1
        rw [z2]
        have h60 := hI0.1
        refine mw_iconst (v := -1) dX6_has_23 (by decide) ?_
        refine mw_icmp_eq (tgt := 31) dX6_has_24 (by decide) (fun c9 => absurd c9 (fun y => nI_pos (show j < 2 ^ 31 by omega) (by rw [y]; decide))) (fun _ => ?_)
        refine mw_iconst (v := 1) dX6_has_27 (by decide) ?_
        refine mw_goto (tgt := 32) dX6_has_28 (by decide) ?_
        exact mw_ireturn dX6_has_32 ⟨_, rfl, rfl⟩ (cP_r hC9 (q1.M.G (by decide)))
theorem k_get (hC : cC g H sa ma) (m t : Int32) : mw_Con mm_X6_get 7 1 6 [.ref 1, .int m, .int t] H (cP H [eIO, eIA] (sp_get g m t)) := by
  refine gm_con pl_X6 rfl rfl (Nat.le_of_ble_eq_true rfl) rfl ?_
  unfold sp_get
  refine mw_wf (fun hw => ?_)
  have h_this := cC_x hC
  cases hs : sM g m with
  | none =>
    refine mw_aload_n (i := 0) dX6_get_0 rfl rfl ?_
    refine mw_iload_n (i := 1) dX6_get_1 rfl rfl ?_
    refine mw_callV dX6_get_2 mk_X6_119 h_this rfl (y_mA0 hC hs) (by decide) (Nat.le_refl _) (Nat.le_refl _) rfl rfl (Nat.le_of_ble_eq_true rfl) (fun E9 h9 q9 => ?_) (fun v9 h9 q9 => ?_)
    · obtain ⟨e9, rfl⟩ := q9
      cases e9
      exact mw_out rfl (cP_x hC hw yG.rf 0 (by decide) rfl)
    · cases q9.1
  | some q =>
    obtain ⟨m', s, L⟩ := q
    obtain ⟨hm, rfl, hT⟩ := sM_in hs
    have hsn := (cC_ok hC hm hT).1
    have h_r2 := (cC_me hC hm hT).1
    dsimp only
    by_cases hi : zInt (zKind g.2.1 s t) = 0
    · rw [if_pos hi]
      refine mw_aload_n (i := 0) dX6_get_0 rfl rfl ?_
      refine mw_iload_n (i := 1) dX6_get_1 rfl rfl ?_
      refine mw_callVr dX6_get_2 mk_X6_119 h_this rfl (y_mA1 hC hs) (by decide) (Nat.le_refl _) (Nat.le_refl _) rfl rfl (Nat.le_of_ble_eq_true rfl) ?_
      refine mw_astore_3 dX6_get_5 (by decide) ?_
      refine mw_aload_n (i := 3) dX6_get_6 rfl rfl ?_
      refine mw_get dX6_get_7 fk_X6_141 h_r2 rfl ?_
      refine mw_iload_n (i := 2) dX6_get_10 rfl rfl ?_
      refine mw_callS dX6_get_11 mk_X6_145 (y_cI0 (cC_sc hC hsn) hi) (by decide) (Nat.le_refl _) (Nat.le_refl _) rfl rfl (Nat.le_of_ble_eq_true rfl) (fun E9 h9 q9 => ?_) (fun v9 h9 q9 => ?_)
      · obtain ⟨e9, rfl⟩ := q9
        cases e9
        exact mw_out rfl (cP_x hC hw yG.rf 1 (by decide) rfl)
      · cases q9.1
    · rw [if_neg hi]
      obtain ⟨tn, t1, t2, rfl⟩ := zK_tag (t := t) rfl (zInt_ne hi)
      refine mw_aload_n (i := 0) dX6_get_0 rfl rfl ?_
      refine mw_iload_n (i := 1) dX6_get_1 rfl rfl ?_
      refine mw_callVr dX6_get_2 mk_X6_119 h_this rfl (y_mA1 hC hs) (by decide) (Nat.le_refl _) (Nat.le_refl _) rfl rfl (Nat.le_of_ble_eq_true rfl) ?_
      refine mw_astore_3 dX6_get_5 (by decide) ?_
      refine mw_aload_n (i := 3) dX6_get_6 rfl rfl ?_
      refine mw_get dX6_get_7 fk_X6_141 h_r2 rfl ?_
      refine mw_iload_n (i := 2) dX6_get_10 rfl rfl ?_
      refine mw_callSv dX6_get_11 mk_X6_145 (y_cI1 (cC_sc hC hsn) hi) (by decide) (Nat.le_refl _) (Nat.le_refl _) rfl rfl (Nat.le_of_ble_eq_true rfl) ?_
      refine mw_aload_n (i := 0) dX6_get_14 rfl rfl ?_
      refine mw_aload_n (i := 3) dX6_get_15 rfl rfl ?_
      refine mw_callV dX6_get_16 mk_X6_130 h_this rfl (y_fieldsOf hC hm hT) (by decide) (Nat.le_refl _) (Nat.le_refl _) rfl rfl (Nat.le_of_ble_eq_true rfl) (fun E9 h9 q9 => ?_) (fun v9 h9 q9 => ?_)
      · cases q9.1
      obtain ⟨e9, q1, E, hI⟩ := q9
      cases e9
      have hI0 := hI
      have hC9 := cC_scan hC q1 hI.r
      have h_r2 := (cC_me hC9 hm hT).1
      have h_r2_schema := (cC_sc hC9 hsn).1
      obtain ⟨-, nx, lm, f1, f2, f3, f4, h_r16, -, -⟩ := hI
      refine mw_astore_4 dX6_get_19 (by decide) ?_
      refine mw_aload (i := 4) dX6_get_21 rfl ?_
      refine mw_aload_n (i := 3) dX6_get_23 rfl rfl ?_
      refine mw_get dX6_get_24 fk_X6_141 h_r2 rfl ?_
      refine mw_iload_n (i := 2) dX6_get_27 rfl rfl ?_
      refine mw_callV dX6_get_28 mk_X6_171 h_r16 rfl (y_flastKnown (cC_K hC9) hsn (cC_sc hC9 hsn) hI0 (nI tn)) (by decide) (Nat.le_refl _) (Nat.le_refl _) rfl rfl (Nat.le_of_ble_eq_true rfl) (fun E9 h9 q9 => ?_) (fun v9 h9 q9 => ?_)
      · obtain ⟨-, z | ⟨j, -, z⟩⟩ := q9
        · cases z.1
        · cases z.1
      obtain ⟨rfl, z | ⟨j, hj, z⟩⟩ := q9
      · obtain ⟨z1, z2⟩ := z
        cases z1
        rw [z2]
        refine mw_istore_5 dX6_get_31 (by decide) ?_
        refine mw_iload (i := 5) dX6_get_33 rfl ?_
        refine mw_iconst (v := -1) dX6_get_35 (by decide) ?_
        refine mw_icmp_ne (tgt := 50) dX6_get_36 (by decide) (fun c9 => absurd c9 (fun z => z rfl)) (fun _ => ?_)
        refine mw_aload_n (i := 3) dX6_get_39 rfl rfl ?_
        refine mw_get dX6_get_40 fk_X6_141 h_r2 rfl ?_
        refine mw_iload_n (i := 2) dX6_get_43 rfl rfl ?_
        refine mw_callVr dX6_get_44 mk_X6_101 h_r2_schema rfl (y_defaultAt (cC_sc hC9 hsn) t1 t2 (zInt_ne hi)) (by decide) (Nat.le_refl _) (Nat.le_refl _) rfl rfl (Nat.le_of_ble_eq_true rfl) ?_
        refine mw_goto (tgt := 65) dX6_get_47 (by decide) ?_
        refine mw_ireturn dX6_get_65 ⟨_, rfl, rfl⟩ ?_
        have h5 : tix s (nI tn) = 32 * s + tn := by unfold tix; rw [nI_clamp (by omega)]
        show cP H _ (0, g.2.1 3 (tix s (nI tn)), g) _ _
        rw [h5]
        exact cP_r hC9 (q1.M.G (by decide))
      · obtain ⟨z1, z2⟩ := z
        cases z1
        rw [z2]
        have h60 := hI0.1
        refine mw_istore_5 dX6_get_31 (by decide) ?_
        refine mw_iload (i := 5) dX6_get_33 rfl ?_
        refine mw_iconst (v := -1) dX6_get_35 (by decide) ?_
        refine mw_icmp_ne (tgt := 50) dX6_get_36 (by decide) (fun _ => ?_) (fun c9 => absurd c9 (fun y => nI_pos (show j < 2 ^ 31 by omega) (by rw [y]; decide)))
        refine mw_aload_n (i := 3) dX6_get_50 rfl rfl ?_
        refine mw_get dX6_get_51 fk_X6_141 h_r2 rfl ?_
        refine mw_iload_n (i := 2) dX6_get_54 rfl rfl ?_
        refine mw_aload (i := 4) dX6_get_55 rfl ?_
        refine mw_iload (i := 5) dX6_get_57 rfl ?_
        refine mw_callVr dX6_get_59 mk_X6_221 h_r16 rfl (y_numberAt hI0 hj) (by decide) (Nat.le_refl _) (Nat.le_refl _) rfl rfl (Nat.le_of_ble_eq_true rfl) ?_
        refine mw_callVr dX6_get_62 mk_X6_224 h_r2_schema rfl (y_valueOf (cC_sc hC9 hsn) (nI tn) (nI (ga L j).2.2.1)) (by decide) (Nat.le_refl _) (Nat.le_refl _) rfl rfl (Nat.le_of_ble_eq_true rfl) ?_
        exact mw_ireturn dX6_get_65 ⟨_, rfl, rfl⟩ (cP_r hC9 (q1.M.G (by decide)))
theorem k_conflict (hC : cC g H sa ma) (s o : Int32) : mw_Con mm_X6_conflict 7 1 6 [.ref 1, .int s, .int o] H (fun v H' => ∃ a, sp_conflict g s o a ∧ cP H [eIO] a v H') := by
  refine gm_con pl_X6 rfl rfl (Nat.le_of_ble_eq_true rfl) rfl ?_
  unfold sp_conflict
  refine mw_wf (fun hw => ?_)
  have h_this := cC_x hC
  cases hs : sS g s with
  | none =>
    refine mw_aload_n (i := 0) dX6_conflict_0 rfl rfl ?_
    refine mw_get dX6_conflict_1 fk_X6_31 h_this rfl ?_
    refine mw_aload_n (i := 0) dX6_conflict_4 rfl rfl ?_
    refine mw_iload_n (i := 1) dX6_conflict_5 rfl rfl ?_
    refine mw_callV dX6_conflict_6 mk_X6_75 h_this rfl (y_sA0 hC hs) (by decide) (Nat.le_refl _) (Nat.le_refl _) rfl rfl (Nat.le_of_ble_eq_true rfl) (fun E9 h9 q9 => ?_) (fun v9 h9 q9 => ?_)
    · obtain ⟨e9, rfl⟩ := q9
      cases e9
      exact mw_out rfl ⟨_, rfl, cP_x (r := 0) hC hw yG.rf 0 (by decide) rfl⟩
    · cases q9.1
  | some s' =>
    obtain ⟨hs6, rfl⟩ := sS_in (cC_ns hC) hs
    cases ho : sS g o with
    | none =>
      refine mw_aload_n (i := 0) dX6_conflict_0 rfl rfl ?_
      refine mw_get dX6_conflict_1 fk_X6_31 h_this rfl ?_
      refine mw_aload_n (i := 0) dX6_conflict_4 rfl rfl ?_
      refine mw_iload_n (i := 1) dX6_conflict_5 rfl rfl ?_
      refine mw_callVr dX6_conflict_6 mk_X6_75 h_this rfl (y_sA1 hC hs) (by decide) (Nat.le_refl _) (Nat.le_refl _) rfl rfl (Nat.le_of_ble_eq_true rfl) ?_
      refine mw_aload_n (i := 0) dX6_conflict_9 rfl rfl ?_
      refine mw_iload_n (i := 2) dX6_conflict_10 rfl rfl ?_
      refine mw_callV dX6_conflict_11 mk_X6_75 h_this rfl (y_sA0 hC ho) (by decide) (Nat.le_refl _) (Nat.le_refl _) rfl rfl (Nat.le_of_ble_eq_true rfl) (fun E9 h9 q9 => ?_) (fun v9 h9 q9 => ?_)
      · obtain ⟨e9, rfl⟩ := q9
        cases e9
        exact mw_out rfl ⟨_, rfl, cP_x (r := 0) hC hw yG.rf 0 (by decide) rfl⟩
      · cases q9.1
    | some o' =>
      obtain ⟨ho6, rfl⟩ := sS_in (cC_ns hC) ho
      have hP := hC.2.2.2.2.1
      have hP0 := hP
      obtain ⟨n, g1, g2, f, h_this_pairSearch, -⟩ := hP
      refine mw_aload_n (i := 0) dX6_conflict_0 rfl rfl ?_
      refine mw_get dX6_conflict_1 fk_X6_31 h_this rfl ?_
      refine mw_aload_n (i := 0) dX6_conflict_4 rfl rfl ?_
      refine mw_iload_n (i := 1) dX6_conflict_5 rfl rfl ?_
      refine mw_callVr dX6_conflict_6 mk_X6_75 h_this rfl (y_sA1 hC hs) (by decide) (Nat.le_refl _) (Nat.le_refl _) rfl rfl (Nat.le_of_ble_eq_true rfl) ?_
      refine mw_aload_n (i := 0) dX6_conflict_9 rfl rfl ?_
      refine mw_iload_n (i := 2) dX6_conflict_10 rfl rfl ?_
      refine mw_callVr dX6_conflict_11 mk_X6_75 h_this rfl (y_sA1 hC ho) (by decide) (Nat.le_refl _) (Nat.le_refl _) rfl rfl (Nat.le_of_ble_eq_true rfl) ?_
      refine mw_callV dX6_conflict_14 mk_X6_108 h_this_pairSearch rfl (y_leastReason (cC_ns hC) (cC_w hC) hC.2.1.2.2.1 hP0 hs6 ho6 (fun s hs => by have := hC.2.1.2.2.2.1 s hs; omega)) (by decide) (Nat.le_refl _) (Nat.le_refl _) rfl rfl (Nat.le_of_ble_eq_true rfl) (fun E9 h9 q9 => ?_) (fun v9 h9 q9 => ?_)
      · obtain ⟨-, -, r, z, -⟩ := q9
        cases z
      obtain ⟨u1, u2, r, z, u3⟩ := q9
      cases z
      refine mw_ireturn dX6_conflict_17 ⟨_, rfl, rfl⟩ ⟨(0, r, g), ⟨rfl, u3, rfl⟩, cP_r (sa := sa) (ma := ma) ?_ (u1.M.G (by decide))⟩
      exact cC_scr hC u1.M (by decide) (cW_M hC.2.2.2.2 u1.M (Or.inr u2) (Or.inl (by decide)) (Or.inl (by decide)) (Or.inl (by decide)) (Or.inl (by decide)) (Or.inl (by decide)) (Or.inl (by decide)))
theorem lp_un {s src sc ck cy cd cp a ns : Nat} {X : List Nat} {L : List af} {E : Nat → Nat} {pb pa : Int32} {K : Nat → Nat → Int32} {Po : mw_P} (hK : okK K ns) (hs : s < ns) (hS : isS H K sa s sc ck cy cd cp) (hI : isF H 10 src X L E pb pa) (hM : mw_g H a = some (.inr (3, [.ref sc, .ref (a + 1)]))) (x1 : Option Value) (K9 : ∀ x5 : Option Value, mw_W mm_X6_unknowns 7 1 6 49 [some (.ref 1), x1, some (.ref a), some (.ref 10), some (.int (nI (unk K s L))), x5] [] H Po) : ∀ (r n k : Nat), n + r = L.length → k + unk K s (L.drop n) = unk K s L →
    mw_W mm_X6_unknowns 7 1 6 18 [some (.ref 1), x1, some (.ref a), some (.ref 10), some (.int (nI k)), some (.int (nI n))] [] H Po := by
  have hI0 := hI
  obtain ⟨h60, nx, lm, f1, f2, f3, f4, h_r8, -, -⟩ := hI
  have h_r2 := hM
  intro r
  induction r with
  | zero =>
    intro n k hn hk
    have hn : n = L.length := hn
    rw [hn, List.drop_length] at hk
    have hk : k = unk K s L := hk
    rw [hk]
    refine mw_iload (i := 5) dX6_unknowns_18 rfl ?_
    refine mw_aload_n (i := 3) dX6_unknowns_20 rfl rfl ?_
    refine mw_callVr dX6_unknowns_21 mk_X6_134 h_r8 rfl (y_fcount hI0) (by decide) (Nat.le_refl _) (Nat.le_refl _) rfl rfl (Nat.le_of_ble_eq_true rfl) ?_
    refine mw_icmp_ge (tgt := 49) dX6_unknowns_24 (by decide) (fun _ => ?_) (fun c9 => absurd c9 (fun z => z (nI_le (by omega) (by omega))))
    exact K9 _
  | succ r ih =>
    intro n k hn hk
    have hnl : n < L.length := by omega
    have hd : L.drop n = ga L n :: L.drop (n + 1) := by
      rw [List.drop_eq_getElem_cons hnl]
      unfold ga
      rw [List.getD_eq_getElem?_getD, List.getElem?_eq_getElem hnl]
      rfl
    rw [hd] at hk
    unfold unk at hk ih
    rw [List.filter_cons] at hk
    refine mw_iload (i := 5) dX6_unknowns_18 rfl ?_
    refine mw_aload_n (i := 3) dX6_unknowns_20 rfl rfl ?_
    refine mw_callVr dX6_unknowns_21 mk_X6_134 h_r8 rfl (y_fcount hI0) (by decide) (Nat.le_refl _) (Nat.le_refl _) rfl rfl (Nat.le_of_ble_eq_true rfl) ?_
    refine mw_icmp_ge (tgt := 49) dX6_unknowns_24 (by decide) (fun c9 => absurd c9 (nI_ge hnl (by omega))) (fun _ => ?_)
    refine mw_aload_n (i := 3) dX6_unknowns_27 rfl rfl ?_
    refine mw_aload_n (i := 2) dX6_unknowns_28 rfl rfl ?_
    refine mw_get dX6_unknowns_29 fk_X6_141 h_r2 rfl ?_
    refine mw_iload (i := 5) dX6_unknowns_32 rfl ?_
    refine mw_callVr dX6_unknowns_34 mk_X6_253 h_r8 rfl (y_isKnown hK hs hS hI0 hnl) (by decide) (Nat.le_refl _) (Nat.le_refl _) rfl rfl (Nat.le_of_ble_eq_true rfl) ?_
    cases hkn : knb K s (ga L n) with
    | true =>
      rw [hkn] at hk
      refine mw_if_ne (tgt := 43) dX6_unknowns_37 (by decide) (fun _ => ?_) (fun c9 => absurd c9 (by first | decide | (rw [pk_us]; decide)))
      refine mw_iinc_5 dX6_unknowns_43 (by decide) rfl ?_
      refine mw_goto (tgt := 18) dX6_unknowns_46 (by decide) ?_
      rw [show nI n + Int32.ofInt 1 = nI (n + 1) from nI_1 n]
      exact ih (n + 1) k (by omega) hk
    | false =>
      rw [hkn] at hk
      have hk : k + (((L.drop (n + 1)).filter (fun x => !knb K s x)).length + 1) = (L.filter (fun x => !knb K s x)).length := hk
      refine mw_if_ne (tgt := 43) dX6_unknowns_37 (by decide) (fun c9 => absurd c9 (by first | decide | (rw [pk_us]; decide))) (fun _ => ?_)
      refine mw_iinc_4 dX6_unknowns_40 (by decide) rfl ?_
      refine mw_iinc_5 dX6_unknowns_43 (by decide) rfl ?_
      refine mw_goto (tgt := 18) dX6_unknowns_46 (by decide) ?_
      rw [show nI n + Int32.ofInt 1 = nI (n + 1) from nI_1 n, show nI k + Int32.ofInt 1 = nI (k + 1) from nI_1 k]
      exact ih (n + 1) (k + 1) (by omega) (by omega)
theorem k_unknowns (hC : cC g H sa ma) (m : Int32) : mw_Con mm_X6_unknowns 7 1 6 [.ref 1, .int m] H (cP H [eIO] (sp_unknowns g m)) := by
  refine gm_con pl_X6 rfl rfl (Nat.le_of_ble_eq_true rfl) rfl ?_
  unfold sp_unknowns
  refine mw_wf (fun hw => ?_)
  have h_this := cC_x hC
  cases hs : sM g m with
  | none =>
    refine mw_aload_n (i := 0) dX6_unknowns_0 rfl rfl ?_
    refine mw_iload_n (i := 1) dX6_unknowns_1 rfl rfl ?_
    refine mw_callV dX6_unknowns_2 mk_X6_119 h_this rfl (y_mA0 hC hs) (by decide) (Nat.le_refl _) (Nat.le_refl _) rfl rfl (Nat.le_of_ble_eq_true rfl) (fun E9 h9 q9 => ?_) (fun v9 h9 q9 => ?_)
    · obtain ⟨e9, rfl⟩ := q9
      cases e9
      exact mw_out rfl (cP_x hC hw yG.rf 0 (by decide) rfl)
    · cases q9.1
  | some q =>
    obtain ⟨m', s, L⟩ := q
    obtain ⟨hm, rfl, hT⟩ := sM_in hs
    refine mw_aload_n (i := 0) dX6_unknowns_0 rfl rfl ?_
    refine mw_iload_n (i := 1) dX6_unknowns_1 rfl rfl ?_
    refine mw_callVr dX6_unknowns_2 mk_X6_119 h_this rfl (y_mA1 hC hs) (by decide) (Nat.le_refl _) (Nat.le_refl _) rfl rfl (Nat.le_of_ble_eq_true rfl) ?_
    refine mw_astore_2 dX6_unknowns_5 (by decide) ?_
    refine mw_aload_n (i := 0) dX6_unknowns_6 rfl rfl ?_
    refine mw_aload_n (i := 2) dX6_unknowns_7 rfl rfl ?_
    refine mw_callV dX6_unknowns_8 mk_X6_130 h_this rfl (y_fieldsOf hC hm hT) (by decide) (Nat.le_refl _) (Nat.le_refl _) rfl rfl (Nat.le_of_ble_eq_true rfl) (fun E9 h9 q9 => ?_) (fun v9 h9 q9 => ?_)
    · cases q9.1
    obtain ⟨e9, q1, E, hI⟩ := q9
    cases e9
    have hC9 := cC_scan hC q1 hI.r
    have hsn := (cC_ok hC hm hT).1
    refine mw_astore_3 dX6_unknowns_11 (by decide) ?_
    refine mw_iconst (v := 0) dX6_unknowns_12 (by decide) ?_
    refine mw_istore_4 dX6_unknowns_13 (by decide) ?_
    refine mw_iconst (v := 0) dX6_unknowns_15 (by decide) ?_
    refine mw_istore_5 dX6_unknowns_16 (by decide) ?_
    refine lp_un (cC_K hC9) hsn (cC_sc hC9 hsn) hI (cC_me hC9 hm hT).1 _ (fun x5 => ?_) L.length 0 0 (Nat.zero_add _) (Nat.zero_add _)
    refine mw_iload (i := 4) dX6_unknowns_49 rfl ?_
    exact mw_ireturn dX6_unknowns_51 ⟨_, rfl, rfl⟩ (cP_r hC9 (q1.M.G (by decide)))
theorem lp_xut {s src sc ck cy cd cp a ns : Nat} {p : Int32} {X : List Nat} {L : List af} {E : Nat → Nat} {pb pa : Int32} {K : Nat → Nat → Int32} {Po : mw_P} (hK : okK K ns) (hs : s < ns) (hS : isS H K sa s sc ck cy cd cp) (hI : isF H 10 src X L E pb pa) (hM : mw_g H a = some (.inr (3, [.ref sc, .ref (a + 1)]))) (x1 : Option Value) (K9 : ∀ x5 x6 : Option Value, (∀ k : Nat, k < unk K s L → p ≠ nI k) → mw_W mm_X6_unknownTag 7 1 6 66 [some (.ref 1), x1, some (.int p), some (.ref a), some (.ref 10), x5, x6] [] H Po) (K8 : ∀ k : Nat, k < unk K s L → p = nI k → Po (.inl (some (.int (nI ((L.filter (fun x => !knb K s x)).getD k (0, 0, 0, [])).1)))) H) : ∀ (r n k : Nat), n + r = L.length → L.filter (fun x => !knb K s x) = (L.filter (fun x => !knb K s x)).take k ++ (L.drop n).filter (fun x => !knb K s x) → k ≤ unk K s L → (∀ i : Nat, i < k → p ≠ nI i) →
    mw_W mm_X6_unknownTag 7 1 6 19 [some (.ref 1), x1, some (.int p), some (.ref a), some (.ref 10), some (.int (nI k)), some (.int (nI n))] [] H Po := by
  have hI0 := hI
  obtain ⟨h60, nx, lm, f1, f2, f3, f4, h_r8, -, -⟩ := hI
  have h_r2 := hM
  unfold unk at K9 K8 ⊢
  generalize hU : L.filter (fun x => !knb K s x) = U at *
  intro r
  induction r with
  | zero =>
    intro n k hn hk hkU hp
    have hn : n = L.length := hn
    rw [hn, List.drop_length] at hk
    have hk : U = U.take k ++ [] := hk
    rw [List.append_nil] at hk
    have hkl : k = U.length := by
      have := congrArg List.length hk
      rw [List.length_take] at this
      omega
    refine mw_iload (i := 6) dX6_unknownTag_19 rfl ?_
    refine mw_aload (i := 4) dX6_unknownTag_21 rfl ?_
    refine mw_callVr dX6_unknownTag_23 mk_X6_134 h_r8 rfl (y_fcount hI0) (by decide) (Nat.le_refl _) (Nat.le_refl _) rfl rfl (Nat.le_of_ble_eq_true rfl) ?_
    refine mw_icmp_ge (tgt := 66) dX6_unknownTag_26 (by decide) (fun _ => ?_) (fun c9 => absurd c9 (fun z => z (nI_le (by omega) (by omega))))
    exact K9 _ _ (fun i hi => hp i (by omega))
  | succ r ih =>
    intro n k hn hk hkU hp
    have hnl : n < L.length := by omega
    have hd : L.drop n = ga L n :: L.drop (n + 1) := by
      rw [List.drop_eq_getElem_cons hnl]
      unfold ga
      rw [List.getD_eq_getElem?_getD, List.getElem?_eq_getElem hnl]
      rfl
    rw [hd, List.filter_cons] at hk
    refine mw_iload (i := 6) dX6_unknownTag_19 rfl ?_
    refine mw_aload (i := 4) dX6_unknownTag_21 rfl ?_
    refine mw_callVr dX6_unknownTag_23 mk_X6_134 h_r8 rfl (y_fcount hI0) (by decide) (Nat.le_refl _) (Nat.le_refl _) rfl rfl (Nat.le_of_ble_eq_true rfl) ?_
    refine mw_icmp_ge (tgt := 66) dX6_unknownTag_26 (by decide) (fun c9 => absurd c9 (nI_ge hnl (by omega))) (fun _ => ?_)
    refine mw_aload (i := 4) dX6_unknownTag_29 rfl ?_
    refine mw_aload_n (i := 3) dX6_unknownTag_31 rfl rfl ?_
    refine mw_get dX6_unknownTag_32 fk_X6_141 h_r2 rfl ?_
    refine mw_iload (i := 6) dX6_unknownTag_35 rfl ?_
    refine mw_callVr dX6_unknownTag_37 mk_X6_253 h_r8 rfl (y_isKnown hK hs hS hI0 hnl) (by decide) (Nat.le_refl _) (Nat.le_refl _) rfl rfl (Nat.le_of_ble_eq_true rfl) ?_
    cases hkn : knb K s (ga L n) with
    | true =>
      rw [hkn] at hk
      refine mw_if_ne (tgt := 60) dX6_unknownTag_40 (by decide) (fun _ => ?_) (fun c9 => absurd c9 (by first | decide | (rw [pk_us]; decide)))
      refine mw_iinc_6 dX6_unknownTag_60 (by decide) rfl ?_
      refine mw_goto (tgt := 19) dX6_unknownTag_63 (by decide) ?_
      rw [show nI n + Int32.ofInt 1 = nI (n + 1) from nI_1 n]
      exact ih (n + 1) k (by omega) hk hkU hp
    | false =>
      rw [hkn] at hk
      have hk : U = U.take k ++ ga L n :: (L.drop (n + 1)).filter (fun x => !knb K s x) := hk
      have hkU2 : k < U.length := by
        have := congrArg List.length hk
        rw [List.length_append, List.length_take, List.length_cons] at this
        omega
      have hUk : U.getD k (0, 0, 0, []) = ga L n := by
        have h9 : U[k]? = (U.take k ++ ga L n :: (L.drop (n + 1)).filter (fun x => !knb K s x))[k]? := congrArg (fun z => z[k]?) hk
        rw [List.getElem?_append_right (by rw [List.length_take]; omega), List.length_take, Nat.min_eq_left (by omega), Nat.sub_self] at h9
        rw [List.getD_eq_getElem?_getD, h9]
        rfl
      have hUl : U.length ≤ 60 := by
        have := List.length_filter_le (fun x => !knb K s x) L
        rw [hU] at this
        omega
      refine mw_if_ne (tgt := 60) dX6_unknownTag_40 (by decide) (fun c9 => absurd c9 (by first | decide | (rw [pk_us]; decide))) (fun _ => ?_)
      refine mw_iload (i := 5) dX6_unknownTag_43 rfl ?_
      refine mw_iload_n (i := 2) dX6_unknownTag_45 rfl rfl ?_
      by_cases e : p = nI k
      · refine mw_icmp_ne (tgt := 57) dX6_unknownTag_46 (by decide) (fun c9 => absurd c9 (fun z => z e.symm)) (fun _ => ?_)
        refine mw_aload (i := 4) dX6_unknownTag_49 rfl ?_
        refine mw_iload (i := 6) dX6_unknownTag_51 rfl ?_
        refine mw_callVr dX6_unknownTag_53 mk_X6_212 h_r8 rfl (y_tagAt hI0 hnl) (by decide) (Nat.le_refl _) (Nat.le_refl _) rfl rfl (Nat.le_of_ble_eq_true rfl) ?_
        refine mw_ireturn dX6_unknownTag_56 ⟨_, rfl, rfl⟩ ?_
        have h7 := K8 k hkU2 e
        rw [hUk] at h7
        exact h7
      · refine mw_icmp_ne (tgt := 57) dX6_unknownTag_46 (by decide) (fun _ => ?_) (fun c9 => absurd c9 (fun z => e z.symm))
        refine mw_iinc_5 dX6_unknownTag_57 (by decide) rfl ?_
        refine mw_iinc_6 dX6_unknownTag_60 (by decide) rfl ?_
        refine mw_goto (tgt := 19) dX6_unknownTag_63 (by decide) ?_
        rw [show nI n + Int32.ofInt 1 = nI (n + 1) from nI_1 n, show nI k + Int32.ofInt 1 = nI (k + 1) from nI_1 k]
        refine ih (n + 1) (k + 1) (by omega) ?_ (by omega) (fun i hi => ?_)
        · have h8 : U.take (k + 1) = U.take k ++ [ga L n] := by
            rw [List.take_succ, ← hUk, List.getD_eq_getElem?_getD, List.getElem?_eq_getElem hkU2]
            rfl
          rw [h8, List.append_assoc]
          exact hk
        · by_cases ei : i = k
          · rw [ei]; exact e
          · exact hp i (by omega)
theorem k_unknownTag (hC : cC g H sa ma) (m p : Int32) : mw_Con mm_X6_unknownTag 7 1 6 [.ref 1, .int m, .int p] H (cP H [eIO] (sp_unknownTag g m p)) := by
  refine gm_con pl_X6 rfl rfl (Nat.le_of_ble_eq_true rfl) rfl ?_
  unfold sp_unknownTag
  refine mw_wf (fun hw => ?_)
  have h_this := cC_x hC
  cases hs : sM g m with
  | none =>
    refine mw_aload_n (i := 0) dX6_unknownTag_0 rfl rfl ?_
    refine mw_iload_n (i := 1) dX6_unknownTag_1 rfl rfl ?_
    refine mw_callV dX6_unknownTag_2 mk_X6_119 h_this rfl (y_mA0 hC hs) (by decide) (Nat.le_refl _) (Nat.le_refl _) rfl rfl (Nat.le_of_ble_eq_true rfl) (fun E9 h9 q9 => ?_) (fun v9 h9 q9 => ?_)
    · obtain ⟨e9, rfl⟩ := q9
      cases e9
      exact mw_out rfl (cP_x hC hw yG.rf 0 (by decide) rfl)
    · cases q9.1
  | some q =>
    obtain ⟨m', s, L⟩ := q
    obtain ⟨hm, rfl, hT⟩ := sM_in hs
    dsimp only
    refine mw_aload_n (i := 0) dX6_unknownTag_0 rfl rfl ?_
    refine mw_iload_n (i := 1) dX6_unknownTag_1 rfl rfl ?_
    refine mw_callVr dX6_unknownTag_2 mk_X6_119 h_this rfl (y_mA1 hC hs) (by decide) (Nat.le_refl _) (Nat.le_refl _) rfl rfl (Nat.le_of_ble_eq_true rfl) ?_
    refine mw_astore_3 dX6_unknownTag_5 (by decide) ?_
    refine mw_aload_n (i := 0) dX6_unknownTag_6 rfl rfl ?_
    refine mw_aload_n (i := 3) dX6_unknownTag_7 rfl rfl ?_
    refine mw_callV dX6_unknownTag_8 mk_X6_130 h_this rfl (y_fieldsOf hC hm hT) (by decide) (Nat.le_refl _) (Nat.le_refl _) rfl rfl (Nat.le_of_ble_eq_true rfl) (fun E9 h9 q9 => ?_) (fun v9 h9 q9 => ?_)
    · cases q9.1
    obtain ⟨e9, q1, E, hI⟩ := q9
    cases e9
    have hC9 := cC_scan hC q1 hI.r
    have hsn := (cC_ok hC hm hT).1
    have h60 := hI.1
    have hul : unk g.2.1 s L ≤ 60 := Nat.le_trans (List.length_filter_le _ L) h60
    refine mw_wf (fun hw9 => ?_)
    refine mw_astore_4 dX6_unknownTag_11 (by decide) ?_
    refine mw_iconst (v := 0) dX6_unknownTag_13 (by decide) ?_
    refine mw_istore_5 dX6_unknownTag_14 (by decide) ?_
    refine mw_iconst (v := 0) dX6_unknownTag_16 (by decide) ?_
    refine mw_istore_6 dX6_unknownTag_17 (by decide) ?_
    refine lp_xut (p := p) (cC_K hC9) hsn (cC_sc hC9 hsn) hI (cC_me hC9 hm hT).1 _ (fun x5 x6 hno => ?_) (fun k hk hp => ?_) L.length 0 0 (Nat.zero_add _) rfl (Nat.zero_le _) (fun i hi => absurd hi (Nat.not_lt_zero _))
    · have hz : zIn p 0 (nI (unk g.2.1 s L) - 1) = 0 := by
        rcases pk_ix p (n := unk g.2.1 s L) (by omega) with z | z | ⟨j, hj, z⟩
        · unfold zIn; rw [if_pos z]
        · unfold zIn
          rw [if_neg (ge_nneg (by omega) z)]
          refine if_pos ?_
          rcases Nat.eq_zero_or_pos (unk g.2.1 s L) with e | e
          · rw [e] at z ⊢
            exact Int32.lt_of_lt_of_le (by decide) z
          · rw [show nI (unk g.2.1 s L) - 1 = nI (unk g.2.1 s L - 1) from pk_sub e]
            exact Int32.lt_of_lt_of_le (nI_lt (by omega) (by omega)) z
        · exact absurd z (hno j hj)
      rw [if_pos hz]
      refine mw_throwW th_X6_257_259_261 dX6_unknownTag_66 dX6_unknownTag_69 dX6_unknownTag_70 dX6_unknownTag_73 dX6_unknownTag_76 rfl (by decide) (by decide) (by decide) (Nat.le_of_ble_eq_true rfl) (cP_x hC9 hw9 (q1.M.G (by decide)) 0 (by decide) rfl)
    · have hz : ¬ zIn p 0 (nI (unk g.2.1 s L) - 1) = 0 := by
        rw [hp]
        unfold zIn
        rw [show nI (unk g.2.1 s L) - 1 = nI (unk g.2.1 s L - 1) from pk_sub (show 1 ≤ unk g.2.1 s L by omega), if_neg (nI_pos (by omega)), if_neg (nI_nlt (by omega) (by omega))]
        decide
      rw [if_neg hz, hp, nI_clamp (by omega)]
      exact cP_r hC9 (q1.M.G (by decide))
end CA
