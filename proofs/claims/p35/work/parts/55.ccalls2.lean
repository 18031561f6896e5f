/-! the class's calls: canonical fields and the tape (class side) -/
section CB
variable {g : mS} {H : mw_H} {sa ma : Nat → Nat}
theorem can_le (K : Nat → Nat → Int32) (s : Nat) (L : List af) : (eL (can K s L)).length ≤ (eL L).length := canU_le K s L 31
theorem y_ch {q m s : Nat} {L : List af} (hq : q = 17 ∨ q = 27) (hC : cC g H sa ma) (hm : m < 12) (hT : g.2.2.1 m = some (s, L)) : mw_Con mm_X1_choose 5 0 0 [.ref q, .ref (ma m + 1), .ref (sa s)] H (fun v H' => v = .inl none ∧ yF (SK q) H H' ∧ isK H' q (ma m + 1) (eL L) L (cnR g.2.1 s L L.length) ∧ cC g H' sa ma) := by
  obtain ⟨o1, o2, o3⟩ := cC_ok hC hm hT
  have h56 := hC.2.1.2.2.2.1 s o1
  have m56 := hC.2.2.1.2.2.1 m hm (by rw [hT]; exact fun z => by cases z)
  have hK0 : isK0 H q := by
    rcases hq with rfl | rfl
    · exact hC.2.2.2.2.2.2.1
    · exact hC.2.2.2.2.2.2.2.1
  have h1 := y_choose (q := q) (cC_K hC) o1 (cC_sc hC o1) hK0 (cC_me hC hm hT).2 (by omega) (by omega)
  have h5 : prsL (eL L) = (L, 0, 0) := prsL_eL o2 o3
  rw [h5] at h1
  refine mw_con_post (fun v h' z => ?_) h1
  obtain ⟨z1, z2, z3⟩ := z
  refine ⟨z1, z2, z3, ?_⟩
  rcases hq with rfl | rfl
  · exact cC_scr hC z2.M (by decide) (cW_M hC.2.2.2.2 z2.M (Or.inl (by decide)) (Or.inl (by decide)) (Or.inr z3.r) (Or.inl (by decide)) (Or.inl (by decide)) (Or.inl (by decide)) (Or.inl (by decide)))
  · exact cC_scr hC z2.M (by decide) (cW_M hC.2.2.2.2 z2.M (Or.inl (by decide)) (Or.inl (by decide)) (Or.inl (by decide)) (Or.inr z3.r) (Or.inl (by decide)) (Or.inl (by decide)) (Or.inl (by decide)))
theorem y_chooseBoth {m s m2 s2 : Nat} {L L2 : List af} (hC : cC g H sa ma) (hm : m < 12) (hT : g.2.2.1 m = some (s, L)) (hm2 : m2 < 12) (hT2 : g.2.2.1 m2 = some (s2, L2)) : mw_Con mm_X6_chooseBoth 6 0 0 [.ref 1, .ref (ma m), .ref (ma m2)] H (fun v H' => v = .inl none ∧ yM (SK 17 ++ SK 27) H H' ∧ isK H' 17 (ma m + 1) (eL L) L (cnR g.2.1 s L L.length) ∧ isK H' 27 (ma m2 + 1) (eL L2) L2 (cnR g.2.1 s2 L2 L2.length) ∧ cC g H' sa ma) := by
  refine gm_con pl_X6 rfl rfl (Nat.le_of_ble_eq_true rfl) rfl ?_
  have h_this := cC_x hC
  have h_p1 := (cC_me hC hm hT).1
  obtain ⟨⟨n0, h_this_canon⟩, -⟩ := hC.2.2.2.2.2.2.1
  refine mw_aload_n (i := 0) dX6_chooseBoth_0 rfl rfl ?_
  refine mw_get dX6_chooseBoth_1 fk_X6_45 h_this rfl ?_
  refine mw_aload_n (i := 1) dX6_chooseBoth_4 rfl rfl ?_
  refine mw_get dX6_chooseBoth_5 fk_X6_123 h_p1 rfl ?_
  refine mw_aload_n (i := 1) dX6_chooseBoth_8 rfl rfl ?_
  refine mw_get dX6_chooseBoth_9 fk_X6_141 h_p1 rfl ?_
  refine mw_callV dX6_chooseBoth_12 mk_X6_201 h_this_canon rfl (y_ch (Or.inl rfl) hC hm hT) (by decide) (Nat.le_refl _) (Nat.le_refl _) rfl rfl (Nat.le_of_ble_eq_true rfl) (fun E9 h9 q9 => ?_) (fun v9 h9 q9 => ?_)
  · cases q9.1
  obtain ⟨e9, q1, q2, hC9⟩ := q9
  cases e9
  have h_this := cC_x hC9
  have h_p2 := (cC_me hC9 hm2 hT2).1
  obtain ⟨⟨n1, h_this_otherCanon⟩, -⟩ := hC9.2.2.2.2.2.2.2.1
  refine mw_aload_n (i := 0) dX6_chooseBoth_15 rfl rfl ?_
  refine mw_get dX6_chooseBoth_16 fk_X6_49 h_this rfl ?_
  refine mw_aload_n (i := 2) dX6_chooseBoth_19 rfl rfl ?_
  refine mw_get dX6_chooseBoth_20 fk_X6_123 h_p2 rfl ?_
  refine mw_aload_n (i := 2) dX6_chooseBoth_23 rfl rfl ?_
  refine mw_get dX6_chooseBoth_24 fk_X6_141 h_p2 rfl ?_
  refine mw_callV dX6_chooseBoth_27 mk_X6_201 h_this_otherCanon rfl (y_ch (Or.inr rfl) hC9 hm2 hT2) (by decide) (Nat.le_refl _) (Nat.le_refl _) rfl rfl (Nat.le_of_ble_eq_true rfl) (fun E9 h9 q9 => ?_) (fun v9 h9 q9 => ?_)
  · cases q9.1
  obtain ⟨e9, q3, q4, hC8⟩ := q9
  cases e9
  exact mw_return dX6_chooseBoth_30 rfl ⟨rfl, (q1.M.mo (fun b hb => List.mem_append_left _ hb)).tr (q3.M.mo (fun b hb => List.mem_append_right _ hb)), isK_F q2 q3 (by decide), q4, hC8⟩
theorem k_areSame (hC : cC g H sa ma) (m o : Int32) : mw_Con mm_X6_areSame 7 1 6 [.ref 1, .int m, .int o] H (cP H [eIO] (sp_areSame g m o)) := by
  refine gm_con pl_X6 rfl rfl (Nat.le_of_ble_eq_true rfl) rfl ?_
  unfold sp_areSame
  refine mw_wf (fun hw => ?_)
  have h_this := cC_x hC
  cases hs : sM g m with
  | none =>
    refine mw_aload_n (i := 0) dX6_areSame_0 rfl rfl ?_
    refine mw_aload_n (i := 0) dX6_areSame_1 rfl rfl ?_
    refine mw_iload_n (i := 1) dX6_areSame_2 rfl rfl ?_
    refine mw_callV dX6_areSame_3 mk_X6_119 h_this rfl (y_mA0 hC hs) (by decide) (Nat.le_refl _) (Nat.le_refl _) rfl rfl (Nat.le_of_ble_eq_true rfl) (fun E9 h9 q9 => ?_) (fun v9 h9 q9 => ?_)
    · obtain ⟨e9, rfl⟩ := q9
      cases e9
      exact mw_out rfl (cP_x hC hw yG.rf 0 (by decide) rfl)
    · cases q9.1
  | some q =>
    obtain ⟨m', s, L⟩ := q
    obtain ⟨hm, rfl, hT⟩ := sM_in hs
    cases ho : sM g o with
    | none =>
      refine mw_aload_n (i := 0) dX6_areSame_0 rfl rfl ?_
      refine mw_aload_n (i := 0) dX6_areSame_1 rfl rfl ?_
      refine mw_iload_n (i := 1) dX6_areSame_2 rfl rfl ?_
      refine mw_callVr dX6_areSame_3 mk_X6_119 h_this rfl (y_mA1 hC hs) (by decide) (Nat.le_refl _) (Nat.le_refl _) rfl rfl (Nat.le_of_ble_eq_true rfl) ?_
      refine mw_aload_n (i := 0) dX6_areSame_6 rfl rfl ?_
      refine mw_iload_n (i := 2) dX6_areSame_7 rfl rfl ?_
      refine mw_callV dX6_areSame_8 mk_X6_119 h_this rfl (y_mA0 hC ho) (by decide) (Nat.le_refl _) (Nat.le_refl _) rfl rfl (Nat.le_of_ble_eq_true rfl) (fun E9 h9 q9 => ?_) (fun v9 h9 q9 => ?_)
      · obtain ⟨e9, rfl⟩ := q9
        cases e9
        exact mw_out rfl (cP_x hC hw yG.rf 0 (by decide) rfl)
      · cases q9.1
    | some q2 =>
      obtain ⟨o', s2, L2⟩ := q2
      obtain ⟨hm2, rfl, hT2⟩ := sM_in ho
      refine mw_aload_n (i := 0) dX6_areSame_0 rfl rfl ?_
      refine mw_aload_n (i := 0) dX6_areSame_1 rfl rfl ?_
      refine mw_iload_n (i := 1) dX6_areSame_2 rfl rfl ?_
      refine mw_callVr dX6_areSame_3 mk_X6_119 h_this rfl (y_mA1 hC hs) (by decide) (Nat.le_refl _) (Nat.le_refl _) rfl rfl (Nat.le_of_ble_eq_true rfl) ?_
      refine mw_aload_n (i := 0) dX6_areSame_6 rfl rfl ?_
      refine mw_iload_n (i := 2) dX6_areSame_7 rfl rfl ?_
      refine mw_callVr dX6_areSame_8 mk_X6_119 h_this rfl (y_mA1 hC ho) (by decide) (Nat.le_refl _) (Nat.le_refl _) rfl rfl (Nat.le_of_ble_eq_true rfl) ?_
      refine mw_callV dX6_areSame_11 mk_X6_262 h_this rfl (y_chooseBoth hC hm hT hm2 hT2) (by decide) (Nat.le_refl _) (Nat.le_refl _) rfl rfl (Nat.le_of_ble_eq_true rfl) (fun E9 h9 q9 => ?_) (fun v9 h9 q9 => ?_)
      · cases q9.1
      obtain ⟨e9, q1, q2, q3, hC9⟩ := q9
      cases e9
      have h_this := cC_x hC9
      obtain ⟨⟨n0, h_this_canon⟩, -⟩ := hC9.2.2.2.2.2.2.1
      refine mw_aload_n (i := 0) dX6_areSame_14 rfl rfl ?_
      refine mw_get dX6_areSame_15 fk_X6_45 h_this rfl ?_
      refine mw_aload_n (i := 0) dX6_areSame_18 rfl rfl ?_
      refine mw_get dX6_areSame_19 fk_X6_49 h_this rfl ?_
      refine mw_callV dX6_areSame_22 mk_X6_266 h_this_canon rfl (y_hasSameFields q2 (cC_me hC9 hm hT).2 q3 (cC_me hC9 hm2 hT2).2) (by decide) (Nat.le_refl _) (Nat.le_refl _) rfl rfl (Nat.le_of_ble_eq_true rfl) (fun E9 h9 q9 => ?_) (fun v9 h9 q9 => ?_)
      · obtain ⟨-, r, z, -⟩ := q9
        cases z
      obtain ⟨rfl, r, z, z1, z2⟩ := q9
      cases z
      rw [cnR_can, cnR_can] at z1 z2
      obtain ⟨-, o2, o3⟩ := cC_ok hC hm hT
      obtain ⟨-, p2, p3⟩ := cC_ok hC hm2 hT2
      by_cases e : eL (can g.2.1 s L) = eL (can g.2.1 s2 L2)
      · have e2 : can g.2.1 s L = can g.2.1 s2 L2 := eL_inj (can_ok o2) (can_ok p2) (Nat.le_trans (can_le _ _ _) o3) e
        show mw_W _ _ _ _ _ _ _ _ (cP H [eIO] (0, if _ then 1 else 0, g))
        rw [if_pos e, z1 e2]
        exact mw_ireturn dX6_areSame_25 ⟨_, rfl, rfl⟩ (cP_r hC9 (q1.G (by decide)))
      · show mw_W _ _ _ _ _ _ _ _ (cP H [eIO] (0, if _ then 1 else 0, g))
        rw [if_neg e, z2 (fun y => e (by rw [y]))]
        exact mw_ireturn dX6_areSame_25 ⟨_, rfl, rfl⟩ (cP_r hC9 (q1.G (by decide)))
theorem k_areSameByBytes (hC : cC g H sa ma) (m o : Int32) : mw_Con mm_X6_areSameByBytes 7 1 6 [.ref 1, .int m, .int o] H (cP H [eIO] (sp_areSame g m o)) := by
  refine gm_con pl_X6 rfl rfl (Nat.le_of_ble_eq_true rfl) rfl ?_
  unfold sp_areSame
  refine mw_wf (fun hw => ?_)
  have h_this := cC_x hC
  cases hs : sM g m with
  | none =>
    refine mw_aload_n (i := 0) dX6_areSameByBytes_0 rfl rfl ?_
    refine mw_aload_n (i := 0) dX6_areSameByBytes_1 rfl rfl ?_
    refine mw_iload_n (i := 1) dX6_areSameByBytes_2 rfl rfl ?_
    refine mw_callV dX6_areSameByBytes_3 mk_X6_119 h_this rfl (y_mA0 hC hs) (by decide) (Nat.le_refl _) (Nat.le_refl _) rfl rfl (Nat.le_of_ble_eq_true rfl) (fun E9 h9 q9 => ?_) (fun v9 h9 q9 => ?_)
    · obtain ⟨e9, rfl⟩ := q9
      cases e9
      exact mw_out rfl (cP_x hC hw yG.rf 0 (by decide) rfl)
    · cases q9.1
  | some q =>
    obtain ⟨m', s, L⟩ := q
    obtain ⟨hm, rfl, hT⟩ := sM_in hs
    cases ho : sM g o with
    | none =>
      refine mw_aload_n (i := 0) dX6_areSameByBytes_0 rfl rfl ?_
      refine mw_aload_n (i := 0) dX6_areSameByBytes_1 rfl rfl ?_
      refine mw_iload_n (i := 1) dX6_areSameByBytes_2 rfl rfl ?_
      refine mw_callVr dX6_areSameByBytes_3 mk_X6_119 h_this rfl (y_mA1 hC hs) (by decide) (Nat.le_refl _) (Nat.le_refl _) rfl rfl (Nat.le_of_ble_eq_true rfl) ?_
      refine mw_aload_n (i := 0) dX6_areSameByBytes_6 rfl rfl ?_
      refine mw_iload_n (i := 2) dX6_areSameByBytes_7 rfl rfl ?_
      refine mw_callV dX6_areSameByBytes_8 mk_X6_119 h_this rfl (y_mA0 hC ho) (by decide) (Nat.le_refl _) (Nat.le_refl _) rfl rfl (Nat.le_of_ble_eq_true rfl) (fun E9 h9 q9 => ?_) (fun v9 h9 q9 => ?_)
      · obtain ⟨e9, rfl⟩ := q9
        cases e9
        exact mw_out rfl (cP_x hC hw yG.rf 0 (by decide) rfl)
      · cases q9.1
    | some q2 =>
      obtain ⟨o', s2, L2⟩ := q2
      obtain ⟨hm2, rfl, hT2⟩ := sM_in ho
      obtain ⟨-, o2, o3⟩ := cC_ok hC hm hT
      obtain ⟨-, p2, p3⟩ := cC_ok hC hm2 hT2
      have m56 := hC.2.2.1.2.2.1 _ hm (by rw [hT]; exact fun z => by cases z)
      have m562 := hC.2.2.1.2.2.1 _ hm2 (by rw [hT2]; exact fun z => by cases z)
      have hc1 := can_le g.2.1 s L
      have hc2 := can_le g.2.1 s2 L2
      refine mw_aload_n (i := 0) dX6_areSameByBytes_0 rfl rfl ?_
      refine mw_aload_n (i := 0) dX6_areSameByBytes_1 rfl rfl ?_
      refine mw_iload_n (i := 1) dX6_areSameByBytes_2 rfl rfl ?_
      refine mw_callVr dX6_areSameByBytes_3 mk_X6_119 h_this rfl (y_mA1 hC hs) (by decide) (Nat.le_refl _) (Nat.le_refl _) rfl rfl (Nat.le_of_ble_eq_true rfl) ?_
      refine mw_aload_n (i := 0) dX6_areSameByBytes_6 rfl rfl ?_
      refine mw_iload_n (i := 2) dX6_areSameByBytes_7 rfl rfl ?_
      refine mw_callVr dX6_areSameByBytes_8 mk_X6_119 h_this rfl (y_mA1 hC ho) (by decide) (Nat.le_refl _) (Nat.le_refl _) rfl rfl (Nat.le_of_ble_eq_true rfl) ?_
      refine mw_callV dX6_areSameByBytes_11 mk_X6_262 h_this rfl (y_chooseBoth hC hm hT hm2 hT2) (by decide) (Nat.le_refl _) (Nat.le_refl _) rfl rfl (Nat.le_of_ble_eq_true rfl) (fun E9 h9 q9 => ?_) (fun v9 h9 q9 => ?_)
      · cases q9.1
      obtain ⟨e9, q1, q2, q3, hC9⟩ := q9
      cases e9
      have h_this := cC_x hC9
      obtain ⟨⟨n0, h_this_canon⟩, -⟩ := hC9.2.2.2.2.2.2.1
      obtain ⟨X7, hB7⟩ := hC9.2.2.2.2.2.2.2.2.1
      have hb1 := (cC_me hC9 hm hT).2
      have hb2 := (cC_me hC9 hm2 hT2).2
      refine mw_aload_n (i := 0) dX6_areSameByBytes_14 rfl rfl ?_
      refine mw_get dX6_areSameByBytes_15 fk_X6_45 h_this rfl ?_
      refine mw_aload_n (i := 0) dX6_areSameByBytes_18 rfl rfl ?_
      refine mw_get dX6_areSameByBytes_19 fk_X6_52 h_this rfl ?_
      refine mw_callV dX6_areSameByBytes_22 mk_X6_205 h_this_canon rfl (y_kwriteTo q2 hb1 hB7 (by omega) (by omega) (by omega) (by rw [cnR_can]; omega)) (by decide) (Nat.le_refl _) (Nat.le_refl _) rfl rfl (Nat.le_of_ble_eq_true rfl) (fun E9 h9 q9 => ?_) (fun v9 h9 q9 => ?_)
      · cases q9.1
      obtain ⟨e9, u1, u2⟩ := q9
      cases e9
      rw [cnR_can] at u2
      have hC8 := cC_scr hC9 u1.M (by decide) (cW_M hC9.2.2.2.2 u1.M (Or.inl (by decide)) (Or.inl (by decide)) (Or.inl (by decide)) (Or.inl (by decide)) (Or.inr ⟨_, u2⟩) (Or.inl (by decide)) (Or.inl (by decide)))
      have h_this := cC_x hC8
      obtain ⟨⟨n1, h_this_otherCanon⟩, -⟩ := hC8.2.2.2.2.2.2.2.1
      obtain ⟨X8, hB8⟩ := hC8.2.2.2.2.2.2.2.2.2.1
      refine mw_aload_n (i := 0) dX6_areSameByBytes_25 rfl rfl ?_
      refine mw_get dX6_areSameByBytes_26 fk_X6_49 h_this rfl ?_
      refine mw_aload_n (i := 0) dX6_areSameByBytes_29 rfl rfl ?_
      refine mw_get dX6_areSameByBytes_30 fk_X6_55 h_this rfl ?_
      refine mw_callV dX6_areSameByBytes_33 mk_X6_205 h_this_otherCanon rfl (y_kwriteTo (isK_F q3 u1 (by decide)) (cC_me hC8 hm2 hT2).2 hB8 (by omega) (by omega) (by omega) (by rw [cnR_can]; omega)) (by decide) (Nat.le_refl _) (Nat.le_refl _) rfl rfl (Nat.le_of_ble_eq_true rfl) (fun E9 h9 q9 => ?_) (fun v9 h9 q9 => ?_)
      · cases q9.1
      obtain ⟨e9, v1, v2⟩ := q9
      cases e9
      rw [cnR_can] at v2
      have hC7 := cC_scr hC8 v1.M (by decide) (cW_M hC8.2.2.2.2 v1.M (Or.inl (by decide)) (Or.inl (by decide)) (Or.inl (by decide)) (Or.inl (by decide)) (Or.inl (by decide)) (Or.inr ⟨_, v2⟩) (Or.inl (by decide)))
      have u3 := isB_F u2 v1 (by decide) (by decide)
      have h_this := cC_x hC7
      have h_this_canonical := u3.1
      have hG : yG H h9 := (((q1.mo (S' := SK 17 ++ SK 27 ++ [37, 38, 39, 40]) (fun b hb => List.mem_append_left _ hb)).tr (u1.M.mo (fun b hb => by simp at hb; simp; omega))).tr (v1.M.mo (fun b hb => by simp at hb; simp; omega))).G (by decide)
      refine mw_aload_n (i := 0) dX6_areSameByBytes_36 rfl rfl ?_
      refine mw_get dX6_areSameByBytes_37 fk_X6_52 h_this rfl ?_
      refine mw_aload_n (i := 0) dX6_areSameByBytes_40 rfl rfl ?_
      refine mw_get dX6_areSameByBytes_41 fk_X6_55 h_this rfl ?_
      refine mw_callV dX6_areSameByBytes_44 mk_X6_270 h_this_canonical rfl (y_isSameAs u3 v2) (by decide) (Nat.le_refl _) (Nat.le_refl _) rfl rfl (Nat.le_of_ble_eq_true rfl) (fun E9 h9 q9 => ?_) (fun v9 h9 q9 => ?_)
      · obtain ⟨-, r, z, -⟩ := q9
        cases z
      obtain ⟨rfl, r, z, z1, z2⟩ := q9
      cases z
      by_cases e : eL (can g.2.1 s L) = eL (can g.2.1 s2 L2)
      · show mw_W _ _ _ _ _ _ _ _ (cP H [eIO] (0, if _ then 1 else 0, g))
        rw [if_pos e, z1 e]
        exact mw_ireturn dX6_areSameByBytes_47 ⟨_, rfl, rfl⟩ (cP_r hC7 hG)
      · show mw_W _ _ _ _ _ _ _ _ (cP H [eIO] (0, if _ then 1 else 0, g))
        rw [if_neg e, z2 e]
        exact mw_ireturn dX6_areSameByBytes_47 ⟨_, rfl, rfl⟩ (cP_r hC7 hG)
theorem k_write (hC : cC g H sa ma) (m : Int32) : mw_Con mm_X6_write 7 1 6 [.ref 1, .int m] H (cP H [eIO] (sp_write g m)) := by
  refine gm_con pl_X6 rfl rfl (Nat.le_of_ble_eq_true rfl) rfl ?_
  unfold sp_write
  refine mw_wf (fun hw => ?_)
  have h_this := cC_x hC
  cases hs : sM g m with
  | none =>
    refine mw_aload_n (i := 0) dX6_write_0 rfl rfl ?_
    refine mw_iload_n (i := 1) dX6_write_1 rfl rfl ?_
    refine mw_callV dX6_write_2 mk_X6_119 h_this rfl (y_mA0 hC hs) (by decide) (Nat.le_refl _) (Nat.le_refl _) rfl rfl (Nat.le_of_ble_eq_true rfl) (fun E9 h9 q9 => ?_) (fun v9 h9 q9 => ?_)
    · obtain ⟨e9, rfl⟩ := q9
      cases e9
      exact mw_out rfl (cP_x hC hw yG.rf 0 (by decide) rfl)
    · cases q9.1
  | some q =>
    obtain ⟨m', s, L⟩ := q
    obtain ⟨hm, rfl, hT⟩ := sM_in hs
    obtain ⟨-, o2, o3⟩ := cC_ok hC hm hT
    have m56 := hC.2.2.1.2.2.1 _ hm (by rw [hT]; exact fun z => by cases z)
    have hc1 := can_le g.2.1 s L
    obtain ⟨⟨n0, h_this_canon⟩, -⟩ := hC.2.2.2.2.2.2.1
    have h_r2 := (cC_me hC hm hT).1
    refine mw_aload_n (i := 0) dX6_write_0 rfl rfl ?_
    refine mw_iload_n (i := 1) dX6_write_1 rfl rfl ?_
    refine mw_callVr dX6_write_2 mk_X6_119 h_this rfl (y_mA1 hC hs) (by decide) (Nat.le_refl _) (Nat.le_refl _) rfl rfl (Nat.le_of_ble_eq_true rfl) ?_
    refine mw_astore_2 dX6_write_5 (by decide) ?_
    refine mw_aload_n (i := 0) dX6_write_6 rfl rfl ?_
    refine mw_get dX6_write_7 fk_X6_45 h_this rfl ?_
    refine mw_aload_n (i := 2) dX6_write_10 rfl rfl ?_
    refine mw_get dX6_write_11 fk_X6_123 h_r2 rfl ?_
    refine mw_aload_n (i := 2) dX6_write_14 rfl rfl ?_
    refine mw_get dX6_write_15 fk_X6_141 h_r2 rfl ?_
    refine mw_callV dX6_write_18 mk_X6_201 h_this_canon rfl (y_ch (Or.inl rfl) hC hm hT) (by decide) (Nat.le_refl _) (Nat.le_refl _) rfl rfl (Nat.le_of_ble_eq_true rfl) (fun E9 h9 q9 => ?_) (fun v9 h9 q9 => ?_)
    · cases q9.1
    obtain ⟨e9, q1, q2, hC9⟩ := q9
    cases e9
    have h_this := cC_x hC9
    obtain ⟨⟨n1, h_this_canon⟩, -⟩ := hC9.2.2.2.2.2.2.1
    refine mw_aload_n (i := 0) dX6_write_21 rfl rfl ?_
    refine mw_get dX6_write_22 fk_X6_45 h_this rfl ?_
    refine mw_aload_n (i := 0) dX6_write_25 rfl rfl ?_
    refine mw_get dX6_write_26 fk_X6_24 h_this rfl ?_
    refine mw_callV dX6_write_29 mk_X6_205 h_this_canon rfl (y_kwriteTo q2 (cC_me hC9 hm hT).2 hC9.2.2.2.1 (by omega) (by omega) (by omega) (by rw [cnR_can]; omega)) (by decide) (Nat.le_refl _) (Nat.le_refl _) rfl rfl (Nat.le_of_ble_eq_true rfl) (fun E9 h9 q9 => ?_) (fun v9 h9 q9 => ?_)
    · cases q9.1
    obtain ⟨e9, u1, u2⟩ := q9
    cases e9
    rw [cnR_can] at u2
    have hC8 := cC_tape hC9 u1.M (by decide) u2 (by omega) (cW_M hC9.2.2.2.2 u1.M (Or.inl (by decide)) (Or.inl (by decide)) (Or.inl (by decide)) (Or.inl (by decide)) (Or.inl (by decide)) (Or.inl (by decide)) (Or.inl (by decide)))
    have h_this := cC_x hC8
    have h_this_tape := u2.1
    refine mw_aload_n (i := 0) dX6_write_32 rfl rfl ?_
    refine mw_get dX6_write_33 fk_X6_24 h_this rfl ?_
    refine mw_callVr dX6_write_36 mk_X6_208 h_this_tape rfl (y_count u2) (by decide) (Nat.le_refl _) (Nat.le_refl _) rfl rfl (Nat.le_of_ble_eq_true rfl) ?_
    exact mw_ireturn dX6_write_39 ⟨_, rfl, rfl⟩ (cP_r hC8 (((q1.M.mo (S' := SK 17 ++ [4, 5]) (fun b hb => List.mem_append_left _ hb)).tr (u1.M.mo (fun b hb => List.mem_append_right _ hb))).G (by decide)))
theorem k_isCanonical (hC : cC g H sa ma) (x : Int32) : mw_Con mm_X6_isCanonical 7 1 6 [.ref 1, .int x] H (cP H [eIO] (sp_isCanonical g x)) := by
  refine gm_con pl_X6 rfl rfl (Nat.le_of_ble_eq_true rfl) rfl ?_
  unfold sp_isCanonical
  refine mw_wf (fun hw => ?_)
  have h_this := cC_x hC
  cases hs : sS g x with
  | none =>
    refine mw_aload_n (i := 0) dX6_isCanonical_0 rfl rfl ?_
    refine mw_iload_n (i := 1) dX6_isCanonical_1 rfl rfl ?_
    refine mw_callV dX6_isCanonical_2 mk_X6_75 h_this rfl (y_sA0 hC hs) (by decide) (Nat.le_refl _) (Nat.le_refl _) rfl rfl (Nat.le_of_ble_eq_true rfl) (fun E9 h9 q9 => ?_) (fun v9 h9 q9 => ?_)
    · obtain ⟨e9, rfl⟩ := q9
      cases e9
      exact mw_out rfl (cP_x hC hw yG.rf 0 (by decide) rfl)
    · cases q9.1
  | some s =>
    obtain ⟨hsn, rfl⟩ := sS_in (cC_ns hC) hs
    have s56 := hC.2.1.2.2.2.1 s hsn
    have hl := hC.1.2.2.2.2.1
    have hY := hC.1.2.2.2.2.2
    have hf4 := prsL_le4 g.2.2.2
    obtain ⟨o2, o3⟩ := prsL_ok hY
    have hc1 := can_le g.2.1 s (prsL g.2.2.2).1
    refine mw_aload_n (i := 0) dX6_isCanonical_0 rfl rfl ?_
    refine mw_iload_n (i := 1) dX6_isCanonical_1 rfl rfl ?_
    refine mw_callVr dX6_isCanonical_2 mk_X6_75 h_this rfl (y_sA1 hC hs) (by decide) (Nat.le_refl _) (Nat.le_refl _) rfl rfl (Nat.le_of_ble_eq_true rfl) ?_
    refine mw_astore_2 dX6_isCanonical_5 (by decide) ?_
    refine mw_aload_n (i := 0) dX6_isCanonical_6 rfl rfl ?_
    refine mw_callV dX6_isCanonical_7 mk_X6_278 h_this rfl (y_fieldsOfTape hC) (by decide) (Nat.le_refl _) (Nat.le_refl _) rfl rfl (Nat.le_of_ble_eq_true rfl) (fun E9 h9 q9 => ?_) (fun v9 h9 q9 => ?_)
    · cases q9.1
    obtain ⟨e9, q1, E, hI⟩ := q9
    cases e9
    have hI0 := hI
    have hC9 := cC_scan hC q1 hI.r
    obtain ⟨-, nx, lm, f1, f2, f3, f4, h_r7, -, -⟩ := hI
    refine mw_callVr dX6_isCanonical_10 mk_X6_244 h_r7 rfl (y_problem hI0) (by decide) (Nat.le_refl _) (Nat.le_refl _) rfl rfl (Nat.le_of_ble_eq_true rfl) ?_
    show mw_W _ _ _ _ _ _ _ _ (cP H [eIO] (0, if _ then 1 else 0, g))
    by_cases hf : (prsL g.2.2.2).2.1 = 0
    · rw [hf]
      have h_this := cC_x hC9
      obtain ⟨⟨n0, h_this_canon⟩, -⟩ := hC9.2.2.2.2.2.2.1
      refine mw_if_eq (tgt := 18) dX6_isCanonical_13 (by decide) (fun _ => ?_) (fun c9 => absurd c9 (fun z => z rfl))
      refine mw_aload_n (i := 0) dX6_isCanonical_18 rfl rfl ?_
      refine mw_get dX6_isCanonical_19 fk_X6_45 h_this rfl ?_
      refine mw_aload_n (i := 0) dX6_isCanonical_22 rfl rfl ?_
      refine mw_get dX6_isCanonical_23 fk_X6_24 h_this rfl ?_
      refine mw_aload_n (i := 2) dX6_isCanonical_26 rfl rfl ?_
      refine mw_callV dX6_isCanonical_27 mk_X6_201 h_this_canon rfl (y_choose (q := 17) (cC_K hC9) hsn (cC_sc hC9 hsn) hC9.2.2.2.2.2.2.1 hC9.2.2.2.1 (by omega) (by omega)) (by decide) (Nat.le_refl _) (Nat.le_refl _) rfl rfl (Nat.le_of_ble_eq_true rfl) (fun E9 h9 q9 => ?_) (fun v9 h9 q9 => ?_)
      · cases q9.1
      obtain ⟨e9, u1, u2⟩ := q9
      cases e9
      have hC8 := cC_scr hC9 u1.M (by decide) (cW_M hC9.2.2.2.2 u1.M (Or.inl (by decide)) (Or.inl (by decide)) (Or.inr u2.r) (Or.inl (by decide)) (Or.inl (by decide)) (Or.inl (by decide)) (Or.inl (by decide)))
      have h_this := cC_x hC8
      obtain ⟨⟨n1, h_this_canon⟩, -⟩ := hC8.2.2.2.2.2.2.1
      obtain ⟨X7, hB7⟩ := hC8.2.2.2.2.2.2.2.2.1
      refine mw_aload_n (i := 0) dX6_isCanonical_30 rfl rfl ?_
      refine mw_get dX6_isCanonical_31 fk_X6_45 h_this rfl ?_
      refine mw_aload_n (i := 0) dX6_isCanonical_34 rfl rfl ?_
      refine mw_get dX6_isCanonical_35 fk_X6_52 h_this rfl ?_
      refine mw_callV dX6_isCanonical_38 mk_X6_205 h_this_canon rfl (y_kwriteTo u2 hC8.2.2.2.1 hB7 (by omega) (by omega) (by omega) (by rw [cnR_can]; omega)) (by decide) (Nat.le_refl _) (Nat.le_refl _) rfl rfl (Nat.le_of_ble_eq_true rfl) (fun E9 h9 q9 => ?_) (fun v9 h9 q9 => ?_)
      · cases q9.1
      obtain ⟨e9, v1, v2⟩ := q9
      cases e9
      rw [cnR_can] at v2
      have hC7 := cC_scr hC8 v1.M (by decide) (cW_M hC8.2.2.2.2 v1.M (Or.inl (by decide)) (Or.inl (by decide)) (Or.inl (by decide)) (Or.inl (by decide)) (Or.inr ⟨_, v2⟩) (Or.inl (by decide)) (Or.inl (by decide)))
      have h_this := cC_x hC7
      have h_this_canonical := v2.1
      have hG : yG H h9 := (((q1.M.mo (S' := S5 10 ++ SK 17 ++ [37, 38]) (fun b hb => List.mem_append_left _ (List.mem_append_left _ hb))).tr (u1.M.mo (fun b hb => List.mem_append_left _ (List.mem_append_right _ hb)))).tr (v1.M.mo (fun b hb => List.mem_append_right _ hb))).G (by decide)
      refine mw_aload_n (i := 0) dX6_isCanonical_41 rfl rfl ?_
      refine mw_get dX6_isCanonical_42 fk_X6_52 h_this rfl ?_
      refine mw_aload_n (i := 0) dX6_isCanonical_45 rfl rfl ?_
      refine mw_get dX6_isCanonical_46 fk_X6_24 h_this rfl ?_
      refine mw_callV dX6_isCanonical_49 mk_X6_270 h_this_canonical rfl (y_isSameAs v2 hC7.2.2.2.1) (by decide) (Nat.le_refl _) (Nat.le_refl _) rfl rfl (Nat.le_of_ble_eq_true rfl) (fun E9 h9 q9 => ?_) (fun v9 h9 q9 => ?_)
      · obtain ⟨-, r, z, -⟩ := q9
        cases z
      obtain ⟨rfl, r, z, z1, z2⟩ := q9
      cases z
      by_cases e : eL (can g.2.1 s (prsL g.2.2.2).1) = g.2.2.2
      · rw [if_pos ⟨rfl, e⟩, z1 e]
        exact mw_ireturn dX6_isCanonical_52 ⟨_, rfl, rfl⟩ (cP_r hC7 hG)
      · rw [if_neg (fun y => e y.2), z2 e]
        exact mw_ireturn dX6_isCanonical_52 ⟨_, rfl, rfl⟩ (cP_r hC7 hG)
    · rw [if_neg (fun y => hf y.1)]
      refine mw_if_eq (tgt := 18) dX6_isCanonical_13 (by decide) (fun c9 => absurd c9 (nb_1 hf hf4)) (fun _ => ?_)
      refine mw_iconst (v := 0) dX6_isCanonical_16 (by decide) ?_
      exact mw_ireturn dX6_isCanonical_17 ⟨_, rfl, rfl⟩ (cP_r hC9 (q1.M.G (by decide)))
theorem bV_uN (z : Int32) : z.toInt8.toInt32 = bV (uN (z.toInt8.toInt32 &&& 255)) := by
  unfold bV
  rw [nI_uN, fa_byte_low, Int8.toInt8_toInt32]
theorem k_put (hC : cC g H sa ma) (z : Int32) : mw_Con mm_X6_put 6 1 6 [.ref 1, .int z.toInt8.toInt32] H (cP H [eIS] (sp_put g z.toInt8.toInt32)) := by
  refine gm_con pl_X6 rfl rfl (Nat.le_of_ble_eq_true rfl) rfl ?_
  unfold sp_put
  refine mw_wf (fun hw => ?_)
  have h_this := cC_x hC
  have hB := hC.2.2.2.1
  have h_this_tape := hB.1
  have hl := hC.1.2.2.2.2.1
  by_cases h : g.2.2.2.length = 120
  · rw [if_pos h]
    refine mw_aload_n (i := 0) dX6_put_0 rfl rfl ?_
    refine mw_get dX6_put_1 fk_X6_24 h_this rfl ?_
    refine mw_callVr dX6_put_4 mk_X6_208 h_this_tape rfl (y_count hB) (by decide) (Nat.le_refl _) (Nat.le_refl _) rfl rfl (Nat.le_of_ble_eq_true rfl) ?_
    refine mw_bipush (v := 120) dX6_put_7 (by decide) ?_
    refine mw_icmp_lt (tgt := 23) dX6_put_9 (by decide) (fun c9 => absurd c9 (nI_nlt (b := 120) (by omega) (by omega))) (fun _ => ?_)
    refine mw_throwW th_X6_65_274_69 dX6_put_12 dX6_put_15 dX6_put_16 dX6_put_19 dX6_put_22 rfl (by decide) (by decide) (by decide) (Nat.le_of_ble_eq_true rfl) (cP_x hC hw yG.rf 0 (by decide) rfl)
  · rw [if_neg h]
    refine mw_aload_n (i := 0) dX6_put_0 rfl rfl ?_
    refine mw_get dX6_put_1 fk_X6_24 h_this rfl ?_
    refine mw_callVr dX6_put_4 mk_X6_208 h_this_tape rfl (y_count hB) (by decide) (Nat.le_refl _) (Nat.le_refl _) rfl rfl (Nat.le_of_ble_eq_true rfl) ?_
    refine mw_bipush (v := 120) dX6_put_7 (by decide) ?_
    refine mw_icmp_lt (tgt := 23) dX6_put_9 (by decide) (fun _ => ?_) (fun c9 => absurd c9 (fun y => y (nI_lt (b := 120) (by omega) (by decide))))
    refine mw_aload_n (i := 0) dX6_put_23 rfl rfl ?_
    refine mw_get dX6_put_24 fk_X6_24 h_this rfl ?_
    refine mw_iload_n (i := 1) dX6_put_27 rfl rfl ?_
    have hbv := bV_uN z
    generalize hx : uN (z.toInt8.toInt32 &&& 255) = x at *
    have hx256 : x < 256 := by rw [← hx]; exact uN_255 _
    rw [hbv]
    refine mw_callV dX6_put_28 mk_X6_191 h_this_tape rfl (y_add hB (by omega) hx256) (by decide) (Nat.le_refl _) (Nat.le_refl _) rfl rfl (Nat.le_of_ble_eq_true rfl) (fun E9 h9 q9 => ?_) (fun v9 h9 q9 => ?_)
    · cases q9.1
    obtain ⟨e9, u1, u2⟩ := q9
    cases e9
    have hC8 := cC_tape hC u2.M (by decide) u1 (by rw [List.length_append]; show g.2.2.2.length + 1 ≤ 120; omega) (cW_M hC.2.2.2.2 u2.M (Or.inl (by decide)) (Or.inl (by decide)) (Or.inl (by decide)) (Or.inl (by decide)) (Or.inl (by decide)) (Or.inl (by decide)) (Or.inl (by decide)))
    have h_this := cC_x hC8
    have h_this_tape := u1.1
    refine mw_aload_n (i := 0) dX6_put_31 rfl rfl ?_
    refine mw_get dX6_put_32 fk_X6_24 h_this rfl ?_
    refine mw_callVr dX6_put_35 mk_X6_208 h_this_tape rfl (y_count u1) (by decide) (Nat.le_refl _) (Nat.le_refl _) rfl rfl (Nat.le_of_ble_eq_true rfl) ?_
    rw [List.length_append]
    exact mw_ireturn dX6_put_38 ⟨_, rfl, rfl⟩ (cP_r hC8 (u2.M.G (by decide)))
theorem k_cut (hC : cC g H sa ma) (n : Int32) : mw_Con mm_X6_cut 6 1 6 [.ref 1, .int n] H (cP H [eIO] (sp_cut g n)) := by
  refine gm_con pl_X6 rfl rfl (Nat.le_of_ble_eq_true rfl) rfl ?_
  unfold sp_cut
  refine mw_wf (fun hw => ?_)
  have h_this := cC_x hC
  have hB := hC.2.2.2.1
  have h_this_tape := hB.1
  have hl := hC.1.2.2.2.2.1
  rcases pk_ix n (n := g.2.2.2.length + 1) (by omega) with z | z | ⟨j, hj, rfl⟩
  · rw [if_pos (by unfold zIn; rw [if_pos z])]
    refine mw_aload_n (i := 0) dX6_cut_0 rfl rfl ?_
    refine mw_get dX6_cut_1 fk_X6_24 h_this rfl ?_
    refine mw_callVr dX6_cut_4 mk_X6_208 h_this_tape rfl (y_count hB) (by decide) (Nat.le_refl _) (Nat.le_refl _) rfl rfl (Nat.le_of_ble_eq_true rfl) ?_
    refine mw_istore_2 dX6_cut_7 (by decide) ?_
    refine mw_iload_n (i := 1) dX6_cut_8 rfl rfl ?_
    refine mw_if_lt (tgt := 17) dX6_cut_9 (by decide) (fun _ => ?_) (fun c9 => absurd c9 (fun y => y z))
    refine mw_throwW th_X6_257_276_261 dX6_cut_17 dX6_cut_20 dX6_cut_21 dX6_cut_24 dX6_cut_27 rfl (by decide) (by decide) (by decide) (Nat.le_of_ble_eq_true rfl) (cP_x hC hw yG.rf 0 (by decide) rfl)
  · have hlt : nI g.2.2.2.length < n := Int32.lt_of_lt_of_le (nI_lt (show g.2.2.2.length < g.2.2.2.length + 1 by omega) (by omega)) z
    have hz : zIn n 0 (nI g.2.2.2.length) = 0 := by
      unfold zIn
      rw [if_neg (ge_nneg (by omega) z), if_pos hlt]
    rw [if_pos hz]
    refine mw_aload_n (i := 0) dX6_cut_0 rfl rfl ?_
    refine mw_get dX6_cut_1 fk_X6_24 h_this rfl ?_
    refine mw_callVr dX6_cut_4 mk_X6_208 h_this_tape rfl (y_count hB) (by decide) (Nat.le_refl _) (Nat.le_refl _) rfl rfl (Nat.le_of_ble_eq_true rfl) ?_
    refine mw_istore_2 dX6_cut_7 (by decide) ?_
    refine mw_iload_n (i := 1) dX6_cut_8 rfl rfl ?_
    refine mw_if_lt (tgt := 17) dX6_cut_9 (by decide) (fun c9 => absurd c9 (ge_nneg (show g.2.2.2.length + 1 < 2 ^ 31 by omega) z)) (fun _ => ?_)
    refine mw_iload_n (i := 1) dX6_cut_12 rfl rfl ?_
    refine mw_iload_n (i := 2) dX6_cut_13 rfl rfl ?_
    refine mw_icmp_le (tgt := 28) dX6_cut_14 (by decide) (fun c9 => absurd c9 (Int32.not_le.mpr hlt)) (fun _ => ?_)
    refine mw_throwW th_X6_257_276_261 dX6_cut_17 dX6_cut_20 dX6_cut_21 dX6_cut_24 dX6_cut_27 rfl (by decide) (by decide) (by decide) (Nat.le_of_ble_eq_true rfl) (cP_x hC hw yG.rf 0 (by decide) rfl)
  · have hz : ¬ zIn (nI j) 0 (nI g.2.2.2.length) = 0 := by
      unfold zIn
      rw [if_neg (nI_pos (by omega)), if_neg (nI_nlt (by omega) (by omega))]
      decide
    rw [if_neg hz, nI_clamp (by omega)]
    refine mw_aload_n (i := 0) dX6_cut_0 rfl rfl ?_
    refine mw_get dX6_cut_1 fk_X6_24 h_this rfl ?_
    refine mw_callVr dX6_cut_4 mk_X6_208 h_this_tape rfl (y_count hB) (by decide) (Nat.le_refl _) (Nat.le_refl _) rfl rfl (Nat.le_of_ble_eq_true rfl) ?_
    refine mw_istore_2 dX6_cut_7 (by decide) ?_
    refine mw_iload_n (i := 1) dX6_cut_8 rfl rfl ?_
    refine mw_if_lt (tgt := 17) dX6_cut_9 (by decide) (fun c9 => absurd c9 (nI_pos (by omega))) (fun _ => ?_)
    refine mw_iload_n (i := 1) dX6_cut_12 rfl rfl ?_
    refine mw_iload_n (i := 2) dX6_cut_13 rfl rfl ?_
    refine mw_icmp_le (tgt := 28) dX6_cut_14 (by decide) (fun _ => ?_) (fun c9 => absurd c9 (fun y => y (nI_le (by omega) (by omega))))
    refine mw_aload_n (i := 0) dX6_cut_28 rfl rfl ?_
    refine mw_get dX6_cut_29 fk_X6_24 h_this rfl ?_
    refine mw_iload_n (i := 1) dX6_cut_32 rfl rfl ?_
    refine mw_callV dX6_cut_33 mk_X6_209 h_this_tape rfl (y_keep hB (show j ≤ g.2.2.2.length by omega)) (by decide) (Nat.le_refl _) (Nat.le_refl _) rfl rfl (Nat.le_of_ble_eq_true rfl) (fun E9 h9 q9 => ?_) (fun v9 h9 q9 => ?_)
    · cases q9.1
    obtain ⟨e9, u1, u2⟩ := q9
    cases e9
    have hC8 := cC_tape hC u2.M (by decide) u1 (by rw [List.length_take]; omega) (cW_M hC.2.2.2.2 u2.M (Or.inl (by decide)) (Or.inl (by decide)) (Or.inl (by decide)) (Or.inl (by decide)) (Or.inl (by decide)) (Or.inl (by decide)) (Or.inl (by decide)))
    refine mw_iload_n (i := 2) dX6_cut_36 rfl rfl ?_
    refine mw_iload_n (i := 1) dX6_cut_37 rfl rfl ?_
    refine mw_isub dX6_cut_38 ?_
    exact mw_ireturn dX6_cut_39 ⟨_, rfl, rfl⟩ (cP_r hC8 (u2.M.G (by decide)))
end CB
