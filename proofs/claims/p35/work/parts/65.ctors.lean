/-! the constructors: written by tools/ctor.py (class side) -/
section CT
variable {H : mw_H}
theorem y_X4_init {a : Nat} (hn : H.1 = a + 1) (h_this : mw_g H a = some (.inr (4, [.null, .null, .null, .int 0]))) : mw_Con mm_X4_init 1 3 108 [.ref a] H (fun v H' => v = .inl none ∧ H'.1 = a + 4 ∧ yM [a] H H' ∧ isP0 H' a) := by
  refine gm_con pl_X4 rfl rfl (Nat.le_of_ble_eq_true rfl) rfl ?_
  refine mw_wf (fun hw => ?_)
  have hlt := (hw a _ h_this).2
  refine mw_aload_n (i := 0) dX4_init_0 rfl rfl ?_
  refine mw_obj ob_X4_3 dX4_init_1 (Nat.le_of_ble_eq_true rfl) (Nat.le_of_ble_eq_true rfl) ?_
  refine mw_aload_n (i := 0) dX4_init_4 rfl rfl ?_
  refine mw_bipush (v := 36) dX4_init_5 (by decide) ?_
  refine mw_newq ty_S nq_X4_9 dX4_init_7 (by decide) rfl (by decide) (Nat.le_refl _) (Nat.le_refl _) ?_
  refine mw_putF dX4_init_10 fk_X4_11 rfl rfl ((mw_gm (by omega)).trans h_this) (Nat.le_of_ble_eq_true rfl) (fun _ => ⟨rfl, rfl⟩) ?_
  refine mw_heap (fun H' => H'.1 = a + 2 ∧ yM [a] H H' ∧ mw_g H' a = some (.inr (4, [.ref (a + 1), .null, .null, .int 0])) ∧ mw_g H' (a + 1) = some (.inl (4, (36, .inr (.inr (.inr (.inr (fun _ => none)))))))) ⟨by show H.1 + 1 = _; rw [hn], (yM.rf : yM [a] H H).tr ((yM.n hw).tr ((yF.rf.s (by simp)).M) : yM [a] H _), mw_gs.trans (by rw [hn]; rfl), (mw_go (by omega)).trans (by rw [← hn]; exact mw_gn)⟩ (fun H0 q0 => ?_)
  obtain ⟨n0, M0, g0, f0_0⟩ := q0
  refine mw_wf (fun w0 => ?_)
  have h_this := g0
  refine mw_aload_n (i := 0) dX4_init_13 rfl rfl ?_
  refine mw_bipush (v := 36) dX4_init_14 (by decide) ?_
  refine mw_newq ty_S nq_X4_9 dX4_init_16 (by decide) rfl (by decide) (Nat.le_refl _) (Nat.le_refl _) ?_
  refine mw_putF dX4_init_19 fk_X4_17 rfl rfl ((mw_gm (by omega)).trans h_this) (Nat.le_of_ble_eq_true rfl) (fun _ => ⟨rfl, rfl⟩) ?_
  refine mw_heap (fun H' => H'.1 = a + 3 ∧ yM [a] H H' ∧ mw_g H' a = some (.inr (4, [.ref (a + 1), .ref (a + 2), .null, .int 0])) ∧ mw_g H' (a + 1) = some (.inl (4, (36, .inr (.inr (.inr (.inr (fun _ => none))))))) ∧ mw_g H' (a + 2) = some (.inl (4, (36, .inr (.inr (.inr (.inr (fun _ => none)))))))) ⟨by show H0.1 + 1 = _; rw [n0], M0.tr ((yM.n w0).tr ((yF.rf.s (by simp)).M) : yM [a] H0 _), mw_gs.trans (by rw [n0]; rfl), (((yM.n w0).tr ((yF.rf.s (by simp)).M) : yM [a] H0 _)).g (S5_1 (by omega)) f0_0, (mw_go (by omega)).trans (by rw [← n0]; exact mw_gn)⟩ (fun H1 q1 => ?_)
  obtain ⟨n1, M1, g1, f1_0, f1_1⟩ := q1
  refine mw_wf (fun w1 => ?_)
  have h_this := g1
  refine mw_aload_n (i := 0) dX4_init_22 rfl rfl ?_
  refine mw_bipush (v := 36) dX4_init_23 (by decide) ?_
  refine mw_newZ ac_boolean dX4_init_25 (by decide) rfl (by decide) (Nat.le_refl _) (Nat.le_refl _) ?_
  refine mw_putF dX4_init_27 fk_X4_20 rfl rfl ((mw_gm (by omega)).trans h_this) (Nat.le_of_ble_eq_true rfl) (fun _ => ⟨rfl, rfl⟩) ?_
  refine mw_heap (fun H' => H'.1 = a + 4 ∧ yM [a] H H' ∧ mw_g H' a = some (.inr (4, [.ref (a + 1), .ref (a + 2), .ref (a + 3), .int 0])) ∧ mw_g H' (a + 1) = some (.inl (4, (36, .inr (.inr (.inr (.inr (fun _ => none))))))) ∧ mw_g H' (a + 2) = some (.inl (4, (36, .inr (.inr (.inr (.inr (fun _ => none))))))) ∧ mw_g H' (a + 3) = some (.inl (2, (36, .inl (fun _ => 0))))) ⟨by show H1.1 + 1 = _; rw [n1], M1.tr ((yM.n w1).tr ((yF.rf.s (by simp)).M) : yM [a] H1 _), mw_gs.trans (by rw [n1]; rfl), (((yM.n w1).tr ((yF.rf.s (by simp)).M) : yM [a] H1 _)).g (S5_1 (by omega)) f1_0, (((yM.n w1).tr ((yF.rf.s (by simp)).M) : yM [a] H1 _)).g (S5_1 (by omega)) f1_1, (mw_go (by omega)).trans (by rw [← n1]; exact mw_gn)⟩ (fun H2 q2 => ?_)
  obtain ⟨n2, M2, g2, f2_0, f2_1, f2_2⟩ := q2
  refine mw_wf (fun w2 => ?_)
  have h_this := g2
  exact mw_return dX4_init_30 rfl ⟨rfl, n2, M2, 0, _, _, _, g2, f2_0, f2_1, f2_2⟩
theorem y_X2_init {a : Nat} (hn : H.1 = a + 1) (h_this : mw_g H a = some (.inr (2, [.null, .null, .null, .null, .int 0, .null, .int 0, .int 0, .int 0, .int 0]))) : mw_Con mm_X2_init 2 6 498 [.ref a] H (fun v H' => v = .inl none ∧ H'.1 = a + 7 ∧ yM [a] H H' ∧ isF0 H' a) := by
  refine gm_con pl_X2 rfl rfl (Nat.le_of_ble_eq_true rfl) rfl ?_
  refine mw_wf (fun hw => ?_)
  have hlt := (hw a _ h_this).2
  refine mw_aload_n (i := 0) dX2_init_0 rfl rfl ?_
  refine mw_obj ob_X2_3 dX2_init_1 (Nat.le_of_ble_eq_true rfl) (Nat.le_of_ble_eq_true rfl) ?_
  refine mw_aload_n (i := 0) dX2_init_4 rfl rfl ?_
  refine mw_bipush (v := 60) dX2_init_5 (by decide) ?_
  refine mw_newI ac_int dX2_init_7 (by decide) rfl (by decide) (Nat.le_refl _) (Nat.le_refl _) ?_
  refine mw_putF dX2_init_9 fk_X2_9 rfl rfl ((mw_gm (by omega)).trans h_this) (Nat.le_of_ble_eq_true rfl) (fun _ => ⟨rfl, rfl⟩) ?_
  refine mw_heap (fun H' => H'.1 = a + 2 ∧ yM [a] H H' ∧ mw_g H' a = some (.inr (2, [.ref (a + 1), .null, .null, .null, .int 0, .null, .int 0, .int 0, .int 0, .int 0])) ∧ mw_g H' (a + 1) = some (.inl (0, (60, .inl (fun _ => 0))))) ⟨by show H.1 + 1 = _; rw [hn], (yM.rf : yM [a] H H).tr ((yM.n hw).tr ((yF.rf.s (by simp)).M) : yM [a] H _), mw_gs.trans (by rw [hn]; rfl), (mw_go (by omega)).trans (by rw [← hn]; exact mw_gn)⟩ (fun H0 q0 => ?_)
  obtain ⟨n0, M0, g0, f0_0⟩ := q0
  refine mw_wf (fun w0 => ?_)
  have h_this := g0
  refine mw_aload_n (i := 0) dX2_init_12 rfl rfl ?_
  refine mw_bipush (v := 60) dX2_init_13 (by decide) ?_
  refine mw_newI ac_int dX2_init_15 (by decide) rfl (by decide) (Nat.le_refl _) (Nat.le_refl _) ?_
  refine mw_putF dX2_init_17 fk_X2_15 rfl rfl ((mw_gm (by omega)).trans h_this) (Nat.le_of_ble_eq_true rfl) (fun _ => ⟨rfl, rfl⟩) ?_
  refine mw_heap (fun H' => H'.1 = a + 3 ∧ yM [a] H H' ∧ mw_g H' a = some (.inr (2, [.ref (a + 1), .ref (a + 2), .null, .null, .int 0, .null, .int 0, .int 0, .int 0, .int 0])) ∧ mw_g H' (a + 1) = some (.inl (0, (60, .inl (fun _ => 0)))) ∧ mw_g H' (a + 2) = some (.inl (0, (60, .inl (fun _ => 0))))) ⟨by show H0.1 + 1 = _; rw [n0], M0.tr ((yM.n w0).tr ((yF.rf.s (by simp)).M) : yM [a] H0 _), mw_gs.trans (by rw [n0]; rfl), (((yM.n w0).tr ((yF.rf.s (by simp)).M) : yM [a] H0 _)).g (S5_1 (by omega)) f0_0, (mw_go (by omega)).trans (by rw [← n0]; exact mw_gn)⟩ (fun H1 q1 => ?_)
  obtain ⟨n1, M1, g1, f1_0, f1_1⟩ := q1
  refine mw_wf (fun w1 => ?_)
  have h_this := g1
  refine mw_aload_n (i := 0) dX2_init_20 rfl rfl ?_
  refine mw_bipush (v := 60) dX2_init_21 (by decide) ?_
  refine mw_newI ac_int dX2_init_23 (by decide) rfl (by decide) (Nat.le_refl _) (Nat.le_refl _) ?_
  refine mw_putF dX2_init_25 fk_X2_18 rfl rfl ((mw_gm (by omega)).trans h_this) (Nat.le_of_ble_eq_true rfl) (fun _ => ⟨rfl, rfl⟩) ?_
  refine mw_heap (fun H' => H'.1 = a + 4 ∧ yM [a] H H' ∧ mw_g H' a = some (.inr (2, [.ref (a + 1), .ref (a + 2), .ref (a + 3), .null, .int 0, .null, .int 0, .int 0, .int 0, .int 0])) ∧ mw_g H' (a + 1) = some (.inl (0, (60, .inl (fun _ => 0)))) ∧ mw_g H' (a + 2) = some (.inl (0, (60, .inl (fun _ => 0)))) ∧ mw_g H' (a + 3) = some (.inl (0, (60, .inl (fun _ => 0))))) ⟨by show H1.1 + 1 = _; rw [n1], M1.tr ((yM.n w1).tr ((yF.rf.s (by simp)).M) : yM [a] H1 _), mw_gs.trans (by rw [n1]; rfl), (((yM.n w1).tr ((yF.rf.s (by simp)).M) : yM [a] H1 _)).g (S5_1 (by omega)) f1_0, (((yM.n w1).tr ((yF.rf.s (by simp)).M) : yM [a] H1 _)).g (S5_1 (by omega)) f1_1, (mw_go (by omega)).trans (by rw [← n1]; exact mw_gn)⟩ (fun H2 q2 => ?_)
  obtain ⟨n2, M2, g2, f2_0, f2_1, f2_2⟩ := q2
  refine mw_wf (fun w2 => ?_)
  have h_this := g2
  refine mw_aload_n (i := 0) dX2_init_28 rfl rfl ?_
  refine mw_bipush (v := 60) dX2_init_29 (by decide) ?_
  refine mw_newI ac_int dX2_init_31 (by decide) rfl (by decide) (Nat.le_refl _) (Nat.le_refl _) ?_
  refine mw_putF dX2_init_33 fk_X2_21 rfl rfl ((mw_gm (by omega)).trans h_this) (Nat.le_of_ble_eq_true rfl) (fun _ => ⟨rfl, rfl⟩) ?_
  refine mw_heap (fun H' => H'.1 = a + 5 ∧ yM [a] H H' ∧ mw_g H' a = some (.inr (2, [.ref (a + 1), .ref (a + 2), .ref (a + 3), .ref (a + 4), .int 0, .null, .int 0, .int 0, .int 0, .int 0])) ∧ mw_g H' (a + 1) = some (.inl (0, (60, .inl (fun _ => 0)))) ∧ mw_g H' (a + 2) = some (.inl (0, (60, .inl (fun _ => 0)))) ∧ mw_g H' (a + 3) = some (.inl (0, (60, .inl (fun _ => 0)))) ∧ mw_g H' (a + 4) = some (.inl (0, (60, .inl (fun _ => 0))))) ⟨by show H2.1 + 1 = _; rw [n2], M2.tr ((yM.n w2).tr ((yF.rf.s (by simp)).M) : yM [a] H2 _), mw_gs.trans (by rw [n2]; rfl), (((yM.n w2).tr ((yF.rf.s (by simp)).M) : yM [a] H2 _)).g (S5_1 (by omega)) f2_0, (((yM.n w2).tr ((yF.rf.s (by simp)).M) : yM [a] H2 _)).g (S5_1 (by omega)) f2_1, (((yM.n w2).tr ((yF.rf.s (by simp)).M) : yM [a] H2 _)).g (S5_1 (by omega)) f2_2, (mw_go (by omega)).trans (by rw [← n2]; exact mw_gn)⟩ (fun H3 q3 => ?_)
  obtain ⟨n3, M3, g3, f3_0, f3_1, f3_2, f3_3⟩ := q3
  refine mw_wf (fun w3 => ?_)
  have h_this := g3
  refine mw_aload_n (i := 0) dX2_init_36 rfl rfl ?_
  refine mw_new (ci := 0) rfl cf_0 nw_X2_24 df_0 (fun _ => rfl) dX2_init_37 (Nat.le_refl _) (Nat.le_refl _) ?_
  refine mw_dup dX2_init_40 rfl ?_
  refine mw_callIN dX2_init_41 mk_X2_26 (y_X0_init (a := H3.1) mw_gn) (by decide) (Nat.le_refl _) (Nat.le_refl _) rfl rfl (Nat.le_of_ble_eq_true rfl) (fun E9 h9 q9 => ?_) (fun v9 h9 q9 => ?_)
  · cases q9.1
  obtain ⟨e9, u1_4, u2_4, u3_4⟩ := q9
  cases e9
  obtain ⟨G4, hG4⟩ : ∃ z, z = h9 := ⟨_, rfl⟩
  rw [← hG4] at u1_4 u2_4 u3_4 ⊢
  have k_4 : G4.1 = a + 7 := by rw [u1_4]; show H3.1 + 1 + 1 = _; rw [n3]
  have m_4 : yM [a] H3 G4 := yM.trw w3 (yM.n w3) u2_4 (fun b hb => Or.inl (by rw [List.mem_singleton] at hb; omega))
  have t_4 := u2_4.g (S5_1 (show a ≠ H3.1 by omega)) ((mw_gm (by omega)).trans g3)
  have h_this := t_4
  refine mw_put dX2_init_44 fk_X2_27 h_this (Nat.le_of_ble_eq_true rfl) (fun _ => ⟨rfl, rfl⟩) ?_
  have u3_4 : isB G4 (a + 5) (a + 6) [] := by
    have z := u3_4
    rw [show (mw_n H3 (Sum.inr (0, [Value.null, Value.int 0]))).1 = H3.1 + 1 from rfl, n3] at z
    exact z
  refine mw_heap (fun H' => H'.1 = a + 7 ∧ yM [a] H H' ∧ mw_g H' a = some (.inr (2, [.ref (a + 1), .ref (a + 2), .ref (a + 3), .ref (a + 4), .int 0, .ref (a + 5), .int 0, .int 0, .int 0, .int 0])) ∧ mw_g H' (a + 1) = some (.inl (0, (60, .inl (fun _ => 0)))) ∧ mw_g H' (a + 2) = some (.inl (0, (60, .inl (fun _ => 0)))) ∧ mw_g H' (a + 3) = some (.inl (0, (60, .inl (fun _ => 0)))) ∧ mw_g H' (a + 4) = some (.inl (0, (60, .inl (fun _ => 0)))) ∧ isB H' (a + 5) (a + 6) []) ⟨k_4, M3.tr (m_4.tr ((yF.rf.s (by simp)).M) : yM [a] H3 _), mw_gs.trans (by rw [n3]; rfl), ((m_4.tr ((yF.rf.s (by simp)).M) : yM [a] H3 _)).g (S5_1 (by omega)) f3_0, ((m_4.tr ((yF.rf.s (by simp)).M) : yM [a] H3 _)).g (S5_1 (by omega)) f3_1, ((m_4.tr ((yF.rf.s (by simp)).M) : yM [a] H3 _)).g (S5_1 (by omega)) f3_2, ((m_4.tr ((yF.rf.s (by simp)).M) : yM [a] H3 _)).g (S5_1 (by omega)) f3_3, isB_M u3_4 ((yF.rf.s (by simp)).M : yM [a] G4 _) (S5_1 (by omega)) (S5_1 (by omega))⟩ (fun H4 q4 => ?_)
  obtain ⟨n4, M4, g4, f4_0, f4_1, f4_2, f4_3, f4_4⟩ := q4
  refine mw_wf (fun w4 => ?_)
  have h_this := g4
  refine mw_aload_n (i := 0) dX2_init_47 rfl rfl ?_
  refine mw_iconst (v := -1) dX2_init_48 (by decide) ?_
  refine mw_put dX2_init_49 fk_X2_31 h_this (Nat.le_of_ble_eq_true rfl) (fun _ => ⟨rfl, rfl⟩) ?_
  refine mw_heap (fun H' => H'.1 = a + 7 ∧ yM [a] H H' ∧ mw_g H' a = some (.inr (2, [.ref (a + 1), .ref (a + 2), .ref (a + 3), .ref (a + 4), .int 0, .ref (a + 5), .int 0, .int 0, .int 0, .int (-1)])) ∧ mw_g H' (a + 1) = some (.inl (0, (60, .inl (fun _ => 0)))) ∧ mw_g H' (a + 2) = some (.inl (0, (60, .inl (fun _ => 0)))) ∧ mw_g H' (a + 3) = some (.inl (0, (60, .inl (fun _ => 0)))) ∧ mw_g H' (a + 4) = some (.inl (0, (60, .inl (fun _ => 0)))) ∧ isB H' (a + 5) (a + 6) []) ⟨n4, M4.tr ((yF.rf.s (by simp)).M : yM [a] H4 _), mw_gs.trans rfl, (((yF.rf.s (by simp)).M : yM [a] H4 _)).g (S5_1 (by omega)) f4_0, (((yF.rf.s (by simp)).M : yM [a] H4 _)).g (S5_1 (by omega)) f4_1, (((yF.rf.s (by simp)).M : yM [a] H4 _)).g (S5_1 (by omega)) f4_2, (((yF.rf.s (by simp)).M : yM [a] H4 _)).g (S5_1 (by omega)) f4_3, isB_M f4_4 (((yF.rf.s (by simp)).M : yM [a] H4 _)) (S5_1 (by omega)) (S5_1 (by omega))⟩ (fun H5 q5 => ?_)
  obtain ⟨n5, M5, g5, f5_0, f5_1, f5_2, f5_3, f5_4⟩ := q5
  refine mw_wf (fun w5 => ?_)
  have h_this := g5
  exact mw_return dX2_init_52 rfl ⟨rfl, n5, M5, 0, a + 5, 0, 0, 0, -1, _, _, _, _, g5, f5_0, f5_1, f5_2, f5_3⟩
theorem y_X1_init {a : Nat} (hn : H.1 = a + 1) (h_this : mw_g H a = some (.inr (1, [.null, .null, .null, .int 0]))) : mw_Con mm_X1_init 3 9 600 [.ref a] H (fun v H' => v = .inl none ∧ H'.1 = a + 10 ∧ yM [a] H H' ∧ isK0 H' a) := by
  refine gm_con pl_X1 rfl rfl (Nat.le_of_ble_eq_true rfl) rfl ?_
  refine mw_wf (fun hw => ?_)
  have hlt := (hw a _ h_this).2
  refine mw_aload_n (i := 0) dX1_init_0 rfl rfl ?_
  refine mw_obj ob_X1_3 dX1_init_1 (Nat.le_of_ble_eq_true rfl) (Nat.le_of_ble_eq_true rfl) ?_
  refine mw_aload_n (i := 0) dX1_init_4 rfl rfl ?_
  refine mw_new (ci := 2) rfl cf_2 nw_X1_9 df_2 (fun _ => rfl) dX1_init_5 (Nat.le_refl _) (Nat.le_refl _) ?_
  refine mw_dup dX1_init_8 rfl ?_
  refine mw_callIN dX1_init_9 mk_X1_11 (y_X2_init (a := H.1) rfl mw_gn) (by decide) (Nat.le_refl _) (Nat.le_refl _) rfl rfl (Nat.le_of_ble_eq_true rfl) (fun E9 h9 q9 => ?_) (fun v9 h9 q9 => ?_)
  · cases q9.1
  obtain ⟨e9, u1_0, u2_0, u3_0⟩ := q9
  cases e9
  obtain ⟨G0, hG0⟩ : ∃ z, z = h9 := ⟨_, rfl⟩
  rw [← hG0] at u1_0 u2_0 u3_0 ⊢
  have k_0 : G0.1 = a + 8 := by rw [u1_0, hn]
  have m_0 : yM [a] H G0 := yM.trw hw (yM.n hw) u2_0 (fun b hb => Or.inl (by rw [List.mem_singleton] at hb; omega))
  have t_0 := u2_0.g (S5_1 (show a ≠ H.1 by omega)) ((mw_gm (by omega)).trans h_this)
  have h_this := t_0
  refine mw_putF dX1_init_12 fk_X1_12 rfl rfl h_this (Nat.le_of_ble_eq_true rfl) (fun _ => ⟨rfl, rfl⟩) ?_
  rw [show H.1 = a + 1 from hn] at u3_0
  refine mw_heap (fun H' => H'.1 = a + 8 ∧ yM [a] H H' ∧ mw_g H' a = some (.inr (1, [.ref (a + 1), .null, .null, .int 0])) ∧ isF0 H' (a + 1)) ⟨k_0, (yM.rf : yM [a] H H).tr (m_0.tr ((yF.rf.s (by simp)).M) : yM [a] H _), mw_gs.trans (by rw [hn]; rfl), isF0_M u3_0 ((yF.rf.s (by simp)).M : yM [a] G0 _) (fun z hz => by simp at hz; omega)⟩ (fun H0 q0 => ?_)
  obtain ⟨n0, M0, g0, f0_0⟩ := q0
  refine mw_wf (fun w0 => ?_)
  have h_this := g0
  refine mw_aload_n (i := 0) dX1_init_15 rfl rfl ?_
  refine mw_bipush (v := 60) dX1_init_16 (by decide) ?_
  refine mw_newI ac_int dX1_init_18 (by decide) rfl (by decide) (Nat.le_refl _) (Nat.le_refl _) ?_
  refine mw_putF dX1_init_20 fk_X1_18 rfl rfl ((mw_gm (by omega)).trans h_this) (Nat.le_of_ble_eq_true rfl) (fun _ => ⟨rfl, rfl⟩) ?_
  refine mw_heap (fun H' => H'.1 = a + 9 ∧ yM [a] H H' ∧ mw_g H' a = some (.inr (1, [.ref (a + 1), .ref (a + 8), .null, .int 0])) ∧ isF0 H' (a + 1) ∧ mw_g H' (a + 8) = some (.inl (0, (60, .inl (fun _ => 0))))) ⟨by show H0.1 + 1 = _; rw [n0], M0.tr ((yM.n w0).tr ((yF.rf.s (by simp)).M) : yM [a] H0 _), mw_gs.trans (by rw [n0]; rfl), isF0_M f0_0 (((yM.n w0).tr ((yF.rf.s (by simp)).M) : yM [a] H0 _)) (fun z hz => by simp at hz; omega), (mw_go (by omega)).trans (by rw [← n0]; exact mw_gn)⟩ (fun H1 q1 => ?_)
  obtain ⟨n1, M1, g1, f1_0, f1_1⟩ := q1
  refine mw_wf (fun w1 => ?_)
  have h_this := g1
  refine mw_aload_n (i := 0) dX1_init_23 rfl rfl ?_
  refine mw_bipush (v := 32) dX1_init_24 (by decide) ?_
  refine mw_newI ac_int dX1_init_26 (by decide) rfl (by decide) (Nat.le_refl _) (Nat.le_refl _) ?_
  refine mw_putF dX1_init_28 fk_X1_22 rfl rfl ((mw_gm (by omega)).trans h_this) (Nat.le_of_ble_eq_true rfl) (fun _ => ⟨rfl, rfl⟩) ?_
  refine mw_heap (fun H' => H'.1 = a + 10 ∧ yM [a] H H' ∧ mw_g H' a = some (.inr (1, [.ref (a + 1), .ref (a + 8), .ref (a + 9), .int 0])) ∧ isF0 H' (a + 1) ∧ mw_g H' (a + 8) = some (.inl (0, (60, .inl (fun _ => 0)))) ∧ mw_g H' (a + 9) = some (.inl (0, (32, .inl (fun _ => 0))))) ⟨by show H1.1 + 1 = _; rw [n1], M1.tr ((yM.n w1).tr ((yF.rf.s (by simp)).M) : yM [a] H1 _), mw_gs.trans (by rw [n1]; rfl), isF0_M f1_0 (((yM.n w1).tr ((yF.rf.s (by simp)).M) : yM [a] H1 _)) (fun z hz => by simp at hz; omega), (((yM.n w1).tr ((yF.rf.s (by simp)).M) : yM [a] H1 _)).g (S5_1 (by omega)) f1_1, (mw_go (by omega)).trans (by rw [← n1]; exact mw_gn)⟩ (fun H2 q2 => ?_)
  obtain ⟨n2, M2, g2, f2_0, f2_1, f2_2⟩ := q2
  refine mw_wf (fun w2 => ?_)
  have h_this := g2
  exact mw_return dX1_init_31 rfl ⟨rfl, n2, M2, ⟨0, g2⟩, f2_0, ⟨_, f2_1⟩, ⟨_, f2_2⟩⟩
theorem y_X6_init {a : Nat} (hn : H.1 = a + 1) (h_this : mw_g H a = some (.inr (6, [.null, .null, .null, .int 0, .null, .null, .null, .null, .null, .null, .null]))) : mw_Con mm_X6_init 4 41 2878 [.ref a] H (fun v H' => v = .inl none ∧ H'.1 = a + 42 ∧ yM [a] H H' ∧ mw_g H' a = some (.inr (6, [.ref (a + 1), .ref (a + 2), .ref (a + 3), .int 0, .ref (a + 5), .ref (a + 9), .ref (a + 16), .ref (a + 26), .ref (a + 36), .ref (a + 38), .ref (a + 40)])) ∧ mw_g H' (a + 1) = some (.inl (4, (6, .inr (.inr (.inr (.inr (fun _ => none))))))) ∧ mw_g H' (a + 2) = some (.inl (5, (12, .inr (.inr (.inr (.inr (fun _ => none))))))) ∧ isB H' (a + 3) (a + 4) [] ∧ isP0 H' (a + 5) ∧ isF0 H' (a + 9) ∧ isK0 H' (a + 16) ∧ isK0 H' (a + 26) ∧ isB H' (a + 36) (a + 37) [] ∧ isB H' (a + 38) (a + 39) [] ∧ isB H' (a + 40) (a + 41) []) := by
  refine gm_con pl_X6 rfl rfl (Nat.le_of_ble_eq_true rfl) rfl ?_
  refine mw_wf (fun hw => ?_)
  have hlt := (hw a _ h_this).2
  refine mw_aload_n (i := 0) dX6_init_0 rfl rfl ?_
  refine mw_obj ob_X6_1 dX6_init_1 (Nat.le_of_ble_eq_true rfl) (Nat.le_of_ble_eq_true rfl) ?_
  refine mw_aload_n (i := 0) dX6_init_4 rfl rfl ?_
  refine mw_bipush (v := 6) dX6_init_5 (by decide) ?_
  refine mw_newq ty_S nq_X6_9 dX6_init_7 (by decide) rfl (by decide) (Nat.le_refl _) (Nat.le_refl _) ?_
  refine mw_putF dX6_init_10 fk_X6_11 rfl rfl ((mw_gm (by omega)).trans h_this) (Nat.le_of_ble_eq_true rfl) (fun _ => ⟨rfl, rfl⟩) ?_
  refine mw_heap (fun H' => H'.1 = a + 2 ∧ yM [a] H H' ∧ mw_g H' a = some (.inr (6, [.ref (a + 1), .null, .null, .int 0, .null, .null, .null, .null, .null, .null, .null])) ∧ mw_g H' (a + 1) = some (.inl (4, (6, .inr (.inr (.inr (.inr (fun _ => none)))))))) ⟨by show H.1 + 1 = _; rw [hn], (yM.rf : yM [a] H H).tr ((yM.n hw).tr ((yF.rf.s (by simp)).M) : yM [a] H _), mw_gs.trans (by rw [hn]; rfl), (mw_go (by omega)).trans (by rw [← hn]; exact mw_gn)⟩ (fun H0 q0 => ?_)
  obtain ⟨n0, M0, g0, f0_0⟩ := q0
  refine mw_wf (fun w0 => ?_)
  have h_this := g0
  refine mw_aload_n (i := 0) dX6_init_13 rfl rfl ?_
  refine mw_bipush (v := 12) dX6_init_14 (by decide) ?_
  refine mw_newq ty_M nq_X6_15 dX6_init_16 (by decide) rfl (by decide) (Nat.le_refl _) (Nat.le_refl _) ?_
  refine mw_putF dX6_init_19 fk_X6_17 rfl rfl ((mw_gm (by omega)).trans h_this) (Nat.le_of_ble_eq_true rfl) (fun _ => ⟨rfl, rfl⟩) ?_
  refine mw_heap (fun H' => H'.1 = a + 3 ∧ yM [a] H H' ∧ mw_g H' a = some (.inr (6, [.ref (a + 1), .ref (a + 2), .null, .int 0, .null, .null, .null, .null, .null, .null, .null])) ∧ mw_g H' (a + 1) = some (.inl (4, (6, .inr (.inr (.inr (.inr (fun _ => none))))))) ∧ mw_g H' (a + 2) = some (.inl (5, (12, .inr (.inr (.inr (.inr (fun _ => none)))))))) ⟨by show H0.1 + 1 = _; rw [n0], M0.tr ((yM.n w0).tr ((yF.rf.s (by simp)).M) : yM [a] H0 _), mw_gs.trans (by rw [n0]; rfl), (((yM.n w0).tr ((yF.rf.s (by simp)).M) : yM [a] H0 _)).g (S5_1 (by omega)) f0_0, (mw_go (by omega)).trans (by rw [← n0]; exact mw_gn)⟩ (fun H1 q1 => ?_)
  obtain ⟨n1, M1, g1, f1_0, f1_1⟩ := q1
  refine mw_wf (fun w1 => ?_)
  have h_this := g1
  refine mw_aload_n (i := 0) dX6_init_22 rfl rfl ?_
  refine mw_new (ci := 0) rfl cf_0 nw_X6_21 df_0 (fun _ => rfl) dX6_init_23 (Nat.le_refl _) (Nat.le_refl _) ?_
  refine mw_dup dX6_init_26 rfl ?_
  refine mw_callIN dX6_init_27 mk_X6_23 (y_X0_init (a := H1.1) mw_gn) (by decide) (Nat.le_refl _) (Nat.le_refl _) rfl rfl (Nat.le_of_ble_eq_true rfl) (fun E9 h9 q9 => ?_) (fun v9 h9 q9 => ?_)
  · cases q9.1
  obtain ⟨e9, u1_2, u2_2, u3_2⟩ := q9
  cases e9
  obtain ⟨G2, hG2⟩ : ∃ z, z = h9 := ⟨_, rfl⟩
  rw [← hG2] at u1_2 u2_2 u3_2 ⊢
  have k_2 : G2.1 = a + 5 := by rw [u1_2]; show H1.1 + 1 + 1 = _; rw [n1]
  have m_2 : yM [a] H1 G2 := yM.trw w1 (yM.n w1) u2_2 (fun b hb => Or.inl (by rw [List.mem_singleton] at hb; omega))
  have t_2 := u2_2.g (S5_1 (show a ≠ H1.1 by omega)) ((mw_gm (by omega)).trans g1)
  have h_this := t_2
  refine mw_putF dX6_init_30 fk_X6_24 rfl rfl h_this (Nat.le_of_ble_eq_true rfl) (fun _ => ⟨rfl, rfl⟩) ?_
  have u3_2 : isB G2 (a + 3) (a + 4) [] := by
    have z := u3_2
    rw [show (mw_n H1 (Sum.inr (0, [Value.null, Value.int 0]))).1 = H1.1 + 1 from rfl, n1] at z
    exact z
  refine mw_heap (fun H' => H'.1 = a + 5 ∧ yM [a] H H' ∧ mw_g H' a = some (.inr (6, [.ref (a + 1), .ref (a + 2), .ref (a + 3), .int 0, .null, .null, .null, .null, .null, .null, .null])) ∧ mw_g H' (a + 1) = some (.inl (4, (6, .inr (.inr (.inr (.inr (fun _ => none))))))) ∧ mw_g H' (a + 2) = some (.inl (5, (12, .inr (.inr (.inr (.inr (fun _ => none))))))) ∧ isB H' (a + 3) (a + 4) []) ⟨k_2, M1.tr (m_2.tr ((yF.rf.s (by simp)).M) : yM [a] H1 _), mw_gs.trans (by rw [n1]; rfl), ((m_2.tr ((yF.rf.s (by simp)).M) : yM [a] H1 _)).g (S5_1 (by omega)) f1_0, ((m_2.tr ((yF.rf.s (by simp)).M) : yM [a] H1 _)).g (S5_1 (by omega)) f1_1, isB_M u3_2 ((yF.rf.s (by simp)).M : yM [a] G2 _) (S5_1 (by omega)) (S5_1 (by omega))⟩ (fun H2 q2 => ?_)
  obtain ⟨n2, M2, g2, f2_0, f2_1, f2_2⟩ := q2
  refine mw_wf (fun w2 => ?_)
  have h_this := g2
  refine mw_aload_n (i := 0) dX6_init_33 rfl rfl ?_
  refine mw_new (ci := 4) rfl cf_4 nw_X6_28 df_4 (fun _ => rfl) dX6_init_34 (Nat.le_refl _) (Nat.le_refl _) ?_
  refine mw_dup dX6_init_37 rfl ?_
  refine mw_callIN dX6_init_38 mk_X6_30 (y_X4_init (a := H2.1) rfl mw_gn) (by decide) (Nat.le_refl _) (Nat.le_refl _) rfl rfl (Nat.le_of_ble_eq_true rfl) (fun E9 h9 q9 => ?_) (fun v9 h9 q9 => ?_)
  · cases q9.1
  obtain ⟨e9, u1_3, u2_3, u3_3⟩ := q9
  cases e9
  obtain ⟨G3, hG3⟩ : ∃ z, z = h9 := ⟨_, rfl⟩
  rw [← hG3] at u1_3 u2_3 u3_3 ⊢
  have k_3 : G3.1 = a + 9 := by rw [u1_3, n2]
  have m_3 : yM [a] H2 G3 := yM.trw w2 (yM.n w2) u2_3 (fun b hb => Or.inl (by rw [List.mem_singleton] at hb; omega))
  have t_3 := u2_3.g (S5_1 (show a ≠ H2.1 by omega)) ((mw_gm (by omega)).trans g2)
  have h_this := t_3
  refine mw_putF dX6_init_41 fk_X6_31 rfl rfl h_this (Nat.le_of_ble_eq_true rfl) (fun _ => ⟨rfl, rfl⟩) ?_
  rw [show H2.1 = a + 5 from n2] at u3_3
  refine mw_heap (fun H' => H'.1 = a + 9 ∧ yM [a] H H' ∧ mw_g H' a = some (.inr (6, [.ref (a + 1), .ref (a + 2), .ref (a + 3), .int 0, .ref (a + 5), .null, .null, .null, .null, .null, .null])) ∧ mw_g H' (a + 1) = some (.inl (4, (6, .inr (.inr (.inr (.inr (fun _ => none))))))) ∧ mw_g H' (a + 2) = some (.inl (5, (12, .inr (.inr (.inr (.inr (fun _ => none))))))) ∧ isB H' (a + 3) (a + 4) [] ∧ isP0 H' (a + 5)) ⟨k_3, M2.tr (m_3.tr ((yF.rf.s (by simp)).M) : yM [a] H2 _), mw_gs.trans (by rw [n2]; rfl), ((m_3.tr ((yF.rf.s (by simp)).M) : yM [a] H2 _)).g (S5_1 (by omega)) f2_0, ((m_3.tr ((yF.rf.s (by simp)).M) : yM [a] H2 _)).g (S5_1 (by omega)) f2_1, isB_M f2_2 ((m_3.tr ((yF.rf.s (by simp)).M) : yM [a] H2 _)) (S5_1 (by omega)) (S5_1 (by omega)), isP0_M u3_3 ((yF.rf.s (by simp)).M : yM [a] G3 _) (fun z hz => by simp at hz; omega)⟩ (fun H3 q3 => ?_)
  obtain ⟨n3, M3, g3, f3_0, f3_1, f3_2, f3_3⟩ := q3
  refine mw_wf (fun w3 => ?_)
  have h_this := g3
  refine mw_aload_n (i := 0) dX6_init_44 rfl rfl ?_
  refine mw_new (ci := 2) rfl cf_2 nw_X6_35 df_2 (fun _ => rfl) dX6_init_45 (Nat.le_refl _) (Nat.le_refl _) ?_
  refine mw_dup dX6_init_48 rfl ?_
  refine mw_callIN dX6_init_49 mk_X6_37 (y_X2_init (a := H3.1) rfl mw_gn) (by decide) (Nat.le_refl _) (Nat.le_refl _) rfl rfl (Nat.le_of_ble_eq_true rfl) (fun E9 h9 q9 => ?_) (fun v9 h9 q9 => ?_)
  · cases q9.1
  obtain ⟨e9, u1_4, u2_4, u3_4⟩ := q9
  cases e9
  obtain ⟨G4, hG4⟩ : ∃ z, z = h9 := ⟨_, rfl⟩
  rw [← hG4] at u1_4 u2_4 u3_4 ⊢
  have k_4 : G4.1 = a + 16 := by rw [u1_4, n3]
  have m_4 : yM [a] H3 G4 := yM.trw w3 (yM.n w3) u2_4 (fun b hb => Or.inl (by rw [List.mem_singleton] at hb; omega))
  have t_4 := u2_4.g (S5_1 (show a ≠ H3.1 by omega)) ((mw_gm (by omega)).trans g3)
  have h_this := t_4
  refine mw_putF dX6_init_52 fk_X6_38 rfl rfl h_this (Nat.le_of_ble_eq_true rfl) (fun _ => ⟨rfl, rfl⟩) ?_
  rw [show H3.1 = a + 9 from n3] at u3_4
  refine mw_heap (fun H' => H'.1 = a + 16 ∧ yM [a] H H' ∧ mw_g H' a = some (.inr (6, [.ref (a + 1), .ref (a + 2), .ref (a + 3), .int 0, .ref (a + 5), .ref (a + 9), .null, .null, .null, .null, .null])) ∧ mw_g H' (a + 1) = some (.inl (4, (6, .inr (.inr (.inr (.inr (fun _ => none))))))) ∧ mw_g H' (a + 2) = some (.inl (5, (12, .inr (.inr (.inr (.inr (fun _ => none))))))) ∧ isB H' (a + 3) (a + 4) [] ∧ isP0 H' (a + 5) ∧ isF0 H' (a + 9)) ⟨k_4, M3.tr (m_4.tr ((yF.rf.s (by simp)).M) : yM [a] H3 _), mw_gs.trans (by rw [n3]; rfl), ((m_4.tr ((yF.rf.s (by simp)).M) : yM [a] H3 _)).g (S5_1 (by omega)) f3_0, ((m_4.tr ((yF.rf.s (by simp)).M) : yM [a] H3 _)).g (S5_1 (by omega)) f3_1, isB_M f3_2 ((m_4.tr ((yF.rf.s (by simp)).M) : yM [a] H3 _)) (S5_1 (by omega)) (S5_1 (by omega)), isP0_M f3_3 ((m_4.tr ((yF.rf.s (by simp)).M) : yM [a] H3 _)) (fun z hz => by simp at hz; omega), isF0_M u3_4 ((yF.rf.s (by simp)).M : yM [a] G4 _) (fun z hz => by simp at hz; omega)⟩ (fun H4 q4 => ?_)
  obtain ⟨n4, M4, g4, f4_0, f4_1, f4_2, f4_3, f4_4⟩ := q4
  refine mw_wf (fun w4 => ?_)
  have h_this := g4
  refine mw_aload_n (i := 0) dX6_init_55 rfl rfl ?_
  refine mw_new (ci := 1) rfl cf_1 nw_X6_42 df_1 (fun _ => rfl) dX6_init_56 (Nat.le_refl _) (Nat.le_refl _) ?_
  refine mw_dup dX6_init_59 rfl ?_
  refine mw_callIN dX6_init_60 mk_X6_44 (y_X1_init (a := H4.1) rfl mw_gn) (by decide) (Nat.le_refl _) (Nat.le_refl _) rfl rfl (Nat.le_of_ble_eq_true rfl) (fun E9 h9 q9 => ?_) (fun v9 h9 q9 => ?_)
  · cases q9.1
  obtain ⟨e9, u1_5, u2_5, u3_5⟩ := q9
  cases e9
  obtain ⟨G5, hG5⟩ : ∃ z, z = h9 := ⟨_, rfl⟩
  rw [← hG5] at u1_5 u2_5 u3_5 ⊢
  have k_5 : G5.1 = a + 26 := by rw [u1_5, n4]
  have m_5 : yM [a] H4 G5 := yM.trw w4 (yM.n w4) u2_5 (fun b hb => Or.inl (by rw [List.mem_singleton] at hb; omega))
  have t_5 := u2_5.g (S5_1 (show a ≠ H4.1 by omega)) ((mw_gm (by omega)).trans g4)
  have h_this := t_5
  refine mw_putF dX6_init_63 fk_X6_45 rfl rfl h_this (Nat.le_of_ble_eq_true rfl) (fun _ => ⟨rfl, rfl⟩) ?_
  rw [show H4.1 = a + 16 from n4] at u3_5
  refine mw_heap (fun H' => H'.1 = a + 26 ∧ yM [a] H H' ∧ mw_g H' a = some (.inr (6, [.ref (a + 1), .ref (a + 2), .ref (a + 3), .int 0, .ref (a + 5), .ref (a + 9), .ref (a + 16), .null, .null, .null, .null])) ∧ mw_g H' (a + 1) = some (.inl (4, (6, .inr (.inr (.inr (.inr (fun _ => none))))))) ∧ mw_g H' (a + 2) = some (.inl (5, (12, .inr (.inr (.inr (.inr (fun _ => none))))))) ∧ isB H' (a + 3) (a + 4) [] ∧ isP0 H' (a + 5) ∧ isF0 H' (a + 9) ∧ isK0 H' (a + 16)) ⟨k_5, M4.tr (m_5.tr ((yF.rf.s (by simp)).M) : yM [a] H4 _), mw_gs.trans (by rw [n4]; rfl), ((m_5.tr ((yF.rf.s (by simp)).M) : yM [a] H4 _)).g (S5_1 (by omega)) f4_0, ((m_5.tr ((yF.rf.s (by simp)).M) : yM [a] H4 _)).g (S5_1 (by omega)) f4_1, isB_M f4_2 ((m_5.tr ((yF.rf.s (by simp)).M) : yM [a] H4 _)) (S5_1 (by omega)) (S5_1 (by omega)), isP0_M f4_3 ((m_5.tr ((yF.rf.s (by simp)).M) : yM [a] H4 _)) (fun z hz => by simp at hz; omega), isF0_M f4_4 ((m_5.tr ((yF.rf.s (by simp)).M) : yM [a] H4 _)) (fun z hz => by simp at hz; omega), isK0_M u3_5 ((yF.rf.s (by simp)).M : yM [a] G5 _) (fun z hz => by simp at hz; omega)⟩ (fun H5 q5 => ?_)
  obtain ⟨n5, M5, g5, f5_0, f5_1, f5_2, f5_3, f5_4, f5_5⟩ := q5
  refine mw_wf (fun w5 => ?_)
  have h_this := g5
  refine mw_aload_n (i := 0) dX6_init_66 rfl rfl ?_
  refine mw_new (ci := 1) rfl cf_1 nw_X6_42 df_1 (fun _ => rfl) dX6_init_67 (Nat.le_refl _) (Nat.le_refl _) ?_
  refine mw_dup dX6_init_70 rfl ?_
  refine mw_callIN dX6_init_71 mk_X6_44 (y_X1_init (a := H5.1) rfl mw_gn) (by decide) (Nat.le_refl _) (Nat.le_refl _) rfl rfl (Nat.le_of_ble_eq_true rfl) (fun E9 h9 q9 => ?_) (fun v9 h9 q9 => ?_)
  · cases q9.1
  obtain ⟨e9, u1_6, u2_6, u3_6⟩ := q9
  cases e9
  obtain ⟨G6, hG6⟩ : ∃ z, z = h9 := ⟨_, rfl⟩
  rw [← hG6] at u1_6 u2_6 u3_6 ⊢
  have k_6 : G6.1 = a + 36 := by rw [u1_6, n5]
  have m_6 : yM [a] H5 G6 := yM.trw w5 (yM.n w5) u2_6 (fun b hb => Or.inl (by rw [List.mem_singleton] at hb; omega))
  have t_6 := u2_6.g (S5_1 (show a ≠ H5.1 by omega)) ((mw_gm (by omega)).trans g5)
  have h_this := t_6
  refine mw_putF dX6_init_74 fk_X6_49 rfl rfl h_this (Nat.le_of_ble_eq_true rfl) (fun _ => ⟨rfl, rfl⟩) ?_
  rw [show H5.1 = a + 26 from n5] at u3_6
  refine mw_heap (fun H' => H'.1 = a + 36 ∧ yM [a] H H' ∧ mw_g H' a = some (.inr (6, [.ref (a + 1), .ref (a + 2), .ref (a + 3), .int 0, .ref (a + 5), .ref (a + 9), .ref (a + 16), .ref (a + 26), .null, .null, .null])) ∧ mw_g H' (a + 1) = some (.inl (4, (6, .inr (.inr (.inr (.inr (fun _ => none))))))) ∧ mw_g H' (a + 2) = some (.inl (5, (12, .inr (.inr (.inr (.inr (fun _ => none))))))) ∧ isB H' (a + 3) (a + 4) [] ∧ isP0 H' (a + 5) ∧ isF0 H' (a + 9) ∧ isK0 H' (a + 16) ∧ isK0 H' (a + 26)) ⟨k_6, M5.tr (m_6.tr ((yF.rf.s (by simp)).M) : yM [a] H5 _), mw_gs.trans (by rw [n5]; rfl), ((m_6.tr ((yF.rf.s (by simp)).M) : yM [a] H5 _)).g (S5_1 (by omega)) f5_0, ((m_6.tr ((yF.rf.s (by simp)).M) : yM [a] H5 _)).g (S5_1 (by omega)) f5_1, isB_M f5_2 ((m_6.tr ((yF.rf.s (by simp)).M) : yM [a] H5 _)) (S5_1 (by omega)) (S5_1 (by omega)), isP0_M f5_3 ((m_6.tr ((yF.rf.s (by simp)).M) : yM [a] H5 _)) (fun z hz => by simp at hz; omega), isF0_M f5_4 ((m_6.tr ((yF.rf.s (by simp)).M) : yM [a] H5 _)) (fun z hz => by simp at hz; omega), isK0_M f5_5 ((m_6.tr ((yF.rf.s (by simp)).M) : yM [a] H5 _)) (fun z hz => by simp at hz; omega), isK0_M u3_6 ((yF.rf.s (by simp)).M : yM [a] G6 _) (fun z hz => by simp at hz; omega)⟩ (fun H6 q6 => ?_)
  obtain ⟨n6, M6, g6, f6_0, f6_1, f6_2, f6_3, f6_4, f6_5, f6_6⟩ := q6
  refine mw_wf (fun w6 => ?_)
  have h_this := g6
  refine mw_aload_n (i := 0) dX6_init_77 rfl rfl ?_
  refine mw_new (ci := 0) rfl cf_0 nw_X6_21 df_0 (fun _ => rfl) dX6_init_78 (Nat.le_refl _) (Nat.le_refl _) ?_
  refine mw_dup dX6_init_81 rfl ?_
  refine mw_callIN dX6_init_82 mk_X6_23 (y_X0_init (a := H6.1) mw_gn) (by decide) (Nat.le_refl _) (Nat.le_refl _) rfl rfl (Nat.le_of_ble_eq_true rfl) (fun E9 h9 q9 => ?_) (fun v9 h9 q9 => ?_)
  · cases q9.1
  obtain ⟨e9, u1_7, u2_7, u3_7⟩ := q9
  cases e9
  obtain ⟨G7, hG7⟩ : ∃ z, z = h9 := ⟨_, rfl⟩
  rw [← hG7] at u1_7 u2_7 u3_7 ⊢
  have k_7 : G7.1 = a + 38 := by rw [u1_7]; show H6.1 + 1 + 1 = _; rw [n6]
  have m_7 : yM [a] H6 G7 := yM.trw w6 (yM.n w6) u2_7 (fun b hb => Or.inl (by rw [List.mem_singleton] at hb; omega))
  have t_7 := u2_7.g (S5_1 (show a ≠ H6.1 by omega)) ((mw_gm (by omega)).trans g6)
  have h_this := t_7
  refine mw_putF dX6_init_85 fk_X6_52 rfl rfl h_this (Nat.le_of_ble_eq_true rfl) (fun _ => ⟨rfl, rfl⟩) ?_
  have u3_7 : isB G7 (a + 36) (a + 37) [] := by
    have z := u3_7
    rw [show (mw_n H6 (Sum.inr (0, [Value.null, Value.int 0]))).1 = H6.1 + 1 from rfl, n6] at z
    exact z
  refine mw_heap (fun H' => H'.1 = a + 38 ∧ yM [a] H H' ∧ mw_g H' a = some (.inr (6, [.ref (a + 1), .ref (a + 2), .ref (a + 3), .int 0, .ref (a + 5), .ref (a + 9), .ref (a + 16), .ref (a + 26), .ref (a + 36), .null, .null])) ∧ mw_g H' (a + 1) = some (.inl (4, (6, .inr (.inr (.inr (.inr (fun _ => none))))))) ∧ mw_g H' (a + 2) = some (.inl (5, (12, .inr (.inr (.inr (.inr (fun _ => none))))))) ∧ isB H' (a + 3) (a + 4) [] ∧ isP0 H' (a + 5) ∧ isF0 H' (a + 9) ∧ isK0 H' (a + 16) ∧ isK0 H' (a + 26) ∧ isB H' (a + 36) (a + 37) []) ⟨k_7, M6.tr (m_7.tr ((yF.rf.s (by simp)).M) : yM [a] H6 _), mw_gs.trans (by rw [n6]; rfl), ((m_7.tr ((yF.rf.s (by simp)).M) : yM [a] H6 _)).g (S5_1 (by omega)) f6_0, ((m_7.tr ((yF.rf.s (by simp)).M) : yM [a] H6 _)).g (S5_1 (by omega)) f6_1, isB_M f6_2 ((m_7.tr ((yF.rf.s (by simp)).M) : yM [a] H6 _)) (S5_1 (by omega)) (S5_1 (by omega)), isP0_M f6_3 ((m_7.tr ((yF.rf.s (by simp)).M) : yM [a] H6 _)) (fun z hz => by simp at hz; omega), isF0_M f6_4 ((m_7.tr ((yF.rf.s (by simp)).M) : yM [a] H6 _)) (fun z hz => by simp at hz; omega), isK0_M f6_5 ((m_7.tr ((yF.rf.s (by simp)).M) : yM [a] H6 _)) (fun z hz => by simp at hz; omega), isK0_M f6_6 ((m_7.tr ((yF.rf.s (by simp)).M) : yM [a] H6 _)) (fun z hz => by simp at hz; omega), isB_M u3_7 ((yF.rf.s (by simp)).M : yM [a] G7 _) (S5_1 (by omega)) (S5_1 (by omega))⟩ (fun H7 q7 => ?_)
  obtain ⟨n7, M7, g7, f7_0, f7_1, f7_2, f7_3, f7_4, f7_5, f7_6, f7_7⟩ := q7
  refine mw_wf (fun w7 => ?_)
  have h_this := g7
  refine mw_aload_n (i := 0) dX6_init_88 rfl rfl ?_
  refine mw_new (ci := 0) rfl cf_0 nw_X6_21 df_0 (fun _ => rfl) dX6_init_89 (Nat.le_refl _) (Nat.le_refl _) ?_
  refine mw_dup dX6_init_92 rfl ?_
  refine mw_callIN dX6_init_93 mk_X6_23 (y_X0_init (a := H7.1) mw_gn) (by decide) (Nat.le_refl _) (Nat.le_refl _) rfl rfl (Nat.le_of_ble_eq_true rfl) (fun E9 h9 q9 => ?_) (fun v9 h9 q9 => ?_)
  · cases q9.1
  obtain ⟨e9, u1_8, u2_8, u3_8⟩ := q9
  cases e9
  obtain ⟨G8, hG8⟩ : ∃ z, z = h9 := ⟨_, rfl⟩
  rw [← hG8] at u1_8 u2_8 u3_8 ⊢
  have k_8 : G8.1 = a + 40 := by rw [u1_8]; show H7.1 + 1 + 1 = _; rw [n7]
  have m_8 : yM [a] H7 G8 := yM.trw w7 (yM.n w7) u2_8 (fun b hb => Or.inl (by rw [List.mem_singleton] at hb; omega))
  have t_8 := u2_8.g (S5_1 (show a ≠ H7.1 by omega)) ((mw_gm (by omega)).trans g7)
  have h_this := t_8
  refine mw_putF dX6_init_96 fk_X6_55 rfl rfl h_this (Nat.le_of_ble_eq_true rfl) (fun _ => ⟨rfl, rfl⟩) ?_
  have u3_8 : isB G8 (a + 38) (a + 39) [] := by
    have z := u3_8
    rw [show (mw_n H7 (Sum.inr (0, [Value.null, Value.int 0]))).1 = H7.1 + 1 from rfl, n7] at z
    exact z
  refine mw_heap (fun H' => H'.1 = a + 40 ∧ yM [a] H H' ∧ mw_g H' a = some (.inr (6, [.ref (a + 1), .ref (a + 2), .ref (a + 3), .int 0, .ref (a + 5), .ref (a + 9), .ref (a + 16), .ref (a + 26), .ref (a + 36), .ref (a + 38), .null])) ∧ mw_g H' (a + 1) = some (.inl (4, (6, .inr (.inr (.inr (.inr (fun _ => none))))))) ∧ mw_g H' (a + 2) = some (.inl (5, (12, .inr (.inr (.inr (.inr (fun _ => none))))))) ∧ isB H' (a + 3) (a + 4) [] ∧ isP0 H' (a + 5) ∧ isF0 H' (a + 9) ∧ isK0 H' (a + 16) ∧ isK0 H' (a + 26) ∧ isB H' (a + 36) (a + 37) [] ∧ isB H' (a + 38) (a + 39) []) ⟨k_8, M7.tr (m_8.tr ((yF.rf.s (by simp)).M) : yM [a] H7 _), mw_gs.trans (by rw [n7]; rfl), ((m_8.tr ((yF.rf.s (by simp)).M) : yM [a] H7 _)).g (S5_1 (by omega)) f7_0, ((m_8.tr ((yF.rf.s (by simp)).M) : yM [a] H7 _)).g (S5_1 (by omega)) f7_1, isB_M f7_2 ((m_8.tr ((yF.rf.s (by simp)).M) : yM [a] H7 _)) (S5_1 (by omega)) (S5_1 (by omega)), isP0_M f7_3 ((m_8.tr ((yF.rf.s (by simp)).M) : yM [a] H7 _)) (fun z hz => by simp at hz; omega), isF0_M f7_4 ((m_8.tr ((yF.rf.s (by simp)).M) : yM [a] H7 _)) (fun z hz => by simp at hz; omega), isK0_M f7_5 ((m_8.tr ((yF.rf.s (by simp)).M) : yM [a] H7 _)) (fun z hz => by simp at hz; omega), isK0_M f7_6 ((m_8.tr ((yF.rf.s (by simp)).M) : yM [a] H7 _)) (fun z hz => by simp at hz; omega), isB_M f7_7 ((m_8.tr ((yF.rf.s (by simp)).M) : yM [a] H7 _)) (S5_1 (by omega)) (S5_1 (by omega)), isB_M u3_8 ((yF.rf.s (by simp)).M : yM [a] G8 _) (S5_1 (by omega)) (S5_1 (by omega))⟩ (fun H8 q8 => ?_)
  obtain ⟨n8, M8, g8, f8_0, f8_1, f8_2, f8_3, f8_4, f8_5, f8_6, f8_7, f8_8⟩ := q8
  refine mw_wf (fun w8 => ?_)
  have h_this := g8
  refine mw_aload_n (i := 0) dX6_init_99 rfl rfl ?_
  refine mw_new (ci := 0) rfl cf_0 nw_X6_21 df_0 (fun _ => rfl) dX6_init_100 (Nat.le_refl _) (Nat.le_refl _) ?_
  refine mw_dup dX6_init_103 rfl ?_
  refine mw_callIN dX6_init_104 mk_X6_23 (y_X0_init (a := H8.1) mw_gn) (by decide) (Nat.le_refl _) (Nat.le_refl _) rfl rfl (Nat.le_of_ble_eq_true rfl) (fun E9 h9 q9 => ?_) (fun v9 h9 q9 => ?_)
  · cases q9.1
  obtain ⟨e9, u1_9, u2_9, u3_9⟩ := q9
  cases e9
  obtain ⟨G9, hG9⟩ : ∃ z, z = h9 := ⟨_, rfl⟩
  rw [← hG9] at u1_9 u2_9 u3_9 ⊢
  have k_9 : G9.1 = a + 42 := by rw [u1_9]; show H8.1 + 1 + 1 = _; rw [n8]
  have m_9 : yM [a] H8 G9 := yM.trw w8 (yM.n w8) u2_9 (fun b hb => Or.inl (by rw [List.mem_singleton] at hb; omega))
  have t_9 := u2_9.g (S5_1 (show a ≠ H8.1 by omega)) ((mw_gm (by omega)).trans g8)
  have h_this := t_9
  refine mw_putF dX6_init_107 fk_X6_58 rfl rfl h_this (Nat.le_of_ble_eq_true rfl) (fun _ => ⟨rfl, rfl⟩) ?_
  have u3_9 : isB G9 (a + 40) (a + 41) [] := by
    have z := u3_9
    rw [show (mw_n H8 (Sum.inr (0, [Value.null, Value.int 0]))).1 = H8.1 + 1 from rfl, n8] at z
    exact z
  refine mw_heap (fun H' => H'.1 = a + 42 ∧ yM [a] H H' ∧ mw_g H' a = some (.inr (6, [.ref (a + 1), .ref (a + 2), .ref (a + 3), .int 0, .ref (a + 5), .ref (a + 9), .ref (a + 16), .ref (a + 26), .ref (a + 36), .ref (a + 38), .ref (a + 40)])) ∧ mw_g H' (a + 1) = some (.inl (4, (6, .inr (.inr (.inr (.inr (fun _ => none))))))) ∧ mw_g H' (a + 2) = some (.inl (5, (12, .inr (.inr (.inr (.inr (fun _ => none))))))) ∧ isB H' (a + 3) (a + 4) [] ∧ isP0 H' (a + 5) ∧ isF0 H' (a + 9) ∧ isK0 H' (a + 16) ∧ isK0 H' (a + 26) ∧ isB H' (a + 36) (a + 37) [] ∧ isB H' (a + 38) (a + 39) [] ∧ isB H' (a + 40) (a + 41) []) ⟨k_9, M8.tr (m_9.tr ((yF.rf.s (by simp)).M) : yM [a] H8 _), mw_gs.trans (by rw [n8]; rfl), ((m_9.tr ((yF.rf.s (by simp)).M) : yM [a] H8 _)).g (S5_1 (by omega)) f8_0, ((m_9.tr ((yF.rf.s (by simp)).M) : yM [a] H8 _)).g (S5_1 (by omega)) f8_1, isB_M f8_2 ((m_9.tr ((yF.rf.s (by simp)).M) : yM [a] H8 _)) (S5_1 (by omega)) (S5_1 (by omega)), isP0_M f8_3 ((m_9.tr ((yF.rf.s (by simp)).M) : yM [a] H8 _)) (fun z hz => by simp at hz; omega), isF0_M f8_4 ((m_9.tr ((yF.rf.s (by simp)).M) : yM [a] H8 _)) (fun z hz => by simp at hz; omega), isK0_M f8_5 ((m_9.tr ((yF.rf.s (by simp)).M) : yM [a] H8 _)) (fun z hz => by simp at hz; omega), isK0_M f8_6 ((m_9.tr ((yF.rf.s (by simp)).M) : yM [a] H8 _)) (fun z hz => by simp at hz; omega), isB_M f8_7 ((m_9.tr ((yF.rf.s (by simp)).M) : yM [a] H8 _)) (S5_1 (by omega)) (S5_1 (by omega)), isB_M f8_8 ((m_9.tr ((yF.rf.s (by simp)).M) : yM [a] H8 _)) (S5_1 (by omega)) (S5_1 (by omega)), isB_M u3_9 ((yF.rf.s (by simp)).M : yM [a] G9 _) (S5_1 (by omega)) (S5_1 (by omega))⟩ (fun H9 q9 => ?_)
  obtain ⟨n9, M9, g9, f9_0, f9_1, f9_2, f9_3, f9_4, f9_5, f9_6, f9_7, f9_8, f9_9⟩ := q9
  refine mw_wf (fun w9 => ?_)
  have h_this := g9
  exact mw_return dX6_init_110 rfl ⟨rfl, n9, M9, g9, f9_0, f9_1, f9_2, f9_3, f9_4, f9_5, f9_6, f9_7, f9_8, f9_9⟩
end CT
