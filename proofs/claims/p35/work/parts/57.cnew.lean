/-! the class side: what is made (class side) -/
theorem df_0 : ∀ j, j < 2 → defaultValue (tyX0 j) = vp_V [.null, .int 0] j := fun j hj => by
  have h : j = 0 ∨ j = 1 := by omega
  rcases h with rfl | rfl <;> rfl
theorem df_1 : ∀ j, j < 4 → defaultValue (tyX1 j) = vp_V [.null, .null, .null, .int 0] j := fun j hj => by
  have h : j = 0 ∨ j = 1 ∨ j = 2 ∨ j = 3 := by omega
  rcases h with rfl | rfl | rfl | rfl <;> rfl
theorem df_2 : ∀ j, j < 10 → defaultValue (tyX2 j) = vp_V [.null, .null, .null, .null, .int 0, .null, .int 0, .int 0, .int 0, .int 0] j := fun j hj => by
  have h : j = 0 ∨ j = 1 ∨ j = 2 ∨ j = 3 ∨ j = 4 ∨ j = 5 ∨ j = 6 ∨ j = 7 ∨ j = 8 ∨ j = 9 := by omega
  rcases h with rfl | rfl | rfl | rfl | rfl | rfl | rfl | rfl | rfl | rfl <;> rfl
theorem df_3 : ∀ j, j < 2 → defaultValue (tyX3 j) = vp_V [.null, .null] j := fun j hj => by
  have h : j = 0 ∨ j = 1 := by omega
  rcases h with rfl | rfl <;> rfl
theorem df_4 : ∀ j, j < 4 → defaultValue (tyX4 j) = vp_V [.null, .null, .null, .int 0] j := fun j hj => by
  have h : j = 0 ∨ j = 1 ∨ j = 2 ∨ j = 3 := by omega
  rcases h with rfl | rfl | rfl | rfl <;> rfl
theorem df_5 : ∀ j, j < 5 → defaultValue (tyX5 j) = vp_V [.int 0, .null, .null, .null, .null] j := fun j hj => by
  have h : j = 0 ∨ j = 1 ∨ j = 2 ∨ j = 3 ∨ j = 4 := by omega
  rcases h with rfl | rfl | rfl | rfl | rfl <;> rfl
theorem df_6 : ∀ j, j < 11 → defaultValue (tyX6 j) = vp_V [.null, .null, .null, .int 0, .null, .null, .null, .null, .null, .null, .null] j := fun j hj => by
  have h : j = 0 ∨ j = 1 ∨ j = 2 ∨ j = 3 ∨ j = 4 ∨ j = 5 ∨ j = 6 ∨ j = 7 ∨ j = 8 ∨ j = 9 ∨ j = 10 := by omega
  rcases h with rfl | rfl | rfl | rfl | rfl | rfl | rfl | rfl | rfl | rfl | rfl <;> rfl
theorem pl_X3 : plainName RX3 = true := by decide +kernel
theorem yM.trw {S S' : List Nat} {H H1 H2 : mw_H} (hw : wfH H) (h : yM S H H1) (h' : yM S' H1 H2) (hs : ∀ b, b ∈ S' → H.1 ≤ b ∨ b ∈ S) : yM S H H2 := ⟨Nat.le_trans h.1 h'.1, h'.2.1.trans h.2.1, fun b x hb hx => h'.2.2 b x (fun z => by
  have h1 := (hw b x hx).2
  rcases hs b z with h2 | h2
  · omega
  · exact hb h2) (h.2.2 b x hb hx)⟩
section CN
variable {g : mS} {H : mw_H} {sa ma : Nat → Nat}
theorem y_X0_init {a : Nat} (h_this : mw_g H a = some (.inr (0, [.null, .int 0]))) : mw_Con mm_X0_init 1 1 256 [.ref a] H (fun v H' => v = .inl none ∧ H'.1 = H.1 + 1 ∧ yM [a] H H' ∧ isB H' a H.1 []) := by
  refine gm_con pl_X0 rfl rfl (Nat.le_of_ble_eq_true rfl) rfl ?_
  refine mw_wf (fun hw => ?_)
  have hlt := (hw a _ h_this).2
  refine mw_aload_n (i := 0) dX0_init_0 rfl rfl ?_
  refine mw_obj ob_X0_3 dX0_init_1 (Nat.le_of_ble_eq_true rfl) (Nat.le_of_ble_eq_true rfl) ?_
  refine mw_aload_n (i := 0) dX0_init_4 rfl rfl ?_
  refine mw_sipush (v := 256) dX0_init_5 (by decide) ?_
  refine mw_newB ac_byte dX0_init_8 (by decide) rfl (by decide) (Nat.le_refl _) (Nat.le_refl _) ?_
  refine mw_putF dX0_init_10 fk_X0_9 rfl rfl ((mw_gm (by omega)).trans h_this) (Nat.le_of_ble_eq_true rfl) (fun _ => ⟨rfl, rfl⟩) ?_
  refine mw_return dX0_init_13 rfl ⟨rfl, rfl, (yM.n hw).tr ((yF.rf.s (by simp)).M), mw_gs, Nat.zero_le _, fun z hz => absurd hz List.not_mem_nil, _, (mw_go (by omega)).trans mw_gn, fun j hj => absurd hj (Nat.not_lt_zero _)⟩
theorem y_X3_init {a sc : Nat} (h_this : mw_g H a = some (.inr (3, [.null, .null]))) : mw_Con mm_X3_init 2 2 258 [.ref a, .ref sc] H (fun v H' => v = .inl none ∧ H'.1 = H.1 + 2 ∧ yM [a] H H' ∧ mw_g H' a = some (.inr (3, [.ref sc, .ref H.1])) ∧ isB H' H.1 (H.1 + 1) []) := by
  refine gm_con pl_X3 rfl rfl (Nat.le_of_ble_eq_true rfl) rfl ?_
  refine mw_wf (fun hw => ?_)
  have hlt := (hw a _ h_this).2
  refine mw_aload_n (i := 0) dX3_init_0 rfl rfl ?_
  refine mw_obj ob_X3_1 dX3_init_1 (Nat.le_of_ble_eq_true rfl) (Nat.le_of_ble_eq_true rfl) ?_
  refine mw_aload_n (i := 0) dX3_init_4 rfl rfl ?_
  refine mw_new (ci := 0) rfl cf_0 nw_X3_7 df_0 (fun _ => rfl) dX3_init_5 (Nat.le_refl _) (Nat.le_refl _) ?_
  refine mw_dup dX3_init_8 rfl ?_
  refine mw_callIN dX3_init_9 mk_X3_9 (y_X0_init (a := H.1) mw_gn) (by decide) (Nat.le_refl _) (Nat.le_refl _) rfl rfl (Nat.le_of_ble_eq_true rfl) (fun E9 h9 q9 => ?_) (fun v9 h9 q9 => ?_)
  · cases q9.1
  obtain ⟨e9, u1, u2, u3⟩ := q9
  cases e9
  have h_this := u2.g (S5_1 (show a ≠ H.1 by omega)) ((mw_gm (by omega)).trans h_this)
  have u1 : h9.1 = H.1 + 1 + 1 := u1
  refine mw_putF dX3_init_12 fk_X3_10 rfl rfl h_this (Nat.le_of_ble_eq_true rfl) (fun _ => ⟨rfl, rfl⟩) ?_
  refine mw_aload_n (i := 0) dX3_init_15 rfl rfl ?_
  refine mw_aload_n (i := 1) dX3_init_16 rfl rfl ?_
  refine mw_putF dX3_init_17 fk_X3_16 rfl rfl mw_gs (Nat.le_of_ble_eq_true rfl) (fun _ => ⟨rfl, rfl⟩) ?_
  have hF : yF [a] h9 (mw_s (mw_s h9 a (.inr (3, [.null, .ref H.1]))) a (.inr (3, [.ref sc, .ref H.1]))) := (yF.rf.s (by simp)).s (by simp)
  have hM : yM [a] H h9 := yM.trw hw (yM.n hw) u2 (fun b hb => Or.inl (by rw [List.mem_singleton] at hb; omega))
  exact mw_return dX3_init_20 rfl ⟨rfl, u1, hM.tr hF.M, mw_gs, isB_F u3 hF (S5_1 (by omega)) (S5_1 (by omega))⟩
theorem y_X5_init {a : Nat} {n : Int32} (h_this : mw_g H a = some (.inr (5, [.int 0, .null, .null, .null, .null]))) : mw_Con mm_X5_init 1 4 128 [.ref a, .int n] H (fun v H' => v = .inl none ∧ H'.1 = H.1 + 4 ∧ yM [a] H H' ∧ mw_g H' a = some (.inr (5, [.int n, .ref H.1, .ref (H.1 + 1), .ref (H.1 + 2), .ref (H.1 + 3)])) ∧ (∃ f, mw_g H' H.1 = some (.inl (0, (32, .inl f))) ∧ ∀ j, j < 32 → f j = -1) ∧ (∃ f, mw_g H' (H.1 + 1) = some (.inl (0, (32, .inl f))) ∧ ∀ j, j < 32 → f j = -1) ∧ (∃ f, mw_g H' (H.1 + 2) = some (.inl (0, (32, .inl f)))) ∧ mw_g H' (H.1 + 3) = some (.inl (4, (32, .inr (.inr (.inr (.inr (fun _ => none)))))))) := by
  refine gm_con pl_X5 rfl rfl (Nat.le_of_ble_eq_true rfl) rfl ?_
  refine mw_wf (fun hw => ?_)
  have hlt := (hw a _ h_this).2
  refine mw_aload_n (i := 0) dX5_init_0 rfl rfl ?_
  refine mw_obj ob_X5_3 dX5_init_1 (Nat.le_of_ble_eq_true rfl) (Nat.le_of_ble_eq_true rfl) ?_
  refine mw_aload_n (i := 0) dX5_init_4 rfl rfl ?_
  refine mw_bipush (v := 32) dX5_init_5 (by decide) ?_
  refine mw_newI ac_int dX5_init_7 (by decide) rfl (by decide) (Nat.le_refl _) (Nat.le_refl _) ?_
  refine mw_putF dX5_init_9 fk_X5_9 rfl rfl ((mw_gm (by omega)).trans h_this) (Nat.le_of_ble_eq_true rfl) (fun _ => ⟨rfl, rfl⟩) ?_
  refine mw_heap (fun H' => H'.1 = H.1 + 1 ∧ yM [a] H H' ∧ mw_g H' a = some (.inr (5, [.int 0, .ref H.1, .null, .null, .null])) ∧ mw_g H' H.1 = some (.inl (0, (32, .inl (fun _ => 0))))) ⟨rfl, (yM.n hw).tr ((yF.rf.s (by simp)).M), mw_gs, (mw_go (by omega)).trans mw_gn⟩ (fun H1 q1 => ?_)
  obtain ⟨a1, a2, a3, a4⟩ := q1
  refine mw_wf (fun hw1 => ?_)
  have h_this := a3
  refine mw_aload_n (i := 0) dX5_init_12 rfl rfl ?_
  refine mw_bipush (v := 32) dX5_init_13 (by decide) ?_
  refine mw_newI ac_int dX5_init_15 (by decide) rfl (by decide) (Nat.le_refl _) (Nat.le_refl _) ?_
  refine mw_putF dX5_init_17 fk_X5_15 rfl rfl ((mw_gm (by omega)).trans h_this) (Nat.le_of_ble_eq_true rfl) (fun _ => ⟨rfl, rfl⟩) ?_
  refine mw_heap (fun H' => H'.1 = H.1 + 2 ∧ yM [a] H H' ∧ mw_g H' a = some (.inr (5, [.int 0, .ref H.1, .ref (H.1 + 1), .null, .null])) ∧ mw_g H' H.1 = some (.inl (0, (32, .inl (fun _ => 0)))) ∧ mw_g H' (H.1 + 1) = some (.inl (0, (32, .inl (fun _ => 0))))) ⟨by show H1.1 + 1 = _; rw [a1], a2.tr ((yM.n hw1).tr ((yF.rf.s (by simp)).M)), mw_gs.trans (by rw [a1]; rfl), (mw_go (by omega)).trans ((mw_gm (by omega)).trans a4), (mw_go (by omega)).trans (by rw [← a1]; exact mw_gn)⟩ (fun H2 q2 => ?_)
  clear a1 a2 a3 a4 hw1
  obtain ⟨a1, a2, a3, a4, a5⟩ := q2
  refine mw_wf (fun hw1 => ?_)
  have h_this := a3
  refine mw_aload_n (i := 0) dX5_init_20 rfl rfl ?_
  refine mw_bipush (v := 32) dX5_init_21 (by decide) ?_
  refine mw_newI ac_int dX5_init_23 (by decide) rfl (by decide) (Nat.le_refl _) (Nat.le_refl _) ?_
  refine mw_putF dX5_init_25 fk_X5_18 rfl rfl ((mw_gm (by omega)).trans h_this) (Nat.le_of_ble_eq_true rfl) (fun _ => ⟨rfl, rfl⟩) ?_
  refine mw_heap (fun H' => H'.1 = H.1 + 3 ∧ yM [a] H H' ∧ mw_g H' a = some (.inr (5, [.int 0, .ref H.1, .ref (H.1 + 1), .ref (H.1 + 2), .null])) ∧ mw_g H' H.1 = some (.inl (0, (32, .inl (fun _ => 0)))) ∧ mw_g H' (H.1 + 1) = some (.inl (0, (32, .inl (fun _ => 0)))) ∧ mw_g H' (H.1 + 2) = some (.inl (0, (32, .inl (fun _ => 0))))) ⟨by show H2.1 + 1 = _; rw [a1], a2.tr ((yM.n hw1).tr ((yF.rf.s (by simp)).M)), mw_gs.trans (by rw [a1]; rfl), (mw_go (by omega)).trans ((mw_gm (by omega)).trans a4), (mw_go (by omega)).trans ((mw_gm (by omega)).trans a5), (mw_go (by omega)).trans (by rw [← a1]; exact mw_gn)⟩ (fun H3 q3 => ?_)
  clear a1 a2 a3 a4 a5 hw1
  obtain ⟨a1, a2, a3, a4, a5, a6⟩ := q3
  refine mw_wf (fun hw1 => ?_)
  have h_this := a3
  refine mw_aload_n (i := 0) dX5_init_28 rfl rfl ?_
  refine mw_bipush (v := 32) dX5_init_29 (by decide) ?_
  refine mw_newq ty_S nq_X5_10 dX5_init_31 (by decide) rfl (by decide) (Nat.le_refl _) (Nat.le_refl _) ?_
  refine mw_putF dX5_init_34 fk_X5_21 rfl rfl ((mw_gm (by omega)).trans h_this) (Nat.le_of_ble_eq_true rfl) (fun _ => ⟨rfl, rfl⟩) ?_
  refine mw_heap (fun H' => H'.1 = H.1 + 4 ∧ yM [a] H H' ∧ mw_g H' a = some (.inr (5, [.int 0, .ref H.1, .ref (H.1 + 1), .ref (H.1 + 2), .ref (H.1 + 3)])) ∧ mw_g H' H.1 = some (.inl (0, (32, .inl (fun _ => 0)))) ∧ mw_g H' (H.1 + 1) = some (.inl (0, (32, .inl (fun _ => 0)))) ∧ mw_g H' (H.1 + 2) = some (.inl (0, (32, .inl (fun _ => 0)))) ∧ mw_g H' (H.1 + 3) = some (.inl (4, (32, .inr (.inr (.inr (.inr (fun _ => none)))))))) ⟨by show H3.1 + 1 = _; rw [a1], a2.tr ((yM.n hw1).tr ((yF.rf.s (by simp)).M)), mw_gs.trans (by rw [a1]; rfl), (mw_go (by omega)).trans ((mw_gm (by omega)).trans a4), (mw_go (by omega)).trans ((mw_gm (by omega)).trans a5), (mw_go (by omega)).trans ((mw_gm (by omega)).trans a6), (mw_go (by omega)).trans (by rw [← a1]; exact mw_gn)⟩ (fun H4 q4 => ?_)
  clear a1 a2 a3 a4 a5 a6 hw1
  obtain ⟨a1, a2, a3, a4, a5, a6, a7⟩ := q4
  have h_this := a3
  refine mw_aload_n (i := 0) dX5_init_37 rfl rfl ?_
  refine mw_iload_n (i := 1) dX5_init_38 rfl rfl ?_
  refine mw_putF dX5_init_39 fk_X5_25 rfl rfl h_this (Nat.le_of_ble_eq_true rfl) (fun _ => ⟨rfl, rfl⟩) ?_
  refine mw_aload_n (i := 0) dX5_init_42 rfl rfl ?_
  refine mw_get dX5_init_43 fk_X5_9 mw_gs rfl ?_
  refine mw_iconst (v := -1) dX5_init_46 (by decide) ?_
  have h_this_kinds := a4
  refine mw_callS dX5_init_47 mk_X5_29 (y_fill (x := -1) (by decide) (H := mw_s H4 a _) ((mw_go (by omega)).trans a4)) (by decide) (Nat.le_refl _) (Nat.le_refl _) rfl rfl (Nat.le_of_ble_eq_true rfl) (fun E9 h9 q9 => ?_) (fun v9 h9 q9 => ?_)
  · cases q9.1
  obtain ⟨e9, u1, f, u2, u3⟩ := q9
  cases e9
  have h_this := u1.g (b := a) (S5_1 (by omega)) mw_gs
  have h_this_types := u1.g (b := H.1 + 1) (S5_1 (by omega)) ((mw_go (by omega)).trans a5)
  refine mw_aload_n (i := 0) dX5_init_50 rfl rfl ?_
  refine mw_get dX5_init_51 fk_X5_15 h_this rfl ?_
  refine mw_iconst (v := -1) dX5_init_54 (by decide) ?_
  refine mw_callS dX5_init_55 mk_X5_29 (y_fill (x := -1) (by decide) (H := h9) h_this_types) (by decide) (Nat.le_refl _) (Nat.le_refl _) rfl rfl (Nat.le_of_ble_eq_true rfl) (fun E8 h8 q8 => ?_) (fun v8 h8 q8 => ?_)
  · cases q8.1
  obtain ⟨e8, v1, f8, v2, v3⟩ := q8
  cases e8
  have hM : yM [a] H h8 := yM.trw hw a2 ((yF.rf.s (S := [a, H.1, H.1 + 1]) (by simp)).M.tr ((u1.M.mo (fun b hb => by simp at hb; simp [hb])).tr (v1.M.mo (fun b hb => by simp at hb; simp [hb])))) (fun b hb => by simp at hb; simp; omega)
  exact mw_return dX5_init_58 rfl ⟨rfl, by rw [v1.1, u1.1]; exact a1, hM, v1.g (S5_1 (by omega)) h_this, ⟨f, v1.g (S5_1 (by omega)) u2, u3⟩, ⟨f8, v2, v3⟩, ⟨_, v1.g (S5_1 (by omega)) (u1.g (S5_1 (by omega)) ((mw_go (by omega)).trans a6))⟩, v1.g (S5_1 (by omega)) (u1.g (S5_1 (by omega)) ((mw_go (by omega)).trans a7))⟩
end CN
