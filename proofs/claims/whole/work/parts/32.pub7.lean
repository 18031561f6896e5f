/-! the reference's calls: areSame, write, append, setPart -/
section P7
variable {M m s : Nat} {h : mw_H} {g : mS} {I : Nat → Int32} {A : Nat → Nat → Int32}
theorem r_areSame (hr : rR g I A) (m o : Int32) : mw_Con mm_X7_areSame 7 0 0 [.ref M, .int m, .int o] (gm M h I A) (rP M h (sp_areSame g m o)) := by
  refine gm_con pl_X7 rfl rfl (Nat.le_of_ble_eq_true rfl) rfl ?_
  unfold sp_areSame
  cases hm : sM g m with
  | none =>
    refine mw_aload_n (i := 0) dX7_areSame_0 rfl rfl ?_
    refine mw_aload_n (i := 0) dX7_areSame_1 rfl rfl ?_
    refine mw_iload_n (i := 1) dX7_areSame_2 rfl rfl ?_
    refine mw_callVr dX7_areSame_3 mk_X7_156 gm_0 rfl (c_M0 hr hm) (by decide) (Nat.le_refl _) (Nat.le_refl _) rfl rfl (Nat.le_of_ble_eq_true rfl) ?_
    refine mw_if_eq (tgt := 21) dX7_areSame_6 (by decide) (fun _ => ?_) (fun c9 => absurd c9 (by first | decide | (rw [pk_us]; decide)))
    refine mw_iconst (v := 1) dX7_areSame_21 (by decide) ?_
    refine gm_put dX7_areSame_22 fk_X7_44 (by decide) (gm_h0 _) ?_
    refine mw_aload_n (i := 0) dX7_areSame_25 rfl rfl ?_
    refine mw_get dX7_areSame_26 fk_X7_44 gm_0 rfl ?_
    refine mw_if_ne (tgt := 45) dX7_areSame_29 (by decide) (fun _ => ?_) (fun c9 => absurd c9 (by first | decide | (rw [pk_us]; decide)))
    refine mw_iconst (v := 0) dX7_areSame_45 (by decide) ?_
    exact mw_ireturn dX7_areSame_46 ⟨_, rfl, rfl⟩ (rP_I hr rfl rfl rfl)
  | some q =>
    obtain ⟨m, s, L⟩ := q
    obtain ⟨h12, rfl, hT⟩ := sM_in hm
    cases ho : sM g o with
    | none =>
      refine mw_aload_n (i := 0) dX7_areSame_0 rfl rfl ?_
      refine mw_aload_n (i := 0) dX7_areSame_1 rfl rfl ?_
      refine mw_iload_n (i := 1) dX7_areSame_2 rfl rfl ?_
      refine mw_callVr dX7_areSame_3 mk_X7_156 gm_0 rfl (c_M1 hr hm) (by decide) (Nat.le_refl _) (Nat.le_refl _) rfl rfl (Nat.le_of_ble_eq_true rfl) ?_
      refine mw_if_eq (tgt := 21) dX7_areSame_6 (by decide) (fun c9 => absurd c9 (by first | decide | (rw [pk_us]; decide))) (fun _ => ?_)
      refine mw_aload_n (i := 0) dX7_areSame_9 rfl rfl ?_
      refine mw_iload_n (i := 2) dX7_areSame_10 rfl rfl ?_
      refine mw_callVr dX7_areSame_11 mk_X7_156 gm_0 rfl (c_M0 hr ho) (by decide) (Nat.le_refl _) (Nat.le_refl _) rfl rfl (Nat.le_of_ble_eq_true rfl) ?_
      refine mw_if_eq (tgt := 21) dX7_areSame_14 (by decide) (fun _ => ?_) (fun c9 => absurd c9 (by first | decide | (rw [pk_us]; decide)))
      refine mw_iconst (v := 1) dX7_areSame_21 (by decide) ?_
      refine gm_put dX7_areSame_22 fk_X7_44 (by decide) (gm_h0 _) ?_
      refine mw_aload_n (i := 0) dX7_areSame_25 rfl rfl ?_
      refine mw_get dX7_areSame_26 fk_X7_44 gm_0 rfl ?_
      refine mw_if_ne (tgt := 45) dX7_areSame_29 (by decide) (fun _ => ?_) (fun c9 => absurd c9 (by first | decide | (rw [pk_us]; decide)))
      refine mw_iconst (v := 0) dX7_areSame_45 (by decide) ?_
      exact mw_ireturn dX7_areSame_46 ⟨_, rfl, rfl⟩ (rP_I hr rfl rfl rfl)
    | some q2 =>
      obtain ⟨m2, s2, L2⟩ := q2
      obtain ⟨h122, rfl, hT2⟩ := sM_in ho
      have hc := c_areAlike (M := M) (h := h) (I := upd I 0 0) (rR_mes hr h12 hT) (rR_mes hr h122 hT2)
      rw [can_cong hr.2.2.1 hr.2.2.2.2.1, can_cong hr.2.2.1 hr.2.2.2.2.1] at hc
      dsimp only
      refine mw_aload_n (i := 0) dX7_areSame_0 rfl rfl ?_
      refine mw_aload_n (i := 0) dX7_areSame_1 rfl rfl ?_
      refine mw_iload_n (i := 1) dX7_areSame_2 rfl rfl ?_
      refine mw_callVr dX7_areSame_3 mk_X7_156 gm_0 rfl (c_M1 hr hm) (by decide) (Nat.le_refl _) (Nat.le_refl _) rfl rfl (Nat.le_of_ble_eq_true rfl) ?_
      refine mw_if_eq (tgt := 21) dX7_areSame_6 (by decide) (fun c9 => absurd c9 (by first | decide | (rw [pk_us]; decide))) (fun _ => ?_)
      refine mw_aload_n (i := 0) dX7_areSame_9 rfl rfl ?_
      refine mw_iload_n (i := 2) dX7_areSame_10 rfl rfl ?_
      refine mw_callVr dX7_areSame_11 mk_X7_156 gm_0 rfl (c_M1 hr ho) (by decide) (Nat.le_refl _) (Nat.le_refl _) rfl rfl (Nat.le_of_ble_eq_true rfl) ?_
      refine mw_if_eq (tgt := 21) dX7_areSame_14 (by decide) (fun c9 => absurd c9 (by first | decide | (rw [pk_us]; decide))) (fun _ => ?_)
      refine mw_iconst (v := 0) dX7_areSame_17 (by decide) ?_
      refine mw_goto (tgt := 22) dX7_areSame_18 (by decide) ?_
      refine gm_put dX7_areSame_22 fk_X7_44 (by decide) (gm_h0 _) ?_
      refine mw_aload_n (i := 0) dX7_areSame_25 rfl rfl ?_
      refine mw_get dX7_areSame_26 fk_X7_44 gm_0 rfl ?_
      refine mw_if_ne (tgt := 45) dX7_areSame_29 (by decide) (fun c9 => absurd c9 (fun z => z rfl)) (fun _ => ?_)
      refine mw_aload_n (i := 0) dX7_areSame_32 rfl rfl ?_
      refine mw_iload_n (i := 1) dX7_areSame_33 rfl rfl ?_
      refine mw_iload_n (i := 2) dX7_areSame_34 rfl rfl ?_
      generalize eL (can g.2.1 s L) = X1 at *
      generalize eL (can g.2.1 s2 L2) = X2 at *
      refine mw_callV dX7_areSame_35 mk_X7_201 gm_0 rfl (hc) (by decide) (Nat.le_refl _) (Nat.le_refl _) rfl rfl (Nat.le_of_ble_eq_true rfl) (fun E9 h9 q9 => ?_) (fun v9 h9 q9 => ?_)
      · cases q9.1
      · obtain ⟨e9, I1, A1, rfl, hA1, hI1⟩ := q9
        cases e9
        have hr1 : rR g I1 A1 := rR_scr hr hA1 ((hI1 1 (by decide)).trans rfl) ((hI1 9 (by decide)).trans rfl)
        by_cases e : X1 = X2
        · rw [if_pos e]
          refine mw_if_eq (tgt := 45) dX7_areSame_38 (by decide) (fun c9 => absurd c9 (fun z => absurd (show (1 : Int32) = 0 from z) (by decide))) (fun _ => ?_)
          refine mw_iconst (v := 1) dX7_areSame_41 (by decide) ?_
          refine mw_goto (tgt := 46) dX7_areSame_42 (by decide) ?_
          exact mw_ireturn dX7_areSame_46 ⟨_, rfl, rfl⟩ (rP_I hr1 ((hI1 0 (by decide)).trans rfl) rfl rfl)
        · rw [if_neg e]
          refine mw_if_eq (tgt := 45) dX7_areSame_38 (by decide) (fun _ => ?_) (fun c9 => absurd c9 (fun z => z rfl))
          refine mw_iconst (v := 0) dX7_areSame_45 (by decide) ?_
          exact mw_ireturn dX7_areSame_46 ⟨_, rfl, rfl⟩ (rP_I hr1 ((hI1 0 (by decide)).trans rfl) rfl rfl)
theorem r_areSameByBytes (hr : rR g I A) (m o : Int32) : mw_Con mm_X7_areSameByBytes 7 0 0 [.ref M, .int m, .int o] (gm M h I A) (rP M h (sp_areSame g m o)) := by
  refine gm_con pl_X7 rfl rfl (Nat.le_of_ble_eq_true rfl) rfl ?_
  unfold sp_areSame
  cases hm : sM g m with
  | none =>
    refine mw_aload_n (i := 0) dX7_areSameByBytes_0 rfl rfl ?_
    refine mw_aload_n (i := 0) dX7_areSameByBytes_1 rfl rfl ?_
    refine mw_iload_n (i := 1) dX7_areSameByBytes_2 rfl rfl ?_
    refine mw_callVr dX7_areSameByBytes_3 mk_X7_156 gm_0 rfl (c_M0 hr hm) (by decide) (Nat.le_refl _) (Nat.le_refl _) rfl rfl (Nat.le_of_ble_eq_true rfl) ?_
    refine mw_if_eq (tgt := 21) dX7_areSameByBytes_6 (by decide) (fun _ => ?_) (fun c9 => absurd c9 (by first | decide | (rw [pk_us]; decide)))
    refine mw_iconst (v := 1) dX7_areSameByBytes_21 (by decide) ?_
    refine gm_put dX7_areSameByBytes_22 fk_X7_44 (by decide) (gm_h0 _) ?_
    refine mw_aload_n (i := 0) dX7_areSameByBytes_25 rfl rfl ?_
    refine mw_get dX7_areSameByBytes_26 fk_X7_44 gm_0 rfl ?_
    refine mw_if_ne (tgt := 45) dX7_areSameByBytes_29 (by decide) (fun _ => ?_) (fun c9 => absurd c9 (by first | decide | (rw [pk_us]; decide)))
    refine mw_iconst (v := 0) dX7_areSameByBytes_45 (by decide) ?_
    exact mw_ireturn dX7_areSameByBytes_46 ⟨_, rfl, rfl⟩ (rP_I hr rfl rfl rfl)
  | some q =>
    obtain ⟨m, s, L⟩ := q
    obtain ⟨h12, rfl, hT⟩ := sM_in hm
    cases ho : sM g o with
    | none =>
      refine mw_aload_n (i := 0) dX7_areSameByBytes_0 rfl rfl ?_
      refine mw_aload_n (i := 0) dX7_areSameByBytes_1 rfl rfl ?_
      refine mw_iload_n (i := 1) dX7_areSameByBytes_2 rfl rfl ?_
      refine mw_callVr dX7_areSameByBytes_3 mk_X7_156 gm_0 rfl (c_M1 hr hm) (by decide) (Nat.le_refl _) (Nat.le_refl _) rfl rfl (Nat.le_of_ble_eq_true rfl) ?_
      refine mw_if_eq (tgt := 21) dX7_areSameByBytes_6 (by decide) (fun c9 => absurd c9 (by first | decide | (rw [pk_us]; decide))) (fun _ => ?_)
      refine mw_aload_n (i := 0) dX7_areSameByBytes_9 rfl rfl ?_
      refine mw_iload_n (i := 2) dX7_areSameByBytes_10 rfl rfl ?_
      refine mw_callVr dX7_areSameByBytes_11 mk_X7_156 gm_0 rfl (c_M0 hr ho) (by decide) (Nat.le_refl _) (Nat.le_refl _) rfl rfl (Nat.le_of_ble_eq_true rfl) ?_
      refine mw_if_eq (tgt := 21) dX7_areSameByBytes_14 (by decide) (fun _ => ?_) (fun c9 => absurd c9 (by first | decide | (rw [pk_us]; decide)))
      refine mw_iconst (v := 1) dX7_areSameByBytes_21 (by decide) ?_
      refine gm_put dX7_areSameByBytes_22 fk_X7_44 (by decide) (gm_h0 _) ?_
      refine mw_aload_n (i := 0) dX7_areSameByBytes_25 rfl rfl ?_
      refine mw_get dX7_areSameByBytes_26 fk_X7_44 gm_0 rfl ?_
      refine mw_if_ne (tgt := 45) dX7_areSameByBytes_29 (by decide) (fun _ => ?_) (fun c9 => absurd c9 (by first | decide | (rw [pk_us]; decide)))
      refine mw_iconst (v := 0) dX7_areSameByBytes_45 (by decide) ?_
      exact mw_ireturn dX7_areSameByBytes_46 ⟨_, rfl, rfl⟩ (rP_I hr rfl rfl rfl)
    | some q2 =>
      obtain ⟨m2, s2, L2⟩ := q2
      obtain ⟨h122, rfl, hT2⟩ := sM_in ho
      have hc := c_areAlike (M := M) (h := h) (I := upd I 0 0) (rR_mes hr h12 hT) (rR_mes hr h122 hT2)
      rw [can_cong hr.2.2.1 hr.2.2.2.2.1, can_cong hr.2.2.1 hr.2.2.2.2.1] at hc
      dsimp only
      refine mw_aload_n (i := 0) dX7_areSameByBytes_0 rfl rfl ?_
      refine mw_aload_n (i := 0) dX7_areSameByBytes_1 rfl rfl ?_
      refine mw_iload_n (i := 1) dX7_areSameByBytes_2 rfl rfl ?_
      refine mw_callVr dX7_areSameByBytes_3 mk_X7_156 gm_0 rfl (c_M1 hr hm) (by decide) (Nat.le_refl _) (Nat.le_refl _) rfl rfl (Nat.le_of_ble_eq_true rfl) ?_
      refine mw_if_eq (tgt := 21) dX7_areSameByBytes_6 (by decide) (fun c9 => absurd c9 (by first | decide | (rw [pk_us]; decide))) (fun _ => ?_)
      refine mw_aload_n (i := 0) dX7_areSameByBytes_9 rfl rfl ?_
      refine mw_iload_n (i := 2) dX7_areSameByBytes_10 rfl rfl ?_
      refine mw_callVr dX7_areSameByBytes_11 mk_X7_156 gm_0 rfl (c_M1 hr ho) (by decide) (Nat.le_refl _) (Nat.le_refl _) rfl rfl (Nat.le_of_ble_eq_true rfl) ?_
      refine mw_if_eq (tgt := 21) dX7_areSameByBytes_14 (by decide) (fun c9 => absurd c9 (by first | decide | (rw [pk_us]; decide))) (fun _ => ?_)
      refine mw_iconst (v := 0) dX7_areSameByBytes_17 (by decide) ?_
      refine mw_goto (tgt := 22) dX7_areSameByBytes_18 (by decide) ?_
      refine gm_put dX7_areSameByBytes_22 fk_X7_44 (by decide) (gm_h0 _) ?_
      refine mw_aload_n (i := 0) dX7_areSameByBytes_25 rfl rfl ?_
      refine mw_get dX7_areSameByBytes_26 fk_X7_44 gm_0 rfl ?_
      refine mw_if_ne (tgt := 45) dX7_areSameByBytes_29 (by decide) (fun c9 => absurd c9 (fun z => z rfl)) (fun _ => ?_)
      refine mw_aload_n (i := 0) dX7_areSameByBytes_32 rfl rfl ?_
      refine mw_iload_n (i := 1) dX7_areSameByBytes_33 rfl rfl ?_
      refine mw_iload_n (i := 2) dX7_areSameByBytes_34 rfl rfl ?_
      generalize eL (can g.2.1 s L) = X1 at *
      generalize eL (can g.2.1 s2 L2) = X2 at *
      refine mw_callV dX7_areSameByBytes_35 mk_X7_201 gm_0 rfl (hc) (by decide) (Nat.le_refl _) (Nat.le_refl _) rfl rfl (Nat.le_of_ble_eq_true rfl) (fun E9 h9 q9 => ?_) (fun v9 h9 q9 => ?_)
      · cases q9.1
      · obtain ⟨e9, I1, A1, rfl, hA1, hI1⟩ := q9
        cases e9
        have hr1 : rR g I1 A1 := rR_scr hr hA1 ((hI1 1 (by decide)).trans rfl) ((hI1 9 (by decide)).trans rfl)
        by_cases e : X1 = X2
        · rw [if_pos e]
          refine mw_if_eq (tgt := 45) dX7_areSameByBytes_38 (by decide) (fun c9 => absurd c9 (fun z => absurd (show (1 : Int32) = 0 from z) (by decide))) (fun _ => ?_)
          refine mw_iconst (v := 1) dX7_areSameByBytes_41 (by decide) ?_
          refine mw_goto (tgt := 46) dX7_areSameByBytes_42 (by decide) ?_
          exact mw_ireturn dX7_areSameByBytes_46 ⟨_, rfl, rfl⟩ (rP_I hr1 ((hI1 0 (by decide)).trans rfl) rfl rfl)
        · rw [if_neg e]
          refine mw_if_eq (tgt := 45) dX7_areSameByBytes_38 (by decide) (fun _ => ?_) (fun c9 => absurd c9 (fun z => z rfl))
          refine mw_iconst (v := 0) dX7_areSameByBytes_45 (by decide) ?_
          exact mw_ireturn dX7_areSameByBytes_46 ⟨_, rfl, rfl⟩ (rP_I hr1 ((hI1 0 (by decide)).trans rfl) rfl rfl)
theorem lp_wr {X : List Nat} {f9 : Nat → Int32} {x1 : Option Value} (hX : holds f9 X) (h18 : I 18 = nI X.length) (hl : X.length ≤ 120) {Po : mw_P} (K : ∀ x2, mw_W mm_X7_write 6 0 0 59 [some (.ref M), x1, x2] [] (gm M h I (va_up (va_up A 9 f9) 8 (wr (A 8) 0 X))) Po) : ∀ (n k : Nat), k + n = X.length →
    mw_W mm_X7_write 6 0 0 33 [some (.ref M), x1, some (.int (nI k))] [] (gm M h I (va_up (va_up A 9 f9) 8 (wr (A 8) 0 (X.take k)))) Po := by
  intro n
  induction n with
  | zero =>
    intro k hk
    have hk : k = X.length := hk
    subst hk
    rw [List.take_length]
    refine mw_iload_n (i := 2) dX7_write_33 rfl rfl ?_
    refine mw_aload_n (i := 0) dX7_write_34 rfl rfl ?_
    refine mw_get dX7_write_35 fk_X7_84 gm_0 rfl ?_
    refine mw_icmp_ge (tgt := 59) dX7_write_38 (by decide) (fun _ => ?_) (fun c9 => absurd c9 (fun z => z (by rw [h18]; exact Int32.le_refl _)))
    exact K _
  | succ n ih =>
    intro k hk
    refine mw_iload_n (i := 2) dX7_write_33 rfl rfl ?_
    refine mw_aload_n (i := 0) dX7_write_34 rfl rfl ?_
    refine mw_get dX7_write_35 fk_X7_84 gm_0 rfl ?_
    refine mw_icmp_ge (tgt := 59) dX7_write_38 (by decide) (fun c9 => absurd c9 (by rw [h18]; exact nI_ge (by omega) (by omega))) (fun _ => ?_)
    refine mw_aload_n (i := 0) dX7_write_41 rfl rfl ?_
    refine mw_get dX7_write_42 fk_X7_32 gm_0 rfl ?_
    refine mw_iload_n (i := 2) dX7_write_45 rfl rfl ?_
    refine mw_aload_n (i := 0) dX7_write_46 rfl rfl ?_
    refine mw_get dX7_write_47 fk_X7_35 gm_0 rfl ?_
    refine mw_iload_n (i := 2) dX7_write_50 rfl rfl ?_
    refine mw_iald dX7_write_51 gm_9 (mw_ix rfl (show k < 300 by omega) (by decide)) ?_
    refine mw_top (v := nI (X.getD k 0)) (hX k (by omega)) ?_
    refine gm_st8 dX7_write_52 (mw_ix (show nI k = nI (0 + k) by rw [Nat.zero_add]) (show 0 + k < 120 by omega) (by decide)) ?_
    rw [va_up_self, bx_uu, wr_take (by omega)]
    refine mw_iinc_2 dX7_write_53 (by decide) rfl ?_
    refine mw_goto (tgt := 33) dX7_write_56 (by decide) ?_
    rw [show nI k + Int32.ofInt 1 = nI (k + 1) from nI_1 k]
    exact ih (k + 1) (by omega)
theorem r_write (hr : rR g I A) (m : Int32) : mw_Con mm_X7_write 6 0 0 [.ref M, .int m] (gm M h I A) (rP M h (sp_write g m)) := by
  refine gm_con pl_X7 rfl rfl (Nat.le_of_ble_eq_true rfl) rfl ?_
  unfold sp_write
  cases hm : sM g m with
  | none =>
    refine mw_aload_n (i := 0) dX7_write_0 rfl rfl ?_
    refine mw_aload_n (i := 0) dX7_write_1 rfl rfl ?_
    refine mw_iload_n (i := 1) dX7_write_2 rfl rfl ?_
    refine mw_callVr dX7_write_3 mk_X7_156 gm_0 rfl (c_M0 hr hm) (by decide) (Nat.le_refl _) (Nat.le_refl _) rfl rfl (Nat.le_of_ble_eq_true rfl) ?_
    refine mw_if_eq (tgt := 13) dX7_write_6 (by decide) (fun _ => ?_) (fun c9 => absurd c9 (by first | decide | (rw [pk_us]; decide)))
    refine mw_iconst (v := 1) dX7_write_13 (by decide) ?_
    refine gm_put dX7_write_14 fk_X7_44 (by decide) (gm_h0 _) ?_
    refine mw_aload_n (i := 0) dX7_write_17 rfl rfl ?_
    refine mw_get dX7_write_18 fk_X7_44 gm_0 rfl ?_
    refine mw_if_le (tgt := 26) dX7_write_21 (by decide) (fun c9 => absurd c9 (by first | decide | (rw [pk_us]; decide))) (fun _ => ?_)
    refine mw_iconst (v := 0) dX7_write_24 (by decide) ?_
    exact mw_ireturn dX7_write_25 ⟨_, rfl, rfl⟩ (rP_I hr rfl rfl rfl)
  | some q =>
    obtain ⟨m, s, L⟩ := q
    obtain ⟨h12, rfl, hT⟩ := sM_in hm
    have hM := rR_mes hr h12 hT
    have hc := c_writesCanonical (M := M) (h := h) (I := upd I 0 0) hM
    have hl : (eL (can A s L)).length ≤ 120 := Nat.le_trans (canU_le A s L 31) hM.2.2.2.2.1
    have hlt : ∀ z ∈ eL (can A s L), z < 256 := eL_lt (can_ok hM.2.2.2.1)
    rw [can_cong hr.2.2.1 hr.2.2.2.2.1] at hc hl hlt
    dsimp only
    refine mw_aload_n (i := 0) dX7_write_0 rfl rfl ?_
    refine mw_aload_n (i := 0) dX7_write_1 rfl rfl ?_
    refine mw_iload_n (i := 1) dX7_write_2 rfl rfl ?_
    refine mw_callVr dX7_write_3 mk_X7_156 gm_0 rfl (c_M1 hr hm) (by decide) (Nat.le_refl _) (Nat.le_refl _) rfl rfl (Nat.le_of_ble_eq_true rfl) ?_
    refine mw_if_eq (tgt := 13) dX7_write_6 (by decide) (fun c9 => absurd c9 (by first | decide | (rw [pk_us]; decide))) (fun _ => ?_)
    refine mw_iconst (v := 0) dX7_write_9 (by decide) ?_
    refine mw_goto (tgt := 14) dX7_write_10 (by decide) ?_
    refine gm_put dX7_write_14 fk_X7_44 (by decide) (gm_h0 _) ?_
    refine mw_aload_n (i := 0) dX7_write_17 rfl rfl ?_
    refine mw_get dX7_write_18 fk_X7_44 gm_0 rfl ?_
    refine mw_if_le (tgt := 26) dX7_write_21 (by decide) (fun _ => ?_) (fun c9 => absurd c9 (by first | decide | (rw [pk_us]; decide)))
    refine mw_aload_n (i := 0) dX7_write_26 rfl rfl ?_
    refine mw_iload_n (i := 1) dX7_write_27 rfl rfl ?_
    generalize eL (can g.2.1 s L) = X at *
    refine mw_callV dX7_write_28 mk_X7_185 gm_0 rfl (hc) (by decide) (Nat.le_refl _) (Nat.le_refl _) rfl rfl (Nat.le_of_ble_eq_true rfl) (fun E9 h9 q9 => ?_) (fun v9 h9 q9 => ?_)
    · cases q9.1
    · obtain ⟨e9, I1, rfl, hS, h18⟩ := q9
      cases e9
      rw [Nat.zero_add] at h18
      refine mw_iconst (v := 0) dX7_write_31 (by decide) ?_
      refine mw_istore_2 dX7_write_32 (by decide) ?_
      have h9 := lp_wr (M := M) (h := h) (I := I1) (A := A) (X := X) (f9 := wr (A 9) 0 X) (x1 := some (.int (nI m))) holds_wr h18 hl (Po := rP M h (0, nI X.length, gTape g X)) (fun x2 => ?_) X.length 0 (by omega)
      · rw [List.take_zero, wr_nil, show va_up (va_up A 9 (wr (A 9) 0 X)) 8 (A 8) = va_up A 9 (wr (A 9) 0 X) from up_same (va_up A 9 (wr (A 9) 0 X)) 8] at h9
        exact h9
      · refine mw_aload_n (i := 0) dX7_write_59 rfl rfl ?_
        refine mw_aload_n (i := 0) dX7_write_60 rfl rfl ?_
        refine mw_get dX7_write_61 fk_X7_84 gm_0 rfl ?_
        rw [h18]
        refine gm_put dX7_write_64 fk_X7_204 (by decide) (gm_h9 _) ?_
        refine mw_aload_n (i := 0) dX7_write_67 rfl rfl ?_
        refine mw_get dX7_write_68 fk_X7_204 gm_0 rfl ?_
        refine mw_ireturn dX7_write_71 ⟨_, rfl, rfl⟩ ⟨rfl, _, _, rfl, (pk_un (by decide)).trans ((hS 0 (by decide)).trans rfl), rR_tp hr hl hlt (fun j h1 h7 => ?_) ?_ ?_ ((pk_un (by decide)).trans ((hS 1 (by decide)).trans rfl)) pk_us⟩
        · rw [va_up_ne _ _ (by omega), va_up_ne _ _ (by omega)]
        · rw [va_up_self]; exact byt_wr hlt hr.2.2.2.2.2.2.2.1
        · rw [va_up_self]; exact row_wr hlt
/-- setsBytes, as the call's end -/
theorem sb_end {I0 : Nat → Int32} {A0 : Nat → Nat → Int32} {L : List af} {Y : List Nat} {j : Nat} (hr : rR g I0 A0) (hA : ∀ j, 1 ≤ j → j ≤ 8 → A j = A0 j) (h1 : I 1 = I0 1) (h9 : I 9 = I0 9) (hm : m < 12) (hT : g.2.2.1 m = some (s, L)) (j1 : 1 ≤ j) (j2 : j ≤ 31) (hY : ∀ z ∈ Y, z < 256) (hl : Y.length ≤ 130) {v : Option Value ⊕ String} {h' : mw_H}
    (q : v = .inl (some (.int (if (eL (L.filter (fun x => !Pt A s (nI j) x)) ++ ef (j, 2, Y.length, Y)).length ≤ 120 then nI Y.length else 0))) ∧ zSet M h A I m (eL (L.filter (fun x => !Pt A s (nI j) x)) ++ ef (j, 2, Y.length, Y)) v h') : rP M h (putB g m s (nI j) L Y) v h' := by
  have e1 : A 1 = g.2.1 1 := (hA 1 (by decide) (by decide)).trans hr.2.2.1
  have hok := (rR_mes hr hm hT).2.2.2.1
  obtain ⟨q1, I', q2, q3, q4⟩ := q
  rw [oth_cong e1] at q1 q2 q4
  have hX : eL (oth g.2.1 s (nI j) L) ++ ef (j, 2, Y.length, Y) = eL (oth g.2.1 s (nI j) L ++ [(j, 2, Y.length, Y)]) := (eL_one _ _).symm
  rw [hX] at q1 q2 q4
  have hokx : okf (j, 2, Y.length, Y) := ⟨j1, j2, Or.inr (Or.inl rfl), by show Y.length < 2 ^ 32; omega, fun _ => rfl, fun z => absurd rfl z, hY⟩
  have hokL := app_ok (oth_ok (K := g.2.1) (s := s) (t := nI j) hok) hokx
  unfold putB putM
  rw [nI_clamp (by omega)]
  generalize oth g.2.1 s (nI j) L ++ [(j, 2, Y.length, Y)] = L' at *
  have hra : rR g I A := rR_scr hr hA h1 h9
  have k1 : I' 1 = I 1 := q3 1 (by decide)
  have k9 : I' 9 = I 9 := q3 9 (by decide)
  by_cases hc : (eL L').length ≤ 120
  · rw [if_pos hc] at q1 q2 q4
    rw [if_neg (by omega)]
    exact ⟨q1, I', _, q2, q4, rR_set hra hm hT hokL hc k1 k9⟩
  · rw [if_neg hc] at q1 q2 q4
    rw [if_pos (by omega)]
    exact ⟨q1, I', _, q2, q4, rR_scr hra (fun j _ h8 => va_up_ne _ _ (by omega)) k1 k9⟩
theorem r_setPart (hr : rR g I A) (m t o : Int32) : mw_Con mm_X7_setPart 6 0 0 [.ref M, .int m, .int t, .int o] (gm M h I A) (rP M h (sp_setPart g m t o)) := by
  refine gm_con pl_X7 rfl rfl (Nat.le_of_ble_eq_true rfl) rfl ?_
  unfold sp_setPart
  cases hm : sM g m with
  | none =>
    refine mw_aload_n (i := 0) dX7_setPart_0 rfl rfl ?_
    refine mw_iload_n (i := 1) dX7_setPart_1 rfl rfl ?_
    refine mw_callVr dX7_setPart_2 mk_X7_156 gm_0 rfl (c_M0 hr hm) (by decide) (Nat.le_refl _) (Nat.le_refl _) rfl rfl (Nat.le_of_ble_eq_true rfl) ?_
    refine mw_if_eq (tgt := 20) dX7_setPart_5 (by decide) (fun _ => ?_) (fun c9 => absurd c9 (by first | decide | (rw [pk_us]; decide)))
    refine mw_iconst (v := 0) dX7_setPart_20 (by decide) ?_
    refine mw_istore_4 dX7_setPart_21 (by decide) ?_
    refine mw_aload_n (i := 0) dX7_setPart_23 rfl rfl ?_
    refine mw_iload (i := 4) dX7_setPart_24 rfl ?_
    refine mw_if_ne (tgt := 33) dX7_setPart_26 (by decide) (fun c9 => absurd c9 (by first | decide | (rw [pk_us]; decide))) (fun _ => ?_)
    refine mw_iconst (v := 1) dX7_setPart_29 (by decide) ?_
    refine mw_goto (tgt := 73) dX7_setPart_30 (by decide) ?_
    refine gm_put dX7_setPart_73 fk_X7_44 (by decide) (gm_h0 _) ?_
    refine mw_aload_n (i := 0) dX7_setPart_76 rfl rfl ?_
    refine mw_get dX7_setPart_77 fk_X7_44 gm_0 rfl ?_
    refine mw_if_le (tgt := 85) dX7_setPart_80 (by decide) (fun c9 => absurd c9 (by first | decide | (rw [pk_us]; decide))) (fun _ => ?_)
    refine mw_iconst (v := 0) dX7_setPart_83 (by decide) ?_
    exact mw_ireturn dX7_setPart_84 ⟨_, rfl, rfl⟩ (rP_I hr rfl rfl rfl)
  | some q =>
    obtain ⟨m, s, L⟩ := q
    obtain ⟨h12, rfl, hT⟩ := sM_in hm
    cases ho : sM g o with
    | none =>
      refine mw_aload_n (i := 0) dX7_setPart_0 rfl rfl ?_
      refine mw_iload_n (i := 1) dX7_setPart_1 rfl rfl ?_
      refine mw_callVr dX7_setPart_2 mk_X7_156 gm_0 rfl (c_M1 hr hm) (by decide) (Nat.le_refl _) (Nat.le_refl _) rfl rfl (Nat.le_of_ble_eq_true rfl) ?_
      refine mw_if_eq (tgt := 20) dX7_setPart_5 (by decide) (fun c9 => absurd c9 (by first | decide | (rw [pk_us]; decide))) (fun _ => ?_)
      refine mw_aload_n (i := 0) dX7_setPart_8 rfl rfl ?_
      refine mw_iload_n (i := 3) dX7_setPart_9 rfl rfl ?_
      refine mw_callVr dX7_setPart_10 mk_X7_156 gm_0 rfl (c_M0 hr ho) (by decide) (Nat.le_refl _) (Nat.le_refl _) rfl rfl (Nat.le_of_ble_eq_true rfl) ?_
      refine mw_if_eq (tgt := 20) dX7_setPart_13 (by decide) (fun _ => ?_) (fun c9 => absurd c9 (by first | decide | (rw [pk_us]; decide)))
      refine mw_iconst (v := 0) dX7_setPart_20 (by decide) ?_
      refine mw_istore_4 dX7_setPart_21 (by decide) ?_
      refine mw_aload_n (i := 0) dX7_setPart_23 rfl rfl ?_
      refine mw_iload (i := 4) dX7_setPart_24 rfl ?_
      refine mw_if_ne (tgt := 33) dX7_setPart_26 (by decide) (fun c9 => absurd c9 (by first | decide | (rw [pk_us]; decide))) (fun _ => ?_)
      refine mw_iconst (v := 1) dX7_setPart_29 (by decide) ?_
      refine mw_goto (tgt := 73) dX7_setPart_30 (by decide) ?_
      refine gm_put dX7_setPart_73 fk_X7_44 (by decide) (gm_h0 _) ?_
      refine mw_aload_n (i := 0) dX7_setPart_76 rfl rfl ?_
      refine mw_get dX7_setPart_77 fk_X7_44 gm_0 rfl ?_
      refine mw_if_le (tgt := 85) dX7_setPart_80 (by decide) (fun c9 => absurd c9 (by first | decide | (rw [pk_us]; decide))) (fun _ => ?_)
      refine mw_iconst (v := 0) dX7_setPart_83 (by decide) ?_
      exact mw_ireturn dX7_setPart_84 ⟨_, rfl, rfl⟩ (rP_I hr rfl rfl rfl)
    | some q2 =>
      obtain ⟨m2, s2, L2⟩ := q2
      obtain ⟨h122, rfl, hT2⟩ := sM_in ho
      have hM := rR_mes hr h12 hT
      have hM2 := rR_mes hr h122 hT2
      have hzk := zKind_cong (s := s) (t := t) hr.2.2.1
      dsimp only
      refine mw_aload_n (i := 0) dX7_setPart_0 rfl rfl ?_
      refine mw_iload_n (i := 1) dX7_setPart_1 rfl rfl ?_
      refine mw_callVr dX7_setPart_2 mk_X7_156 gm_0 rfl (c_M1 hr hm) (by decide) (Nat.le_refl _) (Nat.le_refl _) rfl rfl (Nat.le_of_ble_eq_true rfl) ?_
      refine mw_if_eq (tgt := 20) dX7_setPart_5 (by decide) (fun c9 => absurd c9 (by first | decide | (rw [pk_us]; decide))) (fun _ => ?_)
      refine mw_aload_n (i := 0) dX7_setPart_8 rfl rfl ?_
      refine mw_iload_n (i := 3) dX7_setPart_9 rfl rfl ?_
      refine mw_callVr dX7_setPart_10 mk_X7_156 gm_0 rfl (c_M1 hr ho) (by decide) (Nat.le_refl _) (Nat.le_refl _) rfl rfl (Nat.le_of_ble_eq_true rfl) ?_
      refine mw_if_eq (tgt := 20) dX7_setPart_13 (by decide) (fun c9 => absurd c9 (by first | decide | (rw [pk_us]; decide))) (fun _ => ?_)
      refine mw_iconst (v := 1) dX7_setPart_16 (by decide) ?_
      refine mw_goto (tgt := 21) dX7_setPart_17 (by decide) ?_
      refine mw_istore_4 dX7_setPart_21 (by decide) ?_
      refine mw_aload_n (i := 0) dX7_setPart_23 rfl rfl ?_
      refine mw_iload (i := 4) dX7_setPart_24 rfl ?_
      refine mw_if_ne (tgt := 33) dX7_setPart_26 (by decide) (fun _ => ?_) (fun c9 => absurd c9 (by first | decide | (rw [pk_us]; decide)))
      refine mw_aload_n (i := 0) dX7_setPart_33 rfl rfl ?_
      refine mw_iload_n (i := 1) dX7_setPart_34 rfl rfl ?_
      refine mw_iload_n (i := 2) dX7_setPart_35 rfl rfl ?_
      refine mw_callVr dX7_setPart_36 mk_X7_166 gm_0 rfl (c_kindIn h12 hM.2.1 hM.2.2.1 t) (by decide) (Nat.le_refl _) (Nat.le_refl _) rfl rfl (Nat.le_of_ble_eq_true rfl) ?_
      refine mw_iconst (v := 4) dX7_setPart_39 (by decide) ?_
      rw [hzk]
      by_cases hi : zKind g.2.1 s t = 4
      · have hzt := zK4_tag hi
        have hs := hM.2.1
        have hs2 := hM2.2.1
        refine mw_icmp_ne (tgt := 68) dX7_setPart_40 (by decide) (fun c9 => absurd c9 (fun z => z hi)) (fun _ => ?_)
        refine mw_aload_n (i := 0) dX7_setPart_43 rfl rfl ?_
        refine mw_get dX7_setPart_44 fk_X7_13 gm_0 rfl ?_
        refine mw_bipush (v := 32) dX7_setPart_47 (by decide) ?_
        refine mw_aload_n (i := 0) dX7_setPart_49 rfl rfl ?_
        refine mw_get dX7_setPart_50 fk_X7_23 gm_0 rfl ?_
        refine mw_iload_n (i := 1) dX7_setPart_53 rfl rfl ?_
        refine mw_iald dX7_setPart_54 gm_5 (mw_ix rfl h12 (by decide)) ?_
        rw [show A 5 m = nI s from hM.2.2.1]
        refine mw_imul dX7_setPart_55 ?_
        refine mw_iload_n (i := 2) dX7_setPart_56 rfl rfl ?_
        refine mw_iadd dX7_setPart_57 ?_
        refine mw_iald dX7_setPart_58 gm_2 (tix_ix hs hzt) ?_
        refine mw_aload_n (i := 0) dX7_setPart_59 rfl rfl ?_
        refine mw_get dX7_setPart_60 fk_X7_23 gm_0 rfl ?_
        refine mw_iload_n (i := 3) dX7_setPart_63 rfl rfl ?_
        refine mw_iald dX7_setPart_64 gm_5 (mw_ix rfl h122 (by decide)) ?_
        rw [show A 5 m2 = nI s2 from hM2.2.2.1, hr.2.2.2.1]
        by_cases hp : g.2.1 2 (tix s t) = nI s2
        · rw [if_neg (fun z => z.elim (fun y => y hi) (fun y => y hp))]
          obtain ⟨j, j1, j2, rfl⟩ := zTag_nI hzt
          have hc := c_writesCanonical (M := M) (h := h) (I := upd I 0 0) hM2
          have hl : (eL (can A s2 L2)).length ≤ 120 := Nat.le_trans (canU_le A s2 L2 31) hM2.2.2.2.2.1
          have hlt : ∀ z ∈ eL (can A s2 L2), z < 256 := eL_lt (can_ok hM2.2.2.2.1)
          rw [can_cong hr.2.2.1 hr.2.2.2.2.1] at hc hl hlt
          generalize eL (can g.2.1 s2 L2) = X at *
          refine mw_icmp_eq (tgt := 72) dX7_setPart_65 (by decide) (fun _ => ?_) (fun c9 => absurd c9 (fun z => z hp))
          refine mw_iconst (v := 0) dX7_setPart_72 (by decide) ?_
          refine gm_put dX7_setPart_73 fk_X7_44 (by decide) (gm_h0 _) ?_
          refine mw_aload_n (i := 0) dX7_setPart_76 rfl rfl ?_
          refine mw_get dX7_setPart_77 fk_X7_44 gm_0 rfl ?_
          refine mw_if_le (tgt := 85) dX7_setPart_80 (by decide) (fun _ => ?_) (fun c9 => absurd c9 (by first | decide | (rw [pk_us]; decide)))
          refine mw_aload_n (i := 0) dX7_setPart_85 rfl rfl ?_
          refine mw_iload_n (i := 3) dX7_setPart_86 rfl rfl ?_
          refine mw_callV dX7_setPart_87 mk_X7_185 gm_0 rfl (hc) (by decide) (Nat.le_refl _) (Nat.le_refl _) rfl rfl (Nat.le_of_ble_eq_true rfl) (fun E9 h9 q9 => ?_) (fun v9 h9 q9 => ?_)
          · cases q9.1
          · obtain ⟨e9, I1, rfl, hS, h18⟩ := q9
            cases e9
            rw [Nat.zero_add] at h18
            refine mw_aload_n (i := 0) dX7_setPart_90 rfl rfl ?_
            refine mw_callVv dX7_setPart_91 mk_X7_188 gm_0 rfl (c_putsAside (X := X) (by rw [va_up_self]; exact holds_wr) h18 (by omega)) (by decide) (Nat.le_refl _) (Nat.le_refl _) rfl rfl (Nat.le_of_ble_eq_true rfl) ?_
            refine mw_aload_n (i := 0) dX7_setPart_94 rfl rfl ?_
            refine mw_iload_n (i := 1) dX7_setPart_95 rfl rfl ?_
            refine mw_iload_n (i := 2) dX7_setPart_96 rfl rfl ?_
            rw [show (va_up A 9 (wr (A 9) 0 X)) 10 = A 10 from va_up_ne _ _ (by decide)]
            have hsb := c_setsBytes (M := M) (h := h) (I := upd I1 20 (nI X.length)) (Y := X) (rMes_up (rMes_up hM (j := 9) (by decide) (wr (A 9) 0 X)) (j := 10) (by decide) (wr (A 10) 0 X)) j2 (by rw [va_up_self]; exact holds_wr) pk_us (by omega)
            refine mw_callV dX7_setPart_97 mk_X7_182 gm_0 rfl (hsb) (by decide) (Nat.le_refl _) (Nat.le_refl _) rfl rfl (Nat.le_of_ble_eq_true rfl) (fun E9 h9 q9 => ?_) (fun v9 h9 q9 => ?_)
            · cases q9.1
            · have hend := sb_end (g := g) hr (fun j _ h8 => by rw [va_up_ne _ _ (by omega), va_up_ne _ _ (by omega)]) ((pk_un (by decide)).trans ((hS 1 (by decide)).trans rfl)) ((pk_un (by decide)).trans ((hS 9 (by decide)).trans rfl)) h12 hT j1 j2 hlt (by omega) q9
              have e9 := q9.1
              cases e9
              exact mw_ireturn dX7_setPart_100 ⟨_, rfl, rfl⟩ hend
        · rw [if_pos (Or.inr hp)]
          refine mw_icmp_eq (tgt := 72) dX7_setPart_65 (by decide) (fun c9 => absurd c9 (fun z => hp z)) (fun _ => ?_)
          refine mw_iconst (v := 2) dX7_setPart_68 (by decide) ?_
          refine mw_goto (tgt := 73) dX7_setPart_69 (by decide) ?_
          refine gm_put dX7_setPart_73 fk_X7_44 (by decide) (gm_h0 _) ?_
          refine mw_aload_n (i := 0) dX7_setPart_76 rfl rfl ?_
          refine mw_get dX7_setPart_77 fk_X7_44 gm_0 rfl ?_
          refine mw_if_le (tgt := 85) dX7_setPart_80 (by decide) (fun c9 => absurd c9 (by first | decide | (rw [pk_us]; decide))) (fun _ => ?_)
          refine mw_iconst (v := 0) dX7_setPart_83 (by decide) ?_
          exact mw_ireturn dX7_setPart_84 ⟨_, rfl, rfl⟩ (rP_I hr rfl rfl rfl)
      · rw [if_pos (Or.inl hi)]
        refine mw_icmp_ne (tgt := 68) dX7_setPart_40 (by decide) (fun _ => ?_) (fun c9 => absurd c9 (fun z => hi z))
        refine mw_iconst (v := 2) dX7_setPart_68 (by decide) ?_
        refine mw_goto (tgt := 73) dX7_setPart_69 (by decide) ?_
        refine gm_put dX7_setPart_73 fk_X7_44 (by decide) (gm_h0 _) ?_
        refine mw_aload_n (i := 0) dX7_setPart_76 rfl rfl ?_
        refine mw_get dX7_setPart_77 fk_X7_44 gm_0 rfl ?_
        refine mw_if_le (tgt := 85) dX7_setPart_80 (by decide) (fun c9 => absurd c9 (by first | decide | (rw [pk_us]; decide))) (fun _ => ?_)
        refine mw_iconst (v := 0) dX7_setPart_83 (by decide) ?_
        exact mw_ireturn dX7_setPart_84 ⟨_, rfl, rfl⟩ (rP_I hr rfl rfl rfl)
theorem J_app {I0 : Nat → Int32} {A0 : Nat → Nat → Int32} {L : List af} {Y : List Nat} {j : Nat} {b : Int32} {x4 : Option Value} (hr : rR g I0 A0) (hA : ∀ j, 1 ≤ j → j ≤ 8 → A j = A0 j) (h1 : I 1 = I0 1) (hn9 : I 9 = I0 9) (hm : m < 12) (hT : g.2.2.1 m = some (s, L)) (j1 : 1 ≤ j) (j2 : j ≤ 31) (hY : ∀ z ∈ Y, z < 256) (hl : Y.length ≤ 118) (h20 : I 20 = nI Y.length) (hH : holds (A 10) Y) :
    mw_W mm_X7_append 6 0 0 101 [some (.ref M), some (.int (nI m)), some (.int (nI j)), some (.int b), x4] [] (gm M h I A) (rP M h (putB g m s (nI j) L (Y ++ [uN (b &&& 255)]))) := by
  have hYb : ∀ z ∈ Y ++ [uN (b &&& 255)], z < 256 := by
    intro z hz
    rcases List.mem_append.mp hz with hz | hz
    · exact hY z hz
    · rw [List.mem_singleton] at hz; rw [hz]; exact uN_255 b
  have hlb : (Y ++ [uN (b &&& 255)]).length = Y.length + 1 := List.length_append
  have hM : rMes A m s L := rR_mes (rR_scr (I' := I) hr hA h1 hn9) hm hT
  refine mw_aload_n (i := 0) dX7_append_101 rfl rfl ?_
  refine mw_get dX7_append_102 fk_X7_38 gm_0 rfl ?_
  refine mw_aload_n (i := 0) dX7_append_105 rfl rfl ?_
  refine mw_get dX7_append_106 fk_X7_126 gm_0 rfl ?_
  refine mw_iload_n (i := 3) dX7_append_109 rfl rfl ?_
  refine mw_sipush (v := 255) dX7_append_110 (by decide) ?_
  refine mw_iand dX7_append_113 ?_
  refine gm_st10 dX7_append_114 (mw_ix h20 (show Y.length < 300 by omega) (by decide)) ?_
  refine mw_aload_n (i := 0) dX7_append_115 rfl rfl ?_
  refine mw_dup dX7_append_116 rfl ?_
  refine mw_get dX7_append_117 fk_X7_126 gm_0 rfl ?_
  refine mw_iconst (v := 1) dX7_append_120 (by decide) ?_
  refine mw_iadd dX7_append_121 ?_
  refine gm_put dX7_append_122 fk_X7_126 (by decide) (gm_h20 _) ?_
  refine mw_aload_n (i := 0) dX7_append_125 rfl rfl ?_
  refine mw_iload_n (i := 1) dX7_append_126 rfl rfl ?_
  refine mw_iload_n (i := 2) dX7_append_127 rfl rfl ?_
  have e1 : I 20 + 1 = nI (Y ++ [uN (b &&& 255)]).length := by rw [h20, hlb]; exact nI_1 _
  rw [e1]
  have hH2 : holds ((va_up A 10 (upd (A 10) Y.length (b &&& 255))) 10) (Y ++ [uN (b &&& 255)]) := by
    rw [va_up_self]
    intro k hk
    rw [hlb] at hk
    by_cases e : k = Y.length
    · rw [e, pk_us, List.getD_eq_getElem?_getD, List.getElem?_append_right (Nat.le_refl _), Nat.sub_self]
      exact (nI_uN _).symm
    · rw [pk_un e, hH k (by omega), List.getD_eq_getElem?_getD, List.getD_eq_getElem?_getD, List.getElem?_append_left (by omega)]
  have hsb := c_setsBytes (M := M) (h := h) (I := upd I 20 (nI (Y ++ [uN (b &&& 255)]).length)) (rMes_up hM (j := 10) (by decide) (upd (A 10) Y.length (b &&& 255))) j2 hH2 pk_us (by omega)
  refine mw_callV dX7_append_128 mk_X7_182 gm_0 rfl (hsb) (by decide) (Nat.le_refl _) (Nat.le_refl _) rfl rfl (Nat.le_of_ble_eq_true rfl) (fun E9 h9 q9 => ?_) (fun v9 h9 q9 => ?_)
  · cases q9.1
  · have hend := sb_end (g := g) hr (fun j z1 h8 => by rw [va_up_ne _ _ (by omega)]; exact hA j z1 h8) ((pk_un (by decide)).trans h1) ((pk_un (by decide)).trans hn9) hm hT j1 j2 hYb (by omega) q9
    have e9 := q9.1
    cases e9
    exact mw_ireturn dX7_append_131 ⟨_, rfl, rfl⟩ hend
theorem lp_app {Y : List Nat} {x1 x2 x3 : Option Value} {p : Nat} (h15 : I 15 = nI Y.length) (h16 : I 16 = nI p) (hA : byt (A 7) 1440) (hrow : rowAt (bt (A 7)) p Y) (hp : p + Y.length ≤ 1440) (hl : Y.length ≤ 118) {Po : mw_P} (K : ∀ x4, mw_W mm_X7_append 6 0 0 93 [some (.ref M), x1, x2, x3, x4] [] (gm M h I (va_up A 10 (wr (A 10) 0 Y))) Po) : ∀ (n k : Nat), k + n = Y.length →
    mw_W mm_X7_append 6 0 0 59 [some (.ref M), x1, x2, x3, some (.int (nI k))] [] (gm M h I (va_up A 10 (wr (A 10) 0 (Y.take k)))) Po := by
  intro n
  induction n with
  | zero =>
    intro k hk
    have hk : k = Y.length := hk
    subst hk
    rw [List.take_length]
    refine mw_iload (i := 4) dX7_append_59 rfl ?_
    refine mw_aload_n (i := 0) dX7_append_61 rfl rfl ?_
    refine mw_get dX7_append_62 fk_X7_78 gm_0 rfl ?_
    refine mw_icmp_ge (tgt := 93) dX7_append_65 (by decide) (fun _ => ?_) (fun c9 => absurd c9 (fun z => z (by rw [h15]; exact Int32.le_refl _)))
    exact K _
  | succ n ih =>
    intro k hk
    have hix : I 16 + nI k = nI (p + k) := by rw [h16]; exact nI_add _ _
    refine mw_iload (i := 4) dX7_append_59 rfl ?_
    refine mw_aload_n (i := 0) dX7_append_61 rfl rfl ?_
    refine mw_get dX7_append_62 fk_X7_78 gm_0 rfl ?_
    refine mw_icmp_ge (tgt := 93) dX7_append_65 (by decide) (fun c9 => absurd c9 (by rw [h15]; exact nI_ge (by omega) (by omega))) (fun _ => ?_)
    refine mw_aload_n (i := 0) dX7_append_68 rfl rfl ?_
    refine mw_get dX7_append_69 fk_X7_38 gm_0 rfl ?_
    refine mw_iload (i := 4) dX7_append_72 rfl ?_
    refine mw_aload_n (i := 0) dX7_append_74 rfl rfl ?_
    refine mw_get dX7_append_75 fk_X7_29 gm_0 rfl ?_
    refine mw_aload_n (i := 0) dX7_append_78 rfl rfl ?_
    refine mw_get dX7_append_79 fk_X7_81 gm_0 rfl ?_
    refine mw_iload (i := 4) dX7_append_82 rfl ?_
    refine mw_iadd dX7_append_84 ?_
    refine mw_iald dX7_append_85 gm_7 (mw_ix hix (show p + k < 1440 by omega) (by decide)) ?_
    refine mw_top (v := nI (Y.getD k 0)) ?_ ?_
    · show A 7 (p + k) = _
      rw [byt_bt hA (by omega), hrow k (by omega)]
    · refine gm_st10 dX7_append_86 (mw_ix (show nI k = nI (0 + k) by rw [Nat.zero_add]) (show 0 + k < 300 by omega) (by decide)) ?_
      rw [va_up_self, bx_uu, wr_take (by omega)]
      refine mw_iinc_4 dX7_append_87 (by decide) rfl ?_
      refine mw_goto (tgt := 59) dX7_append_90 (by decide) ?_
      rw [show nI k + Int32.ofInt 1 = nI (k + 1) from nI_1 k]
      exact ih (k + 1) (by omega)
theorem r_append (hr : rR g I A) (m t b : Int32) : mw_Con mm_X7_append 6 0 0 [.ref M, .int m, .int t, .int b] (gm M h I A) (rP M h (sp_append g m t b)) := by
  refine gm_con pl_X7 rfl rfl (Nat.le_of_ble_eq_true rfl) rfl ?_
  unfold sp_append
  cases hm : sM g m with
  | none =>
    refine mw_aload_n (i := 0) dX7_append_0 rfl rfl ?_
    refine mw_aload_n (i := 0) dX7_append_1 rfl rfl ?_
    refine mw_iload_n (i := 1) dX7_append_2 rfl rfl ?_
    refine mw_callVr dX7_append_3 mk_X7_156 gm_0 rfl (c_M0 hr hm) (by decide) (Nat.le_refl _) (Nat.le_refl _) rfl rfl (Nat.le_of_ble_eq_true rfl) ?_
    refine mw_if_ne (tgt := 13) dX7_append_6 (by decide) (fun c9 => absurd c9 (by first | decide | (rw [pk_us]; decide))) (fun _ => ?_)
    refine mw_iconst (v := 1) dX7_append_9 (by decide) ?_
    refine mw_goto (tgt := 30) dX7_append_10 (by decide) ?_
    refine gm_put dX7_append_30 fk_X7_44 (by decide) (gm_h0 _) ?_
    refine mw_aload_n (i := 0) dX7_append_33 rfl rfl ?_
    refine mw_get dX7_append_34 fk_X7_44 gm_0 rfl ?_
    refine mw_if_le (tgt := 42) dX7_append_37 (by decide) (fun c9 => absurd c9 (by first | decide | (rw [pk_us]; decide))) (fun _ => ?_)
    refine mw_iconst (v := 0) dX7_append_40 (by decide) ?_
    exact mw_ireturn dX7_append_41 ⟨_, rfl, rfl⟩ (rP_I hr rfl rfl rfl)
  | some q =>
    obtain ⟨m, s, L⟩ := q
    obtain ⟨h12, rfl, hT⟩ := sM_in hm
    have hM := rR_mes hr h12 hT
    have hs := hM.2.1
    have hzk := zKind_cong (s := s) (t := t) hr.2.2.1
    dsimp only
    refine mw_aload_n (i := 0) dX7_append_0 rfl rfl ?_
    refine mw_aload_n (i := 0) dX7_append_1 rfl rfl ?_
    refine mw_iload_n (i := 1) dX7_append_2 rfl rfl ?_
    refine mw_callVr dX7_append_3 mk_X7_156 gm_0 rfl (c_M1 hr hm) (by decide) (Nat.le_refl _) (Nat.le_refl _) rfl rfl (Nat.le_of_ble_eq_true rfl) ?_
    refine mw_if_ne (tgt := 13) dX7_append_6 (by decide) (fun _ => ?_) (fun c9 => absurd c9 (by first | decide | (rw [pk_us]; decide)))
    refine mw_aload_n (i := 0) dX7_append_13 rfl rfl ?_
    refine mw_iload_n (i := 1) dX7_append_14 rfl rfl ?_
    refine mw_iload_n (i := 2) dX7_append_15 rfl rfl ?_
    refine mw_callVr dX7_append_16 mk_X7_166 gm_0 rfl (c_kindIn h12 hM.2.1 hM.2.2.1 t) (by decide) (Nat.le_refl _) (Nat.le_refl _) rfl rfl (Nat.le_of_ble_eq_true rfl) ?_
    refine mw_callSr dX7_append_19 mk_X7_175 (c_hasBytes (zKind A s t)) (by decide) (Nat.le_refl _) (Nat.le_refl _) rfl rfl (Nat.le_of_ble_eq_true rfl) ?_
    rw [hzk]
    by_cases hi : zHas (zKind g.2.1 s t) = 0
    · rw [if_pos hi, hi]
      refine mw_if_eq (tgt := 29) dX7_append_22 (by decide) (fun _ => ?_) (fun c9 => absurd c9 (by first | decide | (rw [pk_us]; decide)))
      refine mw_iconst (v := 2) dX7_append_29 (by decide) ?_
      refine gm_put dX7_append_30 fk_X7_44 (by decide) (gm_h0 _) ?_
      refine mw_aload_n (i := 0) dX7_append_33 rfl rfl ?_
      refine mw_get dX7_append_34 fk_X7_44 gm_0 rfl ?_
      refine mw_if_le (tgt := 42) dX7_append_37 (by decide) (fun c9 => absurd c9 (by first | decide | (rw [pk_us]; decide))) (fun _ => ?_)
      refine mw_iconst (v := 0) dX7_append_40 (by decide) ?_
      exact mw_ireturn dX7_append_41 ⟨_, rfl, rfl⟩ (rP_I hr rfl rfl rfl)
    · rw [if_neg hi]
      obtain ⟨j, j1, j2, rfl⟩ := zTag_nI (zHas_tag hi)
      refine mw_if_eq (tgt := 29) dX7_append_22 (by decide) (fun c9 => absurd c9 hi) (fun _ => ?_)
      refine mw_iconst (v := 0) dX7_append_25 (by decide) ?_
      refine mw_goto (tgt := 30) dX7_append_26 (by decide) ?_
      refine gm_put dX7_append_30 fk_X7_44 (by decide) (gm_h0 _) ?_
      refine mw_aload_n (i := 0) dX7_append_33 rfl rfl ?_
      refine mw_get dX7_append_34 fk_X7_44 gm_0 rfl ?_
      refine mw_if_le (tgt := 42) dX7_append_37 (by decide) (fun _ => ?_) (fun c9 => absurd c9 (by first | decide | (rw [pk_us]; decide)))
      refine mw_aload_n (i := 0) dX7_append_42 rfl rfl ?_
      refine mw_iconst (v := 0) dX7_append_43 (by decide) ?_
      refine gm_put dX7_append_44 fk_X7_126 (by decide) (gm_h20 _) ?_
      refine mw_aload_n (i := 0) dX7_append_47 rfl rfl ?_
      refine mw_iload_n (i := 1) dX7_append_48 rfl rfl ?_
      refine mw_iload_n (i := 2) dX7_append_49 rfl rfl ?_
      refine mw_callV dX7_append_50 mk_X7_178 gm_0 rfl (c_finds hM (nI j)) (by decide) (Nat.le_refl _) (Nat.le_refl _) rfl rfl (Nat.le_of_ble_eq_true rfl) (fun E9 h9 q9 => ?_) (fun v9 h9 q9 => ?_)
      · exact (zFd_no q9).elim
      · obtain ⟨I1, rfl, hS, hc⟩ := q9
        rw [Pt_cong hr.2.2.1] at hc
        unfold lastB
        rcases hc with ⟨hno, e9⟩ | ⟨L1, x, L2, hL, hPx, hno, e9, hRd⟩
        · cases e9
          rw [lastK_no hno]
          dsimp only
          refine mw_if_eq (tgt := 101) dX7_append_53 (by decide) (fun _ => ?_) (fun c9 => absurd c9 (by first | decide | (rw [pk_us]; decide)))
          exact J_app (Y := []) hr (fun _ _ _ => rfl) ((hS 1 (by decide)).trans rfl) ((hS 9 (by decide)).trans rfl) h12 hT j1 j2 (fun z hz => absurd hz List.not_mem_nil) (Nat.zero_le _) ((hS 20 (by decide)).trans rfl) (fun k hk => absurd hk (Nat.not_lt_zero _))
        · cases e9
          have hx := hM.2.2.2.1 x (by rw [hL]; exact List.mem_append_right _ List.mem_cons_self)
          have h2 := known_ty hPx hi hx
          obtain ⟨pp, y1, y2, y3, y4, y5, y6⟩ := zRd_byte hM hL h2 hRd
          have hlk : lastK g.2.1 s (nI j) L = some x := by rw [hL]; exact lastK_yes hPx hno
          rw [hlk]
          dsimp only
          rw [← y2] at y6 y3 y4
          have hx7 := hx.2.2.2.2.2.2
          generalize x.2.2.2 = Y at *
          refine mw_if_eq (tgt := 101) dX7_append_53 (by decide) (fun c9 => absurd c9 (fun z => absurd (show (1 : Int32) = 0 from z) (by decide))) (fun _ => ?_)
          refine mw_iconst (v := 0) dX7_append_56 (by decide) ?_
          refine mw_istore_4 dX7_append_57 (by decide) ?_
          have h9 := lp_app (M := M) (h := h) (I := I1) (A := A) (x1 := some (.int (nI m))) (x2 := some (.int (nI j))) (x3 := some (.int b)) y6 y1 hM.2.2.2.2.2.2.2 y5 y4 y3 (Po := rP M h (putB g m s (nI j) L (Y ++ [uN (b &&& 255)]))) (fun x4 => ?_) Y.length 0 (by omega)
          · rw [List.take_zero, wr_nil, up_same] at h9
            exact h9
          · refine mw_aload_n (i := 0) dX7_append_93 rfl rfl ?_
            refine mw_aload_n (i := 0) dX7_append_94 rfl rfl ?_
            refine mw_get dX7_append_95 fk_X7_78 gm_0 rfl ?_
            rw [y6]
            refine gm_put dX7_append_98 fk_X7_126 (by decide) (gm_h20 _) ?_
            exact J_app (Y := Y) hr (fun j _ h8 => va_up_ne _ _ (by omega)) ((pk_un (by decide)).trans ((hS 1 (by decide)).trans rfl)) ((pk_un (by decide)).trans ((hS 9 (by decide)).trans rfl)) h12 hT j1 j2 hx7 y3 pk_us (by rw [va_up_self]; exact holds_wr)
end P7
