/-! the reference's calls: schemas -/
section P1
variable {M : Nat} {h : mw_H} {g : mS} {I : Nat → Int32} {A : Nat → Nat → Int32}
theorem zKind_of {K : Nat → Nat → Int32} {s t : Nat} (h1 : 1 ≤ t) (h2 : t ≤ 31) : zKind K s (nI t) = K 1 (32 * s + t) := by
  unfold zKind
  rw [if_neg (by rw [zTag_of h1 h2]; decide), nI_clamp (by omega)]
theorem okK_upd {K : Nat → Nat → Int32} {ns i : Nat} {k : Int32} (h : okK K ns) (hk : k = -1 ∨ ∃ j : Nat, j ≤ 4 ∧ k = nI j) {K' : Nat → Nat → Int32} (e : K' 1 = upd (K 1) i k) : okK K' ns := by
  intro s t hs h1 h2
  rw [e]
  by_cases z : 32 * s + t = i
  · rw [z, pk_us]; exact hk
  · rw [pk_un z]; exact h s t hs h1 h2
theorem r_kindOf (hr : rR g I A) (s t : Int32) : mw_Con mm_X7_kindOf 3 0 0 [.ref M, .int s, .int t] (gm M h I A) (rP M h (sp_kindOf g s t)) := by
  refine gm_con pl_X7 rfl rfl (Nat.le_of_ble_eq_true rfl) rfl ?_
  unfold sp_kindOf
  cases hs : sS g s with
  | none =>
    refine mw_aload_n (i := 0) dX7_kindOf_0 rfl rfl ?_
    refine mw_aload_n (i := 0) dX7_kindOf_1 rfl rfl ?_
    refine mw_iload_n (i := 1) dX7_kindOf_2 rfl rfl ?_
    refine mw_callVr dX7_kindOf_3 mk_X7_136 gm_0 rfl (c_S0 hr hs) (by decide) (Nat.le_refl _) (Nat.le_refl _) rfl rfl (Nat.le_of_ble_eq_true rfl) ?_
    refine mw_if_ne (tgt := 13) dX7_kindOf_6 (by decide) (fun c9 => absurd c9 (by first | decide | (rw [pk_us]; decide))) (fun _ => ?_)
    refine mw_iconst (v := 1) dX7_kindOf_9 (by decide) ?_
    refine mw_goto (tgt := 25) dX7_kindOf_10 (by decide) ?_
    refine gm_put dX7_kindOf_25 fk_X7_44 (by decide) (gm_h0 _) ?_
    refine mw_aload_n (i := 0) dX7_kindOf_28 rfl rfl ?_
    refine mw_get dX7_kindOf_29 fk_X7_44 gm_0 rfl ?_
    refine mw_if_le (tgt := 39) dX7_kindOf_32 (by decide) (fun c9 => absurd c9 (by first | decide | (rw [pk_us]; decide))) (fun _ => ?_)
    refine mw_iconst (v := 0) dX7_kindOf_35 (by decide) ?_
    refine mw_goto (tgt := 45) dX7_kindOf_36 (by decide) ?_
    exact mw_ireturn dX7_kindOf_45 ⟨_, rfl, rfl⟩ (rP_I hr rfl rfl rfl)
  | some j =>
    obtain ⟨hj, rfl⟩ := sS_in (rR_ns hr) hs
    dsimp only
    have h6 := rR_ns hr
    by_cases ht : zTag t = 0
    · rw [if_pos ht]
      refine mw_aload_n (i := 0) dX7_kindOf_0 rfl rfl ?_
      refine mw_aload_n (i := 0) dX7_kindOf_1 rfl rfl ?_
      refine mw_iload_n (i := 1) dX7_kindOf_2 rfl rfl ?_
      refine mw_callVr dX7_kindOf_3 mk_X7_136 gm_0 rfl (c_S1 hr hs) (by decide) (Nat.le_refl _) (Nat.le_refl _) rfl rfl (Nat.le_of_ble_eq_true rfl) ?_
      refine mw_if_ne (tgt := 13) dX7_kindOf_6 (by decide) (fun _ => ?_) (fun c9 => absurd c9 (by first | decide | (rw [pk_us]; decide)))
      refine mw_iload_n (i := 2) dX7_kindOf_13 rfl rfl ?_
      refine mw_callSr dX7_kindOf_14 mk_X7_74 (c_T0 ht) (by decide) (Nat.le_refl _) (Nat.le_refl _) rfl rfl (Nat.le_of_ble_eq_true rfl) ?_
      refine mw_if_eq (tgt := 24) dX7_kindOf_17 (by decide) (fun _ => ?_) (fun c9 => absurd c9 (by first | decide | (rw [pk_us]; decide)))
      refine mw_iconst (v := 2) dX7_kindOf_24 (by decide) ?_
      refine gm_put dX7_kindOf_25 fk_X7_44 (by decide) (gm_h0 _) ?_
      refine mw_aload_n (i := 0) dX7_kindOf_28 rfl rfl ?_
      refine mw_get dX7_kindOf_29 fk_X7_44 gm_0 rfl ?_
      refine mw_if_le (tgt := 39) dX7_kindOf_32 (by decide) (fun c9 => absurd c9 (by first | decide | (rw [pk_us]; decide))) (fun _ => ?_)
      refine mw_iconst (v := 0) dX7_kindOf_35 (by decide) ?_
      refine mw_goto (tgt := 45) dX7_kindOf_36 (by decide) ?_
      exact mw_ireturn dX7_kindOf_45 ⟨_, rfl, rfl⟩ (rP_I hr rfl rfl rfl)
    · rw [if_neg ht]
      refine mw_aload_n (i := 0) dX7_kindOf_0 rfl rfl ?_
      refine mw_aload_n (i := 0) dX7_kindOf_1 rfl rfl ?_
      refine mw_iload_n (i := 1) dX7_kindOf_2 rfl rfl ?_
      refine mw_callVr dX7_kindOf_3 mk_X7_136 gm_0 rfl (c_S1 hr hs) (by decide) (Nat.le_refl _) (Nat.le_refl _) rfl rfl (Nat.le_of_ble_eq_true rfl) ?_
      refine mw_if_ne (tgt := 13) dX7_kindOf_6 (by decide) (fun _ => ?_) (fun c9 => absurd c9 (by first | decide | (rw [pk_us]; decide)))
      refine mw_iload_n (i := 2) dX7_kindOf_13 rfl rfl ?_
      refine mw_callSr dX7_kindOf_14 mk_X7_74 (c_T1 ht) (by decide) (Nat.le_refl _) (Nat.le_refl _) rfl rfl (Nat.le_of_ble_eq_true rfl) ?_
      refine mw_if_eq (tgt := 24) dX7_kindOf_17 (by decide) (fun c9 => absurd c9 (by first | decide | (rw [pk_us]; decide))) (fun _ => ?_)
      refine mw_iconst (v := 0) dX7_kindOf_20 (by decide) ?_
      refine mw_goto (tgt := 25) dX7_kindOf_21 (by decide) ?_
      refine gm_put dX7_kindOf_25 fk_X7_44 (by decide) (gm_h0 _) ?_
      refine mw_aload_n (i := 0) dX7_kindOf_28 rfl rfl ?_
      refine mw_get dX7_kindOf_29 fk_X7_44 gm_0 rfl ?_
      refine mw_if_le (tgt := 39) dX7_kindOf_32 (by decide) (fun _ => ?_) (fun c9 => absurd c9 (by first | decide | (rw [pk_us]; decide)))
      refine mw_aload_n (i := 0) dX7_kindOf_39 rfl rfl ?_
      refine mw_iload_n (i := 1) dX7_kindOf_40 rfl rfl ?_
      refine mw_iload_n (i := 2) dX7_kindOf_41 rfl rfl ?_
      refine mw_callVr dX7_kindOf_42 mk_X7_98 gm_0 rfl (c_kind (show j < 6 by omega) t) (by decide) (Nat.le_refl _) (Nat.le_refl _) rfl rfl (Nat.le_of_ble_eq_true rfl) ?_
      rw [zKind_cong hr.2.2.1]
      exact mw_ireturn dX7_kindOf_45 ⟨_, rfl, rfl⟩ (rP_I hr rfl rfl rfl)
theorem wfK_upd {K K' : Nat → Nat → Int32} {ns s' : Nat} {t' k o : Int32} (h : wfK K ns) (ht : ¬ zTag t' = 0) (e1 : K' 1 = upd (K 1) (tix s' t') k) (e2 : K' 2 = upd (K 2) (tix s' t') o) (hk : k = 4 → ∃ p, p < ns ∧ p < 6 ∧ o = nI p) : wfK K' ns := by
  intro s t hs h1 h2 h4
  rw [zKind_of h1 h2, e1] at h4
  unfold pn
  rw [e2]
  by_cases z : 32 * s + t = tix s' t'
  · rw [z, pk_us] at h4
    rw [z, pk_us]
    obtain ⟨p, hp, hp6, rfl⟩ := hk h4
    rw [nI_clamp (by omega)]
    exact ⟨hp, rfl⟩
  · rw [pk_un z] at h4
    rw [pk_un z]
    have := h s t hs h1 h2 (by rw [zKind_of h1 h2]; exact h4)
    exact this
theorem wfK_drop {K K' : Nat → Nat → Int32} {ns s' : Nat} {t' k : Int32} (h : wfK K ns) (ht : ¬ zTag t' = 0) (e1 : K' 1 = upd (K 1) (tix s' t') k) (e2 : K' 2 = K 2) (hk : k ≠ 4) : wfK K' ns := by
  intro s t hs h1 h2 h4
  rw [zKind_of h1 h2, e1] at h4
  unfold pn
  rw [e2]
  by_cases z : 32 * s + t = tix s' t'
  · rw [z, pk_us] at h4
    exact absurd h4 hk
  · rw [pk_un z] at h4
    have := h s t hs h1 h2 (by rw [zKind_of h1 h2]; exact h4)
    exact this
theorem r_dropKind (hr : rR g I A) (s t : Int32) : mw_Con mm_X7_dropKind 2 0 0 [.ref M, .int s, .int t] (gm M h I A) (rP M h (sp_dropKind g s t)) := by
  refine gm_con pl_X7 rfl rfl (Nat.le_of_ble_eq_true rfl) rfl ?_
  unfold sp_dropKind
  cases hs : sS g s with
  | none =>
    refine mw_aload_n (i := 0) dX7_dropKind_0 rfl rfl ?_
    refine mw_aload_n (i := 0) dX7_dropKind_1 rfl rfl ?_
    refine mw_iload_n (i := 1) dX7_dropKind_2 rfl rfl ?_
    refine mw_callVr dX7_dropKind_3 mk_X7_136 gm_0 rfl (c_S0 hr hs) (by decide) (Nat.le_refl _) (Nat.le_refl _) rfl rfl (Nat.le_of_ble_eq_true rfl) ?_
    refine mw_if_ne (tgt := 13) dX7_dropKind_6 (by decide) (fun c9 => absurd c9 (by first | decide | (rw [pk_us]; decide))) (fun _ => ?_)
    refine mw_iconst (v := 1) dX7_dropKind_9 (by decide) ?_
    refine mw_goto (tgt := 25) dX7_dropKind_10 (by decide) ?_
    refine gm_put dX7_dropKind_25 fk_X7_44 (by decide) (gm_h0 _) ?_
    refine mw_aload_n (i := 0) dX7_dropKind_28 rfl rfl ?_
    refine mw_get dX7_dropKind_29 fk_X7_44 gm_0 rfl ?_
    refine mw_if_le (tgt := 37) dX7_dropKind_32 (by decide) (fun c9 => absurd c9 (by first | decide | (rw [pk_us]; decide))) (fun _ => ?_)
    refine mw_iconst (v := 0) dX7_dropKind_35 (by decide) ?_
    exact mw_ireturn dX7_dropKind_36 ⟨_, rfl, rfl⟩ (rP_I hr rfl rfl rfl)
  | some j =>
    obtain ⟨hj, rfl⟩ := sS_in (rR_ns hr) hs
    dsimp only
    have h6 := rR_ns hr
    by_cases ht : zTag t = 0
    · rw [if_pos ht]
      refine mw_aload_n (i := 0) dX7_dropKind_0 rfl rfl ?_
      refine mw_aload_n (i := 0) dX7_dropKind_1 rfl rfl ?_
      refine mw_iload_n (i := 1) dX7_dropKind_2 rfl rfl ?_
      refine mw_callVr dX7_dropKind_3 mk_X7_136 gm_0 rfl (c_S1 hr hs) (by decide) (Nat.le_refl _) (Nat.le_refl _) rfl rfl (Nat.le_of_ble_eq_true rfl) ?_
      refine mw_if_ne (tgt := 13) dX7_dropKind_6 (by decide) (fun _ => ?_) (fun c9 => absurd c9 (by first | decide | (rw [pk_us]; decide)))
      refine mw_iload_n (i := 2) dX7_dropKind_13 rfl rfl ?_
      refine mw_callSr dX7_dropKind_14 mk_X7_74 (c_T0 ht) (by decide) (Nat.le_refl _) (Nat.le_refl _) rfl rfl (Nat.le_of_ble_eq_true rfl) ?_
      refine mw_if_eq (tgt := 24) dX7_dropKind_17 (by decide) (fun _ => ?_) (fun c9 => absurd c9 (by first | decide | (rw [pk_us]; decide)))
      refine mw_iconst (v := 2) dX7_dropKind_24 (by decide) ?_
      refine gm_put dX7_dropKind_25 fk_X7_44 (by decide) (gm_h0 _) ?_
      refine mw_aload_n (i := 0) dX7_dropKind_28 rfl rfl ?_
      refine mw_get dX7_dropKind_29 fk_X7_44 gm_0 rfl ?_
      refine mw_if_le (tgt := 37) dX7_dropKind_32 (by decide) (fun c9 => absurd c9 (by first | decide | (rw [pk_us]; decide))) (fun _ => ?_)
      refine mw_iconst (v := 0) dX7_dropKind_35 (by decide) ?_
      exact mw_ireturn dX7_dropKind_36 ⟨_, rfl, rfl⟩ (rP_I hr rfl rfl rfl)
    · rw [if_neg ht]
      have ix := tix_ix (show j < 6 by omega) ht
      refine mw_aload_n (i := 0) dX7_dropKind_0 rfl rfl ?_
      refine mw_aload_n (i := 0) dX7_dropKind_1 rfl rfl ?_
      refine mw_iload_n (i := 1) dX7_dropKind_2 rfl rfl ?_
      refine mw_callVr dX7_dropKind_3 mk_X7_136 gm_0 rfl (c_S1 hr hs) (by decide) (Nat.le_refl _) (Nat.le_refl _) rfl rfl (Nat.le_of_ble_eq_true rfl) ?_
      refine mw_if_ne (tgt := 13) dX7_dropKind_6 (by decide) (fun _ => ?_) (fun c9 => absurd c9 (by first | decide | (rw [pk_us]; decide)))
      refine mw_iload_n (i := 2) dX7_dropKind_13 rfl rfl ?_
      refine mw_callSr dX7_dropKind_14 mk_X7_74 (c_T1 ht) (by decide) (Nat.le_refl _) (Nat.le_refl _) rfl rfl (Nat.le_of_ble_eq_true rfl) ?_
      refine mw_if_eq (tgt := 24) dX7_dropKind_17 (by decide) (fun c9 => absurd c9 (by first | decide | (rw [pk_us]; decide))) (fun _ => ?_)
      refine mw_iconst (v := 0) dX7_dropKind_20 (by decide) ?_
      refine mw_goto (tgt := 25) dX7_dropKind_21 (by decide) ?_
      refine gm_put dX7_dropKind_25 fk_X7_44 (by decide) (gm_h0 _) ?_
      refine mw_aload_n (i := 0) dX7_dropKind_28 rfl rfl ?_
      refine mw_get dX7_dropKind_29 fk_X7_44 gm_0 rfl ?_
      refine mw_if_le (tgt := 37) dX7_dropKind_32 (by decide) (fun _ => ?_) (fun c9 => absurd c9 (by first | decide | (rw [pk_us]; decide)))
      refine mw_aload_n (i := 0) dX7_dropKind_37 rfl rfl ?_
      refine mw_get dX7_dropKind_38 fk_X7_7 gm_0 rfl ?_
      refine mw_bipush (v := 32) dX7_dropKind_41 (by decide) ?_
      refine mw_iload_n (i := 1) dX7_dropKind_43 rfl rfl ?_
      refine mw_imul dX7_dropKind_44 ?_
      refine mw_iload_n (i := 2) dX7_dropKind_45 rfl rfl ?_
      refine mw_iadd dX7_dropKind_46 ?_
      refine mw_iald dX7_dropKind_47 gm_1 ix ?_
      refine mw_istore_3 dX7_dropKind_48 (by decide) ?_
      refine mw_aload_n (i := 0) dX7_dropKind_49 rfl rfl ?_
      refine mw_get dX7_dropKind_50 fk_X7_7 gm_0 rfl ?_
      refine mw_bipush (v := 32) dX7_dropKind_53 (by decide) ?_
      refine mw_iload_n (i := 1) dX7_dropKind_55 rfl rfl ?_
      refine mw_imul dX7_dropKind_56 ?_
      refine mw_iload_n (i := 2) dX7_dropKind_57 rfl rfl ?_
      refine mw_iadd dX7_dropKind_58 ?_
      refine mw_iconst (v := -1) dX7_dropKind_59 (by decide) ?_
      refine gm_st1 dX7_dropKind_60 ix ?_
      refine mw_iload_n (i := 3) dX7_dropKind_61 rfl rfl ?_
      refine mw_ireturn dX7_dropKind_62 ⟨_, rfl, rfl⟩ ⟨?_, _, _, rfl, rfl, rR_K hr h6 (Nat.le_refl _) (wfK_drop (k := -1) hr.1.2.1 ht (va_up_self ..) (va_up_ne _ _ (by decide)) (by decide)) (okK_upd hr.1.2.2.1 (k := -1) (Or.inl rfl) (va_up_self ..)) hr.2.1 ?_ ?_ ?_ (fun j h1 h2 => va_up_ne _ _ (by omega)) rfl⟩
      · rw [hr.2.2.1]
      · rw [va_up_self, va_up_self, hr.2.2.1]
      · exact hr.2.2.2.1
      · exact hr.2.2.2.2.1
theorem r_setDefault (hr : rR g I A) (s t v : Int32) : mw_Con mm_X7_setDefault 3 0 0 [.ref M, .int s, .int t, .int v] (gm M h I A) (rP M h (sp_setDefault g s t v)) := by
  refine gm_con pl_X7 rfl rfl (Nat.le_of_ble_eq_true rfl) rfl ?_
  unfold sp_setDefault
  cases hs : sS g s with
  | none =>
    refine mw_aload_n (i := 0) dX7_setDefault_0 rfl rfl ?_
    refine mw_aload_n (i := 0) dX7_setDefault_1 rfl rfl ?_
    refine mw_iload_n (i := 1) dX7_setDefault_2 rfl rfl ?_
    refine mw_callVr dX7_setDefault_3 mk_X7_136 gm_0 rfl (c_S0 hr hs) (by decide) (Nat.le_refl _) (Nat.le_refl _) rfl rfl (Nat.le_of_ble_eq_true rfl) ?_
    refine mw_if_ne (tgt := 13) dX7_setDefault_6 (by decide) (fun c9 => absurd c9 (by first | decide | (rw [pk_us]; decide))) (fun _ => ?_)
    refine mw_iconst (v := 1) dX7_setDefault_9 (by decide) ?_
    refine mw_goto (tgt := 41) dX7_setDefault_10 (by decide) ?_
    refine gm_put dX7_setDefault_41 fk_X7_44 (by decide) (gm_h0 _) ?_
    refine mw_aload_n (i := 0) dX7_setDefault_44 rfl rfl ?_
    refine mw_get dX7_setDefault_45 fk_X7_44 gm_0 rfl ?_
    refine mw_if_le (tgt := 53) dX7_setDefault_48 (by decide) (fun c9 => absurd c9 (by first | decide | (rw [pk_us]; decide))) (fun _ => ?_)
    refine mw_iconst (v := 0) dX7_setDefault_51 (by decide) ?_
    exact mw_ireturn dX7_setDefault_52 ⟨_, rfl, rfl⟩ (rP_I hr rfl rfl rfl)
  | some j =>
    obtain ⟨hj, rfl⟩ := sS_in (rR_ns hr) hs
    dsimp only
    have h6 := rR_ns hr
    by_cases ht : zTag t = 0
    · rw [if_pos ht]
      refine mw_aload_n (i := 0) dX7_setDefault_0 rfl rfl ?_
      refine mw_aload_n (i := 0) dX7_setDefault_1 rfl rfl ?_
      refine mw_iload_n (i := 1) dX7_setDefault_2 rfl rfl ?_
      refine mw_callVr dX7_setDefault_3 mk_X7_136 gm_0 rfl (c_S1 hr hs) (by decide) (Nat.le_refl _) (Nat.le_refl _) rfl rfl (Nat.le_of_ble_eq_true rfl) ?_
      refine mw_if_ne (tgt := 13) dX7_setDefault_6 (by decide) (fun _ => ?_) (fun c9 => absurd c9 (by first | decide | (rw [pk_us]; decide)))
      refine mw_iload_n (i := 2) dX7_setDefault_13 rfl rfl ?_
      refine mw_callSr dX7_setDefault_14 mk_X7_74 (c_T0 ht) (by decide) (Nat.le_refl _) (Nat.le_refl _) rfl rfl (Nat.le_of_ble_eq_true rfl) ?_
      refine mw_if_ne (tgt := 24) dX7_setDefault_17 (by decide) (fun c9 => absurd c9 (by first | decide | (rw [pk_us]; decide))) (fun _ => ?_)
      refine mw_iconst (v := 2) dX7_setDefault_20 (by decide) ?_
      refine mw_goto (tgt := 41) dX7_setDefault_21 (by decide) ?_
      refine gm_put dX7_setDefault_41 fk_X7_44 (by decide) (gm_h0 _) ?_
      refine mw_aload_n (i := 0) dX7_setDefault_44 rfl rfl ?_
      refine mw_get dX7_setDefault_45 fk_X7_44 gm_0 rfl ?_
      refine mw_if_le (tgt := 53) dX7_setDefault_48 (by decide) (fun c9 => absurd c9 (by first | decide | (rw [pk_us]; decide))) (fun _ => ?_)
      refine mw_iconst (v := 0) dX7_setDefault_51 (by decide) ?_
      exact mw_ireturn dX7_setDefault_52 ⟨_, rfl, rfl⟩ (rP_I hr rfl rfl rfl)
    · rw [if_neg ht]
      have ix := tix_ix (show j < 6 by omega) ht
      refine mw_aload_n (i := 0) dX7_setDefault_0 rfl rfl ?_
      refine mw_aload_n (i := 0) dX7_setDefault_1 rfl rfl ?_
      refine mw_iload_n (i := 1) dX7_setDefault_2 rfl rfl ?_
      refine mw_callVr dX7_setDefault_3 mk_X7_136 gm_0 rfl (c_S1 hr hs) (by decide) (Nat.le_refl _) (Nat.le_refl _) rfl rfl (Nat.le_of_ble_eq_true rfl) ?_
      refine mw_if_ne (tgt := 13) dX7_setDefault_6 (by decide) (fun _ => ?_) (fun c9 => absurd c9 (by first | decide | (rw [pk_us]; decide)))
      refine mw_iload_n (i := 2) dX7_setDefault_13 rfl rfl ?_
      refine mw_callSr dX7_setDefault_14 mk_X7_74 (c_T1 ht) (by decide) (Nat.le_refl _) (Nat.le_refl _) rfl rfl (Nat.le_of_ble_eq_true rfl) ?_
      refine mw_if_ne (tgt := 24) dX7_setDefault_17 (by decide) (fun _ => ?_) (fun c9 => absurd c9 (by first | decide | (rw [pk_us]; decide)))
      refine mw_aload_n (i := 0) dX7_setDefault_24 rfl rfl ?_
      refine mw_iload_n (i := 1) dX7_setDefault_25 rfl rfl ?_
      refine mw_iload_n (i := 2) dX7_setDefault_26 rfl rfl ?_
      refine mw_callVr dX7_setDefault_27 mk_X7_98 gm_0 rfl (c_kind (show j < 6 by omega) t) (by decide) (Nat.le_refl _) (Nat.le_refl _) rfl rfl (Nat.le_of_ble_eq_true rfl) ?_
      refine mw_callSr dX7_setDefault_30 mk_X7_120 (c_isInt (zKind A j t)) (by decide) (Nat.le_refl _) (Nat.le_refl _) rfl rfl (Nat.le_of_ble_eq_true rfl) ?_
      rw [zKind_cong hr.2.2.1]
      by_cases hi : zInt (zKind g.2.1 j t) = 0
      · rw [if_pos hi, hi]
        refine mw_if_eq (tgt := 40) dX7_setDefault_33 (by decide) (fun _ => ?_) (fun c9 => absurd c9 (by first | decide | (rw [pk_us]; decide)))
        refine mw_iconst (v := 3) dX7_setDefault_40 (by decide) ?_
        refine gm_put dX7_setDefault_41 fk_X7_44 (by decide) (gm_h0 _) ?_
        refine mw_aload_n (i := 0) dX7_setDefault_44 rfl rfl ?_
        refine mw_get dX7_setDefault_45 fk_X7_44 gm_0 rfl ?_
        refine mw_if_le (tgt := 53) dX7_setDefault_48 (by decide) (fun c9 => absurd c9 (by first | decide | (rw [pk_us]; decide))) (fun _ => ?_)
        refine mw_iconst (v := 0) dX7_setDefault_51 (by decide) ?_
        exact mw_ireturn dX7_setDefault_52 ⟨_, rfl, rfl⟩ (rP_I hr rfl rfl rfl)
      · rw [if_neg hi]
        refine mw_if_eq (tgt := 40) dX7_setDefault_33 (by decide) (fun c9 => absurd c9 hi) (fun _ => ?_)
        refine mw_iconst (v := 0) dX7_setDefault_36 (by decide) ?_
        refine mw_goto (tgt := 41) dX7_setDefault_37 (by decide) ?_
        refine gm_put dX7_setDefault_41 fk_X7_44 (by decide) (gm_h0 _) ?_
        refine mw_aload_n (i := 0) dX7_setDefault_44 rfl rfl ?_
        refine mw_get dX7_setDefault_45 fk_X7_44 gm_0 rfl ?_
        refine mw_if_le (tgt := 53) dX7_setDefault_48 (by decide) (fun _ => ?_) (fun c9 => absurd c9 (by first | decide | (rw [pk_us]; decide)))
        refine mw_aload_n (i := 0) dX7_setDefault_53 rfl rfl ?_
        refine mw_get dX7_setDefault_54 fk_X7_16 gm_0 rfl ?_
        refine mw_bipush (v := 32) dX7_setDefault_57 (by decide) ?_
        refine mw_iload_n (i := 1) dX7_setDefault_59 rfl rfl ?_
        refine mw_imul dX7_setDefault_60 ?_
        refine mw_iload_n (i := 2) dX7_setDefault_61 rfl rfl ?_
        refine mw_iadd dX7_setDefault_62 ?_
        refine mw_iald dX7_setDefault_63 gm_3 ix ?_
        refine mw_istore_4 dX7_setDefault_64 (by decide) ?_
        refine mw_aload_n (i := 0) dX7_setDefault_66 rfl rfl ?_
        refine mw_get dX7_setDefault_67 fk_X7_16 gm_0 rfl ?_
        refine mw_bipush (v := 32) dX7_setDefault_70 (by decide) ?_
        refine mw_iload_n (i := 1) dX7_setDefault_72 rfl rfl ?_
        refine mw_imul dX7_setDefault_73 ?_
        refine mw_iload_n (i := 2) dX7_setDefault_74 rfl rfl ?_
        refine mw_iadd dX7_setDefault_75 ?_
        refine mw_iload_n (i := 3) dX7_setDefault_76 rfl rfl ?_
        refine gm_st3 dX7_setDefault_77 ix ?_
        refine mw_iload (i := 4) dX7_setDefault_78 rfl ?_
        refine mw_ireturn dX7_setDefault_80 ⟨_, rfl, rfl⟩ ⟨?_, _, _, rfl, rfl, rR_K hr h6 (Nat.le_refl _) hr.1.2.1 hr.1.2.2.1 hr.2.1 ?_ ?_ ?_ (fun j h1 h2 => va_up_ne _ _ (by omega)) rfl⟩
        · rw [hr.2.2.2.2.1]
        · exact hr.2.2.1
        · exact hr.2.2.2.1
        · rw [va_up_self, va_up_self, hr.2.2.2.2.1]
end P1
