/-! the class side: schemas (class side) -/
theorem pl_X5 : plainName RX5 = true := by decide +kernel
theorem pl_X6 : plainName RX6 = true := by decide +kernel
/-- the type of the known fields of a kind; -1 of none -/
def zTyK (k : Int32) : Int32 := if k = 3 ∨ k = 4 then 2 else if k = 0 ∨ k = 1 then 0 else if k = 2 then 5 else -1
theorem zTyK_n : zTyK (-1) = -1 := by decide
theorem zHas_ty (k : Int32) : (if zTyK k = 2 then (1 : Int32) else 0) = zHas k := by
  unfold zTyK zHas
  by_cases h3 : k = 3
  · rw [h3]; decide
  · by_cases h4 : k = 4
    · rw [h4]; decide
    · have h34 : ¬ (k = 3 ∨ k = 4) := fun z => z.elim h3 h4
      rw [if_neg h34, if_neg h3, if_neg h4]
      by_cases h0 : k = 0 ∨ k = 1
      · rw [if_pos h0]; rfl
      · rw [if_neg h0]
        by_cases h2 : k = 2
        · rw [if_pos h2]; rfl
        · rw [if_neg h2]; rfl
/-- at a the schema s of the tables K, its arrays at ck, cd, cp; sa tells where schemas are -/
def isS (H : mw_H) (K : Nat → Nat → Int32) (sa : Nat → Nat) (s a ck cy cd cp : Nat) : Prop := mw_g H a = some (.inr (5, [.int (nI s), .ref ck, .ref cy, .ref cd, .ref cp])) ∧ (∃ f, mw_g H ck = some (.inl (0, (32, .inl f))) ∧ ∀ t, 1 ≤ t → t ≤ 31 → f t = K 1 (32 * s + t)) ∧ (∃ f, mw_g H cd = some (.inl (0, (32, .inl f))) ∧ ∀ t, 1 ≤ t → t ≤ 31 → K 1 (32 * s + t) ≠ -1 → f t = K 3 (32 * s + t)) ∧ (∃ f, mw_g H cp = some (.inl (4, (32, .inr (.inr (.inr (.inr f)))))) ∧ ∀ t, 1 ≤ t → t ≤ 31 → f t = if K 1 (32 * s + t) = 4 then some (sa (pn K s t)) else none) ∧ ∃ f, mw_g H cy = some (.inl (0, (32, .inl f))) ∧ ∀ t, 1 ≤ t → t ≤ 31 → f t = zTyK (K 1 (32 * s + t))
section C3
variable {H : mw_H} {K : Nat → Nat → Int32} {sa : Nat → Nat} {s a ck cy cd cp : Nat}
theorem y_isTag (t : Int32) : mw_Con mm_X6_isTag 0 0 0 [.int t] H (mw_ret (.int (zTag t)) H) := by
  refine gm_con pl_X6 rfl rfl (Nat.le_of_ble_eq_true rfl) rfl ?_
  refine mw_iload_n (i := 0) dX6_isTag_0 rfl rfl ?_
  refine mw_iconst (v := 1) dX6_isTag_1 (by decide) ?_
  refine mw_icmp_lt (tgt := 15) dX6_isTag_2 (by decide) (fun c_2 => ?_) (fun c_2 => ?_)
  · refine mw_iconst (v := 0) dX6_isTag_15 (by decide) ?_
    exact mw_ireturn dX6_isTag_16 ⟨_, rfl, rfl⟩ ⟨by unfold zTag zIn; first | rw [if_pos c_2] | rw [if_neg c_2, if_pos c_8] | rw [if_neg c_2, if_neg c_8], rfl⟩
  · refine mw_iload_n (i := 0) dX6_isTag_5 rfl rfl ?_
    refine mw_bipush (v := 31) dX6_isTag_6 (by decide) ?_
    refine mw_icmp_gt (tgt := 15) dX6_isTag_8 (by decide) (fun c_8 => ?_) (fun c_8 => ?_)
    · refine mw_iconst (v := 0) dX6_isTag_15 (by decide) ?_
      exact mw_ireturn dX6_isTag_16 ⟨_, rfl, rfl⟩ ⟨by unfold zTag zIn; first | rw [if_pos c_2] | rw [if_neg c_2, if_pos c_8] | rw [if_neg c_2, if_neg c_8], rfl⟩
    · refine mw_iconst (v := 1) dX6_isTag_11 (by decide) ?_
      refine mw_goto (tgt := 16) dX6_isTag_12 (by decide) ?_
      exact mw_ireturn dX6_isTag_16 ⟨_, rfl, rfl⟩ ⟨by unfold zTag zIn; first | rw [if_pos c_2] | rw [if_neg c_2, if_pos c_8] | rw [if_neg c_2, if_neg c_8], rfl⟩
theorem y_isIntKind (k : Int32) : mw_Con mm_X5_isIntKind 0 0 0 [.int k] H (mw_ret (.int (if k = 0 ∨ k = 1 ∨ k = 2 then 1 else 0)) H) := by
  refine gm_con pl_X5 rfl rfl (Nat.le_of_ble_eq_true rfl) rfl ?_
  refine mw_iload_n (i := 0) dX5_isIntKind_0 rfl rfl ?_
  refine mw_if_eq (tgt := 14) dX5_isIntKind_1 (by decide) (fun c_1 => ?_) (fun c_1 => ?_)
  · refine mw_iconst (v := 1) dX5_isIntKind_14 (by decide) ?_
    refine mw_goto (tgt := 19) dX5_isIntKind_15 (by decide) ?_
    exact mw_ireturn dX5_isIntKind_19 ⟨_, rfl, rfl⟩ ⟨by simp_all, rfl⟩
  · refine mw_iload_n (i := 0) dX5_isIntKind_4 rfl rfl ?_
    refine mw_iconst (v := 1) dX5_isIntKind_5 (by decide) ?_
    refine mw_icmp_eq (tgt := 14) dX5_isIntKind_6 (by decide) (fun c_6 => ?_) (fun c_6 => ?_)
    · refine mw_iconst (v := 1) dX5_isIntKind_14 (by decide) ?_
      refine mw_goto (tgt := 19) dX5_isIntKind_15 (by decide) ?_
      exact mw_ireturn dX5_isIntKind_19 ⟨_, rfl, rfl⟩ ⟨by simp_all, rfl⟩
    · refine mw_iload_n (i := 0) dX5_isIntKind_9 rfl rfl ?_
      refine mw_iconst (v := 2) dX5_isIntKind_10 (by decide) ?_
      refine mw_icmp_ne (tgt := 18) dX5_isIntKind_11 (by decide) (fun c_11 => ?_) (fun c_11 => ?_)
      · refine mw_iconst (v := 0) dX5_isIntKind_18 (by decide) ?_
        exact mw_ireturn dX5_isIntKind_19 ⟨_, rfl, rfl⟩ ⟨by simp_all, rfl⟩
      · refine mw_iconst (v := 1) dX5_isIntKind_14 (by decide) ?_
        refine mw_goto (tgt := 19) dX5_isIntKind_15 (by decide) ?_
        exact mw_ireturn dX5_isIntKind_19 ⟨_, rfl, rfl⟩ ⟨by simp_all, rfl⟩
theorem zInt_or (k : Int32) : (if k = 0 ∨ k = 1 ∨ k = 2 then (1 : Int32) else 0) = zInt k := by
  by_cases h : zInt k = 0
  · rw [h, if_neg]
    rintro (z | z | z) <;> (rw [z] at h; exact absurd h (by decide))
  · obtain ⟨h1, h2⟩ := zIn_1 h
    obtain ⟨j, hj, rfl⟩ := nI_of3 (M := 2) (n := 2) rfl (by decide) h1 h2
    have hj : j = 0 ∨ j = 1 ∨ j = 2 := by omega
    rcases hj with rfl | rfl | rfl
    · rfl
    · rfl
    · rfl
theorem y_kindAt (hS : isS H K sa s a ck cy cd cp) (t : Int32) : mw_Con mm_X5_kindAt 1 0 0 [.ref a, .int t] H (mw_ret (.int (zKind K s t)) H) := by
  obtain ⟨h_this, ⟨f, h_this_kinds, hf⟩, -⟩ := hS
  refine gm_con pl_X5 rfl rfl (Nat.le_of_ble_eq_true rfl) rfl ?_
  refine mw_iload_n (i := 1) dX5_kindAt_0 rfl rfl ?_
  refine mw_callSNr dX5_kindAt_1 mk_X5_35 (y_isTag t) (by decide) (Nat.le_refl _) (Nat.le_refl _) rfl rfl (Nat.le_of_ble_eq_true rfl) ?_
  by_cases ht : zTag t = 0
  · refine mw_if_eq (tgt := 16) dX5_kindAt_4 (by decide) (fun _ => ?_) (fun c9 => absurd c9 (fun z => z ht))
    refine mw_iconst (v := -1) dX5_kindAt_16 (by decide) ?_
    exact mw_ireturn dX5_kindAt_17 ⟨_, rfl, rfl⟩ ⟨by unfold zKind; rw [if_pos ht], rfl⟩
  · obtain ⟨j, j1, j2, rfl⟩ := zTag_nI ht
    refine mw_if_eq (tgt := 16) dX5_kindAt_4 (by decide) (fun c9 => absurd c9 ht) (fun _ => ?_)
    refine mw_aload_n (i := 0) dX5_kindAt_7 rfl rfl ?_
    refine mw_get dX5_kindAt_8 fk_X5_9 h_this rfl ?_
    refine mw_iload_n (i := 1) dX5_kindAt_11 rfl rfl ?_
    refine mw_iald dX5_kindAt_12 h_this_kinds (mw_ix rfl (show j < 32 by omega) (by decide)) ?_
    refine mw_goto (tgt := 17) dX5_kindAt_13 (by decide) ?_
    exact mw_ireturn dX5_kindAt_17 ⟨_, rfl, rfl⟩ ⟨by rw [zKind_of j1 j2, hf j j1 j2], rfl⟩
theorem y_hasInt (hS : isS H K sa s a ck cy cd cp) (t : Int32) : mw_Con mm_X5_hasInt 2 0 0 [.ref a, .int t] H (mw_ret (.int (zInt (zKind K s t))) H) := by
  have h_this := hS.1
  refine gm_con pl_X5 rfl rfl (Nat.le_of_ble_eq_true rfl) rfl ?_
  refine mw_aload_n (i := 0) dX5_hasInt_0 rfl rfl ?_
  refine mw_iload_n (i := 1) dX5_hasInt_1 rfl rfl ?_
  refine mw_callVr dX5_hasInt_2 mk_X5_43 h_this rfl (y_kindAt hS t) (by decide) (Nat.le_refl _) (Nat.le_refl _) rfl rfl (Nat.le_of_ble_eq_true rfl) ?_
  refine mw_callSr dX5_hasInt_5 mk_X5_46 (y_isIntKind (zKind K s t)) (by decide) (Nat.le_refl _) (Nat.le_refl _) rfl rfl (Nat.le_of_ble_eq_true rfl) ?_
  rw [zInt_or]
  exact mw_ireturn dX5_hasInt_8 ⟨_, rfl, nb_in _ _ _⟩ ⟨rfl, rfl⟩
theorem y_typeOfKind (k : Int32) : mw_Con mm_X5_typeOfKind 0 0 0 [.int k] H (mw_ret (.int (zTyK k)) H) := by
  refine gm_con pl_X5 rfl rfl (Nat.le_of_ble_eq_true rfl) rfl ?_
  refine mw_iload_n (i := 0) dX5_typeOfKind_0 rfl rfl ?_
  refine mw_iconst (v := 3) dX5_typeOfKind_1 (by decide) ?_
  refine mw_icmp_eq (tgt := 10) dX5_typeOfKind_2 (by decide) (fun c_2 => ?_) (fun c_2 => ?_)
  · refine mw_iconst (v := 2) dX5_typeOfKind_10 (by decide) ?_
    exact mw_ireturn dX5_typeOfKind_11 ⟨_, rfl, rfl⟩ ⟨by unfold zTyK; simp_all, rfl⟩
  · refine mw_iload_n (i := 0) dX5_typeOfKind_5 rfl rfl ?_
    refine mw_iconst (v := 4) dX5_typeOfKind_6 (by decide) ?_
    refine mw_icmp_ne (tgt := 12) dX5_typeOfKind_7 (by decide) (fun c_7 => ?_) (fun c_7 => ?_)
    · refine mw_iload_n (i := 0) dX5_typeOfKind_12 rfl rfl ?_
      refine mw_if_eq (tgt := 21) dX5_typeOfKind_13 (by decide) (fun c_13 => ?_) (fun c_13 => ?_)
      · refine mw_iconst (v := 0) dX5_typeOfKind_21 (by decide) ?_
        exact mw_ireturn dX5_typeOfKind_22 ⟨_, rfl, rfl⟩ ⟨by unfold zTyK; simp_all, rfl⟩
      · refine mw_iload_n (i := 0) dX5_typeOfKind_16 rfl rfl ?_
        refine mw_iconst (v := 1) dX5_typeOfKind_17 (by decide) ?_
        refine mw_icmp_ne (tgt := 23) dX5_typeOfKind_18 (by decide) (fun c_18 => ?_) (fun c_18 => ?_)
        · refine mw_iload_n (i := 0) dX5_typeOfKind_23 rfl rfl ?_
          refine mw_iconst (v := 2) dX5_typeOfKind_24 (by decide) ?_
          refine mw_icmp_ne (tgt := 32) dX5_typeOfKind_25 (by decide) (fun c_25 => ?_) (fun c_25 => ?_)
          · refine mw_iconst (v := -1) dX5_typeOfKind_32 (by decide) ?_
            exact mw_ireturn dX5_typeOfKind_33 ⟨_, rfl, rfl⟩ ⟨by unfold zTyK; simp_all, rfl⟩
          · refine mw_iconst (v := 5) dX5_typeOfKind_28 (by decide) ?_
            refine mw_goto (tgt := 33) dX5_typeOfKind_29 (by decide) ?_
            exact mw_ireturn dX5_typeOfKind_33 ⟨_, rfl, rfl⟩ ⟨by unfold zTyK; simp_all, rfl⟩
        · refine mw_iconst (v := 0) dX5_typeOfKind_21 (by decide) ?_
          exact mw_ireturn dX5_typeOfKind_22 ⟨_, rfl, rfl⟩ ⟨by unfold zTyK; simp_all, rfl⟩
    · refine mw_iconst (v := 2) dX5_typeOfKind_10 (by decide) ?_
      exact mw_ireturn dX5_typeOfKind_11 ⟨_, rfl, rfl⟩ ⟨by unfold zTyK; simp_all, rfl⟩
theorem y_typeAt (hS : isS H K sa s a ck cy cd cp) (t : Int32) : mw_Con mm_X5_typeAt 1 0 0 [.ref a, .int t] H (mw_ret (.int (zTyK (zKind K s t))) H) := by
  obtain ⟨h_this, -, -, -, f, h_this_types, hf⟩ := hS
  refine gm_con pl_X5 rfl rfl (Nat.le_of_ble_eq_true rfl) rfl ?_
  refine mw_iload_n (i := 1) dX5_typeAt_0 rfl rfl ?_
  refine mw_callSNr dX5_typeAt_1 mk_X5_35 (y_isTag t) (by decide) (Nat.le_refl _) (Nat.le_refl _) rfl rfl (Nat.le_of_ble_eq_true rfl) ?_
  by_cases ht : zTag t = 0
  · refine mw_if_eq (tgt := 16) dX5_typeAt_4 (by decide) (fun _ => ?_) (fun c9 => absurd c9 (fun z => z ht))
    refine mw_iconst (v := -1) dX5_typeAt_16 (by decide) ?_
    exact mw_ireturn dX5_typeAt_17 ⟨_, rfl, rfl⟩ ⟨by unfold zKind; rw [if_pos ht, zTyK_n], rfl⟩
  · obtain ⟨j, j1, j2, rfl⟩ := zTag_nI ht
    refine mw_if_eq (tgt := 16) dX5_typeAt_4 (by decide) (fun c9 => absurd c9 ht) (fun _ => ?_)
    refine mw_aload_n (i := 0) dX5_typeAt_7 rfl rfl ?_
    refine mw_get dX5_typeAt_8 fk_X5_15 h_this rfl ?_
    refine mw_iload_n (i := 1) dX5_typeAt_11 rfl rfl ?_
    refine mw_iald dX5_typeAt_12 h_this_types (mw_ix rfl (show j < 32 by omega) (by decide)) ?_
    refine mw_goto (tgt := 17) dX5_typeAt_13 (by decide) ?_
    exact mw_ireturn dX5_typeAt_17 ⟨_, rfl, rfl⟩ ⟨by rw [zKind_of j1 j2, hf j j1 j2], rfl⟩
theorem y_hasBytes (hS : isS H K sa s a ck cy cd cp) (t : Int32) : mw_Con mm_X5_hasBytes 2 0 0 [.ref a, .int t] H (mw_ret (.int (zHas (zKind K s t))) H) := by
  have h_this := hS.1
  refine gm_con pl_X5 rfl rfl (Nat.le_of_ble_eq_true rfl) rfl ?_
  refine mw_aload_n (i := 0) dX5_hasBytes_0 rfl rfl ?_
  refine mw_iload_n (i := 1) dX5_hasBytes_1 rfl rfl ?_
  refine mw_callVr dX5_hasBytes_2 mk_X5_49 h_this rfl (y_typeAt hS t) (by decide) (Nat.le_refl _) (Nat.le_refl _) rfl rfl (Nat.le_of_ble_eq_true rfl) ?_
  refine mw_iconst (v := 2) dX5_hasBytes_5 (by decide) ?_
  rw [← zHas_ty]
  by_cases e : zTyK (zKind K s t) = 2
  · rw [if_pos e]
    refine mw_icmp_ne (tgt := 13) dX5_hasBytes_6 (by decide) (fun c9 => absurd c9 (fun z => z e)) (fun _ => ?_)
    refine mw_iconst (v := 1) dX5_hasBytes_9 (by decide) ?_
    refine mw_goto (tgt := 14) dX5_hasBytes_10 (by decide) ?_
    exact mw_ireturn dX5_hasBytes_14 ⟨_, rfl, rfl⟩ ⟨rfl, rfl⟩
  · rw [if_neg e]
    refine mw_icmp_ne (tgt := 13) dX5_hasBytes_6 (by decide) (fun _ => ?_) (fun c9 => absurd c9 (fun z => e z))
    refine mw_iconst (v := 0) dX5_hasBytes_13 (by decide) ?_
    exact mw_ireturn dX5_hasBytes_14 ⟨_, rfl, rfl⟩ ⟨rfl, rfl⟩
theorem y_numberOf (hS : isS H K sa s a ck cy cd cp) (t v : Int32) : mw_Con mm_X5_numberOf 2 0 0 [.ref a, .int t, .int v] H (mw_ret (.int (zStA (zKind K s t) v)) H) := by
  have h_this := hS.1
  refine gm_con pl_X5 rfl rfl (Nat.le_of_ble_eq_true rfl) rfl ?_
  refine mw_aload_n (i := 0) dX5_numberOf_0 rfl rfl ?_
  refine mw_iload_n (i := 1) dX5_numberOf_1 rfl rfl ?_
  refine mw_callVr dX5_numberOf_2 mk_X5_43 h_this rfl (y_kindAt hS t) (by decide) (Nat.le_refl _) (Nat.le_refl _) rfl rfl (Nat.le_of_ble_eq_true rfl) ?_
  refine mw_iconst (v := 1) dX5_numberOf_5 (by decide) ?_
  refine mw_icmp_ne (tgt := 20) dX5_numberOf_6 (by decide) (fun c_6 => ?_) (fun c_6 => ?_)
  · refine mw_iload_n (i := 2) dX5_numberOf_20 rfl rfl ?_
    exact mw_ireturn dX5_numberOf_21 ⟨_, rfl, rfl⟩ ⟨by simp_all [zStA], rfl⟩
  · refine mw_iload_n (i := 2) dX5_numberOf_9 rfl rfl ?_
    refine mw_iconst (v := 1) dX5_numberOf_10 (by decide) ?_
    refine mw_ishl dX5_numberOf_11 ?_
    refine mw_iload_n (i := 2) dX5_numberOf_12 rfl rfl ?_
    refine mw_bipush (v := 31) dX5_numberOf_13 (by decide) ?_
    refine mw_ishr dX5_numberOf_15 ?_
    refine mw_ixor dX5_numberOf_16 ?_
    refine mw_goto (tgt := 21) dX5_numberOf_17 (by decide) ?_
    exact mw_ireturn dX5_numberOf_21 ⟨_, rfl, rfl⟩ ⟨by simp_all [zStA], rfl⟩
theorem y_valueOf (hS : isS H K sa s a ck cy cd cp) (t v : Int32) : mw_Con mm_X5_valueOf 2 0 0 [.ref a, .int t, .int v] H (mw_ret (.int (zStF (zKind K s t) v)) H) := by
  have h_this := hS.1
  refine gm_con pl_X5 rfl rfl (Nat.le_of_ble_eq_true rfl) rfl ?_
  refine mw_aload_n (i := 0) dX5_valueOf_0 rfl rfl ?_
  refine mw_iload_n (i := 1) dX5_valueOf_1 rfl rfl ?_
  refine mw_callVr dX5_valueOf_2 mk_X5_43 h_this rfl (y_kindAt hS t) (by decide) (Nat.le_refl _) (Nat.le_refl _) rfl rfl (Nat.le_of_ble_eq_true rfl) ?_
  refine mw_iconst (v := 1) dX5_valueOf_5 (by decide) ?_
  refine mw_icmp_ne (tgt := 20) dX5_valueOf_6 (by decide) (fun c_6 => ?_) (fun c_6 => ?_)
  · refine mw_iload_n (i := 2) dX5_valueOf_20 rfl rfl ?_
    exact mw_ireturn dX5_valueOf_21 ⟨_, rfl, rfl⟩ ⟨by simp_all [zStF], rfl⟩
  · refine mw_iload_n (i := 2) dX5_valueOf_9 rfl rfl ?_
    refine mw_iconst (v := 1) dX5_valueOf_10 (by decide) ?_
    refine mw_iushr dX5_valueOf_11 rfl ?_
    refine mw_iload_n (i := 2) dX5_valueOf_12 rfl rfl ?_
    refine mw_iconst (v := 1) dX5_valueOf_13 (by decide) ?_
    refine mw_iand dX5_valueOf_14 ?_
    refine mw_ineg dX5_valueOf_15 ?_
    refine mw_ixor dX5_valueOf_16 ?_
    refine mw_goto (tgt := 21) dX5_valueOf_17 (by decide) ?_
    exact mw_ireturn dX5_valueOf_21 ⟨_, rfl, rfl⟩ ⟨by simp_all [zStF], rfl⟩
end C3
