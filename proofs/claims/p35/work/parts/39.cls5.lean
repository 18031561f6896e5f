/-! the class side: what a schema knows (class side) -/
section C4
variable {H : mw_H} {K : Nat → Nat → Int32} {sa : Nat → Nat} {s a ck cy cd cp : Nat}
theorem y_isIntKindZ (k : Int32) : mw_Con mm_X5_isIntKind 0 0 0 [.int k] H (mw_ret (.int (zInt k)) H) := by
  have h := y_isIntKind (H := H) k
  rw [zInt_or] at h
  exact h
theorem zKind_ok {ns : Nat} (hK : okK K ns) (hs : s < ns) (t : Int32) : zKind K s t = -1 ∨ ∃ k : Nat, k ≤ 4 ∧ zKind K s t = nI k := by
  by_cases ht : zTag t = 0
  · exact Or.inl (if_pos ht)
  · obtain ⟨j, j1, j2, rfl⟩ := zTag_nI ht
    rw [zKind_of j1 j2]
    exact hK s j hs j1 j2
theorem zKn_ty {ns : Nat} (hK : okK K ns) (hs : s < ns) {x : af} (hx : okf x) : zTyK (zKind K s (nI x.1)) = nI x.2.1 ↔ knb K s x = true := by
  obtain ⟨-, -, h3, -⟩ := hx
  unfold knb zKn
  rcases zKind_ok hK hs (nI x.1) with h | ⟨k, hk, h⟩
  · rw [h]
    rcases h3 with e | e | e <;> rw [e] <;> decide
  · rw [h]
    have hk : k = 0 ∨ k = 1 ∨ k = 2 ∨ k = 3 ∨ k = 4 := by omega
    rcases hk with rfl | rfl | rfl | rfl | rfl <;> (rcases h3 with e | e | e <;> rw [e] <;> decide)
theorem y_defaultAt (hS : isS H K sa s a ck cy cd cp) {j : Nat} (j1 : 1 ≤ j) (j2 : j ≤ 31) (hk : zKind K s (nI j) ≠ -1) : mw_Con mm_X5_defaultAt 1 0 0 [.ref a, .int (nI j)] H (mw_ret (.int (K 3 (32 * s + j))) H) := by
  obtain ⟨h_this, -, ⟨f, h_this_defaults, hf⟩, -⟩ := hS
  have ht : ¬ zTag (nI j) = 0 := by rw [zTag_of j1 j2]; decide
  refine gm_con pl_X5 rfl rfl (Nat.le_of_ble_eq_true rfl) rfl ?_
  refine mw_iload_n (i := 1) dX5_defaultAt_0 rfl rfl ?_
  refine mw_callSNr dX5_defaultAt_1 mk_X5_35 (y_isTag (nI j)) (by decide) (Nat.le_refl _) (Nat.le_refl _) rfl rfl (Nat.le_of_ble_eq_true rfl) ?_
  refine mw_if_eq (tgt := 16) dX5_defaultAt_4 (by decide) (fun c9 => absurd c9 ht) (fun _ => ?_)
  refine mw_aload_n (i := 0) dX5_defaultAt_7 rfl rfl ?_
  refine mw_get dX5_defaultAt_8 fk_X5_18 h_this rfl ?_
  refine mw_iload_n (i := 1) dX5_defaultAt_11 rfl rfl ?_
  refine mw_iald dX5_defaultAt_12 h_this_defaults (mw_ix rfl (show j < 32 by omega) (by decide)) ?_
  refine mw_goto (tgt := 17) dX5_defaultAt_13 (by decide) ?_
  exact mw_ireturn dX5_defaultAt_17 ⟨_, rfl, rfl⟩ ⟨by rw [hf j j1 j2 (fun z => hk ((zKind_of (K := K) (s := s) j1 j2).trans z))], rfl⟩
theorem zInt_ne {k : Int32} (h : zInt k ≠ 0) : k ≠ -1 := by
  intro z
  rw [z] at h
  exact h (by decide)
theorem y_isDefault (hS : isS H K sa s a ck cy cd cp) {j : Nat} (j1 : 1 ≤ j) (j2 : j ≤ 31) (x : af) : mw_Con mm_X5_isDefault 3 0 0 [.ref a, .int (nI j), .int (nI x.2.2.1)] H (mw_ret (.int (if dfb K s j x then 1 else 0)) H) := by
  have h_this := hS.1
  refine gm_con pl_X5 rfl rfl (Nat.le_of_ble_eq_true rfl) rfl ?_
  refine mw_aload_n (i := 0) dX5_isDefault_0 rfl rfl ?_
  refine mw_iload_n (i := 1) dX5_isDefault_1 rfl rfl ?_
  refine mw_callVr dX5_isDefault_2 mk_X5_52 h_this rfl (y_hasInt hS (nI j)) (by decide) (Nat.le_refl _) (Nat.le_refl _) rfl rfl (Nat.le_of_ble_eq_true rfl) ?_
  unfold dfb
  by_cases h1 : zInt (zKind K s (nI j)) = 0
  · rw [decide_eq_false (fun z => z h1), Bool.false_and]
    refine mw_if_eq (tgt := 26) dX5_isDefault_5 (by decide) (fun _ => ?_) (fun c9 => absurd c9 (fun z => z h1))
    refine mw_iconst (v := 0) dX5_isDefault_26 (by decide) ?_
    exact mw_ireturn dX5_isDefault_27 ⟨_, rfl, rfl⟩ ⟨rfl, rfl⟩
  · refine mw_if_eq (tgt := 26) dX5_isDefault_5 (by decide) (fun c9 => absurd c9 h1) (fun _ => ?_)
    refine mw_aload_n (i := 0) dX5_isDefault_8 rfl rfl ?_
    refine mw_iload_n (i := 1) dX5_isDefault_9 rfl rfl ?_
    refine mw_iload_n (i := 2) dX5_isDefault_10 rfl rfl ?_
    refine mw_callVr dX5_isDefault_11 mk_X5_55 h_this rfl (y_valueOf hS (nI j) (nI x.2.2.1)) (by decide) (Nat.le_refl _) (Nat.le_refl _) rfl rfl (Nat.le_of_ble_eq_true rfl) ?_
    refine mw_aload_n (i := 0) dX5_isDefault_14 rfl rfl ?_
    refine mw_iload_n (i := 1) dX5_isDefault_15 rfl rfl ?_
    refine mw_callVr dX5_isDefault_16 mk_X5_59 h_this rfl (y_defaultAt hS j1 j2 (zInt_ne h1)) (by decide) (Nat.le_refl _) (Nat.le_refl _) rfl rfl (Nat.le_of_ble_eq_true rfl) ?_
    by_cases h2 : zStF (zKind K s (nI j)) (nI x.2.2.1) = K 3 (32 * s + j)
    · rw [decide_eq_true h2, decide_eq_true h1]
      refine mw_icmp_ne (tgt := 26) dX5_isDefault_19 (by decide) (fun c9 => absurd c9 (fun z => z h2)) (fun _ => ?_)
      refine mw_iconst (v := 1) dX5_isDefault_22 (by decide) ?_
      refine mw_goto (tgt := 27) dX5_isDefault_23 (by decide) ?_
      exact mw_ireturn dX5_isDefault_27 ⟨_, rfl, rfl⟩ ⟨rfl, rfl⟩
    · rw [decide_eq_false h2, Bool.and_false]
      refine mw_icmp_ne (tgt := 26) dX5_isDefault_19 (by decide) (fun _ => ?_) (fun c9 => absurd c9 (fun z => h2 z))
      refine mw_iconst (v := 0) dX5_isDefault_26 (by decide) ?_
      exact mw_ireturn dX5_isDefault_27 ⟨_, rfl, rfl⟩ ⟨rfl, rfl⟩
theorem y_differsAt {o a2 ck2 cy2 cd2 cp2 : Nat} (hS : isS H K sa s a ck cy cd cp) (hS2 : isS H K sa o a2 ck2 cy2 cd2 cp2) (t : Nat) : mw_Con mm_X5_differsAt 2 0 0 [.ref a, .ref a2, .int (nI t)] H (mw_ret (.int (if dif K s o t then 1 else 0)) H) := by
  have h_this := hS.1
  have h_p1 := hS2.1
  refine gm_con pl_X5 rfl rfl (Nat.le_of_ble_eq_true rfl) rfl ?_
  refine mw_aload_n (i := 0) dX5_differsAt_0 rfl rfl ?_
  refine mw_iload_n (i := 2) dX5_differsAt_1 rfl rfl ?_
  refine mw_callVr dX5_differsAt_2 mk_X5_43 h_this rfl (y_kindAt hS (nI t)) (by decide) (Nat.le_refl _) (Nat.le_refl _) rfl rfl (Nat.le_of_ble_eq_true rfl) ?_
  refine mw_istore_3 dX5_differsAt_5 (by decide) ?_
  refine mw_aload_n (i := 1) dX5_differsAt_6 rfl rfl ?_
  refine mw_iload_n (i := 2) dX5_differsAt_7 rfl rfl ?_
  refine mw_callVr dX5_differsAt_8 mk_X5_43 h_p1 rfl (y_kindAt hS2 (nI t)) (by decide) (Nat.le_refl _) (Nat.le_refl _) rfl rfl (Nat.le_of_ble_eq_true rfl) ?_
  refine mw_istore_4 dX5_differsAt_11 (by decide) ?_
  refine mw_iload_n (i := 3) dX5_differsAt_13 rfl rfl ?_
  refine mw_iconst (v := -1) dX5_differsAt_14 (by decide) ?_
  refine mw_icmp_eq (tgt := 28) dX5_differsAt_15 (by decide) (fun c_15 => ?_) (fun c_15 => ?_)
  · refine mw_iconst (v := 0) dX5_differsAt_28 (by decide) ?_
    refine mw_istore_5 dX5_differsAt_29 (by decide) ?_
    refine mw_iload (i := 5) dX5_differsAt_31 rfl ?_
    refine mw_if_eq (tgt := 61) dX5_differsAt_33 (by decide) (fun c_33 => ?_) (fun c_33 => ?_)
    · refine mw_iconst (v := 0) dX5_differsAt_61 (by decide) ?_
      exact mw_ireturn dX5_differsAt_62 ⟨_, rfl, rfl⟩ ⟨by unfold dif; simp_all, rfl⟩
    · refine mw_iload_n (i := 3) dX5_differsAt_36 rfl rfl ?_
      refine mw_iload (i := 4) dX5_differsAt_37 rfl ?_
      refine mw_icmp_eq (tgt := 61) dX5_differsAt_39 (by decide) (fun c_39 => ?_) (fun c_39 => ?_)
      · refine mw_iconst (v := 0) dX5_differsAt_61 (by decide) ?_
        exact mw_ireturn dX5_differsAt_62 ⟨_, rfl, rfl⟩ ⟨by unfold dif; simp_all, rfl⟩
      · refine mw_iload_n (i := 3) dX5_differsAt_42 rfl rfl ?_
        refine mw_callSr dX5_differsAt_43 mk_X5_46 (y_isIntKindZ (zKind K s (nI t))) (by decide) (Nat.le_refl _) (Nat.le_refl _) rfl rfl (Nat.le_of_ble_eq_true rfl) ?_
        refine mw_if_ne (tgt := 57) dX5_differsAt_46 (by decide) (fun c_46 => ?_) (fun c_46 => ?_)
        · refine mw_iconst (v := 1) dX5_differsAt_57 (by decide) ?_
          refine mw_goto (tgt := 62) dX5_differsAt_58 (by decide) ?_
          exact mw_ireturn dX5_differsAt_62 ⟨_, rfl, rfl⟩ ⟨by unfold dif; simp_all, rfl⟩
        · refine mw_iload (i := 4) dX5_differsAt_49 rfl ?_
          refine mw_callSr dX5_differsAt_51 mk_X5_46 (y_isIntKindZ (zKind K o (nI t))) (by decide) (Nat.le_refl _) (Nat.le_refl _) rfl rfl (Nat.le_of_ble_eq_true rfl) ?_
          refine mw_if_eq (tgt := 61) dX5_differsAt_54 (by decide) (fun c_54 => ?_) (fun c_54 => ?_)
          · refine mw_iconst (v := 0) dX5_differsAt_61 (by decide) ?_
            exact mw_ireturn dX5_differsAt_62 ⟨_, rfl, rfl⟩ ⟨by unfold dif; simp_all, rfl⟩
          · refine mw_iconst (v := 1) dX5_differsAt_57 (by decide) ?_
            refine mw_goto (tgt := 62) dX5_differsAt_58 (by decide) ?_
            exact mw_ireturn dX5_differsAt_62 ⟨_, rfl, rfl⟩ ⟨by unfold dif; simp_all, rfl⟩
  · refine mw_iload (i := 4) dX5_differsAt_18 rfl ?_
    refine mw_iconst (v := -1) dX5_differsAt_20 (by decide) ?_
    refine mw_icmp_eq (tgt := 28) dX5_differsAt_21 (by decide) (fun c_21 => ?_) (fun c_21 => ?_)
    · refine mw_iconst (v := 0) dX5_differsAt_28 (by decide) ?_
      refine mw_istore_5 dX5_differsAt_29 (by decide) ?_
      refine mw_iload (i := 5) dX5_differsAt_31 rfl ?_
      refine mw_if_eq (tgt := 61) dX5_differsAt_33 (by decide) (fun c_33 => ?_) (fun c_33 => ?_)
      · refine mw_iconst (v := 0) dX5_differsAt_61 (by decide) ?_
        exact mw_ireturn dX5_differsAt_62 ⟨_, rfl, rfl⟩ ⟨by unfold dif; simp_all, rfl⟩
      · refine mw_iload_n (i := 3) dX5_differsAt_36 rfl rfl ?_
        refine mw_iload (i := 4) dX5_differsAt_37 rfl ?_
        refine mw_icmp_eq (tgt := 61) dX5_differsAt_39 (by decide) (fun c_39 => ?_) (fun c_39 => ?_)
        · refine mw_iconst (v := 0) dX5_differsAt_61 (by decide) ?_
          exact mw_ireturn dX5_differsAt_62 ⟨_, rfl, rfl⟩ ⟨by unfold dif; simp_all, rfl⟩
        · refine mw_iload_n (i := 3) dX5_differsAt_42 rfl rfl ?_
          refine mw_callSr dX5_differsAt_43 mk_X5_46 (y_isIntKindZ (zKind K s (nI t))) (by decide) (Nat.le_refl _) (Nat.le_refl _) rfl rfl (Nat.le_of_ble_eq_true rfl) ?_
          refine mw_if_ne (tgt := 57) dX5_differsAt_46 (by decide) (fun c_46 => ?_) (fun c_46 => ?_)
          · refine mw_iconst (v := 1) dX5_differsAt_57 (by decide) ?_
            refine mw_goto (tgt := 62) dX5_differsAt_58 (by decide) ?_
            exact mw_ireturn dX5_differsAt_62 ⟨_, rfl, rfl⟩ ⟨by unfold dif; simp_all, rfl⟩
          · refine mw_iload (i := 4) dX5_differsAt_49 rfl ?_
            refine mw_callSr dX5_differsAt_51 mk_X5_46 (y_isIntKindZ (zKind K o (nI t))) (by decide) (Nat.le_refl _) (Nat.le_refl _) rfl rfl (Nat.le_of_ble_eq_true rfl) ?_
            refine mw_if_eq (tgt := 61) dX5_differsAt_54 (by decide) (fun c_54 => ?_) (fun c_54 => ?_)
            · refine mw_iconst (v := 0) dX5_differsAt_61 (by decide) ?_
              exact mw_ireturn dX5_differsAt_62 ⟨_, rfl, rfl⟩ ⟨by unfold dif; simp_all, rfl⟩
            · refine mw_iconst (v := 1) dX5_differsAt_57 (by decide) ?_
              refine mw_goto (tgt := 62) dX5_differsAt_58 (by decide) ?_
              exact mw_ireturn dX5_differsAt_62 ⟨_, rfl, rfl⟩ ⟨by unfold dif; simp_all, rfl⟩
    · refine mw_iconst (v := 1) dX5_differsAt_24 (by decide) ?_
      refine mw_goto (tgt := 29) dX5_differsAt_25 (by decide) ?_
      refine mw_istore_5 dX5_differsAt_29 (by decide) ?_
      refine mw_iload (i := 5) dX5_differsAt_31 rfl ?_
      refine mw_if_eq (tgt := 61) dX5_differsAt_33 (by decide) (fun c_33 => ?_) (fun c_33 => ?_)
      · refine mw_iconst (v := 0) dX5_differsAt_61 (by decide) ?_
        exact mw_ireturn dX5_differsAt_62 ⟨_, rfl, rfl⟩ ⟨by unfold dif; simp_all, rfl⟩
      · refine mw_iload_n (i := 3) dX5_differsAt_36 rfl rfl ?_
        refine mw_iload (i := 4) dX5_differsAt_37 rfl ?_
        refine mw_icmp_eq (tgt := 61) dX5_differsAt_39 (by decide) (fun c_39 => ?_) (fun c_39 => ?_)
        · refine mw_iconst (v := 0) dX5_differsAt_61 (by decide) ?_
          exact mw_ireturn dX5_differsAt_62 ⟨_, rfl, rfl⟩ ⟨by unfold dif; simp_all, rfl⟩
        · refine mw_iload_n (i := 3) dX5_differsAt_42 rfl rfl ?_
          refine mw_callSr dX5_differsAt_43 mk_X5_46 (y_isIntKindZ (zKind K s (nI t))) (by decide) (Nat.le_refl _) (Nat.le_refl _) rfl rfl (Nat.le_of_ble_eq_true rfl) ?_
          refine mw_if_ne (tgt := 57) dX5_differsAt_46 (by decide) (fun c_46 => ?_) (fun c_46 => ?_)
          · refine mw_iconst (v := 1) dX5_differsAt_57 (by decide) ?_
            refine mw_goto (tgt := 62) dX5_differsAt_58 (by decide) ?_
            exact mw_ireturn dX5_differsAt_62 ⟨_, rfl, rfl⟩ ⟨by unfold dif; simp_all, rfl⟩
          · refine mw_iload (i := 4) dX5_differsAt_49 rfl ?_
            refine mw_callSr dX5_differsAt_51 mk_X5_46 (y_isIntKindZ (zKind K o (nI t))) (by decide) (Nat.le_refl _) (Nat.le_refl _) rfl rfl (Nat.le_of_ble_eq_true rfl) ?_
            refine mw_if_eq (tgt := 61) dX5_differsAt_54 (by decide) (fun c_54 => ?_) (fun c_54 => ?_)
            · refine mw_iconst (v := 0) dX5_differsAt_61 (by decide) ?_
              exact mw_ireturn dX5_differsAt_62 ⟨_, rfl, rfl⟩ ⟨by unfold dif; simp_all, rfl⟩
            · refine mw_iconst (v := 1) dX5_differsAt_57 (by decide) ?_
              refine mw_goto (tgt := 62) dX5_differsAt_58 (by decide) ?_
              exact mw_ireturn dX5_differsAt_62 ⟨_, rfl, rfl⟩ ⟨by unfold dif; simp_all, rfl⟩
end C4
