/-! the class side: what fields tell (class side) -/
section C10
variable {H : mw_H} {a src cs : Nat} {X : List Nat} {L : List af} {E : Nat → Nat} {pb pa : Int32}
theorem y_isPlace {k n j : Nat} {nx lm : Int32} (h_this : mw_g H a = some (fV a n src nx lm pb pa)) (hn : n ≤ 60) (hj : j < n) : mw_Con mm_X2_isPlace 0 0 0 [.ref a, .int (nI j)] H (mw_ret (.int 1) H) := by
  refine gm_con pl_X2 rfl rfl (Nat.le_of_ble_eq_true rfl) rfl ?_
  refine mw_iload_n (i := 1) dX2_isPlace_0 rfl rfl ?_
  refine mw_if_lt (tgt := 22) dX2_isPlace_1 (by decide) (fun c9 => absurd c9 (nI_pos (by omega))) (fun _ => ?_)
  refine mw_iload_n (i := 1) dX2_isPlace_4 rfl rfl ?_
  refine mw_aload_n (i := 0) dX2_isPlace_5 rfl rfl ?_
  refine mw_get dX2_isPlace_6 fk_X2_41 h_this rfl ?_
  refine mw_icmp_ge (tgt := 22) dX2_isPlace_9 (by decide) (fun c9 => absurd c9 (nI_ge hj (by omega))) (fun _ => ?_)
  refine mw_iload_n (i := 1) dX2_isPlace_12 rfl rfl ?_
  refine mw_bipush (v := 60) dX2_isPlace_13 (by decide) ?_
  refine mw_icmp_ge (tgt := 22) dX2_isPlace_15 (by decide) (fun c9 => absurd c9 (show ¬ nI 60 ≤ nI j from nI_ge (by omega) (by decide))) (fun _ => ?_)
  refine mw_iconst (v := 1) dX2_isPlace_18 (by decide) ?_
  refine mw_goto (tgt := 23) dX2_isPlace_19 (by decide) ?_
  exact mw_ireturn dX2_isPlace_23 ⟨_, rfl, rfl⟩ ⟨rfl, rfl⟩
theorem y_isPlaceN : mw_Con mm_X2_isPlace 0 0 0 [.ref a, .int (-1)] H (mw_ret (.int 0) H) := by
  refine gm_con pl_X2 rfl rfl (Nat.le_of_ble_eq_true rfl) rfl ?_
  refine mw_iload_n (i := 1) dX2_isPlace_0 rfl rfl ?_
  refine mw_if_lt (tgt := 22) dX2_isPlace_1 (by decide) (fun _ => ?_) (fun c9 => absurd c9 (by first | decide | (rw [pk_us]; decide)))
  refine mw_iconst (v := 0) dX2_isPlace_22 (by decide) ?_
  exact mw_ireturn dX2_isPlace_23 ⟨_, rfl, rfl⟩ ⟨rfl, rfl⟩
theorem y_fcount (hI : isF H a src X L E pb pa) : mw_Con mm_X2_count 0 0 0 [.ref a] H (mw_ret (.int (nI L.length)) H) := by
  obtain ⟨hl, nx, lm, f1, f2, f3, f4, h_this, -, -⟩ := hI
  refine gm_con pl_X2 rfl rfl (Nat.le_of_ble_eq_true rfl) rfl ?_
  refine mw_aload_n (i := 0) dX2_count_0 rfl rfl ?_
  refine mw_get dX2_count_1 fk_X2_41 h_this rfl ?_
  exact mw_ireturn dX2_count_4 ⟨_, rfl, rfl⟩ ⟨rfl, rfl⟩
theorem y_problem (hI : isF H a src X L E pb pa) : mw_Con mm_X2_problem 0 0 0 [.ref a] H (mw_ret (.int pb) H) := by
  obtain ⟨hl, nx, lm, f1, f2, f3, f4, h_this, -, -⟩ := hI
  refine gm_con pl_X2 rfl rfl (Nat.le_of_ble_eq_true rfl) rfl ?_
  refine mw_aload_n (i := 0) dX2_problem_0 rfl rfl ?_
  refine mw_get dX2_problem_1 fk_X2_44 h_this rfl ?_
  exact mw_ireturn dX2_problem_4 ⟨_, rfl, rfl⟩ ⟨rfl, rfl⟩
theorem y_problemAt (hI : isF H a src X L E pb pa) : mw_Con mm_X2_problemAt 0 0 0 [.ref a] H (mw_ret (.int pa) H) := by
  obtain ⟨hl, nx, lm, f1, f2, f3, f4, h_this, -, -⟩ := hI
  refine gm_con pl_X2 rfl rfl (Nat.le_of_ble_eq_true rfl) rfl ?_
  refine mw_aload_n (i := 0) dX2_problemAt_0 rfl rfl ?_
  refine mw_get dX2_problemAt_1 fk_X2_31 h_this rfl ?_
  exact mw_ireturn dX2_problemAt_4 ⟨_, rfl, rfl⟩ ⟨rfl, rfl⟩
theorem y_tagAt (hI : isF H a src X L E pb pa) {j : Nat} (hj : j < L.length) : mw_Con mm_X2_tagAt 1 0 0 [.ref a, .int (nI j)] H (mw_ret (.int (nI (ga L j).1)) H) := by
  obtain ⟨hl, nx, lm, f1, f2, f3, f4, h_this, ⟨h_this_tags, h_this_types, h_this_numbers, h_this_ends⟩, hh⟩ := hI
  refine gm_con pl_X2 rfl rfl (Nat.le_of_ble_eq_true rfl) rfl ?_
  refine mw_aload_n (i := 0) dX2_tagAt_0 rfl rfl ?_
  refine mw_iload_n (i := 1) dX2_tagAt_1 rfl rfl ?_
  refine mw_callVr dX2_tagAt_2 mk_X2_50 h_this rfl (y_isPlace (k := 0) h_this hl hj) (by decide) (Nat.le_refl _) (Nat.le_refl _) rfl rfl (Nat.le_of_ble_eq_true rfl) ?_
  refine mw_if_eq (tgt := 17) dX2_tagAt_5 (by decide) (fun c9 => absurd c9 (by first | decide | (rw [pk_us]; decide))) (fun _ => ?_)
  refine mw_aload_n (i := 0) dX2_tagAt_8 rfl rfl ?_
  refine mw_get dX2_tagAt_9 fk_X2_9 h_this rfl ?_
  refine mw_iload_n (i := 1) dX2_tagAt_12 rfl rfl ?_
  refine mw_iald dX2_tagAt_13 h_this_tags (mw_ix rfl (show j < 60 by omega) (by decide)) ?_
  refine mw_goto (tgt := 18) dX2_tagAt_14 (by decide) ?_
  exact mw_ireturn dX2_tagAt_18 ⟨_, rfl, rfl⟩ ⟨by rw [(hh j hj).1], rfl⟩
theorem y_ftypeAt (hI : isF H a src X L E pb pa) {j : Nat} (hj : j < L.length) : mw_Con mm_X2_typeAt 1 0 0 [.ref a, .int (nI j)] H (mw_ret (.int (nI (ga L j).2.1)) H) := by
  obtain ⟨hl, nx, lm, f1, f2, f3, f4, h_this, ⟨h_this_tags, h_this_types, h_this_numbers, h_this_ends⟩, hh⟩ := hI
  refine gm_con pl_X2 rfl rfl (Nat.le_of_ble_eq_true rfl) rfl ?_
  refine mw_aload_n (i := 0) dX2_typeAt_0 rfl rfl ?_
  refine mw_iload_n (i := 1) dX2_typeAt_1 rfl rfl ?_
  refine mw_callVr dX2_typeAt_2 mk_X2_50 h_this rfl (y_isPlace (k := 0) h_this hl hj) (by decide) (Nat.le_refl _) (Nat.le_refl _) rfl rfl (Nat.le_of_ble_eq_true rfl) ?_
  refine mw_if_eq (tgt := 17) dX2_typeAt_5 (by decide) (fun c9 => absurd c9 (by first | decide | (rw [pk_us]; decide))) (fun _ => ?_)
  refine mw_aload_n (i := 0) dX2_typeAt_8 rfl rfl ?_
  refine mw_get dX2_typeAt_9 fk_X2_15 h_this rfl ?_
  refine mw_iload_n (i := 1) dX2_typeAt_12 rfl rfl ?_
  refine mw_iald dX2_typeAt_13 h_this_types (mw_ix rfl (show j < 60 by omega) (by decide)) ?_
  refine mw_goto (tgt := 18) dX2_typeAt_14 (by decide) ?_
  exact mw_ireturn dX2_typeAt_18 ⟨_, rfl, rfl⟩ ⟨by rw [(hh j hj).2.1], rfl⟩
theorem y_numberAt (hI : isF H a src X L E pb pa) {j : Nat} (hj : j < L.length) : mw_Con mm_X2_numberAt 1 0 0 [.ref a, .int (nI j)] H (mw_ret (.int (nI (ga L j).2.2.1)) H) := by
  obtain ⟨hl, nx, lm, f1, f2, f3, f4, h_this, ⟨h_this_tags, h_this_types, h_this_numbers, h_this_ends⟩, hh⟩ := hI
  refine gm_con pl_X2 rfl rfl (Nat.le_of_ble_eq_true rfl) rfl ?_
  refine mw_aload_n (i := 0) dX2_numberAt_0 rfl rfl ?_
  refine mw_iload_n (i := 1) dX2_numberAt_1 rfl rfl ?_
  refine mw_callVr dX2_numberAt_2 mk_X2_50 h_this rfl (y_isPlace (k := 0) h_this hl hj) (by decide) (Nat.le_refl _) (Nat.le_refl _) rfl rfl (Nat.le_of_ble_eq_true rfl) ?_
  refine mw_if_eq (tgt := 17) dX2_numberAt_5 (by decide) (fun c9 => absurd c9 (by first | decide | (rw [pk_us]; decide))) (fun _ => ?_)
  refine mw_aload_n (i := 0) dX2_numberAt_8 rfl rfl ?_
  refine mw_get dX2_numberAt_9 fk_X2_18 h_this rfl ?_
  refine mw_iload_n (i := 1) dX2_numberAt_12 rfl rfl ?_
  refine mw_iald dX2_numberAt_13 h_this_numbers (mw_ix rfl (show j < 60 by omega) (by decide)) ?_
  refine mw_goto (tgt := 18) dX2_numberAt_14 (by decide) ?_
  exact mw_ireturn dX2_numberAt_18 ⟨_, rfl, rfl⟩ ⟨by rw [(hh j hj).2.2.1], rfl⟩
theorem y_endAt (hI : isF H a src X L E pb pa) {j : Nat} (hj : j < L.length) : mw_Con mm_X2_endAt 1 0 0 [.ref a, .int (nI j)] H (mw_ret (.int (nI (E j))) H) := by
  obtain ⟨hl, nx, lm, f1, f2, f3, f4, h_this, ⟨h_this_tags, h_this_types, h_this_numbers, h_this_ends⟩, hh⟩ := hI
  refine gm_con pl_X2 rfl rfl (Nat.le_of_ble_eq_true rfl) rfl ?_
  refine mw_aload_n (i := 0) dX2_endAt_0 rfl rfl ?_
  refine mw_iload_n (i := 1) dX2_endAt_1 rfl rfl ?_
  refine mw_callVr dX2_endAt_2 mk_X2_50 h_this rfl (y_isPlace (k := 0) h_this hl hj) (by decide) (Nat.le_refl _) (Nat.le_refl _) rfl rfl (Nat.le_of_ble_eq_true rfl) ?_
  refine mw_if_eq (tgt := 17) dX2_endAt_5 (by decide) (fun c9 => absurd c9 (by first | decide | (rw [pk_us]; decide))) (fun _ => ?_)
  refine mw_aload_n (i := 0) dX2_endAt_8 rfl rfl ?_
  refine mw_get dX2_endAt_9 fk_X2_21 h_this rfl ?_
  refine mw_iload_n (i := 1) dX2_endAt_12 rfl rfl ?_
  refine mw_iald dX2_endAt_13 h_this_ends (mw_ix rfl (show j < 60 by omega) (by decide)) ?_
  refine mw_goto (tgt := 18) dX2_endAt_14 (by decide) ?_
  exact mw_ireturn dX2_endAt_18 ⟨_, rfl, rfl⟩ ⟨by rw [(hh j hj).2.2.2.1], rfl⟩
theorem y_typeAtN (hI : isF H a src X L E pb pa) : mw_Con mm_X2_typeAt 1 0 0 [.ref a, .int (-1)] H (mw_ret (.int (-1)) H) := by
  obtain ⟨hl, nx, lm, f1, f2, f3, f4, h_this, -, -⟩ := hI
  refine gm_con pl_X2 rfl rfl (Nat.le_of_ble_eq_true rfl) rfl ?_
  refine mw_aload_n (i := 0) dX2_typeAt_0 rfl rfl ?_
  refine mw_iload_n (i := 1) dX2_typeAt_1 rfl rfl ?_
  refine mw_callVr dX2_typeAt_2 mk_X2_50 h_this rfl (y_isPlaceN) (by decide) (Nat.le_refl _) (Nat.le_refl _) rfl rfl (Nat.le_of_ble_eq_true rfl) ?_
  refine mw_if_eq (tgt := 17) dX2_typeAt_5 (by decide) (fun _ => ?_) (fun c9 => absurd c9 (by first | decide | (rw [pk_us]; decide)))
  refine mw_iconst (v := -1) dX2_typeAt_17 (by decide) ?_
  exact mw_ireturn dX2_typeAt_18 ⟨_, rfl, rfl⟩ ⟨rfl, rfl⟩
theorem y_endAtN (hI : isF H a src X L E pb pa) : mw_Con mm_X2_endAt 1 0 0 [.ref a, .int (-1)] H (mw_ret (.int 0) H) := by
  obtain ⟨hl, nx, lm, f1, f2, f3, f4, h_this, -, -⟩ := hI
  refine gm_con pl_X2 rfl rfl (Nat.le_of_ble_eq_true rfl) rfl ?_
  refine mw_aload_n (i := 0) dX2_endAt_0 rfl rfl ?_
  refine mw_iload_n (i := 1) dX2_endAt_1 rfl rfl ?_
  refine mw_callVr dX2_endAt_2 mk_X2_50 h_this rfl (y_isPlaceN) (by decide) (Nat.le_refl _) (Nat.le_refl _) rfl rfl (Nat.le_of_ble_eq_true rfl) ?_
  refine mw_if_eq (tgt := 17) dX2_endAt_5 (by decide) (fun _ => ?_) (fun c9 => absurd c9 (by first | decide | (rw [pk_us]; decide)))
  refine mw_iconst (v := 0) dX2_endAt_17 (by decide) ?_
  exact mw_ireturn dX2_endAt_18 ⟨_, rfl, rfl⟩ ⟨rfl, rfl⟩
theorem isF_ok (hI : isF H a src X L E pb pa) {j : Nat} (hj : j < L.length) : okf (ga L j) ∧ E j ≤ X.length ∧ (ga L j).2.2.2.length ≤ E j ∧ (X.drop (E j - (ga L j).2.2.2.length)).take (ga L j).2.2.2.length = (ga L j).2.2.2 := by
  obtain ⟨hl, nx, lm, f1, f2, f3, f4, -, -, hh⟩ := hI
  obtain ⟨-, -, -, -, h5, h6, h7, h8⟩ := hh j hj
  exact ⟨h6, h5, h7, h8⟩
theorem y_bytesAt (hI : isF H a src X L E pb pa) {j : Nat} (hj : j < L.length) : mw_Con mm_X2_bytesAt 2 0 0 [.ref a, .int (nI j)] H (mw_ret (.int (nI (ga L j).2.2.2.length)) H) := by
  have hI0 := hI
  obtain ⟨h1, h2, h3, h4, h5, h6, h7⟩ := (isF_ok hI hj).1
  obtain ⟨hl, nx, lm, f1, f2, f3, f4, h_this, -, -⟩ := hI
  refine gm_con pl_X2 rfl rfl (Nat.le_of_ble_eq_true rfl) rfl ?_
  refine mw_aload_n (i := 0) dX2_bytesAt_0 rfl rfl ?_
  refine mw_iload_n (i := 1) dX2_bytesAt_1 rfl rfl ?_
  refine mw_callVr dX2_bytesAt_2 mk_X2_54 h_this rfl (y_ftypeAt hI0 hj) (by decide) (Nat.le_refl _) (Nat.le_refl _) rfl rfl (Nat.le_of_ble_eq_true rfl) ?_
  refine mw_iconst (v := 2) dX2_bytesAt_5 (by decide) ?_
  by_cases e : (ga L j).2.1 = 2
  · refine mw_icmp_ne (tgt := 17) dX2_bytesAt_6 (by decide) (fun c9 => absurd c9 (fun z => z (by rw [e]; rfl))) (fun _ => ?_)
    refine mw_aload_n (i := 0) dX2_bytesAt_9 rfl rfl ?_
    refine mw_iload_n (i := 1) dX2_bytesAt_10 rfl rfl ?_
    refine mw_callVr dX2_bytesAt_11 mk_X2_58 h_this rfl (y_numberAt hI0 hj) (by decide) (Nat.le_refl _) (Nat.le_refl _) rfl rfl (Nat.le_of_ble_eq_true rfl) ?_
    refine mw_goto (tgt := 18) dX2_bytesAt_14 (by decide) ?_
    exact mw_ireturn dX2_bytesAt_18 ⟨_, rfl, rfl⟩ ⟨by rw [h5 e], rfl⟩
  · refine mw_icmp_ne (tgt := 17) dX2_bytesAt_6 (by decide) (fun _ => ?_) (fun c9 => absurd c9 (fun y => by rw [show (2 : Int32) = nI 2 from rfl, nI_eq (by omega) (by decide)] at y; exact e y))
    refine mw_iconst (v := 0) dX2_bytesAt_17 (by decide) ?_
    exact mw_ireturn dX2_bytesAt_18 ⟨_, rfl, rfl⟩ ⟨by rw [h6 e]; rfl, rfl⟩
theorem y_bytesAtN (hI : isF H a src X L E pb pa) : mw_Con mm_X2_bytesAt 2 0 0 [.ref a, .int (-1)] H (mw_ret (.int 0) H) := by
  have hI0 := hI
  obtain ⟨hl, nx, lm, f1, f2, f3, f4, h_this, -, -⟩ := hI
  refine gm_con pl_X2 rfl rfl (Nat.le_of_ble_eq_true rfl) rfl ?_
  refine mw_aload_n (i := 0) dX2_bytesAt_0 rfl rfl ?_
  refine mw_iload_n (i := 1) dX2_bytesAt_1 rfl rfl ?_
  refine mw_callVr dX2_bytesAt_2 mk_X2_54 h_this rfl (y_typeAtN hI0) (by decide) (Nat.le_refl _) (Nat.le_refl _) rfl rfl (Nat.le_of_ble_eq_true rfl) ?_
  refine mw_iconst (v := 2) dX2_bytesAt_5 (by decide) ?_
  refine mw_icmp_ne (tgt := 17) dX2_bytesAt_6 (by decide) (fun _ => ?_) (fun c9 => absurd c9 (by first | decide | (rw [pk_us]; decide)))
  refine mw_iconst (v := 0) dX2_bytesAt_17 (by decide) ?_
  exact mw_ireturn dX2_bytesAt_18 ⟨_, rfl, rfl⟩ ⟨rfl, rfl⟩
theorem y_bytesBeginAt (hI : isF H a src X L E pb pa) {j : Nat} (hj : j < L.length) : mw_Con mm_X2_bytesBeginAt 3 0 0 [.ref a, .int (nI j)] H (mw_ret (.int (nI (E j - (ga L j).2.2.2.length))) H) := by
  have hI0 := hI
  have ho := isF_ok hI hj
  obtain ⟨hl, nx, lm, f1, f2, f3, f4, h_this, -, -⟩ := hI
  refine gm_con pl_X2 rfl rfl (Nat.le_of_ble_eq_true rfl) rfl ?_
  refine mw_aload_n (i := 0) dX2_bytesBeginAt_0 rfl rfl ?_
  refine mw_iload_n (i := 1) dX2_bytesBeginAt_1 rfl rfl ?_
  refine mw_callVr dX2_bytesBeginAt_2 mk_X2_61 h_this rfl (y_endAt hI0 hj) (by decide) (Nat.le_refl _) (Nat.le_refl _) rfl rfl (Nat.le_of_ble_eq_true rfl) ?_
  refine mw_aload_n (i := 0) dX2_bytesBeginAt_5 rfl rfl ?_
  refine mw_iload_n (i := 1) dX2_bytesBeginAt_6 rfl rfl ?_
  refine mw_callVr dX2_bytesBeginAt_7 mk_X2_64 h_this rfl (y_bytesAt hI0 hj) (by decide) (Nat.le_refl _) (Nat.le_refl _) rfl rfl (Nat.le_of_ble_eq_true rfl) ?_
  refine mw_isub dX2_bytesBeginAt_10 ?_
  exact mw_ireturn dX2_bytesBeginAt_11 ⟨_, rfl, rfl⟩ ⟨by rw [pk_sub ho.2.2.1], rfl⟩
theorem y_bytesBeginAtN (hI : isF H a src X L E pb pa) : mw_Con mm_X2_bytesBeginAt 3 0 0 [.ref a, .int (-1)] H (mw_ret (.int 0) H) := by
  have hI0 := hI
  obtain ⟨hl, nx, lm, f1, f2, f3, f4, h_this, -, -⟩ := hI
  refine gm_con pl_X2 rfl rfl (Nat.le_of_ble_eq_true rfl) rfl ?_
  refine mw_aload_n (i := 0) dX2_bytesBeginAt_0 rfl rfl ?_
  refine mw_iload_n (i := 1) dX2_bytesBeginAt_1 rfl rfl ?_
  refine mw_callVr dX2_bytesBeginAt_2 mk_X2_61 h_this rfl (y_endAtN hI0) (by decide) (Nat.le_refl _) (Nat.le_refl _) rfl rfl (Nat.le_of_ble_eq_true rfl) ?_
  refine mw_aload_n (i := 0) dX2_bytesBeginAt_5 rfl rfl ?_
  refine mw_iload_n (i := 1) dX2_bytesBeginAt_6 rfl rfl ?_
  refine mw_callVr dX2_bytesBeginAt_7 mk_X2_64 h_this rfl (y_bytesAtN hI0) (by decide) (Nat.le_refl _) (Nat.le_refl _) rfl rfl (Nat.le_of_ble_eq_true rfl) ?_
  refine mw_isub dX2_bytesBeginAt_10 ?_
  exact mw_ireturn dX2_bytesBeginAt_11 ⟨_, rfl, rfl⟩ ⟨rfl, rfl⟩
section C11
variable {K : Nat → Nat → Int32} {sa : Nat → Nat} {s sc ck cy cd cp ns : Nat}
theorem y_isKnown (hK : okK K ns) (hs : s < ns) (hS : isS H K sa s sc ck cy cd cp) (hI : isF H a src X L E pb pa) {j : Nat} (hj : j < L.length) : mw_Con mm_X2_isKnown 2 0 0 [.ref a, .ref sc, .int (nI j)] H (mw_ret (.int (if knb K s (ga L j) then 1 else 0)) H) := by
  have hkb := zKn_ty (K := K) (s := s) hK hs (isF_ok hI hj).1
  have h_p1 := hS.1
  obtain ⟨hl, nx, lm, f1, f2, f3, f4, h_this, ⟨h_this_tags, h_this_types, h_this_numbers, h_this_ends⟩, hh⟩ := hI
  refine gm_con pl_X2 rfl rfl (Nat.le_of_ble_eq_true rfl) rfl ?_
  have ix := mw_ix rfl (show j < 60 by omega) (by decide)
  refine mw_aload_n (i := 0) dX2_isKnown_0 rfl rfl ?_
  refine mw_iload_n (i := 2) dX2_isKnown_1 rfl rfl ?_
  refine mw_callVr dX2_isKnown_2 mk_X2_50 h_this rfl (y_isPlace (k := 0) h_this hl hj) (by decide) (Nat.le_refl _) (Nat.le_refl _) rfl rfl (Nat.le_of_ble_eq_true rfl) ?_
  refine mw_if_eq (tgt := 31) dX2_isKnown_5 (by decide) (fun c9 => absurd c9 (by first | decide | (rw [pk_us]; decide))) (fun _ => ?_)
  refine mw_aload_n (i := 1) dX2_isKnown_8 rfl rfl ?_
  refine mw_aload_n (i := 0) dX2_isKnown_9 rfl rfl ?_
  refine mw_get dX2_isKnown_10 fk_X2_9 h_this rfl ?_
  refine mw_iload_n (i := 2) dX2_isKnown_13 rfl rfl ?_
  refine mw_iald dX2_isKnown_14 h_this_tags ix ?_
  rw [(hh j hj).1]
  refine mw_callVr dX2_isKnown_15 mk_X2_67 h_p1 rfl (y_typeAt hS (nI (ga L j).1)) (by decide) (Nat.le_refl _) (Nat.le_refl _) rfl rfl (Nat.le_of_ble_eq_true rfl) ?_
  refine mw_aload_n (i := 0) dX2_isKnown_18 rfl rfl ?_
  refine mw_get dX2_isKnown_19 fk_X2_15 h_this rfl ?_
  refine mw_iload_n (i := 2) dX2_isKnown_22 rfl rfl ?_
  refine mw_iald dX2_isKnown_23 h_this_types ix ?_
  rw [(hh j hj).2.1]
  by_cases h2 : zTyK (zKind K s (nI (ga L j).1)) = nI (ga L j).2.1
  · rw [hkb.mp h2]
    refine mw_icmp_ne (tgt := 31) dX2_isKnown_24 (by decide) (fun c9 => absurd c9 (fun z => z h2)) (fun _ => ?_)
    refine mw_iconst (v := 1) dX2_isKnown_27 (by decide) ?_
    refine mw_goto (tgt := 32) dX2_isKnown_28 (by decide) ?_
    exact mw_ireturn dX2_isKnown_32 ⟨_, rfl, rfl⟩ ⟨rfl, rfl⟩
  · rw [Bool.eq_false_iff.mpr (fun z => h2 (hkb.mpr z))]
    refine mw_icmp_ne (tgt := 31) dX2_isKnown_24 (by decide) (fun _ => ?_) (fun c9 => absurd c9 (fun z => h2 z))
    refine mw_iconst (v := 0) dX2_isKnown_31 (by decide) ?_
    exact mw_ireturn dX2_isKnown_32 ⟨_, rfl, rfl⟩ ⟨rfl, rfl⟩
theorem lastK_ga {t : Int32} {j : Nat} (hj : j < L.length) (h1 : Pt K s t (ga L j) = true) (h2 : ∀ i, j < i → i < L.length → Pt K s t (ga L i) = false) : lastK K s t L = some (ga L j) := by
  have hL : L = L.take j ++ ga L j :: L.drop (j + 1) := by
    have h := List.take_append_drop j L
    rw [List.drop_eq_getElem_cons hj] at h
    unfold ga
    rw [List.getD_eq_getElem?_getD, List.getElem?_eq_getElem hj]
    exact h.symm
  have h3 := lastK_yes (K := K) (s := s) (t := t) (L1 := L.take j) (L2 := L.drop (j + 1)) h1 (fun z hz => by
    obtain ⟨i, hi, rfl⟩ := List.getElem_of_mem hz
    rw [List.length_drop] at hi
    rw [List.getElem_drop]
    have := h2 (j + 1 + i) (by omega) (by omega)
    unfold ga at this
    rw [List.getD_eq_getElem?_getD, List.getElem?_eq_getElem (by omega)] at this
    exact this)
  rw [← hL] at h3
  exact h3
theorem lastK_none {t : Int32} (h : ∀ i, i < L.length → Pt K s t (ga L i) = false) : lastK K s t L = none := lastK_no (fun x hx => by
  obtain ⟨i, hi, rfl⟩ := List.getElem_of_mem hx
  have := h i hi
  unfold ga at this
  rw [List.getD_eq_getElem?_getD, List.getElem?_eq_getElem hi] at this
  exact this)
/-- the place of the last known field -/
def zLK (H : mw_H) (K : Nat → Nat → Int32) (s : Nat) (t : Int32) (L : List af) : mw_P := fun v h' => h' = H ∧ ((v = .inl (some (.int (-1))) ∧ lastK K s t L = none) ∨ (∃ j, j < L.length ∧ v = .inl (some (.int (nI j))) ∧ lastK K s t L = some (ga L j)))
theorem lp_flk (hK : okK K ns) (hs : s < ns) (hS : isS H K sa s sc ck cy cd cp) (hI : isF H a src X L E pb pa) (t : Int32) : ∀ n, n ≤ L.length → (∀ i, n ≤ i → i < L.length → Pt K s t (ga L i) = false) →
    mw_W mm_X2_lastKnown 3 0 0 7 [some (.ref a), some (.ref sc), some (.int t), some (.int (nI n - 1))] [] H (zLK H K s t L) := by
  have hI0 := hI
  obtain ⟨hl, nx, lm, f1, f2, f3, f4, h_this, -, -⟩ := hI
  intro n
  induction n with
  | zero =>
    intro _ hno
    refine mw_iload_n (i := 3) dX2_lastKnown_7 rfl rfl ?_
    refine mw_if_lt (tgt := 37) dX2_lastKnown_8 (by decide) (fun _ => ?_) (fun c9 => absurd c9 (by first | decide | (rw [pk_us]; decide)))
    refine mw_iconst (v := -1) dX2_lastKnown_37 (by decide) ?_
    exact mw_ireturn dX2_lastKnown_38 ⟨_, rfl, rfl⟩ ⟨rfl, Or.inl ⟨rfl, lastK_none (fun i hi => hno i (Nat.zero_le _) hi)⟩⟩
  | succ n ih =>
    intro hn hno
    have hok := (isF_ok hI0 (show n < L.length by omega)).1
    rw [nI_pred]
    have hback : Pt K s t (ga L n) = false → mw_W mm_X2_lastKnown 3 0 0 31 [some (.ref a), some (.ref sc), some (.int t), some (.int (nI n))] [] H (zLK H K s t L) := by
      intro hP
      refine mw_iinc_3 dX2_lastKnown_31 (by decide) rfl ?_
      refine mw_goto (tgt := 7) dX2_lastKnown_34 (by decide) ?_
      rw [show Int32.ofInt (-1) = -1 by decide, ← Int32.sub_eq_add_neg]
      refine ih (by omega) (fun i h1 h2 => ?_)
      by_cases e : i = n
      · rw [e]; exact hP
      · exact hno i (by omega) h2
    refine mw_iload_n (i := 3) dX2_lastKnown_7 rfl rfl ?_
    refine mw_if_lt (tgt := 37) dX2_lastKnown_8 (by decide) (fun c9 => absurd c9 (nI_pos (by omega))) (fun _ => ?_)
    refine mw_aload_n (i := 0) dX2_lastKnown_11 rfl rfl ?_
    refine mw_iload_n (i := 3) dX2_lastKnown_12 rfl rfl ?_
    refine mw_callVr dX2_lastKnown_13 mk_X2_70 h_this rfl (y_tagAt hI0 (show n < L.length by omega)) (by decide) (Nat.le_refl _) (Nat.le_refl _) rfl rfl (Nat.le_of_ble_eq_true rfl) ?_
    refine mw_iload_n (i := 2) dX2_lastKnown_16 rfl rfl ?_
    by_cases ht : nI (ga L n).1 = t
    · refine mw_icmp_ne (tgt := 31) dX2_lastKnown_17 (by decide) (fun c9 => absurd c9 (fun z => z ht)) (fun _ => ?_)
      refine mw_aload_n (i := 0) dX2_lastKnown_20 rfl rfl ?_
      refine mw_aload_n (i := 1) dX2_lastKnown_21 rfl rfl ?_
      refine mw_iload_n (i := 3) dX2_lastKnown_22 rfl rfl ?_
      refine mw_callVr dX2_lastKnown_23 mk_X2_73 h_this rfl (y_isKnown hK hs hS hI0 (show n < L.length by omega)) (by decide) (Nat.le_refl _) (Nat.le_refl _) rfl rfl (Nat.le_of_ble_eq_true rfl) ?_
      cases hk : knb K s (ga L n) with
      | true =>
        refine mw_if_eq (tgt := 31) dX2_lastKnown_26 (by decide) (fun c9 => absurd c9 (by first | decide | (rw [pk_us]; decide))) (fun _ => ?_)
        refine mw_iload_n (i := 3) dX2_lastKnown_29 rfl rfl ?_
        exact mw_ireturn dX2_lastKnown_30 ⟨_, rfl, rfl⟩ ⟨rfl, Or.inr ⟨n, by omega, rfl, lastK_ga (by omega) (by unfold Pt; rw [decide_eq_true ht, hk]; rfl) (fun i h1 h2 => hno i (by omega) h2)⟩⟩
      | false =>
        refine mw_if_eq (tgt := 31) dX2_lastKnown_26 (by decide) (fun _ => ?_) (fun c9 => absurd c9 (by first | decide | (rw [pk_us]; decide)))
        exact hback (by unfold Pt; rw [hk, Bool.and_false])
    · refine mw_icmp_ne (tgt := 31) dX2_lastKnown_17 (by decide) (fun _ => ?_) (fun c9 => absurd c9 ht)
      exact hback (by unfold Pt; rw [decide_eq_false ht]; rfl)
theorem y_flastKnown (hK : okK K ns) (hs : s < ns) (hS : isS H K sa s sc ck cy cd cp) (hI : isF H a src X L E pb pa) (t : Int32) : mw_Con mm_X2_lastKnown 3 0 0 [.ref a, .ref sc, .int t] H (zLK H K s t L) := by
  have hI0 := hI
  obtain ⟨hl, nx, lm, f1, f2, f3, f4, h_this, -, -⟩ := hI
  refine gm_con pl_X2 rfl rfl (Nat.le_of_ble_eq_true rfl) rfl ?_
  refine mw_aload_n (i := 0) dX2_lastKnown_0 rfl rfl ?_
  refine mw_get dX2_lastKnown_1 fk_X2_41 h_this rfl ?_
  refine mw_iconst (v := 1) dX2_lastKnown_4 (by decide) ?_
  refine mw_isub dX2_lastKnown_5 ?_
  refine mw_istore_3 dX2_lastKnown_6 (by decide) ?_
  exact lp_flk hK hs hS hI0 t L.length (Nat.le_refl _) (fun i h1 h2 => absurd h2 (by omega))
end C11
end C10
