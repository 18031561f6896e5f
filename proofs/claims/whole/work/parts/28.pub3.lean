/-! the reference's calls: the tape, and what only looks -/
theorem nI_uN (x : Int32) : nI (uN x) = x := by
  apply Int32.toBitVec_inj.mp
  apply BitVec.eq_of_toNat_eq
  show (nI x.toBitVec.toNat).toBitVec.toNat = _
  rw [pk_tn x.toBitVec.isLt]
theorem uN_lt (x : Int32) : uN x < 2 ^ 32 := x.toBitVec.isLt
theorem uN_255 (b : Int32) : uN (b &&& 255) < 256 := by
  unfold uN
  rw [Int32.toBitVec_and, BitVec.toNat_and]
  exact Nat.lt_succ_of_le Nat.and_le_right
theorem uN_nI {n : Nat} (h : n < 2 ^ 32) : uN (nI n) = n := pk_tn h
theorem nb_byte (x : Nat) : narrow .byte (.int (bV x)) = .int (bV x) := by
  unfold bV
  show Value.int ((nI x).toInt8.toInt32).toInt8.toInt32 = _
  rw [Int8.toInt8_toInt32]
theorem zIn_nI {x : Int32} {n : Nat} (hn : n < 2 ^ 31) (h : ¬ zIn x 0 (nI n - 1) = 0) : ∃ j : Nat, j < n ∧ x = nI j := by
  obtain ⟨h1, h2⟩ := zIn_1 h
  rcases Nat.eq_zero_or_pos n with z | z
  · rw [z] at h2
    exact absurd (Int32.le_trans h1 h2) (by decide)
  · rw [show nI n - 1 = nI (n - 1) from pk_sub z] at h2
    obtain ⟨j, hj, e⟩ := nI_of3 (M := nI (n - 1)) (n := n - 1) rfl (by omega) h1 h2
    exact ⟨j, by omega, e⟩
theorem zIn_nI' {x : Int32} {n : Nat} (hn : n < 2 ^ 31) (h : ¬ zIn x 0 (nI n) = 0) : ∃ j : Nat, j ≤ n ∧ x = nI j := by
  obtain ⟨h1, h2⟩ := zIn_1 h
  exact nI_of3 rfl hn h1 h2
section P3
variable {M : Nat} {h : mw_H} {g : mS} {I : Nat → Int32} {A : Nat → Nat → Int32}
theorem rR_tape (hr : rR g I A) {j : Nat} (hj : j < g.2.2.2.length) : A 8 j = nI (g.2.2.2.getD j 0) := by
  obtain ⟨a0, a1, a2, a3, a4, a5, a6, a7, a8, a9⟩ := hr
  have h5 := a0.2.2.2.2.1
  rw [byt_bt a7 (by omega)]
  have := a9 j hj
  rw [Nat.zero_add] at this
  rw [this]
theorem rR_tp (hr : rR g I A) {Y : List Nat} (hl : Y.length ≤ 120) (hY : ∀ z ∈ Y, z < 256) {I' : Nat → Int32} {A' : Nat → Nat → Int32} (hA : ∀ j, 1 ≤ j → j ≤ 7 → A' j = A j) (h8 : byt (A' 8) 120) (hrow : rowAt (bt (A' 8)) 0 Y) (h1 : I' 1 = I 1) (h9 : I' 9 = nI Y.length) : rR (gTape g Y) I' A' := by
  obtain ⟨a0, a1, a2, a3, a4, a5, a6, a7, a8, a9⟩ := hr
  obtain ⟨b1, b2, b3, b4, b5, b6⟩ := a0
  refine ⟨⟨b1, b2, b3, b4, hl, hY⟩, h1.trans a1, ?_, ?_, ?_, ?_, ?_, h8, h9, hrow⟩
  · rw [hA 1 (by decide) (by decide)]; exact a2
  · rw [hA 2 (by decide) (by decide)]; exact a3
  · rw [hA 3 (by decide) (by decide)]; exact a4
  · rw [hA 4 (by decide) (by decide), hA 5 (by decide) (by decide), hA 6 (by decide) (by decide), hA 7 (by decide) (by decide)]
    exact a5
  · rw [hA 7 (by decide) (by decide)]; exact a6
theorem r_length (hr : rR g I A) : mw_Con mm_X7_length 0 0 0 [.ref M] (gm M h I A) (rP M h (sp_length g)) := by
  refine gm_con pl_X7 rfl rfl (Nat.le_of_ble_eq_true rfl) rfl ?_
  refine mw_aload_n (i := 0) dX7_length_0 rfl rfl ?_
  refine mw_iconst (v := 0) dX7_length_1 (by decide) ?_
  refine gm_put dX7_length_2 fk_X7_44 (by decide) (gm_h0 _) ?_
  refine mw_aload_n (i := 0) dX7_length_5 rfl rfl ?_
  refine mw_get dX7_length_6 fk_X7_204 gm_0 rfl ?_
  rw [show upd I 0 0 9 = nI g.2.2.2.length from hr.2.2.2.2.2.2.2.2.1]
  exact mw_ireturn dX7_length_9 ⟨_, rfl, rfl⟩ (rP_I hr rfl rfl rfl)
theorem r_cut (hr : rR g I A) (n : Int32) : mw_Con mm_X7_cut 1 0 0 [.ref M, .int n] (gm M h I A) (rP M h (sp_cut g n)) := by
  refine gm_con pl_X7 rfl rfl (Nat.le_of_ble_eq_true rfl) rfl ?_
  unfold sp_cut
  have h5 := hr.1.2.2.2.2.1
  have e9 : I 9 = nI g.2.2.2.length := hr.2.2.2.2.2.2.2.2.1
  refine mw_aload_n (i := 0) dX7_cut_0 rfl rfl ?_
  refine mw_iload_n (i := 1) dX7_cut_1 rfl rfl ?_
  refine mw_iconst (v := 0) dX7_cut_2 (by decide) ?_
  refine mw_aload_n (i := 0) dX7_cut_3 rfl rfl ?_
  refine mw_get dX7_cut_4 fk_X7_204 gm_0 rfl ?_
  rw [e9]
  by_cases hn : zIn n 0 (nI g.2.2.2.length) = 0
  · rw [if_pos hn]
    refine mw_callSr dX7_cut_7 mk_X7_51 (c_in n 0 (nI g.2.2.2.length)) (by decide) (Nat.le_refl _) (Nat.le_refl _) rfl rfl (Nat.le_of_ble_eq_true rfl) ?_
    rw [hn]
    refine mw_if_eq (tgt := 17) dX7_cut_10 (by decide) (fun _ => ?_) (fun c9 => absurd c9 (by first | decide | (rw [pk_us]; decide)))
    refine mw_iconst (v := 1) dX7_cut_17 (by decide) ?_
    refine gm_put dX7_cut_18 fk_X7_44 (by decide) (gm_h0 _) ?_
    refine mw_aload_n (i := 0) dX7_cut_21 rfl rfl ?_
    refine mw_get dX7_cut_22 fk_X7_44 gm_0 rfl ?_
    refine mw_if_le (tgt := 30) dX7_cut_25 (by decide) (fun c9 => absurd c9 (by first | decide | (rw [pk_us]; decide))) (fun _ => ?_)
    refine mw_iconst (v := 0) dX7_cut_28 (by decide) ?_
    exact mw_ireturn dX7_cut_29 ⟨_, rfl, rfl⟩ (rP_I hr rfl rfl rfl)
  · rw [if_neg hn]
    obtain ⟨j, hj, rfl⟩ := zIn_nI' (by omega) hn
    refine mw_callSr dX7_cut_7 mk_X7_51 (c_in (nI j) 0 (nI g.2.2.2.length)) (by decide) (Nat.le_refl _) (Nat.le_refl _) rfl rfl (Nat.le_of_ble_eq_true rfl) ?_
    refine mw_if_eq (tgt := 17) dX7_cut_10 (by decide) (fun c9 => absurd c9 hn) (fun _ => ?_)
    refine mw_iconst (v := 0) dX7_cut_13 (by decide) ?_
    refine mw_goto (tgt := 18) dX7_cut_14 (by decide) ?_
    refine gm_put dX7_cut_18 fk_X7_44 (by decide) (gm_h0 _) ?_
    refine mw_aload_n (i := 0) dX7_cut_21 rfl rfl ?_
    refine mw_get dX7_cut_22 fk_X7_44 gm_0 rfl ?_
    refine mw_if_le (tgt := 30) dX7_cut_25 (by decide) (fun _ => ?_) (fun c9 => absurd c9 (by first | decide | (rw [pk_us]; decide)))
    refine mw_aload_n (i := 0) dX7_cut_30 rfl rfl ?_
    refine mw_get dX7_cut_31 fk_X7_204 gm_0 rfl ?_
    refine mw_iload_n (i := 1) dX7_cut_34 rfl rfl ?_
    refine mw_isub dX7_cut_35 ?_
    refine mw_istore_2 dX7_cut_36 (by decide) ?_
    refine mw_aload_n (i := 0) dX7_cut_37 rfl rfl ?_
    refine mw_iload_n (i := 1) dX7_cut_38 rfl rfl ?_
    refine gm_put dX7_cut_39 fk_X7_204 (by decide) (gm_h9 _) ?_
    refine mw_iload_n (i := 2) dX7_cut_42 rfl rfl ?_
    rw [show upd I 0 0 9 = nI g.2.2.2.length from e9]
    refine mw_ireturn dX7_cut_43 ⟨_, rfl, rfl⟩ ⟨rfl, _, _, rfl, rfl, rR_tp hr ?_ ?_ (fun j _ _ => rfl) hr.2.2.2.2.2.2.2.1 ?_ rfl ?_⟩
    · rw [nI_clamp (by omega), List.length_take]; omega
    · exact fun z hz => hr.1.2.2.2.2.2 z (List.mem_of_mem_take hz)
    · rw [nI_clamp (by omega)]
      have hrow := hr.2.2.2.2.2.2.2.2.2
      rw [← List.take_append_drop j g.2.2.2, rowAt_app] at hrow
      exact hrow.1
    · rw [nI_clamp (by omega), List.length_take, Nat.min_eq_left hj]
      rfl
theorem r_put (hr : rR g I A) (b : Int32) : mw_Con mm_X7_put 0 0 0 [.ref M, .int b] (gm M h I A) (rP M h (sp_put g b)) := by
  refine gm_con pl_X7 rfl rfl (Nat.le_of_ble_eq_true rfl) rfl ?_
  unfold sp_put
  have h5 := hr.1.2.2.2.2.1
  have e9 : I 9 = nI g.2.2.2.length := hr.2.2.2.2.2.2.2.2.1
  refine mw_aload_n (i := 0) dX7_put_0 rfl rfl ?_
  refine mw_aload_n (i := 0) dX7_put_1 rfl rfl ?_
  refine mw_get dX7_put_2 fk_X7_204 gm_0 rfl ?_
  refine mw_bipush (v := 120) dX7_put_5 (by decide) ?_
  rw [e9]
  by_cases hn : g.2.2.2.length = 120
  · rw [if_pos hn]
    refine mw_icmp_ne (tgt := 14) dX7_put_7 (by decide) (fun c9 => absurd c9 (fun z => z (by rw [hn]; rfl))) (fun _ => ?_)
    refine mw_iconst (v := 1) dX7_put_10 (by decide) ?_
    refine mw_goto (tgt := 15) dX7_put_11 (by decide) ?_
    refine gm_put dX7_put_15 fk_X7_44 (by decide) (gm_h0 _) ?_
    refine mw_aload_n (i := 0) dX7_put_18 rfl rfl ?_
    refine mw_get dX7_put_19 fk_X7_44 gm_0 rfl ?_
    refine mw_if_le (tgt := 27) dX7_put_22 (by decide) (fun c9 => absurd c9 (by first | decide | (rw [pk_us]; decide))) (fun _ => ?_)
    refine mw_iconst (v := 0) dX7_put_25 (by decide) ?_
    exact mw_ireturn dX7_put_26 ⟨_, rfl, rfl⟩ (rP_I hr rfl rfl rfl)
  · rw [if_neg hn]
    refine mw_icmp_ne (tgt := 14) dX7_put_7 (by decide) (fun _ => ?_) (fun c9 => absurd c9 (fun z => hn (by rw [show (120 : Int32) = nI 120 from rfl, nI_eq (by omega) (by omega)] at z; exact z)))
    refine mw_iconst (v := 0) dX7_put_14 (by decide) ?_
    refine gm_put dX7_put_15 fk_X7_44 (by decide) (gm_h0 _) ?_
    refine mw_aload_n (i := 0) dX7_put_18 rfl rfl ?_
    refine mw_get dX7_put_19 fk_X7_44 gm_0 rfl ?_
    refine mw_if_le (tgt := 27) dX7_put_22 (by decide) (fun _ => ?_) (fun c9 => absurd c9 (by first | decide | (rw [pk_us]; decide)))
    refine mw_aload_n (i := 0) dX7_put_27 rfl rfl ?_
    refine mw_get dX7_put_28 fk_X7_32 gm_0 rfl ?_
    refine mw_aload_n (i := 0) dX7_put_31 rfl rfl ?_
    refine mw_get dX7_put_32 fk_X7_204 gm_0 rfl ?_
    refine mw_iload_n (i := 1) dX7_put_35 rfl rfl ?_
    refine mw_sipush (v := 255) dX7_put_36 (by decide) ?_
    refine mw_iand dX7_put_39 ?_
    refine gm_st8 dX7_put_40 (mw_ix (show upd I 0 0 9 = nI g.2.2.2.length from e9) (show g.2.2.2.length < 120 by omega) (by decide)) ?_
    refine mw_aload_n (i := 0) dX7_put_41 rfl rfl ?_
    refine mw_dup dX7_put_42 rfl ?_
    refine mw_get dX7_put_43 fk_X7_204 gm_0 rfl ?_
    refine mw_iconst (v := 1) dX7_put_46 (by decide) ?_
    refine mw_iadd dX7_put_47 ?_
    refine gm_put dX7_put_48 fk_X7_204 (by decide) (gm_h9 _) ?_
    refine mw_aload_n (i := 0) dX7_put_51 rfl rfl ?_
    refine mw_get dX7_put_52 fk_X7_204 gm_0 rfl ?_
    have e1 : upd I 0 0 9 + 1 = nI (g.2.2.2.length + 1) := by rw [show upd I 0 0 9 = nI g.2.2.2.length from e9]; exact nI_1 _
    rw [e1]
    have hw : upd (A 8) g.2.2.2.length (b &&& 255) = wr (A 8) g.2.2.2.length [uN (b &&& 255)] := by rw [wr_one, nI_uN]
    have h1 : ∀ z ∈ [uN (b &&& 255)], z < 256 := fun z hz => by rw [List.mem_singleton] at hz; rw [hz]; exact uN_255 b
    rw [hw]
    refine mw_ireturn dX7_put_55 ⟨_, rfl, rfl⟩ ⟨rfl, _, _, rfl, rfl, rR_tp hr ?_ ?_ (fun j _ h7 => va_up_ne _ _ (by omega)) ?_ ?_ rfl ?_⟩
    · rw [List.length_append]; show _ + 1 ≤ 120; omega
    · intro z hz
      rcases List.mem_append.mp hz with hz | hz
      · exact hr.1.2.2.2.2.2 z hz
      · exact h1 z hz
    · rw [va_up_self]; exact byt_wr h1 hr.2.2.2.2.2.2.2.1
    · rw [va_up_self, rowAt_app, Nat.zero_add]
      exact ⟨row_wr_ne (Or.inl (by omega)) hr.2.2.2.2.2.2.2.2.2, row_wr h1⟩
    · rw [List.length_append]; rfl
theorem r_byteAt (hr : rR g I A) (p : Int32) : mw_Con mm_X7_byteAt 1 0 0 [.ref M, .int p] (gm M h I A) (rP M h (sp_byteAt g p)) := by
  refine gm_con pl_X7 rfl rfl (Nat.le_of_ble_eq_true rfl) rfl ?_
  unfold sp_byteAt
  have h5 := hr.1.2.2.2.2.1
  have e9 : I 9 = nI g.2.2.2.length := hr.2.2.2.2.2.2.2.2.1
  refine mw_aload_n (i := 0) dX7_byteAt_0 rfl rfl ?_
  refine mw_iload_n (i := 1) dX7_byteAt_1 rfl rfl ?_
  refine mw_iconst (v := 0) dX7_byteAt_2 (by decide) ?_
  refine mw_aload_n (i := 0) dX7_byteAt_3 rfl rfl ?_
  refine mw_get dX7_byteAt_4 fk_X7_204 gm_0 rfl ?_
  refine mw_iconst (v := 1) dX7_byteAt_7 (by decide) ?_
  refine mw_isub dX7_byteAt_8 ?_
  rw [e9]
  by_cases hn : zIn p 0 (nI g.2.2.2.length - 1) = 0
  · rw [if_pos hn]
    refine mw_callSr dX7_byteAt_9 mk_X7_51 (c_in p 0 (nI g.2.2.2.length - 1)) (by decide) (Nat.le_refl _) (Nat.le_refl _) rfl rfl (Nat.le_of_ble_eq_true rfl) ?_
    rw [hn]
    refine mw_if_eq (tgt := 19) dX7_byteAt_12 (by decide) (fun _ => ?_) (fun c9 => absurd c9 (by first | decide | (rw [pk_us]; decide)))
    refine mw_iconst (v := 1) dX7_byteAt_19 (by decide) ?_
    refine gm_put dX7_byteAt_20 fk_X7_44 (by decide) (gm_h0 _) ?_
    refine mw_aload_n (i := 0) dX7_byteAt_23 rfl rfl ?_
    refine mw_get dX7_byteAt_24 fk_X7_44 gm_0 rfl ?_
    refine mw_if_le (tgt := 34) dX7_byteAt_27 (by decide) (fun c9 => absurd c9 (by first | decide | (rw [pk_us]; decide))) (fun _ => ?_)
    refine mw_iconst (v := 0) dX7_byteAt_30 (by decide) ?_
    refine mw_goto (tgt := 41) dX7_byteAt_31 (by decide) ?_
    exact mw_ireturn dX7_byteAt_41 ⟨_, rfl, rfl⟩ (rP_I hr rfl rfl rfl)
  · rw [if_neg hn]
    obtain ⟨j, hj, rfl⟩ := zIn_nI (by omega) hn
    refine mw_callSr dX7_byteAt_9 mk_X7_51 (c_in (nI j) 0 (nI g.2.2.2.length - 1)) (by decide) (Nat.le_refl _) (Nat.le_refl _) rfl rfl (Nat.le_of_ble_eq_true rfl) ?_
    refine mw_if_eq (tgt := 19) dX7_byteAt_12 (by decide) (fun c9 => absurd c9 hn) (fun _ => ?_)
    refine mw_iconst (v := 0) dX7_byteAt_15 (by decide) ?_
    refine mw_goto (tgt := 20) dX7_byteAt_16 (by decide) ?_
    refine gm_put dX7_byteAt_20 fk_X7_44 (by decide) (gm_h0 _) ?_
    refine mw_aload_n (i := 0) dX7_byteAt_23 rfl rfl ?_
    refine mw_get dX7_byteAt_24 fk_X7_44 gm_0 rfl ?_
    refine mw_if_le (tgt := 34) dX7_byteAt_27 (by decide) (fun _ => ?_) (fun c9 => absurd c9 (by first | decide | (rw [pk_us]; decide)))
    refine mw_aload_n (i := 0) dX7_byteAt_34 rfl rfl ?_
    refine mw_get dX7_byteAt_35 fk_X7_32 gm_0 rfl ?_
    refine mw_iload_n (i := 1) dX7_byteAt_38 rfl rfl ?_
    refine mw_iald dX7_byteAt_39 gm_8 (mw_ix rfl (show j < 120 by omega) (by decide)) ?_
    rw [rR_tape hr hj, nI_clamp (by omega)]
    refine mw_i2b dX7_byteAt_40 rfl ?_
    exact mw_ireturn dX7_byteAt_41 ⟨_, rfl, nb_byte _⟩ (rP_I hr rfl rfl rfl)
theorem r_schemaOf (hr : rR g I A) (m : Int32) : mw_Con mm_X7_schemaOf 2 0 0 [.ref M, .int m] (gm M h I A) (rP M h (sp_schemaOf g m)) := by
  refine gm_con pl_X7 rfl rfl (Nat.le_of_ble_eq_true rfl) rfl ?_
  unfold sp_schemaOf
  cases hm : sM g m with
  | none =>
    refine mw_aload_n (i := 0) dX7_schemaOf_0 rfl rfl ?_
    refine mw_aload_n (i := 0) dX7_schemaOf_1 rfl rfl ?_
    refine mw_iload_n (i := 1) dX7_schemaOf_2 rfl rfl ?_
    refine mw_callVr dX7_schemaOf_3 mk_X7_156 gm_0 rfl (c_M0 hr hm) (by decide) (Nat.le_refl _) (Nat.le_refl _) rfl rfl (Nat.le_of_ble_eq_true rfl) ?_
    refine mw_if_eq (tgt := 13) dX7_schemaOf_6 (by decide) (fun _ => ?_) (fun c9 => absurd c9 (by first | decide | (rw [pk_us]; decide)))
    refine mw_iconst (v := 1) dX7_schemaOf_13 (by decide) ?_
    refine gm_put dX7_schemaOf_14 fk_X7_44 (by decide) (gm_h0 _) ?_
    refine mw_aload_n (i := 0) dX7_schemaOf_17 rfl rfl ?_
    refine mw_get dX7_schemaOf_18 fk_X7_44 gm_0 rfl ?_
    refine mw_if_le (tgt := 28) dX7_schemaOf_21 (by decide) (fun c9 => absurd c9 (by first | decide | (rw [pk_us]; decide))) (fun _ => ?_)
    refine mw_iconst (v := 0) dX7_schemaOf_24 (by decide) ?_
    refine mw_goto (tgt := 34) dX7_schemaOf_25 (by decide) ?_
    exact mw_ireturn dX7_schemaOf_34 ⟨_, rfl, rfl⟩ (rP_I hr rfl rfl rfl)
  | some q =>
    obtain ⟨m, s, L⟩ := q
    obtain ⟨h12, rfl, hT⟩ := sM_in hm
    have hM := rR_mes hr h12 hT
    refine mw_aload_n (i := 0) dX7_schemaOf_0 rfl rfl ?_
    refine mw_aload_n (i := 0) dX7_schemaOf_1 rfl rfl ?_
    refine mw_iload_n (i := 1) dX7_schemaOf_2 rfl rfl ?_
    refine mw_callVr dX7_schemaOf_3 mk_X7_156 gm_0 rfl (c_M1 hr hm) (by decide) (Nat.le_refl _) (Nat.le_refl _) rfl rfl (Nat.le_of_ble_eq_true rfl) ?_
    refine mw_if_eq (tgt := 13) dX7_schemaOf_6 (by decide) (fun c9 => absurd c9 (by first | decide | (rw [pk_us]; decide))) (fun _ => ?_)
    refine mw_iconst (v := 0) dX7_schemaOf_9 (by decide) ?_
    refine mw_goto (tgt := 14) dX7_schemaOf_10 (by decide) ?_
    refine gm_put dX7_schemaOf_14 fk_X7_44 (by decide) (gm_h0 _) ?_
    refine mw_aload_n (i := 0) dX7_schemaOf_17 rfl rfl ?_
    refine mw_get dX7_schemaOf_18 fk_X7_44 gm_0 rfl ?_
    refine mw_if_le (tgt := 28) dX7_schemaOf_21 (by decide) (fun _ => ?_) (fun c9 => absurd c9 (by first | decide | (rw [pk_us]; decide)))
    refine mw_aload_n (i := 0) dX7_schemaOf_28 rfl rfl ?_
    refine mw_get dX7_schemaOf_29 fk_X7_23 gm_0 rfl ?_
    refine mw_iload_n (i := 1) dX7_schemaOf_32 rfl rfl ?_
    refine mw_iald dX7_schemaOf_33 gm_5 (mw_ix rfl h12 (by decide)) ?_
    refine mw_top (v := nI s) hM.2.2.1 ?_
    exact mw_ireturn dX7_schemaOf_34 ⟨_, rfl, rfl⟩ (rP_I hr rfl rfl rfl)
theorem r_weight (hr : rR g I A) (m : Int32) : mw_Con mm_X7_weight 2 0 0 [.ref M, .int m] (gm M h I A) (rP M h (sp_weight g m)) := by
  refine gm_con pl_X7 rfl rfl (Nat.le_of_ble_eq_true rfl) rfl ?_
  unfold sp_weight
  cases hm : sM g m with
  | none =>
    refine mw_aload_n (i := 0) dX7_weight_0 rfl rfl ?_
    refine mw_aload_n (i := 0) dX7_weight_1 rfl rfl ?_
    refine mw_iload_n (i := 1) dX7_weight_2 rfl rfl ?_
    refine mw_callVr dX7_weight_3 mk_X7_156 gm_0 rfl (c_M0 hr hm) (by decide) (Nat.le_refl _) (Nat.le_refl _) rfl rfl (Nat.le_of_ble_eq_true rfl) ?_
    refine mw_if_eq (tgt := 13) dX7_weight_6 (by decide) (fun _ => ?_) (fun c9 => absurd c9 (by first | decide | (rw [pk_us]; decide)))
    refine mw_iconst (v := 1) dX7_weight_13 (by decide) ?_
    refine gm_put dX7_weight_14 fk_X7_44 (by decide) (gm_h0 _) ?_
    refine mw_aload_n (i := 0) dX7_weight_17 rfl rfl ?_
    refine mw_get dX7_weight_18 fk_X7_44 gm_0 rfl ?_
    refine mw_if_le (tgt := 28) dX7_weight_21 (by decide) (fun c9 => absurd c9 (by first | decide | (rw [pk_us]; decide))) (fun _ => ?_)
    refine mw_iconst (v := 0) dX7_weight_24 (by decide) ?_
    refine mw_goto (tgt := 34) dX7_weight_25 (by decide) ?_
    exact mw_ireturn dX7_weight_34 ⟨_, rfl, rfl⟩ (rP_I hr rfl rfl rfl)
  | some q =>
    obtain ⟨m, s, L⟩ := q
    obtain ⟨h12, rfl, hT⟩ := sM_in hm
    have hM := rR_mes hr h12 hT
    refine mw_aload_n (i := 0) dX7_weight_0 rfl rfl ?_
    refine mw_aload_n (i := 0) dX7_weight_1 rfl rfl ?_
    refine mw_iload_n (i := 1) dX7_weight_2 rfl rfl ?_
    refine mw_callVr dX7_weight_3 mk_X7_156 gm_0 rfl (c_M1 hr hm) (by decide) (Nat.le_refl _) (Nat.le_refl _) rfl rfl (Nat.le_of_ble_eq_true rfl) ?_
    refine mw_if_eq (tgt := 13) dX7_weight_6 (by decide) (fun c9 => absurd c9 (by first | decide | (rw [pk_us]; decide))) (fun _ => ?_)
    refine mw_iconst (v := 0) dX7_weight_9 (by decide) ?_
    refine mw_goto (tgt := 14) dX7_weight_10 (by decide) ?_
    refine gm_put dX7_weight_14 fk_X7_44 (by decide) (gm_h0 _) ?_
    refine mw_aload_n (i := 0) dX7_weight_17 rfl rfl ?_
    refine mw_get dX7_weight_18 fk_X7_44 gm_0 rfl ?_
    refine mw_if_le (tgt := 28) dX7_weight_21 (by decide) (fun _ => ?_) (fun c9 => absurd c9 (by first | decide | (rw [pk_us]; decide)))
    refine mw_aload_n (i := 0) dX7_weight_28 rfl rfl ?_
    refine mw_get dX7_weight_29 fk_X7_26 gm_0 rfl ?_
    refine mw_iload_n (i := 1) dX7_weight_32 rfl rfl ?_
    refine mw_iald dX7_weight_33 gm_6 (mw_ix rfl h12 (by decide)) ?_
    refine mw_top (v := nI (eL L).length) hM.2.2.2.2.2.1 ?_
    exact mw_ireturn dX7_weight_34 ⟨_, rfl, rfl⟩ (rP_I hr rfl rfl rfl)
theorem unk_cong {A K : Nat → Nat → Int32} (h : A 1 = K 1) (s : Nat) (L : List af) : unk A s L = unk K s L := by
  unfold unk
  rw [knb_cong h]
theorem rMes_I {m s : Nat} {L : List af} (hM : rMes A m s L) : rMes A m s L := hM
/-- only the reader's places, and what is thrown, have changed -/
theorem rP_scr {r t : Int32} (hr : rR g I A) {I1 I' : Nat → Int32} (h1 : I1 1 = I 1) (h9 : I1 9 = I 9) (h0 : I1 0 = t) (hS : zScr I1 I') : rP M h (t, r, g) (.inl (some (.int r))) (gm M h I' A) := rP_I hr ((hS 0 (by decide)).trans h0) ((hS 1 (by decide)).trans h1) ((hS 9 (by decide)).trans h9)
theorem r_unknowns (hr : rR g I A) (m : Int32) : mw_Con mm_X7_unknowns 5 0 0 [.ref M, .int m] (gm M h I A) (rP M h (sp_unknowns g m)) := by
  refine gm_con pl_X7 rfl rfl (Nat.le_of_ble_eq_true rfl) rfl ?_
  unfold sp_unknowns
  cases hm : sM g m with
  | none =>
    refine mw_aload_n (i := 0) dX7_unknowns_0 rfl rfl ?_
    refine mw_aload_n (i := 0) dX7_unknowns_1 rfl rfl ?_
    refine mw_iload_n (i := 1) dX7_unknowns_2 rfl rfl ?_
    refine mw_callVr dX7_unknowns_3 mk_X7_156 gm_0 rfl (c_M0 hr hm) (by decide) (Nat.le_refl _) (Nat.le_refl _) rfl rfl (Nat.le_of_ble_eq_true rfl) ?_
    refine mw_if_eq (tgt := 13) dX7_unknowns_6 (by decide) (fun _ => ?_) (fun c9 => absurd c9 (by first | decide | (rw [pk_us]; decide)))
    refine mw_iconst (v := 1) dX7_unknowns_13 (by decide) ?_
    refine gm_put dX7_unknowns_14 fk_X7_44 (by decide) (gm_h0 _) ?_
    refine mw_aload_n (i := 0) dX7_unknowns_17 rfl rfl ?_
    refine mw_get dX7_unknowns_18 fk_X7_44 gm_0 rfl ?_
    refine mw_if_le (tgt := 28) dX7_unknowns_21 (by decide) (fun c9 => absurd c9 (by first | decide | (rw [pk_us]; decide))) (fun _ => ?_)
    refine mw_iconst (v := 0) dX7_unknowns_24 (by decide) ?_
    refine mw_goto (tgt := 33) dX7_unknowns_25 (by decide) ?_
    exact mw_ireturn dX7_unknowns_33 ⟨_, rfl, rfl⟩ (rP_I hr rfl rfl rfl)
  | some q =>
    obtain ⟨m, s, L⟩ := q
    obtain ⟨h12, rfl, hT⟩ := sM_in hm
    have hM := rR_mes hr h12 hT
    refine mw_aload_n (i := 0) dX7_unknowns_0 rfl rfl ?_
    refine mw_aload_n (i := 0) dX7_unknowns_1 rfl rfl ?_
    refine mw_iload_n (i := 1) dX7_unknowns_2 rfl rfl ?_
    refine mw_callVr dX7_unknowns_3 mk_X7_156 gm_0 rfl (c_M1 hr hm) (by decide) (Nat.le_refl _) (Nat.le_refl _) rfl rfl (Nat.le_of_ble_eq_true rfl) ?_
    refine mw_if_eq (tgt := 13) dX7_unknowns_6 (by decide) (fun c9 => absurd c9 (by first | decide | (rw [pk_us]; decide))) (fun _ => ?_)
    refine mw_iconst (v := 0) dX7_unknowns_9 (by decide) ?_
    refine mw_goto (tgt := 14) dX7_unknowns_10 (by decide) ?_
    refine gm_put dX7_unknowns_14 fk_X7_44 (by decide) (gm_h0 _) ?_
    refine mw_aload_n (i := 0) dX7_unknowns_17 rfl rfl ?_
    refine mw_get dX7_unknowns_18 fk_X7_44 gm_0 rfl ?_
    refine mw_if_le (tgt := 28) dX7_unknowns_21 (by decide) (fun _ => ?_) (fun c9 => absurd c9 (by first | decide | (rw [pk_us]; decide)))
    refine mw_aload_n (i := 0) dX7_unknowns_28 rfl rfl ?_
    refine mw_iload_n (i := 1) dX7_unknowns_29 rfl rfl ?_
    refine mw_callV dX7_unknowns_30 mk_X7_195 gm_0 rfl (c_manyUnknown hM) (by decide) (Nat.le_refl _) (Nat.le_refl _) rfl rfl (Nat.le_of_ble_eq_true rfl) (fun E9 h9 q9 => ?_) (fun v9 h9 q9 => ?_)
    · cases q9.1
    · obtain ⟨e9, I1, rfl, hS⟩ := q9
      cases e9
      rw [unk_cong hr.2.2.1]
      exact mw_ireturn dX7_unknowns_33 ⟨_, rfl, rfl⟩ (rP_scr (I1 := upd I 0 0) hr rfl rfl rfl hS)
theorem r_create (hr : rR g I A) (s : Int32) : mw_Con mm_X7_create 2 0 0 [.ref M, .int s] (gm M h I A) (rP M h (sp_create g s)) := by
  refine gm_con pl_X7 rfl rfl (Nat.le_of_ble_eq_true rfl) rfl ?_
  unfold sp_create newM
  cases hs : sS g s with
  | none =>
    refine mw_aload_n (i := 0) dX7_create_0 rfl rfl ?_
    refine mw_aload_n (i := 0) dX7_create_1 rfl rfl ?_
    refine mw_iload_n (i := 1) dX7_create_2 rfl rfl ?_
    refine mw_callVr dX7_create_3 mk_X7_136 gm_0 rfl (c_S0 hr hs) (by decide) (Nat.le_refl _) (Nat.le_refl _) rfl rfl (Nat.le_of_ble_eq_true rfl) ?_
    refine mw_if_ne (tgt := 13) dX7_create_6 (by decide) (fun c9 => absurd c9 (by first | decide | (rw [pk_us]; decide))) (fun _ => ?_)
    refine mw_iconst (v := 1) dX7_create_9 (by decide) ?_
    refine mw_goto (tgt := 25) dX7_create_10 (by decide) ?_
    refine gm_put dX7_create_25 fk_X7_44 (by decide) (gm_h0 _) ?_
    refine mw_aload_n (i := 0) dX7_create_28 rfl rfl ?_
    refine mw_get dX7_create_29 fk_X7_44 gm_0 rfl ?_
    refine mw_if_le (tgt := 37) dX7_create_32 (by decide) (fun c9 => absurd c9 (by first | decide | (rw [pk_us]; decide))) (fun _ => ?_)
    refine mw_iconst (v := 0) dX7_create_35 (by decide) ?_
    exact mw_ireturn dX7_create_36 ⟨_, rfl, rfl⟩ (rP_I hr rfl rfl rfl)
  | some j =>
    obtain ⟨hj, rfl⟩ := sS_in (rR_ns hr) hs
    dsimp only
    by_cases hf : fre g.2.2.1 = 12
    · rw [if_pos hf]
      refine mw_aload_n (i := 0) dX7_create_0 rfl rfl ?_
      refine mw_aload_n (i := 0) dX7_create_1 rfl rfl ?_
      refine mw_iload_n (i := 1) dX7_create_2 rfl rfl ?_
      refine mw_callVr dX7_create_3 mk_X7_136 gm_0 rfl (c_S1 hr hs) (by decide) (Nat.le_refl _) (Nat.le_refl _) rfl rfl (Nat.le_of_ble_eq_true rfl) ?_
      refine mw_if_ne (tgt := 13) dX7_create_6 (by decide) (fun _ => ?_) (fun c9 => absurd c9 (by first | decide | (rw [pk_us]; decide)))
      refine mw_aload_n (i := 0) dX7_create_13 rfl rfl ?_
      refine mw_callVr dX7_create_14 mk_X7_149 gm_0 rfl (c_F1 hr hf) (by decide) (Nat.le_refl _) (Nat.le_refl _) rfl rfl (Nat.le_of_ble_eq_true rfl) ?_
      refine mw_if_eq (tgt := 24) dX7_create_17 (by decide) (fun c9 => absurd c9 (by first | decide | (rw [pk_us]; decide))) (fun _ => ?_)
      refine mw_iconst (v := 2) dX7_create_20 (by decide) ?_
      refine mw_goto (tgt := 25) dX7_create_21 (by decide) ?_
      refine gm_put dX7_create_25 fk_X7_44 (by decide) (gm_h0 _) ?_
      refine mw_aload_n (i := 0) dX7_create_28 rfl rfl ?_
      refine mw_get dX7_create_29 fk_X7_44 gm_0 rfl ?_
      refine mw_if_le (tgt := 37) dX7_create_32 (by decide) (fun c9 => absurd c9 (by first | decide | (rw [pk_us]; decide))) (fun _ => ?_)
      refine mw_iconst (v := 0) dX7_create_35 (by decide) ?_
      exact mw_ireturn dX7_create_36 ⟨_, rfl, rfl⟩ (rP_I hr rfl rfl rfl)
    · rw [if_neg hf]
      have hfr := rR_free hr
      have hf2 : fre g.2.2.1 < 12 := by have := hfr.1; omega
      refine mw_aload_n (i := 0) dX7_create_0 rfl rfl ?_
      refine mw_aload_n (i := 0) dX7_create_1 rfl rfl ?_
      refine mw_iload_n (i := 1) dX7_create_2 rfl rfl ?_
      refine mw_callVr dX7_create_3 mk_X7_136 gm_0 rfl (c_S1 hr hs) (by decide) (Nat.le_refl _) (Nat.le_refl _) rfl rfl (Nat.le_of_ble_eq_true rfl) ?_
      refine mw_if_ne (tgt := 13) dX7_create_6 (by decide) (fun _ => ?_) (fun c9 => absurd c9 (by first | decide | (rw [pk_us]; decide)))
      refine mw_aload_n (i := 0) dX7_create_13 rfl rfl ?_
      refine mw_callVr dX7_create_14 mk_X7_149 gm_0 rfl (c_F0 hr hf) (by decide) (Nat.le_refl _) (Nat.le_refl _) rfl rfl (Nat.le_of_ble_eq_true rfl) ?_
      refine mw_if_eq (tgt := 24) dX7_create_17 (by decide) (fun _ => ?_) (fun c9 => absurd c9 (by first | decide | (rw [pk_us]; decide)))
      refine mw_iconst (v := 0) dX7_create_24 (by decide) ?_
      refine gm_put dX7_create_25 fk_X7_44 (by decide) (gm_h0 _) ?_
      refine mw_aload_n (i := 0) dX7_create_28 rfl rfl ?_
      refine mw_get dX7_create_29 fk_X7_44 gm_0 rfl ?_
      refine mw_if_le (tgt := 37) dX7_create_32 (by decide) (fun _ => ?_) (fun c9 => absurd c9 (by first | decide | (rw [pk_us]; decide)))
      refine mw_aload_n (i := 0) dX7_create_37 rfl rfl ?_
      refine mw_iconst (v := 0) dX7_create_38 (by decide) ?_
      refine gm_put dX7_create_39 fk_X7_84 (by decide) (gm_h18 _) ?_
      refine mw_aload_n (i := 0) dX7_create_42 rfl rfl ?_
      refine mw_iload_n (i := 1) dX7_create_43 rfl rfl ?_
      refine mw_callVr dX7_create_44 mk_X7_153 gm_0 rfl (c_makes (X := []) (s := j) hfr hf2 (fun j hj => absurd hj (Nat.not_lt_zero _)) rfl (Nat.zero_le _)) (by decide) (Nat.le_refl _) (Nat.le_refl _) rfl rfl (Nat.le_of_ble_eq_true rfl) ?_
      exact mw_ireturn dX7_create_47 ⟨_, rfl, rfl⟩ ⟨rfl, _, _, rfl, rfl, rR_new hr hf2 hj (fun x hx => absurd hx List.not_mem_nil) (Nat.zero_le _) (fun _ _ _ => rfl) rfl rfl⟩
theorem r_copy (hr : rR g I A) (m s : Int32) : mw_Con mm_X7_copy 5 0 0 [.ref M, .int m, .int s] (gm M h I A) (rP M h (sp_copy g m s)) := by
  refine gm_con pl_X7 rfl rfl (Nat.le_of_ble_eq_true rfl) rfl ?_
  unfold sp_copy newM
  cases hm : sM g m with
  | none =>
    refine mw_aload_n (i := 0) dX7_copy_0 rfl rfl ?_
    refine mw_aload_n (i := 0) dX7_copy_1 rfl rfl ?_
    refine mw_iload_n (i := 1) dX7_copy_2 rfl rfl ?_
    refine mw_callVr dX7_copy_3 mk_X7_156 gm_0 rfl (c_M0 hr hm) (by decide) (Nat.le_refl _) (Nat.le_refl _) rfl rfl (Nat.le_of_ble_eq_true rfl) ?_
    refine mw_if_eq (tgt := 17) dX7_copy_6 (by decide) (fun _ => ?_) (fun c9 => absurd c9 (by first | decide | (rw [pk_us]; decide)))
    refine mw_iconst (v := 1) dX7_copy_17 (by decide) ?_
    refine mw_goto (tgt := 33) dX7_copy_18 (by decide) ?_
    refine gm_put dX7_copy_33 fk_X7_44 (by decide) (gm_h0 _) ?_
    refine mw_aload_n (i := 0) dX7_copy_36 rfl rfl ?_
    refine mw_get dX7_copy_37 fk_X7_44 gm_0 rfl ?_
    refine mw_if_le (tgt := 45) dX7_copy_40 (by decide) (fun c9 => absurd c9 (by first | decide | (rw [pk_us]; decide))) (fun _ => ?_)
    refine mw_iconst (v := 0) dX7_copy_43 (by decide) ?_
    exact mw_ireturn dX7_copy_44 ⟨_, rfl, rfl⟩ (rP_I hr rfl rfl rfl)
  | some q =>
    obtain ⟨m, sm, L⟩ := q
    obtain ⟨h12, rfl, hT⟩ := sM_in hm
    have hM := rR_mes hr h12 hT
    cases hs : sS g s with
    | none =>
      refine mw_aload_n (i := 0) dX7_copy_0 rfl rfl ?_
      refine mw_aload_n (i := 0) dX7_copy_1 rfl rfl ?_
      refine mw_iload_n (i := 1) dX7_copy_2 rfl rfl ?_
      refine mw_callVr dX7_copy_3 mk_X7_156 gm_0 rfl (c_M1 hr hm) (by decide) (Nat.le_refl _) (Nat.le_refl _) rfl rfl (Nat.le_of_ble_eq_true rfl) ?_
      refine mw_if_eq (tgt := 17) dX7_copy_6 (by decide) (fun c9 => absurd c9 (by first | decide | (rw [pk_us]; decide))) (fun _ => ?_)
      refine mw_aload_n (i := 0) dX7_copy_9 rfl rfl ?_
      refine mw_iload_n (i := 2) dX7_copy_10 rfl rfl ?_
      refine mw_callVr dX7_copy_11 mk_X7_136 gm_0 rfl (c_S0 hr hs) (by decide) (Nat.le_refl _) (Nat.le_refl _) rfl rfl (Nat.le_of_ble_eq_true rfl) ?_
      refine mw_if_ne (tgt := 21) dX7_copy_14 (by decide) (fun c9 => absurd c9 (by first | decide | (rw [pk_us]; decide))) (fun _ => ?_)
      refine mw_iconst (v := 1) dX7_copy_17 (by decide) ?_
      refine mw_goto (tgt := 33) dX7_copy_18 (by decide) ?_
      refine gm_put dX7_copy_33 fk_X7_44 (by decide) (gm_h0 _) ?_
      refine mw_aload_n (i := 0) dX7_copy_36 rfl rfl ?_
      refine mw_get dX7_copy_37 fk_X7_44 gm_0 rfl ?_
      refine mw_if_le (tgt := 45) dX7_copy_40 (by decide) (fun c9 => absurd c9 (by first | decide | (rw [pk_us]; decide))) (fun _ => ?_)
      refine mw_iconst (v := 0) dX7_copy_43 (by decide) ?_
      exact mw_ireturn dX7_copy_44 ⟨_, rfl, rfl⟩ (rP_I hr rfl rfl rfl)
    | some j =>
      obtain ⟨hj, rfl⟩ := sS_in (rR_ns hr) hs
      dsimp only
      by_cases hf : fre g.2.2.1 = 12
      · rw [if_pos hf]
        refine mw_aload_n (i := 0) dX7_copy_0 rfl rfl ?_
        refine mw_aload_n (i := 0) dX7_copy_1 rfl rfl ?_
        refine mw_iload_n (i := 1) dX7_copy_2 rfl rfl ?_
        refine mw_callVr dX7_copy_3 mk_X7_156 gm_0 rfl (c_M1 hr hm) (by decide) (Nat.le_refl _) (Nat.le_refl _) rfl rfl (Nat.le_of_ble_eq_true rfl) ?_
        refine mw_if_eq (tgt := 17) dX7_copy_6 (by decide) (fun c9 => absurd c9 (by first | decide | (rw [pk_us]; decide))) (fun _ => ?_)
        refine mw_aload_n (i := 0) dX7_copy_9 rfl rfl ?_
        refine mw_iload_n (i := 2) dX7_copy_10 rfl rfl ?_
        refine mw_callVr dX7_copy_11 mk_X7_136 gm_0 rfl (c_S1 hr hs) (by decide) (Nat.le_refl _) (Nat.le_refl _) rfl rfl (Nat.le_of_ble_eq_true rfl) ?_
        refine mw_if_ne (tgt := 21) dX7_copy_14 (by decide) (fun _ => ?_) (fun c9 => absurd c9 (by first | decide | (rw [pk_us]; decide)))
        refine mw_aload_n (i := 0) dX7_copy_21 rfl rfl ?_
        refine mw_callVr dX7_copy_22 mk_X7_149 gm_0 rfl (c_F1 hr hf) (by decide) (Nat.le_refl _) (Nat.le_refl _) rfl rfl (Nat.le_of_ble_eq_true rfl) ?_
        refine mw_if_eq (tgt := 32) dX7_copy_25 (by decide) (fun c9 => absurd c9 (by first | decide | (rw [pk_us]; decide))) (fun _ => ?_)
        refine mw_iconst (v := 2) dX7_copy_28 (by decide) ?_
        refine mw_goto (tgt := 33) dX7_copy_29 (by decide) ?_
        refine gm_put dX7_copy_33 fk_X7_44 (by decide) (gm_h0 _) ?_
        refine mw_aload_n (i := 0) dX7_copy_36 rfl rfl ?_
        refine mw_get dX7_copy_37 fk_X7_44 gm_0 rfl ?_
        refine mw_if_le (tgt := 45) dX7_copy_40 (by decide) (fun c9 => absurd c9 (by first | decide | (rw [pk_us]; decide))) (fun _ => ?_)
        refine mw_iconst (v := 0) dX7_copy_43 (by decide) ?_
        exact mw_ireturn dX7_copy_44 ⟨_, rfl, rfl⟩ (rP_I hr rfl rfl rfl)
      · rw [if_neg hf]
        have hfr := rR_free hr
        have hf2 : fre g.2.2.1 < 12 := by have := hfr.1; omega
        obtain ⟨-, -, -, hok, hlen, -⟩ := hM
        have hall : L.filter (fun x => !Pt A sm (-1) x) = L := by
          refine List.filter_eq_self.mpr (fun x hx => ?_)
          have hx2 := hok x hx
          have hne : nI x.1 ≠ -1 := fun z => absurd (show nI x.1 < 0 by rw [z]; decide) (nI_pos (by have := hx2.2.1; omega))
          unfold Pt
          rw [decide_eq_false hne, Bool.false_and]
          rfl
        have hwo := c_writesOthers (M := M) (h := h) (I := upd I 0 0) (rR_mes hr h12 hT) (-1)
        rw [hall] at hwo
        refine mw_aload_n (i := 0) dX7_copy_0 rfl rfl ?_
        refine mw_aload_n (i := 0) dX7_copy_1 rfl rfl ?_
        refine mw_iload_n (i := 1) dX7_copy_2 rfl rfl ?_
        refine mw_callVr dX7_copy_3 mk_X7_156 gm_0 rfl (c_M1 hr hm) (by decide) (Nat.le_refl _) (Nat.le_refl _) rfl rfl (Nat.le_of_ble_eq_true rfl) ?_
        refine mw_if_eq (tgt := 17) dX7_copy_6 (by decide) (fun c9 => absurd c9 (by first | decide | (rw [pk_us]; decide))) (fun _ => ?_)
        refine mw_aload_n (i := 0) dX7_copy_9 rfl rfl ?_
        refine mw_iload_n (i := 2) dX7_copy_10 rfl rfl ?_
        refine mw_callVr dX7_copy_11 mk_X7_136 gm_0 rfl (c_S1 hr hs) (by decide) (Nat.le_refl _) (Nat.le_refl _) rfl rfl (Nat.le_of_ble_eq_true rfl) ?_
        refine mw_if_ne (tgt := 21) dX7_copy_14 (by decide) (fun _ => ?_) (fun c9 => absurd c9 (by first | decide | (rw [pk_us]; decide)))
        refine mw_aload_n (i := 0) dX7_copy_21 rfl rfl ?_
        refine mw_callVr dX7_copy_22 mk_X7_149 gm_0 rfl (c_F0 hr hf) (by decide) (Nat.le_refl _) (Nat.le_refl _) rfl rfl (Nat.le_of_ble_eq_true rfl) ?_
        refine mw_if_eq (tgt := 32) dX7_copy_25 (by decide) (fun _ => ?_) (fun c9 => absurd c9 (by first | decide | (rw [pk_us]; decide)))
        refine mw_iconst (v := 0) dX7_copy_32 (by decide) ?_
        refine gm_put dX7_copy_33 fk_X7_44 (by decide) (gm_h0 _) ?_
        refine mw_aload_n (i := 0) dX7_copy_36 rfl rfl ?_
        refine mw_get dX7_copy_37 fk_X7_44 gm_0 rfl ?_
        refine mw_if_le (tgt := 45) dX7_copy_40 (by decide) (fun _ => ?_) (fun c9 => absurd c9 (by first | decide | (rw [pk_us]; decide)))
        refine mw_aload_n (i := 0) dX7_copy_45 rfl rfl ?_
        refine mw_iload_n (i := 1) dX7_copy_46 rfl rfl ?_
        refine mw_iconst (v := -1) dX7_copy_47 (by decide) ?_
        refine mw_callV dX7_copy_48 mk_X7_159 gm_0 rfl (hwo) (by decide) (Nat.le_refl _) (Nat.le_refl _) rfl rfl (Nat.le_of_ble_eq_true rfl) (fun E9 h9 q9 => ?_) (fun v9 h9 q9 => ?_)
        · cases q9.1
        · obtain ⟨e9, I1, rfl, hS, h18⟩ := q9
          cases e9
          have hfr' : isFree (va_up A 9 (wr (A 9) 0 (eL L))) (fre g.2.2.1) := hfr
          rw [Nat.zero_add] at h18
          refine mw_aload_n (i := 0) dX7_copy_51 rfl rfl ?_
          refine mw_iload_n (i := 2) dX7_copy_52 rfl rfl ?_
          refine mw_callVr dX7_copy_53 mk_X7_153 gm_0 rfl (c_makes (X := eL L) (s := j) hfr' hf2 (by rw [va_up_self]; exact holds_wr) h18 hlen) (by decide) (Nat.le_refl _) (Nat.le_refl _) rfl rfl (Nat.le_of_ble_eq_true rfl) ?_
          exact mw_ireturn dX7_copy_56 ⟨_, rfl, rfl⟩ ⟨rfl, _, _, rfl, (hS 0 (by decide)).trans rfl, rR_new hr hf2 hj hok hlen (fun j _ h8 => va_up_ne _ _ (by omega)) ((hS 1 (by decide)).trans rfl) ((hS 9 (by decide)).trans rfl)⟩
theorem rR_gone (hr : rR g I A) {m : Nat} (hm : m < 12) {I' : Nat → Int32} (h1 : I' 1 = I 1) (h9 : I' 9 = I 9) : rR (g.1, g.2.1, fun j => if j = m then none else g.2.2.1 j, g.2.2.2) I' (va_up A 4 (upd (A 4) m 0)) := by
  obtain ⟨a0, a1, a2, a3, a4, a5, a6, a7, a8, a9⟩ := hr
  obtain ⟨b1, b2, b3, b4, b5, b6⟩ := a0
  refine ⟨⟨b1, b2, b3, fun m' s' L' hm' hT => ?_, b5, b6⟩, h1.trans a1, a2, a3, a4, fun m' hm' => ?_, a6, a7, h9.trans a8, a9⟩
  · have hT : (if m' = m then none else g.2.2.1 m') = some (s', L') := hT
    by_cases e : m' = m
    · rw [if_pos e] at hT; cases hT
    · rw [if_neg e] at hT; exact b4 m' s' L' hm' hT
  · show ((if m' = m then none else g.2.2.1 m') = none → upd (A 4) m 0 m' = 0) ∧ ∀ s' L', (if m' = m then none else g.2.2.1 m') = some (s', L') → upd (A 4) m 0 m' = 1 ∧ A 5 m' = nI s' ∧ A 6 m' = nI (eL L').length ∧ rowAt (bt (A 7)) (120 * m') (eL L')
    by_cases e : m' = m
    · subst e
      rw [if_pos rfl, pk_us]
      exact ⟨fun _ => rfl, fun s' L' z => absurd z (by simp)⟩
    · rw [if_neg e, pk_un e]
      exact a5 m' hm'
theorem r_discard (hr : rR g I A) (m : Int32) : mw_Con mm_X7_discard 4 0 0 [.ref M, .int m] (gm M h I A) (rP M h (sp_discard g m)) := by
  refine gm_con pl_X7 rfl rfl (Nat.le_of_ble_eq_true rfl) rfl ?_
  unfold sp_discard
  cases hm : sM g m with
  | none =>
    refine mw_aload_n (i := 0) dX7_discard_0 rfl rfl ?_
    refine mw_aload_n (i := 0) dX7_discard_1 rfl rfl ?_
    refine mw_iload_n (i := 1) dX7_discard_2 rfl rfl ?_
    refine mw_callVr dX7_discard_3 mk_X7_156 gm_0 rfl (c_M0 hr hm) (by decide) (Nat.le_refl _) (Nat.le_refl _) rfl rfl (Nat.le_of_ble_eq_true rfl) ?_
    refine mw_if_eq (tgt := 13) dX7_discard_6 (by decide) (fun _ => ?_) (fun c9 => absurd c9 (by first | decide | (rw [pk_us]; decide)))
    refine mw_iconst (v := 1) dX7_discard_13 (by decide) ?_
    refine gm_put dX7_discard_14 fk_X7_44 (by decide) (gm_h0 _) ?_
    refine mw_aload_n (i := 0) dX7_discard_17 rfl rfl ?_
    refine mw_get dX7_discard_18 fk_X7_44 gm_0 rfl ?_
    refine mw_if_le (tgt := 26) dX7_discard_21 (by decide) (fun c9 => absurd c9 (by first | decide | (rw [pk_us]; decide))) (fun _ => ?_)
    refine mw_iconst (v := 0) dX7_discard_24 (by decide) ?_
    exact mw_ireturn dX7_discard_25 ⟨_, rfl, rfl⟩ (rP_I hr rfl rfl rfl)
  | some q =>
    obtain ⟨m, s, L⟩ := q
    obtain ⟨h12, rfl, hT⟩ := sM_in hm
    obtain ⟨-, -, h5, hok, hlen, h6, hrow, hA⟩ := rR_mes hr h12 hT
    refine mw_aload_n (i := 0) dX7_discard_0 rfl rfl ?_
    refine mw_aload_n (i := 0) dX7_discard_1 rfl rfl ?_
    refine mw_iload_n (i := 1) dX7_discard_2 rfl rfl ?_
    refine mw_callVr dX7_discard_3 mk_X7_156 gm_0 rfl (c_M1 hr hm) (by decide) (Nat.le_refl _) (Nat.le_refl _) rfl rfl (Nat.le_of_ble_eq_true rfl) ?_
    refine mw_if_eq (tgt := 13) dX7_discard_6 (by decide) (fun c9 => absurd c9 (by first | decide | (rw [pk_us]; decide))) (fun _ => ?_)
    refine mw_iconst (v := 0) dX7_discard_9 (by decide) ?_
    refine mw_goto (tgt := 14) dX7_discard_10 (by decide) ?_
    refine gm_put dX7_discard_14 fk_X7_44 (by decide) (gm_h0 _) ?_
    refine mw_aload_n (i := 0) dX7_discard_17 rfl rfl ?_
    refine mw_get dX7_discard_18 fk_X7_44 gm_0 rfl ?_
    refine mw_if_le (tgt := 26) dX7_discard_21 (by decide) (fun _ => ?_) (fun c9 => absurd c9 (by first | decide | (rw [pk_us]; decide)))
    refine mw_aload_n (i := 0) dX7_discard_26 rfl rfl ?_
    refine mw_get dX7_discard_27 fk_X7_19 gm_0 rfl ?_
    refine mw_iload_n (i := 1) dX7_discard_30 rfl rfl ?_
    refine mw_iconst (v := 0) dX7_discard_31 (by decide) ?_
    refine gm_st4 dX7_discard_32 (mw_ix rfl h12 (by decide)) rfl ?_
    refine mw_aload_n (i := 0) dX7_discard_33 rfl rfl ?_
    refine mw_iload_n (i := 1) dX7_discard_34 rfl rfl ?_
    refine mw_callV dX7_discard_35 mk_X7_163 gm_0 rfl (c_fields (A := va_up A 4 (upd (A 4) m 0)) h12 hok hlen h6 hrow hA) (by decide) (Nat.le_refl _) (Nat.le_refl _) rfl rfl (Nat.le_of_ble_eq_true rfl) (fun E9 h9 q9 => ?_) (fun v9 h9 q9 => ?_)
    · cases q9.1
    · obtain ⟨e9, I1, rfl, hS⟩ := q9
      cases e9
      exact mw_ireturn dX7_discard_38 ⟨_, rfl, rfl⟩ ⟨rfl, _, _, rfl, (hS 0 (by decide)).trans rfl, rR_gone hr h12 ((hS 1 (by decide)).trans rfl) ((hS 9 (by decide)).trans rfl)⟩
end P3
