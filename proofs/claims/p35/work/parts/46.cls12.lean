/-! the class side: fields written and compared (class side) -/
theorem nI_inj {a b : Nat} (ha : a < 2 ^ 32) (hb : b < 2 ^ 32) (h : nI a = nI b) : a = b := by
  have h1 : (nI a).toBitVec.toNat = (nI b).toBitVec.toNat := by rw [h]
  rw [pk_tn ha, pk_tn hb] at h1
  exact h1
section C12
variable {H : mw_H} {a src cs tg ct : Nat} {X Y : List Nat} {L : List af} {E : Nat → Nat} {pb pa : Int32}
theorem S5_in {H : mw_H} {a tg ct : Nat} {Y : List Nat} (hI : isF0 H a) (hB : isB H tg ct Y) : tg ∉ S5 a ∧ ct ∉ S5 a := by
  obtain ⟨k, s, nx, lm, pb, pa, f1, f2, f3, f4, h1, h2⟩ := hI
  exact S5_B hB h1 h2
theorem S5_not {a b : Nat} (h : b ∉ S5 a) : b ≠ a ∧ b ≠ a + 1 ∧ b ≠ a + 2 ∧ b ≠ a + 3 ∧ b ≠ a + 4 := by
  unfold S5 at h
  simp only [List.mem_cons, List.not_mem_nil, or_false, not_or] at h
  exact h
theorem isF_T {H H' : mw_H} {a src tg ct : Nat} {X Y : List Nat} {L : List af} {E : Nat → Nat} {pb pa : Int32} (hI : isF H a src X L E pb pa) (hB : isB H tg ct Y) (hF : yF [tg, ct] H H') : isF H' a src X L E pb pa := by
  obtain ⟨s1, s2⟩ := S5_in hI.r hB
  obtain ⟨a0, a1, a2, a3, a4⟩ := S5_not s1
  obtain ⟨b0, b1, b2, b3, b4⟩ := S5_not s2
  exact isF_FS hI hF (by simp; omega) (by simp; omega) (by simp; omega) (by simp; omega) (by simp; omega)
theorem B_ne {H : mw_H} {b c b2 c2 : Nat} {X Y : List Nat} (h : isB H b c X) (h2 : isB H b2 c2 Y) : b ≠ c2 ∧ c ≠ b2 := by
  obtain ⟨f, hf, -⟩ := h.2.2.2
  obtain ⟨f2, hf2, -⟩ := h2.2.2.2
  exact ⟨g_ne h.1 hf2 (fun z => by cases z), g_ne hf h2.1 (fun z => by cases z)⟩
theorem isB_T {H H' : mw_H} {b c tg ct : Nat} {X Y : List Nat} (h : isB H b c X) (hT : isB H tg ct Y) (h1 : b ≠ tg) (h2 : c ≠ ct) (hF : yF [tg, ct] H H') : isB H' b c X := by
  obtain ⟨n1, n2⟩ := B_ne h hT
  exact isB_F h hF (by simp; exact ⟨h1, n1⟩) (by simp; exact ⟨n2, h2⟩)
theorem y_fwriteTo (hI : isF H a src X L E pb pa) (hB : isB H src cs X) (hT : isB H tg ct Y) (n1 : src ≠ tg) (n2 : cs ≠ ct) {j : Nat} (hj : j < L.length) (hl : Y.length + (ef (ga L j)).length ≤ 256) : mw_Con mm_X2_writeTo 4 0 0 [.ref a, .ref tg, .int (nI j)] H (fun v H' => v = .inl none ∧ isB H' tg ct (Y ++ ef (ga L j)) ∧ yF [tg, ct] H H') := by
  have hI0 := hI
  obtain ⟨⟨o1, o2, o3, o4, o5, o6, o7⟩, w1, w2, w3⟩ := isF_ok hI hj
  obtain ⟨hl60, nx, lm, f1, f2, f3, f4, h_this, -, -⟩ := hI
  have h_p1 := hT.1
  have hel : (ef (ga L j)).length = (enum (ga L j).1 (ga L j).2.1 (ga L j).2.2.1).length + (ga L j).2.2.2.length := by rw [ef_split, List.length_append]
  refine gm_con pl_X2 rfl rfl (Nat.le_of_ble_eq_true rfl) rfl ?_
  refine mw_aload_n (i := 0) dX2_writeTo_0 rfl rfl ?_
  refine mw_iload_n (i := 2) dX2_writeTo_1 rfl rfl ?_
  refine mw_callVr dX2_writeTo_2 mk_X2_54 h_this rfl (y_ftypeAt hI0 hj) (by decide) (Nat.le_refl _) (Nat.le_refl _) rfl rfl (Nat.le_of_ble_eq_true rfl) ?_
  refine mw_iconst (v := 2) dX2_writeTo_5 (by decide) ?_
  by_cases e : (ga L j).2.1 = 2
  · have o5 := o5 e
    rw [e] at hel
    refine mw_icmp_ne (tgt := 44) dX2_writeTo_6 (by decide) (fun c9 => absurd c9 (fun z => z (by rw [e]; rfl))) (fun _ => ?_)
    refine mw_aload_n (i := 1) dX2_writeTo_9 rfl rfl ?_
    refine mw_aload_n (i := 0) dX2_writeTo_10 rfl rfl ?_
    refine mw_iload_n (i := 2) dX2_writeTo_11 rfl rfl ?_
    refine mw_callVr dX2_writeTo_12 mk_X2_70 h_this rfl (y_tagAt hI0 hj) (by decide) (Nat.le_refl _) (Nat.le_refl _) rfl rfl (Nat.le_of_ble_eq_true rfl) ?_
    refine mw_aload_n (i := 0) dX2_writeTo_15 rfl rfl ?_
    refine mw_iload_n (i := 2) dX2_writeTo_16 rfl rfl ?_
    refine mw_callVr dX2_writeTo_17 mk_X2_64 h_this rfl (y_bytesAt hI0 hj) (by decide) (Nat.le_refl _) (Nat.le_refl _) rfl rfl (Nat.le_of_ble_eq_true rfl) ?_
    refine mw_callV dX2_writeTo_20 mk_X2_77 h_p1 rfl (y_addBytesHead hT (t := (ga L j).1) (n := (ga L j).2.2.2.length) o2 (by omega) (by rw [o5]; omega)) (by decide) (Nat.le_refl _) (Nat.le_refl _) rfl rfl (Nat.le_of_ble_eq_true rfl) (fun E9 h9 q9 => ?_) (fun v9 h9 q9 => ?_)
    · cases q9.1
    obtain ⟨e9, q1, q2⟩ := q9
    cases e9
    have hI1 := isF_T hI0 hT q2
    have hI2 := hI1
    have hB1 := isB_T hB hT n1 n2 q2
    obtain ⟨-, nx', lm', -, -, -, -, h_this, -, -⟩ := hI1
    have h_p1 := q1.1
    refine mw_aload_n (i := 1) dX2_writeTo_23 rfl rfl ?_
    refine mw_aload_n (i := 0) dX2_writeTo_24 rfl rfl ?_
    refine mw_get dX2_writeTo_25 fk_X2_27 h_this rfl ?_
    refine mw_aload_n (i := 0) dX2_writeTo_28 rfl rfl ?_
    refine mw_iload_n (i := 2) dX2_writeTo_29 rfl rfl ?_
    refine mw_callVr dX2_writeTo_30 mk_X2_81 h_this rfl (y_bytesBeginAt hI2 hj) (by decide) (Nat.le_refl _) (Nat.le_refl _) rfl rfl (Nat.le_of_ble_eq_true rfl) ?_
    refine mw_aload_n (i := 0) dX2_writeTo_33 rfl rfl ?_
    refine mw_iload_n (i := 2) dX2_writeTo_34 rfl rfl ?_
    refine mw_callVr dX2_writeTo_35 mk_X2_61 h_this rfl (y_endAt hI2 hj) (by decide) (Nat.le_refl _) (Nat.le_refl _) rfl rfl (Nat.le_of_ble_eq_true rfl) ?_
    refine mw_callV dX2_writeTo_38 mk_X2_84 h_p1 rfl (y_addRange q1 hB1 n1 n2 (p := E j - (ga L j).2.2.2.length) (n := (ga L j).2.2.2.length) (by omega) w1 (by rw [List.length_append, o5]; omega)) (by decide) (Nat.le_refl _) (Nat.le_refl _) rfl rfl (Nat.le_of_ble_eq_true rfl) (fun E9 h9 q9 => ?_) (fun v9 h9 q9 => ?_)
    · cases q9.1
    obtain ⟨e9, q3, q4⟩ := q9
    cases e9
    rw [w3, List.append_assoc] at q3
    refine mw_goto (tgt := 63) dX2_writeTo_41 (by decide) ?_
    refine mw_return dX2_writeTo_63 rfl ⟨rfl, ?_, q2.tr q4⟩
    rw [ef_split, e, ← o5]
    exact q3
  · have o6 := o6 e
    rw [o6] at hel
    refine mw_icmp_ne (tgt := 44) dX2_writeTo_6 (by decide) (fun _ => ?_) (fun c9 => absurd c9 (fun y => by rw [show (2 : Int32) = nI 2 from rfl, nI_eq (by omega) (by decide)] at y; exact e y))
    refine mw_aload_n (i := 1) dX2_writeTo_44 rfl rfl ?_
    refine mw_aload_n (i := 0) dX2_writeTo_45 rfl rfl ?_
    refine mw_iload_n (i := 2) dX2_writeTo_46 rfl rfl ?_
    refine mw_callVr dX2_writeTo_47 mk_X2_70 h_this rfl (y_tagAt hI0 hj) (by decide) (Nat.le_refl _) (Nat.le_refl _) rfl rfl (Nat.le_of_ble_eq_true rfl) ?_
    refine mw_aload_n (i := 0) dX2_writeTo_50 rfl rfl ?_
    refine mw_iload_n (i := 2) dX2_writeTo_51 rfl rfl ?_
    refine mw_callVr dX2_writeTo_52 mk_X2_54 h_this rfl (y_ftypeAt hI0 hj) (by decide) (Nat.le_refl _) (Nat.le_refl _) rfl rfl (Nat.le_of_ble_eq_true rfl) ?_
    refine mw_aload_n (i := 0) dX2_writeTo_55 rfl rfl ?_
    refine mw_iload_n (i := 2) dX2_writeTo_56 rfl rfl ?_
    refine mw_callVr dX2_writeTo_57 mk_X2_58 h_this rfl (y_numberAt hI0 hj) (by decide) (Nat.le_refl _) (Nat.le_refl _) rfl rfl (Nat.le_of_ble_eq_true rfl) ?_
    refine mw_callV dX2_writeTo_60 mk_X2_88 h_p1 rfl (y_addNumberField hT (t := (ga L j).1) (y := (ga L j).2.1) (v := (ga L j).2.2.1) o2 (by omega) o4 (by rw [List.length_nil] at hel; omega)) (by decide) (Nat.le_refl _) (Nat.le_refl _) rfl rfl (Nat.le_of_ble_eq_true rfl) (fun E9 h9 q9 => ?_) (fun v9 h9 q9 => ?_)
    · cases q9.1
    obtain ⟨e9, q1, q2⟩ := q9
    cases e9
    refine mw_return dX2_writeTo_63 rfl ⟨rfl, ?_, q2⟩
    rw [ef_split, o6, List.append_nil]
    exact q1
theorem sameR_eq {X Y : List Nat} {p q n : Nat} (hp : p + n ≤ X.length) (hq : q + n ≤ Y.length) : sameR X p Y q n ↔ (X.drop p).take n = (Y.drop q).take n := by
  have hl1 : ((X.drop p).take n).length = n := by rw [List.length_take, List.length_drop]; omega
  have hl2 : ((Y.drop q).take n).length = n := by rw [List.length_take, List.length_drop]; omega
  have hx : ∀ k, k < n → ((X.drop p).take n).getD k 0 = X.getD (p + k) 0 := fun k hk => by
    rw [List.getD_eq_getElem?_getD, List.getElem?_take_of_lt hk, List.getElem?_drop, ← List.getD_eq_getElem?_getD]
  have hy : ∀ k, k < n → ((Y.drop q).take n).getD k 0 = Y.getD (q + k) 0 := fun k hk => by
    rw [List.getD_eq_getElem?_getD, List.getElem?_take_of_lt hk, List.getElem?_drop, ← List.getD_eq_getElem?_getD]
  constructor
  · intro h
    refine eq_getD (by rw [hl1, hl2]) (fun k hk => ?_)
    rw [hl1] at hk
    rw [hx k hk, hy k hk]
    exact h k hk
  · intro h k hk
    rw [← hx k hk, ← hy k hk, h]
theorem y_isSameAt {a2 src2 cs2 : Nat} {X2 : List Nat} {L2 : List af} {E2 : Nat → Nat} {pb2 pa2 : Int32} (hI : isF H a src X L E pb pa) (hB : isB H src cs X) (hI2 : isF H a2 src2 X2 L2 E2 pb2 pa2) (hB2 : isB H src2 cs2 X2) {j i : Nat} (hj : j < L.length) (hi : i < L2.length) : mw_Con mm_X2_isSameAt 4 0 0 [.ref a, .int (nI j), .ref a2, .int (nI i)] H (zB H (ga L j = ga L2 i)) := by
  have hI0 := hI
  have hI20 := hI2
  obtain ⟨⟨o1, o2, o3, o4, o5, o6, o7⟩, w1, w2, w3⟩ := isF_ok hI hj
  obtain ⟨⟨p1, p2, p3, p4, p5, p6, p7⟩, v1, v2, v3⟩ := isF_ok hI2 hi
  obtain ⟨-, nx, lm, f1, f2, f3, f4, h_this, -, -⟩ := hI
  obtain ⟨-, nx2, lm2, g1, g2, g3, g4, h_p2, -, -⟩ := hI2
  have h_this_source := hB.1
  refine gm_con pl_X2 rfl rfl (Nat.le_of_ble_eq_true rfl) rfl ?_
  refine mw_aload_n (i := 0) dX2_isSameAt_0 rfl rfl ?_
  refine mw_iload_n (i := 1) dX2_isSameAt_1 rfl rfl ?_
  refine mw_callVr dX2_isSameAt_2 mk_X2_70 h_this rfl (y_tagAt hI0 hj) (by decide) (Nat.le_refl _) (Nat.le_refl _) rfl rfl (Nat.le_of_ble_eq_true rfl) ?_
  refine mw_aload_n (i := 2) dX2_isSameAt_5 rfl rfl ?_
  refine mw_iload_n (i := 3) dX2_isSameAt_6 rfl rfl ?_
  refine mw_callVr dX2_isSameAt_7 mk_X2_70 h_p2 rfl (y_tagAt hI20 hi) (by decide) (Nat.le_refl _) (Nat.le_refl _) rfl rfl (Nat.le_of_ble_eq_true rfl) ?_
  by_cases e1 : (ga L j).1 = (ga L2 i).1
  · refine mw_icmp_ne (tgt := 72) dX2_isSameAt_10 (by decide) (fun c9 => absurd c9 (fun z => z (by rw [e1]))) (fun _ => ?_)
    refine mw_aload_n (i := 0) dX2_isSameAt_13 rfl rfl ?_
    refine mw_iload_n (i := 1) dX2_isSameAt_14 rfl rfl ?_
    refine mw_callVr dX2_isSameAt_15 mk_X2_54 h_this rfl (y_ftypeAt hI0 hj) (by decide) (Nat.le_refl _) (Nat.le_refl _) rfl rfl (Nat.le_of_ble_eq_true rfl) ?_
    refine mw_aload_n (i := 2) dX2_isSameAt_18 rfl rfl ?_
    refine mw_iload_n (i := 3) dX2_isSameAt_19 rfl rfl ?_
    refine mw_callVr dX2_isSameAt_20 mk_X2_54 h_p2 rfl (y_ftypeAt hI20 hi) (by decide) (Nat.le_refl _) (Nat.le_refl _) rfl rfl (Nat.le_of_ble_eq_true rfl) ?_
    by_cases e2 : (ga L j).2.1 = (ga L2 i).2.1
    · refine mw_icmp_ne (tgt := 72) dX2_isSameAt_23 (by decide) (fun c9 => absurd c9 (fun z => z (by rw [e2]))) (fun _ => ?_)
      refine mw_aload_n (i := 0) dX2_isSameAt_26 rfl rfl ?_
      refine mw_iload_n (i := 1) dX2_isSameAt_27 rfl rfl ?_
      refine mw_callVr dX2_isSameAt_28 mk_X2_58 h_this rfl (y_numberAt hI0 hj) (by decide) (Nat.le_refl _) (Nat.le_refl _) rfl rfl (Nat.le_of_ble_eq_true rfl) ?_
      refine mw_aload_n (i := 2) dX2_isSameAt_31 rfl rfl ?_
      refine mw_iload_n (i := 3) dX2_isSameAt_32 rfl rfl ?_
      refine mw_callVr dX2_isSameAt_33 mk_X2_58 h_p2 rfl (y_numberAt hI20 hi) (by decide) (Nat.le_refl _) (Nat.le_refl _) rfl rfl (Nat.le_of_ble_eq_true rfl) ?_
      by_cases e3 : (ga L j).2.2.1 = (ga L2 i).2.2.1
      · have hl : (ga L j).2.2.2.length = (ga L2 i).2.2.2.length := by
          by_cases h2 : (ga L j).2.1 = 2
          · rw [o5 h2, p5 (by rw [← e2]; exact h2), e3]
          · rw [o6 h2, p6 (by rw [← e2]; exact h2)]
        refine mw_icmp_ne (tgt := 72) dX2_isSameAt_36 (by decide) (fun c9 => absurd c9 (fun z => z (by rw [e3]))) (fun _ => ?_)
        refine mw_aload_n (i := 0) dX2_isSameAt_39 rfl rfl ?_
        refine mw_get dX2_isSameAt_40 fk_X2_27 h_this rfl ?_
        refine mw_aload_n (i := 0) dX2_isSameAt_43 rfl rfl ?_
        refine mw_iload_n (i := 1) dX2_isSameAt_44 rfl rfl ?_
        refine mw_callVr dX2_isSameAt_45 mk_X2_81 h_this rfl (y_bytesBeginAt hI0 hj) (by decide) (Nat.le_refl _) (Nat.le_refl _) rfl rfl (Nat.le_of_ble_eq_true rfl) ?_
        refine mw_aload_n (i := 2) dX2_isSameAt_48 rfl rfl ?_
        refine mw_get dX2_isSameAt_49 fk_X2_27 h_p2 rfl ?_
        refine mw_aload_n (i := 2) dX2_isSameAt_52 rfl rfl ?_
        refine mw_iload_n (i := 3) dX2_isSameAt_53 rfl rfl ?_
        refine mw_callVr dX2_isSameAt_54 mk_X2_81 h_p2 rfl (y_bytesBeginAt hI20 hi) (by decide) (Nat.le_refl _) (Nat.le_refl _) rfl rfl (Nat.le_of_ble_eq_true rfl) ?_
        refine mw_aload_n (i := 0) dX2_isSameAt_57 rfl rfl ?_
        refine mw_iload_n (i := 1) dX2_isSameAt_58 rfl rfl ?_
        refine mw_callVr dX2_isSameAt_59 mk_X2_64 h_this rfl (y_bytesAt hI0 hj) (by decide) (Nat.le_refl _) (Nat.le_refl _) rfl rfl (Nat.le_of_ble_eq_true rfl) ?_
        have hs := sameR_eq (X := X) (Y := X2) (p := E j - (ga L j).2.2.2.length) (q := E2 i - (ga L2 i).2.2.2.length) (n := (ga L j).2.2.2.length) (by omega) (by omega)
        have v3' : (X2.drop (E2 i - (ga L2 i).2.2.2.length)).take (ga L j).2.2.2.length = (ga L2 i).2.2.2 := by rw [hl]; exact v3
        rw [w3, v3'] at hs
        refine mw_callV dX2_isSameAt_62 mk_X2_92 h_this_source rfl (y_hasSameRange hB hB2 (p := E j - (ga L j).2.2.2.length) (q := E2 i - (ga L2 i).2.2.2.length) (n := (ga L j).2.2.2.length) (by omega) (by omega)) (by decide) (Nat.le_refl _) (Nat.le_refl _) rfl rfl (Nat.le_of_ble_eq_true rfl) (fun E9 h9 q9 => ?_) (fun v9 h9 q9 => ?_)
        · obtain ⟨-, r, q1, -⟩ := q9
          cases q1
        obtain ⟨rfl, r, q1, q2, q3⟩ := q9
        cases q1
        by_cases e4 : (ga L j).2.2.2 = (ga L2 i).2.2.2
        · rw [q2 (hs.mpr e4)]
          refine mw_if_eq (tgt := 72) dX2_isSameAt_65 (by decide) (fun c9 => absurd c9 (by first | decide | (rw [pk_us]; decide))) (fun _ => ?_)
          refine mw_iconst (v := 1) dX2_isSameAt_68 (by decide) ?_
          refine mw_goto (tgt := 73) dX2_isSameAt_69 (by decide) ?_
          exact mw_ireturn dX2_isSameAt_73 ⟨_, rfl, rfl⟩ ⟨rfl, 1, rfl, fun _ => rfl, fun z => absurd (Prod.ext e1 (Prod.ext e2 (Prod.ext e3 e4))) z⟩
        · rw [q3 (fun z => e4 (hs.mp z))]
          refine mw_if_eq (tgt := 72) dX2_isSameAt_65 (by decide) (fun _ => ?_) (fun c9 => absurd c9 (by first | decide | (rw [pk_us]; decide)))
          refine mw_iconst (v := 0) dX2_isSameAt_72 (by decide) ?_
          exact mw_ireturn dX2_isSameAt_73 ⟨_, rfl, rfl⟩ ⟨rfl, 0, rfl, fun z => absurd (by rw [z]) e4, fun _ => rfl⟩
      · refine mw_icmp_ne (tgt := 72) dX2_isSameAt_36 (by decide) (fun _ => ?_) (fun c9 => absurd c9 (fun y => e3 (nI_inj o4 p4 y)))
        refine mw_iconst (v := 0) dX2_isSameAt_72 (by decide) ?_
        exact mw_ireturn dX2_isSameAt_73 ⟨_, rfl, rfl⟩ ⟨rfl, 0, rfl, fun z => absurd (by rw [z]) e3, fun _ => rfl⟩
    · refine mw_icmp_ne (tgt := 72) dX2_isSameAt_23 (by decide) (fun _ => ?_) (fun c9 => absurd c9 (fun y => e2 (by rw [nI_eq (by omega) (by omega)] at y; exact y)))
      refine mw_iconst (v := 0) dX2_isSameAt_72 (by decide) ?_
      exact mw_ireturn dX2_isSameAt_73 ⟨_, rfl, rfl⟩ ⟨rfl, 0, rfl, fun z => absurd (by rw [z]) e2, fun _ => rfl⟩
  · refine mw_icmp_ne (tgt := 72) dX2_isSameAt_10 (by decide) (fun _ => ?_) (fun c9 => absurd c9 (fun y => e1 (by rw [nI_eq (by omega) (by omega)] at y; exact y)))
    refine mw_iconst (v := 0) dX2_isSameAt_72 (by decide) ?_
    exact mw_ireturn dX2_isSameAt_73 ⟨_, rfl, rfl⟩ ⟨rfl, 0, rfl, fun z => absurd (by rw [z]) e1, fun _ => rfl⟩
end C12
