/-! the class side: numbers written (class side) -/
section C1
variable {H : mw_H} {a c : Nat} {X : List Nat}
theorem bV_i2b {x : Nat} : (nI x).toInt8.toInt32 = bV x := rfl
theorem bV_mod {x y : Nat} (h : x % 256 = y % 256) (hx : x < 2 ^ 32) (hy : y < 2 ^ 32) : bV x = bV y := by
  have h3 : ∀ z, z < 2 ^ 32 → (nI z).toInt8.toBitVec.toNat = z % 256 := by
    intro z hz
    show ((nI z).toBitVec.signExtend 8).toNat = z % 256
    rw [BitVec.signExtend_eq_setWidth_of_le _ (by decide), BitVec.toNat_setWidth, pk_tn hz]
  unfold bV
  congr 1
  apply Int8.toBitVec_inj.mp
  apply BitVec.eq_of_toNat_eq
  rw [h3 x hx, h3 y hy, h]
/-- group numbers -/
theorem lp_ag {x1 : Option Value} : ∀ (r v k : Nat) (X : List Nat) (H : mw_H), k + r = 4 → v < 2 ^ 32 → v < 2 ^ (7 * r + 4) → isB H a c X → X.length + (eg r v).length ≤ 256 →
    mw_W mm_X0_addGroups 1 0 0 4 [some (.ref a), x1, some (.int (nI v)), some (.int (nI k))] [] H (fun w H' => w = .inl none ∧ isB H' a c (X ++ eg r v) ∧ yF [a, c] H H') := by
  have hend : ∀ (v : Nat) (x3 : Option Value) (X : List Nat) (H : mw_H), v < 256 → isB H a c X → X.length + 1 ≤ 256 → mw_W mm_X0_addGroups 1 0 0 40 [some (.ref a), x1, some (.int (nI v)), x3] [] H (fun w H' => w = .inl none ∧ isB H' a c (X ++ [v]) ∧ yF [a, c] H H') := by
    intro v x3 X H hv hB hl
    have h_this := hB.1
    refine mw_aload_n (i := 0) dX0_addGroups_40 rfl rfl ?_
    refine mw_iload_n (i := 2) dX0_addGroups_41 rfl rfl ?_
    refine mw_i2b dX0_addGroups_42 rfl ?_
    rw [bV_i2b]
    refine mw_callV dX0_addGroups_43 mk_X0_23 h_this rfl (y_add hB (by omega) hv) (by decide) (Nat.le_refl _) (Nat.le_refl _) rfl rfl (Nat.le_of_ble_eq_true rfl) (fun E9 h9 q9 => ?_) (fun v9 h9 q9 => ?_)
    · cases q9.1
    · obtain ⟨e9, q1, q2⟩ := q9
      cases e9
      exact mw_return dX0_addGroups_46 rfl ⟨rfl, q1, q2⟩
  intro r
  induction r with
  | zero =>
    intro v k X H hk hv hr hB hl
    have hk : k = 4 := hk
    subst hk
    refine mw_iload_n (i := 3) dX0_addGroups_4 rfl rfl ?_
    refine mw_iconst (v := 4) dX0_addGroups_5 (by decide) ?_
    refine mw_icmp_ge (tgt := 40) dX0_addGroups_6 (by decide) (fun _ => ?_) (fun c9 => absurd c9 (by first | decide | (rw [pk_us]; decide)))
    exact hend v _ X H (by have hr : v < 16 := hr; omega) hB hl
  | succ r ih =>
    intro v k X H hk hv hr hB hl
    refine mw_iload_n (i := 3) dX0_addGroups_4 rfl rfl ?_
    refine mw_iconst (v := 4) dX0_addGroups_5 (by decide) ?_
    refine mw_icmp_ge (tgt := 40) dX0_addGroups_6 (by decide) (fun c9 => absurd c9 (show ¬ nI 4 ≤ nI k from nI_ge (by omega) (by omega))) (fun _ => ?_)
    refine mw_iload_n (i := 2) dX0_addGroups_9 rfl rfl ?_
    refine mw_bipush (v := 7) dX0_addGroups_10 (by decide) ?_
    refine mw_iushr dX0_addGroups_12 rfl ?_
    rw [mb_ush7 hv]
    by_cases h0 : v / 128 = 0
    · have e : eg (r + 1) v = [v] := by unfold eg; rw [if_pos h0]
      rw [e] at hl ⊢
      refine mw_if_eq (tgt := 40) dX0_addGroups_13 (by decide) (fun _ => ?_) (fun c9 => absurd c9 (fun z => z (by rw [h0]; rfl)))
      exact hend v _ X H (by omega) hB hl
    · have e : eg (r + 1) v = (v % 128 + 128) :: eg r (v / 128) := by
        show (if v / 128 = 0 then _ else _) = _
        rw [if_neg h0]
      rw [e] at hl ⊢
      rw [List.length_cons] at hl
      have hm := Nat.mod_lt v (show 0 < 128 by decide)
      have h_this := hB.1
      refine mw_if_eq (tgt := 40) dX0_addGroups_13 (by decide) (fun c9 => absurd c9 (fun z => h0 (nI_ne0' (by omega) z))) (fun _ => ?_)
      refine mw_aload_n (i := 0) dX0_addGroups_16 rfl rfl ?_
      refine mw_iload_n (i := 2) dX0_addGroups_17 rfl rfl ?_
      refine mw_bipush (v := 127) dX0_addGroups_18 (by decide) ?_
      refine mw_iand dX0_addGroups_20 ?_
      refine mw_sipush (v := 128) dX0_addGroups_21 (by decide) ?_
      refine mw_ior dX0_addGroups_24 ?_
      rw [mb_and127 hv, mb_or128 hm]
      refine mw_i2b dX0_addGroups_25 rfl ?_
      rw [bV_i2b]
      refine mw_callV dX0_addGroups_26 mk_X0_23 h_this rfl (y_add hB (by omega) (show v % 128 + 128 < 256 by omega)) (by decide) (Nat.le_refl _) (Nat.le_refl _) rfl rfl (Nat.le_of_ble_eq_true rfl) (fun E9 h9 q9 => ?_) (fun v9 h9 q9 => ?_)
      · cases q9.1
      · obtain ⟨e9, q1, q2⟩ := q9
        cases e9
        refine mw_iload_n (i := 2) dX0_addGroups_29 rfl rfl ?_
        refine mw_bipush (v := 7) dX0_addGroups_30 (by decide) ?_
        refine mw_iushr dX0_addGroups_32 rfl ?_
        rw [mb_ush7 hv]
        refine mw_istore_2 dX0_addGroups_33 (by decide) ?_
        refine mw_iinc_3 dX0_addGroups_34 (by decide) rfl ?_
        refine mw_goto (tgt := 4) dX0_addGroups_37 (by decide) ?_
        rw [show nI k + Int32.ofInt 1 = nI (k + 1) from nI_1 k]
        refine mw_post (fun v h' z => ?_) (ih (v / 128) (k + 1) (X ++ [v % 128 + 128]) h9 (by omega) (by omega) (Nat.div_lt_of_lt_mul (by rw [show 7 * (r + 1) + 4 = 7 + (7 * r + 4) by omega, Nat.pow_add] at hr; exact hr)) q1 (by rw [List.length_append]; show X.length + 1 + _ ≤ 256; omega))
        obtain ⟨z1, z2, z3⟩ := z
        refine ⟨z1, ?_, q2.tr z3⟩
        rw [List.append_assoc] at z2
        exact z2
theorem y_addGroups (hB : isB H a c X) {v : Nat} (hv : v < 2 ^ 32) (hl : X.length + (egr v).length ≤ 256) : mw_Con mm_X0_addGroups 1 0 0 [.ref a, .int (nI v)] H (fun w H' => w = .inl none ∧ isB H' a c (X ++ egr v) ∧ yF [a, c] H H') := by
  refine gm_con pl_X0 rfl rfl (Nat.le_of_ble_eq_true rfl) rfl ?_
  refine mw_iload_n (i := 1) dX0_addGroups_0 rfl rfl ?_
  refine mw_istore_2 dX0_addGroups_1 (by decide) ?_
  refine mw_iconst (v := 0) dX0_addGroups_2 (by decide) ?_
  refine mw_istore_3 dX0_addGroups_3 (by decide) ?_
  exact lp_ag 4 v 0 X H rfl hv hv hB hl
theorem y_addKey (hB : isB H a c X) {t y : Nat} (hv : 8 * t + y < 2 ^ 31) (hl : X.length + (egr (8 * t + y)).length ≤ 256) : mw_Con mm_X0_addKey 2 0 0 [.ref a, .int (nI t), .int (nI y)] H (fun w H' => w = .inl none ∧ isB H' a c (X ++ egr (8 * t + y)) ∧ yF [a, c] H H') := by
  have h_this := hB.1
  refine gm_con pl_X0 rfl rfl (Nat.le_of_ble_eq_true rfl) rfl ?_
  refine mw_aload_n (i := 0) dX0_addKey_0 rfl rfl ?_
  refine mw_bipush (v := 8) dX0_addKey_1 (by decide) ?_
  refine mw_iload_n (i := 1) dX0_addKey_3 rfl rfl ?_
  refine mw_imul dX0_addKey_4 ?_
  refine mw_iload_n (i := 2) dX0_addKey_5 rfl rfl ?_
  refine mw_iadd dX0_addKey_6 ?_
  rw [show (8 : Int32) * nI t + nI y = nI (8 * t + y) by rw [show (8 : Int32) = nI 8 from rfl, pk_mul, nI_add]]
  refine mw_callV dX0_addKey_7 mk_X0_45 h_this rfl (y_addGroups hB (v := 8 * t + y) (by omega) hl) (by decide) (Nat.le_refl _) (Nat.le_refl _) rfl rfl (Nat.le_of_ble_eq_true rfl) (fun E9 h9 q9 => ?_) (fun v9 h9 q9 => ?_)
  · cases q9.1
  · obtain ⟨e9, q1, q2⟩ := q9
    cases e9
    exact mw_return dX0_addKey_10 rfl ⟨rfl, q1, q2⟩
theorem mb_sh8 {v k : Nat} (hv : v < 2 ^ 32) (hk : k < 4) : ((nI v).toUInt32 >>> ((nI (8 * k)).toUInt32 &&& Int32.toUInt32 31)).toInt32 = nI (v / 2 ^ (8 * k)) := by
  have h : k = 0 ∨ k = 1 ∨ k = 2 ∨ k = 3 := by omega
  rcases h with rfl | rfl | rfl | rfl
  · exact pk_ushrN hv 0 0 (by decide)
  · exact pk_ushrN hv 8 8 (by decide)
  · exact pk_ushrN hv 16 16 (by decide)
  · exact pk_ushrN hv 24 24 (by decide)
theorem lp_a4 {v : Nat} (hv : v < 2 ^ 32) : ∀ (n k : Nat) (X : List Nat) (H : mw_H), k + n = 4 → isB H a c X → X.length + n ≤ 256 →
    mw_W mm_X0_addFour 1 0 0 2 [some (.ref a), some (.int (nI v)), some (.int (nI (8 * k)))] [] H (fun w H' => w = .inl none ∧ isB H' a c (X ++ (four v).drop k) ∧ yF [a, c] H H') := by
  intro n
  induction n with
  | zero =>
    intro k X H hk hB hl
    have hk : k = 4 := hk
    subst hk
    refine mw_iload_n (i := 2) dX0_addFour_2 rfl rfl ?_
    refine mw_bipush (v := 32) dX0_addFour_3 (by decide) ?_
    refine mw_icmp_ge (tgt := 22) dX0_addFour_5 (by decide) (fun _ => ?_) (fun c9 => absurd c9 (by first | decide | (rw [pk_us]; decide)))
    refine mw_return dX0_addFour_22 rfl ⟨rfl, ?_, yF.rf⟩
    rw [show (four v).drop 4 = [] from rfl, List.append_nil]
    exact hB
  | succ n ih =>
    intro k X H hk hB hl
    have h_this := hB.1
    refine mw_iload_n (i := 2) dX0_addFour_2 rfl rfl ?_
    refine mw_bipush (v := 32) dX0_addFour_3 (by decide) ?_
    refine mw_icmp_ge (tgt := 22) dX0_addFour_5 (by decide) (fun c9 => absurd c9 (show ¬ nI 32 ≤ nI (8 * k) from nI_ge (by omega) (by omega))) (fun _ => ?_)
    refine mw_aload_n (i := 0) dX0_addFour_8 rfl rfl ?_
    refine mw_iload_n (i := 1) dX0_addFour_9 rfl rfl ?_
    refine mw_iload_n (i := 2) dX0_addFour_10 rfl rfl ?_
    refine mw_iushr dX0_addFour_11 rfl ?_
    rw [mb_sh8 hv (by omega)]
    refine mw_i2b dX0_addFour_12 rfl ?_
    have hlt : v / 2 ^ (8 * k) < 2 ^ 32 := Nat.lt_of_le_of_lt (Nat.div_le_self _ _) hv
    rw [bV_i2b, bV_mod (x := v / 2 ^ (8 * k)) (y := v / 2 ^ (8 * k) % 256) (by omega) hlt (by omega)]
    refine mw_callV dX0_addFour_13 mk_X0_23 h_this rfl (y_add hB (by omega) (show v / 2 ^ (8 * k) % 256 < 256 by omega)) (by decide) (Nat.le_refl _) (Nat.le_refl _) rfl rfl (Nat.le_of_ble_eq_true rfl) (fun E9 h9 q9 => ?_) (fun v9 h9 q9 => ?_)
    · cases q9.1
    · obtain ⟨e9, q1, q2⟩ := q9
      cases e9
      refine mw_iinc_2 dX0_addFour_16 (by decide) rfl ?_
      refine mw_goto (tgt := 2) dX0_addFour_19 (by decide) ?_
      rw [show nI (8 * k) + Int32.ofInt 8 = nI (8 * (k + 1)) from nI_add (8 * k) 8]
      refine mw_post (fun w h' z => ?_) (ih (k + 1) _ h9 (by omega) q1 (by rw [List.length_append]; show X.length + 1 + _ ≤ 256; omega))
      obtain ⟨z1, z2, z3⟩ := z
      refine ⟨z1, ?_, q2.tr z3⟩
      rw [List.append_assoc] at z2
      have hd : [v / 2 ^ (8 * k) % 256] ++ (four v).drop (k + 1) = (four v).drop k := by
        have h := four_take v (k := k) (by omega)
        have h4 : (four v).length = 4 := rfl
        rw [List.drop_eq_getElem_cons (show k < (four v).length by rw [h4]; omega)]
        have h5 := List.take_succ_eq_append_getElem (show k < (four v).length by rw [h4]; omega)
        rw [h5] at h
        have h6 := List.append_cancel_left h
        have h7 : (four v)[k] = v / 2 ^ (8 * k) % 256 := List.cons.inj h6 |>.1
        rw [h7]
        rfl
      rw [hd] at z2
      exact z2
theorem y_addFour (hB : isB H a c X) {v : Nat} (hv : v < 2 ^ 32) (hl : X.length + 4 ≤ 256) : mw_Con mm_X0_addFour 1 0 0 [.ref a, .int (nI v)] H (fun w H' => w = .inl none ∧ isB H' a c (X ++ four v) ∧ yF [a, c] H H') := by
  refine gm_con pl_X0 rfl rfl (Nat.le_of_ble_eq_true rfl) rfl ?_
  refine mw_iconst (v := 0) dX0_addFour_0 (by decide) ?_
  refine mw_istore_2 dX0_addFour_1 (by decide) ?_
  exact lp_a4 hv 4 0 X H rfl hB hl
theorem y_addNumberField (hB : isB H a c X) {t y v : Nat} (ht : t ≤ 31) (hy : y ≤ 7) (hv : v < 2 ^ 32) (hl : X.length + (enum t y v).length ≤ 256) : mw_Con mm_X0_addNumberField 3 0 0 [.ref a, .int (nI t), .int (nI y), .int (nI v)] H (fun w H' => w = .inl none ∧ isB H' a c (X ++ enum t y v) ∧ yF [a, c] H H') := by
  have h_this := hB.1
  refine gm_con pl_X0 rfl rfl (Nat.le_of_ble_eq_true rfl) rfl ?_
  unfold enum at hl ⊢
  rw [List.length_append] at hl
  refine mw_aload_n (i := 0) dX0_addNumberField_0 rfl rfl ?_
  refine mw_iload_n (i := 1) dX0_addNumberField_1 rfl rfl ?_
  refine mw_iload_n (i := 2) dX0_addNumberField_2 rfl rfl ?_
  refine mw_callV dX0_addNumberField_3 mk_X0_38 h_this rfl (y_addKey hB (t := t) (y := y) (by omega) (by omega)) (by decide) (Nat.le_refl _) (Nat.le_refl _) rfl rfl (Nat.le_of_ble_eq_true rfl) (fun E9 h9 q9 => ?_) (fun v9 h9 q9 => ?_)
  · cases q9.1
  · obtain ⟨e9, q1, q2⟩ := q9
    cases e9
    have h_this := q1.1
    by_cases h5 : y = 5
    · subst h5
      rw [if_pos rfl] at hl ⊢
      have hl4 : (four v).length = 4 := rfl
      refine mw_iload_n (i := 2) dX0_addNumberField_6 rfl rfl ?_
      refine mw_iconst (v := 5) dX0_addNumberField_7 (by decide) ?_
      refine mw_icmp_ne (tgt := 19) dX0_addNumberField_8 (by decide) (fun c9 => absurd c9 (fun z => z rfl)) (fun _ => ?_)
      refine mw_aload_n (i := 0) dX0_addNumberField_11 rfl rfl ?_
      refine mw_iload_n (i := 3) dX0_addNumberField_12 rfl rfl ?_
      refine mw_callV dX0_addNumberField_13 mk_X0_42 h_this rfl (y_addFour q1 hv (by rw [List.length_append]; omega)) (by decide) (Nat.le_refl _) (Nat.le_refl _) rfl rfl (Nat.le_of_ble_eq_true rfl) (fun E9 h9 q9 => ?_) (fun v9 h9 q9 => ?_)
      · cases q9.1
      · obtain ⟨e9, q3, q4⟩ := q9
        cases e9
        refine mw_goto (tgt := 24) dX0_addNumberField_16 (by decide) ?_
        refine mw_return dX0_addNumberField_24 rfl ⟨rfl, ?_, q2.tr q4⟩
        rw [List.append_assoc] at q3
        exact q3
    · rw [if_neg h5] at hl ⊢
      refine mw_iload_n (i := 2) dX0_addNumberField_6 rfl rfl ?_
      refine mw_iconst (v := 5) dX0_addNumberField_7 (by decide) ?_
      refine mw_icmp_ne (tgt := 19) dX0_addNumberField_8 (by decide) (fun _ => ?_) (fun c9 => absurd c9 (fun z => h5 (by rw [show (5 : Int32) = nI 5 from rfl, nI_eq (by omega) (by omega)] at z; exact z)))
      refine mw_aload_n (i := 0) dX0_addNumberField_19 rfl rfl ?_
      refine mw_iload_n (i := 3) dX0_addNumberField_20 rfl rfl ?_
      refine mw_callV dX0_addNumberField_21 mk_X0_45 h_this rfl (y_addGroups q1 hv (by rw [List.length_append]; omega)) (by decide) (Nat.le_refl _) (Nat.le_refl _) rfl rfl (Nat.le_of_ble_eq_true rfl) (fun E9 h9 q9 => ?_) (fun v9 h9 q9 => ?_)
      · cases q9.1
      · obtain ⟨e9, q3, q4⟩ := q9
        cases e9
        refine mw_return dX0_addNumberField_24 rfl ⟨rfl, ?_, q2.tr q4⟩
        rw [List.append_assoc] at q3
        exact q3
theorem y_addBytesHead (hB : isB H a c X) {t n : Nat} (ht : t ≤ 31) (hn : n < 2 ^ 32) (hl : X.length + (enum t 2 n).length ≤ 256) : mw_Con mm_X0_addBytesHead 3 0 0 [.ref a, .int (nI t), .int (nI n)] H (fun w H' => w = .inl none ∧ isB H' a c (X ++ enum t 2 n) ∧ yF [a, c] H H') := by
  have h_this := hB.1
  refine gm_con pl_X0 rfl rfl (Nat.le_of_ble_eq_true rfl) rfl ?_
  unfold enum at hl ⊢
  rw [List.length_append, if_neg (by decide)] at hl
  rw [if_neg (by decide)]
  refine mw_aload_n (i := 0) dX0_addBytesHead_0 rfl rfl ?_
  refine mw_iload_n (i := 1) dX0_addBytesHead_1 rfl rfl ?_
  refine mw_iconst (v := 2) dX0_addBytesHead_2 (by decide) ?_
  refine mw_callV dX0_addBytesHead_3 mk_X0_38 h_this rfl (y_addKey hB (t := t) (y := 2) (by omega) (by omega)) (by decide) (Nat.le_refl _) (Nat.le_refl _) rfl rfl (Nat.le_of_ble_eq_true rfl) (fun E9 h9 q9 => ?_) (fun v9 h9 q9 => ?_)
  · cases q9.1
  · obtain ⟨e9, q1, q2⟩ := q9
    cases e9
    have h_this := q1.1
    refine mw_aload_n (i := 0) dX0_addBytesHead_6 rfl rfl ?_
    refine mw_iload_n (i := 2) dX0_addBytesHead_7 rfl rfl ?_
    refine mw_callV dX0_addBytesHead_8 mk_X0_45 h_this rfl (y_addGroups q1 hn (by rw [List.length_append]; omega)) (by decide) (Nat.le_refl _) (Nat.le_refl _) rfl rfl (Nat.le_of_ble_eq_true rfl) (fun E9 h9 q9 => ?_) (fun v9 h9 q9 => ?_)
    · cases q9.1
    · obtain ⟨e9, q3, q4⟩ := q9
      cases e9
      refine mw_return dX0_addBytesHead_11 rfl ⟨rfl, ?_, q2.tr q4⟩
      rw [List.append_assoc] at q3
      exact q3
end C1
