/-! the class side: rows of bytes (class side) -/
/-- all but the cells S is as it was -/
def yF (S : List Nat) (H H' : mw_H) : Prop := H'.1 = H.1 ∧ H'.2.2 = H.2.2 ∧ ∀ b, b ∉ S → mw_g H' b = mw_g H b
theorem yF.rf {S : List Nat} {H : mw_H} : yF S H H := ⟨rfl, rfl, fun _ _ => rfl⟩
theorem yF.tr {S : List Nat} {H H' H'' : mw_H} (h : yF S H H') (h' : yF S H' H'') : yF S H H'' := ⟨h'.1.trans h.1, h'.2.1.trans h.2.1, fun b hb => (h'.2.2 b hb).trans (h.2.2 b hb)⟩
theorem yF.mo {S S' : List Nat} {H H' : mw_H} (h : yF S H H') (hs : ∀ b, b ∈ S → b ∈ S') : yF S' H H' := ⟨h.1, h.2.1, fun b hb => h.2.2 b (fun z => hb (hs b z))⟩
theorem yF.s {S : List Nat} {H H' : mw_H} (h : yF S H H') {a : Nat} {x : va_E} (ha : a ∈ S) : yF S H (mw_s H' a x) := ⟨h.1, h.2.1, fun b hb => (mw_go (fun z => hb (by rw [z]; exact ha))).trans (h.2.2 b hb)⟩
/-- at a the row X, its bytes at c -/
def isB (H : mw_H) (a c : Nat) (X : List Nat) : Prop := mw_g H a = some (.inr (0, [.ref c, .int (nI X.length)])) ∧ X.length ≤ 256 ∧ (∀ z ∈ X, z < 256) ∧ ∃ f, mw_g H c = some (.inl (1, (256, .inl f))) ∧ ∀ j, j < X.length → f j = bV (X.getD j 0)
theorem isB_ne {H : mw_H} {a c : Nat} {X : List Nat} (h : isB H a c X) : a ≠ c := by
  obtain ⟨h1, -, -, f, h2, -⟩ := h
  intro e
  rw [e, h2] at h1
  cases h1
theorem isB_F {S : List Nat} {H H' : mw_H} {a c : Nat} {X : List Nat} (h : isB H a c X) (hF : yF S H H') (ha : a ∉ S) (hc : c ∉ S) : isB H' a c X := by
  unfold isB
  rw [hF.2.2 a ha, hF.2.2 c hc]
  exact h
theorem bV_eq {x y : Nat} (hx : x < 256) (hy : y < 256) : (bV x = bV y) ↔ x = y := by
  constructor
  · intro h
    have h1 : (nI x).toInt8.toBitVec.toNat = (nI y).toInt8.toBitVec.toNat := by
      have h2 := congrArg Int32.toInt8 h
      unfold bV at h2
      rw [Int8.toInt8_toInt32, Int8.toInt8_toInt32] at h2
      rw [h2]
    have h3 : ∀ z, z < 256 → (nI z).toInt8.toBitVec.toNat = z := by
      intro z hz
      show ((nI z).toBitVec.signExtend 8).toNat = z
      rw [BitVec.signExtend_eq_setWidth_of_le _ (by decide), BitVec.toNat_setWidth, pk_tn (by omega)]
      omega
    rw [h3 x hx, h3 y hy] at h1
    exact h1
  · intro h; rw [h]
theorem bV_255 {x : Nat} (hx : x < 256) : bV x &&& 255 = nI x := by
  apply Int32.toBitVec_inj.mp
  apply BitVec.eq_of_toNat_eq
  have h8 : (nI x).toInt8.toBitVec = (nI x).toBitVec.setWidth 8 := BitVec.signExtend_eq_setWidth_of_le _ (by decide)
  rw [Int32.toBitVec_and]
  show (((nI x).toInt8.toBitVec.signExtend 32) &&& 255#32).toNat = _
  rw [BitVec.toNat_and, show (255#32).toNat = 2 ^ 8 - 1 from rfl, Nat.and_two_pow_sub_one_eq_mod]
  have h9 : (((nI x).toInt8.toBitVec.signExtend 32)).toNat % 2 ^ 8 = (((nI x).toInt8.toBitVec.signExtend 32).setWidth 8).toNat := (BitVec.toNat_setWidth _ _).symm
  rw [h9]
  have h10 : ((nI x).toInt8.toBitVec.signExtend 32).setWidth 8 = (nI x).toInt8.toBitVec := by
    apply BitVec.eq_of_getLsbD_eq
    intro i hi
    rw [BitVec.getLsbD_setWidth, BitVec.getLsbD_signExtend]
    simp [hi]
    omega
  rw [h10, h8, BitVec.toNat_setWidth, pk_tn (by omega)]
  exact Nat.mod_eq_of_lt hx
theorem bV_nar (x : Nat) : vp_nar .byte (bV x) = bV x := by
  rw [vp_nar_byte]
  unfold bV
  rw [Int8.toInt8_toInt32]
theorem pl_X0 : plainName RX0 = true := by decide +kernel
section C0
variable {H : mw_H} {a c : Nat} {X : List Nat}
theorem y_count (hB : isB H a c X) : mw_Con mm_X0_count 0 0 0 [.ref a] H (mw_ret (.int (nI X.length)) H) := by
  have h_this := hB.1
  refine gm_con pl_X0 rfl rfl (Nat.le_of_ble_eq_true rfl) rfl ?_
  refine mw_aload_n (i := 0) dX0_count_0 rfl rfl ?_
  refine mw_get dX0_count_1 fk_X0_15 h_this rfl ?_
  exact mw_ireturn dX0_count_4 ⟨_, rfl, rfl⟩ ⟨rfl, rfl⟩
theorem y_at (hB : isB H a c X) {j : Nat} (hj : j < X.length) : mw_Con mm_X0_at 0 0 0 [.ref a, .int (nI j)] H (mw_ret (.int (bV (X.getD j 0))) H) := by
  obtain ⟨h_this, hl, hX, f, h_this_cells, hf⟩ := hB
  refine gm_con pl_X0 rfl rfl (Nat.le_of_ble_eq_true rfl) rfl ?_
  refine mw_iload_n (i := 1) dX0_at_0 rfl rfl ?_
  refine mw_if_lt (tgt := 30) dX0_at_1 (by decide) (fun c9 => absurd c9 (show ¬ nI j < nI 0 from nI_nlt (Nat.zero_le _) (by omega))) (fun _ => ?_)
  refine mw_iload_n (i := 1) dX0_at_4 rfl rfl ?_
  refine mw_aload_n (i := 0) dX0_at_5 rfl rfl ?_
  refine mw_get dX0_at_6 fk_X0_15 h_this rfl ?_
  refine mw_icmp_ge (tgt := 30) dX0_at_9 (by decide) (fun c9 => absurd c9 (nI_ge hj (by omega))) (fun _ => ?_)
  refine mw_iload_n (i := 1) dX0_at_12 rfl rfl ?_
  refine mw_aload_n (i := 0) dX0_at_13 rfl rfl ?_
  refine mw_get dX0_at_14 fk_X0_9 h_this rfl ?_
  refine mw_alen (fun _ => rfl) dX0_at_17 h_this_cells ?_
  refine mw_icmp_ge (tgt := 30) dX0_at_18 (by decide) (fun c9 => absurd c9 (nI_ge (show j < 256 by omega) (by omega))) (fun _ => ?_)
  refine mw_aload_n (i := 0) dX0_at_21 rfl rfl ?_
  refine mw_get dX0_at_22 fk_X0_9 h_this rfl ?_
  refine mw_iload_n (i := 1) dX0_at_25 rfl rfl ?_
  refine mw_bald dX0_at_26 h_this_cells (mw_ix rfl (show j < 256 by omega) (by decide)) ?_
  rw [hf j hj]
  refine mw_goto (tgt := 31) dX0_at_27 (by decide) ?_
  exact mw_ireturn dX0_at_31 ⟨_, rfl, nb_byte _⟩ ⟨rfl, rfl⟩
theorem y_add (hB : isB H a c X) (hl : X.length < 256) {x : Nat} (hx : x < 256) : mw_Con mm_X0_add 0 0 0 [.ref a, .int (bV x)] H (fun v H' => v = .inl none ∧ isB H' a c (X ++ [x]) ∧ yF [a, c] H H') := by
  have hne := isB_ne hB
  obtain ⟨h_this, hl0, hX, f, h_this_cells, hf⟩ := hB
  refine gm_con pl_X0 rfl rfl (Nat.le_of_ble_eq_true rfl) rfl ?_
  refine mw_aload_n (i := 0) dX0_add_0 rfl rfl ?_
  refine mw_get dX0_add_1 fk_X0_15 h_this rfl ?_
  refine mw_if_lt (tgt := 39) dX0_add_4 (by decide) (fun c9 => absurd c9 (show ¬ nI X.length < nI 0 from nI_nlt (Nat.zero_le _) (by omega))) (fun _ => ?_)
  refine mw_aload_n (i := 0) dX0_add_7 rfl rfl ?_
  refine mw_get dX0_add_8 fk_X0_15 h_this rfl ?_
  refine mw_aload_n (i := 0) dX0_add_11 rfl rfl ?_
  refine mw_get dX0_add_12 fk_X0_9 h_this rfl ?_
  refine mw_alen (fun _ => rfl) dX0_add_15 h_this_cells ?_
  refine mw_icmp_ge (tgt := 39) dX0_add_16 (by decide) (fun c9 => absurd c9 (nI_ge hl (by omega))) (fun _ => ?_)
  refine mw_aload_n (i := 0) dX0_add_19 rfl rfl ?_
  refine mw_get dX0_add_20 fk_X0_9 h_this rfl ?_
  refine mw_aload_n (i := 0) dX0_add_23 rfl rfl ?_
  refine mw_get dX0_add_24 fk_X0_15 h_this rfl ?_
  refine mw_iload_n (i := 1) dX0_add_27 rfl rfl ?_
  refine mw_bast dX0_add_28 h_this_cells (mw_ix rfl hl (by decide)) ?_
  rw [bV_nar]
  have h_this : mw_g (mw_s H c (.inl (1, (256, .inl (upd f X.length (bV x)))))) a = some (.inr (0, [.ref c, .int (nI X.length)])) := (mw_go hne).trans h_this
  refine mw_aload_n (i := 0) dX0_add_29 rfl rfl ?_
  refine mw_dup dX0_add_30 rfl ?_
  refine mw_get dX0_add_31 fk_X0_15 h_this rfl ?_
  refine mw_iconst (v := 1) dX0_add_34 (by decide) ?_
  refine mw_iadd dX0_add_35 ?_
  refine mw_put dX0_add_36 fk_X0_15 h_this (Nat.le_of_ble_eq_true rfl) (fun _ => ⟨rfl, rfl⟩) ?_
  rw [show nI X.length + 1 = nI (X.length + 1) from nI_1 _]
  refine mw_return dX0_add_39 rfl ⟨rfl, ⟨?_, ?_, ?_, upd f X.length (bV x), ?_, ?_⟩, (yF.rf.s (by simp)).s (by simp)⟩
  · rw [mw_gs, List.length_append]; rfl
  · rw [List.length_append]; show X.length + 1 ≤ 256; omega
  · intro z hz
    rcases List.mem_append.mp hz with hz | hz
    · exact hX z hz
    · rw [List.mem_singleton] at hz; rw [hz]; exact hx
  · rw [mw_go hne.symm, mw_gs]
  · intro j hj
    rw [List.length_append] at hj
    have hj : j < X.length + 1 := hj
    by_cases e : j = X.length
    · rw [e, pk_us, List.getD_eq_getElem?_getD, List.getElem?_append_right (Nat.le_refl _), Nat.sub_self]
      rfl
    · rw [pk_un e, hf j (by omega), List.getD_eq_getElem?_getD, List.getD_eq_getElem?_getD, List.getElem?_append_left (by omega)]
theorem y_keep (hB : isB H a c X) {k : Nat} (hk : k ≤ X.length) : mw_Con mm_X0_keepFirst 0 0 0 [.ref a, .int (nI k)] H (fun v H' => v = .inl none ∧ isB H' a c (X.take k) ∧ yF [a, c] H H') := by
  have hne := isB_ne hB
  have hB0 := hB
  obtain ⟨h_this, hl0, hX, f, h_this_cells, hf⟩ := hB
  refine gm_con pl_X0 rfl rfl (Nat.le_of_ble_eq_true rfl) rfl ?_
  by_cases e : k = X.length
  · refine mw_iload_n (i := 1) dX0_keepFirst_0 rfl rfl ?_
    refine mw_if_lt (tgt := 17) dX0_keepFirst_1 (by decide) (fun c9 => absurd c9 (show ¬ nI k < nI 0 from nI_nlt (Nat.zero_le _) (by omega))) (fun _ => ?_)
    refine mw_iload_n (i := 1) dX0_keepFirst_4 rfl rfl ?_
    refine mw_aload_n (i := 0) dX0_keepFirst_5 rfl rfl ?_
    refine mw_get dX0_keepFirst_6 fk_X0_15 h_this rfl ?_
    refine mw_icmp_ge (tgt := 17) dX0_keepFirst_9 (by decide) (fun _ => ?_) (fun c9 => absurd c9 (fun z => z (by rw [e]; exact Int32.le_refl _)))
    refine mw_return dX0_keepFirst_17 rfl ⟨rfl, ?_, yF.rf⟩
    rw [e, List.take_length]
    exact hB0
  · refine mw_iload_n (i := 1) dX0_keepFirst_0 rfl rfl ?_
    refine mw_if_lt (tgt := 17) dX0_keepFirst_1 (by decide) (fun c9 => absurd c9 (show ¬ nI k < nI 0 from nI_nlt (Nat.zero_le _) (by omega))) (fun _ => ?_)
    refine mw_iload_n (i := 1) dX0_keepFirst_4 rfl rfl ?_
    refine mw_aload_n (i := 0) dX0_keepFirst_5 rfl rfl ?_
    refine mw_get dX0_keepFirst_6 fk_X0_15 h_this rfl ?_
    refine mw_icmp_ge (tgt := 17) dX0_keepFirst_9 (by decide) (fun c9 => absurd c9 (nI_ge (by omega) (by omega))) (fun _ => ?_)
    refine mw_aload_n (i := 0) dX0_keepFirst_12 rfl rfl ?_
    refine mw_iload_n (i := 1) dX0_keepFirst_13 rfl rfl ?_
    refine mw_put dX0_keepFirst_14 fk_X0_15 h_this (Nat.le_of_ble_eq_true rfl) (fun _ => ⟨rfl, rfl⟩) ?_
    have hlk : (X.take k).length = k := by rw [List.length_take]; omega
    refine mw_return dX0_keepFirst_17 rfl ⟨rfl, ⟨?_, ?_, ?_, f, ?_, ?_⟩, yF.rf.s (by simp)⟩
    · rw [mw_gs, hlk]; rfl
    · rw [hlk]; omega
    · exact fun z hz => hX z (List.mem_of_mem_take hz)
    · rw [mw_go hne.symm]; exact h_this_cells
    · intro j hj
      rw [hlk] at hj
      rw [hf j (by omega), List.getD_eq_getElem?_getD, List.getD_eq_getElem?_getD, List.getElem?_take_of_lt hj]
/-- from another row -/
theorem lp_ar {a2 c2 : Nat} {Y : List Nat} (h1 : a2 ≠ a) (h2 : c2 ≠ c) (h3 : a2 ≠ c) (h4 : c2 ≠ a) {e : Nat} (he : e ≤ Y.length) {x2 : Option Value} : ∀ (n p : Nat) (X : List Nat) (H : mw_H), p + n = e → isB H a c X → isB H a2 c2 Y → X.length + n ≤ 256 →
    mw_W mm_X0_addRange 1 0 0 3 [some (.ref a), some (.ref a2), x2, some (.int (nI e)), some (.int (nI p))] [] H (fun v H' => v = .inl none ∧ isB H' a c (X ++ (Y.drop p).take n) ∧ yF [a, c] H H') := by
  intro n
  induction n with
  | zero =>
    intro p X H hp hB hB2 hl
    refine mw_iload (i := 4) dX0_addRange_3 rfl ?_
    refine mw_iload_n (i := 3) dX0_addRange_5 rfl rfl ?_
    refine mw_icmp_ge (tgt := 25) dX0_addRange_6 (by decide) (fun _ => ?_) (fun c9 => absurd c9 (fun z => z (nI_le (by omega) (by have := hB2.2.1; omega))))
    refine mw_return dX0_addRange_25 rfl ⟨rfl, ?_, yF.rf⟩
    rw [List.take_zero, List.append_nil]
    exact hB
  | succ n ih =>
    intro p X H hp hB hB2 hl
    have hYl := hB2.2.1
    have hYp := hB2.2.2.1 _ (getD_mem (X := Y) (k := p) (by omega))
    refine mw_iload (i := 4) dX0_addRange_3 rfl ?_
    refine mw_iload_n (i := 3) dX0_addRange_5 rfl rfl ?_
    refine mw_icmp_ge (tgt := 25) dX0_addRange_6 (by decide) (fun c9 => absurd c9 (nI_ge (by omega) (by omega))) (fun _ => ?_)
    refine mw_aload_n (i := 0) dX0_addRange_9 rfl rfl ?_
    refine mw_aload_n (i := 1) dX0_addRange_10 rfl rfl ?_
    refine mw_iload (i := 4) dX0_addRange_11 rfl ?_
    have h_this := hB.1
    have h_p1 := hB2.1
    refine mw_callVr dX0_addRange_13 mk_X0_19 h_p1 rfl (y_at hB2 (show p < Y.length by omega)) (by decide) (Nat.le_refl _) (Nat.le_refl _) rfl rfl (Nat.le_of_ble_eq_true rfl) ?_
    refine mw_callV dX0_addRange_16 mk_X0_23 h_this rfl (y_add hB (by omega) hYp) (by decide) (Nat.le_refl _) (Nat.le_refl _) rfl rfl (Nat.le_of_ble_eq_true rfl) (fun E9 h9 q9 => ?_) (fun v9 h9 q9 => ?_)
    · cases q9.1
    · obtain ⟨e9, q1, q2⟩ := q9
      cases e9
      refine mw_iinc_4 dX0_addRange_19 (by decide) rfl ?_
      refine mw_goto (tgt := 3) dX0_addRange_22 (by decide) ?_
      rw [show nI p + Int32.ofInt 1 = nI (p + 1) from nI_1 p]
      refine mw_post (fun v h' z => ?_) (ih (p + 1) (X ++ [Y.getD p 0]) h9 (by omega) q1 (isB_F hB2 q2 (by simp [h1, h3]) (by simp [h2, h4])) (by rw [List.length_append]; show X.length + 1 + n ≤ 256; omega))
      obtain ⟨z1, z2, z3⟩ := z
      refine ⟨z1, ?_, q2.tr z3⟩
      rw [List.append_assoc] at z2
      have hd : [Y.getD p 0] ++ (Y.drop (p + 1)).take n = (Y.drop p).take (n + 1) := by
        rw [List.drop_eq_getElem_cons (show p < Y.length by omega), List.take_succ_cons, List.getD_eq_getElem?_getD, List.getElem?_eq_getElem (show p < Y.length by omega)]
        rfl
      rw [hd] at z2
      exact z2
theorem y_addRange {a2 c2 : Nat} {Y : List Nat} (hB : isB H a c X) (hB2 : isB H a2 c2 Y) (h1 : a2 ≠ a) (h2 : c2 ≠ c) {p n e : Nat} (hp : p + n = e) (he : e ≤ Y.length) (hl : X.length + n ≤ 256) :
    mw_Con mm_X0_addRange 1 0 0 [.ref a, .ref a2, .int (nI p), .int (nI e)] H (fun v H' => v = .inl none ∧ isB H' a c (X ++ (Y.drop p).take n) ∧ yF [a, c] H H') := by
  have h3 : a2 ≠ c := by
    intro z
    obtain ⟨-, -, -, f, hf, -⟩ := hB
    have := hB2.1
    rw [z, hf] at this
    cases this
  have h4 : c2 ≠ a := by
    intro z
    obtain ⟨-, -, -, f, hf, -⟩ := hB2
    have := hB.1
    rw [← z, hf] at this
    cases this
  refine gm_con pl_X0 rfl rfl (Nat.le_of_ble_eq_true rfl) rfl ?_
  refine mw_iload_n (i := 2) dX0_addRange_0 rfl rfl ?_
  refine mw_istore_4 dX0_addRange_1 (by decide) ?_
  exact lp_ar h1 h2 h3 h4 he n p X H hp hB hB2 hl
theorem y_replaceBy {a2 c2 : Nat} {Y : List Nat} (hB : isB H a c X) (hB2 : isB H a2 c2 Y) (h1 : a2 ≠ a) (h2 : c2 ≠ c) :
    mw_Con mm_X0_replaceBy 2 0 0 [.ref a, .ref a2] H (fun v H' => v = .inl none ∧ isB H' a c Y ∧ yF [a, c] H H') := by
  have h3 : a2 ≠ c := by
    intro z
    obtain ⟨-, -, -, f, hf, -⟩ := hB
    have := hB2.1
    rw [z, hf] at this
    cases this
  have h4 : c2 ≠ a := by
    intro z
    obtain ⟨-, -, -, f, hf, -⟩ := hB2
    have := hB.1
    rw [← z, hf] at this
    cases this
  have h_this := hB.1
  refine gm_con pl_X0 rfl rfl (Nat.le_of_ble_eq_true rfl) rfl ?_
  refine mw_aload_n (i := 0) dX0_replaceBy_0 rfl rfl ?_
  refine mw_iconst (v := 0) dX0_replaceBy_1 (by decide) ?_
  refine mw_callV dX0_replaceBy_2 mk_X0_27 h_this rfl (y_keep hB (k := 0) (Nat.zero_le _)) (by decide) (Nat.le_refl _) (Nat.le_refl _) rfl rfl (Nat.le_of_ble_eq_true rfl) (fun E9 h9 q9 => ?_) (fun v9 h9 q9 => ?_)
  · cases q9.1
  · obtain ⟨e9, q1, q2⟩ := q9
    cases e9
    have hB3 := isB_F hB2 q2 (by simp [h1, h3]) (by simp [h2, h4])
    have h_this := q1.1
    have h_p1 := hB3.1
    have hY := hB3.2.1
    refine mw_aload_n (i := 0) dX0_replaceBy_5 rfl rfl ?_
    refine mw_aload_n (i := 1) dX0_replaceBy_6 rfl rfl ?_
    refine mw_iconst (v := 0) dX0_replaceBy_7 (by decide) ?_
    refine mw_aload_n (i := 1) dX0_replaceBy_8 rfl rfl ?_
    refine mw_callVr dX0_replaceBy_9 mk_X0_31 h_p1 rfl (y_count hB3) (by decide) (Nat.le_refl _) (Nat.le_refl _) rfl rfl (Nat.le_of_ble_eq_true rfl) ?_
    refine mw_callV dX0_replaceBy_12 mk_X0_34 h_this rfl (y_addRange q1 hB3 h1 h2 (p := 0) (n := Y.length) (Nat.zero_add _) (Nat.le_refl _) (by rw [List.take_zero]; show 0 + _ ≤ 256; omega)) (by decide) (Nat.le_refl _) (Nat.le_refl _) rfl rfl (Nat.le_of_ble_eq_true rfl) (fun E9 h9 q9 => ?_) (fun v9 h9 q9 => ?_)
    · cases q9.1
    · obtain ⟨e9, q3, q4⟩ := q9
      cases e9
      refine mw_return dX0_replaceBy_15 rfl ⟨rfl, ?_, q2.tr q4⟩
      rw [List.take_zero, List.nil_append, List.drop_zero, List.take_length] at q3
      exact q3
end C0
