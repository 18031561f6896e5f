/-! the class side: canonical fields: chosen, written, compared (class side) -/
def SK (q : Nat) : List Nat := [q, q + 1, q + 2, q + 3, q + 4, q + 5, q + 8, q + 9]
theorem SK_o {q b : Nat} (h : b < q ∨ q + 9 < b) : b ∉ SK q := by
  unfold SK
  simp only [List.mem_cons, List.not_mem_nil, or_false, not_or]
  omega
theorem isS_F {S : List Nat} {H H' : mw_H} {K : Nat → Nat → Int32} {sa : Nat → Nat} {s sc ck cy cd cp : Nat} (hS : isS H K sa s sc ck cy cd cp) (hF : yF S H H') (h1 : sc ∉ S) (h2 : ck ∉ S) (h5 : cy ∉ S) (h3 : cd ∉ S) (h4 : cp ∉ S) : isS H' K sa s sc ck cy cd cp := by
  obtain ⟨b1, ⟨g1, b2, b3⟩, ⟨g2, b4, b5⟩, ⟨g3, b6, b7⟩, ⟨g4, b8, b9⟩⟩ := hS
  exact ⟨hF.g h1 b1, ⟨g1, hF.g h2 b2, b3⟩, ⟨g2, hF.g h3 b4, b5⟩, ⟨g3, hF.g h4 b6, b7⟩, ⟨g4, hF.g h5 b8, b9⟩⟩
/-- room for canonical fields -/
def isK0 (H : mw_H) (q : Nat) : Prop := (∃ n, mw_g H q = some (cV q n)) ∧ isF0 H (q + 1) ∧ (∃ f, mw_g H (q + 8) = some (.inl (0, (60, .inl f)))) ∧ ∃ g, mw_g H (q + 9) = some (.inl (0, (32, .inl g)))
/-- the places R of the fields L of the row X at src -/
def isK (H : mw_H) (q src : Nat) (X : List Nat) (L : List af) (R : List Nat) : Prop := ∃ E pb pa f g, mw_g H q = some (cV q R.length) ∧ isF H (q + 1) src X L E pb pa ∧ mw_g H (q + 8) = some (.inl (0, (60, .inl f))) ∧ holds f R ∧ mw_g H (q + 9) = some (.inl (0, (32, .inl g))) ∧ R.length ≤ 60 ∧ ∀ i ∈ R, i < L.length
theorem isK.r {H : mw_H} {q src : Nat} {X : List Nat} {L : List af} {R : List Nat} (h : isK H q src X L R) : isK0 H q := by
  obtain ⟨E, pb, pa, f, g, h1, h2, h3, -, h5, -⟩ := h
  exact ⟨⟨_, h1⟩, h2.r, ⟨_, h3⟩, ⟨_, h5⟩⟩
theorem isK0_F {S : List Nat} {H H' : mw_H} {q : Nat} (h : isK0 H q) (hF : yF S H H') (hS : ∀ b ∈ S, b < q ∨ q + 9 < b) : isK0 H' q := by
  obtain ⟨⟨n, h1⟩, h2, ⟨f, h3⟩, ⟨g, h4⟩⟩ := h
  have ho : ∀ j, j ≤ 9 → q + j ∉ S := fun j hj hm => by have := hS _ hm; omega
  exact ⟨⟨n, hF.g (ho 0 (by decide)) h1⟩, isF0_FS h2 hF (ho 1 (by decide)) (ho 2 (by decide)) (ho 3 (by decide)) (ho 4 (by decide)) (ho 5 (by decide)), ⟨f, hF.g (ho 8 (by decide)) h3⟩, ⟨g, hF.g (ho 9 (by decide)) h4⟩⟩
theorem isK_F {S : List Nat} {H H' : mw_H} {q src : Nat} {X : List Nat} {L : List af} {R : List Nat} (h : isK H q src X L R) (hF : yF S H H') (hS : ∀ b ∈ S, b < q ∨ q + 9 < b) : isK H' q src X L R := by
  obtain ⟨E, pb, pa, f, g, h1, h2, h3, h4, h5, h6⟩ := h
  have ho : ∀ j, j ≤ 9 → q + j ∉ S := fun j hj hm => by have := hS _ hm; omega
  exact ⟨E, pb, pa, f, g, hF.g (ho 0 (by decide)) h1, isF_FS h2 hF (ho 1 (by decide)) (ho 2 (by decide)) (ho 3 (by decide)) (ho 4 (by decide)) (ho 5 (by decide)), hF.g (ho 8 (by decide)) h3, h4, hF.g (ho 9 (by decide)) h5, h6⟩
section C16
variable {H : mw_H} {q src cs tg ct : Nat} {X Y : List Nat} {L : List af} {R : List Nat} {K : Nat → Nat → Int32} {sa : Nat → Nat} {s sc ck cy cd cp ns : Nat}
theorem lp_ch {E : Nat → Nat} {pb pa : Int32} {g : Nat → Int32} (hK : okK K ns) (hs : s < ns) (hS : isS H K sa s sc ck cy cd cp) (hI : isF H (q + 1) src X L E pb pa) (hg : mw_g H (q + 9) = some (.inl (0, (32, .inl g)))) (hl : lsts K s L L.length g) (hne : (sc < q ∨ q + 9 < sc) ∧ (ck < q ∨ q + 9 < ck) ∧ (cy < q ∨ q + 9 < cy) ∧ (cd < q ∨ q + 9 < cd) ∧ (cp < q ∨ q + 9 < cp)) (x1 : Option Value) : ∀ (r n : Nat) (f : Nat → Int32) (H' : mw_H), n + r = L.length → (cnR K s L n).length ≤ n → yF [q, q + 8] H H' → mw_g H' q = some (cV q (cnR K s L n).length) → mw_g H' (q + 8) = some (.inl (0, (60, .inl f))) → holds f (cnR K s L n) →
    mw_W mm_X1_choose 5 0 0 25 [some (.ref q), x1, some (.ref sc), some (.int (nI n))] [] H' (fun v H' => v = .inl none ∧ yF [q, q + 8] H H' ∧ isK H' q src X L (cnR K s L L.length)) := by
  obtain ⟨n1, n2, n5, n3, n4⟩ := hne
  intro r
  induction r with
  | zero =>
    intro n f H' hn hlen hF h_this ho hh
    have hn : n = L.length := hn
    have hI' := isF_FS hI hF (by simp <;> omega) (by simp <;> omega) (by simp <;> omega) (by simp <;> omega) (by simp <;> omega)
    have hI0 := hI'
    obtain ⟨h60, nx, lm, f1, f2, f3, f4, h_this_fields, -, -⟩ := hI'
    refine mw_iload_n (i := 3) dX1_choose_25 rfl rfl ?_
    refine mw_aload_n (i := 0) dX1_choose_26 rfl rfl ?_
    refine mw_get dX1_choose_27 fk_X1_12 h_this rfl ?_
    refine mw_callVr dX1_choose_30 mk_X1_42 h_this_fields rfl (y_fcount hI0) (by decide) (Nat.le_refl _) (Nat.le_refl _) rfl rfl (Nat.le_of_ble_eq_true rfl) ?_
    refine mw_icmp_ge (tgt := 68) dX1_choose_33 (by decide) (fun _ => ?_) (fun c9 => absurd c9 (fun z => z (nI_le (by omega) (by omega))))
    rw [hn] at hlen h_this hh
    exact mw_return dX1_choose_68 rfl ⟨rfl, hF, E, pb, pa, f, g, h_this, hI0, ho, hh, hF.g (by simp) hg, by omega, fun i hi => (rkF_mem hi).1⟩
  | succ r ih =>
    intro n f H' hn hlen hF h_this ho hh
    have hnl : n < L.length := by omega
    have hI' := isF_FS hI hF (by simp <;> omega) (by simp <;> omega) (by simp <;> omega) (by simp <;> omega) (by simp <;> omega)
    have hI0 := hI'
    have hS' := isS_F hS hF (by simp; omega) (by simp; omega) (by simp; omega) (by simp; omega) (by simp; omega)
    have hg' := hF.g (b := q + 9) (by simp) hg
    obtain ⟨h60, nx, lm, f1, f2, f3, f4, h_this_fields, -, -⟩ := hI'
    obtain ⟨o1, o2, -⟩ := (isF_ok hI0 hnl).1
    have hins : kp K s L n = true → mw_W mm_X1_choose 5 0 0 57 [some (.ref q), x1, some (.ref sc), some (.int (nI n))] [] H' (fun v H' => v = .inl none ∧ yF [q, q + 8] H H' ∧ isK H' q src X L (cnR K s L L.length)) := by
      intro hP
      obtain ⟨B, r1, r2, r3⟩ := rkF_in (P := kp K s L) (tg := fun i => (ga L i).1) (n := n) hP o1 31 o2
      have r1 : cnR K s L n = rkF (kp K s L) (fun i => (ga L i).1) n (ga L n).1 ++ B := r1
      have r3 : cnR K s L (n + 1) = rkF (kp K s L) (fun i => (ga L i).1) n (ga L n).1 ++ n :: B := r3
      have hmem : ∀ i ∈ cnR K s L n, i < L.length := fun i hi => by have := (rkF_mem hi).1; omega
      have hlc : (cnR K s L n).length = (rkF (kp K s L) (fun i => (ga L i).1) n (ga L n).1).length + B.length := by rw [r1, List.length_append]
      have hlc1 : (cnR K s L (n + 1)).length = (cnR K s L n).length + 1 := by rw [r3, hlc, List.length_append, List.length_cons]; omega
      refine mw_aload_n (i := 0) dX1_choose_57 rfl rfl ?_
      refine mw_iload_n (i := 3) dX1_choose_58 rfl rfl ?_
      refine mw_callV dX1_choose_59 mk_X1_50 h_this rfl (y_insert hlc (by omega) hnl (fun i hi => ⟨hmem i (by rw [r1]; exact List.mem_append_left _ hi), (rkF_mem hi).2.2⟩) (fun i hi => ⟨hmem i (by rw [r1]; exact List.mem_append_right _ hi), r2 i hi⟩) h_this hI0 ho (by rw [← r1]; exact hh)) (by decide) (Nat.le_refl _) (Nat.le_refl _) rfl rfl (Nat.le_of_ble_eq_true rfl) (fun E9 h9 q9 => ?_) (fun v9 h9 q9 => ?_)
      · cases q9.1
      obtain ⟨e9, u1, u2, f', u3, u4⟩ := q9
      cases e9
      refine mw_iinc_3 dX1_choose_62 (by decide) rfl ?_
      refine mw_goto (tgt := 25) dX1_choose_65 (by decide) ?_
      rw [show nI n + Int32.ofInt 1 = nI (n + 1) from nI_1 n]
      rw [← r3] at u4
      rw [← hlc1] at u2
      exact ih (n + 1) f' h9 (by omega) (by omega) (hF.tr u1) u2 u3 u4
    have hout : kp K s L n = false → mw_W mm_X1_choose 5 0 0 62 [some (.ref q), x1, some (.ref sc), some (.int (nI n))] [] H' (fun v H' => v = .inl none ∧ yF [q, q + 8] H H' ∧ isK H' q src X L (cnR K s L L.length)) := by
      intro hP
      have r1 : cnR K s L (n + 1) = cnR K s L n := rkF_out (P := kp K s L) (tg := fun i => (ga L i).1) (n := n) 31 (Or.inl hP)
      refine mw_iinc_3 dX1_choose_62 (by decide) rfl ?_
      refine mw_goto (tgt := 25) dX1_choose_65 (by decide) ?_
      rw [show nI n + Int32.ofInt 1 = nI (n + 1) from nI_1 n]
      exact ih (n + 1) f H' (by omega) (by rw [r1]; omega) hF (by rw [r1]; exact h_this) ho (by rw [r1]; exact hh)
    refine mw_iload_n (i := 3) dX1_choose_25 rfl rfl ?_
    refine mw_aload_n (i := 0) dX1_choose_26 rfl rfl ?_
    refine mw_get dX1_choose_27 fk_X1_12 h_this rfl ?_
    refine mw_callVr dX1_choose_30 mk_X1_42 h_this_fields rfl (y_fcount hI0) (by decide) (Nat.le_refl _) (Nat.le_refl _) rfl rfl (Nat.le_of_ble_eq_true rfl) ?_
    refine mw_icmp_ge (tgt := 68) dX1_choose_33 (by decide) (fun c9 => absurd c9 (nI_ge hnl (by omega))) (fun _ => ?_)
    refine mw_aload_n (i := 0) dX1_choose_36 rfl rfl ?_
    refine mw_get dX1_choose_37 fk_X1_12 h_this rfl ?_
    refine mw_aload_n (i := 2) dX1_choose_40 rfl rfl ?_
    refine mw_iload_n (i := 3) dX1_choose_41 rfl rfl ?_
    refine mw_callVr dX1_choose_42 mk_X1_43 h_this_fields rfl (y_isKnown hK hs hS' hI0 hnl) (by decide) (Nat.le_refl _) (Nat.le_refl _) rfl rfl (Nat.le_of_ble_eq_true rfl) ?_
    cases hk : knb K s (ga L n) with
    | false =>
      refine mw_if_eq (tgt := 57) dX1_choose_45 (by decide) (fun _ => ?_) (fun c9 => absurd c9 (by first | decide | (rw [pk_us]; decide)))
      exact hins (by unfold kp; rw [hk]; rfl)
    | true =>
      refine mw_if_eq (tgt := 57) dX1_choose_45 (by decide) (fun c9 => absurd c9 (by first | decide | (rw [pk_us]; decide))) (fun _ => ?_)
      refine mw_aload_n (i := 0) dX1_choose_48 rfl rfl ?_
      refine mw_aload_n (i := 2) dX1_choose_49 rfl rfl ?_
      refine mw_iload_n (i := 3) dX1_choose_50 rfl rfl ?_
      refine mw_callVr dX1_choose_51 mk_X1_47 h_this rfl (y_isToldBy hS' h_this hI0 hg' hl hnl hk) (by decide) (Nat.le_refl _) (Nat.le_refl _) rfl rfl (Nat.le_of_ble_eq_true rfl) ?_
      cases hP : kp K s L n with
      | true =>
        refine mw_if_eq (tgt := 62) dX1_choose_54 (by decide) (fun c9 => absurd c9 (by first | decide | (rw [pk_us]; decide))) (fun _ => ?_)
        exact hins hP
      | false =>
        refine mw_if_eq (tgt := 62) dX1_choose_54 (by decide) (fun _ => ?_) (fun c9 => absurd c9 (by first | decide | (rw [pk_us]; decide)))
        exact hout hP
theorem y_choose (hK : okK K ns) (hs : s < ns) (hS : isS H K sa s sc ck cy cd cp) (hR : isK0 H q) (hB : isB H src cs X) (hne : (sc < q ∨ q + 9 < sc) ∧ (ck < q ∨ q + 9 < ck) ∧ (cy < q ∨ q + 9 < cy) ∧ (cd < q ∨ q + 9 < cd) ∧ (cp < q ∨ q + 9 < cp)) (hsr : (src < q ∨ q + 9 < src) ∧ (cs < q ∨ q + 9 < cs)) : mw_Con mm_X1_choose 5 0 0 [.ref q, .ref src, .ref sc] H (fun v H' => v = .inl none ∧ yF (SK q) H H' ∧ isK H' q src X (prsL X).1 (cnR K s (prsL X).1 (prsL X).1.length)) := by
  obtain ⟨n1, n2, n5, n3, n4⟩ := hne
  obtain ⟨⟨n0, h_this⟩, hF0, ⟨fo, ho⟩, ⟨fl, hlf⟩⟩ := hR
  have hF00 := hF0
  obtain ⟨k0, s0, nx0, lm0, pb0, pa0, g1, g2, g3, g4, h_this_fields, -⟩ := hF0
  have h_p1 := hB.1
  refine gm_con pl_X1 rfl rfl (Nat.le_of_ble_eq_true rfl) rfl ?_
  refine mw_aload_n (i := 0) dX1_choose_0 rfl rfl ?_
  refine mw_get dX1_choose_1 fk_X1_12 h_this rfl ?_
  refine mw_aload_n (i := 1) dX1_choose_4 rfl rfl ?_
  refine mw_iconst (v := 0) dX1_choose_5 (by decide) ?_
  refine mw_aload_n (i := 1) dX1_choose_6 rfl rfl ?_
  refine mw_callVr dX1_choose_7 mk_X1_25 h_p1 rfl (y_count hB) (by decide) (Nat.le_refl _) (Nat.le_refl _) rfl rfl (Nat.le_of_ble_eq_true rfl) ?_
  refine mw_callV dX1_choose_10 mk_X1_31 h_this_fields rfl (y_scan hF00 hB (p := 0) (e := X.length) (Nat.zero_le _) (Nat.le_refl _)) (by decide) (Nat.le_refl _) (Nat.le_refl _) rfl rfl (Nat.le_of_ble_eq_true rfl) (fun E9 h9 q9 => ?_) (fun v9 h9 q9 => ?_)
  · cases q9.1
  obtain ⟨e9, q1, E, q2⟩ := q9
  cases e9
  have q2 : isF h9 (q + 1) src X (prsL X).1 E (nI (prsL X).2.1) (if (prsL X).2.1 = 0 then -1 else nI (prsL X).2.2) := q2
  generalize (prsL X).1 = L at *
  generalize nI (prsL X).2.1 = pb at *
  generalize (if (prsL X).2.1 = 0 then (-1 : Int32) else nI (prsL X).2.2) = pa at *
  have hns : ∀ b, (b < q ∨ q + 9 < b) ∨ b = q ∨ b = q + 8 ∨ b = q + 9 → b ∉ S5 (q + 1) := fun b hb => by
    unfold S5
    simp only [List.mem_cons, List.not_mem_nil, or_false, not_or]
    omega
  have hS1 := isS_F hS q1 (hns _ (Or.inl n1)) (hns _ (Or.inl n2)) (hns _ (Or.inl n5)) (hns _ (Or.inl n3)) (hns _ (Or.inl n4))
  have t1 := q1.g (hns q (by omega)) h_this
  have o1 := q1.g (hns (q + 8) (by omega)) ho
  have l1 := q1.g (hns (q + 9) (by omega)) hlf
  have h_this := t1
  refine mw_aload_n (i := 0) dX1_choose_13 rfl rfl ?_
  refine mw_aload_n (i := 2) dX1_choose_14 rfl rfl ?_
  refine mw_callV dX1_choose_15 mk_X1_35 h_this rfl (y_noteLasts hK hs hS1 t1 q2 l1 (by omega)) (by decide) (Nat.le_refl _) (Nat.le_refl _) rfl rfl (Nat.le_of_ble_eq_true rfl) (fun E9 h9 q9 => ?_) (fun v9 h9 q9 => ?_)
  · cases q9.1
  obtain ⟨e9, u1, g, u2, u3⟩ := q9
  cases e9
  have h_this := u1.g (S5_1 (show q ≠ q + 9 by omega)) t1
  have o2 := u1.g (S5_1 (show q + 8 ≠ q + 9 by omega)) o1
  have hS2 := isS_F hS1 u1 (S5_1 (by omega)) (S5_1 (by omega)) (S5_1 (by omega)) (S5_1 (by omega)) (S5_1 (by omega))
  have q3 := isF_FS q2 u1 (by simp <;> omega) (by simp <;> omega) (by simp <;> omega) (by simp <;> omega) (by simp <;> omega)
  rename_i h8 _
  refine mw_aload_n (i := 0) dX1_choose_18 rfl rfl ?_
  refine mw_iconst (v := 0) dX1_choose_19 (by decide) ?_
  refine mw_put dX1_choose_20 fk_X1_39 h_this (Nat.le_of_ble_eq_true rfl) (fun _ => ⟨rfl, rfl⟩) ?_
  refine mw_iconst (v := 0) dX1_choose_23 (by decide) ?_
  refine mw_istore_3 dX1_choose_24 (by decide) ?_
  refine mw_heap (fun H' => mw_g H' q = some (cV q 0) ∧ yF [q] h9 H') ⟨mw_gs, yF.rf.s (by simp)⟩ (fun H3 z3 => ?_)
  obtain ⟨z1, z2⟩ := z3
  have hc0 : cnR K s L 0 = [] := by
    have : ∀ x, x ∉ cnR K s L 0 := fun x hx => absurd (rkF_mem hx).1 (Nat.not_lt_zero _)
    exact List.eq_nil_iff_forall_not_mem.mpr this
  refine mw_post (fun v h' z => ?_) (lp_ch (q := q) hK hs (isS_F hS2 z2 (S5_1 (by omega)) (S5_1 (by omega)) (S5_1 (by omega)) (S5_1 (by omega)) (S5_1 (by omega))) (isF_FS q3 z2 (by simp <;> omega) (by simp <;> omega) (by simp <;> omega) (by simp <;> omega) (by simp <;> omega)) (z2.g (S5_1 (by omega)) u2) u3 ⟨n1, n2, n5, n3, n4⟩ _ L.length 0 fo H3 (Nat.zero_add _) (by rw [hc0]; exact Nat.le_refl _) yF.rf (by rw [hc0]; exact z1) (z2.g (S5_1 (by omega)) o2) (by rw [hc0]; exact fun j hj => absurd hj (Nat.not_lt_zero _)))
  refine ⟨z.1, ?_, z.2.2⟩
  exact (q1.mo (fun b hb => by unfold S5 at hb; unfold SK; simp only [List.mem_cons, List.not_mem_nil, or_false] at hb ⊢; omega)).tr ((u1.mo (fun b hb => by rw [List.mem_singleton] at hb; rw [hb]; unfold SK; simp)).tr ((z2.mo (fun b hb => by rw [List.mem_singleton] at hb; rw [hb]; unfold SK; simp)).tr (z.2.1.mo (fun b hb => by unfold SK; simp only [List.mem_cons, List.not_mem_nil, or_false] at hb ⊢; omega))))
theorem y_placeAt {f : Nat → Int32} {r : Nat} (h_this : mw_g H q = some (cV q R.length)) (h_this_order : mw_g H (q + 8) = some (.inl (0, (60, .inl f)))) (hh : holds f R) (h60 : R.length ≤ 60) (hr : r < R.length) : mw_Con mm_X1_placeAt 0 0 0 [.ref q, .int (nI r)] H (mw_ret (.int (nI (R.getD r 0))) H) := by
  refine gm_con pl_X1 rfl rfl (Nat.le_of_ble_eq_true rfl) rfl ?_
  refine mw_iload_n (i := 1) dX1_placeAt_0 rfl rfl ?_
  refine mw_if_lt (tgt := 27) dX1_placeAt_1 (by decide) (fun c9 => absurd c9 (nI_pos (by omega))) (fun _ => ?_)
  refine mw_iload_n (i := 1) dX1_placeAt_4 rfl rfl ?_
  refine mw_aload_n (i := 0) dX1_placeAt_5 rfl rfl ?_
  refine mw_get dX1_placeAt_6 fk_X1_39 h_this rfl ?_
  refine mw_icmp_ge (tgt := 27) dX1_placeAt_9 (by decide) (fun c9 => absurd c9 (nI_ge hr (by omega))) (fun _ => ?_)
  refine mw_iload_n (i := 1) dX1_placeAt_12 rfl rfl ?_
  refine mw_bipush (v := 60) dX1_placeAt_13 (by decide) ?_
  refine mw_icmp_ge (tgt := 27) dX1_placeAt_15 (by decide) (fun c9 => absurd c9 (show ¬ nI 60 ≤ nI r from nI_ge (by omega) (by decide))) (fun _ => ?_)
  refine mw_aload_n (i := 0) dX1_placeAt_18 rfl rfl ?_
  refine mw_get dX1_placeAt_19 fk_X1_18 h_this rfl ?_
  refine mw_iload_n (i := 1) dX1_placeAt_22 rfl rfl ?_
  refine mw_iald dX1_placeAt_23 h_this_order (mw_ix rfl (show r < 60 by omega) (by decide)) ?_
  refine mw_goto (tgt := 28) dX1_placeAt_24 (by decide) ?_
  exact mw_ireturn dX1_placeAt_28 ⟨_, rfl, rfl⟩ ⟨by rw [hh r hr], rfl⟩
theorem eL_take (M : List af) (k : Nat) : (eL (M.take k)).length ≤ (eL M).length := by
  have h := congrArg eL (List.take_append_drop k M)
  rw [eL_app] at h
  rw [← h, List.length_append]
  omega
theorem lp_kw (hk : isK H q src X L R) (hB : isB H src cs X) (hT0 : isB H tg ct Y) (n1 : src ≠ tg) (n2 : cs ≠ ct) (ht : (tg < q ∨ q + 9 < tg) ∧ (ct < q ∨ q + 9 < ct)) (hl : (eL (R.map (ga L))).length ≤ 256) : ∀ (n k : Nat) (H' : mw_H), k + n = R.length → yF [tg, ct] H H' → isB H' tg ct (eL ((R.take k).map (ga L))) →
    mw_W mm_X1_writeTo 5 0 0 7 [some (.ref q), some (.ref tg), some (.int (nI k))] [] H' (fun v H' => v = .inl none ∧ yF [tg, ct] H H' ∧ isB H' tg ct (eL (R.map (ga L)))) := by
  intro n
  induction n with
  | zero =>
    intro k H' hn hF hT
    have hn : k = R.length := hn
    obtain ⟨E, pb, pa, f, g, h_this, hI, ho, hh, hg, h60, hm⟩ := isK_F hk hF (by simp; omega)
    have hI0 := hI
    obtain ⟨-, nx, lm, f1, f2, f3, f4, h_this_fields, -, -⟩ := hI
    refine mw_iload_n (i := 2) dX1_writeTo_7 rfl rfl ?_
    refine mw_aload_n (i := 0) dX1_writeTo_8 rfl rfl ?_
    refine mw_get dX1_writeTo_9 fk_X1_39 h_this rfl ?_
    refine mw_icmp_ge (tgt := 34) dX1_writeTo_12 (by decide) (fun _ => ?_) (fun c9 => absurd c9 (fun z => z (nI_le (by omega) (by omega))))
    refine mw_return dX1_writeTo_34 rfl ⟨rfl, hF, ?_⟩
    rw [hn, List.take_length] at hT
    exact hT
  | succ n ih =>
    intro k H' hn hF hT
    have hkl : k < R.length := by omega
    have hB' := isB_T hB hT0 n1 n2 hF
    obtain ⟨E, pb, pa, f, g, h_this, hI, ho, hh, hg, h60, hm⟩ := isK_F hk hF (by simp; omega)
    have hI0 := hI
    obtain ⟨-, nx, lm, f1, f2, f3, f4, h_this_fields, -, -⟩ := hI
    have hj := hm _ (getD_mem hkl)
    have e1 : (R.take (k + 1)).map (ga L) = (R.take k).map (ga L) ++ [ga L (R.getD k 0)] := by rw [← take_one hkl, List.map_append]; rfl
    have e2 : eL ((R.take (k + 1)).map (ga L)) = eL ((R.take k).map (ga L)) ++ ef (ga L (R.getD k 0)) := by
      rw [e1, eL_app, eL_cons]
      show _ ++ (_ ++ []) = _
      rw [List.append_nil]
    have e3 : (eL ((R.take (k + 1)).map (ga L))).length ≤ (eL (R.map (ga L))).length := by rw [List.map_take]; exact eL_take _ _
    refine mw_iload_n (i := 2) dX1_writeTo_7 rfl rfl ?_
    refine mw_aload_n (i := 0) dX1_writeTo_8 rfl rfl ?_
    refine mw_get dX1_writeTo_9 fk_X1_39 h_this rfl ?_
    refine mw_icmp_ge (tgt := 34) dX1_writeTo_12 (by decide) (fun c9 => absurd c9 (nI_ge hkl (by omega))) (fun _ => ?_)
    refine mw_aload_n (i := 0) dX1_writeTo_15 rfl rfl ?_
    refine mw_get dX1_writeTo_16 fk_X1_12 h_this rfl ?_
    refine mw_aload_n (i := 1) dX1_writeTo_19 rfl rfl ?_
    refine mw_aload_n (i := 0) dX1_writeTo_20 rfl rfl ?_
    refine mw_iload_n (i := 2) dX1_writeTo_21 rfl rfl ?_
    refine mw_callVr dX1_writeTo_22 mk_X1_57 h_this rfl (y_placeAt h_this ho hh h60 hkl) (by decide) (Nat.le_refl _) (Nat.le_refl _) rfl rfl (Nat.le_of_ble_eq_true rfl) ?_
    refine mw_callV dX1_writeTo_25 mk_X1_61 h_this_fields rfl (y_fwriteTo hI0 hB' hT n1 n2 hj (by rw [e2, List.length_append] at e3; omega)) (by decide) (Nat.le_refl _) (Nat.le_refl _) rfl rfl (Nat.le_of_ble_eq_true rfl) (fun E9 h9 q9 => ?_) (fun v9 h9 q9 => ?_)
    · cases q9.1
    obtain ⟨e9, u1, u2⟩ := q9
    cases e9
    refine mw_iinc_2 dX1_writeTo_28 (by decide) rfl ?_
    refine mw_goto (tgt := 7) dX1_writeTo_31 (by decide) ?_
    rw [show nI k + Int32.ofInt 1 = nI (k + 1) from nI_1 k]
    rw [← e2] at u1
    exact ih (k + 1) h9 (by omega) (hF.tr u2) u1
theorem y_kwriteTo (hk : isK H q src X L R) (hB : isB H src cs X) (hT : isB H tg ct Y) (n1 : src ≠ tg) (n2 : cs ≠ ct) (ht : (tg < q ∨ q + 9 < tg) ∧ (ct < q ∨ q + 9 < ct)) (hl : (eL (R.map (ga L))).length ≤ 256) : mw_Con mm_X1_writeTo 5 0 0 [.ref q, .ref tg] H (fun v H' => v = .inl none ∧ yF [tg, ct] H H' ∧ isB H' tg ct (eL (R.map (ga L)))) := by
  have h_p1 := hT.1
  refine gm_con pl_X1 rfl rfl (Nat.le_of_ble_eq_true rfl) rfl ?_
  refine mw_aload_n (i := 1) dX1_writeTo_0 rfl rfl ?_
  refine mw_iconst (v := 0) dX1_writeTo_1 (by decide) ?_
  refine mw_callV dX1_writeTo_2 mk_X1_54 h_p1 rfl (y_keep hT (k := 0) (Nat.zero_le _)) (by decide) (Nat.le_refl _) (Nat.le_refl _) rfl rfl (Nat.le_of_ble_eq_true rfl) (fun E9 h9 q9 => ?_) (fun v9 h9 q9 => ?_)
  · cases q9.1
  obtain ⟨e9, u1, u2⟩ := q9
  cases e9
  refine mw_iconst (v := 0) dX1_writeTo_5 (by decide) ?_
  refine mw_istore_2 dX1_writeTo_6 (by decide) ?_
  exact lp_kw hk hB hT n1 n2 ht hl R.length 0 h9 (Nat.zero_add _) u2 u1
theorem lp_hf {q2 src2 cs2 : Nat} {X2 : List Nat} {L2 : List af} {R2 : List Nat} (hk : isK H q src X L R) (hB : isB H src cs X) (hk2 : isK H q2 src2 X2 L2 R2) (hB2 : isB H src2 cs2 X2) (hl : R.length = R2.length) : ∀ (n k : Nat), k + n = R.length → (∀ i, i < k → ga L (R.getD i 0) = ga L2 (R2.getD i 0)) →
    mw_W mm_X1_hasSameFields 5 0 0 15 [some (.ref q), some (.ref q2), some (.int (nI k))] [] H (zB H (R.map (ga L) = R2.map (ga L2))) := by
  obtain ⟨E, pb, pa, f, g, h_this, hI, ho, hh, hg, h60, hm⟩ := hk
  obtain ⟨E2, pb2, pa2, f2, g2, h_p1, hI2, ho2, hh2, hg2, h602, hm2⟩ := hk2
  have hI0 := hI
  have hI20 := hI2
  obtain ⟨-, nx, lm, v1, v2, v3, v4, h_this_fields, -, -⟩ := hI
  obtain ⟨-, nx2, lm2, w1, w2, w3, w4, h_p1_fields, -, -⟩ := hI2
  have hga : ∀ (A : List Nat) (M : List af) (i : Nat), i < A.length → (A.map (ga M))[i]? = some (ga M (A.getD i 0)) := fun A M i hi => by
    rw [List.getElem?_map, List.getD_eq_getElem?_getD, List.getElem?_eq_getElem hi]
    rfl
  intro n
  induction n with
  | zero =>
    intro k hn hs
    have hn : k = R.length := hn
    refine mw_iload_n (i := 2) dX1_hasSameFields_15 rfl rfl ?_
    refine mw_aload_n (i := 0) dX1_hasSameFields_16 rfl rfl ?_
    refine mw_get dX1_hasSameFields_17 fk_X1_39 h_this rfl ?_
    refine mw_icmp_ge (tgt := 55) dX1_hasSameFields_20 (by decide) (fun _ => ?_) (fun c9 => absurd c9 (fun z => z (nI_le (by omega) (by omega))))
    refine mw_iconst (v := 1) dX1_hasSameFields_55 (by decide) ?_
    refine mw_ireturn dX1_hasSameFields_56 ⟨_, rfl, rfl⟩ ⟨rfl, 1, rfl, fun _ => rfl, fun z => absurd ?_ z⟩
    apply List.ext_getElem?
    intro i
    by_cases hi : i < R.length
    · rw [hga R L i hi, hga R2 L2 i (by omega), hs i (by omega)]
    · rw [List.getElem?_eq_none (by rw [List.length_map]; omega), List.getElem?_eq_none (by rw [List.length_map]; omega)]
  | succ n ih =>
    intro k hn hs
    have hkl : k < R.length := by omega
    refine mw_iload_n (i := 2) dX1_hasSameFields_15 rfl rfl ?_
    refine mw_aload_n (i := 0) dX1_hasSameFields_16 rfl rfl ?_
    refine mw_get dX1_hasSameFields_17 fk_X1_39 h_this rfl ?_
    refine mw_icmp_ge (tgt := 55) dX1_hasSameFields_20 (by decide) (fun c9 => absurd c9 (nI_ge hkl (by omega))) (fun _ => ?_)
    refine mw_aload_n (i := 0) dX1_hasSameFields_23 rfl rfl ?_
    refine mw_get dX1_hasSameFields_24 fk_X1_12 h_this rfl ?_
    refine mw_aload_n (i := 0) dX1_hasSameFields_27 rfl rfl ?_
    refine mw_iload_n (i := 2) dX1_hasSameFields_28 rfl rfl ?_
    refine mw_callVr dX1_hasSameFields_29 mk_X1_57 h_this rfl (y_placeAt h_this ho hh h60 hkl) (by decide) (Nat.le_refl _) (Nat.le_refl _) rfl rfl (Nat.le_of_ble_eq_true rfl) ?_
    refine mw_aload_n (i := 1) dX1_hasSameFields_32 rfl rfl ?_
    refine mw_get dX1_hasSameFields_33 fk_X1_12 h_p1 rfl ?_
    refine mw_aload_n (i := 1) dX1_hasSameFields_36 rfl rfl ?_
    refine mw_iload_n (i := 2) dX1_hasSameFields_37 rfl rfl ?_
    refine mw_callVr dX1_hasSameFields_38 mk_X1_57 h_p1 rfl (y_placeAt h_p1 ho2 hh2 h602 (show k < R2.length by omega)) (by decide) (Nat.le_refl _) (Nat.le_refl _) rfl rfl (Nat.le_of_ble_eq_true rfl) ?_
    refine mw_callV dX1_hasSameFields_41 mk_X1_65 h_this_fields rfl (y_isSameAt hI0 hB hI20 hB2 (hm _ (getD_mem hkl)) (hm2 _ (getD_mem (show k < R2.length by omega)))) (by decide) (Nat.le_refl _) (Nat.le_refl _) rfl rfl (Nat.le_of_ble_eq_true rfl) (fun E9 h9 q9 => ?_) (fun v9 h9 q9 => ?_)
    · obtain ⟨-, r, q1, -⟩ := q9
      cases q1
    obtain ⟨rfl, r, q1, q2, q3⟩ := q9
    cases q1
    by_cases e : ga L (R.getD k 0) = ga L2 (R2.getD k 0)
    · rw [q2 e]
      refine mw_if_ne (tgt := 49) dX1_hasSameFields_44 (by decide) (fun _ => ?_) (fun c9 => absurd c9 (by first | decide | (rw [pk_us]; decide)))
      refine mw_iinc_2 dX1_hasSameFields_49 (by decide) rfl ?_
      refine mw_goto (tgt := 15) dX1_hasSameFields_52 (by decide) ?_
      rw [show nI k + Int32.ofInt 1 = nI (k + 1) from nI_1 k]
      refine ih (k + 1) (by omega) (fun i hi => ?_)
      by_cases ei : i = k
      · rw [ei]; exact e
      · exact hs i (by omega)
    · rw [q3 e]
      refine mw_if_ne (tgt := 49) dX1_hasSameFields_44 (by decide) (fun c9 => absurd c9 (by first | decide | (rw [pk_us]; decide))) (fun _ => ?_)
      refine mw_iconst (v := 0) dX1_hasSameFields_47 (by decide) ?_
      refine mw_ireturn dX1_hasSameFields_48 ⟨_, rfl, rfl⟩ ⟨rfl, 0, rfl, fun z => absurd ?_ e, fun _ => rfl⟩
      have h1 := hga R L k hkl
      rw [z, hga R2 L2 k (by omega)] at h1
      exact (Option.some.inj h1).symm
theorem y_hasSameFields {q2 src2 cs2 : Nat} {X2 : List Nat} {L2 : List af} {R2 : List Nat} (hk : isK H q src X L R) (hB : isB H src cs X) (hk2 : isK H q2 src2 X2 L2 R2) (hB2 : isB H src2 cs2 X2) : mw_Con mm_X1_hasSameFields 5 0 0 [.ref q, .ref q2] H (zB H (R.map (ga L) = R2.map (ga L2))) := by
  have hk0 := hk
  have hk20 := hk2
  obtain ⟨E, pb, pa, f, g, h_this, hI, ho, hh, hg, h60, hm⟩ := hk
  obtain ⟨E2, pb2, pa2, f2, g2, h_p1, hI2, ho2, hh2, hg2, h602, hm2⟩ := hk2
  refine gm_con pl_X1 rfl rfl (Nat.le_of_ble_eq_true rfl) rfl ?_
  refine mw_aload_n (i := 0) dX1_hasSameFields_0 rfl rfl ?_
  refine mw_get dX1_hasSameFields_1 fk_X1_39 h_this rfl ?_
  refine mw_aload_n (i := 1) dX1_hasSameFields_4 rfl rfl ?_
  refine mw_get dX1_hasSameFields_5 fk_X1_39 h_p1 rfl ?_
  by_cases hl : R.length = R2.length
  · refine mw_icmp_eq (tgt := 13) dX1_hasSameFields_8 (by decide) (fun _ => ?_) (fun c9 => absurd c9 (fun z => z (by rw [hl])))
    refine mw_iconst (v := 0) dX1_hasSameFields_13 (by decide) ?_
    refine mw_istore_2 dX1_hasSameFields_14 (by decide) ?_
    exact lp_hf hk0 hB hk20 hB2 hl R.length 0 (Nat.zero_add _) (fun i hi => absurd hi (Nat.not_lt_zero _))
  · refine mw_icmp_eq (tgt := 13) dX1_hasSameFields_8 (by decide) (fun c9 => absurd c9 (fun z => hl (by rw [nI_eq (by omega) (by omega)] at z; exact z))) (fun _ => ?_)
    refine mw_iconst (v := 0) dX1_hasSameFields_11 (by decide) ?_
    exact mw_ireturn dX1_hasSameFields_12 ⟨_, rfl, rfl⟩ ⟨rfl, 0, rfl, fun z => absurd (by have := congrArg List.length z; rw [List.length_map, List.length_map] at this; exact this) hl, fun _ => rfl⟩
end C16
