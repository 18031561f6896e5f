/-! the class side: rows compared (class side) -/
def sameR (X : List Nat) (p : Nat) (Y : List Nat) (q n : Nat) : Prop := ∀ i, i < n → X.getD (p + i) 0 = Y.getD (q + i) 0
/-- an answer that tells whether P -/
def zB (H : mw_H) (P : Prop) : mw_P := fun v h' => h' = H ∧ ∃ r : Int32, v = .inl (some (.int r)) ∧ (P → r = 1) ∧ (¬ P → r = 0)
section C2
variable {H : mw_H} {a c : Nat} {X : List Nat}
theorem lp_hs {a2 c2 : Nat} {Y : List Nat} (hB : isB H a c X) (hB2 : isB H a2 c2 Y) {p q n : Nat} (hp : p + n ≤ X.length) (hq : q + n ≤ Y.length) : ∀ (k j : Nat), j + k = n → (∀ i, i < j → X.getD (p + i) 0 = Y.getD (q + i) 0) →
    mw_W mm_X0_hasSameRange 1 0 0 3 [some (.ref a), some (.int (nI p)), some (.ref a2), some (.int (nI q)), some (.int (nI n)), some (.int (nI j))] [] H (zB H (sameR X p Y q n)) := by
  have hl := hB.2.1
  have hl2 := hB2.2.1
  have h_this := hB.1
  have h_p2 := hB2.1
  intro k
  induction k with
  | zero =>
    intro j hj hs
    refine mw_iload (i := 5) dX0_hasSameRange_3 rfl ?_
    refine mw_iload (i := 4) dX0_hasSameRange_5 rfl ?_
    refine mw_icmp_ge (tgt := 37) dX0_hasSameRange_7 (by decide) (fun _ => ?_) (fun c9 => absurd c9 (fun z => z (nI_le (by omega) (by omega))))
    refine mw_iconst (v := 1) dX0_hasSameRange_37 (by decide) ?_
    exact mw_ireturn dX0_hasSameRange_38 ⟨_, rfl, rfl⟩ ⟨rfl, 1, rfl, fun _ => rfl, fun z => absurd (fun i hi => hs i (by omega)) z⟩
  | succ k ih =>
    intro j hj hs
    have hx := hB.2.2.1 _ (getD_mem (X := X) (k := p + j) (by omega))
    have hy := hB2.2.2.1 _ (getD_mem (X := Y) (k := q + j) (by omega))
    refine mw_iload (i := 5) dX0_hasSameRange_3 rfl ?_
    refine mw_iload (i := 4) dX0_hasSameRange_5 rfl ?_
    refine mw_icmp_ge (tgt := 37) dX0_hasSameRange_7 (by decide) (fun c9 => absurd c9 (nI_ge (by omega) (by omega))) (fun _ => ?_)
    refine mw_aload_n (i := 0) dX0_hasSameRange_10 rfl rfl ?_
    refine mw_iload_n (i := 1) dX0_hasSameRange_11 rfl rfl ?_
    refine mw_iload (i := 5) dX0_hasSameRange_12 rfl ?_
    refine mw_iadd dX0_hasSameRange_14 ?_
    rw [nI_add]
    refine mw_callVr dX0_hasSameRange_15 mk_X0_19 h_this rfl (y_at hB (show p + j < X.length by omega)) (by decide) (Nat.le_refl _) (Nat.le_refl _) rfl rfl (Nat.le_of_ble_eq_true rfl) ?_
    refine mw_aload_n (i := 2) dX0_hasSameRange_18 rfl rfl ?_
    refine mw_iload_n (i := 3) dX0_hasSameRange_19 rfl rfl ?_
    refine mw_iload (i := 5) dX0_hasSameRange_20 rfl ?_
    refine mw_iadd dX0_hasSameRange_22 ?_
    rw [nI_add]
    refine mw_callVr dX0_hasSameRange_23 mk_X0_19 h_p2 rfl (y_at hB2 (show q + j < Y.length by omega)) (by decide) (Nat.le_refl _) (Nat.le_refl _) rfl rfl (Nat.le_of_ble_eq_true rfl) ?_
    by_cases e : X.getD (p + j) 0 = Y.getD (q + j) 0
    · refine mw_icmp_eq (tgt := 31) dX0_hasSameRange_26 (by decide) (fun _ => ?_) (fun c9 => absurd c9 (fun z => z (by rw [e])))
      refine mw_iinc_5 dX0_hasSameRange_31 (by decide) rfl ?_
      refine mw_goto (tgt := 3) dX0_hasSameRange_34 (by decide) ?_
      rw [show nI j + Int32.ofInt 1 = nI (j + 1) from nI_1 j]
      refine ih (j + 1) (by omega) (fun i hi => ?_)
      by_cases z : i = j
      · rw [z]; exact e
      · exact hs i (by omega)
    · refine mw_icmp_eq (tgt := 31) dX0_hasSameRange_26 (by decide) (fun c9 => absurd c9 (fun z => e ((bV_eq hx hy).mp z))) (fun _ => ?_)
      refine mw_iconst (v := 0) dX0_hasSameRange_29 (by decide) ?_
      exact mw_ireturn dX0_hasSameRange_30 ⟨_, rfl, rfl⟩ ⟨rfl, 0, rfl, fun z => absurd (z j (by omega)) e, fun _ => rfl⟩
theorem y_hasSameRange {a2 c2 : Nat} {Y : List Nat} (hB : isB H a c X) (hB2 : isB H a2 c2 Y) {p q n : Nat} (hp : p + n ≤ X.length) (hq : q + n ≤ Y.length) :
    mw_Con mm_X0_hasSameRange 1 0 0 [.ref a, .int (nI p), .ref a2, .int (nI q), .int (nI n)] H (zB H (sameR X p Y q n)) := by
  refine gm_con pl_X0 rfl rfl (Nat.le_of_ble_eq_true rfl) rfl ?_
  refine mw_iconst (v := 0) dX0_hasSameRange_0 (by decide) ?_
  refine mw_istore_5 dX0_hasSameRange_1 (by decide) ?_
  exact lp_hs hB hB2 hp hq n 0 (by omega) (fun i hi => absurd hi (Nat.not_lt_zero _))
theorem y_isSameAs {a2 c2 : Nat} {Y : List Nat} (hB : isB H a c X) (hB2 : isB H a2 c2 Y) : mw_Con mm_X0_isSameAs 2 0 0 [.ref a, .ref a2] H (zB H (X = Y)) := by
  have hl := hB.2.1
  have hl2 := hB2.2.1
  have h_this := hB.1
  have h_p1 := hB2.1
  refine gm_con pl_X0 rfl rfl (Nat.le_of_ble_eq_true rfl) rfl ?_
  refine mw_aload_n (i := 0) dX0_isSameAs_0 rfl rfl ?_
  refine mw_get dX0_isSameAs_1 fk_X0_15 h_this rfl ?_
  refine mw_aload_n (i := 1) dX0_isSameAs_4 rfl rfl ?_
  refine mw_callVr dX0_isSameAs_5 mk_X0_31 h_p1 rfl (y_count hB2) (by decide) (Nat.le_refl _) (Nat.le_refl _) rfl rfl (Nat.le_of_ble_eq_true rfl) ?_
  by_cases e : X.length = Y.length
  · refine mw_icmp_ne (tgt := 29) dX0_isSameAs_8 (by decide) (fun c9 => absurd c9 (fun z => z (by rw [e]))) (fun _ => ?_)
    refine mw_aload_n (i := 0) dX0_isSameAs_11 rfl rfl ?_
    refine mw_iconst (v := 0) dX0_isSameAs_12 (by decide) ?_
    refine mw_aload_n (i := 1) dX0_isSameAs_13 rfl rfl ?_
    refine mw_iconst (v := 0) dX0_isSameAs_14 (by decide) ?_
    refine mw_aload_n (i := 0) dX0_isSameAs_15 rfl rfl ?_
    refine mw_get dX0_isSameAs_16 fk_X0_15 h_this rfl ?_
    refine mw_callV dX0_isSameAs_19 mk_X0_48 h_this rfl (y_hasSameRange hB hB2 (p := 0) (q := 0) (n := X.length) (by omega) (by omega)) (by decide) (Nat.le_refl _) (Nat.le_refl _) rfl rfl (Nat.le_of_ble_eq_true rfl) (fun E9 h9 q9 => ?_) (fun v9 h9 q9 => ?_)
    · obtain ⟨-, r, q1, -⟩ := q9
      cases q1
    · obtain ⟨rfl, r, q1, q2, q3⟩ := q9
      cases q1
      by_cases hs : sameR X 0 Y 0 X.length
      · have hXY : X = Y := eq_getD e (fun k hk => by have := hs k hk; rw [Nat.zero_add] at this; exact this)
        rw [q2 hs]
        refine mw_if_eq (tgt := 29) dX0_isSameAs_22 (by decide) (fun c9 => absurd c9 (by first | decide | (rw [pk_us]; decide))) (fun _ => ?_)
        refine mw_iconst (v := 1) dX0_isSameAs_25 (by decide) ?_
        refine mw_goto (tgt := 30) dX0_isSameAs_26 (by decide) ?_
        exact mw_ireturn dX0_isSameAs_30 ⟨_, rfl, rfl⟩ ⟨rfl, 1, rfl, fun _ => rfl, fun z => absurd hXY z⟩
      · rw [q3 hs]
        refine mw_if_eq (tgt := 29) dX0_isSameAs_22 (by decide) (fun _ => ?_) (fun c9 => absurd c9 (by first | decide | (rw [pk_us]; decide)))
        refine mw_iconst (v := 0) dX0_isSameAs_29 (by decide) ?_
        exact mw_ireturn dX0_isSameAs_30 ⟨_, rfl, rfl⟩ ⟨rfl, 0, rfl, fun z => absurd (by rw [z]; exact fun i _ => rfl) hs, fun _ => rfl⟩
  · refine mw_icmp_ne (tgt := 29) dX0_isSameAs_8 (by decide) (fun _ => ?_) (fun c9 => absurd c9 (fun z => e (by rw [nI_eq (by omega) (by omega)] at z; exact z)))
    refine mw_iconst (v := 0) dX0_isSameAs_29 (by decide) ?_
    exact mw_ireturn dX0_isSameAs_30 ⟨_, rfl, rfl⟩ ⟨rfl, 0, rfl, fun z => absurd (by rw [z]) e, fun _ => rfl⟩
end C2
