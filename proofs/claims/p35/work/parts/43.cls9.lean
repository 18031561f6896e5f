/-! the class side: a field, scanned and kept (class side) -/
section C8
variable {H : mw_H} {a k src cs e : Nat} {X : List Nat} {pb pa : Int32}
/-- what scanning a field leaves -/
def zS (H : mw_H) (a k src e : Nat) (pa : Int32) (f1 f2 f3 f4 : Nat → Int32) (r : Nat × Nat × Nat × Nat × Nat) : mw_P := fun v H' => v = .inl none ∧ yF (S5 a) H H' ∧ ((r.1 = 0 ∧ mw_g H' a = some (fV a (k + 1) src (nI r.2.1) (nI e) 0 pa) ∧ aF H' a (upd f1 k (nI r.2.2.1)) (upd f2 k (nI r.2.2.2.1)) (upd f3 k (nI r.2.2.2.2)) (upd f4 k (nI r.2.1))) ∨ (r.1 ≠ 0 ∧ (∃ nx, mw_g H' a = some (fV a k src nx (nI e) (nI r.1) pa)) ∧ aF H' a f1 f2 f3 f4))
theorem S5_1 {a b : Nat} (h : b ≠ a) : b ∉ [a] := by simpa using h
theorem yF.S5 {H H' : mw_H} {a : Nat} (h : yF [a] H H') : yF (S5 a) H H' := h.mo (fun b hb => by rw [List.mem_singleton] at hb; rw [hb]; exact List.mem_cons_self)
theorem nb_1 {f : Nat} (h : f ≠ 0) (h4 : f ≤ 4) : ¬ nI f = 0 := fun z => h (nI_ne0' (by omega) z)
theorem y_scanField {f1 f2 f3 f4 : Nat → Int32} (hX : X.length ≤ 256) (he : e ≤ X.length) {p : Nat} (hp : p ≤ e) (hk : k < 60) (h_this : mw_g H a = some (fV a k src (nI p) (nI e) 0 pa)) (hA : aF H a f1 f2 f3 f4) (hB : isB H src cs X) : mw_Con mm_X2_scanField 2 0 0 [.ref a] H (zS H a k src e pa f1 f2 f3 f4 (pf (bX X) e p)) := by
  have n1 : src ≠ a := g_ne hB.1 h_this (fun z => by cases z)
  obtain ⟨f0, hf0, -⟩ := hB.2.2.2
  have n2 : cs ≠ a := g_ne hf0 h_this (fun z => by cases z)
  have hbX : ∀ i, bX X i < 256 := getD_lt hB.2.2.1
  refine gm_con pl_X2 rfl rfl (Nat.le_of_ble_eq_true rfl) rfl ?_
  refine mw_aload_n (i := 0) dX2_scanField_0 rfl rfl ?_
  refine mw_callV dX2_scanField_1 mk_X2_96 h_this rfl (y_scanGroups hX he hp h_this hB) (by decide) (Nat.le_refl _) (Nat.le_refl _) rfl rfl (Nat.le_of_ble_eq_true rfl) (fun E9 h9 q9 => ?_) (fun v9 h9 q9 => ?_)
  · cases q9.1
  obtain ⟨e9, q1, q2⟩ := q9
  cases e9
  have hq1 := pg_le (bX X) e 5 p 0 hp
  have hK := pg_lt (bX X) e hbX 5 p 0 (by omega) (by decide) (fun _ => by decide)
  have hf := pg_f (bX X) e 5 p 0
  unfold pf
  generalize hg : pg (bX X) e 5 p 0 = g at *
  obtain ⟨F, q, K⟩ := g
  dsimp only at hq1 hK hf q1 ⊢
  have h_this := q1
  have hA1 : aF h9 a f1 f2 f3 f4 := aF_F hA q2 (S5_1 (by omega)) (S5_1 (by omega)) (S5_1 (by omega)) (S5_1 (by omega))
  have hB1 := isB_F hB q2 (S5_1 n1) (S5_1 n2)
  by_cases hF : F = 0
  · subst hF
    rw [if_neg (by decide)]
    refine mw_istore_1 dX2_scanField_4 (by decide) ?_
    refine mw_iload_n (i := 1) dX2_scanField_5 rfl rfl ?_
    refine mw_iconst (v := 3) dX2_scanField_6 (by decide) ?_
    refine mw_iushr dX2_scanField_7 rfl ?_
    refine mw_istore_2 dX2_scanField_8 (by decide) ?_
    refine mw_iload_n (i := 1) dX2_scanField_9 rfl rfl ?_
    refine mw_bipush (v := 7) dX2_scanField_10 (by decide) ?_
    refine mw_iand dX2_scanField_12 ?_
    refine mw_istore_3 dX2_scanField_13 (by decide) ?_
    rw [show ((nI K).toUInt32 >>> ((3 : Int32).toUInt32 &&& Int32.toUInt32 31)).toInt32 = nI (K / 8) from pk_ushrN hK 3 3 (by decide), show nI K &&& 7 = nI (K % 8) from pk_andN hK 3 (by decide)]
    refine mw_aload_n (i := 0) dX2_scanField_14 rfl rfl ?_
    refine mw_get dX2_scanField_15 fk_X2_44 h_this rfl ?_
    refine mw_if_ne (tgt := 30) dX2_scanField_18 (by decide) (fun c9 => absurd c9 (fun z => z rfl)) (fun _ => ?_)
    refine mw_aload_n (i := 0) dX2_scanField_21 rfl rfl ?_
    refine mw_iload_n (i := 2) dX2_scanField_22 rfl rfl ?_
    refine mw_iload_n (i := 3) dX2_scanField_23 rfl rfl ?_
    refine mw_callSr dX2_scanField_24 mk_X2_100 (y_keyProblem (t := K / 8) (y := K % 8) (by omega) (by omega)) (by decide) (Nat.le_refl _) (Nat.le_refl _) rfl rfl (Nat.le_of_ble_eq_true rfl) ?_
    by_cases htg : ¬ (1 ≤ K / 8 ∧ K / 8 ≤ 31)
    · rw [if_pos htg, if_pos htg]
      refine mw_put dX2_scanField_27 fk_X2_44 h_this (Nat.le_of_ble_eq_true rfl) (fun _ => ⟨rfl, rfl⟩) ?_
      refine mw_aload_n (i := 0) dX2_scanField_30 rfl rfl ?_
      refine mw_get dX2_scanField_31 fk_X2_44 mw_gs rfl ?_
      refine mw_if_eq (tgt := 38) dX2_scanField_34 (by decide) (fun c9 => absurd c9 (by first | decide | (rw [pk_us]; decide))) (fun _ => ?_)
      exact mw_return dX2_scanField_37 rfl ⟨rfl, (q2.s (by simp)).S5, Or.inr ⟨by show (3 : Nat) ≠ 0; decide, ⟨_, mw_gs⟩, aF_F hA1 (yF.rf.s (S := [a]) (by simp)) (S5_1 (by omega)) (S5_1 (by omega)) (S5_1 (by omega)) (S5_1 (by omega))⟩⟩
    · rw [if_neg htg, if_neg htg]
      by_cases hty : ¬ (K % 8 = 0 ∨ K % 8 = 2 ∨ K % 8 = 5)
      · rw [if_pos hty, if_pos hty]
        refine mw_put dX2_scanField_27 fk_X2_44 h_this (Nat.le_of_ble_eq_true rfl) (fun _ => ⟨rfl, rfl⟩) ?_
        refine mw_aload_n (i := 0) dX2_scanField_30 rfl rfl ?_
        refine mw_get dX2_scanField_31 fk_X2_44 mw_gs rfl ?_
        refine mw_if_eq (tgt := 38) dX2_scanField_34 (by decide) (fun c9 => absurd c9 (by first | decide | (rw [pk_us]; decide))) (fun _ => ?_)
        exact mw_return dX2_scanField_37 rfl ⟨rfl, (q2.s (by simp)).S5, Or.inr ⟨by show (4 : Nat) ≠ 0; decide, ⟨_, mw_gs⟩, aF_F hA1 (yF.rf.s (S := [a]) (by simp)) (S5_1 (by omega)) (S5_1 (by omega)) (S5_1 (by omega)) (S5_1 (by omega))⟩⟩
      · rw [if_neg hty, if_neg hty]
        refine mw_put dX2_scanField_27 fk_X2_44 h_this (Nat.le_of_ble_eq_true rfl) (fun _ => ⟨rfl, rfl⟩) ?_
        refine mw_heap (fun H' => mw_g H' a = some (fV a k src (nI q) (nI e) 0 pa) ∧ yF [a] H H') ⟨mw_gs, q2.s (by simp)⟩ (fun H2 z2 => ?_)
        clear h_this hA1 hB1
        obtain ⟨h_this, z2⟩ := z2
        have hA2 : aF H2 a f1 f2 f3 f4 := aF_F hA z2 (S5_1 (by omega)) (S5_1 (by omega)) (S5_1 (by omega)) (S5_1 (by omega))
        have hB2 := isB_F hB z2 (S5_1 n1) (S5_1 n2)
        have J : ∀ (H3 : mw_H) (F q v : Nat) (x4 : Option Value), F ≤ 4 → q ≤ e → v < 2 ^ 32 → yF [a] H H3 → mw_g H3 a = some (fV a k src (nI q) (nI e) (pbI F 0) pa) → mw_W mm_X2_scanField 2 0 0 54 [some (.ref a), some (.int (nI K)), some (.int (nI (K / 8))), some (.int (nI (K % 8))), x4] [.int (nI v)] H3 (zS H a k src e pa f1 f2 f3 f4 (if F ≠ 0 then (F, 0, 0, 0, 0) else if K % 8 = 2 then if e < q + v then (1, 0, 0, 0, 0) else (0, q + v, K / 8, 2, v) else (0, q, K / 8, K % 8, v))) := by
          intro H3 F q v x4 hF4 hqe hv hF3 h_this
          have hA3 : aF H3 a f1 f2 f3 f4 := aF_F hA hF3 (S5_1 (by omega)) (S5_1 (by omega)) (S5_1 (by omega)) (S5_1 (by omega))
          by_cases hF : F = 0
          · subst hF
            rw [if_neg (by decide)]
            refine mw_istore_4 dX2_scanField_54 (by decide) ?_
            refine mw_aload_n (i := 0) dX2_scanField_56 rfl rfl ?_
            refine mw_get dX2_scanField_57 fk_X2_44 h_this rfl ?_
            refine mw_if_ne (tgt := 74) dX2_scanField_60 (by decide) (fun c9 => absurd c9 (fun z => z rfl)) (fun _ => ?_)
            by_cases h2 : K % 8 = 2
            · rw [if_pos h2]
              refine mw_iload_n (i := 3) dX2_scanField_63 rfl rfl ?_
              refine mw_iconst (v := 2) dX2_scanField_64 (by decide) ?_
              refine mw_icmp_ne (tgt := 74) dX2_scanField_65 (by decide) (fun c9 => absurd c9 (fun z => z (by rw [h2]; rfl))) (fun _ => ?_)
              refine mw_aload_n (i := 0) dX2_scanField_68 rfl rfl ?_
              refine mw_iload (i := 4) dX2_scanField_69 rfl ?_
              refine mw_callV dX2_scanField_71 mk_X2_107 h_this rfl (y_skipBytes hv (by omega) hqe h_this) (by decide) (Nat.le_refl _) (Nat.le_refl _) rfl rfl (Nat.le_of_ble_eq_true rfl) (fun E9 h9 q9 => ?_) (fun v9 h9 q9 => ?_)
              · cases q9.1
              obtain ⟨e9, w1, w2⟩ := q9
              cases e9
              by_cases hlt : e < q + v
              · rw [if_pos hlt] at w2 ⊢
                have h_this := w2
                refine mw_aload_n (i := 0) dX2_scanField_74 rfl rfl ?_
                refine mw_get dX2_scanField_75 fk_X2_44 h_this rfl ?_
                refine mw_if_ne (tgt := 89) dX2_scanField_78 (by decide) (fun _ => ?_) (fun c9 => absurd c9 (by first | decide | (rw [pk_us]; decide)))
                exact mw_return dX2_scanField_89 rfl ⟨rfl, (hF3.tr w1).S5, Or.inr ⟨by show (1 : Nat) ≠ 0; decide, ⟨_, w2⟩, aF_F hA3 w1 (S5_1 (by omega)) (S5_1 (by omega)) (S5_1 (by omega)) (S5_1 (by omega))⟩⟩
              · rw [if_neg hlt] at w2 ⊢
                have h_this := w2
                have hA4 := aF_F hA3 w1 (S5_1 (by omega)) (S5_1 (by omega)) (S5_1 (by omega)) (S5_1 (by omega))
                refine mw_aload_n (i := 0) dX2_scanField_74 rfl rfl ?_
                refine mw_get dX2_scanField_75 fk_X2_44 h_this rfl ?_
                refine mw_if_ne (tgt := 89) dX2_scanField_78 (by decide) (fun c9 => absurd c9 (fun z => z rfl)) (fun _ => ?_)
                refine mw_aload_n (i := 0) dX2_scanField_81 rfl rfl ?_
                refine mw_iload_n (i := 2) dX2_scanField_82 rfl rfl ?_
                refine mw_iload_n (i := 3) dX2_scanField_83 rfl rfl ?_
                refine mw_iload (i := 4) dX2_scanField_84 rfl ?_
                rw [h2]
                refine mw_callV dX2_scanField_86 mk_X2_111 h_this rfl (y_keepField hk h_this hA4) (by decide) (Nat.le_refl _) (Nat.le_refl _) rfl rfl (Nat.le_of_ble_eq_true rfl) (fun E9 h9 q9 => ?_) (fun v9 h9 q9 => ?_)
                · cases q9.1
                obtain ⟨e9, u1, u2, u3⟩ := q9
                cases e9
                exact mw_return dX2_scanField_89 rfl ⟨rfl, (hF3.tr w1).S5.tr u1, Or.inl ⟨rfl, u2, u3⟩⟩
            · rw [if_neg h2]
              refine mw_iload_n (i := 3) dX2_scanField_63 rfl rfl ?_
              refine mw_iconst (v := 2) dX2_scanField_64 (by decide) ?_
              refine mw_icmp_ne (tgt := 74) dX2_scanField_65 (by decide) (fun _ => ?_) (fun c9 => absurd c9 (fun y => by rw [show (2 : Int32) = nI 2 from rfl, nI_eq (by omega) (by decide)] at y; exact h2 y))
              refine mw_aload_n (i := 0) dX2_scanField_74 rfl rfl ?_
              refine mw_get dX2_scanField_75 fk_X2_44 h_this rfl ?_
              refine mw_if_ne (tgt := 89) dX2_scanField_78 (by decide) (fun c9 => absurd c9 (fun z => z rfl)) (fun _ => ?_)
              refine mw_aload_n (i := 0) dX2_scanField_81 rfl rfl ?_
              refine mw_iload_n (i := 2) dX2_scanField_82 rfl rfl ?_
              refine mw_iload_n (i := 3) dX2_scanField_83 rfl rfl ?_
              refine mw_iload (i := 4) dX2_scanField_84 rfl ?_
              refine mw_callV dX2_scanField_86 mk_X2_111 h_this rfl (y_keepField hk h_this hA3) (by decide) (Nat.le_refl _) (Nat.le_refl _) rfl rfl (Nat.le_of_ble_eq_true rfl) (fun E9 h9 q9 => ?_) (fun v9 h9 q9 => ?_)
              · cases q9.1
              obtain ⟨e9, u1, u2, u3⟩ := q9
              cases e9
              exact mw_return dX2_scanField_89 rfl ⟨rfl, hF3.S5.tr u1, Or.inl ⟨rfl, u2, u3⟩⟩
          · rw [if_pos hF]
            have hpI : pbI F 0 = nI F := if_neg hF
            rw [hpI] at h_this
            have hnz := nb_1 hF hF4
            refine mw_istore_4 dX2_scanField_54 (by decide) ?_
            refine mw_aload_n (i := 0) dX2_scanField_56 rfl rfl ?_
            refine mw_get dX2_scanField_57 fk_X2_44 h_this rfl ?_
            refine mw_if_ne (tgt := 74) dX2_scanField_60 (by decide) (fun _ => ?_) (fun c9 => absurd c9 hnz)
            refine mw_aload_n (i := 0) dX2_scanField_74 rfl rfl ?_
            refine mw_get dX2_scanField_75 fk_X2_44 h_this rfl ?_
            refine mw_if_ne (tgt := 89) dX2_scanField_78 (by decide) (fun _ => ?_) (fun c9 => absurd c9 hnz)
            exact mw_return dX2_scanField_89 rfl ⟨rfl, hF3.S5, Or.inr ⟨hF, ⟨_, h_this⟩, hA3⟩⟩
        refine mw_aload_n (i := 0) dX2_scanField_30 rfl rfl ?_
        refine mw_get dX2_scanField_31 fk_X2_44 h_this rfl ?_
        refine mw_if_eq (tgt := 38) dX2_scanField_34 (by decide) (fun _ => ?_) (fun c9 => absurd c9 (fun z => z rfl))
        by_cases h5 : K % 8 = 5
        · rw [if_pos h5]
          refine mw_iload_n (i := 3) dX2_scanField_38 rfl rfl ?_
          refine mw_iconst (v := 5) dX2_scanField_39 (by decide) ?_
          refine mw_icmp_ne (tgt := 50) dX2_scanField_40 (by decide) (fun c9 => absurd c9 (fun z => z (by rw [h5]; rfl))) (fun _ => ?_)
          refine mw_aload_n (i := 0) dX2_scanField_43 rfl rfl ?_
          refine mw_callV dX2_scanField_44 mk_X2_104 h_this rfl (y_scanFour hX he hq1.2 h_this hB2) (by decide) (Nat.le_refl _) (Nat.le_refl _) rfl rfl (Nat.le_of_ble_eq_true rfl) (fun E9 h9 q9 => ?_) (fun v9 h9 q9 => ?_)
          · cases q9.1
          obtain ⟨e9, w1, w2⟩ := q9
          cases e9
          refine mw_goto (tgt := 54) dX2_scanField_47 (by decide) ?_
          by_cases hlt : e < q + 4
          · rw [if_pos hlt] at w1 ⊢
            rw [if_pos hlt]
            exact J _ 1 q 0 _ (by decide) hq1.2 (by decide) (z2.tr w2) w1
          · rw [if_neg hlt] at w1 ⊢
            rw [if_neg hlt]
            have h7 := J _ 0 (q + 4) (v4 (bX X) q) (none) (by decide) (by omega) (v4_lt hbX q) (z2.tr w2) w1
            rw [if_neg (by decide), if_neg (by omega), h5] at h7
            rw [h5]
            exact h7
        · rw [if_neg h5]
          refine mw_iload_n (i := 3) dX2_scanField_38 rfl rfl ?_
          refine mw_iconst (v := 5) dX2_scanField_39 (by decide) ?_
          refine mw_icmp_ne (tgt := 50) dX2_scanField_40 (by decide) (fun _ => ?_) (fun c9 => absurd c9 (fun y => by rw [show (5 : Int32) = nI 5 from rfl, nI_eq (by omega) (by decide)] at y; exact h5 y))
          refine mw_aload_n (i := 0) dX2_scanField_50 rfl rfl ?_
          refine mw_callV dX2_scanField_51 mk_X2_96 h_this rfl (y_scanGroups hX he hq1.2 h_this hB2) (by decide) (Nat.le_refl _) (Nat.le_refl _) rfl rfl (Nat.le_of_ble_eq_true rfl) (fun E9 h9 q9 => ?_) (fun v9 h9 q9 => ?_)
          · cases q9.1
          obtain ⟨e9, w1, w2⟩ := q9
          cases e9
          have hq2 := pg_le (bX X) e 5 q 0 hq1.2
          have hV := pg_lt (bX X) e hbX 5 q 0 (by omega) (by decide) (fun _ => by decide)
          have hf2 := pg_f (bX X) e 5 q 0
          generalize pg (bX X) e 5 q 0 = g2 at *
          obtain ⟨F2, q2', v⟩ := g2
          dsimp only at hq2 hV hf2 w1 ⊢
          have h7 := J _ F2 q2' v none (by omega) hq2.2 hV (z2.tr w2) w1
          by_cases h2 : K % 8 = 2
          · rw [if_pos h2] at h7 ⊢
            exact h7
          · have h0 : K % 8 = 0 := by omega
            rw [if_neg h2] at h7 ⊢
            rw [h0] at h7 ⊢
            exact h7
  · rw [if_pos hF]
    have hpI : pbI F 0 = nI F := if_neg hF
    rw [hpI] at h_this
    have hnz := nb_1 hF (by omega)
    refine mw_istore_1 dX2_scanField_4 (by decide) ?_
    refine mw_iload_n (i := 1) dX2_scanField_5 rfl rfl ?_
    refine mw_iconst (v := 3) dX2_scanField_6 (by decide) ?_
    refine mw_iushr dX2_scanField_7 rfl ?_
    refine mw_istore_2 dX2_scanField_8 (by decide) ?_
    refine mw_iload_n (i := 1) dX2_scanField_9 rfl rfl ?_
    refine mw_bipush (v := 7) dX2_scanField_10 (by decide) ?_
    refine mw_iand dX2_scanField_12 ?_
    refine mw_istore_3 dX2_scanField_13 (by decide) ?_
    refine mw_aload_n (i := 0) dX2_scanField_14 rfl rfl ?_
    refine mw_get dX2_scanField_15 fk_X2_44 h_this rfl ?_
    refine mw_if_ne (tgt := 30) dX2_scanField_18 (by decide) (fun _ => ?_) (fun c9 => absurd c9 hnz)
    refine mw_aload_n (i := 0) dX2_scanField_30 rfl rfl ?_
    refine mw_get dX2_scanField_31 fk_X2_44 h_this rfl ?_
    refine mw_if_eq (tgt := 38) dX2_scanField_34 (by decide) (fun c9 => absurd c9 hnz) (fun _ => ?_)
    exact mw_return dX2_scanField_37 rfl ⟨rfl, q2.S5, Or.inr ⟨hF, ⟨_, h_this⟩, hA1⟩⟩
end C8
