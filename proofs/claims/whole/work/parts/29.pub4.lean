/-! the reference's calls: what a message has, and what changes it -/
theorem lastK_no {K : Nat → Nat → Int32} {s : Nat} {t : Int32} {L : List af} (h : ∀ x ∈ L, Pt K s t x = false) : lastK K s t L = none := by
  unfold lastK
  rw [List.filter_eq_nil_iff.mpr (fun x hx => by rw [h x hx]; decide)]
  rfl
theorem lastK_yes {K : Nat → Nat → Int32} {s : Nat} {t : Int32} {L1 L2 : List af} {x : af} (hx : Pt K s t x = true) (h : ∀ z ∈ L2, Pt K s t z = false) : lastK K s t (L1 ++ x :: L2) = some x := by
  have hn : L2.filter (Pt K s t) = [] := List.filter_eq_nil_iff.mpr (fun z hz => by rw [h z hz]; decide)
  unfold lastK
  rw [List.filter_append, List.filter_cons, if_pos hx, hn, List.getLast?_append]
  rfl
theorem oth_cong {A K : Nat → Nat → Int32} (h : A 1 = K 1) (s : Nat) (t : Int32) (L : List af) : L.filter (fun x => !Pt A s t x) = oth K s t L := by
  unfold oth
  rw [Pt_cong h]
theorem zInt_tag {K : Nat → Nat → Int32} {s : Nat} {t : Int32} (h : ¬ zInt (zKind K s t) = 0) : ¬ zTag t = 0 := by
  intro z
  refine h ?_
  unfold zKind
  rw [if_pos z]
  decide
theorem zHas_tag {K : Nat → Nat → Int32} {s : Nat} {t : Int32} (h : ¬ zHas (zKind K s t) = 0) : ¬ zTag t = 0 := by
  intro z
  refine h ?_
  unfold zKind
  rw [if_pos z]
  decide
theorem zK4_tag {K : Nat → Nat → Int32} {s : Nat} {t : Int32} (h : zKind K s t = 4) : ¬ zTag t = 0 := by
  intro z
  unfold zKind at h
  rw [if_pos z] at h
  exact absurd h (by decide)
theorem eL_one (L : List af) (x : af) : eL (L ++ [x]) = eL L ++ ef x := by
  rw [eL_app, eL_cons, show eL [] = [] from rfl, List.append_nil]
theorem zType_tyN {k : Int32} (h : ¬ zInt k = 0) : zType k = nI (tyN k) := by
  unfold zType tyN
  by_cases e2 : k = 2
  · rw [if_pos e2, if_pos e2]; rfl
  · rw [if_neg e2, if_neg e2]
    obtain ⟨h1, h2⟩ := zIn_1 h
    obtain ⟨j, hj, rfl⟩ := nI_of3 (M := 2) (n := 2) rfl (by decide) h1 h2
    have hj : j = 0 ∨ j = 1 ∨ j = 2 := by omega
    rcases hj with rfl | rfl | rfl
    · rfl
    · rfl
    · exact absurd rfl e2
theorem tyN_or (k : Int32) : tyN k = 0 ∨ tyN k = 5 := by
  unfold tyN
  by_cases e : k = 2
  · rw [if_pos e]; exact Or.inr rfl
  · rw [if_neg e]; exact Or.inl rfl
theorem oth_ok {K : Nat → Nat → Int32} {s : Nat} {t : Int32} {L : List af} (h : ∀ x ∈ L, okf x) : ∀ x ∈ oth K s t L, okf x := fun x hx => h x (List.mem_filter.mp hx).1
theorem app_ok {L : List af} {x : af} (h : ∀ z ∈ L, okf z) (hx : okf x) : ∀ z ∈ L ++ [x], okf z := by
  intro z hz
  rcases List.mem_append.mp hz with hz | hz
  · exact h z hz
  · rw [List.mem_singleton] at hz; rw [hz]; exact hx
section P4
variable {M : Nat} {h : mw_H} {g : mS} {I : Nat → Int32} {A : Nat → Nat → Int32}
theorem r_has (hr : rR g I A) (m t : Int32) : mw_Con mm_X7_has 5 0 0 [.ref M, .int m, .int t] (gm M h I A) (rP M h (sp_has g m t)) := by
  refine gm_con pl_X7 rfl rfl (Nat.le_of_ble_eq_true rfl) rfl ?_
  unfold sp_has
  cases hm : sM g m with
  | none =>
    refine mw_aload_n (i := 0) dX7_has_0 rfl rfl ?_
    refine mw_aload_n (i := 0) dX7_has_1 rfl rfl ?_
    refine mw_iload_n (i := 1) dX7_has_2 rfl rfl ?_
    refine mw_callVr dX7_has_3 mk_X7_156 gm_0 rfl (c_M0 hr hm) (by decide) (Nat.le_refl _) (Nat.le_refl _) rfl rfl (Nat.le_of_ble_eq_true rfl) ?_
    refine mw_if_ne (tgt := 13) dX7_has_6 (by decide) (fun c9 => absurd c9 (by first | decide | (rw [pk_us]; decide))) (fun _ => ?_)
    refine mw_iconst (v := 1) dX7_has_9 (by decide) ?_
    refine mw_goto (tgt := 25) dX7_has_10 (by decide) ?_
    refine gm_put dX7_has_25 fk_X7_44 (by decide) (gm_h0 _) ?_
    refine mw_aload_n (i := 0) dX7_has_28 rfl rfl ?_
    refine mw_get dX7_has_29 fk_X7_44 gm_0 rfl ?_
    refine mw_if_ne (tgt := 49) dX7_has_32 (by decide) (fun _ => ?_) (fun c9 => absurd c9 (by first | decide | (rw [pk_us]; decide)))
    refine mw_iconst (v := 0) dX7_has_49 (by decide) ?_
    exact mw_ireturn dX7_has_50 ⟨_, rfl, rfl⟩ (rP_I hr rfl rfl rfl)
  | some q =>
    obtain ⟨m, s, L⟩ := q
    obtain ⟨h12, rfl, hT⟩ := sM_in hm
    have hM := rR_mes hr h12 hT
    dsimp only
    by_cases ht : zTag t = 0
    · rw [if_pos ht]
      refine mw_aload_n (i := 0) dX7_has_0 rfl rfl ?_
      refine mw_aload_n (i := 0) dX7_has_1 rfl rfl ?_
      refine mw_iload_n (i := 1) dX7_has_2 rfl rfl ?_
      refine mw_callVr dX7_has_3 mk_X7_156 gm_0 rfl (c_M1 hr hm) (by decide) (Nat.le_refl _) (Nat.le_refl _) rfl rfl (Nat.le_of_ble_eq_true rfl) ?_
      refine mw_if_ne (tgt := 13) dX7_has_6 (by decide) (fun _ => ?_) (fun c9 => absurd c9 (by first | decide | (rw [pk_us]; decide)))
      refine mw_iload_n (i := 2) dX7_has_13 rfl rfl ?_
      refine mw_callSr dX7_has_14 mk_X7_74 (c_T0 ht) (by decide) (Nat.le_refl _) (Nat.le_refl _) rfl rfl (Nat.le_of_ble_eq_true rfl) ?_
      refine mw_if_eq (tgt := 24) dX7_has_17 (by decide) (fun _ => ?_) (fun c9 => absurd c9 (by first | decide | (rw [pk_us]; decide)))
      refine mw_iconst (v := 2) dX7_has_24 (by decide) ?_
      refine gm_put dX7_has_25 fk_X7_44 (by decide) (gm_h0 _) ?_
      refine mw_aload_n (i := 0) dX7_has_28 rfl rfl ?_
      refine mw_get dX7_has_29 fk_X7_44 gm_0 rfl ?_
      refine mw_if_ne (tgt := 49) dX7_has_32 (by decide) (fun _ => ?_) (fun c9 => absurd c9 (by first | decide | (rw [pk_us]; decide)))
      refine mw_iconst (v := 0) dX7_has_49 (by decide) ?_
      exact mw_ireturn dX7_has_50 ⟨_, rfl, rfl⟩ (rP_I hr rfl rfl rfl)
    · rw [if_neg ht]
      refine mw_aload_n (i := 0) dX7_has_0 rfl rfl ?_
      refine mw_aload_n (i := 0) dX7_has_1 rfl rfl ?_
      refine mw_iload_n (i := 1) dX7_has_2 rfl rfl ?_
      refine mw_callVr dX7_has_3 mk_X7_156 gm_0 rfl (c_M1 hr hm) (by decide) (Nat.le_refl _) (Nat.le_refl _) rfl rfl (Nat.le_of_ble_eq_true rfl) ?_
      refine mw_if_ne (tgt := 13) dX7_has_6 (by decide) (fun _ => ?_) (fun c9 => absurd c9 (by first | decide | (rw [pk_us]; decide)))
      refine mw_iload_n (i := 2) dX7_has_13 rfl rfl ?_
      refine mw_callSr dX7_has_14 mk_X7_74 (c_T1 ht) (by decide) (Nat.le_refl _) (Nat.le_refl _) rfl rfl (Nat.le_of_ble_eq_true rfl) ?_
      refine mw_if_eq (tgt := 24) dX7_has_17 (by decide) (fun c9 => absurd c9 (by first | decide | (rw [pk_us]; decide))) (fun _ => ?_)
      refine mw_iconst (v := 0) dX7_has_20 (by decide) ?_
      refine mw_goto (tgt := 25) dX7_has_21 (by decide) ?_
      refine gm_put dX7_has_25 fk_X7_44 (by decide) (gm_h0 _) ?_
      refine mw_aload_n (i := 0) dX7_has_28 rfl rfl ?_
      refine mw_get dX7_has_29 fk_X7_44 gm_0 rfl ?_
      refine mw_if_ne (tgt := 49) dX7_has_32 (by decide) (fun c9 => absurd c9 (fun z => z rfl)) (fun _ => ?_)
      refine mw_aload_n (i := 0) dX7_has_35 rfl rfl ?_
      refine mw_iload_n (i := 1) dX7_has_36 rfl rfl ?_
      refine mw_iload_n (i := 2) dX7_has_37 rfl rfl ?_
      refine mw_callV dX7_has_38 mk_X7_113 gm_0 rfl (c_lastKnown hM t) (by decide) (Nat.le_refl _) (Nat.le_refl _) rfl rfl (Nat.le_of_ble_eq_true rfl) (fun E9 h9 q9 => ?_) (fun v9 h9 q9 => ?_)
      · cases q9.1
      · obtain ⟨e9, I1, rfl, hS⟩ := q9
        cases e9
        have hlen := hM.2.2.2.2.1
        rw [Pt_cong hr.2.2.1]
        by_cases hex : ∃ x ∈ L, Pt g.2.1 s t x = true
        · obtain ⟨L1, x, L2, hL, hPx, hno, hv⟩ := lkv_yes L (120 * m) (-1) hex
          have hlk : lastK g.2.1 s t L = some x := by rw [hL]; exact lastK_yes hPx hno
          have hlL : (eL L).length = (eL L1).length + (eL (x :: L2)).length := by rw [hL, eL_app, List.length_append]
          rw [hv, hlk]
          refine mw_iconst (v := -1) dX7_has_41 (by decide) ?_
          refine mw_icmp_eq (tgt := 49) dX7_has_42 (by decide) (fun c9 => absurd c9 (fun z => absurd (show nI (120 * m + (eL L1).length) < 0 by rw [show nI (120 * m + (eL L1).length) = -1 from z]; decide) (nI_pos (by omega)))) (fun _ => ?_)
          refine mw_iconst (v := 1) dX7_has_45 (by decide) ?_
          refine mw_goto (tgt := 50) dX7_has_46 (by decide) ?_
          exact mw_ireturn dX7_has_50 ⟨_, rfl, rfl⟩ (rP_scr (I1 := upd I 0 0) hr rfl rfl rfl hS)
        · have hno : ∀ z ∈ L, Pt g.2.1 s t z = false := fun z hz => by
            cases hP : Pt g.2.1 s t z with
            | false => rfl
            | true => exact absurd ⟨z, hz, hP⟩ hex
          rw [lkv_no L (120 * m) (-1) hno, lastK_no hno]
          refine mw_iconst (v := -1) dX7_has_41 (by decide) ?_
          refine mw_icmp_eq (tgt := 49) dX7_has_42 (by decide) (fun _ => ?_) (fun c9 => absurd c9 (by first | decide | (rw [pk_us]; decide)))
          refine mw_iconst (v := 0) dX7_has_49 (by decide) ?_
          exact mw_ireturn dX7_has_50 ⟨_, rfl, rfl⟩ (rP_scr (I1 := upd I 0 0) hr rfl rfl rfl hS)
theorem zFd_no {P : af → Bool} {p : Nat} {L : List af} {E : String} {h' : mw_H} (q : zFd M h A I P p L (.inr E) h') : False := by
  obtain ⟨I1, -, -, hc⟩ := q
  rcases hc with ⟨-, e9⟩ | ⟨_, _, _, -, -, -, e9, -⟩ <;> cases e9
theorem r_get (hr : rR g I A) (m t : Int32) : mw_Con mm_X7_get 6 0 0 [.ref M, .int m, .int t] (gm M h I A) (rP M h (sp_get g m t)) := by
  refine gm_con pl_X7 rfl rfl (Nat.le_of_ble_eq_true rfl) rfl ?_
  unfold sp_get
  cases hm : sM g m with
  | none =>
    refine mw_aload_n (i := 0) dX7_get_0 rfl rfl ?_
    refine mw_aload_n (i := 0) dX7_get_1 rfl rfl ?_
    refine mw_iload_n (i := 1) dX7_get_2 rfl rfl ?_
    refine mw_callVr dX7_get_3 mk_X7_156 gm_0 rfl (c_M0 hr hm) (by decide) (Nat.le_refl _) (Nat.le_refl _) rfl rfl (Nat.le_of_ble_eq_true rfl) ?_
    refine mw_if_ne (tgt := 13) dX7_get_6 (by decide) (fun c9 => absurd c9 (by first | decide | (rw [pk_us]; decide))) (fun _ => ?_)
    refine mw_iconst (v := 1) dX7_get_9 (by decide) ?_
    refine mw_goto (tgt := 30) dX7_get_10 (by decide) ?_
    refine gm_put dX7_get_30 fk_X7_44 (by decide) (gm_h0 _) ?_
    refine mw_aload_n (i := 0) dX7_get_33 rfl rfl ?_
    refine mw_get dX7_get_34 fk_X7_44 gm_0 rfl ?_
    refine mw_if_le (tgt := 42) dX7_get_37 (by decide) (fun c9 => absurd c9 (by first | decide | (rw [pk_us]; decide))) (fun _ => ?_)
    refine mw_iconst (v := 0) dX7_get_40 (by decide) ?_
    exact mw_ireturn dX7_get_41 ⟨_, rfl, rfl⟩ (rP_I hr rfl rfl rfl)
  | some q =>
    obtain ⟨m, s, L⟩ := q
    obtain ⟨h12, rfl, hT⟩ := sM_in hm
    have hM := rR_mes hr h12 hT
    have hs := hM.2.1
    have hzk := zKind_cong (s := s) (t := t) hr.2.2.1
    dsimp only
    refine mw_aload_n (i := 0) dX7_get_0 rfl rfl ?_
    refine mw_aload_n (i := 0) dX7_get_1 rfl rfl ?_
    refine mw_iload_n (i := 1) dX7_get_2 rfl rfl ?_
    refine mw_callVr dX7_get_3 mk_X7_156 gm_0 rfl (c_M1 hr hm) (by decide) (Nat.le_refl _) (Nat.le_refl _) rfl rfl (Nat.le_of_ble_eq_true rfl) ?_
    refine mw_if_ne (tgt := 13) dX7_get_6 (by decide) (fun _ => ?_) (fun c9 => absurd c9 (by first | decide | (rw [pk_us]; decide)))
    refine mw_aload_n (i := 0) dX7_get_13 rfl rfl ?_
    refine mw_iload_n (i := 1) dX7_get_14 rfl rfl ?_
    refine mw_iload_n (i := 2) dX7_get_15 rfl rfl ?_
    refine mw_callVr dX7_get_16 mk_X7_166 gm_0 rfl (c_kindIn h12 hM.2.1 hM.2.2.1 t) (by decide) (Nat.le_refl _) (Nat.le_refl _) rfl rfl (Nat.le_of_ble_eq_true rfl) ?_
    refine mw_callSr dX7_get_19 mk_X7_120 (c_isInt (zKind A s t)) (by decide) (Nat.le_refl _) (Nat.le_refl _) rfl rfl (Nat.le_of_ble_eq_true rfl) ?_
    rw [hzk]
    by_cases hi : zInt (zKind g.2.1 s t) = 0
    · rw [if_pos hi, hi]
      refine mw_if_eq (tgt := 29) dX7_get_22 (by decide) (fun _ => ?_) (fun c9 => absurd c9 (by first | decide | (rw [pk_us]; decide)))
      refine mw_iconst (v := 2) dX7_get_29 (by decide) ?_
      refine gm_put dX7_get_30 fk_X7_44 (by decide) (gm_h0 _) ?_
      refine mw_aload_n (i := 0) dX7_get_33 rfl rfl ?_
      refine mw_get dX7_get_34 fk_X7_44 gm_0 rfl ?_
      refine mw_if_le (tgt := 42) dX7_get_37 (by decide) (fun c9 => absurd c9 (by first | decide | (rw [pk_us]; decide))) (fun _ => ?_)
      refine mw_iconst (v := 0) dX7_get_40 (by decide) ?_
      exact mw_ireturn dX7_get_41 ⟨_, rfl, rfl⟩ (rP_I hr rfl rfl rfl)
    · rw [if_neg hi]
      refine mw_if_eq (tgt := 29) dX7_get_22 (by decide) (fun c9 => absurd c9 hi) (fun _ => ?_)
      refine mw_iconst (v := 0) dX7_get_25 (by decide) ?_
      refine mw_goto (tgt := 30) dX7_get_26 (by decide) ?_
      refine gm_put dX7_get_30 fk_X7_44 (by decide) (gm_h0 _) ?_
      refine mw_aload_n (i := 0) dX7_get_33 rfl rfl ?_
      refine mw_get dX7_get_34 fk_X7_44 gm_0 rfl ?_
      refine mw_if_le (tgt := 42) dX7_get_37 (by decide) (fun _ => ?_) (fun c9 => absurd c9 (by first | decide | (rw [pk_us]; decide)))
      refine mw_aload_n (i := 0) dX7_get_42 rfl rfl ?_
      refine mw_iload_n (i := 1) dX7_get_43 rfl rfl ?_
      refine mw_iload_n (i := 2) dX7_get_44 rfl rfl ?_
      refine mw_callV dX7_get_45 mk_X7_178 gm_0 rfl (c_finds hM t) (by decide) (Nat.le_refl _) (Nat.le_refl _) rfl rfl (Nat.le_of_ble_eq_true rfl) (fun E9 h9 q9 => ?_) (fun v9 h9 q9 => ?_)
      · exact (zFd_no q9).elim
      · obtain ⟨I1, rfl, hS, hc⟩ := q9
        rw [Pt_cong hr.2.2.1] at hc
        rcases hc with ⟨hno, e9⟩ | ⟨L1, x, L2, hL, hPx, hno, e9, hRd⟩
        · cases e9
          rw [lastK_no hno]
          dsimp only
          refine mw_if_eq (tgt := 67) dX7_get_48 (by decide) (fun _ => ?_) (fun c9 => absurd c9 (by first | decide | (rw [pk_us]; decide)))
          refine mw_aload_n (i := 0) dX7_get_67 rfl rfl ?_
          refine mw_get dX7_get_68 fk_X7_16 gm_0 rfl ?_
          refine mw_bipush (v := 32) dX7_get_71 (by decide) ?_
          refine mw_aload_n (i := 0) dX7_get_73 rfl rfl ?_
          refine mw_get dX7_get_74 fk_X7_23 gm_0 rfl ?_
          refine mw_iload_n (i := 1) dX7_get_77 rfl rfl ?_
          refine mw_iald dX7_get_78 gm_5 (mw_ix rfl h12 (by decide)) ?_
          rw [show A 5 m = nI s from hM.2.2.1]
          refine mw_imul dX7_get_79 ?_
          refine mw_iload_n (i := 2) dX7_get_80 rfl rfl ?_
          refine mw_iadd dX7_get_81 ?_
          refine mw_iald dX7_get_82 gm_3 (tix_ix hs (zInt_tag hi)) ?_
          rw [show A 3 = g.2.1 3 from hr.2.2.2.2.1]
          exact mw_ireturn dX7_get_83 ⟨_, rfl, rfl⟩ (rP_scr (I1 := upd I 0 0) hr rfl rfl rfl hS)
        · cases e9
          rw [hL, lastK_yes hPx hno]
          dsimp only
          refine mw_if_eq (tgt := 67) dX7_get_48 (by decide) (fun c9 => absurd c9 (fun z => absurd (show (1 : Int32) = 0 from z) (by decide))) (fun _ => ?_)
          refine mw_aload_n (i := 0) dX7_get_51 rfl rfl ?_
          refine mw_iload_n (i := 1) dX7_get_52 rfl rfl ?_
          refine mw_iload_n (i := 2) dX7_get_53 rfl rfl ?_
          refine mw_callVr dX7_get_54 mk_X7_166 gm_0 rfl (c_kindIn h12 hM.2.1 hM.2.2.1 t) (by decide) (Nat.le_refl _) (Nat.le_refl _) rfl rfl (Nat.le_of_ble_eq_true rfl) ?_
          refine mw_aload_n (i := 0) dX7_get_57 rfl rfl ?_
          refine mw_get dX7_get_58 fk_X7_78 gm_0 rfl ?_
          rw [show I1 15 = nI x.2.2.1 from hRd.2.2.2.2.1, hzk]
          refine mw_callSr dX7_get_61 mk_X7_123 (c_standsFor (zKind g.2.1 s t) (nI x.2.2.1)) (by decide) (Nat.le_refl _) (Nat.le_refl _) rfl rfl (Nat.le_of_ble_eq_true rfl) ?_
          refine mw_goto (tgt := 83) dX7_get_64 (by decide) ?_
          exact mw_ireturn dX7_get_83 ⟨_, rfl, rfl⟩ (rP_scr (I1 := upd I 0 0) hr rfl rfl rfl hS)
/-- the bytes of a field of bytes -/
theorem zRd_byte {x : af} {m : Nat} {L L1 L2 : List af} {s : Nat} {I1 : Nat → Int32} (hM : rMes A m s L) (hL : L = L1 ++ x :: L2) (h2 : x.2.1 = 2) (hRd : zRd x (120 * m + (eL L1).length) I1) : ∃ p : Nat, I1 16 = nI p ∧ x.2.2.2.length = x.2.2.1 ∧ x.2.2.1 ≤ 118 ∧ p + x.2.2.1 ≤ 1440 ∧ rowAt (bt (A 7)) p x.2.2.2 ∧ I1 15 = nI x.2.2.1 := by
  obtain ⟨hm, hs, h5, hok, hlen, h6, hrow, hA⟩ := hM
  obtain ⟨r11, r12, r13, r14, r15, r16, r17⟩ := hRd
  have hx := hok x (by rw [hL]; exact List.mem_append_right _ List.mem_cons_self)
  have hlL : (eL L).length = (eL L1).length + ((ef x).length + (eL L2).length) := by rw [hL, eL_app, eL_cons, List.length_append, List.length_append]
  rw [hL, eL_app, eL_cons, rowAt_app, rowAt_app] at hrow
  have hb := rowAt_bytes hrow.2.1
  have hl := hx.2.2.2.2.1 h2
  have hl2 := ef_len_bytes x
  exact ⟨_, r16 h2, hl, by omega, by omega, hb, r15⟩
theorem known_ty {K : Nat → Nat → Int32} {s : Nat} {t : Int32} {x : af} (h : Pt K s t x = true) (hb : ¬ zHas (zKind K s t) = 0) (hx : okf x) : x.2.1 = 2 := by
  unfold Pt knb at h
  rw [Bool.and_eq_true, decide_eq_true_iff, decide_eq_true_iff] at h
  obtain ⟨h1, h2⟩ := h
  rw [h1] at h2
  unfold zKn at h2
  by_cases e : zKind K s t = -1
  · rw [if_pos e] at h2; exact absurd rfl h2
  · rw [if_neg e] at h2
    by_cases e2 : zType (zKind K s t) = nI x.2.1
    · unfold zHas at hb
      unfold zType at e2
      have hty : x.2.1 = 0 ∨ x.2.1 = 2 ∨ x.2.1 = 5 := hx.2.2.1
      by_cases k3 : zKind K s t = 3
      · rw [k3] at e2
        have e2 : nI 2 = nI x.2.1 := e2
        rw [nI_eq (by decide) (by omega)] at e2
        exact e2.symm
      · rw [if_neg k3] at hb
        by_cases k4 : zKind K s t = 4
        · rw [k4] at e2
          have e2 : nI 2 = nI x.2.1 := e2
          rw [nI_eq (by decide) (by omega)] at e2
          exact e2.symm
        · rw [if_neg k4] at hb; exact absurd rfl hb
    · rw [if_neg e2] at h2; exact absurd rfl h2
theorem r_byteOf (hr : rR g I A) (m t p : Int32) : mw_Con mm_X7_byteOf 6 0 0 [.ref M, .int m, .int t, .int p] (gm M h I A) (rP M h (sp_byteOf g m t p)) := by
  refine gm_con pl_X7 rfl rfl (Nat.le_of_ble_eq_true rfl) rfl ?_
  unfold sp_byteOf
  cases hm : sM g m with
  | none =>
    refine mw_aload_n (i := 0) dX7_byteOf_0 rfl rfl ?_
    refine mw_aload_n (i := 0) dX7_byteOf_1 rfl rfl ?_
    refine mw_iload_n (i := 1) dX7_byteOf_2 rfl rfl ?_
    refine mw_callVr dX7_byteOf_3 mk_X7_156 gm_0 rfl (c_M0 hr hm) (by decide) (Nat.le_refl _) (Nat.le_refl _) rfl rfl (Nat.le_of_ble_eq_true rfl) ?_
    refine mw_if_ne (tgt := 13) dX7_byteOf_6 (by decide) (fun c9 => absurd c9 (by first | decide | (rw [pk_us]; decide))) (fun _ => ?_)
    refine mw_iconst (v := 1) dX7_byteOf_9 (by decide) ?_
    refine mw_goto (tgt := 30) dX7_byteOf_10 (by decide) ?_
    refine gm_put dX7_byteOf_30 fk_X7_44 (by decide) (gm_h0 _) ?_
    refine mw_aload_n (i := 0) dX7_byteOf_33 rfl rfl ?_
    refine mw_get dX7_byteOf_34 fk_X7_44 gm_0 rfl ?_
    refine mw_if_ne (tgt := 72) dX7_byteOf_37 (by decide) (fun _ => ?_) (fun c9 => absurd c9 (by first | decide | (rw [pk_us]; decide)))
    refine mw_aload_n (i := 0) dX7_byteOf_72 rfl rfl ?_
    refine mw_get dX7_byteOf_73 fk_X7_44 gm_0 rfl ?_
    refine mw_if_le (tgt := 83) dX7_byteOf_76 (by decide) (fun c9 => absurd c9 (by first | decide | (rw [pk_us]; decide))) (fun _ => ?_)
    refine mw_iconst (v := 0) dX7_byteOf_79 (by decide) ?_
    refine mw_goto (tgt := 95) dX7_byteOf_80 (by decide) ?_
    exact mw_ireturn dX7_byteOf_95 ⟨_, rfl, rfl⟩ (rP_I hr rfl rfl rfl)
  | some q =>
    obtain ⟨m, s, L⟩ := q
    obtain ⟨h12, rfl, hT⟩ := sM_in hm
    have hM := rR_mes hr h12 hT
    have hs := hM.2.1
    have hzk := zKind_cong (s := s) (t := t) hr.2.2.1
    dsimp only
    refine mw_aload_n (i := 0) dX7_byteOf_0 rfl rfl ?_
    refine mw_aload_n (i := 0) dX7_byteOf_1 rfl rfl ?_
    refine mw_iload_n (i := 1) dX7_byteOf_2 rfl rfl ?_
    refine mw_callVr dX7_byteOf_3 mk_X7_156 gm_0 rfl (c_M1 hr hm) (by decide) (Nat.le_refl _) (Nat.le_refl _) rfl rfl (Nat.le_of_ble_eq_true rfl) ?_
    refine mw_if_ne (tgt := 13) dX7_byteOf_6 (by decide) (fun _ => ?_) (fun c9 => absurd c9 (by first | decide | (rw [pk_us]; decide)))
    refine mw_aload_n (i := 0) dX7_byteOf_13 rfl rfl ?_
    refine mw_iload_n (i := 1) dX7_byteOf_14 rfl rfl ?_
    refine mw_iload_n (i := 2) dX7_byteOf_15 rfl rfl ?_
    refine mw_callVr dX7_byteOf_16 mk_X7_166 gm_0 rfl (c_kindIn h12 hM.2.1 hM.2.2.1 t) (by decide) (Nat.le_refl _) (Nat.le_refl _) rfl rfl (Nat.le_of_ble_eq_true rfl) ?_
    refine mw_callSr dX7_byteOf_19 mk_X7_175 (c_hasBytes (zKind A s t)) (by decide) (Nat.le_refl _) (Nat.le_refl _) rfl rfl (Nat.le_of_ble_eq_true rfl) ?_
    rw [hzk]
    by_cases hi : zHas (zKind g.2.1 s t) = 0
    · rw [if_pos hi, hi]
      refine mw_if_eq (tgt := 29) dX7_byteOf_22 (by decide) (fun _ => ?_) (fun c9 => absurd c9 (by first | decide | (rw [pk_us]; decide)))
      refine mw_iconst (v := 2) dX7_byteOf_29 (by decide) ?_
      refine gm_put dX7_byteOf_30 fk_X7_44 (by decide) (gm_h0 _) ?_
      refine mw_aload_n (i := 0) dX7_byteOf_33 rfl rfl ?_
      refine mw_get dX7_byteOf_34 fk_X7_44 gm_0 rfl ?_
      refine mw_if_ne (tgt := 72) dX7_byteOf_37 (by decide) (fun _ => ?_) (fun c9 => absurd c9 (by first | decide | (rw [pk_us]; decide)))
      refine mw_aload_n (i := 0) dX7_byteOf_72 rfl rfl ?_
      refine mw_get dX7_byteOf_73 fk_X7_44 gm_0 rfl ?_
      refine mw_if_le (tgt := 83) dX7_byteOf_76 (by decide) (fun c9 => absurd c9 (by first | decide | (rw [pk_us]; decide))) (fun _ => ?_)
      refine mw_iconst (v := 0) dX7_byteOf_79 (by decide) ?_
      refine mw_goto (tgt := 95) dX7_byteOf_80 (by decide) ?_
      exact mw_ireturn dX7_byteOf_95 ⟨_, rfl, rfl⟩ (rP_I hr rfl rfl rfl)
    · rw [if_neg hi]
      refine mw_if_eq (tgt := 29) dX7_byteOf_22 (by decide) (fun c9 => absurd c9 hi) (fun _ => ?_)
      refine mw_iconst (v := 0) dX7_byteOf_25 (by decide) ?_
      refine mw_goto (tgt := 30) dX7_byteOf_26 (by decide) ?_
      refine gm_put dX7_byteOf_30 fk_X7_44 (by decide) (gm_h0 _) ?_
      refine mw_aload_n (i := 0) dX7_byteOf_33 rfl rfl ?_
      refine mw_get dX7_byteOf_34 fk_X7_44 gm_0 rfl ?_
      refine mw_if_ne (tgt := 72) dX7_byteOf_37 (by decide) (fun c9 => absurd c9 (fun z => z rfl)) (fun _ => ?_)
      refine mw_aload_n (i := 0) dX7_byteOf_40 rfl rfl ?_
      refine mw_aload_n (i := 0) dX7_byteOf_41 rfl rfl ?_
      refine mw_iload_n (i := 1) dX7_byteOf_42 rfl rfl ?_
      refine mw_iload_n (i := 2) dX7_byteOf_43 rfl rfl ?_
      refine mw_callV dX7_byteOf_44 mk_X7_178 gm_0 rfl (c_finds hM t) (by decide) (Nat.le_refl _) (Nat.le_refl _) rfl rfl (Nat.le_of_ble_eq_true rfl) (fun E9 h9 q9 => ?_) (fun v9 h9 q9 => ?_)
      · exact (zFd_no q9).elim
      · obtain ⟨I1, rfl, hS, hc⟩ := q9
        rw [Pt_cong hr.2.2.1] at hc
        rcases hc with ⟨hno, e9⟩ | ⟨L1, x, L2, hL, hPx, hno, e9, hRd⟩
        · cases e9
          rw [lastK_no hno]
          dsimp only
          refine mw_if_eq (tgt := 68) dX7_byteOf_47 (by decide) (fun _ => ?_) (fun c9 => absurd c9 (by first | decide | (rw [pk_us]; decide)))
          refine mw_iconst (v := 3) dX7_byteOf_68 (by decide) ?_
          refine gm_put dX7_byteOf_69 fk_X7_44 (by decide) (gm_h0 _) ?_
          refine mw_aload_n (i := 0) dX7_byteOf_72 rfl rfl ?_
          refine mw_get dX7_byteOf_73 fk_X7_44 gm_0 rfl ?_
          refine mw_if_le (tgt := 83) dX7_byteOf_76 (by decide) (fun c9 => absurd c9 (by first | decide | (rw [pk_us]; decide))) (fun _ => ?_)
          refine mw_iconst (v := 0) dX7_byteOf_79 (by decide) ?_
          refine mw_goto (tgt := 95) dX7_byteOf_80 (by decide) ?_
          exact mw_ireturn dX7_byteOf_95 ⟨_, rfl, rfl⟩ (rP_I hr rfl ((pk_un (by decide)).trans (hS 1 (by decide))) ((pk_un (by decide)).trans (hS 9 (by decide))))
        · cases e9
          have hx := hM.2.2.2.1 x (by rw [hL]; exact List.mem_append_right _ List.mem_cons_self)
          have h2 := known_ty hPx hi hx
          obtain ⟨pp, y1, y2, y3, y4, y5, y6⟩ := zRd_byte hM hL h2 hRd
          rw [hL, lastK_yes hPx hno]
          dsimp only
          refine mw_if_eq (tgt := 68) dX7_byteOf_47 (by decide) (fun c9 => absurd c9 (fun z => absurd (show (1 : Int32) = 0 from z) (by decide))) (fun _ => ?_)
          refine mw_iload_n (i := 3) dX7_byteOf_50 rfl rfl ?_
          refine mw_iconst (v := 0) dX7_byteOf_51 (by decide) ?_
          refine mw_aload_n (i := 0) dX7_byteOf_52 rfl rfl ?_
          refine mw_get dX7_byteOf_53 fk_X7_78 gm_0 rfl ?_
          refine mw_iconst (v := 1) dX7_byteOf_56 (by decide) ?_
          refine mw_isub dX7_byteOf_57 ?_
          rw [y6]
          by_cases hn : zIn p 0 (nI x.2.2.1 - 1) = 0
          · rw [if_pos hn]
            refine mw_callSr dX7_byteOf_58 mk_X7_51 (c_in p 0 (nI x.2.2.1 - 1)) (by decide) (Nat.le_refl _) (Nat.le_refl _) rfl rfl (Nat.le_of_ble_eq_true rfl) ?_
            rw [hn]
            refine mw_if_eq (tgt := 68) dX7_byteOf_61 (by decide) (fun _ => ?_) (fun c9 => absurd c9 (by first | decide | (rw [pk_us]; decide)))
            refine mw_iconst (v := 3) dX7_byteOf_68 (by decide) ?_
            refine gm_put dX7_byteOf_69 fk_X7_44 (by decide) (gm_h0 _) ?_
            refine mw_aload_n (i := 0) dX7_byteOf_72 rfl rfl ?_
            refine mw_get dX7_byteOf_73 fk_X7_44 gm_0 rfl ?_
            refine mw_if_le (tgt := 83) dX7_byteOf_76 (by decide) (fun c9 => absurd c9 (by first | decide | (rw [pk_us]; decide))) (fun _ => ?_)
            refine mw_iconst (v := 0) dX7_byteOf_79 (by decide) ?_
            refine mw_goto (tgt := 95) dX7_byteOf_80 (by decide) ?_
            exact mw_ireturn dX7_byteOf_95 ⟨_, rfl, rfl⟩ (rP_I hr rfl ((pk_un (by decide)).trans (hS 1 (by decide))) ((pk_un (by decide)).trans (hS 9 (by decide))))
          · rw [if_neg hn]
            obtain ⟨j, hj, rfl⟩ := zIn_nI (by omega) hn
            have hix : (upd I1 0 0) 16 + nI j = nI (pp + j) := by rw [show (upd I1 0 0) 16 = nI pp from y1]; exact nI_add _ _
            refine mw_callSr dX7_byteOf_58 mk_X7_51 (c_in (nI j) 0 (nI x.2.2.1 - 1)) (by decide) (Nat.le_refl _) (Nat.le_refl _) rfl rfl (Nat.le_of_ble_eq_true rfl) ?_
            refine mw_if_eq (tgt := 68) dX7_byteOf_61 (by decide) (fun c9 => absurd c9 hn) (fun _ => ?_)
            refine mw_iconst (v := 0) dX7_byteOf_64 (by decide) ?_
            refine mw_goto (tgt := 69) dX7_byteOf_65 (by decide) ?_
            refine gm_put dX7_byteOf_69 fk_X7_44 (by decide) (gm_h0 _) ?_
            refine mw_aload_n (i := 0) dX7_byteOf_72 rfl rfl ?_
            refine mw_get dX7_byteOf_73 fk_X7_44 gm_0 rfl ?_
            refine mw_if_le (tgt := 83) dX7_byteOf_76 (by decide) (fun _ => ?_) (fun c9 => absurd c9 (by first | decide | (rw [pk_us]; decide)))
            refine mw_aload_n (i := 0) dX7_byteOf_83 rfl rfl ?_
            refine mw_get dX7_byteOf_84 fk_X7_29 gm_0 rfl ?_
            refine mw_aload_n (i := 0) dX7_byteOf_87 rfl rfl ?_
            refine mw_get dX7_byteOf_88 fk_X7_81 gm_0 rfl ?_
            refine mw_iload_n (i := 3) dX7_byteOf_91 rfl rfl ?_
            refine mw_iadd dX7_byteOf_92 ?_
            refine mw_iald dX7_byteOf_93 gm_7 (mw_ix hix (show pp + j < 1440 by omega) (by decide)) ?_
            have hv : A 7 (pp + j) = nI (x.2.2.2.getD j 0) := by
              rw [byt_bt hM.2.2.2.2.2.2.2 (by omega), y5 j (by omega)]
            rw [hv, nI_clamp (by omega)]
            refine mw_i2b dX7_byteOf_94 rfl ?_
            exact mw_ireturn dX7_byteOf_95 ⟨_, rfl, nb_byte _⟩ (rP_I hr rfl ((pk_un (by decide)).trans (hS 1 (by decide))) ((pk_un (by decide)).trans (hS 9 (by decide))))
theorem r_set (hr : rR g I A) (m t v : Int32) : mw_Con mm_X7_set 5 0 0 [.ref M, .int m, .int t, .int v] (gm M h I A) (rPv M h (sp_set g m t v)) := by
  refine gm_con pl_X7 rfl rfl (Nat.le_of_ble_eq_true rfl) rfl ?_
  unfold sp_set
  cases hm : sM g m with
  | none =>
    refine mw_aload_n (i := 0) dX7_set_0 rfl rfl ?_
    refine mw_aload_n (i := 0) dX7_set_1 rfl rfl ?_
    refine mw_iload_n (i := 1) dX7_set_2 rfl rfl ?_
    refine mw_callVr dX7_set_3 mk_X7_156 gm_0 rfl (c_M0 hr hm) (by decide) (Nat.le_refl _) (Nat.le_refl _) rfl rfl (Nat.le_of_ble_eq_true rfl) ?_
    refine mw_if_ne (tgt := 13) dX7_set_6 (by decide) (fun c9 => absurd c9 (by first | decide | (rw [pk_us]; decide))) (fun _ => ?_)
    refine mw_iconst (v := 1) dX7_set_9 (by decide) ?_
    refine mw_goto (tgt := 30) dX7_set_10 (by decide) ?_
    refine gm_put dX7_set_30 fk_X7_44 (by decide) (gm_h0 _) ?_
    refine mw_aload_n (i := 0) dX7_set_33 rfl rfl ?_
    refine mw_get dX7_set_34 fk_X7_44 gm_0 rfl ?_
    refine mw_if_le (tgt := 41) dX7_set_37 (by decide) (fun c9 => absurd c9 (by first | decide | (rw [pk_us]; decide))) (fun _ => ?_)
    exact mw_return dX7_set_40 rfl ⟨rfl, _, _, rfl, rfl, rR_scr hr (fun _ _ _ => rfl) rfl rfl⟩
  | some q =>
    obtain ⟨m, s, L⟩ := q
    obtain ⟨h12, rfl, hT⟩ := sM_in hm
    have hM := rR_mes hr h12 hT
    have hs := hM.2.1
    have hzk := zKind_cong (s := s) (t := t) hr.2.2.1
    dsimp only
    refine mw_aload_n (i := 0) dX7_set_0 rfl rfl ?_
    refine mw_aload_n (i := 0) dX7_set_1 rfl rfl ?_
    refine mw_iload_n (i := 1) dX7_set_2 rfl rfl ?_
    refine mw_callVr dX7_set_3 mk_X7_156 gm_0 rfl (c_M1 hr hm) (by decide) (Nat.le_refl _) (Nat.le_refl _) rfl rfl (Nat.le_of_ble_eq_true rfl) ?_
    refine mw_if_ne (tgt := 13) dX7_set_6 (by decide) (fun _ => ?_) (fun c9 => absurd c9 (by first | decide | (rw [pk_us]; decide)))
    refine mw_aload_n (i := 0) dX7_set_13 rfl rfl ?_
    refine mw_iload_n (i := 1) dX7_set_14 rfl rfl ?_
    refine mw_iload_n (i := 2) dX7_set_15 rfl rfl ?_
    refine mw_callVr dX7_set_16 mk_X7_166 gm_0 rfl (c_kindIn h12 hM.2.1 hM.2.2.1 t) (by decide) (Nat.le_refl _) (Nat.le_refl _) rfl rfl (Nat.le_of_ble_eq_true rfl) ?_
    refine mw_callSr dX7_set_19 mk_X7_120 (c_isInt (zKind A s t)) (by decide) (Nat.le_refl _) (Nat.le_refl _) rfl rfl (Nat.le_of_ble_eq_true rfl) ?_
    rw [hzk]
    by_cases hi : zInt (zKind g.2.1 s t) = 0
    · rw [if_pos hi, hi]
      refine mw_if_eq (tgt := 29) dX7_set_22 (by decide) (fun _ => ?_) (fun c9 => absurd c9 (by first | decide | (rw [pk_us]; decide)))
      refine mw_iconst (v := 2) dX7_set_29 (by decide) ?_
      refine gm_put dX7_set_30 fk_X7_44 (by decide) (gm_h0 _) ?_
      refine mw_aload_n (i := 0) dX7_set_33 rfl rfl ?_
      refine mw_get dX7_set_34 fk_X7_44 gm_0 rfl ?_
      refine mw_if_le (tgt := 41) dX7_set_37 (by decide) (fun c9 => absurd c9 (by first | decide | (rw [pk_us]; decide))) (fun _ => ?_)
      exact mw_return dX7_set_40 rfl ⟨rfl, _, _, rfl, rfl, rR_scr hr (fun _ _ _ => rfl) rfl rfl⟩
    · rw [if_neg hi]
      obtain ⟨j, j1, j2, rfl⟩ := zTag_nI (zInt_tag hi)
      rw [nI_clamp (by omega)]
      refine mw_if_eq (tgt := 29) dX7_set_22 (by decide) (fun c9 => absurd c9 hi) (fun _ => ?_)
      refine mw_iconst (v := 0) dX7_set_25 (by decide) ?_
      refine mw_goto (tgt := 30) dX7_set_26 (by decide) ?_
      refine gm_put dX7_set_30 fk_X7_44 (by decide) (gm_h0 _) ?_
      refine mw_aload_n (i := 0) dX7_set_33 rfl rfl ?_
      refine mw_get dX7_set_34 fk_X7_44 gm_0 rfl ?_
      refine mw_if_le (tgt := 41) dX7_set_37 (by decide) (fun _ => ?_) (fun c9 => absurd c9 (by first | decide | (rw [pk_us]; decide)))
      refine mw_aload_n (i := 0) dX7_set_41 rfl rfl ?_
      refine mw_iload_n (i := 1) dX7_set_42 rfl rfl ?_
      refine mw_iload_n (i := 2) dX7_set_43 rfl rfl ?_
      refine mw_callVr dX7_set_44 mk_X7_166 gm_0 rfl (c_kindIn h12 hM.2.1 hM.2.2.1 (nI j)) (by decide) (Nat.le_refl _) (Nat.le_refl _) rfl rfl (Nat.le_of_ble_eq_true rfl) ?_
      refine mw_istore_4 dX7_set_47 (by decide) ?_
      refine mw_aload_n (i := 0) dX7_set_49 rfl rfl ?_
      refine mw_iload_n (i := 1) dX7_set_50 rfl rfl ?_
      refine mw_iload_n (i := 2) dX7_set_51 rfl rfl ?_
      refine mw_callV dX7_set_52 mk_X7_159 gm_0 rfl (c_writesOthers hM (nI j)) (by decide) (Nat.le_refl _) (Nat.le_refl _) rfl rfl (Nat.le_of_ble_eq_true rfl) (fun E9 h9 q9 => ?_) (fun v9 h9 q9 => ?_)
      · cases q9.1
      · obtain ⟨e9, I1, rfl, hS, h18⟩ := q9
        cases e9
        have hlen := hM.2.2.2.2.1
        have hok := hM.2.2.2.1
        have hfl := fil_le (fun x => !Pt A s (nI j) x) L
        rw [oth_cong hr.2.2.1] at h18 hfl ⊢
        have hty := zType_tyN hi
        have hy := tyN_or (zKind g.2.1 s (nI j))
        have hle : (enum j (tyN (zKind g.2.1 s (nI j))) (uN (zStA (zKind g.2.1 s (nI j)) v))).length ≤ 10 := by
          unfold enum
          rw [List.length_append]
          have h1 := eg_len 4 (8 * j + tyN (zKind g.2.1 s (nI j)))
          have h2 := eg_len 4 (uN (zStA (zKind g.2.1 s (nI j)) v))
          have h3 : (if tyN (zKind g.2.1 s (nI j)) = 5 then four (uN (zStA (zKind g.2.1 s (nI j)) v)) else egr (uN (zStA (zKind g.2.1 s (nI j)) v))).length ≤ 5 := by
            split
            · exact Nat.le_of_ble_eq_true rfl
            · exact h2
          have h1 : (egr (8 * j + tyN (zKind g.2.1 s (nI j)))).length ≤ 5 := h1
          omega
        refine mw_aload_n (i := 0) dX7_set_55 rfl rfl ?_
        refine mw_iload_n (i := 2) dX7_set_56 rfl rfl ?_
        refine mw_iload (i := 4) dX7_set_57 rfl ?_
        refine mw_callSr dX7_set_59 mk_X7_102 (c_typeOf (zKind A s (nI j))) (by decide) (Nat.le_refl _) (Nat.le_refl _) rfl rfl (Nat.le_of_ble_eq_true rfl) ?_
        refine mw_iload (i := 4) dX7_set_62 rfl ?_
        refine mw_iload_n (i := 3) dX7_set_64 rfl rfl ?_
        refine mw_callSr dX7_set_65 mk_X7_169 (c_standsAs (zKind A s (nI j)) v) (by decide) (Nat.le_refl _) (Nat.le_refl _) rfl rfl (Nat.le_of_ble_eq_true rfl) ?_
        rw [hzk, hty, ← nI_uN (zStA (zKind g.2.1 s (nI j)) v), uN_nI (uN_lt _)]
        have hv := uN_lt (zStA (zKind g.2.1 s (nI j)) v)
        have hokx : okf (j, tyN (zKind g.2.1 s (nI j)), uN (zStA (zKind g.2.1 s (nI j)) v), []) := ⟨j1, j2, hy.elim Or.inl (fun z => Or.inr (Or.inr z)), hv, fun z => by rcases hy with y | y <;> (rw [show tyN (zKind g.2.1 s (nI j)) = 2 from z] at y; exact absurd y (by decide)), fun _ => rfl, fun z hz => absurd hz List.not_mem_nil⟩
        generalize tyN (zKind g.2.1 s (nI j)) = y at *
        generalize uN (zStA (zKind g.2.1 s (nI j)) v) = w at *
        refine mw_callVv dX7_set_68 mk_X7_94 gm_0 rfl (c_writesNumber (tag := j) (type := y) (v := w) (by omega) hv h18 (by omega)) (by decide) (Nat.le_refl _) (Nat.le_refl _) rfl rfl (Nat.le_of_ble_eq_true rfl) ?_
        rw [gW_up, wr_app]
        have hX : eL (oth g.2.1 s (nI j) L) ++ enum j y w = eL (oth g.2.1 s (nI j) L ++ [(j, y, w, [])]) := by
          rw [eL_one]
          show _ = _ ++ (enum j y w ++ [])
          rw [List.append_nil]
        rw [Nat.zero_add, ← List.length_append, hX]
        have hXl : (eL (oth g.2.1 s (nI j) L ++ [(j, y, w, [])])).length ≤ 300 := by rw [← hX, List.length_append]; omega
        have hokL := app_ok (oth_ok (K := g.2.1) (s := s) (t := nI j) hok) hokx
        generalize oth g.2.1 s (nI j) L ++ [(j, y, w, [])] = L' at *
        have k1 : (upd I1 18 (nI (eL L').length)) 1 = I 1 := (pk_un (by decide)).trans ((hS 1 (by decide)).trans rfl)
        have k9 : (upd I1 18 (nI (eL L').length)) 9 = I 9 := (pk_un (by decide)).trans ((hS 9 (by decide)).trans rfl)
        have k18 : (upd I1 18 (nI (eL L').length)) 18 = nI (eL L').length := pk_us
        generalize upd I1 18 (nI (eL L').length) = I2 at *
        refine mw_aload_n (i := 0) dX7_set_71 rfl rfl ?_
        refine mw_iload_n (i := 1) dX7_set_72 rfl rfl ?_
        refine mw_callVv dX7_set_73 mk_X7_172 gm_0 rfl (c_isWritten h12 (X := eL L') (by rw [va_up_self]; exact holds_wr) k18 hXl) (by decide) (Nat.le_refl _) (Nat.le_refl _) rfl rfl (Nat.le_of_ble_eq_true rfl) ?_
        unfold putM
        by_cases hc : (eL L').length ≤ 120
        · rw [if_pos hc, if_neg (by omega)]
          exact mw_return dX7_set_76 rfl ⟨rfl, _, _, rfl, pk_us, rR_set hr h12 hT hokL hc ((pk_un (by decide)).trans k1) ((pk_un (by decide)).trans k9)⟩
        · rw [if_neg hc, if_pos (by omega)]
          exact mw_return dX7_set_76 rfl ⟨rfl, _, _, rfl, pk_us, rR_scr hr (fun j _ h8 => va_up_ne _ _ (by omega)) ((pk_un (by decide)).trans k1) ((pk_un (by decide)).trans k9)⟩
end P4
