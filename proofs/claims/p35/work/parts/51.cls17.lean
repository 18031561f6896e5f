/-! the class side: conflicts (class side) -/
section C18
variable {H : mw_H} {p : Nat} {K : Nat → Nat → Int32} {sa : Nat → Nat} {ns s o q : Nat} {Q : List Nat}
theorem nte_l (Q : List Nat) (j : Nat) : ∃ N, nte Q j = Q ++ N ∧ ∀ k ∈ N, k ∉ Q ∧ k = j := by
  unfold nte
  by_cases h : j ∈ Q
  · exact ⟨[], by rw [if_pos h, List.append_nil], fun k hk => absurd hk List.not_mem_nil⟩
  · exact ⟨[j], by rw [if_neg h], fun k hk => by rw [List.mem_singleton] at hk; rw [hk]; exact ⟨h, rfl⟩⟩
theorem nte_in (Q : List Nat) (j : Nat) : j ∈ nte Q j := by
  unfold nte
  by_cases h : j ∈ Q
  · rw [if_pos h]; exact h
  · rw [if_neg h]; exact List.mem_append_right _ (List.mem_singleton.mpr rfl)
/-- a pair is looked at: no difference, and all to which it leads are in Q -/
def prc (K : Nat → Nat → Int32) (Q : List Nat) (s o t : Nat) : Prop := dif K s o t = false ∧ (led K s o t = true → to2 K s o t ∈ Q)
theorem prc_mo {Q N : List Nat} {s o t : Nat} (h : prc K Q s o t) : prc K (Q ++ N) s o t := ⟨h.1, fun z => List.mem_append_left _ (h.2 z)⟩
def zD (H : mw_H) (p : Nat) (sa : Nat → Nat) (ns : Nat) (K : Nat → Nat → Int32) (Q : List Nat) (s o : Nat) : mw_P := fun v H' => yF (SP p) H H' ∧ ∃ N, isP H' p sa ns (Q ++ N) ∧ (∀ k ∈ N, k ∉ Q ∧ ∃ t', 1 ≤ t' ∧ t' ≤ 31 ∧ led K s o t' = true ∧ k = to2 K s o t') ∧ ((v = .inl (some (.int 1)) ∧ ∃ t', 1 ≤ t' ∧ t' ≤ 31 ∧ dif K s o t' = true) ∨ (v = .inl (some (.int 0)) ∧ ∀ t', 1 ≤ t' → t' ≤ 31 → prc K (Q ++ N) s o t'))
theorem lp_dw (hns : ns ≤ 6) (hw : wfK K ns) (hA : aS H K sa ns) (hs : s < ns) (ho : o < ns) (hsa : ∀ s, s < ns → p + 3 < sa s) : ∀ (r t : Nat) (N : List Nat) (H' : mw_H), t + r = 32 → 1 ≤ t → yF (SP p) H H' → isP H' p sa ns (Q ++ N) → (∀ k ∈ N, k ∉ Q ∧ ∃ t', 1 ≤ t' ∧ t' ≤ 31 ∧ led K s o t' = true ∧ k = to2 K s o t') → (∀ t', 1 ≤ t' → t' < t → prc K (Q ++ N) s o t') →
    mw_W mm_X4_differsSomewhere 3 0 0 2 [some (.ref p), some (.ref (sa s)), some (.ref (sa o)), some (.int (nI t))] [] H' (zD H p sa ns K Q s o) := by
  intro r
  induction r with
  | zero =>
    intro t N H' ht h1 hF hP hN hp
    have ht : t = 32 := ht
    subst ht
    refine mw_iload_n (i := 3) dX4_differsSomewhere_2 rfl rfl ?_
    refine mw_bipush (v := 31) dX4_differsSomewhere_3 (by decide) ?_
    refine mw_icmp_gt (tgt := 32) dX4_differsSomewhere_5 (by decide) (fun _ => ?_) (fun c9 => absurd c9 (by first | decide | (rw [pk_us]; decide)))
    refine mw_iconst (v := 0) dX4_differsSomewhere_32 (by decide) ?_
    exact mw_ireturn dX4_differsSomewhere_33 ⟨_, rfl, rfl⟩ ⟨hF, N, hP, hN, Or.inr ⟨rfl, fun t' z1 z2 => hp t' z1 (by omega)⟩⟩
  | succ r ih =>
    intro t N H' ht h1 hF hP hN hp
    have hA' := aS_P hA hF hsa
    have h_p1 := (hA' s hs).1
    refine mw_iload_n (i := 3) dX4_differsSomewhere_2 rfl rfl ?_
    refine mw_bipush (v := 31) dX4_differsSomewhere_3 (by decide) ?_
    refine mw_icmp_gt (tgt := 32) dX4_differsSomewhere_5 (by decide) (fun c9 => absurd c9 (show ¬ nI 31 < nI t from nI_nlt (by omega) (by decide))) (fun _ => ?_)
    refine mw_aload_n (i := 1) dX4_differsSomewhere_8 rfl rfl ?_
    refine mw_aload_n (i := 2) dX4_differsSomewhere_9 rfl rfl ?_
    refine mw_iload_n (i := 3) dX4_differsSomewhere_10 rfl rfl ?_
    refine mw_callVr dX4_differsSomewhere_11 mk_X4_31 h_p1 rfl (y_differsAt (hA' s hs) (hA' o ho) t) (by decide) (Nat.le_refl _) (Nat.le_refl _) rfl rfl (Nat.le_of_ble_eq_true rfl) ?_
    cases hd : dif K s o t with
    | true =>
      refine mw_if_eq (tgt := 19) dX4_differsSomewhere_14 (by decide) (fun c9 => absurd c9 (by first | decide | (rw [pk_us]; decide))) (fun _ => ?_)
      refine mw_iconst (v := 1) dX4_differsSomewhere_17 (by decide) ?_
      exact mw_ireturn dX4_differsSomewhere_18 ⟨_, rfl, rfl⟩ ⟨hF, N, hP, hN, Or.inl ⟨rfl, t, h1, by omega, hd⟩⟩
    | false =>
      have h_this := hP.1
      refine mw_if_eq (tgt := 19) dX4_differsSomewhere_14 (by decide) (fun _ => ?_) (fun c9 => absurd c9 (by first | decide | (rw [pk_us]; decide)))
      refine mw_aload_n (i := 0) dX4_differsSomewhere_19 rfl rfl ?_
      refine mw_aload_n (i := 1) dX4_differsSomewhere_20 rfl rfl ?_
      refine mw_aload_n (i := 2) dX4_differsSomewhere_21 rfl rfl ?_
      refine mw_iload_n (i := 3) dX4_differsSomewhere_22 rfl rfl ?_
      refine mw_callV dX4_differsSomewhere_23 mk_X4_43 h_this rfl (y_notePartsAt hns hw hA' hP hs ho hsa h1 (show t ≤ 31 by omega)) (by decide) (Nat.le_refl _) (Nat.le_refl _) rfl rfl (Nat.le_of_ble_eq_true rfl) (fun E9 h9 q9 => ?_) (fun v9 h9 q9 => ?_)
      · cases q9.1
      obtain ⟨e9, u1, u2⟩ := q9
      cases e9
      refine mw_iinc_3 dX4_differsSomewhere_26 (by decide) rfl ?_
      refine mw_goto (tgt := 2) dX4_differsSomewhere_29 (by decide) ?_
      rw [show nI t + Int32.ofInt 1 = nI (t + 1) from nI_1 t]
      by_cases hl : led K s o t = true
      · rw [if_pos hl] at u2
        obtain ⟨N2, n1, n2⟩ := nte_l (Q ++ N) (to2 K s o t)
        have n3 := nte_in (Q ++ N) (to2 K s o t)
        rw [n1] at u2 n3
        rw [List.append_assoc] at u2
        refine ih (t + 1) (N ++ N2) h9 (by omega) (by omega) (hF.tr u1) u2 (fun k hk => ?_) (fun t' z1 z2 => ?_)
        · rcases List.mem_append.mp hk with hk | hk
          · exact hN k hk
          · obtain ⟨m1, m2⟩ := n2 k hk
            exact ⟨fun z => m1 (List.mem_append_left _ z), t, h1, by omega, hl, m2⟩
        · rw [← List.append_assoc]
          by_cases e : t' = t
          · rw [e]
            exact ⟨hd, fun _ => n3⟩
          · exact prc_mo (hp t' z1 (by omega))
      · rw [if_neg hl] at u2
        refine ih (t + 1) N h9 (by omega) (by omega) (hF.tr u1) u2 hN (fun t' z1 z2 => ?_)
        by_cases e : t' = t
        · rw [e]
          exact ⟨hd, fun z => absurd z hl⟩
        · exact hp t' z1 (by omega)
theorem y_differsSomewhere (hns : ns ≤ 6) (hw : wfK K ns) (hA : aS H K sa ns) (hP : isP H p sa ns Q) (hs : s < ns) (ho : o < ns) (hsa : ∀ s, s < ns → p + 3 < sa s) : mw_Con mm_X4_differsSomewhere 3 0 0 [.ref p, .ref (sa s), .ref (sa o)] H (zD H p sa ns K Q s o) := by
  refine gm_con pl_X4 rfl rfl (Nat.le_of_ble_eq_true rfl) rfl ?_
  refine mw_iconst (v := 1) dX4_differsSomewhere_0 (by decide) ?_
  refine mw_istore_3 dX4_differsSomewhere_1 (by decide) ?_
  exact lp_dw hns hw hA hs ho hsa 31 1 [] H rfl (Nat.le_refl _) yF.rf (by rw [List.append_nil]; exact hP) (fun k hk => absurd hk List.not_mem_nil) (fun t' z1 z2 => absurd z2 (by omega))
/-- all of Q but q are looked at -/
def clo (K : Nat → Nat → Int32) (q : Nat) (Q : List Nat) : Prop := ∀ j ∈ Q, j ≠ q → ∀ t, 1 ≤ t → t ≤ 31 → prc K Q (j / 6) (j % 6) t
theorem clo_not (h : clo K q Q) {j : Nat} (hj : j ∈ Q) : ¬ Ds K q j := fun ⟨n, hn⟩ => Ds_not (C := fun j => j ∈ Q) h n j hj hn
def zL (H : mw_H) (p : Nat) (sa : Nat → Nat) (ns : Nat) (K : Nat → Nat → Int32) (q s o t : Nat) : mw_P := fun v H' => yF (SP p) H H' ∧ ∃ Q', isP H' p sa ns Q' ∧ q ∈ Q' ∧ ((v = .inl (some (.int 1)) ∧ led K s o t = true ∧ Ds K q (to2 K s o t)) ∨ (v = .inl (some (.int 0)) ∧ clo K q Q' ∧ (led K s o t = true → to2 K s o t ∈ Q')))
theorem lp_ld {t : Nat} (hns : ns ≤ 6) (hw : wfK K ns) (hA : aS H K sa ns) (hsa : ∀ s, s < ns → p + 3 < sa s) (hqQ : q ∈ Q) (x1 x2 x3 : Option Value) : ∀ (m i : Nat) (N : List Nat) (H' : mw_H) (x5 x6 : Option Value), i + m = 36 → Q.length ≤ i → i ≤ (Q ++ N).length → yF (SP p) H H' → isP H' p sa ns (Q ++ N) → (∀ k ∈ N, k ∉ Q ∧ (Ds K q k → led K s o t = true ∧ Ds K q (to2 K s o t))) → (∀ a, a < i → (Q ++ N).getD a 0 ≠ q → ∀ t, 1 ≤ t → t ≤ 31 → prc K (Q ++ N) ((Q ++ N).getD a 0 / 6) ((Q ++ N).getD a 0 % 6) t) → (led K s o t = true → to2 K s o t ∈ Q ++ N) →
    mw_W mm_X4_leadsToDifference 4 0 0 13 [some (.ref p), x1, x2, x3, some (.int (nI i)), x5, x6] [] H' (zL H p sa ns K q s o t) := by
  intro m
  induction m with
  | zero =>
    intro i N H' x5 x6 hi hQi hiN hF hP hN hpr hl
    have hP0 := hP
    obtain ⟨h_this, hq, g1, g2, f, h_this_olders, h_this_successors, h_this_isNoted, hg, hf, hz⟩ := hP
    have hi : i = 36 := hi
    refine mw_iload (i := 4) dX4_leadsToDifference_13 rfl ?_
    refine mw_if_lt (tgt := 81) dX4_leadsToDifference_15 (by decide) (fun c9 => absurd c9 (nI_pos (by omega))) (fun _ => ?_)
    refine mw_iload (i := 4) dX4_leadsToDifference_18 rfl ?_
    refine mw_aload_n (i := 0) dX4_leadsToDifference_20 rfl rfl ?_
    refine mw_get dX4_leadsToDifference_21 fk_X4_39 h_this rfl ?_
    refine mw_icmp_ge (tgt := 81) dX4_leadsToDifference_24 (by decide) (fun _ => ?_) (fun c9 => absurd c9 (fun z => z (nI_le (show (Q ++ N).length ≤ i by omega) (by omega))))
    refine mw_iconst (v := 0) dX4_leadsToDifference_81 (by decide) ?_
    refine mw_ireturn dX4_leadsToDifference_82 ⟨_, rfl, rfl⟩ ⟨hF, Q ++ N, hP0, List.mem_append_left _ hqQ, Or.inr ⟨rfl, fun j hj hjq => ?_, hl⟩⟩
    obtain ⟨a, ha, rfl⟩ := List.getElem_of_mem hj
    have e : (Q ++ N).getD a 0 = (Q ++ N)[a] := by rw [List.getD_eq_getElem?_getD, List.getElem?_eq_getElem ha]; rfl
    rw [← e] at hjq ⊢
    exact hpr a (by omega) hjq
  | succ m ih =>
    intro i N H' x5 x6 hi hQi hiN hF hP hN hpr hl
    have hP0 := hP
    obtain ⟨h_this, hq, g1, g2, f, h_this_olders, h_this_successors, h_this_isNoted, hg, hf, hz⟩ := hP
    by_cases hin : i = (Q ++ N).length
    · refine mw_iload (i := 4) dX4_leadsToDifference_13 rfl ?_
      refine mw_if_lt (tgt := 81) dX4_leadsToDifference_15 (by decide) (fun c9 => absurd c9 (nI_pos (by omega))) (fun _ => ?_)
      refine mw_iload (i := 4) dX4_leadsToDifference_18 rfl ?_
      refine mw_aload_n (i := 0) dX4_leadsToDifference_20 rfl rfl ?_
      refine mw_get dX4_leadsToDifference_21 fk_X4_39 h_this rfl ?_
      refine mw_icmp_ge (tgt := 81) dX4_leadsToDifference_24 (by decide) (fun _ => ?_) (fun c9 => absurd c9 (fun z => z (nI_le (show (Q ++ N).length ≤ i by omega) (by omega))))
      refine mw_iconst (v := 0) dX4_leadsToDifference_81 (by decide) ?_
      refine mw_ireturn dX4_leadsToDifference_82 ⟨_, rfl, rfl⟩ ⟨hF, Q ++ N, hP0, List.mem_append_left _ hqQ, Or.inr ⟨rfl, fun j hj hjq => ?_, hl⟩⟩
      obtain ⟨a, ha, rfl⟩ := List.getElem_of_mem hj
      have e : (Q ++ N).getD a 0 = (Q ++ N)[a] := by rw [List.getD_eq_getElem?_getD, List.getElem?_eq_getElem ha]; rfl
      rw [← e] at hjq ⊢
      exact hpr a (by omega) hjq
    · have hin : i < (Q ++ N).length := by omega
      obtain ⟨e1, e2⟩ := hg i hin
      have hA' := aS_P hA hF hsa
      have hjm : (Q ++ N).getD i 0 ∈ N := by
        rw [List.getD_eq_getElem?_getD, List.getElem?_append_right hQi, ← List.getD_eq_getElem?_getD]
        exact getD_mem (by rw [List.length_append] at hin; omega)
      obtain ⟨hj1, hj2⟩ := hq _ (getD_mem hin)
      obtain ⟨hjQ, hjD⟩ := hN _ hjm
      generalize hj : (Q ++ N).getD i 0 = j at *
      have hjq : j ≠ q := fun z => hjQ (by rw [z]; exact hqQ)
      have ii := mw_ix rfl (show i < 36 by omega) (by decide)
      refine mw_iload (i := 4) dX4_leadsToDifference_13 rfl ?_
      refine mw_if_lt (tgt := 81) dX4_leadsToDifference_15 (by decide) (fun c9 => absurd c9 (nI_pos (by omega))) (fun _ => ?_)
      refine mw_iload (i := 4) dX4_leadsToDifference_18 rfl ?_
      refine mw_aload_n (i := 0) dX4_leadsToDifference_20 rfl rfl ?_
      refine mw_get dX4_leadsToDifference_21 fk_X4_39 h_this rfl ?_
      refine mw_icmp_ge (tgt := 81) dX4_leadsToDifference_24 (by decide) (fun c9 => absurd c9 (nI_ge hin (by omega))) (fun _ => ?_)
      refine mw_iload (i := 4) dX4_leadsToDifference_27 rfl ?_
      refine mw_bipush (v := 36) dX4_leadsToDifference_29 (by decide) ?_
      refine mw_icmp_ge (tgt := 81) dX4_leadsToDifference_31 (by decide) (fun c9 => absurd c9 (show ¬ nI 36 ≤ nI i from nI_ge (by omega) (by decide))) (fun _ => ?_)
      refine mw_aload_n (i := 0) dX4_leadsToDifference_34 rfl rfl ?_
      refine mw_get dX4_leadsToDifference_35 fk_X4_11 h_this rfl ?_
      refine mw_iload (i := 4) dX4_leadsToDifference_38 rfl ?_
      refine mw_aald ty_S dX4_leadsToDifference_40 h_this_olders ii ?_
      rw [e1]
      refine mw_astore_5 dX4_leadsToDifference_41 (by decide) ?_
      refine mw_aload_n (i := 0) dX4_leadsToDifference_43 rfl rfl ?_
      refine mw_get dX4_leadsToDifference_44 fk_X4_17 h_this rfl ?_
      refine mw_iload (i := 4) dX4_leadsToDifference_47 rfl ?_
      refine mw_aald ty_S dX4_leadsToDifference_49 h_this_successors ii ?_
      rw [e2]
      refine mw_astore_6 dX4_leadsToDifference_50 (by decide) ?_
      refine mw_aload (i := 5) dX4_leadsToDifference_52 rfl ?_
      refine mw_ifnull dX4_leadsToDifference_54 ?_
      refine mw_aload (i := 6) dX4_leadsToDifference_57 rfl ?_
      refine mw_ifnull dX4_leadsToDifference_59 ?_
      refine mw_aload_n (i := 0) dX4_leadsToDifference_62 rfl rfl ?_
      refine mw_aload (i := 5) dX4_leadsToDifference_63 rfl ?_
      refine mw_aload (i := 6) dX4_leadsToDifference_65 rfl ?_
      refine mw_callV dX4_leadsToDifference_67 mk_X4_47 h_this rfl (y_differsSomewhere hns hw hA' hP0 hj1 hj2 hsa) (by decide) (Nat.le_refl _) (Nat.le_refl _) rfl rfl (Nat.le_of_ble_eq_true rfl) (fun E9 h9 q9 => ?_) (fun v9 h9 q9 => ?_)
      · obtain ⟨-, N2, -, -, z | z⟩ := q9
        · cases z.1
        · cases z.1
      obtain ⟨u1, N2, u2, u3, u4⟩ := q9
      rcases u4 with ⟨e9, t', t1, t2, hd⟩ | ⟨e9, hpc⟩
      · cases e9
        refine mw_if_eq (tgt := 75) dX4_leadsToDifference_70 (by decide) (fun c9 => absurd c9 (by first | decide | (rw [pk_us]; decide))) (fun _ => ?_)
        refine mw_iconst (v := 1) dX4_leadsToDifference_73 (by decide) ?_
        have hDs : Ds K q j := by
          have h6 := Ds_here (A := K) (q := q) (s := j / 6) (o := j % 6) (by omega) t1 t2 (by rw [Nat.div_add_mod]; exact hjq) hd
          rw [Nat.div_add_mod] at h6
          exact h6
        obtain ⟨d1, d2⟩ := hjD hDs
        exact mw_ireturn dX4_leadsToDifference_74 ⟨_, rfl, rfl⟩ ⟨hF.tr u1, _, u2, List.mem_append_left _ (List.mem_append_left _ hqQ), Or.inl ⟨rfl, d1, d2⟩⟩
      · cases e9
        refine mw_if_eq (tgt := 75) dX4_leadsToDifference_70 (by decide) (fun _ => ?_) (fun c9 => absurd c9 (by first | decide | (rw [pk_us]; decide)))
        refine mw_iinc_4 dX4_leadsToDifference_75 (by decide) rfl ?_
        refine mw_goto (tgt := 13) dX4_leadsToDifference_78 (by decide) ?_
        rw [show nI i + Int32.ofInt 1 = nI (i + 1) from nI_1 i]
        rw [List.append_assoc] at u2
        refine ih (i + 1) (N ++ N2) h9 _ _ (by omega) (by omega) (by rw [← List.append_assoc, List.length_append]; omega) (hF.tr u1) u2 (fun k hk => ?_) (fun a ha haq => ?_) (fun z => by rw [← List.append_assoc]; exact List.mem_append_left _ (hl z))
        · rcases List.mem_append.mp hk with hk | hk
          · exact hN k hk
          · obtain ⟨m1, t', t1, t2, m2, m3⟩ := u3 k hk
            refine ⟨fun z => m1 (List.mem_append_left _ z), fun z => hjD ?_⟩
            have h6 := Ds_next (A := K) (q := q) (s := j / 6) (o := j % 6) (by omega) t1 t2 (by rw [Nat.div_add_mod]; exact hjq) m2 (by rw [← m3]; exact z)
            rw [Nat.div_add_mod] at h6
            exact h6
        · rw [← List.append_assoc] at haq ⊢
          have e5 : (Q ++ N ++ N2).getD a 0 = (Q ++ N).getD a 0 := by
            rw [List.getD_eq_getElem?_getD, List.getD_eq_getElem?_getD, List.getElem?_append_left (by omega)]
          rw [e5] at haq ⊢
          intro t0 z1 z2
          by_cases e : a = i
          · rw [e, hj]
            exact hpc t0 z1 z2
          · exact prc_mo (hpr a (by omega) haq t0 z1 z2)
theorem y_leadsToDifference {t : Nat} (hns : ns ≤ 6) (hw : wfK K ns) (hA : aS H K sa ns) (hP : isP H p sa ns Q) (hs : s < ns) (ho : o < ns) (hsa : ∀ s, s < ns → p + 3 < sa s) (t1 : 1 ≤ t) (t2 : t ≤ 31) (hqQ : q ∈ Q) (hc : clo K q Q) : mw_Con mm_X4_leadsToDifference 4 0 0 [.ref p, .ref (sa s), .ref (sa o), .int (nI t)] H (zL H p sa ns K q s o t) := by
  have hP0 := hP
  obtain ⟨h_this, hq, g1, g2, f, h_this_olders, h_this_successors, h_this_isNoted, hg, hf, hz⟩ := hP
  refine gm_con pl_X4 rfl rfl (Nat.le_of_ble_eq_true rfl) rfl ?_
  refine mw_aload_n (i := 0) dX4_leadsToDifference_0 rfl rfl ?_
  refine mw_get dX4_leadsToDifference_1 fk_X4_39 h_this rfl ?_
  refine mw_istore_4 dX4_leadsToDifference_4 (by decide) ?_
  refine mw_aload_n (i := 0) dX4_leadsToDifference_6 rfl rfl ?_
  refine mw_aload_n (i := 1) dX4_leadsToDifference_7 rfl rfl ?_
  refine mw_aload_n (i := 2) dX4_leadsToDifference_8 rfl rfl ?_
  refine mw_iload_n (i := 3) dX4_leadsToDifference_9 rfl rfl ?_
  refine mw_callV dX4_leadsToDifference_10 mk_X4_43 h_this rfl (y_notePartsAt hns hw hA hP0 hs ho hsa t1 t2) (by decide) (Nat.le_refl _) (Nat.le_refl _) rfl rfl (Nat.le_of_ble_eq_true rfl) (fun E9 h9 q9 => ?_) (fun v9 h9 q9 => ?_)
  · cases q9.1
  obtain ⟨e9, u1, u2⟩ := q9
  cases e9
  obtain ⟨N, n1, n2, n3⟩ : ∃ N, (if led K s o t = true then nte Q (to2 K s o t) else Q) = Q ++ N ∧ (∀ k ∈ N, k ∉ Q ∧ (Ds K q k → led K s o t = true ∧ Ds K q (to2 K s o t))) ∧ (led K s o t = true → to2 K s o t ∈ Q ++ N) := by
    by_cases hl : led K s o t = true
    · rw [if_pos hl]
      obtain ⟨N, m1, m2⟩ := nte_l Q (to2 K s o t)
      refine ⟨N, m1, fun k hk => ⟨(m2 k hk).1, fun z => ⟨hl, by rw [← (m2 k hk).2]; exact z⟩⟩, fun _ => ?_⟩
      rw [← m1]
      exact nte_in _ _
    · rw [if_neg hl]
      exact ⟨[], (List.append_nil _).symm, fun k hk => absurd hk List.not_mem_nil, fun z => absurd z hl⟩
  rw [n1] at u2
  refine mw_post (fun v h' z => ?_) (lp_ld (H := h9) (Q := Q) hns hw (aS_P hA u1 hsa) hsa hqQ _ _ _ (36 - Q.length) Q.length N h9 none none (by omega) (Nat.le_refl _) (by rw [List.length_append]; omega) yF.rf u2 n2 (fun a ha haq t0 z1 z2 => ?_) n3)
  · exact ⟨u1.tr z.1, z.2⟩
  · have e5 : (Q ++ N).getD a 0 = Q.getD a 0 := by
      rw [List.getD_eq_getElem?_getD, List.getD_eq_getElem?_getD, List.getElem?_append_left ha]
    rw [e5] at haq ⊢
    exact prc_mo (hc _ (getD_mem ha) haq t0 z1 z2)
def zR (H : mw_H) (p : Nat) (K : Nat → Nat → Int32) (s o : Nat) : mw_P := fun v H' => yF (SP p) H H' ∧ isP0 H' p ∧ ∃ r, v = .inl (some (.int r)) ∧ isConf K s o r
theorem lp_lr (hns : ns ≤ 6) (hw : wfK K ns) (hA : aS H K sa ns) (hs : s < ns) (ho : o < ns) (hq : q = 6 * s + o) (hsa : ∀ s, s < ns → p + 3 < sa s) : ∀ (r t : Nat) (Q : List Nat) (H' : mw_H), t + r = 32 → 1 ≤ t → yF (SP p) H H' → isP H' p sa ns Q → q ∈ Q → clo K q Q → (∀ t', 1 ≤ t' → t' < t → ¬ rsnD K s o t') →
    mw_W mm_X4_leastReason 5 0 0 12 [some (.ref p), some (.ref (sa s)), some (.ref (sa o)), some (.int (nI t))] [] H' (zR H p K s o) := by
  intro r
  induction r with
  | zero =>
    intro t Q H' ht h1 hF hP hqQ hc hno
    have ht : t = 32 := ht
    subst ht
    refine mw_iload_n (i := 3) dX4_leastReason_12 rfl rfl ?_
    refine mw_bipush (v := 31) dX4_leastReason_13 (by decide) ?_
    refine mw_icmp_gt (tgt := 45) dX4_leastReason_15 (by decide) (fun _ => ?_) (fun c9 => absurd c9 (by first | decide | (rw [pk_us]; decide)))
    refine mw_iconst (v := -1) dX4_leastReason_45 (by decide) ?_
    exact mw_ireturn dX4_leastReason_46 ⟨_, rfl, rfl⟩ ⟨hF, hP.r, -1, rfl, Or.inl ⟨rfl, fun t' z1 z2 => hno t' z1 (by omega)⟩⟩
  | succ r ih =>
    intro t Q H' ht h1 hF hP hqQ hc hno
    have hA' := aS_P hA hF hsa
    have h_p1 := (hA' s hs).1
    have h_this := hP.1
    refine mw_iload_n (i := 3) dX4_leastReason_12 rfl rfl ?_
    refine mw_bipush (v := 31) dX4_leastReason_13 (by decide) ?_
    refine mw_icmp_gt (tgt := 45) dX4_leastReason_15 (by decide) (fun c9 => absurd c9 (show ¬ nI 31 < nI t from nI_nlt (by omega) (by decide))) (fun _ => ?_)
    refine mw_aload_n (i := 1) dX4_leastReason_18 rfl rfl ?_
    refine mw_aload_n (i := 2) dX4_leastReason_19 rfl rfl ?_
    refine mw_iload_n (i := 3) dX4_leastReason_20 rfl rfl ?_
    refine mw_callVr dX4_leastReason_21 mk_X4_31 h_p1 rfl (y_differsAt (hA' s hs) (hA' o ho) t) (by decide) (Nat.le_refl _) (Nat.le_refl _) rfl rfl (Nat.le_of_ble_eq_true rfl) ?_
    cases hd : dif K s o t with
    | true =>
      refine mw_if_ne (tgt := 37) dX4_leastReason_24 (by decide) (fun _ => ?_) (fun c9 => absurd c9 (by first | decide | (rw [pk_us]; decide)))
      refine mw_iload_n (i := 3) dX4_leastReason_37 rfl rfl ?_
      exact mw_ireturn dX4_leastReason_38 ⟨_, rfl, rfl⟩ ⟨hF, hP.r, nI t, rfl, Or.inr ⟨t, h1, by omega, rfl, Or.inl hd, hno⟩⟩
    | false =>
      refine mw_if_ne (tgt := 37) dX4_leastReason_24 (by decide) (fun c9 => absurd c9 (by first | decide | (rw [pk_us]; decide))) (fun _ => ?_)
      refine mw_aload_n (i := 0) dX4_leastReason_27 rfl rfl ?_
      refine mw_aload_n (i := 1) dX4_leastReason_28 rfl rfl ?_
      refine mw_aload_n (i := 2) dX4_leastReason_29 rfl rfl ?_
      refine mw_iload_n (i := 3) dX4_leastReason_30 rfl rfl ?_
      refine mw_callV dX4_leastReason_31 mk_X4_35 h_this rfl (y_leadsToDifference hns hw hA' hP hs ho hsa h1 (show t ≤ 31 by omega) hqQ hc) (by decide) (Nat.le_refl _) (Nat.le_refl _) rfl rfl (Nat.le_of_ble_eq_true rfl) (fun E9 h9 q9 => ?_) (fun v9 h9 q9 => ?_)
      · obtain ⟨-, Q', -, -, z | z⟩ := q9
        · cases z.1
        · cases z.1
      obtain ⟨u1, Q', u2, u3, u4⟩ := q9
      rcases u4 with ⟨e9, hl, hD⟩ | ⟨e9, hc', hl⟩
      · cases e9
        refine mw_if_eq (tgt := 39) dX4_leastReason_34 (by decide) (fun c9 => absurd c9 (by first | decide | (rw [pk_us]; decide))) (fun _ => ?_)
        refine mw_iload_n (i := 3) dX4_leastReason_37 rfl rfl ?_
        exact mw_ireturn dX4_leastReason_38 ⟨_, rfl, rfl⟩ ⟨hF.tr u1, u2.r, nI t, rfl, Or.inr ⟨t, h1, by omega, rfl, Or.inr ⟨hl, by rw [← hq]; exact hD⟩, hno⟩⟩
      · cases e9
        refine mw_if_eq (tgt := 39) dX4_leastReason_34 (by decide) (fun _ => ?_) (fun c9 => absurd c9 (by first | decide | (rw [pk_us]; decide)))
        refine mw_iinc_3 dX4_leastReason_39 (by decide) rfl ?_
        refine mw_goto (tgt := 12) dX4_leastReason_42 (by decide) ?_
        rw [show nI t + Int32.ofInt 1 = nI (t + 1) from nI_1 t]
        refine ih (t + 1) Q' h9 (by omega) (by omega) (hF.tr u1) u2 u3 hc' (fun t' z1 z2 z3 => ?_)
        by_cases e : t' = t
        · subst e
          rcases z3 with z3 | ⟨z3, z4⟩
          · rw [hd] at z3; exact absurd z3 (by decide)
          · rw [← hq] at z4
            exact clo_not hc' (hl z3) z4
        · exact hno t' z1 (by omega) z3
theorem y_leastReason (hns : ns ≤ 6) (hw : wfK K ns) (hA : aS H K sa ns) (hP : isP0 H p) (hs : s < ns) (ho : o < ns) (hsa : ∀ s, s < ns → p + 3 < sa s) : mw_Con mm_X4_leastReason 5 0 0 [.ref p, .ref (sa s), .ref (sa o)] H (zR H p K s o) := by
  have hP0 := hP
  obtain ⟨n, g1, g2, f, h_this, -⟩ := hP
  refine gm_con pl_X4 rfl rfl (Nat.le_of_ble_eq_true rfl) rfl ?_
  refine mw_aload_n (i := 0) dX4_leastReason_0 rfl rfl ?_
  refine mw_callV dX4_leastReason_1 mk_X4_24 h_this rfl (y_forgetPairs (sa := sa) (ns := ns) hP0) (by decide) (Nat.le_refl _) (Nat.le_refl _) rfl rfl (Nat.le_of_ble_eq_true rfl) (fun E9 h9 q9 => ?_) (fun v9 h9 q9 => ?_)
  · cases q9.1
  obtain ⟨e9, u1, u2⟩ := q9
  cases e9
  have h_this := u2.1
  refine mw_aload_n (i := 0) dX4_leastReason_4 rfl rfl ?_
  refine mw_aload_n (i := 1) dX4_leastReason_5 rfl rfl ?_
  refine mw_aload_n (i := 2) dX4_leastReason_6 rfl rfl ?_
  refine mw_callV dX4_leastReason_7 mk_X4_27 h_this rfl (y_notePair hns (aS_P hA u1 hsa) u2 hs ho hsa) (by decide) (Nat.le_refl _) (Nat.le_refl _) rfl rfl (Nat.le_of_ble_eq_true rfl) (fun E9 h9 q9 => ?_) (fun v9 h9 q9 => ?_)
  · cases q9.1
  obtain ⟨e9, v1, v2⟩ := q9
  cases e9
  have e1 : nte [] (6 * s + o) = [6 * s + o] := if_neg List.not_mem_nil
  rw [e1] at v2
  rename_i h8 _
  refine mw_iconst (v := 1) dX4_leastReason_10 (by decide) ?_
  refine mw_istore_3 dX4_leastReason_11 (by decide) ?_
  refine mw_post (fun v h' z => ?_) (lp_lr (H := h9) (q := 6 * s + o) hns hw (aS_P hA (u1.tr v1) hsa) hs ho rfl hsa 31 1 [6 * s + o] h9 rfl (Nat.le_refl _) yF.rf v2 (List.mem_singleton.mpr rfl) (fun j hj hjq => absurd (List.mem_singleton.mp hj) hjq) (fun t' z1 z2 => absurd z2 (by omega)))
  exact ⟨(u1.tr v1).tr z.1, z.2⟩
end C18
