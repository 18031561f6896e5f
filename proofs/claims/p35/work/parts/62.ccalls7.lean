/-! the class's calls: byteOf, open (class side) -/
section A7
variable {y y' : mw_M} {d kc ks pc : Nat} {ls : List (Option Value)} {st rest : List Value} {h : mw_H} {Po : mw_P}
end A7
theorem lastK_Pt {K : Nat → Nat → Int32} {s : Nat} {t : Int32} {L : List af} {x : af} (h : lastK K s t L = some x) : Pt K s t x = true := by
  unfold lastK at h
  exact (List.mem_filter.mp (List.mem_of_getLast? h)).2
theorem Pt_y2 {K : Nat → Nat → Int32} {s : Nat} {t : Int32} {x : af} (hx : okf x) (hP : Pt K s t x = true) (hh : ¬ zHas (zKind K s t) = 0) : x.2.1 = 2 := by
  unfold Pt at hP
  rw [Bool.and_eq_true, decide_eq_true_eq] at hP
  obtain ⟨h1, h2⟩ := hP
  unfold knb at h2
  have h2 := of_decide_eq_true h2
  rw [h1] at h2
  unfold zKn at h2
  have h3 : zType (zKind K s t) = 2 := by
    unfold zHas at hh
    by_cases e : zKind K s t = 3
    · rw [e]; rfl
    · rw [if_neg e] at hh
      by_cases e2 : zKind K s t = 4
      · rw [e2]; rfl
      · rw [if_neg e2] at hh; exact absurd rfl hh
  rw [if_neg (zHas_ne hh), h3] at h2
  by_cases e : (2 : Int32) = nI x.2.1
  · rw [show (2 : Int32) = nI 2 from rfl, nI_eq (by decide) (by have := hx.2.2.1; omega)] at e
    exact e.symm
  · rw [if_neg e] at h2; exact absurd rfl h2
section CG
variable {g : mS} {H H0 : mw_H} {sa ma : Nat → Nat}
section CG1
variable {K : Nat → Nat → Int32} {s sc ck cy cd cp ns src : Nat} {X : List Nat} {L : List af} {E : Nat → Nat} {pb pa : Int32}
theorem y_lkT0 (hK : okK K ns) (hs : s < ns) (hS : isS H K sa s sc ck cy cd cp) (hI : isF H 10 src X L E pb pa) {t : Int32} (e : lastK K s t L = none) : mw_Con mm_X6_lastKnownOrThrow 6 1 6 [.ref 10, .ref sc, .int t] H (zX H eNS 11) := by
  have hI0 := hI
  obtain ⟨-, nx, lm, f1, f2, f3, f4, h_p0, -, -⟩ := hI
  refine gm_con pl_X6 rfl rfl (Nat.le_of_ble_eq_true rfl) rfl ?_
  refine mw_aload_n (i := 0) dX6_lastKnownOrThrow_0 rfl rfl ?_
  refine mw_aload_n (i := 1) dX6_lastKnownOrThrow_1 rfl rfl ?_
  refine mw_iload_n (i := 2) dX6_lastKnownOrThrow_2 rfl rfl ?_
  refine mw_callV dX6_lastKnownOrThrow_3 mk_X6_171 h_p0 rfl (y_flastKnown hK hs hS hI0 t) (by decide) (Nat.le_refl _) (Nat.le_refl _) rfl rfl (Nat.le_of_ble_eq_true rfl) (fun E9 h9 q9 => ?_) (fun v9 h9 q9 => ?_)
  · obtain ⟨-, z | ⟨j, -, z⟩⟩ := q9
    · cases z.1
    · cases z.1
  obtain ⟨rfl, z | ⟨j, hj, z⟩⟩ := q9
  · obtain ⟨z1, z2⟩ := z
    cases z1
    refine mw_istore_3 dX6_lastKnownOrThrow_6 (by decide) ?_
    refine mw_iload_n (i := 3) dX6_lastKnownOrThrow_7 rfl rfl ?_
    refine mw_iconst (v := -1) dX6_lastKnownOrThrow_8 (by decide) ?_
    refine mw_icmp_ne (tgt := 23) dX6_lastKnownOrThrow_9 (by decide) (fun c9 => absurd c9 (fun z => z rfl)) (fun _ => ?_)
    refine mw_throwNW th_X6_231_308 dX6_lastKnownOrThrow_12 dX6_lastKnownOrThrow_15 dX6_lastKnownOrThrow_16 dX6_lastKnownOrThrow_19 dX6_lastKnownOrThrow_22 rfl (by decide) (by decide) (by decide) (Nat.le_of_ble_eq_true rfl) ⟨rfl, rfl⟩
  · rw [e] at z
    cases z.2
theorem y_lkT1 (hK : okK K ns) (hs : s < ns) (hS : isS H K sa s sc ck cy cd cp) (hI : isF H 10 src X L E pb pa) {t : Int32} {x : af} (e : lastK K s t L = some x) : mw_Con mm_X6_lastKnownOrThrow 6 0 0 [.ref 10, .ref sc, .int t] H (fun v H' => H' = H ∧ ∃ j, j < L.length ∧ v = .inl (some (.int (nI j))) ∧ x = ga L j) := by
  have hI0 := hI
  obtain ⟨h60, nx, lm, f1, f2, f3, f4, h_p0, -, -⟩ := hI
  refine gm_con pl_X6 rfl rfl (Nat.le_of_ble_eq_true rfl) rfl ?_
  refine mw_aload_n (i := 0) dX6_lastKnownOrThrow_0 rfl rfl ?_
  refine mw_aload_n (i := 1) dX6_lastKnownOrThrow_1 rfl rfl ?_
  refine mw_iload_n (i := 2) dX6_lastKnownOrThrow_2 rfl rfl ?_
  refine mw_callV dX6_lastKnownOrThrow_3 mk_X6_171 h_p0 rfl (y_flastKnown hK hs hS hI0 t) (by decide) (Nat.le_refl _) (Nat.le_refl _) rfl rfl (Nat.le_of_ble_eq_true rfl) (fun E9 h9 q9 => ?_) (fun v9 h9 q9 => ?_)
  · obtain ⟨-, z | ⟨j, -, z⟩⟩ := q9
    · cases z.1
    · cases z.1
  obtain ⟨rfl, z | ⟨j, hj, z⟩⟩ := q9
  · rw [e] at z
    cases z.2
  · obtain ⟨z1, z2⟩ := z
    cases z1
    rw [e] at z2
    refine mw_istore_3 dX6_lastKnownOrThrow_6 (by decide) ?_
    refine mw_iload_n (i := 3) dX6_lastKnownOrThrow_7 rfl rfl ?_
    refine mw_iconst (v := -1) dX6_lastKnownOrThrow_8 (by decide) ?_
    refine mw_icmp_ne (tgt := 23) dX6_lastKnownOrThrow_9 (by decide) (fun _ => ?_) (fun c9 => absurd c9 (fun y => nI_pos (show j < 2 ^ 31 by omega) (by rw [y]; decide)))
    refine mw_iload_n (i := 3) dX6_lastKnownOrThrow_23 rfl rfl ?_
    exact mw_ireturn dX6_lastKnownOrThrow_24 ⟨_, rfl, rfl⟩ ⟨rfl, j, hj, rfl, Option.some.inj z2⟩
end CG1
theorem k_byteOf (hC : cC g H sa ma) (m t p : Int32) : mw_Con mm_X6_byteOf 7 1 6 [.ref 1, .int m, .int t, .int p] H (cP H [eIO, eIA, eNS] (sp_byteOf g m t p)) := by
  refine gm_con pl_X6 rfl rfl (Nat.le_of_ble_eq_true rfl) rfl ?_
  unfold sp_byteOf
  refine mw_wf (fun hw => ?_)
  have h_this := cC_x hC
  cases hs : sM g m with
  | none =>
    refine mw_aload_n (i := 0) dX6_byteOf_0 rfl rfl ?_
    refine mw_iload_n (i := 1) dX6_byteOf_1 rfl rfl ?_
    refine mw_callV dX6_byteOf_2 mk_X6_119 h_this rfl (y_mA0 hC hs) (by decide) (Nat.le_refl _) (Nat.le_refl _) rfl rfl (Nat.le_of_ble_eq_true rfl) (fun E9 h9 q9 => ?_) (fun v9 h9 q9 => ?_)
    · obtain ⟨e9, rfl⟩ := q9
      cases e9
      exact mw_out rfl (cP_x hC hw yG.rf 0 (by decide) rfl)
    · cases q9.1
  | some q =>
    obtain ⟨m', s, L⟩ := q
    obtain ⟨hm, rfl, hT⟩ := sM_in hs
    obtain ⟨hsn, o2, o3⟩ := cC_ok hC hm hT
    have h_r2 := (cC_me hC hm hT).1
    dsimp only
    by_cases hi : zHas (zKind g.2.1 s t) = 0
    · rw [if_pos hi]
      refine mw_aload_n (i := 0) dX6_byteOf_0 rfl rfl ?_
      refine mw_iload_n (i := 1) dX6_byteOf_1 rfl rfl ?_
      refine mw_callVr dX6_byteOf_2 mk_X6_119 h_this rfl (y_mA1 hC hs) (by decide) (Nat.le_refl _) (Nat.le_refl _) rfl rfl (Nat.le_of_ble_eq_true rfl) ?_
      refine mw_astore_4 dX6_byteOf_5 (by decide) ?_
      refine mw_aload (i := 4) dX6_byteOf_7 rfl ?_
      refine mw_get dX6_byteOf_9 fk_X6_141 h_r2 rfl ?_
      refine mw_iload_n (i := 2) dX6_byteOf_12 rfl rfl ?_
      refine mw_callS dX6_byteOf_13 mk_X6_168 (y_cB0 (cC_sc hC hsn) hi) (by decide) (Nat.le_refl _) (Nat.le_refl _) rfl rfl (Nat.le_of_ble_eq_true rfl) (fun E9 h9 q9 => ?_) (fun v9 h9 q9 => ?_)
      · obtain ⟨e9, rfl⟩ := q9
        cases e9
        exact mw_out rfl (cP_x hC hw yG.rf 1 (by decide) rfl)
      · cases q9.1
    · rw [if_neg hi]
      refine mw_aload_n (i := 0) dX6_byteOf_0 rfl rfl ?_
      refine mw_iload_n (i := 1) dX6_byteOf_1 rfl rfl ?_
      refine mw_callVr dX6_byteOf_2 mk_X6_119 h_this rfl (y_mA1 hC hs) (by decide) (Nat.le_refl _) (Nat.le_refl _) rfl rfl (Nat.le_of_ble_eq_true rfl) ?_
      refine mw_astore_4 dX6_byteOf_5 (by decide) ?_
      refine mw_aload (i := 4) dX6_byteOf_7 rfl ?_
      refine mw_get dX6_byteOf_9 fk_X6_141 h_r2 rfl ?_
      refine mw_iload_n (i := 2) dX6_byteOf_12 rfl rfl ?_
      refine mw_callSv dX6_byteOf_13 mk_X6_168 (y_cB1 (cC_sc hC hsn) hi) (by decide) (Nat.le_refl _) (Nat.le_refl _) rfl rfl (Nat.le_of_ble_eq_true rfl) ?_
      refine mw_aload_n (i := 0) dX6_byteOf_16 rfl rfl ?_
      refine mw_aload (i := 4) dX6_byteOf_17 rfl ?_
      refine mw_callV dX6_byteOf_19 mk_X6_130 h_this rfl (y_fieldsOf hC hm hT) (by decide) (Nat.le_refl _) (Nat.le_refl _) rfl rfl (Nat.le_of_ble_eq_true rfl) (fun E9 h9 q9 => ?_) (fun v9 h9 q9 => ?_)
      · cases q9.1
      obtain ⟨e9, q1, E, hI⟩ := q9
      cases e9
      have hC9 := cC_scan hC q1 hI.r
      have h_r2 := (cC_me hC9 hm hT).1
      have hG9 : yG H h9 := q1.M.G (by decide)
      have hI0 := hI
      refine mw_wf (fun hw9 => ?_)
      obtain ⟨h60, nx, lm, f1, f2, f3, f4, h_r19, -, -⟩ := hI
      cases hl : lastK g.2.1 s t L with
      | none =>
        refine mw_astore_5 dX6_byteOf_22 (by decide) ?_
        refine mw_aload (i := 5) dX6_byteOf_24 rfl ?_
        refine mw_aload (i := 4) dX6_byteOf_26 rfl ?_
        refine mw_get dX6_byteOf_28 fk_X6_141 h_r2 rfl ?_
        refine mw_iload_n (i := 2) dX6_byteOf_31 rfl rfl ?_
        refine mw_callS dX6_byteOf_32 mk_X6_227 (y_lkT0 (cC_K hC9) hsn (cC_sc hC9 hsn) hI0 hl) (by decide) (Nat.le_refl _) (Nat.le_refl _) rfl rfl (Nat.le_of_ble_eq_true rfl) (fun E9 h9 q9 => ?_) (fun v9 h9 q9 => ?_)
        · obtain ⟨e9, rfl⟩ := q9
          cases e9
          exact mw_out rfl (cP_x hC9 hw9 hG9 2 (by decide) rfl)
        · cases q9.1
      | some x =>
        dsimp only
        refine mw_astore_5 dX6_byteOf_22 (by decide) ?_
        refine mw_aload (i := 5) dX6_byteOf_24 rfl ?_
        refine mw_aload (i := 4) dX6_byteOf_26 rfl ?_
        refine mw_get dX6_byteOf_28 fk_X6_141 h_r2 rfl ?_
        refine mw_iload_n (i := 2) dX6_byteOf_31 rfl rfl ?_
        refine mw_callS dX6_byteOf_32 mk_X6_227 (y_lkT1 (cC_K hC9) hsn (cC_sc hC9 hsn) hI0 hl) (by decide) (Nat.le_refl _) (Nat.le_refl _) rfl rfl (Nat.le_of_ble_eq_true rfl) (fun E9 h9 q9 => ?_) (fun v9 h9 q9 => ?_)
        · obtain ⟨-, j, -, z, -⟩ := q9
          cases z
        obtain ⟨rfl, j, hj, z, rfl⟩ := q9
        cases z
        obtain ⟨⟨-, -, -, -, o5, o6, -⟩, w1, w2, w3⟩ := isF_ok hI0 hj
        obtain ⟨-, hBr⟩ := cC_me hC9 hm hT
        have hBl := hBr.2.1
        have h_r2_row := hBr.1
        have hnx : ∀ q : Int32, zIn q 0 (nI (ga L j).2.2.1 - 1) = 0 ↔ zIn q 0 (nI (ga L j).2.2.2.length - 1) = 0 := by
          intro q
          rw [o5 (Pt_y2 (isF_ok hI0 hj).1 (lastK_Pt hl) hi)]
        rcases pk_ix p (n := (ga L j).2.2.2.length) (by omega) with z | z | ⟨i, hi2, rfl⟩
        · rw [if_pos (by unfold zIn; rw [if_pos z])]
          refine mw_istore_6 dX6_byteOf_35 (by decide) ?_
          refine mw_iload_n (i := 3) dX6_byteOf_37 rfl rfl ?_
          refine mw_if_lt (tgt := 52) dX6_byteOf_38 (by decide) (fun _ => ?_) (fun c9 => absurd c9 (fun y => y z))
          refine mw_throwN th_X6_231_233 dX6_byteOf_52 dX6_byteOf_55 dX6_byteOf_56 dX6_byteOf_58 dX6_byteOf_61 rfl (by decide) (by decide) (by decide) (Nat.le_of_ble_eq_true rfl) (cP_x hC9 hw9 hG9 2 (by decide) rfl)
        · have hz : zIn p 0 (nI (ga L j).2.2.2.length - 1) = 0 := by
            unfold zIn
            rw [if_neg (ge_nneg (by omega) z)]
            refine if_pos ?_
            rcases Nat.eq_zero_or_pos (ga L j).2.2.2.length with e | e
            · rw [e] at z ⊢
              exact Int32.lt_of_lt_of_le (by decide) z
            · rw [show nI (ga L j).2.2.2.length - 1 = nI ((ga L j).2.2.2.length - 1) from pk_sub e]
              exact Int32.lt_of_lt_of_le (nI_lt (by omega) (by omega)) z
          rw [if_pos ((hnx p).mpr hz)]
          refine mw_istore_6 dX6_byteOf_35 (by decide) ?_
          refine mw_iload_n (i := 3) dX6_byteOf_37 rfl rfl ?_
          refine mw_if_lt (tgt := 52) dX6_byteOf_38 (by decide) (fun c9 => absurd c9 (ge_nneg (show (ga L j).2.2.2.length < 2 ^ 31 by omega) z)) (fun _ => ?_)
          refine mw_iload_n (i := 3) dX6_byteOf_41 rfl rfl ?_
          refine mw_aload (i := 5) dX6_byteOf_42 rfl ?_
          refine mw_iload (i := 6) dX6_byteOf_44 rfl ?_
          refine mw_callVr dX6_byteOf_46 mk_X6_175 h_r19 rfl (y_bytesAt hI0 hj) (by decide) (Nat.le_refl _) (Nat.le_refl _) rfl rfl (Nat.le_of_ble_eq_true rfl) ?_
          refine mw_icmp_lt (tgt := 62) dX6_byteOf_49 (by decide) (fun c9 => absurd c9 (fun y => Int32.not_lt.mpr z y)) (fun _ => ?_)
          refine mw_throwN th_X6_231_233 dX6_byteOf_52 dX6_byteOf_55 dX6_byteOf_56 dX6_byteOf_58 dX6_byteOf_61 rfl (by decide) (by decide) (by decide) (Nat.le_of_ble_eq_true rfl) (cP_x hC9 hw9 hG9 2 (by decide) rfl)
        · have hz : ¬ zIn (nI i) 0 (nI (ga L j).2.2.2.length - 1) = 0 := by
            unfold zIn
            rw [show nI (ga L j).2.2.2.length - 1 = nI ((ga L j).2.2.2.length - 1) from pk_sub (show 1 ≤ (ga L j).2.2.2.length by omega), if_neg (nI_pos (by omega)), if_neg (nI_nlt (by omega) (by omega))]
            decide
          rw [if_neg (fun y => hz ((hnx _).mp y)), nI_clamp (by omega)]
          refine mw_istore_6 dX6_byteOf_35 (by decide) ?_
          refine mw_iload_n (i := 3) dX6_byteOf_37 rfl rfl ?_
          refine mw_if_lt (tgt := 52) dX6_byteOf_38 (by decide) (fun c9 => absurd c9 (nI_pos (by omega))) (fun _ => ?_)
          refine mw_iload_n (i := 3) dX6_byteOf_41 rfl rfl ?_
          refine mw_aload (i := 5) dX6_byteOf_42 rfl ?_
          refine mw_iload (i := 6) dX6_byteOf_44 rfl ?_
          refine mw_callVr dX6_byteOf_46 mk_X6_175 h_r19 rfl (y_bytesAt hI0 hj) (by decide) (Nat.le_refl _) (Nat.le_refl _) rfl rfl (Nat.le_of_ble_eq_true rfl) ?_
          refine mw_icmp_lt (tgt := 62) dX6_byteOf_49 (by decide) (fun _ => ?_) (fun c9 => absurd c9 (fun y => y (nI_lt hi2 (by omega))))
          refine mw_aload (i := 4) dX6_byteOf_62 rfl ?_
          refine mw_get dX6_byteOf_64 fk_X6_123 h_r2 rfl ?_
          refine mw_aload (i := 5) dX6_byteOf_67 rfl ?_
          refine mw_iload (i := 6) dX6_byteOf_69 rfl ?_
          refine mw_callVr dX6_byteOf_71 mk_X6_181 h_r19 rfl (y_bytesBeginAt hI0 hj) (by decide) (Nat.le_refl _) (Nat.le_refl _) rfl rfl (Nat.le_of_ble_eq_true rfl) ?_
          refine mw_iload_n (i := 3) dX6_byteOf_74 rfl rfl ?_
          refine mw_iadd dX6_byteOf_75 ?_
          rw [nI_add]
          refine mw_callVr dX6_byteOf_76 mk_X6_236 h_r2_row rfl (y_at hBr (show E j - (ga L j).2.2.2.length + i < (eL L).length by omega)) (by decide) (Nat.le_refl _) (Nat.le_refl _) rfl rfl (Nat.le_of_ble_eq_true rfl) ?_
          have hv : (eL L).getD (E j - (ga L j).2.2.2.length + i) 0 = (ga L j).2.2.2.getD i 0 := by
            have h5 : (((eL L).drop (E j - (ga L j).2.2.2.length)).take (ga L j).2.2.2.length).getD i 0 = (eL L).getD (E j - (ga L j).2.2.2.length + i) 0 := by
              rw [List.getD_eq_getElem?_getD, List.getElem?_take_of_lt hi2, List.getElem?_drop, ← List.getD_eq_getElem?_getD]
            rw [← h5, w3]
          rw [hv]
          exact mw_ireturn dX6_byteOf_79 ⟨_, rfl, nb_byte _⟩ (cP_r hC9 hG9)
theorem k_open (hC : cC g H sa ma) (h56 : 55 ≤ H.1) (m t : Int32) : mw_Con mm_X6_open 7 4 266 [.ref 1, .int m, .int t] H (cP H [eIO, eIA, eNS, eIS] (sp_open g m t)) := by
  refine gm_con pl_X6 rfl rfl (Nat.le_of_ble_eq_true rfl) rfl ?_
  unfold sp_open
  refine mw_wf (fun hw => ?_)
  have h_this := cC_x hC
  cases hs : sM g m with
  | none =>
    refine mw_aload_n (i := 0) dX6_open_0 rfl rfl ?_
    refine mw_iload_n (i := 1) dX6_open_1 rfl rfl ?_
    refine mw_callV dX6_open_2 mk_X6_119 h_this rfl (y_mA0 hC hs) (by decide) (Nat.le_refl _) (Nat.le_refl _) rfl rfl (Nat.le_of_ble_eq_true rfl) (fun E9 h9 q9 => ?_) (fun v9 h9 q9 => ?_)
    · obtain ⟨e9, rfl⟩ := q9
      cases e9
      exact mw_out rfl (cP_x hC hw yG.rf 0 (by decide) rfl)
    · cases q9.1
  | some q =>
    obtain ⟨m', s, L⟩ := q
    obtain ⟨hm, rfl, hT⟩ := sM_in hs
    obtain ⟨hsn, o2, o3⟩ := cC_ok hC hm hT
    have h_r2 := (cC_me hC hm hT).1
    dsimp only
    by_cases hk : zKind g.2.1 s t = 4
    · obtain ⟨tn, t1, t2, rfl⟩ := zK_tag (t := t) hk (by decide)
      rw [if_neg (fun z => z hk), nI_clamp (by omega)]
      have hw2 := cC_w hC s tn hsn t1 t2 hk
      have hp := y_pA1 (cC_sc hC hsn) hk
      rw [nI_clamp (show tn < 2 ^ 31 by omega)] at hp
      refine mw_aload_n (i := 0) dX6_open_0 rfl rfl ?_
      refine mw_iload_n (i := 1) dX6_open_1 rfl rfl ?_
      refine mw_callVr dX6_open_2 mk_X6_119 h_this rfl (y_mA1 hC hs) (by decide) (Nat.le_refl _) (Nat.le_refl _) rfl rfl (Nat.le_of_ble_eq_true rfl) ?_
      refine mw_astore_3 dX6_open_5 (by decide) ?_
      refine mw_aload_n (i := 3) dX6_open_6 rfl rfl ?_
      refine mw_get dX6_open_7 fk_X6_141 h_r2 rfl ?_
      refine mw_iload_n (i := 2) dX6_open_10 rfl rfl ?_
      refine mw_callSr dX6_open_11 mk_X6_195 (hp) (by decide) (Nat.le_refl _) (Nat.le_refl _) rfl rfl (Nat.le_of_ble_eq_true rfl) ?_
      refine mw_astore_4 dX6_open_14 (by decide) ?_
      refine mw_aload_n (i := 0) dX6_open_16 rfl rfl ?_
      refine mw_aload_n (i := 3) dX6_open_17 rfl rfl ?_
      refine mw_callV dX6_open_18 mk_X6_130 h_this rfl (y_fieldsOf hC hm hT) (by decide) (Nat.le_refl _) (Nat.le_refl _) rfl rfl (Nat.le_of_ble_eq_true rfl) (fun E9 h9 q9 => ?_) (fun v9 h9 q9 => ?_)
      · cases q9.1
      obtain ⟨e9, q1, E, hI⟩ := q9
      cases e9
      have hC9 := cC_scan hC q1 hI.r
      have h_r2 := (cC_me hC9 hm hT).1
      have hG9 : yG H h9 := q1.M.G (by decide)
      have hI0 := hI
      refine mw_wf (fun hw9 => ?_)
      obtain ⟨h60, nx, lm, f1, f2, f3, f4, h_r18, -, -⟩ := hI
      cases hl : lastK g.2.1 s (nI tn) L with
      | none =>
        refine mw_astore_5 dX6_open_21 (by decide) ?_
        refine mw_aload (i := 5) dX6_open_23 rfl ?_
        refine mw_aload_n (i := 3) dX6_open_25 rfl rfl ?_
        refine mw_get dX6_open_26 fk_X6_141 h_r2 rfl ?_
        refine mw_iload_n (i := 2) dX6_open_29 rfl rfl ?_
        refine mw_callS dX6_open_30 mk_X6_227 (y_lkT0 (cC_K hC9) hsn (cC_sc hC9 hsn) hI0 hl) (by decide) (Nat.le_refl _) (Nat.le_refl _) rfl rfl (Nat.le_of_ble_eq_true rfl) (fun E9 h9 q9 => ?_) (fun v9 h9 q9 => ?_)
        · obtain ⟨e9, rfl⟩ := q9
          cases e9
          exact mw_out rfl (cP_x hC9 hw9 hG9 2 (by decide) rfl)
        · cases q9.1
      | some x =>
        dsimp only
        refine mw_astore_5 dX6_open_21 (by decide) ?_
        refine mw_aload (i := 5) dX6_open_23 rfl ?_
        refine mw_aload_n (i := 3) dX6_open_25 rfl rfl ?_
        refine mw_get dX6_open_26 fk_X6_141 h_r2 rfl ?_
        refine mw_iload_n (i := 2) dX6_open_29 rfl rfl ?_
        refine mw_callS dX6_open_30 mk_X6_227 (y_lkT1 (cC_K hC9) hsn (cC_sc hC9 hsn) hI0 hl) (by decide) (Nat.le_refl _) (Nat.le_refl _) rfl rfl (Nat.le_of_ble_eq_true rfl) (fun E9 h9 q9 => ?_) (fun v9 h9 q9 => ?_)
        · obtain ⟨-, j, -, z, -⟩ := q9
          cases z
        obtain ⟨rfl, j, hj, z, rfl⟩ := q9
        cases z
        obtain ⟨⟨-, -, -, -, -, -, oY⟩, w1, w2, w3⟩ := isF_ok hI0 hj
        obtain ⟨-, hBr⟩ := cC_me hC9 hm hT
        have hBl := hBr.2.1
        have h_this := cC_x hC9
        have hel := ef_len_bytes (ga L j)
        refine mw_istore_6 dX6_open_33 (by decide) ?_
        refine mw_aload_n (i := 0) dX6_open_35 rfl rfl ?_
        refine mw_aload_n (i := 3) dX6_open_36 rfl rfl ?_
        refine mw_get dX6_open_37 fk_X6_123 h_r2 rfl ?_
        refine mw_aload (i := 5) dX6_open_40 rfl ?_
        refine mw_iload (i := 6) dX6_open_42 rfl ?_
        refine mw_callVr dX6_open_44 mk_X6_181 h_r18 rfl (y_bytesBeginAt hI0 hj) (by decide) (Nat.le_refl _) (Nat.le_refl _) rfl rfl (Nat.le_of_ble_eq_true rfl) ?_
        refine mw_aload (i := 5) dX6_open_47 rfl ?_
        refine mw_iload (i := 6) dX6_open_49 rfl ?_
        refine mw_callVr dX6_open_51 mk_X6_184 h_r18 rfl (y_endAt hI0 hj) (by decide) (Nat.le_refl _) (Nat.le_refl _) rfl rfl (Nat.le_of_ble_eq_true rfl) ?_
        refine mw_callV dX6_open_54 mk_X6_240 h_this rfl (y_fieldsIn hC9 hBr (p := E j - (ga L j).2.2.2.length) (e := E j) (by omega) w1) (by decide) (Nat.le_refl _) (Nat.le_refl _) rfl rfl (Nat.le_of_ble_eq_true rfl) (fun E9 h9 q9 => ?_) (fun v9 h9 q9 => ?_)
        · cases q9.1
        obtain ⟨e9, u1, E2, hI2⟩ := q9
        cases e9
        -- the part of the row, read, is the bytes' own reading
        have hsh : prs (bX (eL L)) (E j) 60 (E j - (ga L j).2.2.2.length) = ((prsL (ga L j).2.2.2).1, (prsL (ga L j).2.2.2).2.1, if (prsL (ga L j).2.2.2).2.1 = 0 then 0 else (E j - (ga L j).2.2.2.length) + (prsL (ga L j).2.2.2).2.2) := by
          have h1 := prs_sh (b := bX (eL L)) (b' := bX (ga L j).2.2.2) (d := E j - (ga L j).2.2.2.length) (e := (ga L j).2.2.2.length) (fun i hi => by
            show (eL L).getD _ 0 = (ga L j).2.2.2.getD i 0
            have h5 : (((eL L).drop (E j - (ga L j).2.2.2.length)).take (ga L j).2.2.2.length).getD i 0 = (eL L).getD (E j - (ga L j).2.2.2.length + i) 0 := by
              rw [List.getD_eq_getElem?_getD, List.getElem?_take_of_lt hi, List.getElem?_drop, ← List.getD_eq_getElem?_getD]
            rw [← h5, w3]) (getD_lt oY) 60 0 (Nat.zero_le _)
          rw [Nat.add_zero, show E j - (ga L j).2.2.2.length + (ga L j).2.2.2.length = E j by omega] at h1
          exact h1
        rw [hsh] at hI2
        dsimp only at hI2
        obtain ⟨p2, p3⟩ := prsL_ok oY
        have hf4 := prsL_le4 (ga L j).2.2.2
        have hC8 := cC_scan hC9 u1 hI2.r
        have hG8 := hG9.tr (u1.M.G (by decide))
        have hI20 := hI2
        obtain ⟨-, nx2, lm2, g1, g2, g3, g4, h_r54, -, -⟩ := hI2
        refine mw_wf (fun hw8 => ?_)
        have e18 : h9.1 = H.1 := u1.1.trans q1.1
        refine mw_astore_7 dX6_open_57 (by decide) ?_
        refine mw_aload (i := 7) dX6_open_59 rfl ?_
        refine mw_callVr dX6_open_61 mk_X6_244 h_r54 rfl (y_problem hI20) (by decide) (Nat.le_refl _) (Nat.le_refl _) rfl rfl (Nat.le_of_ble_eq_true rfl) ?_
        by_cases hf : (prsL (ga L j).2.2.2).2.1 = 0
        · rw [if_neg (fun z => z hf), hf]
          obtain ⟨ds, dm⟩ := dis_a hC8 hw8
          refine mw_if_eq (tgt := 77) dX6_open_64 (by decide) (fun _ => ?_) (fun c9 => absurd c9 (fun z => z rfl))
          refine mw_aload_n (i := 0) dX6_open_77 rfl rfl ?_
          refine mw_aload (i := 7) dX6_open_78 rfl ?_
          refine mw_aload (i := 4) dX6_open_80 rfl ?_
          refine mw_callS dX6_open_82 mk_X6_249 (y_messageOf (s := pn g.2.1 s tn) hI20 (cC_me hC8 hm hT).2 (by omega)) (by decide) (Nat.le_refl _) (Nat.le_refl _) rfl rfl (Nat.le_of_ble_eq_true rfl) (fun E9 h9 q9 => ?_) (fun v9 h9 q9 => ?_)
          · cases q9.1
          obtain ⟨e9, v1, v2⟩ := q9
          cases e9
          have hC7 := cC_M0 hC8 v1
          have h_this := cC_x hC7
          refine mw_callV dX6_open_85 mk_X6_115 h_this rfl (y_addMessage (es := [eIO, eIA, eNS, eIS]) hC7 (hG8.tr v1.G0) v2 ⟨hw2.1, p2, by omega⟩ (by omega) ds dm 3 (by decide) rfl) (by decide) (Nat.le_refl _) (Nat.le_refl _) rfl rfl (Nat.le_of_ble_eq_true rfl) (fun E9 h9 q9 => ?_) (fun v9 h9 q9 => ?_)
          · exact mw_out rfl q9
          · obtain ⟨r, rfl, q9⟩ := cP_v q9
            exact mw_ireturn dX6_open_88 ⟨_, rfl, rfl⟩ q9
        · rw [if_pos hf]
          refine mw_if_eq (tgt := 77) dX6_open_64 (by decide) (fun c9 => absurd c9 (nb_1 hf hf4)) (fun _ => ?_)
          refine mw_throw th_X6_65_247_69 dX6_open_67 dX6_open_70 dX6_open_71 dX6_open_73 dX6_open_76 rfl (by decide) (by decide) (by decide) (Nat.le_of_ble_eq_true rfl) (cP_x hC8 hw8 hG8 3 (by decide) rfl)
    · rw [if_pos hk]
      refine mw_aload_n (i := 0) dX6_open_0 rfl rfl ?_
      refine mw_iload_n (i := 1) dX6_open_1 rfl rfl ?_
      refine mw_callVr dX6_open_2 mk_X6_119 h_this rfl (y_mA1 hC hs) (by decide) (Nat.le_refl _) (Nat.le_refl _) rfl rfl (Nat.le_of_ble_eq_true rfl) ?_
      refine mw_astore_3 dX6_open_5 (by decide) ?_
      refine mw_aload_n (i := 3) dX6_open_6 rfl rfl ?_
      refine mw_get dX6_open_7 fk_X6_141 h_r2 rfl ?_
      refine mw_iload_n (i := 2) dX6_open_10 rfl rfl ?_
      refine mw_callS dX6_open_11 mk_X6_195 (y_pA0 (cC_sc hC hsn) hk) (by decide) (Nat.le_refl _) (Nat.le_refl _) rfl rfl (Nat.le_of_ble_eq_true rfl) (fun E9 h9 q9 => ?_) (fun v9 h9 q9 => ?_)
      · obtain ⟨e9, rfl⟩ := q9
        cases e9
        exact mw_out rfl (cP_x hC hw yG.rf 1 (by decide) rfl)
      · cases q9.1
end CG
