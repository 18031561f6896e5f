/-! the law's loop and its body (class side) -/
section LL
variable {sc : mSc}
theorem lp_law (hL : sc.1 ≤ 2560) : ∀ (n i : Nat) (g : mS) (H : mw_H) (x5 x6 : Option Value), sc.1 < i + 5 * (n + 1) → i ≤ sc.1 → LI sc g H →
    mw_W mm_L_law 9 (5 * n) (270 * n) 23 [some (.ref 0), some (.ref 1), some (.ref 43), some (.ref 55), some (.int (nI i)), x5, x6] [] H (fun v _ => v = .inl (some (.int 1))) := by
  intro n
  induction n with
  | zero =>
    intro i g H x5 x6 hn hi hI
    have hscr := hI.1
    have hx : nI sc.1 - 5 < nI i := by
      rcases Nat.lt_or_ge sc.1 5 with z | z
      · exact fa_trans (pk_sneg (b := 5) (by decide) z) (nI_pos' (by omega))
      · rw [show nI sc.1 - 5 = nI (sc.1 - 5) from pk_sub z]
        exact nI_lt (by omega) (by omega)
    refine mw_iload (i := 4) dL_law_23 rfl ?_
    refine mw_aload_n (i := 0) dL_law_25 rfl rfl ?_
    refine mw_slenx dL_law_26 hscr ?_
    refine mw_iconst (v := 5) dL_law_27 (by decide) ?_
    refine mw_isub dL_law_28 ?_
    refine mw_icmp_gt (tgt := 2137) dL_law_29 (by decide) (fun _ => ?_) (fun c9 => absurd c9 (fun z => z hx))
    refine mw_iconst (v := 1) dL_law_2137 (by decide) ?_
    exact mw_ireturn dL_law_2138 ⟨_, rfl, rfl⟩ rfl
  | succ n ih =>
    intro i g H x5 x6 hn hi hI
    have hscr := hI.1
    by_cases hend : sc.1 < i + 5
    · have hx : nI sc.1 - 5 < nI i := by
        rcases Nat.lt_or_ge sc.1 5 with z | z
        · exact fa_trans (pk_sneg (b := 5) (by decide) z) (nI_pos' (by omega))
        · rw [show nI sc.1 - 5 = nI (sc.1 - 5) from pk_sub z]
          exact nI_lt (by omega) (by omega)
      refine mw_iload (i := 4) dL_law_23 rfl ?_
      refine mw_aload_n (i := 0) dL_law_25 rfl rfl ?_
      refine mw_slenx dL_law_26 hscr ?_
      refine mw_iconst (v := 5) dL_law_27 (by decide) ?_
      refine mw_isub dL_law_28 ?_
      refine mw_icmp_gt (tgt := 2137) dL_law_29 (by decide) (fun _ => ?_) (fun c9 => absurd c9 (fun z => z hx))
      refine mw_iconst (v := 1) dL_law_2137 (by decide) ?_
      exact mw_ireturn dL_law_2138 ⟨_, rfl, rfl⟩ rfl
    · have hi5 : i + 5 ≤ sc.1 := by omega
      have hx : ¬ nI sc.1 - 5 < nI i := by
        rw [show nI sc.1 - 5 = nI (sc.1 - 5) from pk_sub (show 5 ≤ sc.1 by omega)]
        exact nI_nlt (by omega) (by omega)
      have hi := hi5
      have K : ∀ (g' : mS) (H' : mw_H) (x5 x6 : Option Value), LI sc g' H' → mw_W mm_L_law 9 (5 * n) (270 * n) 2131 [some (.ref 0), some (.ref 1), some (.ref 43), some (.ref 55), some (.int (nI i)), x5, x6] [] H' (fun v _ => v = .inl (some (.int 1))) := by
        intro g' H' x5 x6 hI'
        refine mw_iinc_4 dL_law_2131 (by decide) rfl ?_
        refine mw_goto (tgt := 23) dL_law_2134 (by decide) ?_
        rw [show nI i + Int32.ofInt 5 = nI (i + 5) from nI_add i 5]
        exact ih (i + 5) g' H' x5 x6 (by omega) hi5 hI'
      show mw_W mm_L_law 9 (5 * n + 5) (270 * n + 270) 23 _ _ _ _
      refine mw_iload (i := 4) dL_law_23 rfl ?_
      refine mw_aload_n (i := 0) dL_law_25 rfl rfl ?_
      refine mw_slenx dL_law_26 hscr ?_
      refine mw_iconst (v := 5) dL_law_27 (by decide) ?_
      refine mw_isub dL_law_28 ?_
      refine mw_icmp_gt (tgt := 2137) dL_law_29 (by decide) (fun c9 => absurd c9 hx) (fun _ => ?_)
      refine mw_aload_n (i := 0) dL_law_32 rfl rfl ?_
      refine mw_iload (i := 4) dL_law_33 rfl ?_
      refine mw_sldx dL_law_35 hscr (lx_0 hL hi) ?_
      refine mw_bipush (v := 31) dL_law_36 (by decide) ?_
      refine mw_iand dL_law_38 ?_
      obtain ⟨j, hj, e⟩ := pk_andE (sc.2 i) (m := 31) 5 (by decide)
      rw [e]
      have hj : j = 0 ∨ j = 1 ∨ j = 2 ∨ j = 3 ∨ j = 4 ∨ j = 5 ∨ j = 6 ∨ j = 7 ∨ j = 8 ∨ j = 9 ∨ j = 10 ∨ j = 11 ∨ j = 12 ∨ j = 13 ∨ j = 14 ∨ j = 15 ∨ j = 16 ∨ j = 17 ∨ j = 18 ∨ j = 19 ∨ j = 20 ∨ j = 21 ∨ j = 22 ∨ j = 23 ∨ j = 24 ∨ j = 25 ∨ j = 26 ∨ j = 27 ∨ j = 28 ∨ j = 29 ∨ j = 30 ∨ j = 31 := by
        have hj : j < 32 := hj
        omega
      rcases hj with rfl | rfl | rfl | rfl | rfl | rfl | rfl | rfl | rfl | rfl | rfl | rfl | rfl | rfl | rfl | rfl | rfl | rfl | rfl | rfl | rfl | rfl | rfl | rfl | rfl | rfl | rfl | rfl | rfl | rfl | rfl | rfl
      · refine mw_tableIn (off := 141) (tgt := 180) dL_law_39 (by decide) (by decide) (by decide) (by decide) ?_
        exact lc_addSchema hL hI hi x5 x6 K
      · refine mw_tableIn (off := 185) (tgt := 224) dL_law_39 (by decide) (by decide) (by decide) (by decide) ?_
        exact lc_setKind hL hI hi x5 x6 K
      · refine mw_tableIn (off := 277) (tgt := 316) dL_law_39 (by decide) (by decide) (by decide) (by decide) ?_
        exact lc_dropKind hL hI hi x5 x6 K
      · refine mw_tableIn (off := 345) (tgt := 384) dL_law_39 (by decide) (by decide) (by decide) (by decide) ?_
        exact lc_setDefault hL hI hi x5 x6 K
      · refine mw_tableIn (off := 425) (tgt := 464) dL_law_39 (by decide) (by decide) (by decide) (by decide) ?_
        exact lc_kindOf hL hI hi x5 x6 K
      · refine mw_tableIn (off := 493) (tgt := 532) dL_law_39 (by decide) (by decide) (by decide) (by decide) ?_
        exact lc_conflict hL hI hi x5 x6 K
      · refine mw_tableIn (off := 561) (tgt := 600) dL_law_39 (by decide) (by decide) (by decide) (by decide) ?_
        exact lc_create hL hI hi x5 x6 K
      · refine mw_tableIn (off := 617) (tgt := 656) dL_law_39 (by decide) (by decide) (by decide) (by decide) ?_
        exact lc_copy hL hI hi x5 x6 K
      · refine mw_tableIn (off := 685) (tgt := 724) dL_law_39 (by decide) (by decide) (by decide) (by decide) ?_
        exact lc_discard hL hI hi x5 x6 K
      · refine mw_tableIn (off := 741) (tgt := 780) dL_law_39 (by decide) (by decide) (by decide) (by decide) ?_
        exact lc_set hL hI hi x5 x6 K
      · refine mw_tableIn (off := 801) (tgt := 840) dL_law_39 (by decide) (by decide) (by decide) (by decide) ?_
        exact lc_append hL hI hi x5 x6 K
      · refine mw_tableIn (off := 883) (tgt := 922) dL_law_39 (by decide) (by decide) (by decide) (by decide) ?_
        exact lc_setPart hL hI hi x5 x6 K
      · refine mw_tableIn (off := 963) (tgt := 1002) dL_law_39 (by decide) (by decide) (by decide) (by decide) ?_
        exact lc_clear hL hI hi x5 x6 K
      · refine mw_tableIn (off := 1031) (tgt := 1070) dL_law_39 (by decide) (by decide) (by decide) (by decide) ?_
        exact lc_schemaOf hL hI hi x5 x6 K
      · refine mw_tableIn (off := 1087) (tgt := 1126) dL_law_39 (by decide) (by decide) (by decide) (by decide) ?_
        exact lc_has hL hI hi x5 x6 K
      · refine mw_tableIn (off := 1162) (tgt := 1201) dL_law_39 (by decide) (by decide) (by decide) (by decide) ?_
        exact lc_get hL hI hi x5 x6 K
      · refine mw_tableIn (off := 1230) (tgt := 1269) dL_law_39 (by decide) (by decide) (by decide) (by decide) ?_
        exact lc_byteOf hL hI hi x5 x6 K
      · refine mw_tableIn (off := 1310) (tgt := 1349) dL_law_39 (by decide) (by decide) (by decide) (by decide) ?_
        exact lc_open hL hI hi x5 x6 K
      · refine mw_tableIn (off := 1378) (tgt := 1417) dL_law_39 (by decide) (by decide) (by decide) (by decide) ?_
        exact lc_unknowns hL hI hi x5 x6 K
      · refine mw_tableIn (off := 1434) (tgt := 1473) dL_law_39 (by decide) (by decide) (by decide) (by decide) ?_
        exact lc_unknownTag hL hI hi x5 x6 K
      · refine mw_tableIn (off := 1502) (tgt := 1541) dL_law_39 (by decide) (by decide) (by decide) (by decide) ?_
        exact lc_weight hL hI hi x5 x6 K
      · refine mw_tableIn (off := 1558) (tgt := 1597) dL_law_39 (by decide) (by decide) (by decide) (by decide) ?_
        exact lc_areSame hL hI hi x5 x6 K
      · refine mw_tableIn (off := 1633) (tgt := 1672) dL_law_39 (by decide) (by decide) (by decide) (by decide) ?_
        exact lc_areSameByBytes hL hI hi x5 x6 K
      · refine mw_tableIn (off := 1708) (tgt := 1747) dL_law_39 (by decide) (by decide) (by decide) (by decide) ?_
        exact lc_write hL hI hi x5 x6 K
      · refine mw_tableIn (off := 1764) (tgt := 1803) dL_law_39 (by decide) (by decide) (by decide) (by decide) ?_
        exact lc_put hL hI hi x5 x6 K
      · refine mw_tableIn (off := 1822) (tgt := 1861) dL_law_39 (by decide) (by decide) (by decide) (by decide) ?_
        exact lc_cut hL hI hi x5 x6 K
      · refine mw_tableIn (off := 1878) (tgt := 1917) dL_law_39 (by decide) (by decide) (by decide) (by decide) ?_
        exact lc_length hL hI hi x5 x6 K
      · refine mw_tableIn (off := 1891) (tgt := 1930) dL_law_39 (by decide) (by decide) (by decide) (by decide) ?_
        exact lc_byteAt hL hI hi x5 x6 K
      · refine mw_tableIn (off := 1947) (tgt := 1986) dL_law_39 (by decide) (by decide) (by decide) (by decide) ?_
        exact lc_fault hL hI hi x5 x6 K
      · refine mw_tableIn (off := 1960) (tgt := 1999) dL_law_39 (by decide) (by decide) (by decide) (by decide) ?_
        exact lc_faultAt hL hI hi x5 x6 K
      · refine mw_tableIn (off := 1973) (tgt := 2012) dL_law_39 (by decide) (by decide) (by decide) (by decide) ?_
        exact lc_read hL hI hi x5 x6 K
      · refine mw_tableIn (off := 2029) (tgt := 2068) dL_law_39 (by decide) (by decide) (by decide) (by decide) ?_
        exact lc_isCanonical hL hI hi x5 x6 K
/-- the start: no schema, no message, an empty tape -/
def g00 : mS := (0, fun _ _ => 0, fun _ => none, [])
theorem ok_00 : okS g00 := ⟨Nat.zero_le _, fun s t hs => absurd hs (Nat.not_lt_zero _), fun s t hs => absurd hs (Nat.not_lt_zero _), fun m s L hm hT => (by cases hT), Nat.zero_le _, fun z hz => absurd hz List.not_mem_nil⟩
theorem rR_00 : rR g00 (fun _ => 0) (fun _ _ => 0) := ⟨ok_00, rfl, rfl, rfl, rfl, fun m hm => ⟨fun _ => rfl, fun s L hT => (by cases hT)⟩, fun j hj => ⟨0, by decide, rfl⟩, fun j hj => ⟨0, by decide, rfl⟩, rfl, fun j hj => absurd hj (Nat.not_lt_zero _)⟩
theorem law_W (hL : sc.1 ≤ 2560) : mw_W mm_L_law 9 2615 143961 0 [some (.ref 0), none, none, none, none, none, none] [] (1, fun _ => none, sc) (fun v _ => v = .inl (some (.int 1))) := by
  obtain ⟨H, hH⟩ : ∃ z : mw_H, z = (1, fun _ => none, sc) := ⟨_, rfl⟩
  rw [← hH]
  have h1 : H.1 = 1 := by rw [hH]
  have hs : H.2.2 = sc := by rw [hH]
  have hw : wfH H := fun a x hx => by rw [hH] at hx; cases hx
  clear hH
  refine mw_new (ci := 6) rfl cf_6 nw_L_8 df_6 (fun _ => rfl) dL_law_0 (Nat.le_refl _) (Nat.le_refl _) ?_
  refine mw_dup dL_law_3 rfl ?_
  refine mw_callI dL_law_4 mk_L_116 (y_X6_init (a := H.1) rfl mw_gn) (by decide) (Nat.le_refl _) (Nat.le_refl _) rfl rfl (Nat.le_of_ble_eq_true rfl) (fun E9 h9 q9 => ?_) (fun v9 h9 q9 => ?_)
  · cases q9.1
  obtain ⟨e9, u1, u2, c1, c2, c3, c4, c5, c6, c7, c8, c9, c10, c11⟩ := q9
  cases e9
  have hs9 : h9.2.2 = sc := u2.2.1.trans hs
  rw [h1] at u1 c1 c2 c3 c4 c5 c6 c7 c8 c9 c10 c11
  rw [h1]
  have hC : cC g00 h9 (fun _ => 0) (fun _ => 0) := ⟨ok_00, ⟨c1, ⟨_, c2, fun s hs => (if_neg (Nat.not_lt_zero _)).symm⟩, fun s hs => absurd hs (Nat.not_lt_zero _), fun s hs => absurd hs (Nat.not_lt_zero _), fun s s' hs => absurd hs (Nat.not_lt_zero _)⟩, ⟨⟨_, c3, fun m hm => rfl⟩, fun m s L hm hT => (by cases hT), fun m hm hT => absurd rfl hT, fun m m' hm hm' hT => absurd rfl hT, fun s m hs => absurd hs (Nat.not_lt_zero _)⟩, c4, ⟨c5, c6, c7, c8, ⟨_, c9⟩, ⟨_, c10⟩, ⟨_, c11⟩⟩⟩
  clear c1 c2 c3 c4 c5 c6 c7 c8 c9 c10 c11 u2
  refine mw_wf (fun hw9 => ?_)
  refine mw_astore_1 dL_law_7 (by decide) ?_
  refine mw_new (ci := 7) rfl cf_7 nw_L_117 df_7 (fun _ => rfl) dL_law_8 (Nat.le_refl _) (Nat.le_refl _) ?_
  refine mw_dup dL_law_11 rfl ?_
  refine mw_callI dL_law_12 mk_L_119 (y_X7_init (a := h9.1) rfl mw_gn) (by decide) (Nat.le_refl _) (Nat.le_refl _) rfl rfl (Nat.le_of_ble_eq_true rfl) (fun E8 h8 q8 => ?_) (fun v8 h8 q8 => ?_)
  · cases q8.1
  obtain ⟨e8, v1, v2, v3⟩ := q8
  cases e8
  have hM : yM [] h9 h8 := yM.trw hw9 (yM.n hw9) v2 (fun b hb => Or.inl (by rw [List.mem_singleton] at hb; omega))
  have u1 : h9.1 = 43 := u1
  rw [u1] at v1 v3
  rw [u1]
  have v1 : h8.1 = 55 := v1
  have hC8 := cC_M0 hC hM
  have hs8 : h8.2.2 = sc := hM.2.1.trans hs9
  refine mw_wf (fun hw8 => ?_)
  refine mw_astore_2 dL_law_15 (by decide) ?_
  refine mw_iconst (v := 1) dL_law_16 (by decide) ?_
  refine mw_newL ac_long dL_law_17 (by decide) rfl (by decide) (Nat.le_refl _) (Nat.le_refl _) ?_
  refine mw_astore_3 dL_law_19 (by decide) ?_
  refine mw_iconst (v := 0) dL_law_20 (by decide) ?_
  refine mw_istore_4 dL_law_21 (by decide) ?_
  rw [v1]
  refine mw_less (kc' := 5 * 512) (ks' := 270 * 512) (Nat.le_of_ble_eq_true rfl) (Nat.le_of_ble_eq_true rfl) ?_
  refine lp_law hL 512 0 g00 _ none none (by omega) (Nat.zero_le _) ⟨hs8, by show 56 ≤ h8.1 + 1; omega, ⟨_, _, cC_n hC8 hw8⟩, ⟨_, _, rR_00, fun j hj => ?_⟩, fun _ => 0, ?_⟩
  · exact (mw_gm (by omega)).trans (v3 j hj)
  · rw [← v1]
    exact mw_gn
end LL
