/-! the class side: what the calls share: schemas, messages, checks (class side) -/
/-- an exception -/
def zX (H : mw_H) (E : String) (ci : Nat) : mw_P := fun v H' => v = .inr E ∧ H' = mw_n H (.inr (ci, []))
theorem ge_nneg {x : Int32} {n : Nat} (hn : n < 2 ^ 31) (h : nI n ≤ x) : ¬ x < 0 := by
  rw [fa_le, nI_toInt hn] at h
  rw [fa_lt]
  show ¬ x.toInt < 0
  omega
section SH1
variable {g : mS} {H : mw_H} {sa ma : Nat → Nat}
theorem sS_nI (hg : g.1 ≤ 6) {j : Nat} (hj : j < g.1) : sS g (nI j) = some j := by
  unfold sS
  have h1 : zIn (nI j) 0 (nI g.1 - 1) = 1 := by
    unfold zIn
    rw [show nI g.1 - 1 = nI (g.1 - 1) from pk_sub (show 1 ≤ g.1 by omega), if_neg (nI_pos (by omega)), if_neg (nI_nlt (by omega) (by omega))]
  rw [h1, if_neg (by decide), nI_clamp (by omega)]
theorem sM_nI {j s : Nat} {L : List af} (hj : j < 12) (hT : g.2.2.1 j = some (s, L)) : sM g (nI j) = some (j, s, L) := by
  unfold sM
  have h1 : zIn (nI j) 0 11 = 1 := by
    unfold zIn
    rw [if_neg (nI_pos (by omega)), if_neg (show ¬ (11 : Int32) < nI j from nI_nlt (a := 11) (by omega) (by omega))]
  rw [h1, if_neg (by decide), nI_clamp (by omega), hT]
theorem y_sA1 (hC : cC g H sa ma) {x : Int32} {s : Nat} (e : sS g x = some s) : mw_Con mm_X6_schemaAt 6 0 0 [.ref 1, .int x] H (mw_ret (.ref (sa s)) H) := by
  obtain ⟨hs, rfl⟩ := sS_in (cC_ns hC) e
  have h6 := cC_ns hC
  have h_this := cC_x hC
  obtain ⟨f, h_this_schemas, hf⟩ := hC.2.1.2.1
  have hv : f s = some (sa s) := by rw [hf s (by omega), if_pos hs]
  have ix := mw_ix rfl (show s < 6 by omega) (by decide)
  refine gm_con pl_X6 rfl rfl (Nat.le_of_ble_eq_true rfl) rfl ?_
  refine mw_iload_n (i := 1) dX6_schemaAt_0 rfl rfl ?_
  refine mw_if_lt (tgt := 22) dX6_schemaAt_1 (by decide) (fun c9 => absurd c9 (nI_pos (by omega))) (fun _ => ?_)
  refine mw_iload_n (i := 1) dX6_schemaAt_4 rfl rfl ?_
  refine mw_aload_n (i := 0) dX6_schemaAt_5 rfl rfl ?_
  refine mw_get dX6_schemaAt_6 fk_X6_11 h_this rfl ?_
  refine mw_alen (fun _ => rfl) dX6_schemaAt_9 h_this_schemas ?_
  refine mw_icmp_ge (tgt := 22) dX6_schemaAt_10 (by decide) (fun c9 => absurd c9 (nI_ge (show s < 6 by omega) (by decide))) (fun _ => ?_)
  refine mw_aload_n (i := 0) dX6_schemaAt_13 rfl rfl ?_
  refine mw_get dX6_schemaAt_14 fk_X6_11 h_this rfl ?_
  refine mw_iload_n (i := 1) dX6_schemaAt_17 rfl rfl ?_
  refine mw_aald ty_S dX6_schemaAt_18 h_this_schemas ix ?_
  rw [hv]
  refine mw_ifnonnull dX6_schemaAt_19 (tgt := 33) (by decide) ?_
  refine mw_aload_n (i := 0) dX6_schemaAt_33 rfl rfl ?_
  refine mw_get dX6_schemaAt_34 fk_X6_11 h_this rfl ?_
  refine mw_iload_n (i := 1) dX6_schemaAt_37 rfl rfl ?_
  refine mw_aald ty_S dX6_schemaAt_38 h_this_schemas ix ?_
  rw [hv]
  exact mw_areturn dX6_schemaAt_39 ⟨_, rfl⟩ ⟨rfl, rfl⟩
theorem y_sA0 (hC : cC g H sa ma) {x : Int32} (e : sS g x = none) : mw_Con mm_X6_schemaAt 6 1 6 [.ref 1, .int x] H (zX H eIO 10) := by
  have h6 := cC_ns hC
  have h_this := cC_x hC
  obtain ⟨f, h_this_schemas, hf⟩ := hC.2.1.2.1
  refine gm_con pl_X6 rfl rfl (Nat.le_of_ble_eq_true rfl) rfl ?_
  by_cases h1 : x < 0
  · refine mw_iload_n (i := 1) dX6_schemaAt_0 rfl rfl ?_
    refine mw_if_lt (tgt := 22) dX6_schemaAt_1 (by decide) (fun _ => ?_) (fun c9 => absurd c9 (fun z => z h1))
    refine mw_throwW th_X6_257_287_261 dX6_schemaAt_22 dX6_schemaAt_25 dX6_schemaAt_26 dX6_schemaAt_29 dX6_schemaAt_32 rfl (by decide) (by decide) (by decide) (Nat.le_of_ble_eq_true rfl) ⟨rfl, rfl⟩
  · by_cases h2 : nI 6 ≤ x
    · refine mw_iload_n (i := 1) dX6_schemaAt_0 rfl rfl ?_
      refine mw_if_lt (tgt := 22) dX6_schemaAt_1 (by decide) (fun c9 => absurd c9 h1) (fun _ => ?_)
      refine mw_iload_n (i := 1) dX6_schemaAt_4 rfl rfl ?_
      refine mw_aload_n (i := 0) dX6_schemaAt_5 rfl rfl ?_
      refine mw_get dX6_schemaAt_6 fk_X6_11 h_this rfl ?_
      refine mw_alen (fun _ => rfl) dX6_schemaAt_9 h_this_schemas ?_
      refine mw_icmp_ge (tgt := 22) dX6_schemaAt_10 (by decide) (fun _ => ?_) (fun c9 => absurd c9 (fun z => z h2))
      refine mw_throwW th_X6_257_287_261 dX6_schemaAt_22 dX6_schemaAt_25 dX6_schemaAt_26 dX6_schemaAt_29 dX6_schemaAt_32 rfl (by decide) (by decide) (by decide) (Nat.le_of_ble_eq_true rfl) ⟨rfl, rfl⟩
    · rcases pk_ix x (n := 6) (by decide) with z | z | ⟨j, hj, rfl⟩
      · exact absurd z h1
      · exact absurd z h2
      · have hv : f j = none := by
          rw [hf j hj, if_neg]
          intro z
          rw [sS_nI h6 z] at e
          cases e
        refine mw_iload_n (i := 1) dX6_schemaAt_0 rfl rfl ?_
        refine mw_if_lt (tgt := 22) dX6_schemaAt_1 (by decide) (fun c9 => absurd c9 h1) (fun _ => ?_)
        refine mw_iload_n (i := 1) dX6_schemaAt_4 rfl rfl ?_
        refine mw_aload_n (i := 0) dX6_schemaAt_5 rfl rfl ?_
        refine mw_get dX6_schemaAt_6 fk_X6_11 h_this rfl ?_
        refine mw_alen (fun _ => rfl) dX6_schemaAt_9 h_this_schemas ?_
        refine mw_icmp_ge (tgt := 22) dX6_schemaAt_10 (by decide) (fun c9 => absurd c9 h2) (fun _ => ?_)
        refine mw_aload_n (i := 0) dX6_schemaAt_13 rfl rfl ?_
        refine mw_get dX6_schemaAt_14 fk_X6_11 h_this rfl ?_
        refine mw_iload_n (i := 1) dX6_schemaAt_17 rfl rfl ?_
        refine mw_aald ty_S dX6_schemaAt_18 h_this_schemas (mw_ix rfl (show j < 6 by omega) (by decide)) ?_
        rw [hv]
        refine mw_ifnonnullN dX6_schemaAt_19 ?_
        refine mw_throwW th_X6_257_287_261 dX6_schemaAt_22 dX6_schemaAt_25 dX6_schemaAt_26 dX6_schemaAt_29 dX6_schemaAt_32 rfl (by decide) (by decide) (by decide) (Nat.le_of_ble_eq_true rfl) ⟨rfl, rfl⟩
theorem y_mA1 (hC : cC g H sa ma) {x : Int32} {m s : Nat} {L : List af} (e : sM g x = some (m, s, L)) : mw_Con mm_X6_messageAt 6 0 0 [.ref 1, .int x] H (mw_ret (.ref (ma m)) H) := by
  obtain ⟨hm, rfl, hT⟩ := sM_in e
  have h_this := cC_x hC
  obtain ⟨f, h_this_messages, hf⟩ := hC.2.2.1.1
  have hv : f m = some (ma m) := by rw [hf m hm, hT]; rfl
  have ix := mw_ix rfl hm (by decide)
  refine gm_con pl_X6 rfl rfl (Nat.le_of_ble_eq_true rfl) rfl ?_
  refine mw_iload_n (i := 1) dX6_messageAt_0 rfl rfl ?_
  refine mw_if_lt (tgt := 22) dX6_messageAt_1 (by decide) (fun c9 => absurd c9 (nI_pos (by omega))) (fun _ => ?_)
  refine mw_iload_n (i := 1) dX6_messageAt_4 rfl rfl ?_
  refine mw_aload_n (i := 0) dX6_messageAt_5 rfl rfl ?_
  refine mw_get dX6_messageAt_6 fk_X6_17 h_this rfl ?_
  refine mw_alen (fun _ => rfl) dX6_messageAt_9 h_this_messages ?_
  refine mw_icmp_ge (tgt := 22) dX6_messageAt_10 (by decide) (fun c9 => absurd c9 (nI_ge (show m < 12 by omega) (by decide))) (fun _ => ?_)
  refine mw_aload_n (i := 0) dX6_messageAt_13 rfl rfl ?_
  refine mw_get dX6_messageAt_14 fk_X6_17 h_this rfl ?_
  refine mw_iload_n (i := 1) dX6_messageAt_17 rfl rfl ?_
  refine mw_aald ty_M dX6_messageAt_18 h_this_messages ix ?_
  rw [hv]
  refine mw_ifnonnull dX6_messageAt_19 (tgt := 33) (by decide) ?_
  refine mw_aload_n (i := 0) dX6_messageAt_33 rfl rfl ?_
  refine mw_get dX6_messageAt_34 fk_X6_17 h_this rfl ?_
  refine mw_iload_n (i := 1) dX6_messageAt_37 rfl rfl ?_
  refine mw_aald ty_M dX6_messageAt_38 h_this_messages ix ?_
  rw [hv]
  exact mw_areturn dX6_messageAt_39 ⟨_, rfl⟩ ⟨rfl, rfl⟩
theorem y_mA0 (hC : cC g H sa ma) {x : Int32} (e : sM g x = none) : mw_Con mm_X6_messageAt 6 1 6 [.ref 1, .int x] H (zX H eIO 10) := by
  have h_this := cC_x hC
  obtain ⟨f, h_this_messages, hf⟩ := hC.2.2.1.1
  refine gm_con pl_X6 rfl rfl (Nat.le_of_ble_eq_true rfl) rfl ?_
  by_cases h1 : x < 0
  · refine mw_iload_n (i := 1) dX6_messageAt_0 rfl rfl ?_
    refine mw_if_lt (tgt := 22) dX6_messageAt_1 (by decide) (fun _ => ?_) (fun c9 => absurd c9 (fun z => z h1))
    refine mw_throwW th_X6_257_289_261 dX6_messageAt_22 dX6_messageAt_25 dX6_messageAt_26 dX6_messageAt_29 dX6_messageAt_32 rfl (by decide) (by decide) (by decide) (Nat.le_of_ble_eq_true rfl) ⟨rfl, rfl⟩
  · by_cases h2 : nI 12 ≤ x
    · refine mw_iload_n (i := 1) dX6_messageAt_0 rfl rfl ?_
      refine mw_if_lt (tgt := 22) dX6_messageAt_1 (by decide) (fun c9 => absurd c9 h1) (fun _ => ?_)
      refine mw_iload_n (i := 1) dX6_messageAt_4 rfl rfl ?_
      refine mw_aload_n (i := 0) dX6_messageAt_5 rfl rfl ?_
      refine mw_get dX6_messageAt_6 fk_X6_17 h_this rfl ?_
      refine mw_alen (fun _ => rfl) dX6_messageAt_9 h_this_messages ?_
      refine mw_icmp_ge (tgt := 22) dX6_messageAt_10 (by decide) (fun _ => ?_) (fun c9 => absurd c9 (fun z => z h2))
      refine mw_throwW th_X6_257_289_261 dX6_messageAt_22 dX6_messageAt_25 dX6_messageAt_26 dX6_messageAt_29 dX6_messageAt_32 rfl (by decide) (by decide) (by decide) (Nat.le_of_ble_eq_true rfl) ⟨rfl, rfl⟩
    · rcases pk_ix x (n := 12) (by decide) with z | z | ⟨j, hj, rfl⟩
      · exact absurd z h1
      · exact absurd z h2
      · have hv : f j = none := by
          rw [hf j hj]
          cases hT : g.2.2.1 j with
          | none => rfl
          | some q =>
            obtain ⟨s, L⟩ := q
            rw [sM_nI hj hT] at e
            cases e
        refine mw_iload_n (i := 1) dX6_messageAt_0 rfl rfl ?_
        refine mw_if_lt (tgt := 22) dX6_messageAt_1 (by decide) (fun c9 => absurd c9 h1) (fun _ => ?_)
        refine mw_iload_n (i := 1) dX6_messageAt_4 rfl rfl ?_
        refine mw_aload_n (i := 0) dX6_messageAt_5 rfl rfl ?_
        refine mw_get dX6_messageAt_6 fk_X6_17 h_this rfl ?_
        refine mw_alen (fun _ => rfl) dX6_messageAt_9 h_this_messages ?_
        refine mw_icmp_ge (tgt := 22) dX6_messageAt_10 (by decide) (fun c9 => absurd c9 h2) (fun _ => ?_)
        refine mw_aload_n (i := 0) dX6_messageAt_13 rfl rfl ?_
        refine mw_get dX6_messageAt_14 fk_X6_17 h_this rfl ?_
        refine mw_iload_n (i := 1) dX6_messageAt_17 rfl rfl ?_
        refine mw_aald ty_M dX6_messageAt_18 h_this_messages (mw_ix rfl hj (by decide)) ?_
        rw [hv]
        refine mw_ifnonnullN dX6_messageAt_19 ?_
        refine mw_throwW th_X6_257_289_261 dX6_messageAt_22 dX6_messageAt_25 dX6_messageAt_26 dX6_messageAt_29 dX6_messageAt_32 rfl (by decide) (by decide) (by decide) (Nat.le_of_ble_eq_true rfl) ⟨rfl, rfl⟩
theorem y_cT1 {t : Int32} (e : ¬ zTag t = 0) : mw_Con mm_X6_checkTag 6 0 0 [.int t] H (mw_void H) := by
  refine gm_con pl_X6 rfl rfl (Nat.le_of_ble_eq_true rfl) rfl ?_
  refine mw_iload_n (i := 0) dX6_checkTag_0 rfl rfl ?_
  refine mw_callSr dX6_checkTag_1 mk_X6_291 (y_isTag t) (by decide) (Nat.le_refl _) (Nat.le_refl _) rfl rfl (Nat.le_of_ble_eq_true rfl) ?_
  refine mw_if_ne (tgt := 18) dX6_checkTag_4 (by decide) (fun _ => ?_) (fun c9 => absurd c9 e)
  exact mw_return dX6_checkTag_18 rfl ⟨rfl, rfl⟩
theorem y_cT0 {t : Int32} (e : zTag t = 0) : mw_Con mm_X6_checkTag 6 1 6 [.int t] H (zX H eIA 9) := by
  refine gm_con pl_X6 rfl rfl (Nat.le_of_ble_eq_true rfl) rfl ?_
  refine mw_iload_n (i := 0) dX6_checkTag_0 rfl rfl ?_
  refine mw_callSr dX6_checkTag_1 mk_X6_291 (y_isTag t) (by decide) (Nat.le_refl _) (Nat.le_refl _) rfl rfl (Nat.le_of_ble_eq_true rfl) ?_
  refine mw_if_ne (tgt := 18) dX6_checkTag_4 (by decide) (fun c9 => absurd c9 (fun z => z e)) (fun _ => ?_)
  refine mw_throwW th_X6_82_294_86 dX6_checkTag_7 dX6_checkTag_10 dX6_checkTag_11 dX6_checkTag_14 dX6_checkTag_17 rfl (by decide) (by decide) (by decide) (Nat.le_of_ble_eq_true rfl) ⟨rfl, rfl⟩
section SH2
variable {K : Nat → Nat → Int32} {s a ck cy cd cp : Nat}
theorem y_cI1 (hS : isS H K sa s a ck cy cd cp) {t : Int32} (e : ¬ zInt (zKind K s t) = 0) : mw_Con mm_X6_checkHasInt 6 0 0 [.ref a, .int t] H (mw_void H) := by
  have h_p0 := hS.1
  refine gm_con pl_X6 rfl rfl (Nat.le_of_ble_eq_true rfl) rfl ?_
  refine mw_aload_n (i := 0) dX6_checkHasInt_0 rfl rfl ?_
  refine mw_iload_n (i := 1) dX6_checkHasInt_1 rfl rfl ?_
  refine mw_callVr dX6_checkHasInt_2 mk_X6_95 h_p0 rfl (y_hasInt hS t) (by decide) (Nat.le_refl _) (Nat.le_refl _) rfl rfl (Nat.le_of_ble_eq_true rfl) ?_
  refine mw_if_ne (tgt := 19) dX6_checkHasInt_5 (by decide) (fun _ => ?_) (fun c9 => absurd c9 e)
  exact mw_return dX6_checkHasInt_19 rfl ⟨rfl, rfl⟩
theorem y_cI0 (hS : isS H K sa s a ck cy cd cp) {t : Int32} (e : zInt (zKind K s t) = 0) : mw_Con mm_X6_checkHasInt 6 1 6 [.ref a, .int t] H (zX H eIA 9) := by
  have h_p0 := hS.1
  refine gm_con pl_X6 rfl rfl (Nat.le_of_ble_eq_true rfl) rfl ?_
  refine mw_aload_n (i := 0) dX6_checkHasInt_0 rfl rfl ?_
  refine mw_iload_n (i := 1) dX6_checkHasInt_1 rfl rfl ?_
  refine mw_callVr dX6_checkHasInt_2 mk_X6_95 h_p0 rfl (y_hasInt hS t) (by decide) (Nat.le_refl _) (Nat.le_refl _) rfl rfl (Nat.le_of_ble_eq_true rfl) ?_
  refine mw_if_ne (tgt := 19) dX6_checkHasInt_5 (by decide) (fun c9 => absurd c9 (fun z => z e)) (fun _ => ?_)
  refine mw_throwW th_X6_82_296_86 dX6_checkHasInt_8 dX6_checkHasInt_11 dX6_checkHasInt_12 dX6_checkHasInt_15 dX6_checkHasInt_18 rfl (by decide) (by decide) (by decide) (Nat.le_of_ble_eq_true rfl) ⟨rfl, rfl⟩
theorem y_cB1 (hS : isS H K sa s a ck cy cd cp) {t : Int32} (e : ¬ zHas (zKind K s t) = 0) : mw_Con mm_X6_checkHasBytes 6 0 0 [.ref a, .int t] H (mw_void H) := by
  have h_p0 := hS.1
  refine gm_con pl_X6 rfl rfl (Nat.le_of_ble_eq_true rfl) rfl ?_
  refine mw_aload_n (i := 0) dX6_checkHasBytes_0 rfl rfl ?_
  refine mw_iload_n (i := 1) dX6_checkHasBytes_1 rfl rfl ?_
  refine mw_callVr dX6_checkHasBytes_2 mk_X6_298 h_p0 rfl (y_hasBytes hS t) (by decide) (Nat.le_refl _) (Nat.le_refl _) rfl rfl (Nat.le_of_ble_eq_true rfl) ?_
  refine mw_if_ne (tgt := 19) dX6_checkHasBytes_5 (by decide) (fun _ => ?_) (fun c9 => absurd c9 e)
  exact mw_return dX6_checkHasBytes_19 rfl ⟨rfl, rfl⟩
theorem y_cB0 (hS : isS H K sa s a ck cy cd cp) {t : Int32} (e : zHas (zKind K s t) = 0) : mw_Con mm_X6_checkHasBytes 6 1 6 [.ref a, .int t] H (zX H eIA 9) := by
  have h_p0 := hS.1
  refine gm_con pl_X6 rfl rfl (Nat.le_of_ble_eq_true rfl) rfl ?_
  refine mw_aload_n (i := 0) dX6_checkHasBytes_0 rfl rfl ?_
  refine mw_iload_n (i := 1) dX6_checkHasBytes_1 rfl rfl ?_
  refine mw_callVr dX6_checkHasBytes_2 mk_X6_298 h_p0 rfl (y_hasBytes hS t) (by decide) (Nat.le_refl _) (Nat.le_refl _) rfl rfl (Nat.le_of_ble_eq_true rfl) ?_
  refine mw_if_ne (tgt := 19) dX6_checkHasBytes_5 (by decide) (fun c9 => absurd c9 (fun z => z e)) (fun _ => ?_)
  refine mw_throwW th_X6_82_301_86 dX6_checkHasBytes_8 dX6_checkHasBytes_11 dX6_checkHasBytes_12 dX6_checkHasBytes_15 dX6_checkHasBytes_18 rfl (by decide) (by decide) (by decide) (Nat.le_of_ble_eq_true rfl) ⟨rfl, rfl⟩
theorem zK_tag {t : Int32} {k : Int32} (h : zKind K s t = k) (hk : k ≠ -1) : ∃ j : Nat, 1 ≤ j ∧ j ≤ 31 ∧ t = nI j := by
  by_cases ht : zTag t = 0
  · unfold zKind at h
    rw [if_pos ht] at h
    exact absurd h.symm hk
  · exact zTag_nI ht
theorem y_pA1 (hS : isS H K sa s a ck cy cd cp) {t : Int32} (e : zKind K s t = 4) : mw_Con mm_X6_partAt 6 0 0 [.ref a, .int t] H (mw_ret (.ref (sa (pn K s t.toNatClampNeg))) H) := by
  have h_p0 := hS.1
  obtain ⟨j, j1, j2, rfl⟩ := zK_tag e (by decide)
  rw [nI_clamp (by omega)]
  refine gm_con pl_X6 rfl rfl (Nat.le_of_ble_eq_true rfl) rfl ?_
  refine mw_aload_n (i := 0) dX6_partAt_0 rfl rfl ?_
  refine mw_iload_n (i := 1) dX6_partAt_1 rfl rfl ?_
  refine mw_callVr dX6_partAt_2 mk_X6_303 h_p0 rfl (y_partOf1 hS j1 j2 e) (by decide) (Nat.le_refl _) (Nat.le_refl _) rfl rfl (Nat.le_of_ble_eq_true rfl) ?_
  refine mw_astore_2 dX6_partAt_5 (by decide) ?_
  refine mw_aload_n (i := 2) dX6_partAt_6 rfl rfl ?_
  refine mw_ifnonnull dX6_partAt_7 (tgt := 21) (by decide) ?_
  refine mw_aload_n (i := 2) dX6_partAt_21 rfl rfl ?_
  exact mw_areturn dX6_partAt_22 ⟨_, rfl⟩ ⟨rfl, rfl⟩
theorem y_pA0 (hS : isS H K sa s a ck cy cd cp) {t : Int32} (e : zKind K s t ≠ 4) : mw_Con mm_X6_partAt 6 1 6 [.ref a, .int t] H (zX H eIA 9) := by
  have h_p0 := hS.1
  refine gm_con pl_X6 rfl rfl (Nat.le_of_ble_eq_true rfl) rfl ?_
  refine mw_aload_n (i := 0) dX6_partAt_0 rfl rfl ?_
  refine mw_iload_n (i := 1) dX6_partAt_1 rfl rfl ?_
  refine mw_callVr dX6_partAt_2 mk_X6_303 h_p0 rfl (y_partOf0 hS t e) (by decide) (Nat.le_refl _) (Nat.le_refl _) rfl rfl (Nat.le_of_ble_eq_true rfl) ?_
  refine mw_astoreN_2 dX6_partAt_5 (by decide) ?_
  refine mw_aload_nN (i := 2) dX6_partAt_6 rfl rfl ?_
  refine mw_ifnonnullN dX6_partAt_7 ?_
  refine mw_throwW th_X6_82_306_86 dX6_partAt_10 dX6_partAt_13 dX6_partAt_14 dX6_partAt_17 dX6_partAt_20 rfl (by decide) (by decide) (by decide) (Nat.le_of_ble_eq_true rfl) ⟨rfl, rfl⟩
end SH2
/-- the fields of a row, scanned -/
def zFI (H : mw_H) (src : Nat) (X : List Nat) (r : List af × Nat × Nat) : mw_P := fun v H' => v = .inl (some (.ref 10)) ∧ yF (S5 10) H H' ∧ ∃ E, isF H' 10 src X r.1 E (nI r.2.1) (if r.2.1 = 0 then -1 else nI r.2.2)
theorem y_fieldsIn {src cs p e : Nat} {X : List Nat} (hC : cC g H sa ma) (hB : isB H src cs X) (hp : p ≤ e) (he : e ≤ X.length) : mw_Con mm_X6_fieldsIn 4 0 0 [.ref 1, .ref src, .int (nI p), .int (nI e)] H (zFI H src X (prs (bX X) e 60 p)) := by
  have h_this := cC_x hC
  have hR := hC.2.2.2.2.2.1
  have hR0 := hR
  obtain ⟨k, s, nx, lm, pb, pa, f1, f2, f3, f4, h_this_scanned, -⟩ := hR
  refine gm_con pl_X6 rfl rfl (Nat.le_of_ble_eq_true rfl) rfl ?_
  refine mw_aload_n (i := 0) dX6_fieldsIn_0 rfl rfl ?_
  refine mw_get dX6_fieldsIn_1 fk_X6_38 h_this rfl ?_
  refine mw_aload_n (i := 1) dX6_fieldsIn_4 rfl rfl ?_
  refine mw_iload_n (i := 2) dX6_fieldsIn_5 rfl rfl ?_
  refine mw_iload_n (i := 3) dX6_fieldsIn_6 rfl rfl ?_
  refine mw_callV dX6_fieldsIn_7 mk_X6_310 h_this_scanned rfl (y_scan hR0 hB hp he) (by decide) (Nat.le_refl _) (Nat.le_refl _) rfl rfl (Nat.le_of_ble_eq_true rfl) (fun E9 h9 q9 => ?_) (fun v9 h9 q9 => ?_)
  · cases q9.1
  obtain ⟨e9, q1, E, q2⟩ := q9
  cases e9
  have h_this := q1.g (show 1 ∉ S5 10 by decide) h_this
  refine mw_aload_n (i := 0) dX6_fieldsIn_10 rfl rfl ?_
  refine mw_get dX6_fieldsIn_11 fk_X6_38 h_this rfl ?_
  exact mw_areturn dX6_fieldsIn_14 ⟨_, rfl⟩ ⟨rfl, q1, E, q2⟩
theorem y_fieldsOf {m s : Nat} {L : List af} (hC : cC g H sa ma) (hm : m < 12) (hT : g.2.2.1 m = some (s, L)) : mw_Con mm_X6_fieldsOf 5 0 0 [.ref 1, .ref (ma m)] H (fun v H' => v = .inl (some (.ref 10)) ∧ yF (S5 10) H H' ∧ ∃ E, isF H' 10 (ma m + 1) (eL L) L E 0 (-1)) := by
  have h_this := cC_x hC
  obtain ⟨h_p1, hB⟩ := cC_me hC hm hT
  obtain ⟨o1, o2, o3⟩ := cC_ok hC hm hT
  have h_p1_row := hB.1
  refine gm_con pl_X6 rfl rfl (Nat.le_of_ble_eq_true rfl) rfl ?_
  refine mw_aload_n (i := 0) dX6_fieldsOf_0 rfl rfl ?_
  refine mw_aload_n (i := 1) dX6_fieldsOf_1 rfl rfl ?_
  refine mw_get dX6_fieldsOf_2 fk_X6_123 h_p1 rfl ?_
  refine mw_iconst (v := 0) dX6_fieldsOf_5 (by decide) ?_
  refine mw_aload_n (i := 1) dX6_fieldsOf_6 rfl rfl ?_
  refine mw_get dX6_fieldsOf_7 fk_X6_123 h_p1 rfl ?_
  refine mw_callVr dX6_fieldsOf_10 mk_X6_208 h_p1_row rfl (y_count hB) (by decide) (Nat.le_refl _) (Nat.le_refl _) rfl rfl (Nat.le_of_ble_eq_true rfl) ?_
  refine mw_callV dX6_fieldsOf_13 mk_X6_240 h_this rfl (y_fieldsIn hC hB (p := 0) (Nat.zero_le _) (Nat.le_refl _)) (by decide) (Nat.le_refl _) (Nat.le_refl _) rfl rfl (Nat.le_of_ble_eq_true rfl) (fun E9 h9 q9 => ?_) (fun v9 h9 q9 => ?_)
  · cases q9.1
  obtain ⟨e9, q1, E, q2⟩ := q9
  cases e9
  have h5 : prs (bX (eL L)) (eL L).length 60 0 = (L, 0, 0) := prsL_eL o2 o3
  rw [h5] at q2
  exact mw_areturn dX6_fieldsOf_16 ⟨_, rfl⟩ ⟨rfl, q1, E, q2⟩
theorem y_fieldsOfTape (hC : cC g H sa ma) : mw_Con mm_X6_fieldsOfTape 5 0 0 [.ref 1] H (zFI H 4 g.2.2.2 (prsL g.2.2.2)) := by
  have h_this := cC_x hC
  have hB := hC.2.2.2.1
  have h_this_tape := hB.1
  refine gm_con pl_X6 rfl rfl (Nat.le_of_ble_eq_true rfl) rfl ?_
  refine mw_aload_n (i := 0) dX6_fieldsOfTape_0 rfl rfl ?_
  refine mw_aload_n (i := 0) dX6_fieldsOfTape_1 rfl rfl ?_
  refine mw_get dX6_fieldsOfTape_2 fk_X6_24 h_this rfl ?_
  refine mw_iconst (v := 0) dX6_fieldsOfTape_5 (by decide) ?_
  refine mw_aload_n (i := 0) dX6_fieldsOfTape_6 rfl rfl ?_
  refine mw_get dX6_fieldsOfTape_7 fk_X6_24 h_this rfl ?_
  refine mw_callVr dX6_fieldsOfTape_10 mk_X6_208 h_this_tape rfl (y_count hB) (by decide) (Nat.le_refl _) (Nat.le_refl _) rfl rfl (Nat.le_of_ble_eq_true rfl) ?_
  refine mw_callV dX6_fieldsOfTape_13 mk_X6_240 h_this rfl (y_fieldsIn hC hB (p := 0) (Nat.zero_le _) (Nat.le_refl _)) (by decide) (Nat.le_refl _) (Nat.le_refl _) rfl rfl (Nat.le_of_ble_eq_true rfl) (fun E9 h9 q9 => ?_) (fun v9 h9 q9 => ?_)
  · cases q9.1
  obtain ⟨e9, q1, E, q2⟩ := q9
  cases e9
  exact mw_areturn dX6_fieldsOfTape_16 ⟨_, rfl⟩ ⟨rfl, q1, E, q2⟩
/-- the class's state after a scan -/
theorem cC_scan {H' : mw_H} (hC : cC g H sa ma) (hF : yF (S5 10) H H') (hI : isF0 H' 10) : cC g H' sa ma :=
  cC_scr hC hF.M (by decide) (cW_M hC.2.2.2.2 hF.M (Or.inl (by decide)) (Or.inr hI) (Or.inl (by decide)) (Or.inl (by decide)) (Or.inl (by decide)) (Or.inl (by decide)) (Or.inl (by decide)))
end SH1
