/-! the class side: the part of a tag (class side) -/
section C5
variable {H : mw_H} {K : Nat → Nat → Int32} {sa : Nat → Nat} {s a ck cy cd cp : Nat}
theorem y_partOf1 (hS : isS H K sa s a ck cy cd cp) {j : Nat} (j1 : 1 ≤ j) (j2 : j ≤ 31) (hk : zKind K s (nI j) = 4) : mw_Con mm_X5_partOf 1 0 0 [.ref a, .int (nI j)] H (mw_ret (.ref (sa (pn K s j))) H) := by
  obtain ⟨h_this, -, -, ⟨f, h_this_parts, hf⟩, -⟩ := hS
  have ht : ¬ zTag (nI j) = 0 := by rw [zTag_of j1 j2]; decide
  have hk1 : K 1 (32 * s + j) = 4 := (zKind_of (K := K) (s := s) j1 j2).symm.trans hk
  have hv : f j = some (sa (pn K s j)) := by rw [hf j j1 j2, if_pos hk1]
  refine gm_con pl_X5 rfl rfl (Nat.le_of_ble_eq_true rfl) rfl ?_
  refine mw_iload_n (i := 1) dX5_partOf_0 rfl rfl ?_
  refine mw_callSNr dX5_partOf_1 mk_X5_35 (y_isTag (nI j)) (by decide) (Nat.le_refl _) (Nat.le_refl _) rfl rfl (Nat.le_of_ble_eq_true rfl) ?_
  refine mw_if_eq (tgt := 16) dX5_partOf_4 (by decide) (fun c9 => absurd c9 ht) (fun _ => ?_)
  refine mw_aload_n (i := 0) dX5_partOf_7 rfl rfl ?_
  refine mw_get dX5_partOf_8 fk_X5_21 h_this rfl ?_
  refine mw_iload_n (i := 1) dX5_partOf_11 rfl rfl ?_
  refine mw_aald ty_S dX5_partOf_12 h_this_parts (mw_ix rfl (show j < 32 by omega) (by decide)) ?_
  rw [hv]
  refine mw_goto (tgt := 17) dX5_partOf_13 (by decide) ?_
  exact mw_areturn dX5_partOf_17 ⟨_, rfl⟩ ⟨rfl, rfl⟩
theorem y_partOf0 (hS : isS H K sa s a ck cy cd cp) (t : Int32) (hk : zKind K s t ≠ 4) : mw_Con mm_X5_partOf 1 0 0 [.ref a, .int t] H (mw_ret .null H) := by
  obtain ⟨h_this, -, -, ⟨f, h_this_parts, hf⟩, -⟩ := hS
  refine gm_con pl_X5 rfl rfl (Nat.le_of_ble_eq_true rfl) rfl ?_
  refine mw_iload_n (i := 1) dX5_partOf_0 rfl rfl ?_
  refine mw_callSNr dX5_partOf_1 mk_X5_35 (y_isTag t) (by decide) (Nat.le_refl _) (Nat.le_refl _) rfl rfl (Nat.le_of_ble_eq_true rfl) ?_
  by_cases ht : zTag t = 0
  · refine mw_if_eq (tgt := 16) dX5_partOf_4 (by decide) (fun _ => ?_) (fun c9 => absurd c9 (fun z => z ht))
    refine mw_null dX5_partOf_16 ?_
    exact mw_areturnN dX5_partOf_17 ⟨_, rfl⟩ ⟨rfl, rfl⟩
  · obtain ⟨j, j1, j2, rfl⟩ := zTag_nI ht
    have hk1 : ¬ K 1 (32 * s + j) = 4 := fun z => hk ((zKind_of (K := K) (s := s) j1 j2).trans z)
    have hv : f j = none := by rw [hf j j1 j2, if_neg hk1]
    refine mw_if_eq (tgt := 16) dX5_partOf_4 (by decide) (fun c9 => absurd c9 ht) (fun _ => ?_)
    refine mw_aload_n (i := 0) dX5_partOf_7 rfl rfl ?_
    refine mw_get dX5_partOf_8 fk_X5_21 h_this rfl ?_
    refine mw_iload_n (i := 1) dX5_partOf_11 rfl rfl ?_
    refine mw_aald ty_S dX5_partOf_12 h_this_parts (mw_ix rfl (show j < 32 by omega) (by decide)) ?_
    rw [hv]
    refine mw_goto (tgt := 17) dX5_partOf_13 (by decide) ?_
    exact mw_areturnN dX5_partOf_17 ⟨_, rfl⟩ ⟨rfl, rfl⟩
end C5
