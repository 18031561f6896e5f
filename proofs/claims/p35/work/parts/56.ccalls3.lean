/-! the class's calls: tables (class side) -/
section CC
variable {g : mS} {H : mw_H} {sa ma : Nat → Nat}
/-- the tables agree but at the place (s, j) -/
def agr (K K' : Nat → Nat → Int32) (s j : Nat) : Prop := ∀ s' t, 1 ≤ t → t ≤ 31 → (s' = s → t ≠ j) → K' 1 (32 * s' + t) = K 1 (32 * s' + t) ∧ K' 3 (32 * s' + t) = K 3 (32 * s' + t) ∧ pn K' s' t = pn K s' t
theorem isS_K {K K' : Nat → Nat → Int32} {s j s' a ck cy cd cp : Nat} (h : isS H K sa s' a ck cy cd cp) (hk : agr K K' s j) (hne : s' ≠ s) : isS H K' sa s' a ck cy cd cp := by
  obtain ⟨h1, ⟨f1, h2, h3⟩, ⟨f2, h4, h5⟩, ⟨f3, h6, h7⟩, ⟨f4, h8, h9⟩⟩ := h
  have ha : ∀ t, 1 ≤ t → t ≤ 31 → K' 1 (32 * s' + t) = K 1 (32 * s' + t) ∧ K' 3 (32 * s' + t) = K 3 (32 * s' + t) ∧ pn K' s' t = pn K s' t := fun t t1 t2 => hk s' t t1 t2 (fun z => absurd z hne)
  refine ⟨h1, ⟨f1, h2, fun t t1 t2 => ?_⟩, ⟨f2, h4, fun t t1 t2 hz => ?_⟩, ⟨f3, h6, fun t t1 t2 => ?_⟩, ⟨f4, h8, fun t t1 t2 => ?_⟩⟩
  · rw [(ha t t1 t2).1]; exact h3 t t1 t2
  · rw [(ha t t1 t2).2.1]
    rw [(ha t t1 t2).1] at hz
    exact h5 t t1 t2 hz
  · rw [(ha t t1 t2).1, (ha t t1 t2).2.2]; exact h7 t t1 t2
  · rw [(ha t t1 t2).1]; exact h9 t t1 t2
theorem isS_put {K K' : Nat → Nat → Int32} {H' : mw_H} {s j a ck cy cd cp : Nat} {k d : Int32} {f1 f2 f4 : Nat → Int32} {f3 : Nat → Option Nat} {pv : Option Nat} (h0 : mw_g H' a = some (.inr (5, [.int (nI s), .ref ck, .ref cy, .ref cd, .ref cp]))) (h1 : mw_g H' ck = some (.inl (0, (32, .inl (upd f1 j k))))) (h2 : mw_g H' cd = some (.inl (0, (32, .inl (upd f2 j d))))) (h4 : mw_g H' cy = some (.inl (0, (32, .inl (upd f4 j (zTyK k)))))) (h3 : mw_g H' cp = some (.inl (4, (32, .inr (.inr (.inr (.inr (va_up f3 j pv))))))))
    (hf1 : ∀ t, 1 ≤ t → t ≤ 31 → f1 t = K 1 (32 * s + t)) (hf2 : ∀ t, 1 ≤ t → t ≤ 31 → K 1 (32 * s + t) ≠ -1 → f2 t = K 3 (32 * s + t)) (hf3 : ∀ t, 1 ≤ t → t ≤ 31 → f3 t = if K 1 (32 * s + t) = 4 then some (sa (pn K s t)) else none) (hf4 : ∀ t, 1 ≤ t → t ≤ 31 → f4 t = zTyK (K 1 (32 * s + t))) (hk : agr K K' s j) (e1 : K' 1 (32 * s + j) = k) (e3 : k ≠ -1 → K' 3 (32 * s + j) = d) (ep : pv = if k = 4 then some (sa (pn K' s j)) else none) : isS H' K' sa s a ck cy cd cp := by
  refine ⟨h0, ⟨_, h1, fun t t1 t2 => ?_⟩, ⟨_, h2, fun t t1 t2 hz => ?_⟩, ⟨_, h3, fun t t1 t2 => ?_⟩, ⟨_, h4, fun t t1 t2 => ?_⟩⟩
  · by_cases e : t = j
    · rw [e, pk_us, e1]
    · rw [pk_un e, (hk s t t1 t2 (fun _ => e)).1]; exact hf1 t t1 t2
  · by_cases e : t = j
    · rw [e] at hz ⊢
      rw [pk_us, e3 (fun z => hz (e1.trans z))]
    · rw [pk_un e, (hk s t t1 t2 (fun _ => e)).2.1]
      rw [(hk s t t1 t2 (fun _ => e)).1] at hz
      exact hf2 t t1 t2 hz
  · by_cases e : t = j
    · rw [e, va_up_self, e1, ep]
    · rw [va_up_ne _ _ e, (hk s t t1 t2 (fun _ => e)).1, (hk s t t1 t2 (fun _ => e)).2.2]; exact hf3 t t1 t2
  · by_cases e : t = j
    · rw [e, pk_us, e1]
    · rw [pk_un e, (hk s t t1 t2 (fun _ => e)).1]; exact hf4 t t1 t2
theorem y_gK1 {K K' : Nat → Nat → Int32} {s j a b : Nat} {k : Int32} {vs : List Value} (hS : isS H K sa s a (a + 1) (a + 2) (a + 3) (a + 4)) (j1 : 1 ≤ j) (j2 : j ≤ 31) (h_p3 : mw_g H b = some (.inr (5, vs))) (hk : agr K K' s j) (e1 : K' 1 (32 * s + j) = k) (e3 : K' 3 (32 * s + j) = 0) (hk4 : k = 4) (hb : b = sa (pn K' s j)) : mw_Con mm_X5_giveKind 1 0 0 [.ref a, .int (nI j), .int k, .ref b] H (fun v H' => v = .inl none ∧ yF [a + 1, a + 2, a + 3, a + 4] H H' ∧ isS H' K' sa s a (a + 1) (a + 2) (a + 3) (a + 4)) := by
  obtain ⟨h_this, ⟨f1, h_this_kinds, hf1⟩, ⟨f2, h_this_defaults, hf2⟩, ⟨f3, h_this_parts, hf3⟩, f4, h_this_types, hf4⟩ := hS
  have nb : b ≠ a + 1 := g_ne h_p3 h_this_kinds (fun z => by cases z)
  have nb2 : b ≠ a + 2 := g_ne h_p3 h_this_types (fun z => by cases z)
  have nb3 : b ≠ a + 3 := g_ne h_p3 h_this_defaults (fun z => by cases z)
  have ht : ¬ zTag (nI j) = 0 := by rw [zTag_of j1 j2]; decide
  have ix := mw_ix rfl (show j < 32 by omega) (by decide)
  refine gm_con pl_X5 rfl rfl (Nat.le_of_ble_eq_true rfl) rfl ?_
  refine mw_iload_n (i := 1) dX5_giveKind_0 rfl rfl ?_
  refine mw_callSNr dX5_giveKind_1 mk_X5_35 (y_isTag (nI j)) (by decide) (Nat.le_refl _) (Nat.le_refl _) rfl rfl (Nat.le_of_ble_eq_true rfl) ?_
  refine mw_if_eq (tgt := 38) dX5_giveKind_4 (by decide) (fun c9 => absurd c9 ht) (fun _ => ?_)
  refine mw_aload_n (i := 0) dX5_giveKind_7 rfl rfl ?_
  refine mw_get dX5_giveKind_8 fk_X5_9 h_this rfl ?_
  refine mw_iload_n (i := 1) dX5_giveKind_11 rfl rfl ?_
  refine mw_iload_n (i := 2) dX5_giveKind_12 rfl rfl ?_
  refine mw_iast dX5_giveKind_13 h_this_kinds ix ?_
  refine mw_aload_n (i := 0) dX5_giveKind_14 rfl rfl ?_
  refine mw_get dX5_giveKind_15 fk_X5_15 ((mw_go (by omega)).trans h_this) rfl ?_
  refine mw_iload_n (i := 1) dX5_giveKind_18 rfl rfl ?_
  refine mw_iload_n (i := 2) dX5_giveKind_19 rfl rfl ?_
  refine mw_callSr dX5_giveKind_20 mk_X5_39 (y_typeOfKind k) (by decide) (Nat.le_refl _) (Nat.le_refl _) rfl rfl (Nat.le_of_ble_eq_true rfl) ?_
  refine mw_iast dX5_giveKind_23 ((mw_go (by omega)).trans h_this_types) ix ?_
  refine mw_aload_n (i := 0) dX5_giveKind_24 rfl rfl ?_
  refine mw_get dX5_giveKind_25 fk_X5_18 ((mw_go (by omega)).trans ((mw_go (by omega)).trans h_this)) rfl ?_
  refine mw_iload_n (i := 1) dX5_giveKind_28 rfl rfl ?_
  refine mw_iconst (v := 0) dX5_giveKind_29 (by decide) ?_
  refine mw_iast dX5_giveKind_30 ((mw_go (by omega)).trans ((mw_go (by omega)).trans h_this_defaults)) ix ?_
  refine mw_aload_n (i := 0) dX5_giveKind_31 rfl rfl ?_
  refine mw_get dX5_giveKind_32 fk_X5_21 ((mw_go (by omega)).trans ((mw_go (by omega)).trans ((mw_go (by omega)).trans h_this))) rfl ?_
  refine mw_iload_n (i := 1) dX5_giveKind_35 rfl rfl ?_
  refine mw_aload_n (i := 3) dX5_giveKind_36 rfl rfl ?_
  refine mw_aast ty_S dX5_giveKind_37 ((mw_go (by omega)).trans ((mw_go (by omega)).trans ((mw_go (by omega)).trans h_this_parts))) ix ((mw_go (by omega)).trans ((mw_go (by omega)).trans ((mw_go (by omega)).trans h_p3))) rfl ?_
  refine mw_return dX5_giveKind_38 rfl ⟨rfl, (((yF.rf.s (by simp)).s (by simp)).s (by simp)).s (by simp), isS_put (f1 := f1) (f2 := f2) (f3 := f3) (f4 := f4) (j := j) (d := 0) ?_ ?_ ?_ ?_ mw_gs hf1 hf2 hf3 hf4 hk e1 (fun _ => e3) (by rw [if_pos hk4, hb])⟩
  · exact (mw_go (by omega)).trans ((mw_go (by omega)).trans ((mw_go (by omega)).trans ((mw_go (by omega)).trans h_this)))
  · exact (mw_go (by omega)).trans ((mw_go (by omega)).trans ((mw_go (by omega)).trans mw_gs))
  · exact (mw_go (by omega)).trans mw_gs
  · exact (mw_go (by omega)).trans ((mw_go (by omega)).trans mw_gs)
theorem y_gKN {K K' : Nat → Nat → Int32} {s j a : Nat} {k : Int32} (hS : isS H K sa s a (a + 1) (a + 2) (a + 3) (a + 4)) (j1 : 1 ≤ j) (j2 : j ≤ 31) (hk : agr K K' s j) (e1 : K' 1 (32 * s + j) = k) (e3 : k ≠ -1 → K' 3 (32 * s + j) = 0) (hk4 : k ≠ 4) : mw_Con mm_X5_giveKind 1 0 0 [.ref a, .int (nI j), .int k, .null] H (fun v H' => v = .inl none ∧ yF [a + 1, a + 2, a + 3, a + 4] H H' ∧ isS H' K' sa s a (a + 1) (a + 2) (a + 3) (a + 4)) := by
  obtain ⟨h_this, ⟨f1, h_this_kinds, hf1⟩, ⟨f2, h_this_defaults, hf2⟩, ⟨f3, h_this_parts, hf3⟩, f4, h_this_types, hf4⟩ := hS
  have ht : ¬ zTag (nI j) = 0 := by rw [zTag_of j1 j2]; decide
  have ix := mw_ix rfl (show j < 32 by omega) (by decide)
  refine gm_con pl_X5 rfl rfl (Nat.le_of_ble_eq_true rfl) rfl ?_
  refine mw_iload_n (i := 1) dX5_giveKind_0 rfl rfl ?_
  refine mw_callSNr dX5_giveKind_1 mk_X5_35 (y_isTag (nI j)) (by decide) (Nat.le_refl _) (Nat.le_refl _) rfl rfl (Nat.le_of_ble_eq_true rfl) ?_
  refine mw_if_eq (tgt := 38) dX5_giveKind_4 (by decide) (fun c9 => absurd c9 ht) (fun _ => ?_)
  refine mw_aload_n (i := 0) dX5_giveKind_7 rfl rfl ?_
  refine mw_get dX5_giveKind_8 fk_X5_9 h_this rfl ?_
  refine mw_iload_n (i := 1) dX5_giveKind_11 rfl rfl ?_
  refine mw_iload_n (i := 2) dX5_giveKind_12 rfl rfl ?_
  refine mw_iast dX5_giveKind_13 h_this_kinds ix ?_
  refine mw_aload_n (i := 0) dX5_giveKind_14 rfl rfl ?_
  refine mw_get dX5_giveKind_15 fk_X5_15 ((mw_go (by omega)).trans h_this) rfl ?_
  refine mw_iload_n (i := 1) dX5_giveKind_18 rfl rfl ?_
  refine mw_iload_n (i := 2) dX5_giveKind_19 rfl rfl ?_
  refine mw_callSr dX5_giveKind_20 mk_X5_39 (y_typeOfKind k) (by decide) (Nat.le_refl _) (Nat.le_refl _) rfl rfl (Nat.le_of_ble_eq_true rfl) ?_
  refine mw_iast dX5_giveKind_23 ((mw_go (by omega)).trans h_this_types) ix ?_
  refine mw_aload_n (i := 0) dX5_giveKind_24 rfl rfl ?_
  refine mw_get dX5_giveKind_25 fk_X5_18 ((mw_go (by omega)).trans ((mw_go (by omega)).trans h_this)) rfl ?_
  refine mw_iload_n (i := 1) dX5_giveKind_28 rfl rfl ?_
  refine mw_iconst (v := 0) dX5_giveKind_29 (by decide) ?_
  refine mw_iast dX5_giveKind_30 ((mw_go (by omega)).trans ((mw_go (by omega)).trans h_this_defaults)) ix ?_
  refine mw_aload_n (i := 0) dX5_giveKind_31 rfl rfl ?_
  refine mw_get dX5_giveKind_32 fk_X5_21 ((mw_go (by omega)).trans ((mw_go (by omega)).trans ((mw_go (by omega)).trans h_this))) rfl ?_
  refine mw_iload_n (i := 1) dX5_giveKind_35 rfl rfl ?_
  refine mw_aload_nN (i := 3) dX5_giveKind_36 rfl rfl ?_
  refine mw_aastN ty_S dX5_giveKind_37 ((mw_go (by omega)).trans ((mw_go (by omega)).trans ((mw_go (by omega)).trans h_this_parts))) ix ?_
  refine mw_return dX5_giveKind_38 rfl ⟨rfl, (((yF.rf.s (by simp)).s (by simp)).s (by simp)).s (by simp), isS_put (f1 := f1) (f2 := f2) (f3 := f3) (f4 := f4) (j := j) (d := 0) ?_ ?_ ?_ ?_ mw_gs hf1 hf2 hf3 hf4 hk e1 e3 (by rw [if_neg hk4])⟩
  · exact (mw_go (by omega)).trans ((mw_go (by omega)).trans ((mw_go (by omega)).trans ((mw_go (by omega)).trans h_this)))
  · exact (mw_go (by omega)).trans ((mw_go (by omega)).trans ((mw_go (by omega)).trans mw_gs))
  · exact (mw_go (by omega)).trans mw_gs
  · exact (mw_go (by omega)).trans ((mw_go (by omega)).trans mw_gs)
theorem y_giveDefault {K K' : Nat → Nat → Int32} {s j a : Nat} {d : Int32} (hS : isS H K sa s a (a + 1) (a + 2) (a + 3) (a + 4)) (j1 : 1 ≤ j) (j2 : j ≤ 31) (h1 : ∀ t, 1 ≤ t → t ≤ 31 → K' 1 (32 * s + t) = K 1 (32 * s + t) ∧ pn K' s t = pn K s t) (h3 : ∀ t, 1 ≤ t → t ≤ 31 → t ≠ j → K' 3 (32 * s + t) = K 3 (32 * s + t)) (e3 : K' 3 (32 * s + j) = d) : mw_Con mm_X5_giveDefault 1 0 0 [.ref a, .int (nI j), .int d] H (fun v H' => v = .inl none ∧ yF [a + 3] H H' ∧ isS H' K' sa s a (a + 1) (a + 2) (a + 3) (a + 4)) := by
  obtain ⟨h_this, ⟨f1, h_this_kinds, hf1⟩, ⟨f2, h_this_defaults, hf2⟩, ⟨f3, h_this_parts, hf3⟩, f4, h_this_types, hf4⟩ := hS
  have ht : ¬ zTag (nI j) = 0 := by rw [zTag_of j1 j2]; decide
  have ix := mw_ix rfl (show j < 32 by omega) (by decide)
  refine gm_con pl_X5 rfl rfl (Nat.le_of_ble_eq_true rfl) rfl ?_
  refine mw_iload_n (i := 1) dX5_giveDefault_0 rfl rfl ?_
  refine mw_callSNr dX5_giveDefault_1 mk_X5_35 (y_isTag (nI j)) (by decide) (Nat.le_refl _) (Nat.le_refl _) rfl rfl (Nat.le_of_ble_eq_true rfl) ?_
  refine mw_if_eq (tgt := 14) dX5_giveDefault_4 (by decide) (fun c9 => absurd c9 ht) (fun _ => ?_)
  refine mw_aload_n (i := 0) dX5_giveDefault_7 rfl rfl ?_
  refine mw_get dX5_giveDefault_8 fk_X5_18 h_this rfl ?_
  refine mw_iload_n (i := 1) dX5_giveDefault_11 rfl rfl ?_
  refine mw_iload_n (i := 2) dX5_giveDefault_12 rfl rfl ?_
  refine mw_iast dX5_giveDefault_13 h_this_defaults ix ?_
  refine mw_return dX5_giveDefault_14 rfl ⟨rfl, yF.rf.s (by simp), (mw_go (by omega)).trans h_this, ⟨f1, (mw_go (by omega)).trans h_this_kinds, fun t t1 t2 => by rw [(h1 t t1 t2).1]; exact hf1 t t1 t2⟩, ⟨_, mw_gs, fun t t1 t2 hz => ?_⟩, ⟨f3, (mw_go (by omega)).trans h_this_parts, fun t t1 t2 => by rw [(h1 t t1 t2).1, (h1 t t1 t2).2]; exact hf3 t t1 t2⟩, ⟨f4, (mw_go (by omega)).trans h_this_types, fun t t1 t2 => by rw [(h1 t t1 t2).1]; exact hf4 t t1 t2⟩⟩
  by_cases e : t = j
  · rw [e, pk_us, e3]
  · rw [pk_un e, h3 t t1 t2 e]
    rw [(h1 t t1 t2).1] at hz
    exact hf2 t t1 t2 hz
/-- the tables of one schema have changed -/
theorem cC_tab {H' : mw_H} {K' : Nat → Nat → Int32} {s : Nat} (hC : cC g H sa ma) (hs : s < g.1) (hF : yF [sa s + 1, sa s + 2, sa s + 3, sa s + 4] H H') (hS : isS H' K' sa s (sa s) (sa s + 1) (sa s + 2) (sa s + 3) (sa s + 4)) (ho : ∀ s', s' < g.1 → s' ≠ s → isS H' K' sa s' (sa s') (sa s' + 1) (sa s' + 2) (sa s' + 3) (sa s' + 4)) (hw : wfK K' g.1) (hk : okK K' g.1) : cC (g.1, K', g.2.2) H' sa ma := by
  have h56 := hC.2.1.2.2.2.1 s hs
  have hlow : ∀ b ∈ [sa s + 1, sa s + 2, sa s + 3, sa s + 4], 54 < b := fun b hb => by
    simp only [List.mem_cons, List.not_mem_nil, or_false] at hb
    omega
  obtain ⟨⟨a1, a2, a3, a4, a5, a6⟩, ⟨b1, ⟨fS, b2, b3⟩, b4, b5, b6⟩, ⟨⟨fM, c1, c2⟩, c3, c4, c5, c6⟩, d1, d2⟩ := hC
  have hne : ∀ b, b ≤ 54 → b ∉ [sa s + 1, sa s + 2, sa s + 3, sa s + 4] := fun b hb hm => by have := hlow b hm; omega
  refine ⟨⟨a1, hw, hk, a4, a5, a6⟩, ⟨hF.g (hne 1 (by decide)) b1, ⟨fS, hF.g (hne 2 (by decide)) b2, b3⟩, fun s' hs' => ?_, b5, b6⟩, ⟨⟨fM, hF.g (hne 3 (by decide)) c1, c2⟩, fun m s' L hm hT => ?_, c4, c5, c6⟩, isB_F d1 hF (hne 4 (by decide)) (hne 5 (by decide)), ?_⟩
  · by_cases e : s' = s
    · rw [e]; exact hS
    · exact ho s' hs' e
  · refine cMg_M (c3 m s' L hm hT) hF.M (fun b hb => ?_)
    have := c6 s m hs hm (by rw [hT]; exact fun z => by cases z)
    simp only [List.mem_cons, List.not_mem_nil, or_false] at hb
    omega
  · exact cW_M d2 hF.M (Or.inl (fun b hb => by have := hlow b hb; omega)) (Or.inl (fun b hb => by have := hlow b hb; omega)) (Or.inl (fun b hb => by have := hlow b hb; omega)) (Or.inl (fun b hb => by have := hlow b hb; omega)) (Or.inl (fun b hb => by have := hlow b hb; omega)) (Or.inl (fun b hb => by have := hlow b hb; omega)) (Or.inl (fun b hb => by have := hlow b hb; omega))
theorem cC_oth {H' : mw_H} {K' : Nat → Nat → Int32} {s j : Nat} (hC : cC g H sa ma) (hs : s < g.1) (hF : yF [sa s + 1, sa s + 2, sa s + 3, sa s + 4] H H') (hk : agr g.2.1 K' s j) : ∀ s', s' < g.1 → s' ≠ s → isS H' K' sa s' (sa s') (sa s' + 1) (sa s' + 2) (sa s' + 3) (sa s' + 4) := by
  intro s' hs' hne
  have hd := hC.2.1.2.2.2.2 s s' hs hs' (fun z => hne z.symm)
  refine isS_K (isS_F (hC.2.1.2.2.1 s' hs') hF ?_ ?_ ?_ ?_ ?_) hk hne <;> (simp; omega)
theorem tix_n {s j : Nat} (hj : j < 2 ^ 31) : tix s (nI j) = 32 * s + j := by
  unfold tix
  rw [nI_clamp hj]
theorem agr_up {K K' : Nat → Nat → Int32} {s j : Nat} (j1 : 1 ≤ j) (j2 : j ≤ 31) (h1 : ∀ i, i ≠ 32 * s + j → K' 1 i = K 1 i) (h2 : ∀ i, i ≠ 32 * s + j → K' 2 i = K 2 i) (h3 : ∀ i, i ≠ 32 * s + j → K' 3 i = K 3 i) : agr K K' s j := by
  intro s' t t1 t2 hne
  have hi : 32 * s' + t ≠ 32 * s + j := fun z => by
    have : s' = s := by omega
    exact hne this (by omega)
  refine ⟨h1 _ hi, h3 _ hi, ?_⟩
  unfold pn
  rw [h2 _ hi]
theorem k_dropKind (hC : cC g H sa ma) (s t : Int32) : mw_Con mm_X6_dropKind 7 1 6 [.ref 1, .int s, .int t] H (cP H [eIO, eIA] (sp_dropKind g s t)) := by
  refine gm_con pl_X6 rfl rfl (Nat.le_of_ble_eq_true rfl) rfl ?_
  unfold sp_dropKind
  refine mw_wf (fun hw => ?_)
  have h_this := cC_x hC
  cases hs : sS g s with
  | none =>
    refine mw_aload_n (i := 0) dX6_dropKind_0 rfl rfl ?_
    refine mw_iload_n (i := 1) dX6_dropKind_1 rfl rfl ?_
    refine mw_callV dX6_dropKind_2 mk_X6_75 h_this rfl (y_sA0 hC hs) (by decide) (Nat.le_refl _) (Nat.le_refl _) rfl rfl (Nat.le_of_ble_eq_true rfl) (fun E9 h9 q9 => ?_) (fun v9 h9 q9 => ?_)
    · obtain ⟨e9, rfl⟩ := q9
      cases e9
      exact mw_out rfl (cP_x hC hw yG.rf 0 (by decide) rfl)
    · cases q9.1
  | some j =>
    obtain ⟨hj, rfl⟩ := sS_in (cC_ns hC) hs
    dsimp only
    have h6 := cC_ns hC
    by_cases ht : zTag t = 0
    · rw [if_pos ht]
      refine mw_aload_n (i := 0) dX6_dropKind_0 rfl rfl ?_
      refine mw_iload_n (i := 1) dX6_dropKind_1 rfl rfl ?_
      refine mw_callVr dX6_dropKind_2 mk_X6_75 h_this rfl (y_sA1 hC hs) (by decide) (Nat.le_refl _) (Nat.le_refl _) rfl rfl (Nat.le_of_ble_eq_true rfl) ?_
      refine mw_astore_3 dX6_dropKind_5 (by decide) ?_
      refine mw_iload_n (i := 2) dX6_dropKind_6 rfl rfl ?_
      refine mw_callS dX6_dropKind_7 mk_X6_79 (y_cT0 ht) (by decide) (Nat.le_refl _) (Nat.le_refl _) rfl rfl (Nat.le_of_ble_eq_true rfl) (fun E9 h9 q9 => ?_) (fun v9 h9 q9 => ?_)
      · obtain ⟨e9, rfl⟩ := q9
        cases e9
        exact mw_out rfl (cP_x hC hw yG.rf 1 (by decide) rfl)
      · cases q9.1
    · rw [if_neg ht]
      obtain ⟨tn, t1, t2, rfl⟩ := zTag_nI ht
      have hS := cC_sc hC hj
      have h_r2 := hS.1
      rw [tix_n (show tn < 2 ^ 31 by omega)]
      refine mw_aload_n (i := 0) dX6_dropKind_0 rfl rfl ?_
      refine mw_iload_n (i := 1) dX6_dropKind_1 rfl rfl ?_
      refine mw_callVr dX6_dropKind_2 mk_X6_75 h_this rfl (y_sA1 hC hs) (by decide) (Nat.le_refl _) (Nat.le_refl _) rfl rfl (Nat.le_of_ble_eq_true rfl) ?_
      refine mw_astore_3 dX6_dropKind_5 (by decide) ?_
      refine mw_iload_n (i := 2) dX6_dropKind_6 rfl rfl ?_
      refine mw_callSv dX6_dropKind_7 mk_X6_79 (y_cT1 ht) (by decide) (Nat.le_refl _) (Nat.le_refl _) rfl rfl (Nat.le_of_ble_eq_true rfl) ?_
      refine mw_aload_n (i := 3) dX6_dropKind_10 rfl rfl ?_
      refine mw_iload_n (i := 2) dX6_dropKind_11 rfl rfl ?_
      refine mw_callVr dX6_dropKind_12 mk_X6_87 h_r2 rfl (y_kindAt hS (nI tn)) (by decide) (Nat.le_refl _) (Nat.le_refl _) rfl rfl (Nat.le_of_ble_eq_true rfl) ?_
      refine mw_istore_4 dX6_dropKind_15 (by decide) ?_
      refine mw_aload_n (i := 3) dX6_dropKind_17 rfl rfl ?_
      refine mw_iload_n (i := 2) dX6_dropKind_18 rfl rfl ?_
      refine mw_iconst (v := -1) dX6_dropKind_19 (by decide) ?_
      refine mw_null dX6_dropKind_20 ?_
      have hag : agr g.2.1 (va_up g.2.1 1 (upd (g.2.1 1) (32 * j + tn) (-1))) j tn := agr_up t1 t2 (fun i hi => by rw [va_up_self, pk_un hi]) (fun i hi => by rw [va_up_ne _ _ (by decide)]) (fun i hi => by rw [va_up_ne _ _ (by decide)])
      refine mw_callV dX6_dropKind_21 mk_X6_91 h_r2 rfl (y_gKN hS t1 t2 hag (k := -1) (by rw [va_up_self, pk_us]) (fun z => absurd rfl z) (by decide)) (by decide) (Nat.le_refl _) (Nat.le_refl _) rfl rfl (Nat.le_of_ble_eq_true rfl) (fun E9 h9 q9 => ?_) (fun v9 h9 q9 => ?_)
      · cases q9.1
      obtain ⟨e9, u1, u2⟩ := q9
      cases e9
      refine mw_iload (i := 4) dX6_dropKind_24 rfl ?_
      rw [zKind_of t1 t2]
      have hwk := wfK_drop (s' := j) (t' := nI tn) (k := -1) (K' := va_up g.2.1 1 (upd (g.2.1 1) (32 * j + tn) (-1))) (cC_w hC) ht (by rw [tix_n (show tn < 2 ^ 31 by omega)]; exact va_up_self ..) (va_up_ne _ _ (by decide)) (by decide)
      exact mw_ireturn dX6_dropKind_26 ⟨_, rfl, rfl⟩ (cP_r (g := (g.1, va_up g.2.1 1 (upd (g.2.1 1) (32 * j + tn) (-1)), g.2.2)) (cC_tab hC hj u1 u2 (cC_oth hC hj u1 hag) hwk (okK_upd (cC_K hC) (k := -1) (Or.inl rfl) (va_up_self ..))) (u1.M.G (fun b hb => by have := hC.2.1.2.2.2.1 j hj; simp at hb; omega)))
theorem k_setDefault (hC : cC g H sa ma) (s t v : Int32) : mw_Con mm_X6_setDefault 7 1 6 [.ref 1, .int s, .int t, .int v] H (cP H [eIO, eIA, eIS] (sp_setDefault g s t v)) := by
  refine gm_con pl_X6 rfl rfl (Nat.le_of_ble_eq_true rfl) rfl ?_
  unfold sp_setDefault
  refine mw_wf (fun hw => ?_)
  have h_this := cC_x hC
  cases hs : sS g s with
  | none =>
    refine mw_aload_n (i := 0) dX6_setDefault_0 rfl rfl ?_
    refine mw_iload_n (i := 1) dX6_setDefault_1 rfl rfl ?_
    refine mw_callV dX6_setDefault_2 mk_X6_75 h_this rfl (y_sA0 hC hs) (by decide) (Nat.le_refl _) (Nat.le_refl _) rfl rfl (Nat.le_of_ble_eq_true rfl) (fun E9 h9 q9 => ?_) (fun v9 h9 q9 => ?_)
    · obtain ⟨e9, rfl⟩ := q9
      cases e9
      exact mw_out rfl (cP_x hC hw yG.rf 0 (by decide) rfl)
    · cases q9.1
  | some j =>
    obtain ⟨hj, rfl⟩ := sS_in (cC_ns hC) hs
    dsimp only
    have h6 := cC_ns hC
    by_cases ht : zTag t = 0
    · rw [if_pos ht]
      refine mw_aload_n (i := 0) dX6_setDefault_0 rfl rfl ?_
      refine mw_iload_n (i := 1) dX6_setDefault_1 rfl rfl ?_
      refine mw_callVr dX6_setDefault_2 mk_X6_75 h_this rfl (y_sA1 hC hs) (by decide) (Nat.le_refl _) (Nat.le_refl _) rfl rfl (Nat.le_of_ble_eq_true rfl) ?_
      refine mw_astore_4 dX6_setDefault_5 (by decide) ?_
      refine mw_iload_n (i := 2) dX6_setDefault_7 rfl rfl ?_
      refine mw_callS dX6_setDefault_8 mk_X6_79 (y_cT0 ht) (by decide) (Nat.le_refl _) (Nat.le_refl _) rfl rfl (Nat.le_of_ble_eq_true rfl) (fun E9 h9 q9 => ?_) (fun v9 h9 q9 => ?_)
      · obtain ⟨e9, rfl⟩ := q9
        cases e9
        exact mw_out rfl (cP_x hC hw yG.rf 1 (by decide) rfl)
      · cases q9.1
    · rw [if_neg ht]
      obtain ⟨tn, t1, t2, rfl⟩ := zTag_nI ht
      have hS := cC_sc hC hj
      have h_r2 := hS.1
      rw [tix_n (show tn < 2 ^ 31 by omega)]
      refine mw_aload_n (i := 0) dX6_setDefault_0 rfl rfl ?_
      refine mw_iload_n (i := 1) dX6_setDefault_1 rfl rfl ?_
      refine mw_callVr dX6_setDefault_2 mk_X6_75 h_this rfl (y_sA1 hC hs) (by decide) (Nat.le_refl _) (Nat.le_refl _) rfl rfl (Nat.le_of_ble_eq_true rfl) ?_
      refine mw_astore_4 dX6_setDefault_5 (by decide) ?_
      refine mw_iload_n (i := 2) dX6_setDefault_7 rfl rfl ?_
      refine mw_callSv dX6_setDefault_8 mk_X6_79 (y_cT1 ht) (by decide) (Nat.le_refl _) (Nat.le_refl _) rfl rfl (Nat.le_of_ble_eq_true rfl) ?_
      refine mw_aload (i := 4) dX6_setDefault_11 rfl ?_
      refine mw_iload_n (i := 2) dX6_setDefault_13 rfl rfl ?_
      refine mw_callVr dX6_setDefault_14 mk_X6_95 h_r2 rfl (y_hasInt hS (nI tn)) (by decide) (Nat.le_refl _) (Nat.le_refl _) rfl rfl (Nat.le_of_ble_eq_true rfl) ?_
      by_cases hi : zInt (zKind g.2.1 j (nI tn)) = 0
      · rw [if_pos hi]
        refine mw_if_ne (tgt := 30) dX6_setDefault_17 (by decide) (fun c9 => absurd c9 (fun z => z hi)) (fun _ => ?_)
        refine mw_throw th_X6_65_99_69 dX6_setDefault_20 dX6_setDefault_23 dX6_setDefault_24 dX6_setDefault_26 dX6_setDefault_29 rfl (by decide) (by decide) (by decide) (Nat.le_of_ble_eq_true rfl) (cP_x hC hw yG.rf 2 (by decide) rfl)
      · rw [if_neg hi]
        refine mw_if_ne (tgt := 30) dX6_setDefault_17 (by decide) (fun _ => ?_) (fun c9 => absurd c9 hi)
        refine mw_aload (i := 4) dX6_setDefault_30 rfl ?_
        refine mw_iload_n (i := 2) dX6_setDefault_32 rfl rfl ?_
        refine mw_callVr dX6_setDefault_33 mk_X6_101 h_r2 rfl (y_defaultAt hS t1 t2 (zInt_ne hi)) (by decide) (Nat.le_refl _) (Nat.le_refl _) rfl rfl (Nat.le_of_ble_eq_true rfl) ?_
        refine mw_istore_5 dX6_setDefault_36 (by decide) ?_
        refine mw_aload (i := 4) dX6_setDefault_38 rfl ?_
        refine mw_iload_n (i := 2) dX6_setDefault_40 rfl rfl ?_
        refine mw_iload_n (i := 3) dX6_setDefault_41 rfl rfl ?_
        refine mw_callV dX6_setDefault_42 mk_X6_104 h_r2 rfl (y_giveDefault (K' := va_up g.2.1 3 (upd (g.2.1 3) (32 * j + tn) v)) hS t1 t2 (fun t _ _ => ⟨by rw [va_up_ne _ _ (by decide)], by unfold pn; rw [va_up_ne _ _ (by decide)]⟩) (fun t _ _ hne => by rw [va_up_self, pk_un (by omega)]) (by rw [va_up_self, pk_us])) (by decide) (Nat.le_refl _) (Nat.le_refl _) rfl rfl (Nat.le_of_ble_eq_true rfl) (fun E9 h9 q9 => ?_) (fun v9 h9 q9 => ?_)
        · cases q9.1
        obtain ⟨e9, u1, u2⟩ := q9
        cases e9
        have hag : agr g.2.1 (va_up g.2.1 3 (upd (g.2.1 3) (32 * j + tn) v)) j tn := agr_up t1 t2 (fun i hi => by rw [va_up_ne _ _ (by decide)]) (fun i hi => by rw [va_up_ne _ _ (by decide)]) (fun i hi => by rw [va_up_self, pk_un hi])
        have u1 := u1.mo (S' := [sa j + 1, sa j + 2, sa j + 3, sa j + 4]) (fun b hb => by simp at hb; simp; omega)
        refine mw_iload (i := 5) dX6_setDefault_45 rfl ?_
        have hwk : wfK (va_up g.2.1 3 (upd (g.2.1 3) (32 * j + tn) v)) g.1 := wfK_cong (va_up_ne _ _ (by decide)) (va_up_ne _ _ (by decide)) (cC_w hC)
        have hok : okK (va_up g.2.1 3 (upd (g.2.1 3) (32 * j + tn) v)) g.1 := by
          intro s t h1 h2 h3
          rw [va_up_ne _ _ (by decide)]
          exact cC_K hC s t h1 h2 h3
        exact mw_ireturn dX6_setDefault_47 ⟨_, rfl, rfl⟩ (cP_r (g := (g.1, va_up g.2.1 3 (upd (g.2.1 3) (32 * j + tn) v), g.2.2)) (cC_tab hC hj u1 u2 (cC_oth hC hj u1 hag) hwk hok) (u1.M.G (fun b hb => by have := hC.2.1.2.2.2.1 j hj; simp at hb; omega)))
theorem k_setKind (hC : cC g H sa ma) (s t k o : Int32) : mw_Con mm_X6_setKind 7 1 6 [.ref 1, .int s, .int t, .int k, .int o] H (cP H [eIO, eIA] (sp_setKind g s t k o)) := by
  refine gm_con pl_X6 rfl rfl (Nat.le_of_ble_eq_true rfl) rfl ?_
  unfold sp_setKind
  refine mw_wf (fun hw => ?_)
  have h_this := cC_x hC
  cases hs : sS g s with
  | none =>
    refine mw_aload_n (i := 0) dX6_setKind_0 rfl rfl ?_
    refine mw_iload_n (i := 1) dX6_setKind_1 rfl rfl ?_
    refine mw_callV dX6_setKind_2 mk_X6_75 h_this rfl (y_sA0 hC hs) (by decide) (Nat.le_refl _) (Nat.le_refl _) rfl rfl (Nat.le_of_ble_eq_true rfl) (fun E9 h9 q9 => ?_) (fun v9 h9 q9 => ?_)
    · obtain ⟨e9, rfl⟩ := q9
      cases e9
      exact mw_out rfl (cP_x hC hw yG.rf 0 (by decide) rfl)
    · cases q9.1
  | some j =>
    obtain ⟨hj, rfl⟩ := sS_in (cC_ns hC) hs
    dsimp only
    have h6 := cC_ns hC
    have hS := cC_sc hC hj
    have h_r2 := hS.1
    by_cases hk4 : k = 4
    · subst hk4
      cases ho : sS g o with
      | none =>
        rw [if_pos ⟨rfl, rfl⟩]
        refine mw_aload_n (i := 0) dX6_setKind_0 rfl rfl ?_
        refine mw_iload_n (i := 1) dX6_setKind_1 rfl rfl ?_
        refine mw_callVr dX6_setKind_2 mk_X6_75 h_this rfl (y_sA1 hC hs) (by decide) (Nat.le_refl _) (Nat.le_refl _) rfl rfl (Nat.le_of_ble_eq_true rfl) ?_
        refine mw_astore_5 dX6_setKind_5 (by decide) ?_
        refine mw_iload_n (i := 3) dX6_setKind_7 rfl rfl ?_
        refine mw_iconst (v := 4) dX6_setKind_8 (by decide) ?_
        refine mw_icmp_ne (tgt := 21) dX6_setKind_9 (by decide) (fun c9 => absurd c9 (fun z => z rfl)) (fun _ => ?_)
        refine mw_aload_n (i := 0) dX6_setKind_12 rfl rfl ?_
        refine mw_iload (i := 4) dX6_setKind_13 rfl ?_
        refine mw_callV dX6_setKind_15 mk_X6_75 h_this rfl (y_sA0 hC ho) (by decide) (Nat.le_refl _) (Nat.le_refl _) rfl rfl (Nat.le_of_ble_eq_true rfl) (fun E9 h9 q9 => ?_) (fun v9 h9 q9 => ?_)
        · obtain ⟨e9, rfl⟩ := q9
          cases e9
          exact mw_out rfl (cP_x hC hw yG.rf 0 (by decide) rfl)
        · cases q9.1
      | some o' =>
        obtain ⟨ho6, rfl⟩ := sS_in (cC_ns hC) ho
        rw [if_neg (fun z => by cases z.2)]
        refine mw_aload_n (i := 0) dX6_setKind_0 rfl rfl ?_
        refine mw_iload_n (i := 1) dX6_setKind_1 rfl rfl ?_
        refine mw_callVr dX6_setKind_2 mk_X6_75 h_this rfl (y_sA1 hC hs) (by decide) (Nat.le_refl _) (Nat.le_refl _) rfl rfl (Nat.le_of_ble_eq_true rfl) ?_
        refine mw_astore_5 dX6_setKind_5 (by decide) ?_
        refine mw_iload_n (i := 3) dX6_setKind_7 rfl rfl ?_
        refine mw_iconst (v := 4) dX6_setKind_8 (by decide) ?_
        refine mw_icmp_ne (tgt := 21) dX6_setKind_9 (by decide) (fun c9 => absurd c9 (fun z => z rfl)) (fun _ => ?_)
        refine mw_aload_n (i := 0) dX6_setKind_12 rfl rfl ?_
        refine mw_iload (i := 4) dX6_setKind_13 rfl ?_
        refine mw_callVr dX6_setKind_15 mk_X6_75 h_this rfl (y_sA1 hC ho) (by decide) (Nat.le_refl _) (Nat.le_refl _) rfl rfl (Nat.le_of_ble_eq_true rfl) ?_
        refine mw_goto (tgt := 22) dX6_setKind_18 (by decide) ?_
        refine mw_astore_6 dX6_setKind_22 (by decide) ?_
        by_cases ht : zTag t = 0
        · rw [if_pos (Or.inl ht)]
          refine mw_iload_n (i := 2) dX6_setKind_24 rfl rfl ?_
          refine mw_callS dX6_setKind_25 mk_X6_79 (y_cT0 ht) (by decide) (Nat.le_refl _) (Nat.le_refl _) rfl rfl (Nat.le_of_ble_eq_true rfl) (fun E9 h9 q9 => ?_) (fun v9 h9 q9 => ?_)
          · obtain ⟨e9, rfl⟩ := q9
            cases e9
            exact mw_out rfl (cP_x hC hw yG.rf 1 (by decide) rfl)
          · cases q9.1
        · obtain ⟨tn, t1, t2, rfl⟩ := zTag_nI ht
          rw [if_neg (fun z => z.elim ht (by decide)), tix_n (show tn < 2 ^ 31 by omega)]
          generalize hK' : va_up (va_up (va_up g.2.1 1 (upd (g.2.1 1) (32 * j + tn) 4)) 2 (upd (g.2.1 2) (32 * j + tn) (nI o'))) 3 (upd (g.2.1 3) (32 * j + tn) 0) = K'
          have f1 : K' 1 = upd (g.2.1 1) (32 * j + tn) 4 := by rw [← hK']; rfl
          have f2 : K' 2 = upd (g.2.1 2) (32 * j + tn) (nI o') := by rw [← hK']; rfl
          have f3 : K' 3 = upd (g.2.1 3) (32 * j + tn) 0 := by rw [← hK']; rfl
          clear hK'
          have hag : agr g.2.1 K' j tn := agr_up t1 t2 (fun i hi => by rw [f1, pk_un hi]) (fun i hi => by rw [f2, pk_un hi]) (fun i hi => by rw [f3, pk_un hi])
          have hpn : pn K' j tn = o' := by unfold pn; rw [f2, pk_us, nI_clamp (by omega)]
          refine mw_iload_n (i := 2) dX6_setKind_24 rfl rfl ?_
          refine mw_callSv dX6_setKind_25 mk_X6_79 (y_cT1 ht) (by decide) (Nat.le_refl _) (Nat.le_refl _) rfl rfl (Nat.le_of_ble_eq_true rfl) ?_
          refine mw_iload_n (i := 3) dX6_setKind_28 rfl rfl ?_
          refine mw_if_lt (tgt := 37) dX6_setKind_29 (by decide) (fun c9 => absurd c9 (by first | decide | (rw [pk_us]; decide))) (fun _ => ?_)
          refine mw_iload_n (i := 3) dX6_setKind_32 rfl rfl ?_
          refine mw_iconst (v := 4) dX6_setKind_33 (by decide) ?_
          refine mw_icmp_le (tgt := 47) dX6_setKind_34 (by decide) (fun _ => ?_) (fun c9 => absurd c9 (by first | decide | (rw [pk_us]; decide)))
          refine mw_aload (i := 5) dX6_setKind_47 rfl ?_
          refine mw_iload_n (i := 2) dX6_setKind_49 rfl rfl ?_
          refine mw_callVr dX6_setKind_50 mk_X6_87 h_r2 rfl (y_kindAt hS (nI tn)) (by decide) (Nat.le_refl _) (Nat.le_refl _) rfl rfl (Nat.le_of_ble_eq_true rfl) ?_
          refine mw_istore_7 dX6_setKind_53 (by decide) ?_
          refine mw_aload (i := 5) dX6_setKind_55 rfl ?_
          refine mw_iload_n (i := 2) dX6_setKind_57 rfl rfl ?_
          refine mw_iload_n (i := 3) dX6_setKind_58 rfl rfl ?_
          refine mw_aload (i := 6) dX6_setKind_59 rfl ?_
          refine mw_callV dX6_setKind_61 mk_X6_91 h_r2 rfl (y_gK1 hS t1 t2 (cC_sc hC ho6).1 hag (k := 4) (by rw [f1, pk_us]) (by rw [f3, pk_us]) rfl (by rw [hpn])) (by decide) (Nat.le_refl _) (Nat.le_refl _) rfl rfl (Nat.le_of_ble_eq_true rfl) (fun E9 h9 q9 => ?_) (fun v9 h9 q9 => ?_)
          · cases q9.1
          obtain ⟨e9, u1, u2⟩ := q9
          cases e9
          refine mw_iload (i := 7) dX6_setKind_64 rfl ?_
          rw [zKind_of t1 t2]
          have hwk := wfK_upd (s' := j) (t' := nI tn) (k := 4) (o := nI o') (K' := K') (cC_w hC) ht (by rw [tix_n (show tn < 2 ^ 31 by omega)]; exact f1) (by rw [tix_n (show tn < 2 ^ 31 by omega)]; exact f2) (fun _ => ⟨o', ho6, by omega, rfl⟩)
          exact mw_ireturn dX6_setKind_66 ⟨_, rfl, rfl⟩ (cP_r (g := (g.1, K', g.2.2)) (cC_tab hC hj u1 u2 (cC_oth hC hj u1 hag) hwk (okK_upd (cC_K hC) (k := 4) (Or.inr ⟨4, by decide, rfl⟩) f1)) (u1.M.G (fun b hb => by have := hC.2.1.2.2.2.1 j hj; simp at hb; omega)))
    · rw [if_neg (fun z => hk4 z.1)]
      refine mw_aload_n (i := 0) dX6_setKind_0 rfl rfl ?_
      refine mw_iload_n (i := 1) dX6_setKind_1 rfl rfl ?_
      refine mw_callVr dX6_setKind_2 mk_X6_75 h_this rfl (y_sA1 hC hs) (by decide) (Nat.le_refl _) (Nat.le_refl _) rfl rfl (Nat.le_of_ble_eq_true rfl) ?_
      refine mw_astore_5 dX6_setKind_5 (by decide) ?_
      refine mw_iload_n (i := 3) dX6_setKind_7 rfl rfl ?_
      refine mw_iconst (v := 4) dX6_setKind_8 (by decide) ?_
      refine mw_icmp_ne (tgt := 21) dX6_setKind_9 (by decide) (fun _ => ?_) (fun c9 => absurd c9 hk4)
      refine mw_null dX6_setKind_21 ?_
      refine mw_astoreN_6 dX6_setKind_22 (by decide) ?_
      by_cases ht : zTag t = 0
      · rw [if_pos (Or.inl ht)]
        refine mw_iload_n (i := 2) dX6_setKind_24 rfl rfl ?_
        refine mw_callS dX6_setKind_25 mk_X6_79 (y_cT0 ht) (by decide) (Nat.le_refl _) (Nat.le_refl _) rfl rfl (Nat.le_of_ble_eq_true rfl) (fun E9 h9 q9 => ?_) (fun v9 h9 q9 => ?_)
        · obtain ⟨e9, rfl⟩ := q9
          cases e9
          exact mw_out rfl (cP_x hC hw yG.rf 1 (by decide) rfl)
        · cases q9.1
      · obtain ⟨tn, t1, t2, rfl⟩ := zTag_nI ht
        by_cases hk0 : zIn k 0 4 = 0
        · rw [if_pos (Or.inr hk0)]
          by_cases hk1 : k < 0
          · refine mw_iload_n (i := 2) dX6_setKind_24 rfl rfl ?_
            refine mw_callSv dX6_setKind_25 mk_X6_79 (y_cT1 ht) (by decide) (Nat.le_refl _) (Nat.le_refl _) rfl rfl (Nat.le_of_ble_eq_true rfl) ?_
            refine mw_iload_n (i := 3) dX6_setKind_28 rfl rfl ?_
            refine mw_if_lt (tgt := 37) dX6_setKind_29 (by decide) (fun _ => ?_) (fun c9 => absurd c9 (fun z => z hk1))
            refine mw_throw th_X6_82_84_86 dX6_setKind_37 dX6_setKind_40 dX6_setKind_41 dX6_setKind_43 dX6_setKind_46 rfl (by decide) (by decide) (by decide) (Nat.le_of_ble_eq_true rfl) (cP_x hC hw yG.rf 1 (by decide) rfl)
          · have hk2 : (4 : Int32) < k := by
              unfold zIn at hk0
              rw [if_neg hk1] at hk0
              by_cases z : (4 : Int32) < k
              · exact z
              · rw [if_neg z] at hk0
                exact absurd hk0 (by decide)
            refine mw_iload_n (i := 2) dX6_setKind_24 rfl rfl ?_
            refine mw_callSv dX6_setKind_25 mk_X6_79 (y_cT1 ht) (by decide) (Nat.le_refl _) (Nat.le_refl _) rfl rfl (Nat.le_of_ble_eq_true rfl) ?_
            refine mw_iload_n (i := 3) dX6_setKind_28 rfl rfl ?_
            refine mw_if_lt (tgt := 37) dX6_setKind_29 (by decide) (fun c9 => absurd c9 hk1) (fun _ => ?_)
            refine mw_iload_n (i := 3) dX6_setKind_32 rfl rfl ?_
            refine mw_iconst (v := 4) dX6_setKind_33 (by decide) ?_
            refine mw_icmp_le (tgt := 47) dX6_setKind_34 (by decide) (fun c9 => absurd c9 (Int32.not_le.mpr hk2)) (fun _ => ?_)
            refine mw_throw th_X6_82_84_86 dX6_setKind_37 dX6_setKind_40 dX6_setKind_41 dX6_setKind_43 dX6_setKind_46 rfl (by decide) (by decide) (by decide) (Nat.le_of_ble_eq_true rfl) (cP_x hC hw yG.rf 1 (by decide) rfl)
        · rw [if_neg (fun z => z.elim ht hk0), tix_n (show tn < 2 ^ 31 by omega)]
          obtain ⟨kn, hkn, rfl⟩ := zIn04 hk0
          generalize hK' : va_up (va_up (va_up g.2.1 1 (upd (g.2.1 1) (32 * j + tn) (nI kn))) 2 (upd (g.2.1 2) (32 * j + tn) o)) 3 (upd (g.2.1 3) (32 * j + tn) 0) = K'
          have f1 : K' 1 = upd (g.2.1 1) (32 * j + tn) (nI kn) := by rw [← hK']; rfl
          have f2 : K' 2 = upd (g.2.1 2) (32 * j + tn) o := by rw [← hK']; rfl
          have f3 : K' 3 = upd (g.2.1 3) (32 * j + tn) 0 := by rw [← hK']; rfl
          clear hK'
          have hag : agr g.2.1 K' j tn := agr_up t1 t2 (fun i hi => by rw [f1, pk_un hi]) (fun i hi => by rw [f2, pk_un hi]) (fun i hi => by rw [f3, pk_un hi])
          refine mw_iload_n (i := 2) dX6_setKind_24 rfl rfl ?_
          refine mw_callSv dX6_setKind_25 mk_X6_79 (y_cT1 ht) (by decide) (Nat.le_refl _) (Nat.le_refl _) rfl rfl (Nat.le_of_ble_eq_true rfl) ?_
          refine mw_iload_n (i := 3) dX6_setKind_28 rfl rfl ?_
          refine mw_if_lt (tgt := 37) dX6_setKind_29 (by decide) (fun c9 => absurd c9 (nI_pos (by omega))) (fun _ => ?_)
          refine mw_iload_n (i := 3) dX6_setKind_32 rfl rfl ?_
          refine mw_iconst (v := 4) dX6_setKind_33 (by decide) ?_
          refine mw_icmp_le (tgt := 47) dX6_setKind_34 (by decide) (fun _ => ?_) (fun c9 => absurd c9 (fun z => z (nI_le (b := 4) hkn (by decide))))
          refine mw_aload (i := 5) dX6_setKind_47 rfl ?_
          refine mw_iload_n (i := 2) dX6_setKind_49 rfl rfl ?_
          refine mw_callVr dX6_setKind_50 mk_X6_87 h_r2 rfl (y_kindAt hS (nI tn)) (by decide) (Nat.le_refl _) (Nat.le_refl _) rfl rfl (Nat.le_of_ble_eq_true rfl) ?_
          refine mw_istore_7 dX6_setKind_53 (by decide) ?_
          refine mw_aload (i := 5) dX6_setKind_55 rfl ?_
          refine mw_iload_n (i := 2) dX6_setKind_57 rfl rfl ?_
          refine mw_iload_n (i := 3) dX6_setKind_58 rfl rfl ?_
          refine mw_aloadN (i := 6) dX6_setKind_59 rfl ?_
          refine mw_callV dX6_setKind_61 mk_X6_91 h_r2 rfl (y_gKN hS t1 t2 hag (k := nI kn) (by rw [f1, pk_us]) (fun _ => by rw [f3, pk_us]) hk4) (by decide) (Nat.le_refl _) (Nat.le_refl _) rfl rfl (Nat.le_of_ble_eq_true rfl) (fun E9 h9 q9 => ?_) (fun v9 h9 q9 => ?_)
          · cases q9.1
          obtain ⟨e9, u1, u2⟩ := q9
          cases e9
          refine mw_iload (i := 7) dX6_setKind_64 rfl ?_
          rw [zKind_of t1 t2]
          have hwk := wfK_upd (s' := j) (t' := nI tn) (k := nI kn) (o := o) (K' := K') (cC_w hC) ht (by rw [tix_n (show tn < 2 ^ 31 by omega)]; exact f1) (by rw [tix_n (show tn < 2 ^ 31 by omega)]; exact f2) (fun z => absurd z hk4)
          exact mw_ireturn dX6_setKind_66 ⟨_, rfl, rfl⟩ (cP_r (g := (g.1, K', g.2.2)) (cC_tab hC hj u1 u2 (cC_oth hC hj u1 hag) hwk (okK_upd (cC_K hC) (k := nI kn) (Or.inr ⟨kn, hkn, rfl⟩) f1)) (u1.M.G (fun b hb => by have := hC.2.1.2.2.2.1 j hj; simp at hb; omega)))
end CC
