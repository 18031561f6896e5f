/-! schemas: written by gen/82.py (class side) -/
theorem and_nn (y : Int32) (c : Nat) : ∃ j : Nat, j ≤ c ∧ y &&& nI c = nI j := by
  refine ⟨uN y &&& c, Nat.and_le_right, ?_⟩
  rw [← fa_and, nI_uN]
theorem mR_cong {g : mS} {A A' : Nat → Nat → Int32} {X X' : Nat → Nat → Int64} (hM : mR g A X) (h0 : A' 0 = A 0) (h1 : A' 1 = A 1) (h2 : A' 2 = A 2) (h8 : A' 8 = A 8) (g0 : A' 11 0 = A 11 0) (g1 : A' 11 1 = A 11 1) (hR : ∀ m s L, m < 5 → g.2.2.1 m = some (s, L) → fR A' X' m L) : mR g A' X' := by
  obtain ⟨a1, a2, a3, a4, a5, a6, a7, a8⟩ := hM
  refine ⟨kR_cong a1 h0 h1, g0.trans a2, fun m hm => ?_, a4, g1.trans a5, a6, fun j hj => by rw [h8]; exact a7 j hj, fun j hj => by rw [h0]; exact a8 j hj⟩
  rw [h2]
  exact ⟨(a3 m hm).1, fun s L hT => ⟨((a3 m hm).2 s L hT).1, hR m s L hm hT⟩⟩
theorem mR_fF {g : mS} {A A' : Nat → Nat → Int32} {X X' : Nat → Nat → Int64} {m : Nat} (hM : mR g A X) (hT : g.2.2.1 m = none) (hF : fF m A X A' X') : mR g A' X' := by
  refine mR_cong hM (hF.1 0 (by decide) (by decide) (by decide) (by decide)) (hF.1 1 (by decide) (by decide) (by decide) (by decide)) (hF.1 2 (by decide) (by decide) (by decide) (by decide)) (hF.1 8 (by decide) (by decide) (by decide) (by decide)) (hF.2.1 0 (by decide)) (hF.2.1 1 (by decide)) (fun m' s L hm' hT' => ?_)
  refine hF.fR (fun z => ?_) ((hM.2.2.1 m' hm').2 s L hT').2
  rw [z, hT] at hT'
  cases hT'
theorem kR_upd {K K' : Nat → Nat → Int32} {ns s i κ o : Nat} {A A' : Nat → Nat → Int32} (hk : kR K ns A) (hs : s < ns) (hi : i < 6) (hκ : κ ≤ 5) (ho : o < 4) (e1 : K' 1 (32 * s + tg i) = nI κ - 1) (e1' : ∀ j, j ≠ 32 * s + tg i → K' 1 j = K 1 j) (e2 : κ = 5 → o < ns ∧ K' 2 (32 * s + tg i) = nI o) (e2' : ∀ j, j ≠ 32 * s + tg i → K' 2 j = K 2 j) (e3' : ∀ j, j ≠ 32 * s + tg i → K' 3 j = K 3 j) (a0 : A' 0 (6 * s + i) = nI (κ + 8 * o)) (a0' : ∀ j, j ≠ 6 * s + i → A' 0 j = A 0 j) (a1 : 1 ≤ κ ∧ κ ≤ 3 → A' 1 (6 * s + i) = K' 3 (32 * s + tg i)) (a1' : ∀ j, j ≠ 6 * s + i → A' 1 j = A 1 j) : kR K' ns A' := by
  have ht := tg_in hi
  refine ⟨hk.1, fun s' i' hs' hi' => ?_, fun s' t hs' h1 h2 hno => ?_⟩
  · have ht' := tg_in hi'
    by_cases e : s' = s ∧ i' = i
    · obtain ⟨rfl, rfl⟩ := e
      exact ⟨κ, o, hκ, ho, a0, e1, e2, a1⟩
    · obtain ⟨κ', o', k1, k2, k3, k4, k5, k6⟩ := hk.2.1 s' i' hs' hi'
      have n1 : 32 * s' + tg i' ≠ 32 * s + tg i := fun z => e ⟨by omega, tg_inj hi' hi (by omega)⟩
      have n2 : 6 * s' + i' ≠ 6 * s + i := fun z => e ⟨by omega, by omega⟩
      exact ⟨κ', o', k1, k2, by rw [a0' _ n2]; exact k3, by rw [e1' _ n1]; exact k4, fun z => by rw [e2' _ n1]; exact k5 z, fun z => by rw [a1' _ n2, e3' _ n1]; exact k6 z⟩
  · rw [e1' _ (fun z => hno i hi (by omega))]
    exact hk.2.2 s' t hs' h1 h2 hno
/-- the end of a change of the law: the answer is true, the arrays hold what the class holds -/
def lwP (sc : mSc) : mw_P := fun v h' => v = .inl (some (.int 1)) ∧ ∃ g' H' A' X', h' = gl H' A' X' ∧ cS sc g' H' A' X' ∧ mR g' A' X'
section SC
variable {sc : mSc} {g : mS} {H : mw_H} {A : Nat → Nat → Int32} {X : Nat → Nat → Int64}
theorem mR_K (hM : mR g A X) {K' A' : Nat → Nat → Int32} (hk : kR K' g.1 A') (hA : ∀ j, j ≠ 0 → j ≠ 1 → A' j = A j) (h0 : ∀ j, 6 * g.1 ≤ j → A' 0 j = A 0 j) : mR (g.1, K', g.2.2) A' X := by
  obtain ⟨a1, a2, a3, a4, a5, a6, a7, a8⟩ := hM
  refine ⟨hk, by rw [hA 11 (by decide) (by decide)]; exact a2, fun m hm => ?_, a4, by rw [hA 11 (by decide) (by decide)]; exact a5, a6, fun j hj => by rw [hA 8 (by decide) (by decide)]; exact a7 j hj, fun j hj => by rw [h0 j hj]; exact a8 j hj⟩
  rw [hA 2 (by decide) (by decide)]
  exact ⟨(a3 m hm).1, fun s L hT => ⟨((a3 m hm).2 s L hT).1, fR_cong ((a3 m hm).2 s L hT).2 (by rw [hA 3 (by decide) (by decide)]) (fun p _ _ => ⟨by rw [hA 4 (by decide) (by decide)], by rw [hA 5 (by decide) (by decide)], rfl, rfl⟩)⟩⟩
theorem zTag_32 : zTag 32 = 0 := by decide
theorem zTag_0 : zTag 0 = 0 := by decide
theorem c_schemas (hI : cS sc g H A X) (hM : mR g A X) {a : Nat} (ha : a < 24) (y : Int32) : mw_Con mm_L_schemas 9 6 140 [.ref 1, .int (nI a), .int y, .ref 43, .ref 44, .ref 54] (gl H A X) (lwP sc) := by
  have hgok := cS_ok hI
  have h4 := mR_ns hM
  obtain ⟨hk, hg0, -, -, -, -, -, hz0⟩ := id hM
  refine gm_con pl_L rfl rfl (Nat.le_of_ble_eq_true rfl) rfl ?_
  have hadd : ∀ (ls6 ls7 ls8 ls9 ls10 ls11 : Option Value), mw_W mm_L_schemas 9 6 140 11 [some (.ref 1), some (.int (nI a)), some (.int y), some (.ref 43), some (.ref 44), some (.ref 54), ls6, ls7, ls8, ls9, ls10, ls11] [] (gl H A X) (lwP sc) := by
    intro ls6 ls7 ls8 ls9 ls10 ls11
    refine mw_aload (i := 5) dL_schemas_11 rfl ?_
    refine mw_iconst (v := 0) dL_schemas_13 (by decide) ?_
    refine mw_iald dL_schemas_14 gl_11 (mw_ix (j := 0) rfl (by decide) (by decide)) ?_
    rw [hg0]
    by_cases e4 : g.1 = 4
    · have hsp : sp_setKind g 4 1 0 0 = (1, 0, g) := by
        unfold sp_setKind
        rw [show sS g 4 = none by have := sS_out (g := g) (by omega); rw [e4] at this; exact this]
      have hw := w_setKind hI 4 1 0 0
      rw [hsp] at hw
      refine mw_iconst (v := 4) dL_schemas_15 (by decide) ?_
      refine mw_icmp_ne (tgt := 38) dL_schemas_16 (by decide) (fun c9 => absurd c9 (by first | decide | exact (fun q => q rfl) | ((try simp only [fa_lit]); first | exact cq_le (by omega) (by omega) | exact cq_nle (by omega) (by omega) | exact cq_lt (by omega) (by omega) | exact cq_nlt (by omega) (by omega) | exact cq_eq (by omega) (by omega) (by omega) | exact cq_neq (by omega)))) (fun _ => ?_)
      refine mw_aload_n (i := 0) dL_schemas_19 rfl rfl ?_
      refine mw_iconst (v := 4) dL_schemas_20 (by decide) ?_
      refine mw_iconst (v := 1) dL_schemas_21 (by decide) ?_
      refine mw_iconst (v := 0) dL_schemas_22 (by decide) ?_
      refine mw_iconst (v := 0) dL_schemas_23 (by decide) ?_
      refine mw_callSX dL_schemas_24 mk_L_122 (hw) (by decide) (Nat.le_refl _) (Nat.le_refl _) rfl rfl (Nat.le_of_ble_eq_true rfl) (fun E9 h9 q9 => ?_) (fun v9 h9 q9 => ?_)
      · cases q9.1
      obtain ⟨e9, H1, rfl, hI⟩ := q9
      cases e9
      refine mw_bipush (v := -71) dL_schemas_27 (by decide) ?_
      refine mw_icmp_ne (tgt := 36) dL_schemas_29 (by decide) (fun c9 => absurd c9 (by first | decide | exact (fun q => q rfl))) (fun _ => ?_)
      refine mw_iconst (v := 1) dL_schemas_32 (by decide) ?_
      refine mw_goto (tgt := 37) dL_schemas_33 (by decide) ?_
      exact mw_ireturn dL_schemas_37 ⟨_, rfl, rfl⟩ ⟨rfl, _, _, _, _, rfl, hI, hM⟩
    · refine mw_iconst (v := 4) dL_schemas_15 (by decide) ?_
      refine mw_icmp_ne (tgt := 38) dL_schemas_16 (by decide) (fun _ => ?_) (fun c9 => absurd c9 (by first | decide | exact (fun q => q rfl) | ((try simp only [fa_lit]); first | exact cq_le (by omega) (by omega) | exact cq_nle (by omega) (by omega) | exact cq_lt (by omega) (by omega) | exact cq_nlt (by omega) (by omega) | exact cq_eq (by omega) (by omega) (by omega) | exact cq_neq (by omega))))
      refine mw_aload (i := 5) dL_schemas_38 rfl ?_
      refine mw_iconst (v := 0) dL_schemas_40 (by decide) ?_
      refine mw_dup2 dL_schemas_41 rfl rfl ?_
      refine mw_iald dL_schemas_42 gl_11 (mw_ix (j := 0) rfl (by decide) (by decide)) ?_
      rw [hg0]
      refine mw_iconst (v := 1) dL_schemas_43 (by decide) ?_
      refine mw_iadd dL_schemas_44 ?_
      refine gl_st11 dL_schemas_45 (mw_ix (j := 0) rfl (by decide) (by decide)) ?_
      refine mw_aload_n (i := 0) dL_schemas_46 rfl rfl ?_
      rw [show nI g.1 + 1 = nI (g.1 + 1) from nI_1 _]
      have hI := cS_gl (A' := va_up A 11 (upd (A 11) 0 (nI (g.1 + 1)))) (X' := X) hI
      have hsp : sp_addSchema g = (0, nI g.1, (g.1 + 1, va_up g.2.1 1 (fun j => if 32 * g.1 ≤ j ∧ j < 32 * g.1 + 32 then -1 else g.2.1 1 j), g.2.2)) := if_neg (by omega)
      have hw := d_addSchema hI (by rw [hsp])
      rw [hsp] at hw
      refine mw_callV dL_schemas_47 mk_L_125 (cS_o hI) rfl (hw) (by decide) (Nat.le_refl _) (Nat.le_refl _) rfl rfl (Nat.le_of_ble_eq_true rfl) (fun E9 h9 q9 => ?_) (fun v9 h9 q9 => ?_)
      · cases q9.1
      obtain ⟨e9, H1, rfl, hI⟩ := q9
      cases e9
      refine mw_aload (i := 5) dL_schemas_50 rfl ?_
      refine mw_iconst (v := 0) dL_schemas_52 (by decide) ?_
      refine mw_iald dL_schemas_53 gl_11 (mw_ix (j := 0) rfl (by decide) (by decide)) ?_
      refine mw_top (show va_up A 11 (upd (A 11) 0 (nI (g.1 + 1))) 11 0 = nI (g.1 + 1) by rw [va_up_self, pk_us]) ?_
      refine mw_iconst (v := 1) dL_schemas_54 (by decide) ?_
      refine mw_isub dL_schemas_55 ?_
      rw [nI_pred]
      refine mw_icmp_ne (tgt := 63) dL_schemas_56 (by decide) (fun c9 => absurd c9 (by first | decide | exact (fun q => q rfl))) (fun _ => ?_)
      refine mw_iconst (v := 1) dL_schemas_59 (by decide) ?_
      refine mw_goto (tgt := 64) dL_schemas_60 (by decide) ?_
      refine mw_ireturn dL_schemas_64 ⟨_, rfl, rfl⟩ ⟨rfl, _, _, _, _, rfl, hI, ?_⟩
      obtain ⟨a1, a2, a3, a4, a5, a6, a7, a8⟩ := hM
      refine ⟨⟨by show g.1 + 1 ≤ 4; omega, fun s i hs hi => ?_, fun s t hs h1 h2 hno => ?_⟩, by rw [va_up_self, pk_us], fun m hm => ?_, a4, by rw [va_up_self, pk_un (by decide)]; exact a5, a6, fun j hj => by rw [va_up_ne _ _ (by decide)]; exact a7 j hj, fun j hj => by rw [va_up_ne _ _ (by decide)]; exact a8 j (by have : 6 * (g.1 + 1) ≤ j := hj; omega)⟩
      · have ht := tg_in hi
        have hs : s < g.1 + 1 := hs
        rw [va_up_ne _ _ (show 0 ≠ 11 by decide), va_up_ne _ _ (show 1 ≠ 11 by decide)]
        show ∃ κ o : Nat, κ ≤ 5 ∧ o < 4 ∧ A 0 (6 * s + i) = nI (κ + 8 * o) ∧ (if 32 * g.1 ≤ 32 * s + tg i ∧ 32 * s + tg i < 32 * g.1 + 32 then -1 else g.2.1 1 (32 * s + tg i)) = nI κ - 1 ∧ (κ = 5 → o < g.1 + 1 ∧ g.2.1 2 (32 * s + tg i) = nI o) ∧ (1 ≤ κ ∧ κ ≤ 3 → A 1 (6 * s + i) = g.2.1 3 (32 * s + tg i))
        by_cases e : s = g.1
        · rw [if_pos ⟨by omega, by omega⟩]
          exact ⟨0, 0, by decide, by decide, a8 _ (by omega), rfl, fun z => absurd z (by decide), fun z => absurd z.1 (by decide)⟩
        · rw [if_neg (by omega)]
          obtain ⟨κ, o, k1, k2, k3, k4, k5, k6⟩ := a1.2.1 s i (by omega) hi
          exact ⟨κ, o, k1, k2, k3, k4, fun z => ⟨by have := (k5 z).1; omega, (k5 z).2⟩, k6⟩
      · have hs : s < g.1 + 1 := hs
        show (if 32 * g.1 ≤ 32 * s + t ∧ 32 * s + t < 32 * g.1 + 32 then -1 else g.2.1 1 (32 * s + t)) = -1
        by_cases e : s = g.1
        · rw [if_pos ⟨by omega, by omega⟩]
        · rw [if_neg (by omega)]
          exact a1.2.2 s t (by omega) h1 h2 hno
      · rw [va_up_ne _ _ (by decide)]
        exact ⟨(a3 m hm).1, fun s L hT => ⟨((a3 m hm).2 s L hT).1, fR_cong ((a3 m hm).2 s L hT).2 (by rw [va_up_ne _ _ (by decide)]) (fun p _ _ => ⟨by rw [va_up_ne _ _ (by decide)], by rw [va_up_ne _ _ (by decide)], rfl, rfl⟩)⟩⟩
  by_cases hact0 : a = 0
  · refine mw_iload_n (i := 1) dL_schemas_0 rfl rfl ?_
    refine mw_if_eq (tgt := 11) dL_schemas_1 (by decide) (fun _ => ?_) (fun c9 => absurd c9 (fun z => z (by rw [hact0]; rfl)))
    exact hadd _ _ _ _ _ _
  · refine mw_iload_n (i := 1) dL_schemas_0 rfl rfl ?_
    refine mw_if_eq (tgt := 11) dL_schemas_1 (by decide) (fun c9 => absurd c9 (nI_ne0 (by omega) (by omega))) (fun _ => ?_)
    refine mw_aload (i := 5) dL_schemas_4 rfl ?_
    refine mw_iconst (v := 0) dL_schemas_6 (by decide) ?_
    refine mw_iald dL_schemas_7 gl_11 (mw_ix (j := 0) rfl (by decide) (by decide)) ?_
    rw [hg0]
    by_cases hns : g.1 = 0
    · refine mw_if_ne (tgt := 65) dL_schemas_8 (by decide) (fun c9 => absurd c9 (fun z => z (by rw [hns]; rfl))) (fun _ => ?_)
      exact hadd _ _ _ _ _ _
    · refine mw_if_ne (tgt := 65) dL_schemas_8 (by decide) (fun _ => ?_) (fun c9 => absurd c9 (nI_ne0 (by omega) (by omega)))
      refine mw_iload_n (i := 2) dL_schemas_65 rfl rfl ?_
      refine mw_aload (i := 5) dL_schemas_66 rfl ?_
      refine mw_iconst (v := 0) dL_schemas_68 (by decide) ?_
      refine mw_iald dL_schemas_69 gl_11 (mw_ix (j := 0) rfl (by decide) (by decide)) ?_
      rw [hg0]
      have hs : uN y / 2 % g.1 < g.1 := Nat.mod_lt _ (by omega)
      refine mw_callSr dL_schemas_70 mk_L_129 ((c_low y (by omega) (by omega))) (by decide) (Nat.le_refl _) (Nat.le_refl _) rfl rfl (Nat.le_of_ble_eq_true rfl) ?_
      refine mw_istore_6 dL_schemas_73 (by decide) ?_
      refine mw_iload_n (i := 2) dL_schemas_75 rfl rfl ?_
      refine mw_iconst (v := 4) dL_schemas_76 (by decide) ?_
      refine mw_ishr dL_schemas_77 ?_
      refine mw_bipush (v := 6) dL_schemas_78 (by decide) ?_
      generalize uN y / 2 % g.1 = s at hs ⊢
      refine mw_callSr dL_schemas_80 mk_L_129 ((c_low _ (n := 6) (by decide) (by decide))) (by decide) (Nat.le_refl _) (Nat.le_refl _) rfl rfl (Nat.le_of_ble_eq_true rfl) ?_
      have hi : uN (y >>> (4 &&& 31)) / 2 % 6 < 6 := Nat.mod_lt _ (by decide)
      generalize uN (y >>> (4 &&& 31)) / 2 % 6 = i at hi ⊢
      have ht := tg_in hi
      obtain ⟨κ, o, k1, k2, k3, k4, k5, k6⟩ := hk.2.1 s i hs hi
      refine mw_istore_7 dL_schemas_83 (by decide) ?_
      refine mw_iload (i := 7) dL_schemas_85 rfl ?_
      refine mw_callSr dL_schemas_87 mk_L_64 ((c_tagAt hi)) (by decide) (Nat.le_refl _) (Nat.le_refl _) rfl rfl (Nat.le_of_ble_eq_true rfl) ?_
      refine mw_istore_8 dL_schemas_90 (by decide) ?_
      refine mw_aload_n (i := 3) dL_schemas_92 rfl rfl ?_
      refine mw_bipush (v := 6) dL_schemas_93 (by decide) ?_
      refine mw_iload (i := 6) dL_schemas_95 rfl ?_
      refine mw_imul dL_schemas_97 ?_
      refine mw_iload (i := 7) dL_schemas_98 rfl ?_
      refine mw_iadd dL_schemas_100 ?_
      rw [mx_6]
      refine mw_iald dL_schemas_101 gl_0 (mw_ix rfl (by omega) (by decide)) ?_
      refine mw_bipush (v := 8) dL_schemas_102 (by decide) ?_
      rw [k3]
      refine mw_irem dL_schemas_104 (by decide) ?_
      rw [mx_r8' k1 k2]
      refine mw_iconst (v := 1) dL_schemas_105 (by decide) ?_
      refine mw_isub dL_schemas_106 ?_
      refine mw_istore_9 dL_schemas_107 (by decide) ?_
      have hsS := sS_at (g := g) (by omega) hs
      have htix : tix s (nI (tg i)) = 32 * s + tg i := tix_n (by omega)
      by_cases ha4 : a < 4
      · refine mw_iload_n (i := 1) dL_schemas_109 rfl rfl ?_
        refine mw_iconst (v := 4) dL_schemas_110 (by decide) ?_
        refine mw_icmp_ge (tgt := 256) dL_schemas_111 (by decide) (fun c9 => absurd c9 (by first | decide | exact (fun q => q rfl) | ((try simp only [fa_lit]); first | exact cq_le (by omega) (by omega) | exact cq_nle (by omega) (by omega) | exact cq_lt (by omega) (by omega) | exact cq_nlt (by omega) (by omega) | exact cq_eq (by omega) (by omega) (by omega) | exact cq_neq (by omega)))) (fun _ => ?_)
        refine mw_iload_n (i := 2) dL_schemas_114 rfl rfl ?_
        refine mw_bipush (v := 8) dL_schemas_115 (by decide) ?_
        refine mw_ishr dL_schemas_117 ?_
        refine mw_iconst (v := 5) dL_schemas_118 (by decide) ?_
        refine mw_callSr dL_schemas_119 mk_L_129 ((c_low _ (n := 5) (by decide) (by decide))) (by decide) (Nat.le_refl _) (Nat.le_refl _) rfl rfl (Nat.le_of_ble_eq_true rfl) ?_
        have hkd : uN (y >>> (8 &&& 31)) / 2 % 5 < 5 := Nat.mod_lt _ (by decide)
        generalize uN (y >>> (8 &&& 31)) / 2 % 5 = kd at hkd ⊢
        refine mw_istore_10 dL_schemas_122 (by decide) ?_
        refine mw_iload_n (i := 2) dL_schemas_124 rfl rfl ?_
        refine mw_bipush (v := 12) dL_schemas_125 (by decide) ?_
        refine mw_ishr dL_schemas_127 ?_
        refine mw_aload (i := 5) dL_schemas_128 rfl ?_
        refine mw_iconst (v := 0) dL_schemas_130 (by decide) ?_
        refine mw_iald dL_schemas_131 gl_11 (mw_ix (j := 0) rfl (by decide) (by decide)) ?_
        rw [hg0]
        refine mw_callSr dL_schemas_132 mk_L_129 ((c_low _ (by omega) (by omega))) (by decide) (Nat.le_refl _) (Nat.le_refl _) rfl rfl (Nat.le_of_ble_eq_true rfl) ?_
        have hof : uN (y >>> (12 &&& 31)) / 2 % g.1 < g.1 := Nat.mod_lt _ (by omega)
        generalize uN (y >>> (12 &&& 31)) / 2 % g.1 = of at hof ⊢
        have hsO := sS_at (g := g) (by omega) hof
        have hz4 : ¬ (nI kd = 4 ∧ sS g (nI of) = none) := fun z => by rw [hsO] at z; cases z.2
        have hs1 : sp_setKind g (nI s) 32 (nI kd) (nI of) = (2, 0, g) := by
          unfold sp_setKind
          rw [hsS]
          show (if nI kd = 4 ∧ sS g (nI of) = none then _ else if zTag 32 = 0 ∨ zIn (nI kd) 0 4 = 0 then _ else _) = _
          rw [if_neg hz4, if_pos (Or.inl zTag_32)]
        have hs2 : sp_setKind g (nI s) (nI (tg i)) 5 (nI of) = (2, 0, g) := by
          unfold sp_setKind
          rw [hsS]
          show (if (5 : Int32) = 4 ∧ sS g (nI of) = none then _ else if zTag (nI (tg i)) = 0 ∨ zIn 5 0 4 = 0 then _ else _) = _
          rw [if_neg (fun z => absurd z.1 (by decide)), if_pos (Or.inr (by decide))]
        have hs3 : sp_setKind g (nI s) 0 4 (nI g.1) = (1, 0, g) := by
          unfold sp_setKind
          rw [hsS]
          show (if (4 : Int32) = 4 ∧ sS g (nI g.1) = none then _ else _) = _
          rw [if_pos ⟨rfl, sS_out (by omega)⟩]
        have hs4 : sp_setKind g (-1) 0 9 0 = (1, 0, g) := by
          unfold sp_setKind
          rw [sS_neg]
        have hs5 : sp_setKind g (nI s) (nI (tg i)) (nI kd) (nI of) = (0, nI κ - 1, (g.1, va_up (va_up (va_up g.2.1 1 (upd (g.2.1 1) (32 * s + tg i) (nI kd))) 2 (upd (g.2.1 2) (32 * s + tg i) (nI of))) 3 (upd (g.2.1 3) (32 * s + tg i) 0), g.2.2)) := by
          unfold sp_setKind
          rw [hsS]
          show (if nI kd = 4 ∧ sS g (nI of) = none then _ else if zTag (nI (tg i)) = 0 ∨ zIn (nI kd) 0 4 = 0 then _ else _) = _
          have hzk : zIn (nI kd) 0 4 = 1 := zi_in (n := 5) hkd (by decide)
          rw [if_neg hz4, if_neg (fun z => by rw [zTag_of ht.1 ht.2, hzk] at z; rcases z with z | z <;> exact absurd z (by decide)), htix, k4]
        have hI := cS_gl (A' := va_up (va_up A 0 (upd (A 0) (6 * s + i) (nI (kd + 1 + 8 * of)))) 1 (upd (A 1) (6 * s + i) 0)) (X' := X) hI
        refine mw_istore_11 dL_schemas_135 (by decide) ?_
        refine mw_aload_n (i := 3) dL_schemas_137 rfl rfl ?_
        refine mw_bipush (v := 6) dL_schemas_138 (by decide) ?_
        refine mw_iload (i := 6) dL_schemas_140 rfl ?_
        refine mw_imul dL_schemas_142 ?_
        refine mw_iload (i := 7) dL_schemas_143 rfl ?_
        refine mw_iadd dL_schemas_145 ?_
        rw [mx_6]
        refine mw_iload (i := 10) dL_schemas_146 rfl ?_
        refine mw_iconst (v := 1) dL_schemas_148 (by decide) ?_
        refine mw_iadd dL_schemas_149 ?_
        rw [show nI kd + 1 = nI (kd + 1) from nI_1 _]
        refine mw_bipush (v := 8) dL_schemas_150 (by decide) ?_
        refine mw_iload (i := 11) dL_schemas_152 rfl ?_
        refine mw_imul dL_schemas_154 ?_
        rw [mx_8m]
        refine mw_iadd dL_schemas_155 ?_
        rw [nI_add]
        refine gl_st0 dL_schemas_156 (mw_ix rfl (by omega) (by decide)) ?_
        refine mw_aload (i := 4) dL_schemas_157 rfl ?_
        refine mw_bipush (v := 6) dL_schemas_159 (by decide) ?_
        refine mw_iload (i := 6) dL_schemas_161 rfl ?_
        refine mw_imul dL_schemas_163 ?_
        refine mw_iload (i := 7) dL_schemas_164 rfl ?_
        refine mw_iadd dL_schemas_166 ?_
        rw [mx_6]
        refine mw_iconst (v := 0) dL_schemas_167 (by decide) ?_
        refine gl_st1 dL_schemas_168 (mw_ix rfl (by omega) (by decide)) ?_
        refine mw_hp (h' := gl H (va_up (va_up A 0 (upd (A 0) (6 * s + i) (nI (kd + 1 + 8 * of)))) 1 (upd (A 1) (6 * s + i) 0)) X) (gl_cong rfl rfl) ?_
        have hw := w_setKind hI (nI s) 32 (nI kd) (nI of)
        rw [hs1] at hw
        refine mw_aload_n (i := 0) dL_schemas_169 rfl rfl ?_
        refine mw_iload (i := 6) dL_schemas_170 rfl ?_
        refine mw_bipush (v := 32) dL_schemas_172 (by decide) ?_
        refine mw_iload (i := 10) dL_schemas_174 rfl ?_
        refine mw_iload (i := 11) dL_schemas_176 rfl ?_
        refine mw_callSX dL_schemas_178 mk_L_122 (hw) (by decide) (Nat.le_refl _) (Nat.le_refl _) rfl rfl (Nat.le_of_ble_eq_true rfl) (fun E9 h9 q9 => ?_) (fun v9 h9 q9 => ?_)
        · cases q9.1
        obtain ⟨e9, H2, rfl, hI⟩ := q9
        cases e9
        have hw := w_setKind hI (nI s) (nI (tg i)) 5 (nI of)
        rw [hs2] at hw
        refine mw_bipush (v := -72) dL_schemas_181 (by decide) ?_
        refine mw_icmp_ne (tgt := 254) dL_schemas_183 (by decide) (fun c9 => absurd c9 (by first | decide | exact (fun q => q rfl))) (fun _ => ?_)
        refine mw_aload_n (i := 0) dL_schemas_186 rfl rfl ?_
        refine mw_iload (i := 6) dL_schemas_187 rfl ?_
        refine mw_iload (i := 8) dL_schemas_189 rfl ?_
        refine mw_iconst (v := 5) dL_schemas_191 (by decide) ?_
        refine mw_iload (i := 11) dL_schemas_192 rfl ?_
        refine mw_callSX dL_schemas_194 mk_L_122 (hw) (by decide) (Nat.le_refl _) (Nat.le_refl _) rfl rfl (Nat.le_of_ble_eq_true rfl) (fun E9 h9 q9 => ?_) (fun v9 h9 q9 => ?_)
        · cases q9.1
        obtain ⟨e9, H3, rfl, hI⟩ := q9
        cases e9
        have hw := w_setKind hI (nI s) 0 4 (nI g.1)
        rw [hs3] at hw
        refine mw_bipush (v := -72) dL_schemas_197 (by decide) ?_
        refine mw_icmp_ne (tgt := 254) dL_schemas_199 (by decide) (fun c9 => absurd c9 (by first | decide | exact (fun q => q rfl))) (fun _ => ?_)
        refine mw_aload_n (i := 0) dL_schemas_202 rfl rfl ?_
        refine mw_iload (i := 6) dL_schemas_203 rfl ?_
        refine mw_iconst (v := 0) dL_schemas_205 (by decide) ?_
        refine mw_iconst (v := 4) dL_schemas_206 (by decide) ?_
        refine mw_aload (i := 5) dL_schemas_207 rfl ?_
        refine mw_iconst (v := 0) dL_schemas_209 (by decide) ?_
        refine mw_iald dL_schemas_210 gl_11 (mw_ix (j := 0) rfl (by decide) (by decide)) ?_
        refine mw_top (show va_up (va_up A 0 (upd (A 0) (6 * s + i) (nI (kd + 1 + 8 * of)))) 1 (upd (A 1) (6 * s + i) 0) 11 0 = nI g.1 by rw [va_up_ne _ _ (by decide), va_up_ne _ _ (by decide)]; exact hg0) ?_
        refine mw_callSX dL_schemas_211 mk_L_122 (hw) (by decide) (Nat.le_refl _) (Nat.le_refl _) rfl rfl (Nat.le_of_ble_eq_true rfl) (fun E9 h9 q9 => ?_) (fun v9 h9 q9 => ?_)
        · cases q9.1
        obtain ⟨e9, H4, rfl, hI⟩ := q9
        cases e9
        have hw := w_setKind hI (-1) 0 9 0
        rw [hs4] at hw
        refine mw_bipush (v := -71) dL_schemas_214 (by decide) ?_
        refine mw_icmp_ne (tgt := 254) dL_schemas_216 (by decide) (fun c9 => absurd c9 (by first | decide | exact (fun q => q rfl))) (fun _ => ?_)
        refine mw_aload_n (i := 0) dL_schemas_219 rfl rfl ?_
        refine mw_iconst (v := -1) dL_schemas_220 (by decide) ?_
        refine mw_iconst (v := 0) dL_schemas_221 (by decide) ?_
        refine mw_bipush (v := 9) dL_schemas_222 (by decide) ?_
        refine mw_iconst (v := 0) dL_schemas_224 (by decide) ?_
        refine mw_callSX dL_schemas_225 mk_L_122 (hw) (by decide) (Nat.le_refl _) (Nat.le_refl _) rfl rfl (Nat.le_of_ble_eq_true rfl) (fun E9 h9 q9 => ?_) (fun v9 h9 q9 => ?_)
        · cases q9.1
        obtain ⟨e9, H5, rfl, hI⟩ := q9
        cases e9
        have hw := w_setKind hI (nI s) (nI (tg i)) (nI kd) (nI of)
        rw [hs5] at hw
        refine mw_bipush (v := -71) dL_schemas_228 (by decide) ?_
        refine mw_icmp_ne (tgt := 254) dL_schemas_230 (by decide) (fun c9 => absurd c9 (by first | decide | exact (fun q => q rfl))) (fun _ => ?_)
        refine mw_aload_n (i := 0) dL_schemas_233 rfl rfl ?_
        refine mw_iload (i := 6) dL_schemas_234 rfl ?_
        refine mw_iload (i := 8) dL_schemas_236 rfl ?_
        refine mw_iload (i := 10) dL_schemas_238 rfl ?_
        refine mw_iload (i := 11) dL_schemas_240 rfl ?_
        refine mw_callSX dL_schemas_242 mk_L_122 (hw) (by decide) (Nat.le_refl _) (Nat.le_refl _) rfl rfl (Nat.le_of_ble_eq_true rfl) (fun E9 h9 q9 => ?_) (fun v9 h9 q9 => ?_)
        · cases q9.1
        obtain ⟨e9, H6, rfl, hI⟩ := q9
        cases e9
        refine mw_iload (i := 9) dL_schemas_245 rfl ?_
        refine mw_icmp_ne (tgt := 254) dL_schemas_247 (by decide) (fun c9 => absurd c9 (by first | decide | exact (fun q => q rfl))) (fun _ => ?_)
        refine mw_iconst (v := 1) dL_schemas_250 (by decide) ?_
        refine mw_goto (tgt := 255) dL_schemas_251 (by decide) ?_
        refine mw_ireturn dL_schemas_255 ⟨_, rfl, rfl⟩ ⟨rfl, _, _, _, _, rfl, hI, ?_⟩
        refine mR_K hM (kR_upd hk hs hi (κ := kd + 1) (o := of) (by omega) (by omega) ?_ ?_ ?_ ?_ ?_ ?_ ?_ ?_ ?_) (fun j h0 h1 => by rw [va_up_ne _ _ h1, va_up_ne _ _ h0]) (fun j hj => ?_)
        · rw [va_up_ne _ _ (by decide), va_up_ne _ _ (by decide), va_up_self, pk_us, nI_pred]
        · intro j hj; rw [va_up_ne _ _ (by decide), va_up_ne _ _ (by decide), va_up_self, pk_un hj]
        · intro _; rw [va_up_ne _ _ (by decide), va_up_self, pk_us]; exact ⟨hof, rfl⟩
        · intro j hj; rw [va_up_ne _ _ (by decide), va_up_self, pk_un hj]
        · intro j hj; rw [va_up_self, pk_un hj]
        · rw [va_up_ne _ _ (by decide), va_up_self, pk_us]
        · intro j hj; rw [va_up_ne _ _ (by decide), va_up_self, pk_un hj]
        · intro _; rw [va_up_self, va_up_self, pk_us, pk_us]
        · intro j hj; rw [va_up_self, pk_un hj]
        · rw [va_up_ne _ _ (by decide), va_up_self, pk_un (by omega)]
      · have hzk : zKind g.2.1 s (nI (tg i)) = nI κ - 1 := by rw [zK_t ht.1 ht.2, k4]
        by_cases ha4' : a = 4
        · obtain ⟨j, hj, ej⟩ := and_nn y 12288
          have ej : y &&& 12288 = nI j := ej
          by_cases j0 : j = 0
          · refine mw_iload_n (i := 1) dL_schemas_109 rfl rfl ?_
            refine mw_iconst (v := 4) dL_schemas_110 (by decide) ?_
            refine mw_icmp_ge (tgt := 256) dL_schemas_111 (by decide) (fun _ => ?_) (fun c9 => absurd c9 (by first | decide | exact (fun q => q rfl) | ((try simp only [fa_lit]); first | exact cq_le (by omega) (by omega) | exact cq_nle (by omega) (by omega) | exact cq_lt (by omega) (by omega) | exact cq_nlt (by omega) (by omega) | exact cq_eq (by omega) (by omega) (by omega) | exact cq_neq (by omega))))
            refine mw_iload_n (i := 1) dL_schemas_256 rfl rfl ?_
            refine mw_iconst (v := 4) dL_schemas_257 (by decide) ?_
            refine mw_icmp_ne (tgt := 340) dL_schemas_258 (by decide) (fun c9 => absurd c9 (by first | decide | exact (fun q => q rfl) | ((try simp only [fa_lit]); first | exact cq_le (by omega) (by omega) | exact cq_nle (by omega) (by omega) | exact cq_lt (by omega) (by omega) | exact cq_nlt (by omega) (by omega) | exact cq_eq (by omega) (by omega) (by omega) | exact cq_neq (by omega)))) (fun _ => ?_)
            refine mw_iload_n (i := 2) dL_schemas_261 rfl rfl ?_
            refine mw_sipush (v := 12288) dL_schemas_262 (by decide) ?_
            refine mw_iand dL_schemas_265 ?_
            rw [ej]
            refine mw_if_ne (tgt := 280) dL_schemas_266 (by decide) (fun c9 => absurd c9 (fun z => z (by rw [j0]; rfl))) (fun _ => ?_)
            refine mw_aload_n (i := 3) dL_schemas_269 rfl rfl ?_
            refine mw_bipush (v := 6) dL_schemas_270 (by decide) ?_
            refine mw_iload (i := 6) dL_schemas_272 rfl ?_
            refine mw_imul dL_schemas_274 ?_
            refine mw_iload (i := 7) dL_schemas_275 rfl ?_
            refine mw_iadd dL_schemas_277 ?_
            rw [mx_6]
            refine mw_iconst (v := 0) dL_schemas_278 (by decide) ?_
            refine gl_st0 dL_schemas_279 (mw_ix rfl (by omega) (by decide)) ?_
            refine mw_iload_n (i := 2) dL_schemas_280 rfl rfl ?_
            refine mw_sipush (v := 12288) dL_schemas_281 (by decide) ?_
            refine mw_iand dL_schemas_284 ?_
            rw [ej]
            have hI := cS_gl (A' := va_up A 0 (upd (A 0) (6 * s + i) 0)) (X' := X) hI
            have hsp : sp_dropKind g (nI s) (nI (tg i)) = (0, nI κ - 1, (g.1, va_up g.2.1 1 (upd (g.2.1 1) (32 * s + tg i) (-1)), g.2.2)) := by
              unfold sp_dropKind
              rw [hsS]
              show (if zTag (nI (tg i)) = 0 then _ else _) = _
              rw [zTag_of ht.1 ht.2, if_neg (by decide), htix, k4]
            have hw := d_dropKind hI (nI s) (nI (tg i)) (by rw [hsp])
            rw [hsp] at hw
            refine mw_if_le (tgt := 321) dL_schemas_285 (by decide) (fun _ => ?_) (fun c9 => absurd c9 (by first | decide | exact (fun q => q rfl) | ((try simp only [fa_lit]); first | exact cq_le (by omega) (by omega) | exact cq_nle (by omega) (by omega) | exact cq_lt (by omega) (by omega) | exact cq_nlt (by omega) (by omega) | exact cq_eq (by omega) (by omega) (by omega) | exact cq_neq (by omega))))
            refine mw_aload_n (i := 0) dL_schemas_321 rfl rfl ?_
            refine mw_iload (i := 6) dL_schemas_322 rfl ?_
            refine mw_iload (i := 8) dL_schemas_324 rfl ?_
            refine mw_callV dL_schemas_326 mk_L_135 (cS_o hI) rfl (hw) (by decide) (Nat.le_refl _) (Nat.le_refl _) rfl rfl (Nat.le_of_ble_eq_true rfl) (fun E9 h9 q9 => ?_) (fun v9 h9 q9 => ?_)
            · cases q9.1
            obtain ⟨e9, H2, rfl, hI⟩ := q9
            cases e9
            refine mw_iload (i := 9) dL_schemas_329 rfl ?_
            refine mw_icmp_ne (tgt := 338) dL_schemas_331 (by decide) (fun c9 => absurd c9 (by first | decide | exact (fun q => q rfl))) (fun _ => ?_)
            refine mw_iconst (v := 1) dL_schemas_334 (by decide) ?_
            refine mw_goto (tgt := 339) dL_schemas_335 (by decide) ?_
            refine mw_ireturn dL_schemas_339 ⟨_, rfl, rfl⟩ ⟨rfl, _, _, _, _, rfl, hI, ?_⟩
            refine mR_K hM (kR_upd hk hs hi (κ := 0) (o := 0) (by omega) (by omega) ?_ ?_ ?_ ?_ ?_ ?_ ?_ ?_ ?_) (fun j h0 h1 => by rw [va_up_ne _ _ h0]) (fun j hj => ?_)
            · rw [va_up_self, pk_us]; rfl
            · intro j hj; rw [va_up_self, pk_un hj]
            · intro z; exact absurd z (by decide)
            · intro j hj; rw [va_up_ne _ _ (by decide)]
            · intro j hj; rw [va_up_ne _ _ (by decide)]
            · rw [va_up_self, pk_us]; rfl
            · intro j hj; rw [va_up_self, pk_un hj]
            · intro z; exact absurd z.1 (by decide)
            · intro j hj; rw [va_up_ne _ _ (by decide)]
            · rw [va_up_self, pk_un (by omega)]
          · refine mw_iload_n (i := 1) dL_schemas_109 rfl rfl ?_
            refine mw_iconst (v := 4) dL_schemas_110 (by decide) ?_
            refine mw_icmp_ge (tgt := 256) dL_schemas_111 (by decide) (fun _ => ?_) (fun c9 => absurd c9 (by first | decide | exact (fun q => q rfl) | ((try simp only [fa_lit]); first | exact cq_le (by omega) (by omega) | exact cq_nle (by omega) (by omega) | exact cq_lt (by omega) (by omega) | exact cq_nlt (by omega) (by omega) | exact cq_eq (by omega) (by omega) (by omega) | exact cq_neq (by omega))))
            refine mw_iload_n (i := 1) dL_schemas_256 rfl rfl ?_
            refine mw_iconst (v := 4) dL_schemas_257 (by decide) ?_
            refine mw_icmp_ne (tgt := 340) dL_schemas_258 (by decide) (fun c9 => absurd c9 (by first | decide | exact (fun q => q rfl) | ((try simp only [fa_lit]); first | exact cq_le (by omega) (by omega) | exact cq_nle (by omega) (by omega) | exact cq_lt (by omega) (by omega) | exact cq_nlt (by omega) (by omega) | exact cq_eq (by omega) (by omega) (by omega) | exact cq_neq (by omega)))) (fun _ => ?_)
            refine mw_iload_n (i := 2) dL_schemas_261 rfl rfl ?_
            refine mw_sipush (v := 12288) dL_schemas_262 (by decide) ?_
            refine mw_iand dL_schemas_265 ?_
            rw [ej]
            refine mw_if_ne (tgt := 280) dL_schemas_266 (by decide) (fun _ => ?_) (fun c9 => absurd c9 (nI_ne0 (by omega) (by omega)))
            refine mw_iload_n (i := 2) dL_schemas_280 rfl rfl ?_
            refine mw_sipush (v := 12288) dL_schemas_281 (by decide) ?_
            refine mw_iand dL_schemas_284 ?_
            rw [ej]
            have hs1 : sp_kindOf g (nI s) (nI (tg i)) = (0, nI κ - 1, g) := by
              unfold sp_kindOf
              rw [hsS]
              show (if zTag (nI (tg i)) = 0 then _ else _) = _
              rw [zTag_of ht.1 ht.2, if_neg (by decide), hzk]
            have hs2 : sp_kindOf g (nI s) 9 = (0, -1, g) := by
              unfold sp_kindOf
              rw [hsS]
              show (if zTag (nI 9) = 0 then _ else (0, zKind g.2.1 s (nI 9), g)) = _
              rw [zTag_of (by decide) (by decide), if_neg (by decide), zK_t (by decide) (by decide), hk.2.2 s 9 hs (by decide) (by decide) (fun i hi => by rcases six hi with rfl | rfl | rfl | rfl | rfl | rfl <;> decide)]
            have hw := d_kindOf hI (nI s) (nI (tg i)) (by rw [hs1])
            rw [hs1] at hw
            refine mw_if_le (tgt := 321) dL_schemas_285 (by decide) (fun c9 => absurd c9 (cq_le (b := 0) (by omega) (by omega))) (fun _ => ?_)
            refine mw_aload_n (i := 0) dL_schemas_288 rfl rfl ?_
            refine mw_iload (i := 6) dL_schemas_289 rfl ?_
            refine mw_iload (i := 8) dL_schemas_291 rfl ?_
            refine mw_callV dL_schemas_293 mk_L_132 (cS_o hI) rfl (hw) (by decide) (Nat.le_refl _) (Nat.le_refl _) rfl rfl (Nat.le_of_ble_eq_true rfl) (fun E9 h9 q9 => ?_) (fun v9 h9 q9 => ?_)
            · cases q9.1
            obtain ⟨e9, H2, rfl, hI⟩ := q9
            cases e9
            have hw := d_kindOf hI (nI s) 9 (by rw [hs2])
            rw [hs2] at hw
            refine mw_iload (i := 9) dL_schemas_296 rfl ?_
            refine mw_icmp_ne (tgt := 317) dL_schemas_298 (by decide) (fun c9 => absurd c9 (by first | decide | exact (fun q => q rfl))) (fun _ => ?_)
            refine mw_aload_n (i := 0) dL_schemas_301 rfl rfl ?_
            refine mw_iload (i := 6) dL_schemas_302 rfl ?_
            refine mw_bipush (v := 9) dL_schemas_304 (by decide) ?_
            refine mw_callV dL_schemas_306 mk_L_132 (cS_o hI) rfl (hw) (by decide) (Nat.le_refl _) (Nat.le_refl _) rfl rfl (Nat.le_of_ble_eq_true rfl) (fun E9 h9 q9 => ?_) (fun v9 h9 q9 => ?_)
            · cases q9.1
            obtain ⟨e9, H3, rfl, hI⟩ := q9
            cases e9
            refine mw_iconst (v := -1) dL_schemas_309 (by decide) ?_
            refine mw_icmp_ne (tgt := 317) dL_schemas_310 (by decide) (fun c9 => absurd c9 (by first | decide | exact (fun q => q rfl))) (fun _ => ?_)
            refine mw_iconst (v := 1) dL_schemas_313 (by decide) ?_
            refine mw_goto (tgt := 339) dL_schemas_314 (by decide) ?_
            exact mw_ireturn dL_schemas_339 ⟨_, rfl, rfl⟩ ⟨rfl, _, _, _, _, rfl, hI, hM⟩
        · have hset : ∀ (v : Int32) (l11 : Option Value), mw_W mm_L_schemas 9 6 140 365 [some (.ref 1), some (.int (nI a)), some (.int y), some (.ref 43), some (.ref 44), some (.ref 54), some (.int (nI s)), some (.int (nI i)), some (.int (nI (tg i))), some (.int (nI κ - 1)), some (.int v), l11] [] (gl H A X) (lwP sc) := by
            intro v l11
            have hs2 : sp_setDefault g (nI s) 32 v = (2, 0, g) := by
              unfold sp_setDefault
              rw [hsS]
              show (if zTag 32 = 0 then _ else _) = _
              rw [if_pos zTag_32]
            have hs3 : sp_setDefault g (nI g.1) 0 v = (1, 0, g) := by
              unfold sp_setDefault
              rw [sS_out (by omega)]
            by_cases hint : 1 ≤ κ ∧ κ ≤ 3
            · have hs1 : sp_setDefault g (nI s) (nI (tg i)) v = (0, A 1 (6 * s + i), (g.1, va_up g.2.1 3 (upd (g.2.1 3) (32 * s + tg i) v), g.2.2)) := by
                unfold sp_setDefault
                rw [hsS]
                show (if zTag (nI (tg i)) = 0 then _ else if zInt (zKind g.2.1 s (nI (tg i))) = 0 then _ else _) = _
                rw [zTag_of ht.1 ht.2, if_neg (by decide), hzk, if_neg (by
                  have h : κ = 1 ∨ κ = 2 ∨ κ = 3 := by omega
                  rcases h with rfl | rfl | rfl <;> decide), htix, k6 hint]
              have hlt : ¬ nI κ - 1 < 0 := fun z => by have := (km_0 k1).mp z; omega
              have hle : nI κ - 1 ≤ 2 := by
                have h : κ = 1 ∨ κ = 2 ∨ κ = 3 := by omega
                rcases h with rfl | rfl | rfl <;> decide
              have hI := cS_gl (A' := va_up A 1 (upd (A 1) (6 * s + i) v)) (X' := X) hI
              have hw := d_setDefault hI (nI s) (nI (tg i)) v (by rw [hs1])
              rw [hs1] at hw
              refine mw_iload (i := 9) dL_schemas_365 rfl ?_
              refine mw_if_lt (tgt := 376) dL_schemas_367 (by decide) (fun c9 => absurd c9 hlt) (fun _ => ?_)
              refine mw_iload (i := 9) dL_schemas_370 rfl ?_
              refine mw_iconst (v := 2) dL_schemas_372 (by decide) ?_
              refine mw_icmp_le (tgt := 428) dL_schemas_373 (by decide) (fun _ => ?_) (fun c9 => absurd c9 (fun z => z hle))
              refine mw_aload (i := 4) dL_schemas_428 rfl ?_
              refine mw_bipush (v := 6) dL_schemas_430 (by decide) ?_
              refine mw_iload (i := 6) dL_schemas_432 rfl ?_
              refine mw_imul dL_schemas_434 ?_
              refine mw_iload (i := 7) dL_schemas_435 rfl ?_
              refine mw_iadd dL_schemas_437 ?_
              rw [mx_6]
              refine mw_iald dL_schemas_438 gl_1 (mw_ix rfl (by omega) (by decide)) ?_
              refine mw_istore_11 dL_schemas_439 (by decide) ?_
              refine mw_aload (i := 4) dL_schemas_441 rfl ?_
              refine mw_bipush (v := 6) dL_schemas_443 (by decide) ?_
              refine mw_iload (i := 6) dL_schemas_445 rfl ?_
              refine mw_imul dL_schemas_447 ?_
              refine mw_iload (i := 7) dL_schemas_448 rfl ?_
              refine mw_iadd dL_schemas_450 ?_
              rw [mx_6]
              refine mw_iload (i := 10) dL_schemas_451 rfl ?_
              refine gl_st1 dL_schemas_453 (mw_ix rfl (by omega) (by decide)) ?_
              refine mw_aload_n (i := 0) dL_schemas_454 rfl rfl ?_
              refine mw_iload (i := 6) dL_schemas_455 rfl ?_
              refine mw_iload (i := 8) dL_schemas_457 rfl ?_
              refine mw_iload (i := 10) dL_schemas_459 rfl ?_
              refine mw_callV dL_schemas_461 mk_L_18 (cS_o hI) rfl (hw) (by decide) (Nat.le_refl _) (Nat.le_refl _) rfl rfl (Nat.le_of_ble_eq_true rfl) (fun E9 h9 q9 => ?_) (fun v9 h9 q9 => ?_)
              · cases q9.1
              obtain ⟨e9, H2, rfl, hI⟩ := q9
              cases e9
              refine mw_iload (i := 11) dL_schemas_464 rfl ?_
              refine mw_icmp_ne (tgt := 473) dL_schemas_466 (by decide) (fun c9 => absurd c9 (by first | decide | exact (fun q => q rfl))) (fun _ => ?_)
              refine mw_iconst (v := 1) dL_schemas_469 (by decide) ?_
              refine mw_goto (tgt := 474) dL_schemas_470 (by decide) ?_
              refine mw_ireturn dL_schemas_474 ⟨_, rfl, rfl⟩ ⟨rfl, _, _, _, _, rfl, hI, ?_⟩
              refine mR_K hM (kR_upd hk hs hi (κ := κ) (o := o) k1 k2 ?_ ?_ ?_ ?_ ?_ ?_ ?_ ?_ ?_) (fun j h0 h1 => by rw [va_up_ne _ _ h1]) (fun j hj => ?_)
              · rw [va_up_ne _ _ (by decide)]; exact k4
              · intro j hj; rw [va_up_ne _ _ (by decide)]
              · rw [va_up_ne _ _ (by decide)]; exact k5
              · intro j hj; rw [va_up_ne _ _ (by decide)]
              · intro j hj; rw [va_up_self, pk_un hj]
              · rw [va_up_ne _ _ (by decide)]; exact k3
              · intro j hj; rw [va_up_ne _ _ (by decide)]
              · intro _; rw [va_up_self, va_up_self, pk_us, pk_us]
              · intro j hj; rw [va_up_self, pk_un hj]
              · rw [va_up_ne _ _ (by decide)]
            · have hs1 : sp_setDefault g (nI s) (nI (tg i)) v = (3, 0, g) := by
                unfold sp_setDefault
                rw [hsS]
                show (if zTag (nI (tg i)) = 0 then _ else if zInt (zKind g.2.1 s (nI (tg i))) = 0 then _ else _) = _
                rw [zTag_of ht.1 ht.2, if_neg (by decide), hzk, if_pos (by
                  have h : κ = 0 ∨ κ = 4 ∨ κ = 5 := by omega
                  rcases h with rfl | rfl | rfl <;> decide)]
              have hend : mw_W mm_L_schemas 9 6 140 376 [some (.ref 1), some (.int (nI a)), some (.int y), some (.ref 43), some (.ref 44), some (.ref 54), some (.int (nI s)), some (.int (nI i)), some (.int (nI (tg i))), some (.int (nI κ - 1)), some (.int v), l11] [] (gl H A X) (lwP sc) := by
                have hw := w_setDefault hI (nI s) (nI (tg i)) v
                rw [hs1] at hw
                refine mw_aload_n (i := 0) dL_schemas_376 rfl rfl ?_
                refine mw_iload (i := 6) dL_schemas_377 rfl ?_
                refine mw_iload (i := 8) dL_schemas_379 rfl ?_
                refine mw_iload (i := 10) dL_schemas_381 rfl ?_
                refine mw_callSX dL_schemas_383 mk_L_138 (hw) (by decide) (Nat.le_refl _) (Nat.le_refl _) rfl rfl (Nat.le_of_ble_eq_true rfl) (fun E9 h9 q9 => ?_) (fun v9 h9 q9 => ?_)
                · cases q9.1
                obtain ⟨e9, H2, rfl, hI⟩ := q9
                cases e9
                have hw := w_setDefault hI (nI s) 32 v
                rw [hs2] at hw
                refine mw_bipush (v := -73) dL_schemas_386 (by decide) ?_
                refine mw_icmp_ne (tgt := 426) dL_schemas_388 (by decide) (fun c9 => absurd c9 (by first | decide | exact (fun q => q rfl))) (fun _ => ?_)
                refine mw_aload_n (i := 0) dL_schemas_391 rfl rfl ?_
                refine mw_iload (i := 6) dL_schemas_392 rfl ?_
                refine mw_bipush (v := 32) dL_schemas_394 (by decide) ?_
                refine mw_iload (i := 10) dL_schemas_396 rfl ?_
                refine mw_callSX dL_schemas_398 mk_L_138 (hw) (by decide) (Nat.le_refl _) (Nat.le_refl _) rfl rfl (Nat.le_of_ble_eq_true rfl) (fun E9 h9 q9 => ?_) (fun v9 h9 q9 => ?_)
                · cases q9.1
                obtain ⟨e9, H3, rfl, hI⟩ := q9
                cases e9
                have hw := w_setDefault hI (nI g.1) 0 v
                rw [hs3] at hw
                refine mw_bipush (v := -72) dL_schemas_401 (by decide) ?_
                refine mw_icmp_ne (tgt := 426) dL_schemas_403 (by decide) (fun c9 => absurd c9 (by first | decide | exact (fun q => q rfl))) (fun _ => ?_)
                refine mw_aload_n (i := 0) dL_schemas_406 rfl rfl ?_
                refine mw_aload (i := 5) dL_schemas_407 rfl ?_
                refine mw_iconst (v := 0) dL_schemas_409 (by decide) ?_
                refine mw_iald dL_schemas_410 gl_11 (mw_ix (j := 0) rfl (by decide) (by decide)) ?_
                rw [hg0]
                refine mw_iconst (v := 0) dL_schemas_411 (by decide) ?_
                refine mw_iload (i := 10) dL_schemas_412 rfl ?_
                refine mw_callSX dL_schemas_414 mk_L_138 (hw) (by decide) (Nat.le_refl _) (Nat.le_refl _) rfl rfl (Nat.le_of_ble_eq_true rfl) (fun E9 h9 q9 => ?_) (fun v9 h9 q9 => ?_)
                · cases q9.1
                obtain ⟨e9, H4, rfl, hI⟩ := q9
                cases e9
                refine mw_bipush (v := -71) dL_schemas_417 (by decide) ?_
                refine mw_icmp_ne (tgt := 426) dL_schemas_419 (by decide) (fun c9 => absurd c9 (by first | decide | exact (fun q => q rfl))) (fun _ => ?_)
                refine mw_iconst (v := 1) dL_schemas_422 (by decide) ?_
                refine mw_goto (tgt := 427) dL_schemas_423 (by decide) ?_
                exact mw_ireturn dL_schemas_427 ⟨_, rfl, rfl⟩ ⟨rfl, _, _, _, _, rfl, hI, hM⟩
              by_cases c0 : κ = 0
              · refine mw_iload (i := 9) dL_schemas_365 rfl ?_
                refine mw_if_lt (tgt := 376) dL_schemas_367 (by decide) (fun _ => ?_) (fun c9 => absurd c9 (fun z => z ((km_0 k1).mpr c0)))
                exact hend
              · have hle : ¬ nI κ - 1 ≤ 2 := by
                  have h : κ = 4 ∨ κ = 5 := by omega
                  rcases h with rfl | rfl <;> decide
                refine mw_iload (i := 9) dL_schemas_365 rfl ?_
                refine mw_if_lt (tgt := 376) dL_schemas_367 (by decide) (fun c9 => absurd c9 (fun z => c0 ((km_0 k1).mp z))) (fun _ => ?_)
                refine mw_iload (i := 9) dL_schemas_370 rfl ?_
                refine mw_iconst (v := 2) dL_schemas_372 (by decide) ?_
                refine mw_icmp_le (tgt := 428) dL_schemas_373 (by decide) (fun c9 => absurd c9 hle) (fun _ => ?_)
                exact hend
          refine mw_iload_n (i := 1) dL_schemas_109 rfl rfl ?_
          refine mw_iconst (v := 4) dL_schemas_110 (by decide) ?_
          refine mw_icmp_ge (tgt := 256) dL_schemas_111 (by decide) (fun _ => ?_) (fun c9 => absurd c9 (by first | decide | exact (fun q => q rfl) | ((try simp only [fa_lit]); first | exact cq_le (by omega) (by omega) | exact cq_nle (by omega) (by omega) | exact cq_lt (by omega) (by omega) | exact cq_nlt (by omega) (by omega) | exact cq_eq (by omega) (by omega) (by omega) | exact cq_neq (by omega))))
          refine mw_iload_n (i := 1) dL_schemas_256 rfl rfl ?_
          refine mw_iconst (v := 4) dL_schemas_257 (by decide) ?_
          refine mw_icmp_ne (tgt := 340) dL_schemas_258 (by decide) (fun _ => ?_) (fun c9 => absurd c9 (by first | decide | exact (fun q => q rfl) | ((try simp only [fa_lit]); first | exact cq_le (by omega) (by omega) | exact cq_nle (by omega) (by omega) | exact cq_lt (by omega) (by omega) | exact cq_nlt (by omega) (by omega) | exact cq_eq (by omega) (by omega) (by omega) | exact cq_neq (by omega))))
          refine mw_iload_n (i := 2) dL_schemas_340 rfl rfl ?_
          refine mw_sipush (v := 768) dL_schemas_341 (by decide) ?_
          refine mw_iand dL_schemas_344 ?_
          by_cases e768 : y &&& 768 = 0
          · refine mw_if_ne (tgt := 355) dL_schemas_345 (by decide) (fun c9 => absurd c9 (fun z => z e768)) (fun _ => ?_)
            refine mw_iload_n (i := 2) dL_schemas_348 rfl rfl ?_
            refine mw_bipush (v := 11) dL_schemas_349 (by decide) ?_
            refine mw_ishr dL_schemas_351 ?_
            refine mw_goto (tgt := 363) dL_schemas_352 (by decide) ?_
            refine mw_istore_10 dL_schemas_363 (by decide) ?_
            exact hset _ _
          · refine mw_if_ne (tgt := 355) dL_schemas_345 (by decide) (fun _ => ?_) (fun c9 => absurd c9 e768)
            refine mw_iload_n (i := 2) dL_schemas_355 rfl rfl ?_
            refine mw_bipush (v := 11) dL_schemas_356 (by decide) ?_
            refine mw_ishr dL_schemas_358 ?_
            refine mw_iconst (v := 3) dL_schemas_359 (by decide) ?_
            refine mw_callSr dL_schemas_360 mk_L_129 ((c_low _ (n := 3) (by decide) (by decide))) (by decide) (Nat.le_refl _) (Nat.le_refl _) rfl rfl (Nat.le_of_ble_eq_true rfl) ?_
            refine mw_istore_10 dL_schemas_363 (by decide) ?_
            exact hset _ _
end SC
