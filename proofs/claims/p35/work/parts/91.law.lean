/-! the law's loop and its body: written by gen/91.py (class side) -/
abbrev mm_L_law : mw_M := (yL_law, cL_law, 17, some .boolean, [])
section LL
variable {sc : mSc}
theorem c_cell {h : mw_H} (hs : h.2.2.1 < 2 ^ 31) {k : Nat} (hk : k < 2 ^ 31) : mw_Con mm_L_cell 0 0 0 [.ref 0, .int (nI k)] h (fun v h' => h' = h ∧ ∃ x, v = .inl (some (.int x))) := by
  refine gm_con pl_L rfl rfl (Nat.le_of_ble_eq_true rfl) rfl ?_
  by_cases e : k < h.2.2.1
  · refine mw_iload_n (i := 1) dL_cell_0 rfl rfl ?_
    refine mw_aload_n (i := 0) dL_cell_1 rfl rfl ?_
    refine mw_slen dL_cell_2 ?_
    refine mw_icmp_ge (tgt := 12) dL_cell_3 (by decide) (fun c9 => absurd c9 (cq_le e hs)) (fun _ => ?_)
    refine mw_aload_n (i := 0) dL_cell_6 rfl rfl ?_
    refine mw_iload_n (i := 1) dL_cell_7 rfl rfl ?_
    refine mw_sld dL_cell_8 (mw_ix rfl e hs) ?_
    refine mw_goto (tgt := 18) dL_cell_9 (by decide) ?_
    exact mw_ireturn dL_cell_18 ⟨_, rfl, rfl⟩ ⟨rfl, _, rfl⟩
  · refine mw_iload_n (i := 1) dL_cell_0 rfl rfl ?_
    refine mw_aload_n (i := 0) dL_cell_1 rfl rfl ?_
    refine mw_slen dL_cell_2 ?_
    refine mw_icmp_ge (tgt := 12) dL_cell_3 (by decide) (fun _ => ?_) (fun c9 => absurd c9 (cq_nle (by omega) hk))
    refine mw_ldc dL_cell_12 kn_L_7 ?_
    refine mw_iload_n (i := 1) dL_cell_14 rfl rfl ?_
    refine mw_iconst (v := 2) dL_cell_15 (by decide) ?_
    refine mw_iadd dL_cell_16 ?_
    refine mw_imul dL_cell_17 ?_
    exact mw_ireturn dL_cell_18 ⟨_, rfl, rfl⟩ ⟨rfl, _, rfl⟩
theorem lp_law (hL : sc.1 ≤ 260) : ∀ (n tn : Nat) (g : mS) (H : mw_H) (A : Nat → Nat → Int32) (X : Nat → Nat → Int64) (x15 x16 : Option Value) (kc ks : Nat), tn + n = 160 → cS sc g H A X → mR g A X → kc = 732 * n → ks = 4880 * n →
    mw_W mm_L_law 12 kc ks 79 [some (.ref 0), some (.ref 1), some (.ref 43), some (.ref 44), some (.ref 45), some (.ref 46), some (.ref 47), some (.ref 48), some (.ref 49), some (.ref 50), some (.ref 51), some (.ref 52), some (.ref 53), some (.ref 54), some (.int (nI tn)), x15, x16] [] (gl H A X) (fun v _ => v = .inl (some (.int 1))) := by
  intro n
  induction n with
  | zero =>
    intro tn g H A X x15 x16 kc ks hn hI hM hkc hks
    have hn : tn = 160 := by omega
    subst hn
    refine mw_iload (i := 14) dL_law_79 rfl ?_
    refine mw_sipush (v := 160) dL_law_81 (by decide) ?_
    refine mw_icmp_ge (tgt := 222) dL_law_84 (by decide) (fun _ => ?_) (fun c9 => absurd c9 (by first | decide | exact (fun q => q rfl)))
    refine mw_iconst (v := 1) dL_law_222 (by decide) ?_
    exact mw_ireturn dL_law_223 ⟨_, rfl, rfl⟩ rfl
  | succ n ih =>
    intro tn g H A X x15 x16 kc ks hn hI hM hkc hks
    obtain ⟨kq, hkq⟩ : ∃ z, z = 732 * n := ⟨_, rfl⟩
    obtain ⟨kr, hkr⟩ : ∃ z, z = 4880 * n := ⟨_, rfl⟩
    have hlen : (gl H A X).2.2.1 < 2 ^ 31 := by
      show H.2.2.1 < 2 ^ 31
      rw [hI.1]
      omega
    refine mw_less (kc' := kq + 720 + 12) (ks' := kr + 4320 + 560) (by omega) (by omega) ?_
    refine mw_iload (i := 14) dL_law_79 rfl ?_
    refine mw_sipush (v := 160) dL_law_81 (by decide) ?_
    refine mw_icmp_ge (tgt := 222) dL_law_84 (by decide) (fun c9 => absurd c9 (by first | decide | exact (fun q => q rfl) | ((try simp only [fa_lit]); first | exact cq_le (by omega) (by omega) | exact cq_nle (by omega) (by omega) | exact cq_lt (by omega) (by omega) | exact cq_nlt (by omega) (by omega) | exact cq_eq (by omega) (by omega) (by omega) | exact cq_neq (by omega)))) (fun _ => ?_)
    refine mw_aload_n (i := 0) dL_law_87 rfl rfl ?_
    refine mw_iconst (v := 2) dL_law_88 (by decide) ?_
    refine mw_iload (i := 14) dL_law_89 rfl ?_
    refine mw_imul dL_law_91 ?_
    rw [show 2 * nI tn = nI (2 * tn) by rw [show (2 : Int32) = nI 2 from rfl, pk_mul]]
    refine mw_callS dL_law_92 mk_L_262 ((c_cell (h := gl H A X) hlen (k := 2 * tn) (by omega))) (by decide) (Nat.le_refl _) (Nat.le_refl _) rfl rfl (Nat.le_of_ble_eq_true rfl) (fun E9 h9 q9 => ?_) (fun v9 h9 q9 => ?_)
    · obtain ⟨-, x, z⟩ := q9
      cases z
    obtain ⟨rfl, act, e9⟩ := q9
    cases e9
    refine mw_istore_15 dL_law_95 (by decide) ?_
    refine mw_aload_n (i := 0) dL_law_97 rfl rfl ?_
    refine mw_iconst (v := 2) dL_law_98 (by decide) ?_
    refine mw_iload (i := 14) dL_law_99 rfl ?_
    refine mw_imul dL_law_101 ?_
    rw [show 2 * nI tn = nI (2 * tn) by rw [show (2 : Int32) = nI 2 from rfl, pk_mul]]
    refine mw_iconst (v := 1) dL_law_102 (by decide) ?_
    refine mw_iadd dL_law_103 ?_
    rw [nI_1]
    refine mw_callS dL_law_104 mk_L_262 ((c_cell (h := gl H A X) hlen (k := 2 * tn + 1) (by omega))) (by decide) (Nat.le_refl _) (Nat.le_refl _) rfl rfl (Nat.le_of_ble_eq_true rfl) (fun E9 h9 q9 => ?_) (fun v9 h9 q9 => ?_)
    · obtain ⟨-, x, z⟩ := q9
      cases z
    obtain ⟨rfl, x9, e9⟩ := q9
    cases e9
    have hgo : ∀ a : Nat, a < 24 → mw_W mm_L_law 12 (kq + 720 + 12) (kr + 4320 + 560) 150 [some (.ref 0), some (.ref 1), some (.ref 43), some (.ref 44), some (.ref 45), some (.ref 46), some (.ref 47), some (.ref 48), some (.ref 49), some (.ref 50), some (.ref 51), some (.ref 52), some (.ref 53), some (.ref 54), some (.int (nI tn)), some (.int act), some (.int x9)] [.int (nI a), .ref 1] (gl H A X) (fun v _ => v = .inl (some (.int 1))) := by
      intro a ha
      refine mw_iload (i := 16) dL_law_150 rfl ?_
      refine mw_aload_n (i := 2) dL_law_152 rfl rfl ?_
      refine mw_aload_n (i := 3) dL_law_153 rfl rfl ?_
      refine mw_aload (i := 4) dL_law_154 rfl ?_
      refine mw_aload (i := 5) dL_law_156 rfl ?_
      refine mw_aload (i := 6) dL_law_158 rfl ?_
      refine mw_aload (i := 7) dL_law_160 rfl ?_
      refine mw_aload (i := 8) dL_law_162 rfl ?_
      refine mw_aload (i := 9) dL_law_164 rfl ?_
      refine mw_aload (i := 10) dL_law_166 rfl ?_
      refine mw_aload (i := 11) dL_law_168 rfl ?_
      refine mw_aload (i := 13) dL_law_170 rfl ?_
      refine mw_callS dL_law_172 mk_L_266 ((c_keeps hI hM ha x9)) (by decide) (Nat.le_refl _) (Nat.le_refl _) rfl rfl (Nat.le_of_ble_eq_true rfl) (fun E9 h9 q9 => ?_) (fun v9 h9 q9 => ?_)
      · cases q9.1
      obtain ⟨e9, g', H', A', X', rfl, hI', hM'⟩ := q9
      cases e9
      refine mw_if_eq (tgt := 214) dL_law_175 (by decide) (fun c9 => absurd c9 (by first | decide | exact (fun q => q rfl))) (fun _ => ?_)
      refine mw_aload_n (i := 1) dL_law_178 rfl rfl ?_
      refine mw_iload (i := 15) dL_law_179 rfl ?_
      refine mw_iconst (v := 5) dL_law_181 (by decide) ?_
      refine mw_ishr dL_law_182 ?_
      refine mw_iload (i := 16) dL_law_183 rfl ?_
      refine mw_ixor dL_law_185 ?_
      refine mw_aload_n (i := 2) dL_law_186 rfl rfl ?_
      refine mw_aload_n (i := 3) dL_law_187 rfl rfl ?_
      refine mw_aload (i := 4) dL_law_188 rfl ?_
      refine mw_aload (i := 5) dL_law_190 rfl ?_
      refine mw_aload (i := 6) dL_law_192 rfl ?_
      refine mw_aload (i := 7) dL_law_194 rfl ?_
      refine mw_aload (i := 8) dL_law_196 rfl ?_
      refine mw_aload (i := 9) dL_law_198 rfl ?_
      refine mw_aload (i := 10) dL_law_200 rfl ?_
      refine mw_aload (i := 11) dL_law_202 rfl ?_
      refine mw_aload (i := 12) dL_law_204 rfl ?_
      refine mw_aload (i := 13) dL_law_206 rfl ?_
      refine mw_callS dL_law_208 mk_L_270 ((c_isTold hI' hM' _)) (by decide) (Nat.le_refl _) (Nat.le_refl _) rfl rfl (Nat.le_of_ble_eq_true rfl) (fun E9 h9 q9 => ?_) (fun v9 h9 q9 => ?_)
      · cases q9.1
      obtain ⟨e9, g2, H2, A2, X2, rfl, hI2, hM2⟩ := q9
      cases e9
      refine mw_if_ne (tgt := 216) dL_law_211 (by decide) (fun _ => ?_) (fun c9 => absurd c9 (by first | decide | exact (fun q => q rfl)))
      refine mw_iinc_14 dL_law_216 (by decide) rfl ?_
      refine mw_goto (tgt := 79) dL_law_219 (by decide) ?_
      rw [show nI tn + Int32.ofInt 1 = nI (tn + 1) from nI_1 _]
      exact mw_less (by omega) (by omega) (ih (tn + 1) g2 H2 A2 X2 _ _ _ _ (by omega) hI2 hM2 rfl rfl)
    by_cases t2 : tn < 2
    · refine mw_istore_16 dL_law_107 (by decide) ?_
      refine mw_aload_n (i := 1) dL_law_109 rfl rfl ?_
      refine mw_iload (i := 14) dL_law_110 rfl ?_
      refine mw_iconst (v := 2) dL_law_112 (by decide) ?_
      refine mw_icmp_ge (tgt := 120) dL_law_113 (by decide) (fun c9 => absurd c9 (by first | decide | exact (fun q => q rfl) | ((try simp only [fa_lit]); first | exact cq_le (by omega) (by omega) | exact cq_nle (by omega) (by omega) | exact cq_lt (by omega) (by omega) | exact cq_nlt (by omega) (by omega) | exact cq_eq (by omega) (by omega) (by omega) | exact cq_neq (by omega)))) (fun _ => ?_)
      refine mw_iconst (v := 0) dL_law_116 (by decide) ?_
      refine mw_goto (tgt := 150) dL_law_117 (by decide) ?_
      exact hgo 0 (by decide)
    · by_cases t10 : tn < 10
      · refine mw_istore_16 dL_law_107 (by decide) ?_
        refine mw_aload_n (i := 1) dL_law_109 rfl rfl ?_
        refine mw_iload (i := 14) dL_law_110 rfl ?_
        refine mw_iconst (v := 2) dL_law_112 (by decide) ?_
        refine mw_icmp_ge (tgt := 120) dL_law_113 (by decide) (fun _ => ?_) (fun c9 => absurd c9 (by first | decide | exact (fun q => q rfl) | ((try simp only [fa_lit]); first | exact cq_le (by omega) (by omega) | exact cq_nle (by omega) (by omega) | exact cq_lt (by omega) (by omega) | exact cq_nlt (by omega) (by omega) | exact cq_eq (by omega) (by omega) (by omega) | exact cq_neq (by omega))))
        refine mw_iload (i := 14) dL_law_120 rfl ?_
        refine mw_bipush (v := 10) dL_law_122 (by decide) ?_
        refine mw_icmp_ge (tgt := 131) dL_law_124 (by decide) (fun c9 => absurd c9 (by first | decide | exact (fun q => q rfl) | ((try simp only [fa_lit]); first | exact cq_le (by omega) (by omega) | exact cq_nle (by omega) (by omega) | exact cq_lt (by omega) (by omega) | exact cq_nlt (by omega) (by omega) | exact cq_eq (by omega) (by omega) (by omega) | exact cq_neq (by omega)))) (fun _ => ?_)
        refine mw_iconst (v := 1) dL_law_127 (by decide) ?_
        refine mw_goto (tgt := 150) dL_law_128 (by decide) ?_
        exact hgo 1 (by decide)
      · by_cases t12 : tn < 12
        · refine mw_istore_16 dL_law_107 (by decide) ?_
          refine mw_aload_n (i := 1) dL_law_109 rfl rfl ?_
          refine mw_iload (i := 14) dL_law_110 rfl ?_
          refine mw_iconst (v := 2) dL_law_112 (by decide) ?_
          refine mw_icmp_ge (tgt := 120) dL_law_113 (by decide) (fun _ => ?_) (fun c9 => absurd c9 (by first | decide | exact (fun q => q rfl) | ((try simp only [fa_lit]); first | exact cq_le (by omega) (by omega) | exact cq_nle (by omega) (by omega) | exact cq_lt (by omega) (by omega) | exact cq_nlt (by omega) (by omega) | exact cq_eq (by omega) (by omega) (by omega) | exact cq_neq (by omega))))
          refine mw_iload (i := 14) dL_law_120 rfl ?_
          refine mw_bipush (v := 10) dL_law_122 (by decide) ?_
          refine mw_icmp_ge (tgt := 131) dL_law_124 (by decide) (fun _ => ?_) (fun c9 => absurd c9 (by first | decide | exact (fun q => q rfl) | ((try simp only [fa_lit]); first | exact cq_le (by omega) (by omega) | exact cq_nle (by omega) (by omega) | exact cq_lt (by omega) (by omega) | exact cq_nlt (by omega) (by omega) | exact cq_eq (by omega) (by omega) (by omega) | exact cq_neq (by omega))))
          refine mw_iload (i := 14) dL_law_131 rfl ?_
          refine mw_bipush (v := 12) dL_law_133 (by decide) ?_
          refine mw_icmp_ge (tgt := 143) dL_law_135 (by decide) (fun c9 => absurd c9 (by first | decide | exact (fun q => q rfl) | ((try simp only [fa_lit]); first | exact cq_le (by omega) (by omega) | exact cq_nle (by omega) (by omega) | exact cq_lt (by omega) (by omega) | exact cq_nlt (by omega) (by omega) | exact cq_eq (by omega) (by omega) (by omega) | exact cq_neq (by omega)))) (fun _ => ?_)
          refine mw_bipush (v := 6) dL_law_138 (by decide) ?_
          refine mw_goto (tgt := 150) dL_law_140 (by decide) ?_
          exact hgo 6 (by decide)
        · refine mw_istore_16 dL_law_107 (by decide) ?_
          refine mw_aload_n (i := 1) dL_law_109 rfl rfl ?_
          refine mw_iload (i := 14) dL_law_110 rfl ?_
          refine mw_iconst (v := 2) dL_law_112 (by decide) ?_
          refine mw_icmp_ge (tgt := 120) dL_law_113 (by decide) (fun _ => ?_) (fun c9 => absurd c9 (by first | decide | exact (fun q => q rfl) | ((try simp only [fa_lit]); first | exact cq_le (by omega) (by omega) | exact cq_nle (by omega) (by omega) | exact cq_lt (by omega) (by omega) | exact cq_nlt (by omega) (by omega) | exact cq_eq (by omega) (by omega) (by omega) | exact cq_neq (by omega))))
          refine mw_iload (i := 14) dL_law_120 rfl ?_
          refine mw_bipush (v := 10) dL_law_122 (by decide) ?_
          refine mw_icmp_ge (tgt := 131) dL_law_124 (by decide) (fun _ => ?_) (fun c9 => absurd c9 (by first | decide | exact (fun q => q rfl) | ((try simp only [fa_lit]); first | exact cq_le (by omega) (by omega) | exact cq_nle (by omega) (by omega) | exact cq_lt (by omega) (by omega) | exact cq_nlt (by omega) (by omega) | exact cq_eq (by omega) (by omega) (by omega) | exact cq_neq (by omega))))
          refine mw_iload (i := 14) dL_law_131 rfl ?_
          refine mw_bipush (v := 12) dL_law_133 (by decide) ?_
          refine mw_icmp_ge (tgt := 143) dL_law_135 (by decide) (fun _ => ?_) (fun c9 => absurd c9 (by first | decide | exact (fun q => q rfl) | ((try simp only [fa_lit]); first | exact cq_le (by omega) (by omega) | exact cq_nle (by omega) (by omega) | exact cq_lt (by omega) (by omega) | exact cq_nlt (by omega) (by omega) | exact cq_eq (by omega) (by omega) (by omega) | exact cq_neq (by omega))))
          refine mw_iload (i := 15) dL_law_143 rfl ?_
          refine mw_bipush (v := 24) dL_law_145 (by decide) ?_
          refine mw_callSr dL_law_147 mk_L_129 ((c_low act (n := 24) (by decide) (by decide))) (by decide) (Nat.le_refl _) (Nat.le_refl _) rfl rfl (Nat.le_of_ble_eq_true rfl) ?_
          exact hgo _ (Nat.mod_lt _ (by decide))
/-- the start: no schema, no message, an empty tape -/
def g00 : mS := (0, fun _ _ => 0, fun _ => none, [])
theorem ok_00 : okS g00 := ⟨Nat.zero_le _, fun s t hs => absurd hs (Nat.not_lt_zero _), fun s t hs => absurd hs (Nat.not_lt_zero _), fun m s L hm hT => (by cases hT), Nat.zero_le _, fun z hz => absurd hz List.not_mem_nil⟩
theorem mR_00 : mR g00 (fun _ _ => 0) (fun _ _ => 0) := ⟨⟨Nat.zero_le _, fun s i hs => absurd hs (Nat.not_lt_zero _), fun s t hs => absurd hs (Nat.not_lt_zero _)⟩, rfl, fun m hm => ⟨fun _ => rfl, fun s L hT => (by cases hT)⟩, fun m _ _ => rfl, rfl, Nat.zero_le _, fun j hj => absurd hj (Nat.not_lt_zero _), fun j hj => rfl⟩
theorem law_W (hL : sc.1 ≤ 260) : mw_W mm_L_law 12 120000 800000 0 [some (.ref 0), none, none, none, none, none, none, none, none, none, none, none, none, none, none, none, none] [] (1, fun _ => none, sc) (fun v _ => v = .inl (some (.int 1))) := by
  obtain ⟨H, hH⟩ : ∃ z : mw_H, z = (1, fun _ => none, sc) := ⟨_, rfl⟩
  rw [← hH]
  have h1 : H.1 = 1 := by rw [hH]
  have hs : H.2.2 = sc := by rw [hH]
  have hw : wfH H := fun a x hx => by rw [hH] at hx; cases hx
  clear hH
  refine mw_new (ci := 6) rfl cf_6 nw_L_9 df_6 (fun _ => rfl) dL_law_0 (Nat.le_refl _) (Nat.le_refl _) ?_
  refine mw_dup dL_law_3 rfl ?_
  refine mw_callI dL_law_4 mk_L_261 (y_X6_init (a := H.1) rfl mw_gn) (by decide) (Nat.le_refl _) (Nat.le_refl _) rfl rfl (Nat.le_of_ble_eq_true rfl) (fun E9 h9 q9 => ?_) (fun v9 h9 q9 => ?_)
  · cases q9.1
  obtain ⟨e9, u1, u2, c1, c2, c3, c4, c5, c6, c7, c8, c9, c10, c11⟩ := q9
  cases e9
  have hs9 : h9.2.2 = sc := u2.2.1.trans hs
  rw [h1] at u1 c1 c2 c3 c4 c5 c6 c7 c8 c9 c10 c11
  rw [h1]
  have hC0 : cC g00 h9 (fun _ => 0) (fun _ => 0) := ⟨ok_00, ⟨c1, ⟨_, c2, fun s hs => (if_neg (Nat.not_lt_zero _)).symm⟩, fun s hs => absurd hs (Nat.not_lt_zero _), fun s hs => absurd hs (Nat.not_lt_zero _), fun s s' hs => absurd hs (Nat.not_lt_zero _)⟩, ⟨⟨_, c3, fun m hm => rfl⟩, fun m s L hm hT => (by cases hT), fun m hm hT => absurd rfl hT, fun m m' hm hm' hT => absurd rfl hT, fun s m hs => absurd hs (Nat.not_lt_zero _)⟩, c4, ⟨c5, c6, c7, c8, ⟨_, c9⟩, ⟨_, c10⟩, ⟨_, c11⟩⟩⟩
  clear c1 c2 c3 c4 c5 c6 c7 c8 c9 c10 c11 u2
  refine mw_wf (fun hw0 => ?_)
  have hw0 : wfH h9 := hw0
  have u1 : h9.1 = 43 := u1
  -- the twelve arrays
  refine mw_astore_1 dL_law_7 (by decide) ?_
  refine mw_bipush (v := 36) dL_law_8 (by decide) ?_
  refine mw_newI ac_int dL_law_10 (by decide) rfl (by decide) (Nat.le_refl _) (Nat.le_refl _) ?_
  refine mw_astore_2 dL_law_12 (by decide) ?_
  have n0 : (h9).1 = 43 := u1
  rw [n0, show Int32.toNatClampNeg 36 = 36 from rfl]
  have hC1 := cC_n (x := .inl (0, (36, .inl (fun _ => 0)))) hC0 hw0
  have hw1 := hw0.n (x := .inl (0, (36, .inl (fun _ => 0)))) (by omega)
  have f0 : mw_g (mw_n (h9) (.inl (0, (36, .inl (fun _ => 0))))) 43 = some (.inl (0, (36, .inl (fun _ => 0)))) := by rw [← n0]; exact mw_gn
  generalize hG0 : mw_n (h9) (.inl (0, (36, .inl (fun _ => 0)))) = G0 at hC1 hw1 f0 ⊢
  have m0 : G0.1 = 44 ∧ G0.2.2 = sc := by rw [← hG0]; exact ⟨by show (h9).1 + 1 = _; rw [n0], hs9⟩
  refine mw_bipush (v := 36) dL_law_13 (by decide) ?_
  refine mw_newI ac_int dL_law_15 (by decide) rfl (by decide) (Nat.le_refl _) (Nat.le_refl _) ?_
  refine mw_astore_3 dL_law_17 (by decide) ?_
  have n1 : G0.1 = 44 := m0.1
  rw [n1, show Int32.toNatClampNeg 36 = 36 from rfl]
  have hC2 := cC_n (x := .inl (0, (36, .inl (fun _ => 0)))) hC1 hw1
  have hw2 := hw1.n (x := .inl (0, (36, .inl (fun _ => 0)))) (by omega)
  have f1 : mw_g (mw_n (G0) (.inl (0, (36, .inl (fun _ => 0))))) 44 = some (.inl (0, (36, .inl (fun _ => 0)))) := by rw [← n1]; exact mw_gn
  have f0 := (mw_gm (h := G0) (x := .inl (0, (36, .inl (fun _ => 0)))) (show 43 ≠ (G0).1 by omega)).trans f0
  generalize hG1 : mw_n (G0) (.inl (0, (36, .inl (fun _ => 0)))) = G1 at hC2 hw2 f0 f1 ⊢
  have m1 : G1.1 = 45 ∧ G1.2.2 = sc := by rw [← hG1]; exact ⟨by show (G0).1 + 1 = _; rw [n1], m0.2⟩
  refine mw_iconst (v := 5) dL_law_18 (by decide) ?_
  refine mw_newI ac_int dL_law_19 (by decide) rfl (by decide) (Nat.le_refl _) (Nat.le_refl _) ?_
  refine mw_astore_4 dL_law_21 (by decide) ?_
  have n2 : G1.1 = 45 := m1.1
  rw [n2, show Int32.toNatClampNeg 5 = 5 from rfl]
  have hC3 := cC_n (x := .inl (0, (5, .inl (fun _ => 0)))) hC2 hw2
  have hw3 := hw2.n (x := .inl (0, (5, .inl (fun _ => 0)))) (by omega)
  have f2 : mw_g (mw_n (G1) (.inl (0, (5, .inl (fun _ => 0))))) 45 = some (.inl (0, (5, .inl (fun _ => 0)))) := by rw [← n2]; exact mw_gn
  have f0 := (mw_gm (h := G1) (x := .inl (0, (5, .inl (fun _ => 0)))) (show 43 ≠ (G1).1 by omega)).trans f0
  have f1 := (mw_gm (h := G1) (x := .inl (0, (5, .inl (fun _ => 0)))) (show 44 ≠ (G1).1 by omega)).trans f1
  generalize hG2 : mw_n (G1) (.inl (0, (5, .inl (fun _ => 0)))) = G2 at hC3 hw3 f0 f1 f2 ⊢
  have m2 : G2.1 = 46 ∧ G2.2.2 = sc := by rw [← hG2]; exact ⟨by show (G1).1 + 1 = _; rw [n2], m1.2⟩
  refine mw_iconst (v := 5) dL_law_23 (by decide) ?_
  refine mw_newI ac_int dL_law_24 (by decide) rfl (by decide) (Nat.le_refl _) (Nat.le_refl _) ?_
  refine mw_astore_5 dL_law_26 (by decide) ?_
  have n3 : G2.1 = 46 := m2.1
  rw [n3, show Int32.toNatClampNeg 5 = 5 from rfl]
  have hC4 := cC_n (x := .inl (0, (5, .inl (fun _ => 0)))) hC3 hw3
  have hw4 := hw3.n (x := .inl (0, (5, .inl (fun _ => 0)))) (by omega)
  have f3 : mw_g (mw_n (G2) (.inl (0, (5, .inl (fun _ => 0))))) 46 = some (.inl (0, (5, .inl (fun _ => 0)))) := by rw [← n3]; exact mw_gn
  have f0 := (mw_gm (h := G2) (x := .inl (0, (5, .inl (fun _ => 0)))) (show 43 ≠ (G2).1 by omega)).trans f0
  have f1 := (mw_gm (h := G2) (x := .inl (0, (5, .inl (fun _ => 0)))) (show 44 ≠ (G2).1 by omega)).trans f1
  have f2 := (mw_gm (h := G2) (x := .inl (0, (5, .inl (fun _ => 0)))) (show 45 ≠ (G2).1 by omega)).trans f2
  generalize hG3 : mw_n (G2) (.inl (0, (5, .inl (fun _ => 0)))) = G3 at hC4 hw4 f0 f1 f2 f3 ⊢
  have m3 : G3.1 = 47 ∧ G3.2.2 = sc := by rw [← hG3]; exact ⟨by show (G2).1 + 1 = _; rw [n3], m2.2⟩
  refine mw_bipush (v := 60) dL_law_28 (by decide) ?_
  refine mw_newI ac_int dL_law_30 (by decide) rfl (by decide) (Nat.le_refl _) (Nat.le_refl _) ?_
  refine mw_astore_6 dL_law_32 (by decide) ?_
  have n4 : G3.1 = 47 := m3.1
  rw [n4, show Int32.toNatClampNeg 60 = 60 from rfl]
  have hC5 := cC_n (x := .inl (0, (60, .inl (fun _ => 0)))) hC4 hw4
  have hw5 := hw4.n (x := .inl (0, (60, .inl (fun _ => 0)))) (by omega)
  have f4 : mw_g (mw_n (G3) (.inl (0, (60, .inl (fun _ => 0))))) 47 = some (.inl (0, (60, .inl (fun _ => 0)))) := by rw [← n4]; exact mw_gn
  have f0 := (mw_gm (h := G3) (x := .inl (0, (60, .inl (fun _ => 0)))) (show 43 ≠ (G3).1 by omega)).trans f0
  have f1 := (mw_gm (h := G3) (x := .inl (0, (60, .inl (fun _ => 0)))) (show 44 ≠ (G3).1 by omega)).trans f1
  have f2 := (mw_gm (h := G3) (x := .inl (0, (60, .inl (fun _ => 0)))) (show 45 ≠ (G3).1 by omega)).trans f2
  have f3 := (mw_gm (h := G3) (x := .inl (0, (60, .inl (fun _ => 0)))) (show 46 ≠ (G3).1 by omega)).trans f3
  generalize hG4 : mw_n (G3) (.inl (0, (60, .inl (fun _ => 0)))) = G4 at hC5 hw5 f0 f1 f2 f3 f4 ⊢
  have m4 : G4.1 = 48 ∧ G4.2.2 = sc := by rw [← hG4]; exact ⟨by show (G3).1 + 1 = _; rw [n4], m3.2⟩
  refine mw_bipush (v := 60) dL_law_34 (by decide) ?_
  refine mw_newI ac_int dL_law_36 (by decide) rfl (by decide) (Nat.le_refl _) (Nat.le_refl _) ?_
  refine mw_astore_7 dL_law_38 (by decide) ?_
  have n5 : G4.1 = 48 := m4.1
  rw [n5, show Int32.toNatClampNeg 60 = 60 from rfl]
  have hC6 := cC_n (x := .inl (0, (60, .inl (fun _ => 0)))) hC5 hw5
  have hw6 := hw5.n (x := .inl (0, (60, .inl (fun _ => 0)))) (by omega)
  have f5 : mw_g (mw_n (G4) (.inl (0, (60, .inl (fun _ => 0))))) 48 = some (.inl (0, (60, .inl (fun _ => 0)))) := by rw [← n5]; exact mw_gn
  have f0 := (mw_gm (h := G4) (x := .inl (0, (60, .inl (fun _ => 0)))) (show 43 ≠ (G4).1 by omega)).trans f0
  have f1 := (mw_gm (h := G4) (x := .inl (0, (60, .inl (fun _ => 0)))) (show 44 ≠ (G4).1 by omega)).trans f1
  have f2 := (mw_gm (h := G4) (x := .inl (0, (60, .inl (fun _ => 0)))) (show 45 ≠ (G4).1 by omega)).trans f2
  have f3 := (mw_gm (h := G4) (x := .inl (0, (60, .inl (fun _ => 0)))) (show 46 ≠ (G4).1 by omega)).trans f3
  have f4 := (mw_gm (h := G4) (x := .inl (0, (60, .inl (fun _ => 0)))) (show 47 ≠ (G4).1 by omega)).trans f4
  generalize hG5 : mw_n (G4) (.inl (0, (60, .inl (fun _ => 0)))) = G5 at hC6 hw6 f0 f1 f2 f3 f4 f5 ⊢
  have m5 : G5.1 = 49 ∧ G5.2.2 = sc := by rw [← hG5]; exact ⟨by show (G4).1 + 1 = _; rw [n5], m4.2⟩
  refine mw_bipush (v := 60) dL_law_40 (by decide) ?_
  refine mw_newL ac_long dL_law_42 (by decide) rfl (by decide) (Nat.le_refl _) (Nat.le_refl _) ?_
  refine mw_astore_8 dL_law_44 (by decide) ?_
  have n6 : G5.1 = 49 := m5.1
  rw [n6, show Int32.toNatClampNeg 60 = 60 from rfl]
  have hC7 := cC_n (x := .inl (3, (60, .inr (.inl (fun _ => 0))))) hC6 hw6
  have hw7 := hw6.n (x := .inl (3, (60, .inr (.inl (fun _ => 0))))) (by omega)
  have f6 : mw_g (mw_n (G5) (.inl (3, (60, .inr (.inl (fun _ => 0)))))) 49 = some (.inl (3, (60, .inr (.inl (fun _ => 0))))) := by rw [← n6]; exact mw_gn
  have f0 := (mw_gm (h := G5) (x := .inl (3, (60, .inr (.inl (fun _ => 0))))) (show 43 ≠ (G5).1 by omega)).trans f0
  have f1 := (mw_gm (h := G5) (x := .inl (3, (60, .inr (.inl (fun _ => 0))))) (show 44 ≠ (G5).1 by omega)).trans f1
  have f2 := (mw_gm (h := G5) (x := .inl (3, (60, .inr (.inl (fun _ => 0))))) (show 45 ≠ (G5).1 by omega)).trans f2
  have f3 := (mw_gm (h := G5) (x := .inl (3, (60, .inr (.inl (fun _ => 0))))) (show 46 ≠ (G5).1 by omega)).trans f3
  have f4 := (mw_gm (h := G5) (x := .inl (3, (60, .inr (.inl (fun _ => 0))))) (show 47 ≠ (G5).1 by omega)).trans f4
  have f5 := (mw_gm (h := G5) (x := .inl (3, (60, .inr (.inl (fun _ => 0))))) (show 48 ≠ (G5).1 by omega)).trans f5
  generalize hG6 : mw_n (G5) (.inl (3, (60, .inr (.inl (fun _ => 0))))) = G6 at hC7 hw7 f0 f1 f2 f3 f4 f5 f6 ⊢
  have m6 : G6.1 = 50 ∧ G6.2.2 = sc := by rw [← hG6]; exact ⟨by show (G5).1 + 1 = _; rw [n6], m5.2⟩
  refine mw_bipush (v := 60) dL_law_46 (by decide) ?_
  refine mw_newL ac_long dL_law_48 (by decide) rfl (by decide) (Nat.le_refl _) (Nat.le_refl _) ?_
  refine mw_astore_9 dL_law_50 (by decide) ?_
  have n7 : G6.1 = 50 := m6.1
  rw [n7, show Int32.toNatClampNeg 60 = 60 from rfl]
  have hC8 := cC_n (x := .inl (3, (60, .inr (.inl (fun _ => 0))))) hC7 hw7
  have hw8 := hw7.n (x := .inl (3, (60, .inr (.inl (fun _ => 0))))) (by omega)
  have f7 : mw_g (mw_n (G6) (.inl (3, (60, .inr (.inl (fun _ => 0)))))) 50 = some (.inl (3, (60, .inr (.inl (fun _ => 0))))) := by rw [← n7]; exact mw_gn
  have f0 := (mw_gm (h := G6) (x := .inl (3, (60, .inr (.inl (fun _ => 0))))) (show 43 ≠ (G6).1 by omega)).trans f0
  have f1 := (mw_gm (h := G6) (x := .inl (3, (60, .inr (.inl (fun _ => 0))))) (show 44 ≠ (G6).1 by omega)).trans f1
  have f2 := (mw_gm (h := G6) (x := .inl (3, (60, .inr (.inl (fun _ => 0))))) (show 45 ≠ (G6).1 by omega)).trans f2
  have f3 := (mw_gm (h := G6) (x := .inl (3, (60, .inr (.inl (fun _ => 0))))) (show 46 ≠ (G6).1 by omega)).trans f3
  have f4 := (mw_gm (h := G6) (x := .inl (3, (60, .inr (.inl (fun _ => 0))))) (show 47 ≠ (G6).1 by omega)).trans f4
  have f5 := (mw_gm (h := G6) (x := .inl (3, (60, .inr (.inl (fun _ => 0))))) (show 48 ≠ (G6).1 by omega)).trans f5
  have f6 := (mw_gm (h := G6) (x := .inl (3, (60, .inr (.inl (fun _ => 0))))) (show 49 ≠ (G6).1 by omega)).trans f6
  generalize hG7 : mw_n (G6) (.inl (3, (60, .inr (.inl (fun _ => 0))))) = G7 at hC8 hw8 f0 f1 f2 f3 f4 f5 f6 f7 ⊢
  have m7 : G7.1 = 51 ∧ G7.2.2 = sc := by rw [← hG7]; exact ⟨by show (G6).1 + 1 = _; rw [n7], m6.2⟩
  refine mw_bipush (v := 64) dL_law_52 (by decide) ?_
  refine mw_newI ac_int dL_law_54 (by decide) rfl (by decide) (Nat.le_refl _) (Nat.le_refl _) ?_
  refine mw_astore_10 dL_law_56 (by decide) ?_
  have n8 : G7.1 = 51 := m7.1
  rw [n8, show Int32.toNatClampNeg 64 = 64 from rfl]
  have hC9 := cC_n (x := .inl (0, (64, .inl (fun _ => 0)))) hC8 hw8
  have hw9 := hw8.n (x := .inl (0, (64, .inl (fun _ => 0)))) (by omega)
  have f8 : mw_g (mw_n (G7) (.inl (0, (64, .inl (fun _ => 0))))) 51 = some (.inl (0, (64, .inl (fun _ => 0)))) := by rw [← n8]; exact mw_gn
  have f0 := (mw_gm (h := G7) (x := .inl (0, (64, .inl (fun _ => 0)))) (show 43 ≠ (G7).1 by omega)).trans f0
  have f1 := (mw_gm (h := G7) (x := .inl (0, (64, .inl (fun _ => 0)))) (show 44 ≠ (G7).1 by omega)).trans f1
  have f2 := (mw_gm (h := G7) (x := .inl (0, (64, .inl (fun _ => 0)))) (show 45 ≠ (G7).1 by omega)).trans f2
  have f3 := (mw_gm (h := G7) (x := .inl (0, (64, .inl (fun _ => 0)))) (show 46 ≠ (G7).1 by omega)).trans f3
  have f4 := (mw_gm (h := G7) (x := .inl (0, (64, .inl (fun _ => 0)))) (show 47 ≠ (G7).1 by omega)).trans f4
  have f5 := (mw_gm (h := G7) (x := .inl (0, (64, .inl (fun _ => 0)))) (show 48 ≠ (G7).1 by omega)).trans f5
  have f6 := (mw_gm (h := G7) (x := .inl (0, (64, .inl (fun _ => 0)))) (show 49 ≠ (G7).1 by omega)).trans f6
  have f7 := (mw_gm (h := G7) (x := .inl (0, (64, .inl (fun _ => 0)))) (show 50 ≠ (G7).1 by omega)).trans f7
  generalize hG8 : mw_n (G7) (.inl (0, (64, .inl (fun _ => 0)))) = G8 at hC9 hw9 f0 f1 f2 f3 f4 f5 f6 f7 f8 ⊢
  have m8 : G8.1 = 52 ∧ G8.2.2 = sc := by rw [← hG8]; exact ⟨by show (G7).1 + 1 = _; rw [n8], m7.2⟩
  refine mw_bipush (v := 64) dL_law_58 (by decide) ?_
  refine mw_newI ac_int dL_law_60 (by decide) rfl (by decide) (Nat.le_refl _) (Nat.le_refl _) ?_
  refine mw_astore_11 dL_law_62 (by decide) ?_
  have n9 : G8.1 = 52 := m8.1
  rw [n9, show Int32.toNatClampNeg 64 = 64 from rfl]
  have hC10 := cC_n (x := .inl (0, (64, .inl (fun _ => 0)))) hC9 hw9
  have hw10 := hw9.n (x := .inl (0, (64, .inl (fun _ => 0)))) (by omega)
  have f9 : mw_g (mw_n (G8) (.inl (0, (64, .inl (fun _ => 0))))) 52 = some (.inl (0, (64, .inl (fun _ => 0)))) := by rw [← n9]; exact mw_gn
  have f0 := (mw_gm (h := G8) (x := .inl (0, (64, .inl (fun _ => 0)))) (show 43 ≠ (G8).1 by omega)).trans f0
  have f1 := (mw_gm (h := G8) (x := .inl (0, (64, .inl (fun _ => 0)))) (show 44 ≠ (G8).1 by omega)).trans f1
  have f2 := (mw_gm (h := G8) (x := .inl (0, (64, .inl (fun _ => 0)))) (show 45 ≠ (G8).1 by omega)).trans f2
  have f3 := (mw_gm (h := G8) (x := .inl (0, (64, .inl (fun _ => 0)))) (show 46 ≠ (G8).1 by omega)).trans f3
  have f4 := (mw_gm (h := G8) (x := .inl (0, (64, .inl (fun _ => 0)))) (show 47 ≠ (G8).1 by omega)).trans f4
  have f5 := (mw_gm (h := G8) (x := .inl (0, (64, .inl (fun _ => 0)))) (show 48 ≠ (G8).1 by omega)).trans f5
  have f6 := (mw_gm (h := G8) (x := .inl (0, (64, .inl (fun _ => 0)))) (show 49 ≠ (G8).1 by omega)).trans f6
  have f7 := (mw_gm (h := G8) (x := .inl (0, (64, .inl (fun _ => 0)))) (show 50 ≠ (G8).1 by omega)).trans f7
  have f8 := (mw_gm (h := G8) (x := .inl (0, (64, .inl (fun _ => 0)))) (show 51 ≠ (G8).1 by omega)).trans f8
  generalize hG9 : mw_n (G8) (.inl (0, (64, .inl (fun _ => 0)))) = G9 at hC10 hw10 f0 f1 f2 f3 f4 f5 f6 f7 f8 f9 ⊢
  have m9 : G9.1 = 53 ∧ G9.2.2 = sc := by rw [← hG9]; exact ⟨by show (G8).1 + 1 = _; rw [n9], m8.2⟩
  refine mw_bipush (v := 64) dL_law_64 (by decide) ?_
  refine mw_newI ac_int dL_law_66 (by decide) rfl (by decide) (Nat.le_refl _) (Nat.le_refl _) ?_
  refine mw_astore_12 dL_law_68 (by decide) ?_
  have n10 : G9.1 = 53 := m9.1
  rw [n10, show Int32.toNatClampNeg 64 = 64 from rfl]
  have hC11 := cC_n (x := .inl (0, (64, .inl (fun _ => 0)))) hC10 hw10
  have hw11 := hw10.n (x := .inl (0, (64, .inl (fun _ => 0)))) (by omega)
  have f10 : mw_g (mw_n (G9) (.inl (0, (64, .inl (fun _ => 0))))) 53 = some (.inl (0, (64, .inl (fun _ => 0)))) := by rw [← n10]; exact mw_gn
  have f0 := (mw_gm (h := G9) (x := .inl (0, (64, .inl (fun _ => 0)))) (show 43 ≠ (G9).1 by omega)).trans f0
  have f1 := (mw_gm (h := G9) (x := .inl (0, (64, .inl (fun _ => 0)))) (show 44 ≠ (G9).1 by omega)).trans f1
  have f2 := (mw_gm (h := G9) (x := .inl (0, (64, .inl (fun _ => 0)))) (show 45 ≠ (G9).1 by omega)).trans f2
  have f3 := (mw_gm (h := G9) (x := .inl (0, (64, .inl (fun _ => 0)))) (show 46 ≠ (G9).1 by omega)).trans f3
  have f4 := (mw_gm (h := G9) (x := .inl (0, (64, .inl (fun _ => 0)))) (show 47 ≠ (G9).1 by omega)).trans f4
  have f5 := (mw_gm (h := G9) (x := .inl (0, (64, .inl (fun _ => 0)))) (show 48 ≠ (G9).1 by omega)).trans f5
  have f6 := (mw_gm (h := G9) (x := .inl (0, (64, .inl (fun _ => 0)))) (show 49 ≠ (G9).1 by omega)).trans f6
  have f7 := (mw_gm (h := G9) (x := .inl (0, (64, .inl (fun _ => 0)))) (show 50 ≠ (G9).1 by omega)).trans f7
  have f8 := (mw_gm (h := G9) (x := .inl (0, (64, .inl (fun _ => 0)))) (show 51 ≠ (G9).1 by omega)).trans f8
  have f9 := (mw_gm (h := G9) (x := .inl (0, (64, .inl (fun _ => 0)))) (show 52 ≠ (G9).1 by omega)).trans f9
  generalize hG10 : mw_n (G9) (.inl (0, (64, .inl (fun _ => 0)))) = G10 at hC11 hw11 f0 f1 f2 f3 f4 f5 f6 f7 f8 f9 f10 ⊢
  have m10 : G10.1 = 54 ∧ G10.2.2 = sc := by rw [← hG10]; exact ⟨by show (G9).1 + 1 = _; rw [n10], m9.2⟩
  refine mw_bipush (v := 6) dL_law_70 (by decide) ?_
  refine mw_newI ac_int dL_law_72 (by decide) rfl (by decide) (Nat.le_refl _) (Nat.le_refl _) ?_
  refine mw_astore_13 dL_law_74 (by decide) ?_
  have n11 : G10.1 = 54 := m10.1
  rw [n11, show Int32.toNatClampNeg 6 = 6 from rfl]
  have hC12 := cC_n (x := .inl (0, (6, .inl (fun _ => 0)))) hC11 hw11
  have hw12 := hw11.n (x := .inl (0, (6, .inl (fun _ => 0)))) (by omega)
  have f11 : mw_g (mw_n (G10) (.inl (0, (6, .inl (fun _ => 0))))) 54 = some (.inl (0, (6, .inl (fun _ => 0)))) := by rw [← n11]; exact mw_gn
  have f0 := (mw_gm (h := G10) (x := .inl (0, (6, .inl (fun _ => 0)))) (show 43 ≠ (G10).1 by omega)).trans f0
  have f1 := (mw_gm (h := G10) (x := .inl (0, (6, .inl (fun _ => 0)))) (show 44 ≠ (G10).1 by omega)).trans f1
  have f2 := (mw_gm (h := G10) (x := .inl (0, (6, .inl (fun _ => 0)))) (show 45 ≠ (G10).1 by omega)).trans f2
  have f3 := (mw_gm (h := G10) (x := .inl (0, (6, .inl (fun _ => 0)))) (show 46 ≠ (G10).1 by omega)).trans f3
  have f4 := (mw_gm (h := G10) (x := .inl (0, (6, .inl (fun _ => 0)))) (show 47 ≠ (G10).1 by omega)).trans f4
  have f5 := (mw_gm (h := G10) (x := .inl (0, (6, .inl (fun _ => 0)))) (show 48 ≠ (G10).1 by omega)).trans f5
  have f6 := (mw_gm (h := G10) (x := .inl (0, (6, .inl (fun _ => 0)))) (show 49 ≠ (G10).1 by omega)).trans f6
  have f7 := (mw_gm (h := G10) (x := .inl (0, (6, .inl (fun _ => 0)))) (show 50 ≠ (G10).1 by omega)).trans f7
  have f8 := (mw_gm (h := G10) (x := .inl (0, (6, .inl (fun _ => 0)))) (show 51 ≠ (G10).1 by omega)).trans f8
  have f9 := (mw_gm (h := G10) (x := .inl (0, (6, .inl (fun _ => 0)))) (show 52 ≠ (G10).1 by omega)).trans f9
  have f10 := (mw_gm (h := G10) (x := .inl (0, (6, .inl (fun _ => 0)))) (show 53 ≠ (G10).1 by omega)).trans f10
  generalize hG11 : mw_n (G10) (.inl (0, (6, .inl (fun _ => 0)))) = G11 at hC12 hw12 f0 f1 f2 f3 f4 f5 f6 f7 f8 f9 f10 f11 ⊢
  have m11 : G11.1 = 55 ∧ G11.2.2 = sc := by rw [← hG11]; exact ⟨by show (G10).1 + 1 = _; rw [n11], m10.2⟩
  have hgl : gl G11 (fun _ _ => 0) (fun _ _ => 0) = G11 := gl_self (fun j hj => by
    have h : j = 0 ∨ j = 1 ∨ j = 2 ∨ j = 3 ∨ j = 4 ∨ j = 5 ∨ j = 6 ∨ j = 7 ∨ j = 8 ∨ j = 9 ∨ j = 10 ∨ j = 11 := by omega
    rcases h with rfl | rfl | rfl | rfl | rfl | rfl | rfl | rfl | rfl | rfl | rfl | rfl
    · exact f0
    · exact f1
    · exact f2
    · exact f3
    · exact f4
    · exact f5
    · exact f6
    · exact f7
    · exact f8
    · exact f9
    · exact f10
    · exact f11)
  have hI : cS sc g00 G11 (fun _ _ => 0) (fun _ _ => 0) := ⟨m11.2, by rw [m11.1]; decide, _, _, by rw [hgl]; exact hC12⟩
  refine mw_iconst (v := 0) dL_law_76 (by decide) ?_
  refine mw_istore_14 dL_law_77 (by decide) ?_
  rw [← hgl]
  refine mw_less (kc' := 732 * 160) (ks' := 4880 * 160) (Nat.le_of_ble_eq_true rfl) (Nat.le_of_ble_eq_true rfl) ?_
  exact lp_law hL 160 0 g00 G11 _ _ none none _ _ rfl hI mR_00 rfl rfl
end LL
