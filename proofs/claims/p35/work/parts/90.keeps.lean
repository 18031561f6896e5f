/-! keeps: written by gen/90.py (class side) -/
section K7
variable {sc : mSc} {g : mS} {H : mw_H} {A : Nat → Nat → Int32} {X : Nat → Nat → Int64} {s m i p s0 s2 : Nat} {L L2 : List af} {lf act y : Int32}
theorem mx_r5 {n : Nat} (h : n < 2 ^ 31) : nI n - nI n / 5 * 5 = nI (n % 5) := pk_rem (d := 5) h (by decide) (by decide)
theorem lp_cycm {a m0 : Nat} (hm0 : m0 < 5) {x18 x19 x20 x21 x22 x23 x24 x25 x26 x27 x28 x29 x30 x31 x32 x33 x34 x35 x36 x37 x38 x39 x40 x41 : Option Value} (k : ∀ m x17, m < 5 → (A 2 m ≠ 0 ∨ ∀ q, q < 5 → A 2 q = 0) → mw_W mm_L_keeps 10 12 560 82 (some (.ref 1) :: some (.int (nI a)) :: some (.int y) :: some (.ref 43) :: some (.ref 44) :: some (.ref 45) :: some (.ref 46) :: some (.ref 47) :: some (.ref 48) :: some (.ref 49) :: some (.ref 50) :: some (.ref 51) :: some (.ref 52) :: some (.ref 54) :: some (.int (lf)) :: some (.int (nI s0)) :: some (.int (nI m)) :: x17 :: x18 :: x19 :: x20 :: x21 :: x22 :: x23 :: x24 :: x25 :: x26 :: x27 :: x28 :: x29 :: x30 :: x31 :: x32 :: x33 :: x34 :: x35 :: x36 :: x37 :: x38 :: x39 :: x40 :: x41 :: []) [] (gl H A X) (lwP sc)) : ∀ (n j : Nat), j + n = 5 → (∀ j', j' < j → A 2 ((m0 + j') % 5) = 0) → mw_W mm_L_keeps 10 12 560 54 (some (.ref 1) :: some (.int (nI a)) :: some (.int y) :: some (.ref 43) :: some (.ref 44) :: some (.ref 45) :: some (.ref 46) :: some (.ref 47) :: some (.ref 48) :: some (.ref 49) :: some (.ref 50) :: some (.ref 51) :: some (.ref 52) :: some (.ref 54) :: some (.int (lf)) :: some (.int (nI s0)) :: some (.int (nI ((m0 + j) % 5))) :: some (.int (nI j)) :: x18 :: x19 :: x20 :: x21 :: x22 :: x23 :: x24 :: x25 :: x26 :: x27 :: x28 :: x29 :: x30 :: x31 :: x32 :: x33 :: x34 :: x35 :: x36 :: x37 :: x38 :: x39 :: x40 :: x41 :: []) [] (gl H A X) (lwP sc) := by
  intro n
  induction n with
  | zero =>
    intro j hj h0
    have hj : j = 5 := by omega
    subst hj
    refine mw_iload (i := 17) dL_keeps_54 rfl ?_
    refine mw_iconst (v := 5) dL_keeps_56 (by decide) ?_
    refine mw_icmp_ge (tgt := 82) dL_keeps_57 (by decide) (fun _ => ?_) (fun c9 => absurd c9 (by first | decide | exact (fun q => q rfl)))
    refine k _ _ (Nat.mod_lt _ (by decide)) (Or.inr (fun q hq => ?_))
    have h9 := h0 ((q + 5 - m0) % 5) (Nat.mod_lt _ (by decide))
    rw [show (m0 + (q + 5 - m0) % 5) % 5 = q by omega] at h9
    exact h9
  | succ n ih =>
    intro j hj h0
    have hlt : (m0 + j) % 5 < 5 := Nat.mod_lt _ (by decide)
    by_cases e : A 2 ((m0 + j) % 5) = 0
    · refine mw_iload (i := 17) dL_keeps_54 rfl ?_
      refine mw_iconst (v := 5) dL_keeps_56 (by decide) ?_
      refine mw_icmp_ge (tgt := 82) dL_keeps_57 (by decide) (fun c9 => absurd c9 (by first | decide | exact (fun q => q rfl) | ((try simp only [fa_lit]); first | exact cq_le (by omega) (by omega) | exact cq_nle (by omega) (by omega) | exact cq_lt (by omega) (by omega) | exact cq_nlt (by omega) (by omega) | exact cq_eq (by omega) (by omega) (by omega) | exact cq_neq (by omega)))) (fun _ => ?_)
      refine mw_aload (i := 5) dL_keeps_60 rfl ?_
      refine mw_iload (i := 16) dL_keeps_62 rfl ?_
      refine mw_iald dL_keeps_64 gl_2 (mw_ix rfl hlt (by decide)) ?_
      refine mw_if_ne (tgt := 82) dL_keeps_65 (by decide) (fun c9 => absurd c9 (fun z => z e)) (fun _ => ?_)
      refine mw_iload (i := 16) dL_keeps_68 rfl ?_
      refine mw_iconst (v := 1) dL_keeps_70 (by decide) ?_
      refine mw_iadd dL_keeps_71 ?_
      rw [nI_1]
      refine mw_iconst (v := 5) dL_keeps_72 (by decide) ?_
      refine mw_irem dL_keeps_73 (by decide) ?_
      rw [mx_r5 (by omega), show ((m0 + j) % 5 + 1) % 5 = (m0 + (j + 1)) % 5 by omega]
      refine mw_istore_16 dL_keeps_74 (by decide) ?_
      refine mw_iinc_17 dL_keeps_76 (by decide) rfl ?_
      refine mw_goto (tgt := 54) dL_keeps_79 (by decide) ?_
      rw [show nI j + Int32.ofInt 1 = nI (j + 1) from nI_1 _]
      refine ih (j + 1) (by omega) (fun j' hj' => ?_)
      rcases Nat.lt_or_ge j' j with z | z
      · exact h0 j' z
      · rw [show j' = j by omega]; exact e
    · refine mw_iload (i := 17) dL_keeps_54 rfl ?_
      refine mw_iconst (v := 5) dL_keeps_56 (by decide) ?_
      refine mw_icmp_ge (tgt := 82) dL_keeps_57 (by decide) (fun c9 => absurd c9 (by first | decide | exact (fun q => q rfl) | ((try simp only [fa_lit]); first | exact cq_le (by omega) (by omega) | exact cq_nle (by omega) (by omega) | exact cq_lt (by omega) (by omega) | exact cq_nlt (by omega) (by omega) | exact cq_eq (by omega) (by omega) (by omega) | exact cq_neq (by omega)))) (fun _ => ?_)
      refine mw_aload (i := 5) dL_keeps_60 rfl ?_
      refine mw_iload (i := 16) dL_keeps_62 rfl ?_
      refine mw_iald dL_keeps_64 gl_2 (mw_ix rfl hlt (by decide)) ?_
      refine mw_if_ne (tgt := 82) dL_keeps_65 (by decide) (fun _ => ?_) (fun c9 => absurd c9 e)
      exact k _ _ hlt (Or.inl e)
theorem lp_cycp {a p0 : Nat} (hp0 : p0 < 5) {x22 x23 x24 x25 x26 x27 x28 x29 x30 x31 x32 x33 x34 x35 x36 x37 x38 x39 x40 x41 : Option Value} (k : ∀ p x21, p < 5 → (A 2 p ≠ 0 ∨ ∀ q, q < 5 → A 2 q = 0) → mw_W mm_L_keeps 10 12 560 248 (some (.ref 1) :: some (.int (nI a)) :: some (.int y) :: some (.ref 43) :: some (.ref 44) :: some (.ref 45) :: some (.ref 46) :: some (.ref 47) :: some (.ref 48) :: some (.ref 49) :: some (.ref 50) :: some (.ref 51) :: some (.ref 52) :: some (.ref 54) :: some (.int (lf)) :: some (.int (nI s0)) :: some (.int (nI m)) :: some (.int (nI (tg i))) :: some (.int (zKind g.2.1 s (nI (tg i)))) :: some (.int (lir (Pt g.2.1 s (nI (tg i))) (12 * m) L)) :: some (.int (nI p)) :: x21 :: x22 :: x23 :: x24 :: x25 :: x26 :: x27 :: x28 :: x29 :: x30 :: x31 :: x32 :: x33 :: x34 :: x35 :: x36 :: x37 :: x38 :: x39 :: x40 :: x41 :: []) [] (gl H A X) (lwP sc)) : ∀ (n j : Nat), j + n = 5 → (∀ j', j' < j → A 2 ((p0 + j') % 5) = 0) → mw_W mm_L_keeps 10 12 560 220 (some (.ref 1) :: some (.int (nI a)) :: some (.int y) :: some (.ref 43) :: some (.ref 44) :: some (.ref 45) :: some (.ref 46) :: some (.ref 47) :: some (.ref 48) :: some (.ref 49) :: some (.ref 50) :: some (.ref 51) :: some (.ref 52) :: some (.ref 54) :: some (.int (lf)) :: some (.int (nI s0)) :: some (.int (nI m)) :: some (.int (nI (tg i))) :: some (.int (zKind g.2.1 s (nI (tg i)))) :: some (.int (lir (Pt g.2.1 s (nI (tg i))) (12 * m) L)) :: some (.int (nI ((p0 + j) % 5))) :: some (.int (nI j)) :: x22 :: x23 :: x24 :: x25 :: x26 :: x27 :: x28 :: x29 :: x30 :: x31 :: x32 :: x33 :: x34 :: x35 :: x36 :: x37 :: x38 :: x39 :: x40 :: x41 :: []) [] (gl H A X) (lwP sc) := by
  intro n
  induction n with
  | zero =>
    intro j hj h0
    have hj : j = 5 := by omega
    subst hj
    refine mw_iload (i := 21) dL_keeps_220 rfl ?_
    refine mw_iconst (v := 5) dL_keeps_222 (by decide) ?_
    refine mw_icmp_ge (tgt := 248) dL_keeps_223 (by decide) (fun _ => ?_) (fun c9 => absurd c9 (by first | decide | exact (fun q => q rfl)))
    refine k _ _ (Nat.mod_lt _ (by decide)) (Or.inr (fun q hq => ?_))
    have h9 := h0 ((q + 5 - p0) % 5) (Nat.mod_lt _ (by decide))
    rw [show (p0 + (q + 5 - p0) % 5) % 5 = q by omega] at h9
    exact h9
  | succ n ih =>
    intro j hj h0
    have hlt : (p0 + j) % 5 < 5 := Nat.mod_lt _ (by decide)
    by_cases e : A 2 ((p0 + j) % 5) = 0
    · refine mw_iload (i := 21) dL_keeps_220 rfl ?_
      refine mw_iconst (v := 5) dL_keeps_222 (by decide) ?_
      refine mw_icmp_ge (tgt := 248) dL_keeps_223 (by decide) (fun c9 => absurd c9 (by first | decide | exact (fun q => q rfl) | ((try simp only [fa_lit]); first | exact cq_le (by omega) (by omega) | exact cq_nle (by omega) (by omega) | exact cq_lt (by omega) (by omega) | exact cq_nlt (by omega) (by omega) | exact cq_eq (by omega) (by omega) (by omega) | exact cq_neq (by omega)))) (fun _ => ?_)
      refine mw_aload (i := 5) dL_keeps_226 rfl ?_
      refine mw_iload (i := 20) dL_keeps_228 rfl ?_
      refine mw_iald dL_keeps_230 gl_2 (mw_ix rfl hlt (by decide)) ?_
      refine mw_if_ne (tgt := 248) dL_keeps_231 (by decide) (fun c9 => absurd c9 (fun z => z e)) (fun _ => ?_)
      refine mw_iload (i := 20) dL_keeps_234 rfl ?_
      refine mw_iconst (v := 1) dL_keeps_236 (by decide) ?_
      refine mw_iadd dL_keeps_237 ?_
      rw [nI_1]
      refine mw_iconst (v := 5) dL_keeps_238 (by decide) ?_
      refine mw_irem dL_keeps_239 (by decide) ?_
      rw [mx_r5 (by omega), show ((p0 + j) % 5 + 1) % 5 = (p0 + (j + 1)) % 5 by omega]
      refine mw_istore_20 dL_keeps_240 (by decide) ?_
      refine mw_iinc_21 dL_keeps_242 (by decide) rfl ?_
      refine mw_goto (tgt := 220) dL_keeps_245 (by decide) ?_
      rw [show nI j + Int32.ofInt 1 = nI (j + 1) from nI_1 _]
      refine ih (j + 1) (by omega) (fun j' hj' => ?_)
      rcases Nat.lt_or_ge j' j with z | z
      · exact h0 j' z
      · rw [show j' = j by omega]; exact e
    · refine mw_iload (i := 21) dL_keeps_220 rfl ?_
      refine mw_iconst (v := 5) dL_keeps_222 (by decide) ?_
      refine mw_icmp_ge (tgt := 248) dL_keeps_223 (by decide) (fun c9 => absurd c9 (by first | decide | exact (fun q => q rfl) | ((try simp only [fa_lit]); first | exact cq_le (by omega) (by omega) | exact cq_nle (by omega) (by omega) | exact cq_lt (by omega) (by omega) | exact cq_nlt (by omega) (by omega) | exact cq_eq (by omega) (by omega) (by omega) | exact cq_neq (by omega)))) (fun _ => ?_)
      refine mw_aload (i := 5) dL_keeps_226 rfl ?_
      refine mw_iload (i := 20) dL_keeps_228 rfl ?_
      refine mw_iald dL_keeps_230 gl_2 (mw_ix rfl hlt (by decide)) ?_
      refine mw_if_ne (tgt := 248) dL_keeps_231 (by decide) (fun _ => ?_) (fun c9 => absurd c9 e)
      exact k _ _ hlt (Or.inl e)
theorem kp_create (hI : cS sc g H A X) (hM : mR g A X) (hfr : frP g lf) (hs0 : s0 < g.1) {a : Nat} {l16 l17 : Option Value} {x18 x19 x20 x21 x22 x23 x24 x25 x26 x27 x28 x29 x30 x31 x32 x33 x34 x35 x36 x37 x38 x39 x40 x41 : Option Value} : mw_W mm_L_keeps 10 12 560 96 (some (.ref 1) :: some (.int (nI a)) :: some (.int y) :: some (.ref 43) :: some (.ref 44) :: some (.ref 45) :: some (.ref 46) :: some (.ref 47) :: some (.ref 48) :: some (.ref 49) :: some (.ref 50) :: some (.ref 51) :: some (.ref 52) :: some (.ref 54) :: some (.int (lf)) :: some (.int (nI s0)) :: l16 :: l17 :: x18 :: x19 :: x20 :: x21 :: x22 :: x23 :: x24 :: x25 :: x26 :: x27 :: x28 :: x29 :: x30 :: x31 :: x32 :: x33 :: x34 :: x35 :: x36 :: x37 :: x38 :: x39 :: x40 :: x41 :: []) [] (gl H A X) (lwP sc) := by
  have hgok := cS_ok hI
  obtain ⟨hk, hg0, hms, hmo, hg1, h64, htp, -⟩ := id hM
  have hsS := sS_at hgok.1 hs0
  obtain ⟨f12, hf⟩ := frP_12 hfr (hmo 5 (by decide) (by decide))
  rcases hf with ⟨rfl, hf5⟩ | ⟨hlf, hf5, hTf⟩
  · have hsp : sp_create g (-1) = (1, 0, g) := by
      unfold sp_create
      rw [sS_neg]
    have hw := w_create hI (-1) (by rw [hsp]; show ¬ (1 : Int32) = 2; decide)
    rw [hsp] at hw
    refine mw_iload (i := 14) dL_keeps_96 rfl ?_
    refine mw_if_ge (tgt := 117) dL_keeps_98 (by decide) (fun c9 => absurd c9 (by first | decide | exact (fun q => q rfl))) (fun _ => ?_)
    refine mw_aload_n (i := 0) dL_keeps_101 rfl rfl ?_
    refine mw_iconst (v := -1) dL_keeps_102 (by decide) ?_
    refine mw_callSX dL_keeps_103 mk_L_149 (hw) (by decide) (Nat.le_refl _) (Nat.le_refl _) rfl rfl (Nat.le_of_ble_eq_true rfl) (fun E9 h9 q9 => ?_) (fun v9 h9 q9 => ?_)
    · cases q9.1
    obtain ⟨e9, H1, rfl, hI⟩ := q9
    cases e9
    refine mw_bipush (v := -71) dL_keeps_106 (by decide) ?_
    refine mw_icmp_ne (tgt := 115) dL_keeps_108 (by decide) (fun c9 => absurd c9 (by first | decide | exact (fun q => q rfl))) (fun _ => ?_)
    refine mw_iconst (v := 1) dL_keeps_111 (by decide) ?_
    refine mw_goto (tgt := 116) dL_keeps_112 (by decide) ?_
    exact mw_ireturn dL_keeps_116 ⟨_, rfl, rfl⟩ ⟨rfl, _, _, _, _, rfl, hI, hM⟩
  · have hs1 : sp_create g (nI g.1) = (1, 0, g) := by
      unfold sp_create
      rw [sS_out hgok.1]
    have hs2 : sp_create g (nI s0) = (0, nI (fre g.2.2.1), gSet g (fre g.2.2.1) s0 []) := by
      unfold sp_create
      rw [hsS]
      exact if_neg (by omega)
    rw [hlf]
    generalize fre g.2.2.1 = f at f12 hf5 hTf hs2 ⊢
    have hF : fF f A X (va_up A 3 (upd (A 3) f 0)) X := ⟨fun j h3 _ _ _ => va_up_ne _ _ h3, fun j _ => by rw [va_up_ne _ _ (by decide)], fun m' hm' => by rw [va_up_self, pk_un hm'], fun p _ => ⟨by rw [va_up_ne _ _ (by decide)], by rw [va_up_ne _ _ (by decide)], rfl, rfl⟩⟩
    have hR : fR (va_up A 3 (upd (A 3) f 0)) X f [] := ⟨by rw [va_up_self, pk_us]; rfl, Nat.zero_le _, fun j x hj => by cases hj⟩
    have hM3 := mR_new (s := s0) hM hf5 hTf hF hR
    refine mw_iload (i := 14) dL_keeps_96 rfl ?_
    refine mw_if_ge (tgt := 117) dL_keeps_98 (by decide) (fun _ => ?_) (fun c9 => absurd c9 (cq_nle (a := 0) (Nat.zero_le _) (by omega)))
    refine mw_aload (i := 5) dL_keeps_117 rfl ?_
    refine mw_iload (i := 14) dL_keeps_119 rfl ?_
    refine mw_iload (i := 15) dL_keeps_121 rfl ?_
    refine mw_iconst (v := 1) dL_keeps_123 (by decide) ?_
    refine mw_iadd dL_keeps_124 ?_
    rw [show nI s0 + 1 = nI (s0 + 1) from nI_1 _]
    refine gl_st2 dL_keeps_125 (mw_ix rfl hf5 (by decide)) ?_
    refine mw_aload (i := 6) dL_keeps_126 rfl ?_
    refine mw_iload (i := 14) dL_keeps_128 rfl ?_
    refine mw_iconst (v := 0) dL_keeps_130 (by decide) ?_
    refine gl_st3 dL_keeps_131 (mw_ix rfl hf5 (by decide)) ?_
    refine mw_hp (h' := gl H (va_up (va_up A 3 (upd (A 3) f 0)) 2 (upd (va_up A 3 (upd (A 3) f 0) 2) f (nI (s0 + 1)))) X) (gl_cong (by rw [va_up_ne _ _ (show 3 ≠ 2 by decide), va_up_ne _ _ (show 2 ≠ 3 by decide), up_sw A (show 2 ≠ 3 by decide)]) rfl) ?_
    generalize hB : va_up (va_up A 3 (upd (A 3) f 0)) 2 (upd (va_up A 3 (upd (A 3) f 0) 2) f (nI (s0 + 1))) = B at hM3 ⊢
    have b11 : B 11 0 = nI g.1 := by rw [← hB, va_up_ne _ _ (by decide), va_up_ne _ _ (by decide)]; exact hg0
    have hI := cS_gl (A' := B) (X' := X) hI
    have hw := w_create hI (nI g.1) (by rw [hs1]; show ¬ (1 : Int32) = 2; decide)
    rw [hs1] at hw
    refine mw_aload_n (i := 0) dL_keeps_132 rfl rfl ?_
    refine mw_aload (i := 13) dL_keeps_133 rfl ?_
    refine mw_iconst (v := 0) dL_keeps_135 (by decide) ?_
    refine mw_iald dL_keeps_136 gl_11 (mw_ix (j := 0) rfl (by decide) (by decide)) ?_
    rw [b11]
    refine mw_callSX dL_keeps_137 mk_L_149 (hw) (by decide) (Nat.le_refl _) (Nat.le_refl _) rfl rfl (Nat.le_of_ble_eq_true rfl) (fun E9 h9 q9 => ?_) (fun v9 h9 q9 => ?_)
    · cases q9.1
    obtain ⟨e9, H1, rfl, hI⟩ := q9
    cases e9
    have hw := w_create hI (nI s0) (by rw [hs2]; show ¬ (0 : Int32) = 2; decide)
    rw [hs2] at hw
    refine mw_bipush (v := -71) dL_keeps_140 (by decide) ?_
    refine mw_icmp_ne (tgt := 160) dL_keeps_142 (by decide) (fun c9 => absurd c9 (by first | decide | exact (fun q => q rfl))) (fun _ => ?_)
    refine mw_aload_n (i := 0) dL_keeps_145 rfl rfl ?_
    refine mw_iload (i := 15) dL_keeps_146 rfl ?_
    refine mw_callSX dL_keeps_148 mk_L_149 (hw) (by decide) (Nat.le_refl _) (Nat.le_refl _) rfl rfl (Nat.le_of_ble_eq_true rfl) (fun E9 h9 q9 => ?_) (fun v9 h9 q9 => ?_)
    · cases q9.1
    obtain ⟨e9, H2, rfl, hI⟩ := q9
    cases e9
    refine mw_iload (i := 14) dL_keeps_151 rfl ?_
    refine mw_icmp_ne (tgt := 160) dL_keeps_153 (by decide) (fun c9 => absurd c9 (by first | decide | exact (fun q => q rfl))) (fun _ => ?_)
    refine mw_iconst (v := 1) dL_keeps_156 (by decide) ?_
    refine mw_goto (tgt := 161) dL_keeps_157 (by decide) ?_
    exact mw_ireturn dL_keeps_161 ⟨_, rfl, rfl⟩ ⟨rfl, _, _, _, _, rfl, hI, hM3⟩
/-- behind the choice of the two messages: the switch -/
theorem kp_switch (hI : cS sc g H A X) (hM : mR g A X) (hfr : frP g lf) (hs0 : s0 < g.1) (hm : m < 5) (hT : g.2.2.1 m = some (s, L)) (hi : i < 6) (hp : p < 5) (hTp : g.2.2.1 p = some (s2, L2)) {a : Nat} (ha7 : 7 ≤ a) (ha24 : a < 24) {x21 x22 x23 x24 x25 x26 x27 x28 x29 x30 x31 x32 x33 x34 x35 x36 x37 x38 x39 x40 x41 : Option Value} : mw_W mm_L_keeps 10 12 560 248 (some (.ref 1) :: some (.int (nI a)) :: some (.int y) :: some (.ref 43) :: some (.ref 44) :: some (.ref 45) :: some (.ref 46) :: some (.ref 47) :: some (.ref 48) :: some (.ref 49) :: some (.ref 50) :: some (.ref 51) :: some (.ref 52) :: some (.ref 54) :: some (.int (lf)) :: some (.int (nI s0)) :: some (.int (nI m)) :: some (.int (nI (tg i))) :: some (.int (zKind g.2.1 s (nI (tg i)))) :: some (.int (lir (Pt g.2.1 s (nI (tg i))) (12 * m) L)) :: some (.int (nI p)) :: x21 :: x22 :: x23 :: x24 :: x25 :: x26 :: x27 :: x28 :: x29 :: x30 :: x31 :: x32 :: x33 :: x34 :: x35 :: x36 :: x37 :: x38 :: x39 :: x40 :: x41 :: []) [] (gl H A X) (lwP sc) := by
  have h : a = 7 ∨ a = 8 ∨ a = 9 ∨ a = 10 ∨ a = 11 ∨ a = 12 ∨ a = 13 ∨ a = 14 ∨ a = 15 ∨ a = 16 ∨ a = 17 ∨ a = 18 ∨ a = 19 ∨ a = 20 ∨ a = 21 ∨ a = 22 ∨ a = 23 := by omega
  refine mw_iload_n (i := 1) dL_keeps_248 rfl rfl ?_
  rcases h with rfl | rfl | rfl | rfl | rfl | rfl | rfl | rfl | rfl | rfl | rfl | rfl | rfl | rfl | rfl | rfl | rfl
  · refine mw_tableIn (off := 79) (tgt := 328) dL_keeps_249 (by decide) (by decide) (by decide) (by decide) ?_
    exact kp_copy hI hM hfr hs0 hm hT hi hp hTp
  · refine mw_tableIn (off := 245) (tgt := 494) dL_keeps_249 (by decide) (by decide) (by decide) (by decide) ?_
    exact kp_discard hI hM hfr hs0 hm hT hi hp hTp
  · refine mw_tableIn (off := 324) (tgt := 573) dL_keeps_249 (by decide) (by decide) (by decide) (by decide) ?_
    exact kp_set hI hM hfr hs0 hm hT hi hp hTp
  · refine mw_tableIn (off := 324) (tgt := 573) dL_keeps_249 (by decide) (by decide) (by decide) (by decide) ?_
    exact kp_set hI hM hfr hs0 hm hT hi hp hTp
  · refine mw_tableIn (off := 324) (tgt := 573) dL_keeps_249 (by decide) (by decide) (by decide) (by decide) ?_
    exact kp_set hI hM hfr hs0 hm hT hi hp hTp
  · refine mw_tableIn (off := 324) (tgt := 573) dL_keeps_249 (by decide) (by decide) (by decide) (by decide) ?_
    exact kp_set hI hM hfr hs0 hm hT hi hp hTp
  · refine mw_tableIn (off := 324) (tgt := 573) dL_keeps_249 (by decide) (by decide) (by decide) (by decide) ?_
    exact kp_set hI hM hfr hs0 hm hT hi hp hTp
  · refine mw_tableIn (off := 621) (tgt := 870) dL_keeps_249 (by decide) (by decide) (by decide) (by decide) ?_
    exact kp_append hI hM hfr hs0 hm hT hi hp hTp
  · refine mw_tableIn (off := 621) (tgt := 870) dL_keeps_249 (by decide) (by decide) (by decide) (by decide) ?_
    exact kp_append hI hM hfr hs0 hm hT hi hp hTp
  · refine mw_tableIn (off := 621) (tgt := 870) dL_keeps_249 (by decide) (by decide) (by decide) (by decide) ?_
    exact kp_append hI hM hfr hs0 hm hT hi hp hTp
  · refine mw_tableIn (off := 950) (tgt := 1199) dL_keeps_249 (by decide) (by decide) (by decide) (by decide) ?_
    exact kp_part hI hM hfr hs0 hm hT hi hp hTp
  · refine mw_tableIn (off := 1286) (tgt := 1535) dL_keeps_249 (by decide) (by decide) (by decide) (by decide) ?_
    exact kp_clear hI hM hfr hs0 hm hT hi hp hTp
  · refine mw_tableIn (off := 1386) (tgt := 1635) dL_keeps_249 (by decide) (by decide) (by decide) (by decide) ?_
    exact kp_write hI hM hfr hs0 hm hT hi hp hTp
  · refine mw_tableIn (off := 1485) (tgt := 1734) dL_keeps_249 (by decide) (by decide) (by decide) (by decide) ?_
    by_cases h0 : y &&& 28672 = 0
    · exact kp_cut hI hM hfr hs0 hm hT hi hp hTp h0
    · exact kp_put hI hM hfr hs0 hm hT hi hp hTp h0
  · refine mw_tableIn (off := 1485) (tgt := 1734) dL_keeps_249 (by decide) (by decide) (by decide) (by decide) ?_
    by_cases h0 : y &&& 28672 = 0
    · exact kp_cut hI hM hfr hs0 hm hT hi hp hTp h0
    · exact kp_put hI hM hfr hs0 hm hT hi hp hTp h0
  · refine mw_tableIn (off := 1691) (tgt := 1940) dL_keeps_249 (by decide) (by decide) (by decide) (by decide) ?_
    exact kp_read hI hM hfr hs0 hm hT hi hp hTp
  · refine mw_tableOut (tgt := 2050) dL_keeps_249 (Or.inr (by decide)) (by decide) ?_
    exact kp_open hI hM hfr hs0 hm hT hi hp hTp
theorem c_keeps (hI : cS sc g H A X) (hM : mR g A X) {a : Nat} (ha : a < 24) (y : Int32) : mw_Con mm_L_keeps 10 12 560 [.ref 1, .int (nI a), .int y, .ref 43, .ref 44, .ref 45, .ref 46, .ref 47, .ref 48, .ref 49, .ref 50, .ref 51, .ref 52, .ref 54] (gl H A X) (lwP sc) := by
  have hgok := cS_ok hI
  have hns4 := mR_ns hM
  obtain ⟨hk, hg0, hms, hmo, hg1, h64, htp, -⟩ := id hM
  refine gm_con pl_L rfl rfl (Nat.le_of_ble_eq_true rfl) rfl ?_
  have hsch : mw_W mm_L_keeps 10 12 560 13 ([Value.ref 1, .int (nI a), .int y, .ref 43, .ref 44, .ref 45, .ref 46, .ref 47, .ref 48, .ref 49, .ref 50, .ref 51, .ref 52, .ref 54].map some ++ List.replicate 28 none) [] (gl H A X) (lwP sc) := by
    refine mw_aload_n (i := 0) dL_keeps_13 rfl rfl ?_
    refine mw_iload_n (i := 1) dL_keeps_14 rfl rfl ?_
    refine mw_iload_n (i := 2) dL_keeps_15 rfl rfl ?_
    refine mw_aload_n (i := 3) dL_keeps_16 rfl rfl ?_
    refine mw_aload (i := 4) dL_keeps_17 rfl ?_
    refine mw_aload (i := 13) dL_keeps_19 rfl ?_
    refine mw_callS dL_keeps_21 mk_L_141 ((c_schemas hI hM ha y)) (by decide) (Nat.le_refl _) (Nat.le_refl _) rfl rfl (Nat.le_of_ble_eq_true rfl) (fun E9 h9 q9 => ?_) (fun v9 h9 q9 => ?_)
    · cases q9.1
    obtain ⟨e9, q9⟩ := q9
    cases e9
    exact mw_ireturn dL_keeps_24 ⟨_, rfl, rfl⟩ ⟨rfl, q9⟩
  by_cases ha6 : a < 6
  · refine mw_iload_n (i := 1) dL_keeps_0 rfl rfl ?_
    refine mw_bipush (v := 6) dL_keeps_1 (by decide) ?_
    refine mw_icmp_lt (tgt := 13) dL_keeps_3 (by decide) (fun _ => ?_) (fun c9 => absurd c9 (by first | decide | exact (fun q => q rfl) | ((try simp only [fa_lit]); first | exact cq_le (by omega) (by omega) | exact cq_nle (by omega) (by omega) | exact cq_lt (by omega) (by omega) | exact cq_nlt (by omega) (by omega) | exact cq_eq (by omega) (by omega) (by omega) | exact cq_neq (by omega))))
    exact hsch
  · refine mw_iload_n (i := 1) dL_keeps_0 rfl rfl ?_
    refine mw_bipush (v := 6) dL_keeps_1 (by decide) ?_
    refine mw_icmp_lt (tgt := 13) dL_keeps_3 (by decide) (fun c9 => absurd c9 (by first | decide | exact (fun q => q rfl) | ((try simp only [fa_lit]); first | exact cq_le (by omega) (by omega) | exact cq_nle (by omega) (by omega) | exact cq_lt (by omega) (by omega) | exact cq_nlt (by omega) (by omega) | exact cq_eq (by omega) (by omega) (by omega) | exact cq_neq (by omega)))) (fun _ => ?_)
    refine mw_aload (i := 13) dL_keeps_6 rfl ?_
    refine mw_iconst (v := 0) dL_keeps_8 (by decide) ?_
    refine mw_iald dL_keeps_9 gl_11 (mw_ix (j := 0) rfl (by decide) (by decide)) ?_
    rw [hg0]
    by_cases hns : g.1 = 0
    · refine mw_if_ne (tgt := 25) dL_keeps_10 (by decide) (fun c9 => absurd c9 (fun z => z (by rw [hns]; rfl))) (fun _ => ?_)
      exact hsch
    · refine mw_if_ne (tgt := 25) dL_keeps_10 (by decide) (fun _ => ?_) (fun c9 => absurd c9 (nI_ne0 (by omega) (by omega)))
      refine mw_aload (i := 5) dL_keeps_25 rfl ?_
      have hlive : ∀ j, j < 5 → (A 2 j ≠ 0 ↔ g.2.2.1 j ≠ none) := by
        intro j hj
        rcases mR_m hM hgok hj with ⟨h1, h2⟩ | ⟨s, L, h1, h3, h2, -⟩
        · rw [h1, h2]; exact ⟨fun z => absurd rfl z, fun z => absurd rfl z⟩
        · rw [h1, h2]
          exact ⟨fun _ z => (by cases z), fun _ => nI_ne0 (Nat.succ_pos s) (by omega)⟩
      refine mw_callS dL_keeps_27 mk_L_145 (c_free) (by decide) (Nat.le_refl _) (Nat.le_refl _) rfl rfl (Nat.le_of_ble_eq_true rfl) (fun E9 h9 q9 => ?_) (fun v9 h9 q9 => ?_)
      · obtain ⟨-, z | ⟨f, -, z, -⟩⟩ := q9
        · cases z.1
        · cases z
      obtain ⟨rfl, hq⟩ := q9
      have hq2 : ∃ lf, v9 = some (.int lf) ∧ frP g lf := by
        rcases hq with ⟨z, h⟩ | ⟨f, hf, z, h0, h⟩
        · cases z
          exact ⟨_, rfl, Or.inl ⟨rfl, fun j hj => (hlive j hj).mp (h j hj)⟩⟩
        · cases z
          refine ⟨_, rfl, Or.inr ⟨f, hf, rfl, ?_, fun j hj => (hlive j (by omega)).mp (h j hj)⟩⟩
          refine Classical.byContradiction fun z => ((hlive f hf).mpr z) h0
      obtain ⟨lf, rfl, hfr⟩ := hq2
      refine mw_istore_14 dL_keeps_30 (by decide) ?_
      refine mw_iload_n (i := 2) dL_keeps_32 rfl rfl ?_
      refine mw_aload (i := 13) dL_keeps_33 rfl ?_
      refine mw_iconst (v := 0) dL_keeps_35 (by decide) ?_
      refine mw_iald dL_keeps_36 gl_11 (mw_ix (j := 0) rfl (by decide) (by decide)) ?_
      rw [hg0]
      refine mw_callSr dL_keeps_37 mk_L_129 ((c_low y (by omega) (by omega))) (by decide) (Nat.le_refl _) (Nat.le_refl _) rfl rfl (Nat.le_of_ble_eq_true rfl) ?_
      have hs0 : uN y / 2 % g.1 < g.1 := Nat.mod_lt _ (by omega)
      generalize uN y / 2 % g.1 = s0 at hs0 ⊢
      refine mw_istore_15 dL_keeps_40 (by decide) ?_
      refine mw_iload_n (i := 2) dL_keeps_42 rfl rfl ?_
      refine mw_iconst (v := 3) dL_keeps_43 (by decide) ?_
      refine mw_ishr dL_keeps_44 ?_
      refine mw_iconst (v := 5) dL_keeps_45 (by decide) ?_
      refine mw_callSr dL_keeps_46 mk_L_129 ((c_low _ (n := 5) (by decide) (by decide))) (by decide) (Nat.le_refl _) (Nat.le_refl _) rfl rfl (Nat.le_of_ble_eq_true rfl) ?_
      have hm0 : uN (y >>> (3 &&& 31)) / 2 % 5 < 5 := Nat.mod_lt _ (by decide)
      generalize uN (y >>> (3 &&& 31)) / 2 % 5 = m0 at hm0 ⊢
      refine mw_istore_16 dL_keeps_49 (by decide) ?_
      refine mw_iconst (v := 0) dL_keeps_51 (by decide) ?_
      refine mw_istore_17 dL_keeps_52 (by decide) ?_
      have hcyc := fun k => lp_cycm (a := a) (sc := sc) (H := H) (A := A) (X := X) (s0 := s0) (lf := lf) (y := y) hm0 (x18 := none) (x19 := none) (x20 := none) (x21 := none) (x22 := none) (x23 := none) (x24 := none) (x25 := none) (x26 := none) (x27 := none) (x28 := none) (x29 := none) (x30 := none) (x31 := none) (x32 := none) (x33 := none) (x34 := none) (x35 := none) (x36 := none) (x37 := none) (x38 := none) (x39 := none) (x40 := none) (x41 := none) k 5 0 (by omega) (fun j hj => absurd hj (Nat.not_lt_zero _))
      rw [Nat.add_zero, Nat.mod_eq_of_lt hm0] at hcyc
      refine hcyc (fun m x17 hm hlm => ?_)
      by_cases ha6' : a = 6
      · refine mw_iload_n (i := 1) dL_keeps_82 rfl rfl ?_
        refine mw_bipush (v := 6) dL_keeps_83 (by decide) ?_
        refine mw_icmp_eq (tgt := 96) dL_keeps_85 (by decide) (fun _ => ?_) (fun c9 => absurd c9 (by first | decide | exact (fun q => q rfl) | ((try simp only [fa_lit]); first | exact cq_le (by omega) (by omega) | exact cq_nle (by omega) (by omega) | exact cq_lt (by omega) (by omega) | exact cq_nlt (by omega) (by omega) | exact cq_eq (by omega) (by omega) (by omega) | exact cq_neq (by omega))))
        exact kp_create hI hM hfr hs0
      · rcases mR_m hM hgok hm with ⟨hT, hA⟩ | ⟨s, L, hT, hs, hA, hR, hok, h120⟩
        · refine mw_iload_n (i := 1) dL_keeps_82 rfl rfl ?_
          refine mw_bipush (v := 6) dL_keeps_83 (by decide) ?_
          refine mw_icmp_eq (tgt := 96) dL_keeps_85 (by decide) (fun c9 => absurd c9 (by first | decide | exact (fun q => q rfl) | ((try simp only [fa_lit]); first | exact cq_le (by omega) (by omega) | exact cq_nle (by omega) (by omega) | exact cq_lt (by omega) (by omega) | exact cq_nlt (by omega) (by omega) | exact cq_eq (by omega) (by omega) (by omega) | exact cq_neq (by omega)))) (fun _ => ?_)
          refine mw_aload (i := 5) dL_keeps_88 rfl ?_
          refine mw_iload (i := 16) dL_keeps_90 rfl ?_
          refine mw_iald dL_keeps_92 gl_2 (mw_ix rfl hm (by decide)) ?_
          refine mw_if_ne (tgt := 162) dL_keeps_93 (by decide) (fun c9 => absurd c9 (fun z => z hA)) (fun _ => ?_)
          exact kp_create hI hM hfr hs0
        · refine mw_iload_n (i := 1) dL_keeps_82 rfl rfl ?_
          refine mw_bipush (v := 6) dL_keeps_83 (by decide) ?_
          refine mw_icmp_eq (tgt := 96) dL_keeps_85 (by decide) (fun c9 => absurd c9 (by first | decide | exact (fun q => q rfl) | ((try simp only [fa_lit]); first | exact cq_le (by omega) (by omega) | exact cq_nle (by omega) (by omega) | exact cq_lt (by omega) (by omega) | exact cq_nlt (by omega) (by omega) | exact cq_eq (by omega) (by omega) (by omega) | exact cq_neq (by omega)))) (fun _ => ?_)
          refine mw_aload (i := 5) dL_keeps_88 rfl ?_
          refine mw_iload (i := 16) dL_keeps_90 rfl ?_
          refine mw_iald dL_keeps_92 gl_2 (mw_ix rfl hm (by decide)) ?_
          rw [hA]
          refine mw_if_ne (tgt := 162) dL_keeps_93 (by decide) (fun _ => ?_) (fun c9 => absurd c9 (nI_ne0 (Nat.succ_pos s) (by omega)))
          refine mw_iload_n (i := 2) dL_keeps_162 rfl rfl ?_
          refine mw_bipush (v := 7) dL_keeps_163 (by decide) ?_
          refine mw_ishr dL_keeps_165 ?_
          refine mw_bipush (v := 6) dL_keeps_166 (by decide) ?_
          have hi : uN (y >>> (7 &&& 31)) / 2 % 6 < 6 := Nat.mod_lt _ (by decide)
          refine mw_callSr dL_keeps_168 mk_L_129 ((c_low _ (n := 6) (by decide) (by decide))) (by decide) (Nat.le_refl _) (Nat.le_refl _) rfl rfl (Nat.le_of_ble_eq_true rfl) ?_
          generalize uN (y >>> (7 &&& 31)) / 2 % 6 = i at hi ⊢
          have ht := tg_in hi
          refine mw_callSr dL_keeps_171 mk_L_64 ((c_tagAt hi)) (by decide) (Nat.le_refl _) (Nat.le_refl _) rfl rfl (Nat.le_of_ble_eq_true rfl) ?_
          refine mw_istore_17 dL_keeps_174 (by decide) ?_
          refine mw_aload_n (i := 3) dL_keeps_176 rfl rfl ?_
          refine mw_aload (i := 5) dL_keeps_177 rfl ?_
          refine mw_iload (i := 16) dL_keeps_179 rfl ?_
          refine mw_iald dL_keeps_181 gl_2 (mw_ix rfl hm (by decide)) ?_
          rw [hA]
          refine mw_iconst (v := 1) dL_keeps_182 (by decide) ?_
          refine mw_isub dL_keeps_183 ?_
          rw [nI_pred]
          refine mw_iload (i := 17) dL_keeps_184 rfl ?_
          refine mw_callSr dL_keeps_186 mk_L_69 ((c_kind hk hs ht.1 ht.2)) (by decide) (Nat.le_refl _) (Nat.le_refl _) rfl rfl (Nat.le_of_ble_eq_true rfl) ?_
          refine mw_istore_18 dL_keeps_189 (by decide) ?_
          refine mw_aload_n (i := 3) dL_keeps_191 rfl rfl ?_
          refine mw_aload (i := 5) dL_keeps_192 rfl ?_
          refine mw_aload (i := 6) dL_keeps_194 rfl ?_
          refine mw_aload (i := 7) dL_keeps_196 rfl ?_
          refine mw_iload (i := 16) dL_keeps_198 rfl ?_
          refine mw_iload (i := 17) dL_keeps_200 rfl ?_
          refine mw_callSr dL_keeps_202 mk_L_86 ((c_last hk hs hA ht.2 hm hok hR)) (by decide) (Nat.le_refl _) (Nat.le_refl _) rfl rfl (Nat.le_of_ble_eq_true rfl) ?_
          refine mw_istore_19 dL_keeps_205 (by decide) ?_
          refine mw_iload_n (i := 2) dL_keeps_207 rfl rfl ?_
          refine mw_bipush (v := 12) dL_keeps_208 (by decide) ?_
          refine mw_ishr dL_keeps_210 ?_
          refine mw_iconst (v := 5) dL_keeps_211 (by decide) ?_
          have hp0 : uN (y >>> (12 &&& 31)) / 2 % 5 < 5 := Nat.mod_lt _ (by decide)
          refine mw_callSr dL_keeps_212 mk_L_129 ((c_low _ (n := 5) (by decide) (by decide))) (by decide) (Nat.le_refl _) (Nat.le_refl _) rfl rfl (Nat.le_of_ble_eq_true rfl) ?_
          generalize uN (y >>> (12 &&& 31)) / 2 % 5 = p0 at hp0 ⊢
          refine mw_istore_20 dL_keeps_215 (by decide) ?_
          refine mw_iconst (v := 0) dL_keeps_217 (by decide) ?_
          refine mw_istore_21 dL_keeps_218 (by decide) ?_
          have hcyp := fun k => lp_cycp (g := g) (a := a) (sc := sc) (H := H) (A := A) (X := X) (s := s) (m := m) (i := i) (s0 := s0) (L := L) (lf := lf) (y := y) hp0 (x22 := none) (x23 := none) (x24 := none) (x25 := none) (x26 := none) (x27 := none) (x28 := none) (x29 := none) (x30 := none) (x31 := none) (x32 := none) (x33 := none) (x34 := none) (x35 := none) (x36 := none) (x37 := none) (x38 := none) (x39 := none) (x40 := none) (x41 := none) k 5 0 (by omega) (fun j hj => absurd hj (Nat.not_lt_zero _))
          rw [Nat.add_zero, Nat.mod_eq_of_lt hp0] at hcyp
          refine hcyp (fun p x21 hp hlp => ?_)
          have hTp : g.2.2.1 p ≠ none := by
            rcases hlp with h | h
            · exact (hlive p hp).mp h
            · exact absurd (h m hm) (by rw [hA]; exact nI_ne0 (Nat.succ_pos s) (by omega))
          cases hTp2 : g.2.2.1 p with
          | none => exact absurd hTp2 hTp
          | some q =>
            obtain ⟨s2, L2⟩ := q
            exact kp_switch hI hM hfr hs0 hm hT hi hp hTp2 (by omega) ha
end K7
