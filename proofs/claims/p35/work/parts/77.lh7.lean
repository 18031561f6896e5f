/-! reading: written by gen/77.py -/
theorem nI0f {f : Nat} (hf : f ≠ 0) (hf4 : f ≤ 4) : ¬ nI f = 0 := nI_ne0 (Nat.pos_of_ne_zero hf) (by omega)
theorem pf_eq {b : Nat → Nat} {e p f1 q k : Nat} (h : pg b e 5 p 0 = (f1, q, k)) : pf b e p = if f1 ≠ 0 then (f1, 0, 0, 0, 0) else if ¬ (1 ≤ k / 8 ∧ k / 8 ≤ 31) then (3, 0, 0, 0, 0) else if ¬ (k % 8 = 0 ∨ k % 8 = 2 ∨ k % 8 = 5) then (4, 0, 0, 0, 0) else if k % 8 = 5 then if e < q + 4 then (1, 0, 0, 0, 0) else (0, q + 4, k / 8, 5, v4 b q) else if (pg b e 5 q 0).1 ≠ 0 then ((pg b e 5 q 0).1, 0, 0, 0, 0) else if k % 8 = 2 then if e < (pg b e 5 q 0).2.1 + (pg b e 5 q 0).2.2 then (1, 0, 0, 0, 0) else (0, (pg b e 5 q 0).2.1 + (pg b e 5 q 0).2.2, k / 8, 2, (pg b e 5 q 0).2.2) else (0, (pg b e 5 q 0).2.1, k / 8, 0, (pg b e 5 q 0).2.2) := by
  unfold pf
  rw [h]
/-- four bytes, read so far -/
def v4p (b : Nat → Nat) (p : Nat) : Nat → Nat
  | 0 => 0
  | i + 1 => v4p b p i + b (p + i) * 2 ^ (8 * i)
theorem v4p_lt {b : Nat → Nat} (hb : ∀ j, b j < 256) (p : Nat) : ∀ i, i ≤ 4 → v4p b p i < 2 ^ (8 * i)
  | 0, _ => by show 0 < 1; decide
  | i + 1, h => by
    have ih := v4p_lt hb p i (by omega)
    have h1 : b (p + i) * 2 ^ (8 * i) ≤ 255 * 2 ^ (8 * i) := Nat.mul_le_mul_right _ (by have := hb (p + i); omega)
    show v4p b p i + b (p + i) * 2 ^ (8 * i) < 2 ^ (8 * (i + 1))
    rw [show 8 * (i + 1) = 8 * i + 8 by omega, Nat.pow_add]
    omega
theorem v4p_4 (b : Nat → Nat) (p : Nat) : v4p b p 4 = v4 b p := by
  show 0 + b (p + 0) * 1 + b (p + 1) * 256 + b (p + 2) * 65536 + b (p + 3) * 16777216 = _
  unfold v4
  rw [Nat.zero_add, Nat.mul_one, Nat.add_zero]
theorem or_8 {v c i : Nat} (hi : i < 4) (hc : c < 256) (hv : v < 2 ^ (8 * i)) : nI v ||| (nI c <<< ((8 * nI i) &&& 31)) = nI (v + c * 2 ^ (8 * i)) := by
  have h : i = 0 ∨ i = 1 ∨ i = 2 ∨ i = 3 := by omega
  rw [Int32.or_comm]
  rcases h with rfl | rfl | rfl | rfl
  · rw [pk_shlN _ 0 (by decide) (by omega), Nat.mul_comm, fa_or_sum (k := 0) _ hv]
    congr 1; omega
  · rw [pk_shlN _ 8 (by decide) (by omega), Nat.mul_comm, fa_or_sum (k := 8) _ hv]
    congr 1; omega
  · rw [pk_shlN _ 16 (by decide) (by omega), Nat.mul_comm, fa_or_sum (k := 16) _ hv]
    congr 1; omega
  · rw [pk_shlN _ 24 (by decide) (by omega), Nat.mul_comm, fa_or_sum (k := 24) _ hv]
    congr 1; omega
theorem nI_neg {n : Nat} (h : 2 ^ 31 ≤ n) (h2 : n < 2 ^ 32) : nI n < 0 := by
  rw [fa_lt]
  show (Int32.ofNat n).toInt < 0
  have e : (Int32.ofNat n).toInt = (n : Int) - 2 ^ 32 := by
    show (BitVec.ofNat 32 n).toInt = _
    rw [BitVec.toInt_eq_toNat_cond, BitVec.toNat_ofNat, Nat.mod_eq_of_lt h2, if_neg (by omega)]
    rfl
  rw [e]
  omega
section LH7
variable {H : mw_H} {A : Nat → Nat → Int32} {X : Nat → Nat → Int64} {r e p : Nat} {b : Nat → Nat} {G : Nat → Int32} {Po : mw_P} {M mn mu : Int32} {x11 x12 x13 x14 x15 x16 : Option Value}
/-- a fault was found -/
theorem rd_bad {f : Nat} {k9 : Int32} {v9 : Option Value} (hf : f ≠ 0) (hf4 : f ≤ 4) (h4 : G 4 = nI f) (kbad : ∀ G', gK G G' → G' 3 = nI p → Po (.inl (some (.int (nI f)))) (gl H (va_up A 11 G') X)) : mw_W mm_L_reads 1 0 0 270 [some (.ref (43 + r)), some (.int (nI e)), some (.ref 46), some (.ref 47), some (.ref 48), some (.ref 49), some (.ref 50), some (.ref 54), some (.int M), some (.int (mn)), some (.int (mu)), some (.int (nI p)), x12, x13, x14, x15, x16] [] (gl H (va_up A 11 G) X) Po := by
  refine mw_aload (i := 7) dL_reads_270 rfl ?_
  refine mw_iconst (v := 4) dL_reads_272 (by decide) ?_
  refine mw_iald dL_reads_273 gl_G (mw_ix (j := 4) rfl (by decide) (by decide)) ?_
  rw [h4]
  refine mw_if_le (tgt := 288) dL_reads_274 (by decide) (fun c9 => absurd c9 (cq_le (b := 0) (by omega) (by omega))) (fun _ => ?_)
  refine mw_aload (i := 7) dL_reads_277 rfl ?_
  refine mw_iconst (v := 3) dL_reads_279 (by decide) ?_
  refine mw_iload (i := 11) dL_reads_280 rfl ?_
  refine gl_stG dL_reads_282 (mw_ix (j := 3) rfl (by decide) (by decide)) ?_
  refine mw_aload (i := 7) dL_reads_283 rfl ?_
  refine mw_iconst (v := 4) dL_reads_285 (by decide) ?_
  refine mw_iald dL_reads_286 gl_G (mw_ix (j := 4) rfl (by decide) (by decide)) ?_
  refine mw_top ((pk_un (by decide)).trans h4) ?_
  exact mw_ireturn dL_reads_287 ⟨_, rfl, rfl⟩ (kbad _ (gK.rf.u (by decide) _) pk_us)
theorem rd_bad71 {f : Nat} {k9 : Int32} (hf : f ≠ 0) (hf4 : f ≤ 4) (h4 : G 4 = nI f) (kbad : ∀ G', gK G G' → G' 3 = nI p → Po (.inl (some (.int (nI f)))) (gl H (va_up A 11 G') X)) : mw_W mm_L_reads 1 0 0 71 [some (.ref (43 + r)), some (.int (nI e)), some (.ref 46), some (.ref 47), some (.ref 48), some (.ref 49), some (.ref 50), some (.ref 54), some (.int M), some (.int (mn)), some (.int (mu)), some (.int (nI p)), some (.int (k9)), x13, x14, x15, x16] [] (gl H (va_up A 11 G) X) Po := by
  have hn := nI0f hf hf4
  refine mw_aload (i := 7) dL_reads_71 rfl ?_
  refine mw_iconst (v := 4) dL_reads_73 (by decide) ?_
  refine mw_iald dL_reads_74 gl_G (mw_ix (j := 4) rfl (by decide) (by decide)) ?_
  rw [h4]
  refine mw_if_ne (tgt := 109) dL_reads_75 (by decide) (fun _ => ?_) (fun c9 => absurd c9 hn)
  refine mw_iconst (v := 0) dL_reads_109 (by decide) ?_
  refine mw_istore_13 dL_reads_110 (by decide) ?_
  refine mw_aload (i := 7) dL_reads_112 rfl ?_
  refine mw_iconst (v := 4) dL_reads_114 (by decide) ?_
  refine mw_iald dL_reads_115 gl_G (mw_ix (j := 4) rfl (by decide) (by decide)) ?_
  rw [h4]
  refine mw_if_ne (tgt := 213) dL_reads_116 (by decide) (fun _ => ?_) (fun c9 => absurd c9 hn)
  refine mw_aload (i := 7) dL_reads_213 rfl ?_
  refine mw_iconst (v := 4) dL_reads_215 (by decide) ?_
  refine mw_iald dL_reads_216 gl_G (mw_ix (j := 4) rfl (by decide) (by decide)) ?_
  rw [h4]
  refine mw_if_ne (tgt := 270) dL_reads_217 (by decide) (fun _ => ?_) (fun c9 => absurd c9 hn)
  exact rd_bad (k9 := k9) (v9 := none) hf hf4 h4 kbad
/-- four bytes -/
theorem lp_four (hb : bR A r e b) {q : Nat} {k9 : Int32} (h3 : G 3 = nI q) (h4 : G 4 = 0) (hq : q ≤ e) (hbad : e < q + 4 → ∀ G' x13 x14, gK G G' → G' 4 = nI 1 → mw_W mm_L_reads 1 0 0 210 [some (.ref (43 + r)), some (.int (nI e)), some (.ref 46), some (.ref 47), some (.ref 48), some (.ref 49), some (.ref 50), some (.ref 54), some (.int M), some (.int (mn)), some (.int (mu)), some (.int (nI p)), some (.int (k9)), x13, x14, x15, x16] [] (gl H (va_up A 11 G') X) Po) (hgood : q + 4 ≤ e → ∀ G' x14, gK G G' → G' 3 = nI (q + 4) → G' 4 = 0 → mw_W mm_L_reads 1 0 0 210 [some (.ref (43 + r)), some (.int (nI e)), some (.ref 46), some (.ref 47), some (.ref 48), some (.ref 49), some (.ref 50), some (.ref 54), some (.int M), some (.int (mn)), some (.int (mu)), some (.int (nI p)), some (.int (k9)), some (.int (nI (v4 b q))), x14, x15, x16] [] (gl H (va_up A 11 G') X) Po) : ∀ (n i : Nat) (G1 : Nat → Int32), i + n = 4 → q + i ≤ e → gK G G1 → G1 3 = nI (q + i) → G1 4 = 0 →
    mw_W mm_L_reads 1 0 0 131 [some (.ref (43 + r)), some (.int (nI e)), some (.ref 46), some (.ref 47), some (.ref 48), some (.ref 49), some (.ref 50), some (.ref 54), some (.int M), some (.int (mn)), some (.int (mu)), some (.int (nI p)), some (.int (k9)), some (.int (nI (v4p b q i))), some (.int (nI i)), x15, x16] [] (gl H (va_up A 11 G1) X) Po := by
  obtain ⟨hr, he, hb2, hA⟩ := hb
  intro n
  induction n with
  | zero =>
    intro i G1 hi hqi hG1 g3 g4
    have hi : i = 4 := by omega
    subst hi
    refine mw_iload (i := 14) dL_reads_131 rfl ?_
    refine mw_iconst (v := 4) dL_reads_133 (by decide) ?_
    refine mw_icmp_ge (tgt := 210) dL_reads_134 (by decide) (fun _ => ?_) (fun c9 => absurd c9 (by first | decide | exact (fun q => q rfl) | ((try simp only [fa_lit]); first | exact cq_le (by omega) (by omega) | exact cq_nle (by omega) (by omega) | exact cq_lt (by omega) (by omega) | exact cq_nlt (by omega) (by omega) | exact cq_eq (by omega) (by omega) (by omega) | exact cq_neq (by omega))))
    rw [v4p_4]
    exact hgood hqi G1 _ hG1 g3 g4
  | succ n ih =>
    intro i G1 hi hqi hG1 g3 g4
    refine mw_iload (i := 14) dL_reads_131 rfl ?_
    refine mw_iconst (v := 4) dL_reads_133 (by decide) ?_
    refine mw_icmp_ge (tgt := 210) dL_reads_134 (by decide) (fun c9 => absurd c9 (by first | decide | exact (fun q => q rfl) | ((try simp only [fa_lit]); first | exact cq_le (by omega) (by omega) | exact cq_nle (by omega) (by omega) | exact cq_lt (by omega) (by omega) | exact cq_nlt (by omega) (by omega) | exact cq_eq (by omega) (by omega) (by omega) | exact cq_neq (by omega)))) (fun _ => ?_)
    refine mw_aload (i := 7) dL_reads_137 rfl ?_
    refine mw_iconst (v := 4) dL_reads_139 (by decide) ?_
    refine mw_iald dL_reads_140 gl_G (mw_ix (j := 4) rfl (by decide) (by decide)) ?_
    rw [g4]
    refine mw_if_ne (tgt := 210) dL_reads_141 (by decide) (fun c9 => absurd c9 (by first | decide | exact (fun q => q rfl))) (fun _ => ?_)
    refine mw_aload (i := 7) dL_reads_144 rfl ?_
    refine mw_iconst (v := 4) dL_reads_146 (by decide) ?_
    refine mw_aload (i := 7) dL_reads_147 rfl ?_
    refine mw_iconst (v := 3) dL_reads_149 (by decide) ?_
    refine mw_iald dL_reads_150 gl_G (mw_ix (j := 3) rfl (by decide) (by decide)) ?_
    rw [g3]
    by_cases hend : q + i = e
    · refine mw_iload_n (i := 1) dL_reads_151 rfl rfl ?_
      refine mw_icmp_ne (tgt := 159) dL_reads_152 (by decide) (fun c9 => absurd c9 (by first | decide | exact (fun q => q rfl) | ((try simp only [fa_lit]); first | exact cq_le (by omega) (by omega) | exact cq_nle (by omega) (by omega) | exact cq_lt (by omega) (by omega) | exact cq_nlt (by omega) (by omega) | exact cq_eq (by omega) (by omega) (by omega) | exact cq_neq (by omega)))) (fun _ => ?_)
      refine mw_iconst (v := 1) dL_reads_155 (by decide) ?_
      refine mw_goto (tgt := 160) dL_reads_156 (by decide) ?_
      refine gl_stG dL_reads_160 (mw_ix (j := 4) rfl (by decide) (by decide)) ?_
      refine mw_aload (i := 7) dL_reads_161 rfl ?_
      refine mw_iconst (v := 4) dL_reads_163 (by decide) ?_
      refine mw_iald dL_reads_164 gl_G (mw_ix (j := 4) rfl (by decide) (by decide)) ?_
      refine mw_top pk_us ?_
      refine mw_if_ne (tgt := 185) dL_reads_165 (by decide) (fun _ => ?_) (fun c9 => absurd c9 (by first | decide | exact (fun q => q rfl)))
      refine mw_aload (i := 7) dL_reads_185 rfl ?_
      refine mw_iconst (v := 3) dL_reads_187 (by decide) ?_
      refine mw_dup2 dL_reads_188 rfl rfl ?_
      refine mw_iald dL_reads_189 gl_G (mw_ix (j := 3) rfl (by decide) (by decide)) ?_
      refine mw_top ((pk_un (by decide)).trans g3) ?_
      refine mw_aload (i := 7) dL_reads_190 rfl ?_
      refine mw_iconst (v := 4) dL_reads_192 (by decide) ?_
      refine mw_iald dL_reads_193 gl_G (mw_ix (j := 4) rfl (by decide) (by decide)) ?_
      refine mw_top pk_us ?_
      refine mw_if_ne (tgt := 201) dL_reads_194 (by decide) (fun _ => ?_) (fun c9 => absurd c9 (by first | decide | exact (fun q => q rfl)))
      refine mw_iconst (v := 0) dL_reads_201 (by decide) ?_
      refine mw_iadd dL_reads_202 ?_
      refine gl_stG dL_reads_203 (mw_ix (j := 3) rfl (by decide) (by decide)) ?_
      refine mw_iinc_14 dL_reads_204 (by decide) rfl ?_
      refine mw_goto (tgt := 131) dL_reads_207 (by decide) ?_
      rw [show nI i + Int32.ofInt 1 = nI (i + 1) from nI_1 _]
      by_cases hi4 : i + 1 < 4
      · refine mw_iload (i := 14) dL_reads_131 rfl ?_
        refine mw_iconst (v := 4) dL_reads_133 (by decide) ?_
        refine mw_icmp_ge (tgt := 210) dL_reads_134 (by decide) (fun c9 => absurd c9 (by first | decide | exact (fun q => q rfl) | ((try simp only [fa_lit]); first | exact cq_le (by omega) (by omega) | exact cq_nle (by omega) (by omega) | exact cq_lt (by omega) (by omega) | exact cq_nlt (by omega) (by omega) | exact cq_eq (by omega) (by omega) (by omega) | exact cq_neq (by omega)))) (fun _ => ?_)
        refine mw_aload (i := 7) dL_reads_137 rfl ?_
        refine mw_iconst (v := 4) dL_reads_139 (by decide) ?_
        refine mw_iald dL_reads_140 gl_G (mw_ix (j := 4) rfl (by decide) (by decide)) ?_
        refine mw_top ((pk_un (by decide)).trans pk_us) ?_
        refine mw_if_ne (tgt := 210) dL_reads_141 (by decide) (fun _ => ?_) (fun c9 => absurd c9 (by first | decide | exact (fun q => q rfl)))
        exact hbad (by omega) _ _ _ ((hG1.u (by decide) _).u (by decide) _) ((pk_un (by decide)).trans pk_us)
      · refine mw_iload (i := 14) dL_reads_131 rfl ?_
        refine mw_iconst (v := 4) dL_reads_133 (by decide) ?_
        refine mw_icmp_ge (tgt := 210) dL_reads_134 (by decide) (fun _ => ?_) (fun c9 => absurd c9 (by first | decide | exact (fun q => q rfl) | ((try simp only [fa_lit]); first | exact cq_le (by omega) (by omega) | exact cq_nle (by omega) (by omega) | exact cq_lt (by omega) (by omega) | exact cq_nlt (by omega) (by omega) | exact cq_eq (by omega) (by omega) (by omega) | exact cq_neq (by omega))))
        exact hbad (by omega) _ _ _ ((hG1.u (by decide) _).u (by decide) _) ((pk_un (by decide)).trans pk_us)
    · refine mw_iload_n (i := 1) dL_reads_151 rfl rfl ?_
      refine mw_icmp_ne (tgt := 159) dL_reads_152 (by decide) (fun _ => ?_) (fun c9 => absurd c9 (by first | decide | exact (fun q => q rfl) | ((try simp only [fa_lit]); first | exact cq_le (by omega) (by omega) | exact cq_nle (by omega) (by omega) | exact cq_lt (by omega) (by omega) | exact cq_nlt (by omega) (by omega) | exact cq_eq (by omega) (by omega) (by omega) | exact cq_neq (by omega))))
      refine mw_iconst (v := 0) dL_reads_159 (by decide) ?_
      refine gl_stG dL_reads_160 (mw_ix (j := 4) rfl (by decide) (by decide)) ?_
      refine mw_aload (i := 7) dL_reads_161 rfl ?_
      refine mw_iconst (v := 4) dL_reads_163 (by decide) ?_
      refine mw_iald dL_reads_164 gl_G (mw_ix (j := 4) rfl (by decide) (by decide)) ?_
      refine mw_top pk_us ?_
      refine mw_if_ne (tgt := 185) dL_reads_165 (by decide) (fun c9 => absurd c9 (by first | decide | exact (fun q => q rfl))) (fun _ => ?_)
      refine mw_iload (i := 13) dL_reads_168 rfl ?_
      refine mw_aload_n (i := 0) dL_reads_170 rfl rfl ?_
      refine mw_aload (i := 7) dL_reads_171 rfl ?_
      refine mw_iconst (v := 3) dL_reads_173 (by decide) ?_
      refine mw_iald dL_reads_174 gl_G (mw_ix (j := 3) rfl (by decide) (by decide)) ?_
      refine mw_top ((pk_un (by decide)).trans g3) ?_
      refine mw_iald dL_reads_175 (gl_rowG hr) (mw_ix rfl (by omega) (by decide)) ?_
      rw [hA (q + i) (by omega)]
      refine mw_bipush (v := 8) dL_reads_176 (by decide) ?_
      refine mw_iload (i := 14) dL_reads_178 rfl ?_
      refine mw_imul dL_reads_180 ?_
      refine mw_ishl dL_reads_181 ?_
      refine mw_ior dL_reads_182 ?_
      rw [or_8 (by omega) (hb2 _) (v4p_lt hb2 q i (by omega))]
      refine mw_istore_13 dL_reads_183 (by decide) ?_
      refine mw_aload (i := 7) dL_reads_185 rfl ?_
      refine mw_iconst (v := 3) dL_reads_187 (by decide) ?_
      refine mw_dup2 dL_reads_188 rfl rfl ?_
      refine mw_iald dL_reads_189 gl_G (mw_ix (j := 3) rfl (by decide) (by decide)) ?_
      refine mw_top ((pk_un (by decide)).trans g3) ?_
      refine mw_aload (i := 7) dL_reads_190 rfl ?_
      refine mw_iconst (v := 4) dL_reads_192 (by decide) ?_
      refine mw_iald dL_reads_193 gl_G (mw_ix (j := 4) rfl (by decide) (by decide)) ?_
      refine mw_top pk_us ?_
      refine mw_if_ne (tgt := 201) dL_reads_194 (by decide) (fun c9 => absurd c9 (by first | decide | exact (fun q => q rfl))) (fun _ => ?_)
      refine mw_iconst (v := 1) dL_reads_197 (by decide) ?_
      refine mw_goto (tgt := 202) dL_reads_198 (by decide) ?_
      refine mw_iadd dL_reads_202 ?_
      refine gl_stG dL_reads_203 (mw_ix (j := 3) rfl (by decide) (by decide)) ?_
      refine mw_iinc_14 dL_reads_204 (by decide) rfl ?_
      refine mw_goto (tgt := 131) dL_reads_207 (by decide) ?_
      rw [show nI i + Int32.ofInt 1 = nI (i + 1) from nI_1 _, show nI (q + i) + 1 = nI (q + (i + 1)) from nI_1 _]
      exact ih (i + 1) _ (by omega) (by omega) ((hG1.u (by decide) _).u (by decide) _) pk_us ((pk_un (by decide)).trans pk_us)
/-- one field -/
theorem rd_field (hb : bR A r e b) (hp : p < e) (h3 : G 3 = nI p) (h4 : G 4 = 0) (kbad : (pf b e p).1 ≠ 0 → ∀ G', gK G G' → G' 3 = nI p → Po (.inl (some (.int (nI (pf b e p).1)))) (gl H (va_up A 11 G') X)) (kgood : (pf b e p).1 = 0 → ∀ G' x15 x16, gK G G' → G' 3 = nI (pf b e p).2.1 → G' 4 = 0 → mw_W mm_L_reads 1 0 0 312 [some (.ref (43 + r)), some (.int (nI e)), some (.ref 46), some (.ref 47), some (.ref 48), some (.ref 49), some (.ref 50), some (.ref 54), some (.int M), some (.int (mn)), some (.int (mu)), some (.int (nI p)), some (.int (nI (8 * (pf b e p).2.2.1 + (pf b e p).2.2.2.1))), some (.int (nI (pf b e p).2.2.2.2)), some (.int (nI ((pf b e p).2.1 - if (pf b e p).2.2.2.1 = 2 then (pf b e p).2.2.2.2 else 0))), x15, x16] [] (gl H (va_up A 11 G') X) Po) : mw_W mm_L_reads 1 0 0 16 [some (.ref (43 + r)), some (.int (nI e)), some (.ref 46), some (.ref 47), some (.ref 48), some (.ref 49), some (.ref 50), some (.ref 54), some (.int M), some (.int (mn)), some (.int (mu)), x11, x12, x13, x14, x15, x16] [] (gl H (va_up A 11 G) X) Po := by
  have he := hb.2.1
  have hb2 := hb.2.2.1
  refine mw_aload (i := 7) dL_reads_16 rfl ?_
  refine mw_iconst (v := 3) dL_reads_18 (by decide) ?_
  refine mw_iald dL_reads_19 gl_G (mw_ix (j := 3) rfl (by decide) (by decide)) ?_
  rw [h3]
  refine mw_iload_n (i := 1) dL_reads_20 rfl rfl ?_
  refine mw_icmp_ge (tgt := 481) dL_reads_21 (by decide) (fun c9 => absurd c9 (by first | decide | exact (fun q => q rfl) | ((try simp only [fa_lit]); first | exact cq_le (by omega) (by omega) | exact cq_nle (by omega) (by omega) | exact cq_lt (by omega) (by omega) | exact cq_nlt (by omega) (by omega) | exact cq_eq (by omega) (by omega) (by omega) | exact cq_neq (by omega)))) (fun _ => ?_)
  refine mw_aload (i := 7) dL_reads_24 rfl ?_
  refine mw_iconst (v := 3) dL_reads_26 (by decide) ?_
  refine mw_iald dL_reads_27 gl_G (mw_ix (j := 3) rfl (by decide) (by decide)) ?_
  refine mw_istore_11 dL_reads_28 (by decide) ?_
  refine mw_aload_n (i := 0) dL_reads_30 rfl rfl ?_
  refine mw_aload (i := 7) dL_reads_31 rfl ?_
  refine mw_iload_n (i := 1) dL_reads_33 rfl rfl ?_
  rw [h3]
  refine mw_callS dL_reads_34 mk_L_119 ((c_number hb (Nat.le_of_lt hp) h3 h4)) (by decide) (Nat.le_refl _) (Nat.le_refl _) rfl rfl (Nat.le_of_ble_eq_true rfl) (fun E9 h9 q9 => ?_) (fun v9 h9 q9 => ?_)
  · cases q9.1
  obtain ⟨e9, G1, rfl, hG1, g3, g4, g5⟩ := q9
  cases e9
  have hq := pg_le b e 5 p 0 (Nat.le_of_lt hp)
  have hkl := pg_lt b e hb2 5 p 0 (by omega) (by decide) (fun z => absurd z (by decide))
  have hf1 := pg_f b e 5 p 0
  generalize hpg : pg b e 5 p 0 = a at g3 g4 g5 hq hkl hf1
  obtain ⟨f1, q, k⟩ := a
  have hpf := pf_eq hpg
  dsimp only at g3 g4 g5 hq hkl hf1
  refine mw_aload (i := 7) dL_reads_37 rfl ?_
  refine mw_iconst (v := 5) dL_reads_39 (by decide) ?_
  refine mw_iald dL_reads_40 gl_G (mw_ix (j := 5) rfl (by decide) (by decide)) ?_
  refine mw_istore_12 dL_reads_41 (by decide) ?_
  refine mw_aload (i := 7) dL_reads_43 rfl ?_
  refine mw_iconst (v := 4) dL_reads_45 (by decide) ?_
  refine mw_iald dL_reads_46 gl_G (mw_ix (j := 4) rfl (by decide) (by decide)) ?_
  rw [g4]
  by_cases hf : f1 = 0
  · subst hf
    rw [if_neg (fun z => z rfl)] at hpf
    have g5 := g5 rfl
    rw [g5]
    have hk3 : ((nI k).toUInt32 >>> ((3 : Int32).toUInt32 &&& Int32.toUInt32 31)).toInt32 = nI (k / 8) := ush_k hkl 3 3 (by decide)
    have hk7 : nI k &&& 7 = nI (k % 8) := pk_andN hkl 3 (by decide)
    have hk8 : 8 * (k / 8) + k % 8 = k := Nat.div_add_mod k 8
    by_cases ht : 1 ≤ k / 8 ∧ k / 8 ≤ 31
    · rw [if_neg (fun z => z ht)] at hpf
      refine mw_if_ne (tgt := 71) dL_reads_47 (by decide) (fun c9 => absurd c9 (by first | decide | exact (fun q => q rfl))) (fun _ => ?_)
      refine mw_iload (i := 12) dL_reads_50 rfl ?_
      refine mw_iconst (v := 3) dL_reads_52 (by decide) ?_
      refine mw_iushr dL_reads_53 hk3 ?_
      refine mw_if_eq (tgt := 66) dL_reads_54 (by decide) (fun c9 => absurd c9 (nI_ne0 (by omega) (by omega))) (fun _ => ?_)
      refine mw_iload (i := 12) dL_reads_57 rfl ?_
      refine mw_iconst (v := 3) dL_reads_59 (by decide) ?_
      refine mw_iushr dL_reads_60 hk3 ?_
      refine mw_bipush (v := 31) dL_reads_61 (by decide) ?_
      refine mw_icmp_le (tgt := 71) dL_reads_63 (by decide) (fun _ => ?_) (fun c9 => absurd c9 (by first | decide | exact (fun q => q rfl) | ((try simp only [fa_lit]); first | exact cq_le (by omega) (by omega) | exact cq_nle (by omega) (by omega) | exact cq_lt (by omega) (by omega) | exact cq_nlt (by omega) (by omega) | exact cq_eq (by omega) (by omega) (by omega) | exact cq_neq (by omega))))
      by_cases hy : k % 8 = 0 ∨ k % 8 = 2 ∨ k % 8 = 5
      · rw [if_neg (fun z => z hy)] at hpf
        have hto : mw_W mm_L_reads 1 0 0 109 [some (.ref (43 + r)), some (.int (nI e)), some (.ref 46), some (.ref 47), some (.ref 48), some (.ref 49), some (.ref 50), some (.ref 54), some (.int M), some (.int (mn)), some (.int (mu)), some (.int (nI p)), some (.int (nI k)), x13, x14, x15, x16] [] (gl H (va_up A 11 G1) X) Po := by
          by_cases h5 : k % 8 = 5
          · rw [if_pos h5] at hpf
            refine mw_iconst (v := 0) dL_reads_109 (by decide) ?_
            refine mw_istore_13 dL_reads_110 (by decide) ?_
            refine mw_aload (i := 7) dL_reads_112 rfl ?_
            refine mw_iconst (v := 4) dL_reads_114 (by decide) ?_
            refine mw_iald dL_reads_115 gl_G (mw_ix (j := 4) rfl (by decide) (by decide)) ?_
            rw [g4]
            refine mw_if_ne (tgt := 213) dL_reads_116 (by decide) (fun c9 => absurd c9 (by first | decide | exact (fun q => q rfl))) (fun _ => ?_)
            refine mw_iload (i := 12) dL_reads_119 rfl ?_
            refine mw_bipush (v := 7) dL_reads_121 (by decide) ?_
            refine mw_iand dL_reads_123 ?_
            rw [hk7]
            refine mw_iconst (v := 5) dL_reads_124 (by decide) ?_
            refine mw_icmp_ne (tgt := 213) dL_reads_125 (by decide) (fun c9 => absurd c9 (by first | decide | exact (fun q => q rfl) | ((try simp only [fa_lit]); first | exact cq_le (by omega) (by omega) | exact cq_nle (by omega) (by omega) | exact cq_lt (by omega) (by omega) | exact cq_nlt (by omega) (by omega) | exact cq_eq (by omega) (by omega) (by omega) | exact cq_neq (by omega)))) (fun _ => ?_)
            refine mw_iconst (v := 0) dL_reads_128 (by decide) ?_
            refine mw_istore_14 dL_reads_129 (by decide) ?_
            refine lp_four (G := G1) (q := q) (k9 := nI k) hb g3 g4 hq.2 (fun hb9 G' x13 x14 hG' g4' => ?_) (fun hb9 G' x14 hG' g3' g4' => ?_) 4 0 G1 rfl hq.2 gK.rf g3 g4
            · rw [if_pos hb9] at hpf
              rw [hpf] at kbad
              refine mw_goto (tgt := 270) dL_reads_210 (by decide) ?_
              exact rd_bad (k9 := 0) (v9 := none) (f := 1) (by decide) (by decide) g4' (fun G'' hG'' g3'' => kbad (Nat.succ_ne_zero _) G'' ((hG1.tr hG').tr hG'') g3'')
            · rw [if_neg (by omega)] at hpf
              rw [hpf] at kgood
              refine mw_goto (tgt := 270) dL_reads_210 (by decide) ?_
              refine mw_aload (i := 7) dL_reads_270 rfl ?_
              refine mw_iconst (v := 4) dL_reads_272 (by decide) ?_
              refine mw_iald dL_reads_273 gl_G (mw_ix (j := 4) rfl (by decide) (by decide)) ?_
              rw [g4']
              refine mw_if_le (tgt := 288) dL_reads_274 (by decide) (fun _ => ?_) (fun c9 => absurd c9 (by first | decide | exact (fun q => q rfl)))
              refine mw_aload (i := 7) dL_reads_288 rfl ?_
              refine mw_iconst (v := 3) dL_reads_290 (by decide) ?_
              refine mw_iald dL_reads_291 gl_G (mw_ix (j := 3) rfl (by decide) (by decide)) ?_
              rw [g3']
              refine mw_istore_14 dL_reads_292 (by decide) ?_
              refine mw_iload (i := 12) dL_reads_294 rfl ?_
              refine mw_bipush (v := 7) dL_reads_296 (by decide) ?_
              refine mw_iand dL_reads_298 ?_
              rw [hk7]
              refine mw_iconst (v := 2) dL_reads_299 (by decide) ?_
              refine mw_icmp_ne (tgt := 312) dL_reads_300 (by decide) (fun _ => ?_) (fun c9 => absurd c9 (by first | decide | exact (fun q => q rfl) | ((try simp only [fa_lit]); first | exact cq_le (by omega) (by omega) | exact cq_nle (by omega) (by omega) | exact cq_lt (by omega) (by omega) | exact cq_nlt (by omega) (by omega) | exact cq_eq (by omega) (by omega) (by omega) | exact cq_neq (by omega))))
              have h9 := kgood rfl G' x15 x16 (hG1.tr hG') g3' g4'
              dsimp only at h9
              rw [if_neg (by decide), ← h5, hk8] at h9
              exact h9
          · rw [if_neg h5] at hpf
            refine mw_iconst (v := 0) dL_reads_109 (by decide) ?_
            refine mw_istore_13 dL_reads_110 (by decide) ?_
            refine mw_aload (i := 7) dL_reads_112 rfl ?_
            refine mw_iconst (v := 4) dL_reads_114 (by decide) ?_
            refine mw_iald dL_reads_115 gl_G (mw_ix (j := 4) rfl (by decide) (by decide)) ?_
            rw [g4]
            refine mw_if_ne (tgt := 213) dL_reads_116 (by decide) (fun c9 => absurd c9 (by first | decide | exact (fun q => q rfl))) (fun _ => ?_)
            refine mw_iload (i := 12) dL_reads_119 rfl ?_
            refine mw_bipush (v := 7) dL_reads_121 (by decide) ?_
            refine mw_iand dL_reads_123 ?_
            rw [hk7]
            refine mw_iconst (v := 5) dL_reads_124 (by decide) ?_
            refine mw_icmp_ne (tgt := 213) dL_reads_125 (by decide) (fun _ => ?_) (fun c9 => absurd c9 (by first | decide | exact (fun q => q rfl) | ((try simp only [fa_lit]); first | exact cq_le (by omega) (by omega) | exact cq_nle (by omega) (by omega) | exact cq_lt (by omega) (by omega) | exact cq_nlt (by omega) (by omega) | exact cq_eq (by omega) (by omega) (by omega) | exact cq_neq (by omega))))
            refine mw_aload (i := 7) dL_reads_213 rfl ?_
            refine mw_iconst (v := 4) dL_reads_215 (by decide) ?_
            refine mw_iald dL_reads_216 gl_G (mw_ix (j := 4) rfl (by decide) (by decide)) ?_
            rw [g4]
            refine mw_if_ne (tgt := 270) dL_reads_217 (by decide) (fun c9 => absurd c9 (by first | decide | exact (fun q => q rfl))) (fun _ => ?_)
            refine mw_aload_n (i := 0) dL_reads_220 rfl rfl ?_
            refine mw_aload (i := 7) dL_reads_221 rfl ?_
            refine mw_iload_n (i := 1) dL_reads_223 rfl rfl ?_
            refine mw_callS dL_reads_224 mk_L_119 ((c_number hb hq.2 g3 g4)) (by decide) (Nat.le_refl _) (Nat.le_refl _) rfl rfl (Nat.le_of_ble_eq_true rfl) (fun E9 h9 q9 => ?_) (fun v9 h9 q9 => ?_)
            · cases q9.1
            obtain ⟨e9, G2, rfl, hG2, g3', g4', g5'⟩ := q9
            cases e9
            have hq2 := pg_le b e 5 q 0 hq.2
            have hvl := pg_lt b e hb2 5 q 0 (by omega) (by decide) (fun z => absurd z (by decide))
            have hf2 := pg_f b e 5 q 0
            generalize hpg2 : pg b e 5 q 0 = a2 at g3' g4' g5' hq2 hvl hf2 hpf
            obtain ⟨f2, q2, v⟩ := a2
            dsimp only at g3' g4' g5' hq2 hvl hf2 hpf
            refine mw_aload (i := 7) dL_reads_227 rfl ?_
            refine mw_iconst (v := 5) dL_reads_229 (by decide) ?_
            refine mw_iald dL_reads_230 gl_G (mw_ix (j := 5) rfl (by decide) (by decide)) ?_
            refine mw_istore_13 dL_reads_231 (by decide) ?_
            refine mw_aload (i := 7) dL_reads_233 rfl ?_
            refine mw_iconst (v := 4) dL_reads_235 (by decide) ?_
            refine mw_iald dL_reads_236 gl_G (mw_ix (j := 4) rfl (by decide) (by decide)) ?_
            rw [g4']
            by_cases hf0 : f2 = 0
            · subst hf0
              rw [if_neg (fun z => z rfl)] at hpf
              have g5' := g5' rfl
              rw [g5']
              refine mw_if_ne (tgt := 270) dL_reads_237 (by decide) (fun c9 => absurd c9 (by first | decide | exact (fun q => q rfl))) (fun _ => ?_)
              refine mw_iload (i := 12) dL_reads_240 rfl ?_
              refine mw_bipush (v := 7) dL_reads_242 (by decide) ?_
              refine mw_iand dL_reads_244 ?_
              rw [hk7]
              by_cases h2 : k % 8 = 2
              · rw [if_pos h2] at hpf
                by_cases hbig : e < q2 + v
                · rw [if_pos hbig] at hpf
                  rw [hpf] at kbad
                  have hbd : mw_W mm_L_reads 1 0 0 265 [some (.ref (43 + r)), some (.int (nI e)), some (.ref 46), some (.ref 47), some (.ref 48), some (.ref 49), some (.ref 50), some (.ref 54), some (.int M), some (.int (mn)), some (.int (mu)), some (.int (nI p)), some (.int (nI k)), some (.int (nI v)), x14, x15, x16] [] (gl H (va_up A 11 G2) X) Po := by
                    refine mw_aload (i := 7) dL_reads_265 rfl ?_
                    refine mw_iconst (v := 4) dL_reads_267 (by decide) ?_
                    refine mw_iconst (v := 1) dL_reads_268 (by decide) ?_
                    refine gl_stG dL_reads_269 (mw_ix (j := 4) rfl (by decide) (by decide)) ?_
                    exact rd_bad (k9 := 0) (v9 := none) (f := 1) (by decide) (by decide) pk_us (fun G'' hG'' g3'' => kbad (Nat.succ_ne_zero _) G'' ((hG1.tr (hG2.u (by decide) _)).tr hG'') g3'')
                  by_cases hneg : 2 ^ 31 ≤ v
                  · refine mw_iconst (v := 2) dL_reads_245 (by decide) ?_
                    refine mw_icmp_ne (tgt := 270) dL_reads_246 (by decide) (fun c9 => absurd c9 (by first | decide | exact (fun q => q rfl) | ((try simp only [fa_lit]); first | exact cq_le (by omega) (by omega) | exact cq_nle (by omega) (by omega) | exact cq_lt (by omega) (by omega) | exact cq_nlt (by omega) (by omega) | exact cq_eq (by omega) (by omega) (by omega) | exact cq_neq (by omega)))) (fun _ => ?_)
                    refine mw_iload (i := 13) dL_reads_249 rfl ?_
                    refine mw_if_lt (tgt := 265) dL_reads_251 (by decide) (fun _ => ?_) (fun c9 => absurd c9 (fun z => z (nI_neg hneg hvl)))
                    exact hbd
                  · refine mw_iconst (v := 2) dL_reads_245 (by decide) ?_
                    refine mw_icmp_ne (tgt := 270) dL_reads_246 (by decide) (fun c9 => absurd c9 (by first | decide | exact (fun q => q rfl) | ((try simp only [fa_lit]); first | exact cq_le (by omega) (by omega) | exact cq_nle (by omega) (by omega) | exact cq_lt (by omega) (by omega) | exact cq_nlt (by omega) (by omega) | exact cq_eq (by omega) (by omega) (by omega) | exact cq_neq (by omega)))) (fun _ => ?_)
                    refine mw_iload (i := 13) dL_reads_249 rfl ?_
                    refine mw_if_lt (tgt := 265) dL_reads_251 (by decide) (fun c9 => absurd c9 (cq_lt (b := 0) (Nat.zero_le _) (by omega))) (fun _ => ?_)
                    refine mw_iload (i := 13) dL_reads_254 rfl ?_
                    refine mw_iload_n (i := 1) dL_reads_256 rfl rfl ?_
                    refine mw_aload (i := 7) dL_reads_257 rfl ?_
                    refine mw_iconst (v := 3) dL_reads_259 (by decide) ?_
                    refine mw_iald dL_reads_260 gl_G (mw_ix (j := 3) rfl (by decide) (by decide)) ?_
                    rw [g3']
                    refine mw_isub dL_reads_261 ?_
                    rw [pk_sub hq2.2]
                    refine mw_icmp_le (tgt := 270) dL_reads_262 (by decide) (fun c9 => absurd c9 (by first | decide | exact (fun q => q rfl) | ((try simp only [fa_lit]); first | exact cq_le (by omega) (by omega) | exact cq_nle (by omega) (by omega) | exact cq_lt (by omega) (by omega) | exact cq_nlt (by omega) (by omega) | exact cq_eq (by omega) (by omega) (by omega) | exact cq_neq (by omega)))) (fun _ => ?_)
                    exact hbd
                · rw [if_neg hbig] at hpf
                  rw [hpf] at kgood
                  refine mw_iconst (v := 2) dL_reads_245 (by decide) ?_
                  refine mw_icmp_ne (tgt := 270) dL_reads_246 (by decide) (fun c9 => absurd c9 (by first | decide | exact (fun q => q rfl) | ((try simp only [fa_lit]); first | exact cq_le (by omega) (by omega) | exact cq_nle (by omega) (by omega) | exact cq_lt (by omega) (by omega) | exact cq_nlt (by omega) (by omega) | exact cq_eq (by omega) (by omega) (by omega) | exact cq_neq (by omega)))) (fun _ => ?_)
                  refine mw_iload (i := 13) dL_reads_249 rfl ?_
                  refine mw_if_lt (tgt := 265) dL_reads_251 (by decide) (fun c9 => absurd c9 (cq_lt (b := 0) (Nat.zero_le _) (by omega))) (fun _ => ?_)
                  refine mw_iload (i := 13) dL_reads_254 rfl ?_
                  refine mw_iload_n (i := 1) dL_reads_256 rfl rfl ?_
                  refine mw_aload (i := 7) dL_reads_257 rfl ?_
                  refine mw_iconst (v := 3) dL_reads_259 (by decide) ?_
                  refine mw_iald dL_reads_260 gl_G (mw_ix (j := 3) rfl (by decide) (by decide)) ?_
                  rw [g3']
                  refine mw_isub dL_reads_261 ?_
                  rw [pk_sub hq2.2]
                  refine mw_icmp_le (tgt := 270) dL_reads_262 (by decide) (fun _ => ?_) (fun c9 => absurd c9 (by first | decide | exact (fun q => q rfl) | ((try simp only [fa_lit]); first | exact cq_le (by omega) (by omega) | exact cq_nle (by omega) (by omega) | exact cq_lt (by omega) (by omega) | exact cq_nlt (by omega) (by omega) | exact cq_eq (by omega) (by omega) (by omega) | exact cq_neq (by omega))))
                  refine mw_aload (i := 7) dL_reads_270 rfl ?_
                  refine mw_iconst (v := 4) dL_reads_272 (by decide) ?_
                  refine mw_iald dL_reads_273 gl_G (mw_ix (j := 4) rfl (by decide) (by decide)) ?_
                  rw [g4']
                  refine mw_if_le (tgt := 288) dL_reads_274 (by decide) (fun _ => ?_) (fun c9 => absurd c9 (by first | decide | exact (fun q => q rfl)))
                  refine mw_aload (i := 7) dL_reads_288 rfl ?_
                  refine mw_iconst (v := 3) dL_reads_290 (by decide) ?_
                  refine mw_iald dL_reads_291 gl_G (mw_ix (j := 3) rfl (by decide) (by decide)) ?_
                  rw [g3']
                  refine mw_istore_14 dL_reads_292 (by decide) ?_
                  refine mw_iload (i := 12) dL_reads_294 rfl ?_
                  refine mw_bipush (v := 7) dL_reads_296 (by decide) ?_
                  refine mw_iand dL_reads_298 ?_
                  rw [hk7]
                  refine mw_iconst (v := 2) dL_reads_299 (by decide) ?_
                  refine mw_icmp_ne (tgt := 312) dL_reads_300 (by decide) (fun c9 => absurd c9 (by first | decide | exact (fun q => q rfl) | ((try simp only [fa_lit]); first | exact cq_le (by omega) (by omega) | exact cq_nle (by omega) (by omega) | exact cq_lt (by omega) (by omega) | exact cq_nlt (by omega) (by omega) | exact cq_eq (by omega) (by omega) (by omega) | exact cq_neq (by omega)))) (fun _ => ?_)
                  refine mw_aload (i := 7) dL_reads_303 rfl ?_
                  refine mw_iconst (v := 3) dL_reads_305 (by decide) ?_
                  refine mw_dup2 dL_reads_306 rfl rfl ?_
                  refine mw_iald dL_reads_307 gl_G (mw_ix (j := 3) rfl (by decide) (by decide)) ?_
                  rw [g3']
                  refine mw_iload (i := 13) dL_reads_308 rfl ?_
                  refine mw_iadd dL_reads_310 ?_
                  refine gl_stG dL_reads_311 (mw_ix (j := 3) rfl (by decide) (by decide)) ?_
                  rw [nI_add]
                  have h9 := kgood rfl _ x15 x16 ((hG1.tr hG2).u (q := 3) (by decide) (nI (q2 + v))) pk_us ((pk_un (by decide)).trans g4')
                  dsimp only at h9
                  rw [if_pos rfl, Nat.add_sub_cancel, ← h2, hk8] at h9
                  exact h9
              · rw [if_neg h2] at hpf
                rw [hpf] at kgood
                refine mw_iconst (v := 2) dL_reads_245 (by decide) ?_
                refine mw_icmp_ne (tgt := 270) dL_reads_246 (by decide) (fun _ => ?_) (fun c9 => absurd c9 (by first | decide | exact (fun q => q rfl) | ((try simp only [fa_lit]); first | exact cq_le (by omega) (by omega) | exact cq_nle (by omega) (by omega) | exact cq_lt (by omega) (by omega) | exact cq_nlt (by omega) (by omega) | exact cq_eq (by omega) (by omega) (by omega) | exact cq_neq (by omega))))
                refine mw_aload (i := 7) dL_reads_270 rfl ?_
                refine mw_iconst (v := 4) dL_reads_272 (by decide) ?_
                refine mw_iald dL_reads_273 gl_G (mw_ix (j := 4) rfl (by decide) (by decide)) ?_
                rw [g4']
                refine mw_if_le (tgt := 288) dL_reads_274 (by decide) (fun _ => ?_) (fun c9 => absurd c9 (by first | decide | exact (fun q => q rfl)))
                refine mw_aload (i := 7) dL_reads_288 rfl ?_
                refine mw_iconst (v := 3) dL_reads_290 (by decide) ?_
                refine mw_iald dL_reads_291 gl_G (mw_ix (j := 3) rfl (by decide) (by decide)) ?_
                rw [g3']
                refine mw_istore_14 dL_reads_292 (by decide) ?_
                refine mw_iload (i := 12) dL_reads_294 rfl ?_
                refine mw_bipush (v := 7) dL_reads_296 (by decide) ?_
                refine mw_iand dL_reads_298 ?_
                rw [hk7]
                refine mw_iconst (v := 2) dL_reads_299 (by decide) ?_
                refine mw_icmp_ne (tgt := 312) dL_reads_300 (by decide) (fun _ => ?_) (fun c9 => absurd c9 (by first | decide | exact (fun q => q rfl) | ((try simp only [fa_lit]); first | exact cq_le (by omega) (by omega) | exact cq_nle (by omega) (by omega) | exact cq_lt (by omega) (by omega) | exact cq_nlt (by omega) (by omega) | exact cq_eq (by omega) (by omega) (by omega) | exact cq_neq (by omega))))
                have h9 := kgood rfl G2 x15 x16 (hG1.tr hG2) g3' g4'
                dsimp only at h9
                rw [if_neg (by decide), Nat.sub_zero, show 8 * (k / 8) + 0 = k by omega] at h9
                exact h9
            · rw [if_pos hf0] at hpf
              rw [hpf] at kbad
              refine mw_if_ne (tgt := 270) dL_reads_237 (by decide) (fun _ => ?_) (fun c9 => absurd c9 (nI0f hf0 (by omega)))
              exact rd_bad (k9 := 0) (v9 := none) (f := f2) hf0 (by omega) g4' (fun G' hG' g3'' => kbad hf0 G' ((hG1.tr hG2).tr hG') g3'')
        refine mw_aload (i := 7) dL_reads_71 rfl ?_
        refine mw_iconst (v := 4) dL_reads_73 (by decide) ?_
        refine mw_iald dL_reads_74 gl_G (mw_ix (j := 4) rfl (by decide) (by decide)) ?_
        rw [g4]
        refine mw_if_ne (tgt := 109) dL_reads_75 (by decide) (fun c9 => absurd c9 (by first | decide | exact (fun q => q rfl))) (fun _ => ?_)
        refine mw_iload (i := 12) dL_reads_78 rfl ?_
        refine mw_bipush (v := 7) dL_reads_80 (by decide) ?_
        refine mw_iand dL_reads_82 ?_
        rw [hk7]
        by_cases y0 : k % 8 = 0
        · refine mw_if_eq (tgt := 109) dL_reads_83 (by decide) (fun _ => ?_) (fun c9 => absurd c9 (by first | decide | exact (fun q => q rfl) | ((try simp only [fa_lit]); first | exact cq_le (by omega) (by omega) | exact cq_nle (by omega) (by omega) | exact cq_lt (by omega) (by omega) | exact cq_nlt (by omega) (by omega) | exact cq_eq (by omega) (by omega) (by omega) | exact cq_neq (by omega))))
          exact hto
        · refine mw_if_eq (tgt := 109) dL_reads_83 (by decide) (fun c9 => absurd c9 (by first | decide | exact (fun q => q rfl) | ((try simp only [fa_lit]); first | exact cq_le (by omega) (by omega) | exact cq_nle (by omega) (by omega) | exact cq_lt (by omega) (by omega) | exact cq_nlt (by omega) (by omega) | exact cq_eq (by omega) (by omega) (by omega) | exact cq_neq (by omega)))) (fun _ => ?_)
          refine mw_iload (i := 12) dL_reads_86 rfl ?_
          refine mw_bipush (v := 7) dL_reads_88 (by decide) ?_
          refine mw_iand dL_reads_90 ?_
          rw [hk7]
          by_cases y2 : k % 8 = 2
          · refine mw_iconst (v := 2) dL_reads_91 (by decide) ?_
            refine mw_icmp_eq (tgt := 109) dL_reads_92 (by decide) (fun _ => ?_) (fun c9 => absurd c9 (by first | decide | exact (fun q => q rfl) | ((try simp only [fa_lit]); first | exact cq_le (by omega) (by omega) | exact cq_nle (by omega) (by omega) | exact cq_lt (by omega) (by omega) | exact cq_nlt (by omega) (by omega) | exact cq_eq (by omega) (by omega) (by omega) | exact cq_neq (by omega))))
            exact hto
          · refine mw_iconst (v := 2) dL_reads_91 (by decide) ?_
            refine mw_icmp_eq (tgt := 109) dL_reads_92 (by decide) (fun c9 => absurd c9 (by first | decide | exact (fun q => q rfl) | ((try simp only [fa_lit]); first | exact cq_le (by omega) (by omega) | exact cq_nle (by omega) (by omega) | exact cq_lt (by omega) (by omega) | exact cq_nlt (by omega) (by omega) | exact cq_eq (by omega) (by omega) (by omega) | exact cq_neq (by omega)))) (fun _ => ?_)
            refine mw_iload (i := 12) dL_reads_95 rfl ?_
            refine mw_bipush (v := 7) dL_reads_97 (by decide) ?_
            refine mw_iand dL_reads_99 ?_
            rw [hk7]
            refine mw_iconst (v := 5) dL_reads_100 (by decide) ?_
            refine mw_icmp_eq (tgt := 109) dL_reads_101 (by decide) (fun _ => ?_) (fun c9 => absurd c9 (by first | decide | exact (fun q => q rfl) | ((try simp only [fa_lit]); first | exact cq_le (by omega) (by omega) | exact cq_nle (by omega) (by omega) | exact cq_lt (by omega) (by omega) | exact cq_nlt (by omega) (by omega) | exact cq_eq (by omega) (by omega) (by omega) | exact cq_neq (by omega))))
            exact hto
      · rw [if_pos hy] at hpf
        rw [hpf] at kbad
        refine mw_aload (i := 7) dL_reads_71 rfl ?_
        refine mw_iconst (v := 4) dL_reads_73 (by decide) ?_
        refine mw_iald dL_reads_74 gl_G (mw_ix (j := 4) rfl (by decide) (by decide)) ?_
        rw [g4]
        refine mw_if_ne (tgt := 109) dL_reads_75 (by decide) (fun c9 => absurd c9 (by first | decide | exact (fun q => q rfl))) (fun _ => ?_)
        refine mw_iload (i := 12) dL_reads_78 rfl ?_
        refine mw_bipush (v := 7) dL_reads_80 (by decide) ?_
        refine mw_iand dL_reads_82 ?_
        rw [hk7]
        refine mw_if_eq (tgt := 109) dL_reads_83 (by decide) (fun c9 => absurd c9 (by first | decide | exact (fun q => q rfl) | ((try simp only [fa_lit]); first | exact cq_le (by omega) (by omega) | exact cq_nle (by omega) (by omega) | exact cq_lt (by omega) (by omega) | exact cq_nlt (by omega) (by omega) | exact cq_eq (by omega) (by omega) (by omega) | exact cq_neq (by omega)))) (fun _ => ?_)
        refine mw_iload (i := 12) dL_reads_86 rfl ?_
        refine mw_bipush (v := 7) dL_reads_88 (by decide) ?_
        refine mw_iand dL_reads_90 ?_
        rw [hk7]
        refine mw_iconst (v := 2) dL_reads_91 (by decide) ?_
        refine mw_icmp_eq (tgt := 109) dL_reads_92 (by decide) (fun c9 => absurd c9 (by first | decide | exact (fun q => q rfl) | ((try simp only [fa_lit]); first | exact cq_le (by omega) (by omega) | exact cq_nle (by omega) (by omega) | exact cq_lt (by omega) (by omega) | exact cq_nlt (by omega) (by omega) | exact cq_eq (by omega) (by omega) (by omega) | exact cq_neq (by omega)))) (fun _ => ?_)
        refine mw_iload (i := 12) dL_reads_95 rfl ?_
        refine mw_bipush (v := 7) dL_reads_97 (by decide) ?_
        refine mw_iand dL_reads_99 ?_
        rw [hk7]
        refine mw_iconst (v := 5) dL_reads_100 (by decide) ?_
        refine mw_icmp_eq (tgt := 109) dL_reads_101 (by decide) (fun c9 => absurd c9 (by first | decide | exact (fun q => q rfl) | ((try simp only [fa_lit]); first | exact cq_le (by omega) (by omega) | exact cq_nle (by omega) (by omega) | exact cq_lt (by omega) (by omega) | exact cq_nlt (by omega) (by omega) | exact cq_eq (by omega) (by omega) (by omega) | exact cq_neq (by omega)))) (fun _ => ?_)
        refine mw_aload (i := 7) dL_reads_104 rfl ?_
        refine mw_iconst (v := 4) dL_reads_106 (by decide) ?_
        refine mw_iconst (v := 4) dL_reads_107 (by decide) ?_
        refine gl_stG dL_reads_108 (mw_ix (j := 4) rfl (by decide) (by decide)) ?_
        refine mw_iconst (v := 0) dL_reads_109 (by decide) ?_
        refine mw_istore_13 dL_reads_110 (by decide) ?_
        refine mw_aload (i := 7) dL_reads_112 rfl ?_
        refine mw_iconst (v := 4) dL_reads_114 (by decide) ?_
        refine mw_iald dL_reads_115 gl_G (mw_ix (j := 4) rfl (by decide) (by decide)) ?_
        refine mw_top (pk_us (x := 4)) ?_
        refine mw_if_ne (tgt := 213) dL_reads_116 (by decide) (fun _ => ?_) (fun c9 => absurd c9 (by first | decide | exact (fun q => q rfl)))
        refine mw_aload (i := 7) dL_reads_213 rfl ?_
        refine mw_iconst (v := 4) dL_reads_215 (by decide) ?_
        refine mw_iald dL_reads_216 gl_G (mw_ix (j := 4) rfl (by decide) (by decide)) ?_
        refine mw_top (pk_us (x := 4)) ?_
        refine mw_if_ne (tgt := 270) dL_reads_217 (by decide) (fun _ => ?_) (fun c9 => absurd c9 (by first | decide | exact (fun q => q rfl)))
        exact rd_bad (k9 := 0) (v9 := none) (f := 4) (by decide) (by decide) pk_us (fun G'' hG'' g3'' => kbad (Nat.succ_ne_zero _) G'' ((hG1.u (by decide) _).tr hG'') g3'')
    · rw [if_pos ht] at hpf
      rw [hpf] at kbad
      have hbd : mw_W mm_L_reads 1 0 0 66 [some (.ref (43 + r)), some (.int (nI e)), some (.ref 46), some (.ref 47), some (.ref 48), some (.ref 49), some (.ref 50), some (.ref 54), some (.int M), some (.int (mn)), some (.int (mu)), some (.int (nI p)), some (.int (nI k)), x13, x14, x15, x16] [] (gl H (va_up A 11 G1) X) Po := by
        refine mw_aload (i := 7) dL_reads_66 rfl ?_
        refine mw_iconst (v := 4) dL_reads_68 (by decide) ?_
        refine mw_iconst (v := 3) dL_reads_69 (by decide) ?_
        refine gl_stG dL_reads_70 (mw_ix (j := 4) rfl (by decide) (by decide)) ?_
        exact rd_bad71 (f := 3) (by decide) (by decide) pk_us (fun G'' hG'' g3'' => kbad (Nat.succ_ne_zero _) G'' ((hG1.u (by decide) _).tr hG'') g3'')
      by_cases t0 : k / 8 = 0
      · refine mw_if_ne (tgt := 71) dL_reads_47 (by decide) (fun c9 => absurd c9 (by first | decide | exact (fun q => q rfl))) (fun _ => ?_)
        refine mw_iload (i := 12) dL_reads_50 rfl ?_
        refine mw_iconst (v := 3) dL_reads_52 (by decide) ?_
        refine mw_iushr dL_reads_53 hk3 ?_
        refine mw_if_eq (tgt := 66) dL_reads_54 (by decide) (fun _ => ?_) (fun c9 => absurd c9 (fun z => z (by rw [t0]; rfl)))
        exact hbd
      · refine mw_if_ne (tgt := 71) dL_reads_47 (by decide) (fun c9 => absurd c9 (by first | decide | exact (fun q => q rfl))) (fun _ => ?_)
        refine mw_iload (i := 12) dL_reads_50 rfl ?_
        refine mw_iconst (v := 3) dL_reads_52 (by decide) ?_
        refine mw_iushr dL_reads_53 hk3 ?_
        refine mw_if_eq (tgt := 66) dL_reads_54 (by decide) (fun c9 => absurd c9 (nI_ne0 (by omega) (by omega))) (fun _ => ?_)
        refine mw_iload (i := 12) dL_reads_57 rfl ?_
        refine mw_iconst (v := 3) dL_reads_59 (by decide) ?_
        refine mw_iushr dL_reads_60 hk3 ?_
        refine mw_bipush (v := 31) dL_reads_61 (by decide) ?_
        refine mw_icmp_le (tgt := 71) dL_reads_63 (by decide) (fun c9 => absurd c9 (by first | decide | exact (fun q => q rfl) | ((try simp only [fa_lit]); first | exact cq_le (by omega) (by omega) | exact cq_nle (by omega) (by omega) | exact cq_lt (by omega) (by omega) | exact cq_nlt (by omega) (by omega) | exact cq_eq (by omega) (by omega) (by omega) | exact cq_neq (by omega)))) (fun _ => ?_)
        exact hbd
  · rw [if_pos hf] at hpf
    rw [hpf] at kbad
    refine mw_if_ne (tgt := 71) dL_reads_47 (by decide) (fun _ => ?_) (fun c9 => absurd c9 (nI0f hf (by omega)))
    exact rd_bad71 (f := f1) hf (by omega) g4 (fun G' hG' g3' => kbad hf G' (hG1.tr hG') g3')
end LH7
