/-! a tag as a reason -/
/-- the bit p of a long -/
def zb (S : Int64) (p : Nat) : Bool := S.toBitVec.getLsbD p
theorem zb_at (S : Int64) {p : Nat} (hp : p < 64) : (S >>> ((nI p).toInt64 &&& 63)) &&& 1 = if zb S p then 1 else 0 := by
  rw [wb_c p hp]
  apply wb_inj
  have hr : (if zb S p then (1 : Int64) else 0).toBitVec = BitVec.ofNat 64 (if zb S p then 1 else 0) := by
    cases zb S p <;> rfl
  rw [hr, Int64.toBitVec_and, Int64.toBitVec_shiftRight, wb_tb, wb_sm p hp, show (1 : Int64).toBitVec = BitVec.ofNat 64 (2 ^ 1 - 1) from rfl]
  apply BitVec.eq_of_getLsbD_eq
  intro i hi
  rw [BitVec.getLsbD_and, BitVec.sshiftRight_eq', BitVec.toNat_ofNat, Nat.mod_eq_of_lt (show p < 2 ^ 64 by omega), BitVec.getLsbD_sshiftRight, BitVec.getLsbD_ofNat, BitVec.getLsbD_ofNat, Nat.testBit_two_pow_sub_one]
  by_cases h0 : i < 1
  · have h0 : i = 0 := by omega
    subst h0
    rw [if_pos (show p + 0 < 64 by omega), Nat.add_zero]
    unfold zb
    cases S.toBitVec.getLsbD p <;> simp
  · have h1 : (if zb S p then 1 else 0 : Nat).testBit i = false := by
      cases zb S p
      · simp
      · exact Nat.testBit_lt_two_pow (Nat.lt_of_lt_of_le (show 1 < 2 ^ 1 by decide) (Nat.pow_le_pow_right (by decide) (by omega)))
    rw [h1]
    simp [h0]
theorem zb_or (S T : Int64) (p : Nat) : zb (S ||| T) p = (zb S p || zb T p) := by
  unfold zb
  rw [Int64.toBitVec_or, BitVec.getLsbD_or]
/-- the pair n, but for the pair q -/
def mkp (n q : Nat) : Int64 := (1 <<< ((nI n).toInt64 &&& 63)) &&& ((1 <<< ((nI q).toInt64 &&& 63)) ^^^ (-1))
theorem zb_mkp {n q p : Nat} (hn : n < 64) (hq : q < 64) (hp : p < 64) : zb (mkp n q) p = (decide (p = n) && !decide (p = q)) := by
  have h1 : ∀ k, k < 64 → zb ((1 : Int64) <<< ((nI k).toInt64 &&& 63)) p = decide (p = k) := by
    intro k hk
    have h := wb_shl 1 hk
    rw [show lN 1 = (1 : Int64) from rfl, Nat.one_mul] at h
    rw [h]
    unfold zb
    rw [wb_tb, BitVec.getLsbD_ofNat, Nat.testBit_two_pow]
    by_cases e : p = k
    · subst e; simp [hp]
    · simp [e, Ne.symm e]
  unfold mkp
  have h2 := h1 n hn
  have h3 := h1 q hq
  unfold zb at h2 h3 ⊢
  rw [Int64.toBitVec_and, BitVec.getLsbD_and, h2, Int64.toBitVec_xor, BitVec.getLsbD_xor, h3, show (-1 : Int64).toBitVec = BitVec.allOnes 64 from rfl, BitVec.getLsbD_allOnes]
  simp [hp]
theorem km_0 {κ : Nat} (h : κ ≤ 5) : nI κ - 1 < 0 ↔ κ = 0 := by
  have h : κ = 0 ∨ κ = 1 ∨ κ = 2 ∨ κ = 3 ∨ κ = 4 ∨ κ = 5 := by omega
  rcases h with rfl | rfl | rfl | rfl | rfl | rfl <;> decide
theorem km_3 {κ : Nat} (h : κ ≤ 5) : nI κ - 1 < 3 ↔ κ < 4 := by
  have h : κ = 0 ∨ κ = 1 ∨ κ = 2 ∨ κ = 3 ∨ κ = 4 ∨ κ = 5 := by omega
  rcases h with rfl | rfl | rfl | rfl | rfl | rfl <;> decide
theorem km_4 {κ : Nat} (h : κ ≤ 5) : nI κ - 1 = 4 ↔ κ = 5 := by
  have h : κ = 0 ∨ κ = 1 ∨ κ = 2 ∨ κ = 3 ∨ κ = 4 ∨ κ = 5 := by omega
  rcases h with rfl | rfl | rfl | rfl | rfl | rfl <;> decide
theorem km_e {κ κ' : Nat} (h : κ ≤ 5) (h' : κ' ≤ 5) : nI κ - 1 = nI κ' - 1 ↔ κ = κ' := by
  have h : κ = 0 ∨ κ = 1 ∨ κ = 2 ∨ κ = 3 ∨ κ = 4 ∨ κ = 5 := by omega
  have h' : κ' = 0 ∨ κ' = 1 ∨ κ' = 2 ∨ κ' = 3 ∨ κ' = 4 ∨ κ' = 5 := by omega
  rcases h with rfl | rfl | rfl | rfl | rfl | rfl <;> rcases h' with rfl | rfl | rfl | rfl | rfl | rfl <;> decide
theorem km_g0 {κ : Nat} (h : κ ≤ 5) : (0 : Int32) ≤ nI κ - 1 ↔ κ ≠ 0 := by
  have h : κ = 0 ∨ κ = 1 ∨ κ = 2 ∨ κ = 3 ∨ κ = 4 ∨ κ = 5 := by omega
  rcases h with rfl | rfl | rfl | rfl | rfl | rfl <;> decide
theorem km_g3 {κ : Nat} (h : κ ≤ 5) : (3 : Int32) ≤ nI κ - 1 ↔ ¬ κ < 4 := by
  have h : κ = 0 ∨ κ = 1 ∨ κ = 2 ∨ κ = 3 ∨ κ = 4 ∨ κ = 5 := by omega
  rcases h with rfl | rfl | rfl | rfl | rfl | rfl <;> decide
theorem dif_k {K : Nat → Nat → Int32} {s o t κ κ' : Nat} (h : κ ≤ 5) (h' : κ' ≤ 5) (e : zKind K s (nI t) = nI κ - 1) (e' : zKind K o (nI t) = nI κ' - 1) : dif K s o t = decide (κ ≠ 0 ∧ κ' ≠ 0 ∧ κ ≠ κ' ∧ (κ < 4 ∨ κ' < 4)) := by
  unfold dif
  rw [e, e']
  have h : κ = 0 ∨ κ = 1 ∨ κ = 2 ∨ κ = 3 ∨ κ = 4 ∨ κ = 5 := by omega
  have h' : κ' = 0 ∨ κ' = 1 ∨ κ' = 2 ∨ κ' = 3 ∨ κ' = 4 ∨ κ' = 5 := by omega
  rcases h with rfl | rfl | rfl | rfl | rfl | rfl <;> rcases h' with rfl | rfl | rfl | rfl | rfl | rfl <;> decide
theorem led_k {K : Nat → Nat → Int32} {s o t κ κ' : Nat} (h : κ ≤ 5) (h' : κ' ≤ 5) (e : zKind K s (nI t) = nI κ - 1) (e' : zKind K o (nI t) = nI κ' - 1) : led K s o t = decide (κ = 5 ∧ κ' = 5) := by
  unfold led
  rw [e, e']
  have h : κ = 0 ∨ κ = 1 ∨ κ = 2 ∨ κ = 3 ∨ κ = 4 ∨ κ = 5 := by omega
  have h' : κ' = 0 ∨ κ' = 1 ∨ κ' = 2 ∨ κ' = 3 ∨ κ' = 4 ∨ κ' = 5 := by omega
  rcases h with rfl | rfl | rfl | rfl | rfl | rfl <;> rcases h' with rfl | rfl | rfl | rfl | rfl | rfl <;> decide
theorem cnt_mono {p q : Nat → Bool} : ∀ n, (∀ k, k < n → p k = true → q k = true) → fa_cnt p n ≤ fa_cnt q n
  | 0, _ => Nat.le_refl _
  | n + 1, h => by
    have ih := cnt_mono n (fun k hk => h k (by omega))
    cases hp : p n with
    | false =>
      rw [fa_cnt_no hp]
      cases hq : q n with
      | false => rw [fa_cnt_no hq]; exact ih
      | true => rw [fa_cnt_yes hq]; omega
    | true => rw [fa_cnt_yes hp, fa_cnt_yes (h n (Nat.lt_succ_self n) hp)]; omega
theorem cnt_more {p q : Nat → Bool} : ∀ n, (∀ k, k < n → p k = true → q k = true) → (∃ k, k < n ∧ p k = false ∧ q k = true) → fa_cnt p n < fa_cnt q n
  | 0, _, h => by obtain ⟨k, hk, -⟩ := h; exact absurd hk (Nat.not_lt_zero _)
  | n + 1, h, hx => by
    have hm := cnt_mono n (fun k hk => h k (by omega))
    obtain ⟨k, hk, e1, e2⟩ := hx
    by_cases e : k = n
    · subst e
      rw [fa_cnt_no e1, fa_cnt_yes e2]
      omega
    · have ih := cnt_more n (fun k hk => h k (by omega)) ⟨k, by omega, e1, e2⟩
      cases hp : p n with
      | false =>
        rw [fa_cnt_no hp]
        cases hq : q n with
        | false => rw [fa_cnt_no hq]; exact ih
        | true => rw [fa_cnt_yes hq]; omega
      | true => rw [fa_cnt_yes hp, fa_cnt_yes (h n (Nat.lt_succ_self n) hp)]; omega
theorem cnt_24 {p : Nat → Bool} (h : ∀ k, 24 ≤ k → p k = false) : ∀ n, fa_cnt p (24 + n) ≤ 24
  | 0 => fa_cnt_le p 24
  | n + 1 => by
    show fa_cnt p ((24 + n) + 1) ≤ 24
    rw [fa_cnt_no (h _ (by omega))]
    exact cnt_24 h n
/-- a set of pairs that holds what its pairs lead to, but for the pair q -/
def cloS (K : Nat → Nat → Int32) (q : Nat) (C : Nat → Prop) : Prop := ∀ p, C p → ∀ t, 1 ≤ t → t ≤ 31 → led K (p / 6) (p % 6) t = true → C (to2 K (p / 6) (p % 6) t) ∨ to2 K (p / 6) (p % 6) t = q
/-- the pairs found so far -/
def goodS (K : Nat → Nat → Int32) (ns q p0 : Nat) (S : Int64) : Prop := ∀ p, p < 64 → zb S p = true → p ≠ q ∧ p / 6 < ns ∧ p % 6 < ns ∧ (Ds K q p → Ds K q p0)
def extS (K : Nat → Nat → Int32) (q : Nat) (S S' : Int64) : Prop := (∀ p, p < 64 → zb S p = true → zb S' p = true) ∧ ∀ C : Nat → Prop, cloS K q C → (∀ p, p < 64 → zb S p = true → C p) → ∀ p, p < 64 → zb S' p = true → C p
theorem extS.rf {K : Nat → Nat → Int32} {q : Nat} {S : Int64} : extS K q S S := ⟨fun _ _ h => h, fun _ _ h => h⟩
theorem extS.tr {K : Nat → Nat → Int32} {q : Nat} {S S' S'' : Int64} (h : extS K q S S') (k : extS K q S' S'') : extS K q S S'' := ⟨fun p hp z => k.1 p hp (h.1 p hp z), fun C hC hS => k.2 C hC (h.2 C hC hS)⟩
/-- the first j places of tags of the pair p are done -/
def doneS (K : Nat → Nat → Int32) (q : Nat) (S : Int64) (p j : Nat) : Prop := ∀ i, i < j → i < 6 → dif K (p / 6) (p % 6) (tg i) = false ∧ (led K (p / 6) (p % 6) (tg i) = true → to2 K (p / 6) (p % 6) (tg i) < 64 ∧ (zb S (to2 K (p / 6) (p % 6) (tg i)) = true ∨ to2 K (p / 6) (p % 6) (tg i) = q))
theorem doneS.mo {K : Nat → Nat → Int32} {q : Nat} {S S' : Int64} {p j : Nat} (h : doneS K q S p j) (hx : extS K q S S') : doneS K q S' p j := fun i h1 h2 => ⟨(h i h1 h2).1, fun z => ⟨((h i h1 h2).2 z).1, ((h i h1 h2).2 z).2.elim (fun y => Or.inl (hx.1 _ ((h i h1 h2).2 z).1 y)) Or.inr⟩⟩
/-- every tag with a kind has a place -/
theorem tg_all {K : Nat → Nat → Int32} {ns s t : Nat} {A : Nat → Nat → Int32} (hk : kR K ns A) (hs : s < ns) (h1 : 1 ≤ t) (h2 : t ≤ 31) : (∃ i, i < 6 ∧ tg i = t) ∨ zKind K s (nI t) = -1 := by
  rcases kR_cases hk hs h1 h2 with h | ⟨κ, -, -, h⟩
  · exact Or.inr h
  · exact Or.inl h
theorem dif_none {K : Nat → Nat → Int32} {s o t : Nat} (h : zKind K s (nI t) = -1) : dif K s o t = false ∧ led K s o t = false := by
  unfold dif led
  rw [h]
  exact ⟨rfl, rfl⟩
def rsP (H : mw_H) (A : Nat → Nat → Int32) (X : Nat → Nat → Int64) (P : Prop) : mw_P := fun v h' => h' = gl H A X ∧ ((v = .inl (some (.int 1)) ∧ P) ∨ (v = .inl (some (.int 0)) ∧ ¬ P))
section RS
variable {H : mw_H} {A : Nat → Nat → Int32} {X : Nat → Nat → Int64} {K : Nat → Nat → Int32} {ns one other i0 p0 : Nat} {x9 x10 x11 x12 x13 : Option Value}
theorem kap (hk : kR K ns A) {s i : Nat} (hs : s < ns) (hi : i < 6) : ∃ κ o : Nat, κ ≤ 5 ∧ o < 4 ∧ A 0 (6 * s + i) = nI (κ + 8 * o) ∧ zKind K s (nI (tg i)) = nI κ - 1 ∧ (κ = 5 → o < ns ∧ pn K s (tg i) = o) := by
  obtain ⟨κ, o, k1, k2, k3, k4, k5, -⟩ := hk.2.1 s i hs hi
  have ht := tg_in hi
  refine ⟨κ, o, k1, k2, k3, by rw [zK_t ht.1 ht.2, k4], fun z => ⟨(k5 z).1, ?_⟩⟩
  unfold pn
  rw [(k5 z).2, nI_clamp (by omega)]
theorem mx_r8' {κ o : Nat} (h : κ ≤ 5) (ho : o < 4) : nI (κ + 8 * o) - nI (κ + 8 * o) / 8 * 8 = nI κ := by
  rw [mx_r8 (by omega), show (κ + 8 * o) % 8 = κ by omega]
theorem mx_d8' {κ o : Nat} (h : κ ≤ 5) (ho : o < 4) : nI (κ + 8 * o) / 8 = nI o := by
  rw [mx_d8 (by omega), show (κ + 8 * o) / 8 = o by omega]
theorem mx_d6 {p : Nat} (hp : p < 64) : nI p / 6 = nI (p / 6) := pk_div (d := 6) (by omega) (by decide) (by decide)
theorem mx_r6 {p : Nat} (hp : p < 64) : nI p - nI p / 6 * 6 = nI (p % 6) := pk_rem (d := 6) (by omega) (by decide) (by decide)
theorem lp_rj (hk : kR K ns A) (h1 : one < ns) (h2 : other < ns) {Po : mw_P} (hfound : Ds K (6 * one + other) p0 → Po (.inl (some (.int 1))) (gl H A X)) {p : Nat} (hp : p < 36) {x5 x6 : Option Value} {r9 : Int32} : ∀ (n j : Nat) (S : Int64) (x12 x13 : Option Value), j + n = 6 → goodS K ns (6 * one + other) p0 S → zb S p = true → doneS K (6 * one + other) S p j →
    (∀ S' x12 x13, extS K (6 * one + other) S S' → goodS K ns (6 * one + other) p0 S' → doneS K (6 * one + other) S' p 6 → mw_W mm_L_isReason 0 0 0 318 [some (.ref 43), some (.ref 54), some (.int (nI one)), some (.int (nI other)), some (.int (nI i0)), x5, x6, some (.long S'), none, some (.int r9), some (.int (nI p)), some (.int 6), x12, x13] [] (gl H A X) Po) →
    mw_W mm_L_isReason 0 0 0 166 [some (.ref 43), some (.ref 54), some (.int (nI one)), some (.int (nI other)), some (.int (nI i0)), x5, x6, some (.long S), none, some (.int r9), some (.int (nI p)), some (.int (nI j)), x12, x13] [] (gl H A X) Po := by
  have h4 := hk.1
  intro n
  induction n with
  | zero =>
    intro j S x12 x13 hj hg hz hd k
    have hj : j = 6 := by omega
    subst hj
    refine mw_iload (i := 11) dL_isReason_166 rfl ?_
    refine mw_bipush (v := 6) dL_isReason_168 (by decide) ?_
    refine mw_icmp_ge (tgt := 318) dL_isReason_170 (by decide) (fun _ => ?_) (fun c9 => absurd c9 (by first | decide | exact (fun q => q rfl)))
    exact k S _ _ extS.rf hg hd
  | succ n ih =>
    intro j S x12 x13 hj hg hz hd k
    have hj6 : j < 6 := by omega
    have ht := tg_in hj6
    obtain ⟨hpq, hpa, hpb, hpD⟩ := hg p (by omega) hz
    obtain ⟨κ, o, a1, a2, a3, a4, a5⟩ := kap hk hpa hj6
    obtain ⟨κ', o', b1, b2, b3, b4, b5⟩ := kap hk hpb hj6
    have hdif := dif_k a1 b1 a4 b4
    have hled := led_k a1 b1 a4 b4
    have hto : κ = 5 → κ' = 5 → to2 K (p / 6) (p % 6) (tg j) = 6 * o + o' := fun z z' => by unfold to2; rw [(a5 z).2, (b5 z').2]
    refine mw_iload (i := 11) dL_isReason_166 rfl ?_
    refine mw_bipush (v := 6) dL_isReason_168 (by decide) ?_
    refine mw_icmp_ge (tgt := 318) dL_isReason_170 (by decide) (fun c9 => absurd c9 (by first | decide | exact (fun q => q rfl) | ((try simp only [fa_lit]); first | exact cq_le (by omega) (by omega) | exact cq_nle (by omega) (by omega) | exact cq_lt (by omega) (by omega) | exact cq_nlt (by omega) (by omega) | exact cq_eq (by omega) (by omega) (by omega) | exact cq_neq (by omega)))) (fun _ => ?_)
    refine mw_aload_n (i := 0) dL_isReason_173 rfl rfl ?_
    refine mw_bipush (v := 6) dL_isReason_174 (by decide) ?_
    refine mw_iload (i := 10) dL_isReason_176 rfl ?_
    refine mw_bipush (v := 6) dL_isReason_178 (by decide) ?_
    refine mw_idiv dL_isReason_180 (by decide) ?_
    rw [mx_d6 (by omega)]
    refine mw_imul dL_isReason_181 ?_
    refine mw_iload (i := 11) dL_isReason_182 rfl ?_
    refine mw_iadd dL_isReason_184 ?_
    rw [mx_6]
    refine mw_iald dL_isReason_185 gl_0 (mw_ix rfl (by omega) (by decide)) ?_
    rw [a3]
    refine mw_bipush (v := 8) dL_isReason_186 (by decide) ?_
    refine mw_irem dL_isReason_188 (by decide) ?_
    rw [mx_r8' a1 a2]
    refine mw_iconst (v := 1) dL_isReason_189 (by decide) ?_
    refine mw_isub dL_isReason_190 ?_
    refine mw_istore_12 dL_isReason_191 (by decide) ?_
    refine mw_aload_n (i := 0) dL_isReason_193 rfl rfl ?_
    refine mw_bipush (v := 6) dL_isReason_194 (by decide) ?_
    refine mw_iload (i := 10) dL_isReason_196 rfl ?_
    refine mw_bipush (v := 6) dL_isReason_198 (by decide) ?_
    refine mw_irem dL_isReason_200 (by decide) ?_
    rw [mx_r6 (by omega)]
    refine mw_imul dL_isReason_201 ?_
    refine mw_iload (i := 11) dL_isReason_202 rfl ?_
    refine mw_iadd dL_isReason_204 ?_
    rw [mx_6]
    refine mw_iald dL_isReason_205 gl_0 (mw_ix rfl (by omega) (by decide)) ?_
    rw [b3]
    refine mw_bipush (v := 8) dL_isReason_206 (by decide) ?_
    refine mw_irem dL_isReason_208 (by decide) ?_
    rw [mx_r8' b1 b2]
    refine mw_iconst (v := 1) dL_isReason_209 (by decide) ?_
    refine mw_isub dL_isReason_210 ?_
    refine mw_istore_13 dL_isReason_211 (by decide) ?_
    have hnext : dif K (p / 6) (p % 6) (tg j) = false → mw_W mm_L_isReason 0 0 0 244 [some (.ref 43), some (.ref 54), some (.int (nI one)), some (.int (nI other)), some (.int (nI i0)), x5, x6, some (.long S), none, some (.int r9), some (.int (nI p)), some (.int (nI j)), some (.int (nI κ - 1)), some (.int (nI κ' - 1))] [] (gl H A X) Po := by
      intro hnd
      by_cases c5 : κ = 5
      · by_cases c5' : κ' = 5
        · obtain ⟨o1, -⟩ := a5 c5
          obtain ⟨o1', -⟩ := b5 c5'
          have hto := hto c5 c5'
          refine mw_iload (i := 12) dL_isReason_244 rfl ?_
          refine mw_iconst (v := 4) dL_isReason_246 (by decide) ?_
          refine mw_icmp_ne (tgt := 312) dL_isReason_247 (by decide) (fun c9 => absurd c9 (fun z => z ((km_4 a1).mpr c5))) (fun _ => ?_)
          refine mw_iload (i := 13) dL_isReason_250 rfl ?_
          refine mw_iconst (v := 4) dL_isReason_252 (by decide) ?_
          refine mw_icmp_ne (tgt := 312) dL_isReason_253 (by decide) (fun c9 => absurd c9 (fun z => z ((km_4 b1).mpr c5'))) (fun _ => ?_)
          refine mw_lload (i := 7) dL_isReason_256 rfl rfl ?_
          refine mw_lconst (v := 1) dL_isReason_258 (by decide) ?_
          refine mw_bipush (v := 6) dL_isReason_259 (by decide) ?_
          refine mw_aload_n (i := 0) dL_isReason_261 rfl rfl ?_
          refine mw_bipush (v := 6) dL_isReason_262 (by decide) ?_
          refine mw_iload (i := 10) dL_isReason_264 rfl ?_
          refine mw_bipush (v := 6) dL_isReason_266 (by decide) ?_
          refine mw_idiv dL_isReason_268 (by decide) ?_
          rw [mx_d6 (by omega)]
          refine mw_imul dL_isReason_269 ?_
          refine mw_iload (i := 11) dL_isReason_270 rfl ?_
          refine mw_iadd dL_isReason_272 ?_
          rw [mx_6]
          refine mw_iald dL_isReason_273 gl_0 (mw_ix rfl (by omega) (by decide)) ?_
          refine mw_bipush (v := 8) dL_isReason_274 (by decide) ?_
          rw [a3]
          refine mw_idiv dL_isReason_276 (by decide) ?_
          rw [mx_d8' a1 a2]
          refine mw_imul dL_isReason_277 ?_
          refine mw_aload_n (i := 0) dL_isReason_278 rfl rfl ?_
          refine mw_bipush (v := 6) dL_isReason_279 (by decide) ?_
          refine mw_iload (i := 10) dL_isReason_281 rfl ?_
          refine mw_bipush (v := 6) dL_isReason_283 (by decide) ?_
          refine mw_irem dL_isReason_285 (by decide) ?_
          rw [mx_r6 (by omega)]
          refine mw_imul dL_isReason_286 ?_
          refine mw_iload (i := 11) dL_isReason_287 rfl ?_
          refine mw_iadd dL_isReason_289 ?_
          rw [mx_6]
          refine mw_iald dL_isReason_290 gl_0 (mw_ix rfl (by omega) (by decide)) ?_
          refine mw_bipush (v := 8) dL_isReason_291 (by decide) ?_
          rw [b3]
          refine mw_idiv dL_isReason_293 (by decide) ?_
          rw [mx_d8' b1 b2]
          refine mw_iadd dL_isReason_294 ?_
          rw [mx_6]
          refine mw_lshl dL_isReason_295 rfl ?_
          refine mw_lconst (v := 1) dL_isReason_296 (by decide) ?_
          refine mw_bipush (v := 6) dL_isReason_297 (by decide) ?_
          refine mw_iload_n (i := 2) dL_isReason_299 rfl rfl ?_
          refine mw_imul dL_isReason_300 ?_
          refine mw_iload_n (i := 3) dL_isReason_301 rfl rfl ?_
          refine mw_iadd dL_isReason_302 ?_
          rw [mx_6]
          refine mw_lshl dL_isReason_303 rfl ?_
          refine mw_ldc2 dL_isReason_304 kn_L_221 ?_
          refine mw_lxor dL_isReason_307 ?_
          refine mw_land dL_isReason_308 ?_
          refine mw_lor dL_isReason_309 ?_
          refine mw_lstore_7 dL_isReason_310 (by decide) ?_
          refine mw_iinc_11 dL_isReason_312 (by decide) rfl ?_
          refine mw_goto (tgt := 166) dL_isReason_315 (by decide) ?_
          rw [show nI j + Int32.ofInt 1 = nI (j + 1) from nI_1 _]
          have hn64 : 6 * o + o' < 64 := by omega
          have hq64 : 6 * one + other < 64 := by omega
          have hbit : ∀ p', p' < 64 → zb (S ||| mkp (6 * o + o') (6 * one + other)) p' = (zb S p' || (decide (p' = 6 * o + o') && !decide (p' = 6 * one + other))) := fun p' hp' => by rw [zb_or, zb_mkp hn64 hq64 hp']
          have hldt : led K (p / 6) (p % 6) (tg j) = true := by rw [hled]; exact decide_eq_true ⟨c5, c5'⟩
          have hext : extS K (6 * one + other) S (S ||| mkp (6 * o + o') (6 * one + other)) := by
            refine ⟨fun p' hp' z => by rw [hbit p' hp', z]; rfl, fun C hC hS p' hp' z => ?_⟩
            rw [hbit p' hp'] at z
            cases hz' : zb S p' with
            | true => exact hS p' hp' hz'
            | false =>
              rw [hz', Bool.false_or, Bool.and_eq_true] at z
              have e1 := of_decide_eq_true z.1
              have e2 : p' ≠ 6 * one + other := by
                have := z.2
                simpa using this
              rcases hC p (hS p (by omega) hz) (tg j) ht.1 ht.2 hldt with h | h
              · rw [hto, ← e1] at h; exact h
              · rw [hto, ← e1] at h; exact absurd h e2
          have hgood : goodS K ns (6 * one + other) p0 (S ||| mkp (6 * o + o') (6 * one + other)) := by
            intro p' hp' z
            rw [hbit p' hp'] at z
            cases hz' : zb S p' with
            | true => exact hg p' hp' hz'
            | false =>
              rw [hz', Bool.false_or, Bool.and_eq_true] at z
              have e1 := of_decide_eq_true z.1
              have e2 : p' ≠ 6 * one + other := by
                have := z.2
                simpa using this
              refine ⟨e2, by omega, by omega, fun hD => hpD ?_⟩
              have h9 := Ds_next (A := K) (q := 6 * one + other) (s := p / 6) (o := p % 6) (t := tg j) (by omega) ht.1 ht.2 (by omega) hldt (by rw [hto, ← e1]; exact hD)
              rw [Nat.div_add_mod] at h9
              exact h9
          have hz2 : zb (S ||| mkp (6 * o + o') (6 * one + other)) p = true := hext.1 p (by omega) hz
          refine ih (j + 1) (S ||| mkp (6 * o + o') (6 * one + other)) _ _ (by omega) hgood hz2 (fun i hi hi6 => ?_) (fun S' x12 x13 e1 e2 e3 => k S' x12 x13 (hext.tr e1) e2 e3)
          rcases Nat.lt_or_ge i j with z | z
          · exact (hd.mo hext) i z hi6
          · have z : i = j := by omega
            subst z
            refine ⟨hnd, fun _ => ⟨by omega, ?_⟩⟩
            rw [hto, hbit _ hn64]
            by_cases eq : 6 * o + o' = 6 * one + other
            · exact Or.inr eq
            · left; simp [eq]
        · refine mw_iload (i := 12) dL_isReason_244 rfl ?_
          refine mw_iconst (v := 4) dL_isReason_246 (by decide) ?_
          refine mw_icmp_ne (tgt := 312) dL_isReason_247 (by decide) (fun c9 => absurd c9 (fun z => z ((km_4 a1).mpr c5))) (fun _ => ?_)
          refine mw_iload (i := 13) dL_isReason_250 rfl ?_
          refine mw_iconst (v := 4) dL_isReason_252 (by decide) ?_
          refine mw_icmp_ne (tgt := 312) dL_isReason_253 (by decide) (fun _ => ?_) (fun c9 => absurd c9 (fun z => c5' ((km_4 b1).mp z)))
          refine mw_iinc_11 dL_isReason_312 (by decide) rfl ?_
          refine mw_goto (tgt := 166) dL_isReason_315 (by decide) ?_
          rw [show nI j + Int32.ofInt 1 = nI (j + 1) from nI_1 _]
          refine ih (j + 1) S _ _ (by omega) hg hz (fun i hi hi6 => ?_) k
          rcases Nat.lt_or_ge i j with z | z
          · exact hd i z hi6
          · have z : i = j := by omega
            subst z
            exact ⟨hnd, fun z => absurd (of_decide_eq_true (hled ▸ z)).2 c5'⟩
      · refine mw_iload (i := 12) dL_isReason_244 rfl ?_
        refine mw_iconst (v := 4) dL_isReason_246 (by decide) ?_
        refine mw_icmp_ne (tgt := 312) dL_isReason_247 (by decide) (fun _ => ?_) (fun c9 => absurd c9 (fun z => c5 ((km_4 a1).mp z)))
        refine mw_iinc_11 dL_isReason_312 (by decide) rfl ?_
        refine mw_goto (tgt := 166) dL_isReason_315 (by decide) ?_
        rw [show nI j + Int32.ofInt 1 = nI (j + 1) from nI_1 _]
        refine ih (j + 1) S _ _ (by omega) hg hz (fun i hi hi6 => ?_) k
        rcases Nat.lt_or_ge i j with z | z
        · exact hd i z hi6
        · have z : i = j := by omega
          subst z
          exact ⟨hnd, fun z => absurd (of_decide_eq_true (hled ▸ z)).1 c5⟩
    by_cases c0 : κ = 0
    · refine mw_iload (i := 12) dL_isReason_213 rfl ?_
      refine mw_if_lt (tgt := 244) dL_isReason_215 (by decide) (fun _ => ?_) (fun c9 => absurd c9 (fun z => z ((km_0 a1).mpr c0)))
      exact hnext (by rw [hdif]; exact decide_eq_false (fun z => z.1 c0))
    · by_cases c0' : κ' = 0
      · refine mw_iload (i := 12) dL_isReason_213 rfl ?_
        refine mw_if_lt (tgt := 244) dL_isReason_215 (by decide) (fun c9 => absurd c9 (fun z => c0 ((km_0 a1).mp z))) (fun _ => ?_)
        refine mw_iload (i := 13) dL_isReason_218 rfl ?_
        refine mw_if_lt (tgt := 244) dL_isReason_220 (by decide) (fun _ => ?_) (fun c9 => absurd c9 (fun z => z ((km_0 b1).mpr c0')))
        exact hnext (by rw [hdif]; exact decide_eq_false (fun z => z.2.1 c0'))
      · have hdiff : κ ≠ κ' → (κ < 4 ∨ κ' < 4) → mw_W mm_L_isReason 0 0 0 242 [some (.ref 43), some (.ref 54), some (.int (nI one)), some (.int (nI other)), some (.int (nI i0)), x5, x6, some (.long S), none, some (.int r9), some (.int (nI p)), some (.int (nI j)), some (.int (nI κ - 1)), some (.int (nI κ' - 1))] [] (gl H A X) Po := by
          intro hne hlt
          refine mw_iconst (v := 1) dL_isReason_242 (by decide) ?_
          refine mw_ireturn dL_isReason_243 ⟨_, rfl, rfl⟩ (hfound (hpD ?_))
          have h9 := Ds_here (A := K) (q := 6 * one + other) (s := p / 6) (o := p % 6) (t := tg j) (by omega) ht.1 ht.2 (by omega) (by rw [hdif]; exact decide_eq_true ⟨c0, c0', hne, hlt⟩)
          rw [Nat.div_add_mod] at h9
          exact h9
        by_cases c3 : κ < 4
        · by_cases ce : κ = κ'
          · refine mw_iload (i := 12) dL_isReason_213 rfl ?_
            refine mw_if_lt (tgt := 244) dL_isReason_215 (by decide) (fun c9 => absurd c9 (fun z => c0 ((km_0 a1).mp z))) (fun _ => ?_)
            refine mw_iload (i := 13) dL_isReason_218 rfl ?_
            refine mw_if_lt (tgt := 244) dL_isReason_220 (by decide) (fun c9 => absurd c9 (fun z => c0' ((km_0 b1).mp z))) (fun _ => ?_)
            refine mw_iload (i := 12) dL_isReason_223 rfl ?_
            refine mw_iconst (v := 3) dL_isReason_225 (by decide) ?_
            refine mw_icmp_lt (tgt := 235) dL_isReason_226 (by decide) (fun _ => ?_) (fun c9 => absurd c9 (fun z => z ((km_3 a1).mpr c3)))
            refine mw_iload (i := 12) dL_isReason_235 rfl ?_
            refine mw_iload (i := 13) dL_isReason_237 rfl ?_
            refine mw_icmp_eq (tgt := 244) dL_isReason_239 (by decide) (fun _ => ?_) (fun c9 => absurd c9 (fun z => z ((km_e a1 b1).mpr ce)))
            exact hnext (by rw [hdif]; exact decide_eq_false (fun z => z.2.2.1 ce))
          · refine mw_iload (i := 12) dL_isReason_213 rfl ?_
            refine mw_if_lt (tgt := 244) dL_isReason_215 (by decide) (fun c9 => absurd c9 (fun z => c0 ((km_0 a1).mp z))) (fun _ => ?_)
            refine mw_iload (i := 13) dL_isReason_218 rfl ?_
            refine mw_if_lt (tgt := 244) dL_isReason_220 (by decide) (fun c9 => absurd c9 (fun z => c0' ((km_0 b1).mp z))) (fun _ => ?_)
            refine mw_iload (i := 12) dL_isReason_223 rfl ?_
            refine mw_iconst (v := 3) dL_isReason_225 (by decide) ?_
            refine mw_icmp_lt (tgt := 235) dL_isReason_226 (by decide) (fun _ => ?_) (fun c9 => absurd c9 (fun z => z ((km_3 a1).mpr c3)))
            refine mw_iload (i := 12) dL_isReason_235 rfl ?_
            refine mw_iload (i := 13) dL_isReason_237 rfl ?_
            refine mw_icmp_eq (tgt := 244) dL_isReason_239 (by decide) (fun c9 => absurd c9 (fun z => ce ((km_e a1 b1).mp z))) (fun _ => ?_)
            exact hdiff ce (Or.inl c3)
        · by_cases c3' : κ' < 4
          · refine mw_iload (i := 12) dL_isReason_213 rfl ?_
            refine mw_if_lt (tgt := 244) dL_isReason_215 (by decide) (fun c9 => absurd c9 (fun z => c0 ((km_0 a1).mp z))) (fun _ => ?_)
            refine mw_iload (i := 13) dL_isReason_218 rfl ?_
            refine mw_if_lt (tgt := 244) dL_isReason_220 (by decide) (fun c9 => absurd c9 (fun z => c0' ((km_0 b1).mp z))) (fun _ => ?_)
            refine mw_iload (i := 12) dL_isReason_223 rfl ?_
            refine mw_iconst (v := 3) dL_isReason_225 (by decide) ?_
            refine mw_icmp_lt (tgt := 235) dL_isReason_226 (by decide) (fun c9 => absurd c9 (fun z => c3 ((km_3 a1).mp z))) (fun _ => ?_)
            refine mw_iload (i := 13) dL_isReason_229 rfl ?_
            refine mw_iconst (v := 3) dL_isReason_231 (by decide) ?_
            refine mw_icmp_ge (tgt := 244) dL_isReason_232 (by decide) (fun c9 => absurd c9 (fun z => ((km_g3 b1).mp z) c3')) (fun _ => ?_)
            refine mw_iload (i := 12) dL_isReason_235 rfl ?_
            refine mw_iload (i := 13) dL_isReason_237 rfl ?_
            refine mw_icmp_eq (tgt := 244) dL_isReason_239 (by decide) (fun c9 => absurd c9 (fun z => by have := (km_e a1 b1).mp z; omega)) (fun _ => ?_)
            exact hdiff (by omega) (Or.inr c3')
          · refine mw_iload (i := 12) dL_isReason_213 rfl ?_
            refine mw_if_lt (tgt := 244) dL_isReason_215 (by decide) (fun c9 => absurd c9 (fun z => c0 ((km_0 a1).mp z))) (fun _ => ?_)
            refine mw_iload (i := 13) dL_isReason_218 rfl ?_
            refine mw_if_lt (tgt := 244) dL_isReason_220 (by decide) (fun c9 => absurd c9 (fun z => c0' ((km_0 b1).mp z))) (fun _ => ?_)
            refine mw_iload (i := 12) dL_isReason_223 rfl ?_
            refine mw_iconst (v := 3) dL_isReason_225 (by decide) ?_
            refine mw_icmp_lt (tgt := 235) dL_isReason_226 (by decide) (fun c9 => absurd c9 (fun z => c3 ((km_3 a1).mp z))) (fun _ => ?_)
            refine mw_iload (i := 13) dL_isReason_229 rfl ?_
            refine mw_iconst (v := 3) dL_isReason_231 (by decide) ?_
            refine mw_icmp_ge (tgt := 244) dL_isReason_232 (by decide) (fun _ => ?_) (fun c9 => absurd c9 (fun z => z ((km_g3 b1).mpr c3')))
            exact hnext (by rw [hdif]; exact decide_eq_false (fun z => z.2.2.2.elim c3 c3'))
theorem lp_rp (hk : kR K ns A) (h1 : one < ns) (h2 : other < ns) {Po : mw_P} (hfound : Ds K (6 * one + other) p0 → Po (.inl (some (.int 1))) (gl H A X)) {x5 x6 : Option Value} {r9 : Int32} {S0 : Int64} : ∀ (n p : Nat) (S : Int64) (x11 x12 x13 : Option Value), p + n = 36 → goodS K ns (6 * one + other) p0 S → extS K (6 * one + other) S0 S → (∀ p', p' < p → zb S0 p' = true → doneS K (6 * one + other) S p' 6) →
    (∀ S' x11 x12 x13, extS K (6 * one + other) S0 S' → goodS K ns (6 * one + other) p0 S' → (∀ p', p' < 36 → zb S0 p' = true → doneS K (6 * one + other) S' p' 6) → mw_W mm_L_isReason 0 0 0 324 [some (.ref 43), some (.ref 54), some (.int (nI one)), some (.int (nI other)), some (.int (nI i0)), x5, x6, some (.long S'), none, some (.int r9), some (.int 36), x11, x12, x13] [] (gl H A X) Po) →
    mw_W mm_L_isReason 0 0 0 141 [some (.ref 43), some (.ref 54), some (.int (nI one)), some (.int (nI other)), some (.int (nI i0)), x5, x6, some (.long S), none, some (.int r9), some (.int (nI p)), x11, x12, x13] [] (gl H A X) Po := by
  intro n
  induction n with
  | zero =>
    intro p S x11 x12 x13 hp hg hx hd k
    have hp : p = 36 := by omega
    subst hp
    refine mw_iload (i := 10) dL_isReason_141 rfl ?_
    refine mw_bipush (v := 36) dL_isReason_143 (by decide) ?_
    refine mw_icmp_ge (tgt := 324) dL_isReason_145 (by decide) (fun _ => ?_) (fun c9 => absurd c9 (by first | decide | exact (fun q => q rfl)))
    exact k S _ _ _ hx hg hd
  | succ n ih =>
    intro p S x11 x12 x13 hp hg hx hd k
    refine mw_iload (i := 10) dL_isReason_141 rfl ?_
    refine mw_bipush (v := 36) dL_isReason_143 (by decide) ?_
    refine mw_icmp_ge (tgt := 324) dL_isReason_145 (by decide) (fun c9 => absurd c9 (by first | decide | exact (fun q => q rfl) | ((try simp only [fa_lit]); first | exact cq_le (by omega) (by omega) | exact cq_nle (by omega) (by omega) | exact cq_lt (by omega) (by omega) | exact cq_nlt (by omega) (by omega) | exact cq_eq (by omega) (by omega) (by omega) | exact cq_neq (by omega)))) (fun _ => ?_)
    refine mw_lload (i := 7) dL_isReason_148 rfl rfl ?_
    refine mw_iload (i := 10) dL_isReason_150 rfl ?_
    refine mw_lshr dL_isReason_152 rfl ?_
    refine mw_lconst (v := 1) dL_isReason_153 (by decide) ?_
    refine mw_land dL_isReason_154 ?_
    rw [zb_at S (by omega)]
    cases hz : zb S p with
    | true =>
      rw [if_pos rfl]
      refine mw_lconst (v := 0) dL_isReason_155 (by decide) ?_
      refine mw_lcmp dL_isReason_156 ?_
      refine mw_if_ne (tgt := 163) dL_isReason_157 (by decide) (fun _ => ?_) (fun c9 => absurd c9 (by first | decide | exact (fun q => q rfl)))
      refine mw_iconst (v := 0) dL_isReason_163 (by decide) ?_
      refine mw_istore_11 dL_isReason_164 (by decide) ?_
      refine lp_rj hk h1 h2 hfound (p := p) (by omega) 6 0 S _ _ rfl hg hz (fun i hi => absurd hi (Nat.not_lt_zero _)) (fun S' x12 x13 e1 e2 e3 => ?_)
      refine mw_iinc_10 dL_isReason_318 (by decide) rfl ?_
      refine mw_goto (tgt := 141) dL_isReason_321 (by decide) ?_
      rw [show nI p + Int32.ofInt 1 = nI (p + 1) from nI_1 _]
      refine ih (p + 1) S' _ _ _ (by omega) e2 (hx.tr e1) (fun p' hp' z => ?_) k
      rcases Nat.lt_or_ge p' p with y | y
      · exact (hd p' y z).mo e1
      · rw [show p' = p by omega]; exact e3
    | false =>
      rw [if_neg (by decide)]
      refine mw_lconst (v := 0) dL_isReason_155 (by decide) ?_
      refine mw_lcmp dL_isReason_156 ?_
      refine mw_if_ne (tgt := 163) dL_isReason_157 (by decide) (fun c9 => absurd c9 (by first | decide | exact (fun q => q rfl))) (fun _ => ?_)
      refine mw_goto (tgt := 318) dL_isReason_160 (by decide) ?_
      refine mw_iinc_10 dL_isReason_318 (by decide) rfl ?_
      refine mw_goto (tgt := 141) dL_isReason_321 (by decide) ?_
      rw [show nI p + Int32.ofInt 1 = nI (p + 1) from nI_1 _]
      refine ih (p + 1) S _ _ _ (by omega) hg hx (fun p' hp' z => ?_) k
      rcases Nat.lt_or_ge p' p with y | y
      · exact hd p' y z
      · rw [show p' = p by omega] at z
        rw [hx.1 p (by omega) z] at hz
        cases hz
theorem zb_big (S : Int64) {p : Nat} (h : 64 ≤ p) : zb S p = false := BitVec.getLsbD_of_ge _ _ h
theorem lp_rr (hk : kR K ns A) (h1 : one < ns) (h2 : other < ns) {Po : mw_P} (hfound : Ds K (6 * one + other) p0 → Po (.inl (some (.int 1))) (gl H A X)) (hnot : ¬ Ds K (6 * one + other) p0 → Po (.inl (some (.int 0))) (gl H A X)) {x5 x6 : Option Value} : ∀ (n r : Nat) (S : Int64) (x10 x11 x12 x13 : Option Value), r + n = 36 → goodS K ns (6 * one + other) p0 S → p0 < 64 → (zb S p0 = true ∨ p0 = 6 * one + other) → (r ≤ fa_cnt (zb S) 36 ∨ ∀ p, p < 64 → zb S p = true → doneS K (6 * one + other) S p 6) →
    mw_W mm_L_isReason 0 0 0 131 [some (.ref 43), some (.ref 54), some (.int (nI one)), some (.int (nI other)), some (.int (nI i0)), x5, x6, some (.long S), none, some (.int (nI r)), x10, x11, x12, x13] [] (gl H A X) Po := by
  have h4 := hk.1
  -- a tag of a pair
  have htag : ∀ (S : Int64) (p : Nat), p < 64 → goodS K ns (6 * one + other) p0 S → zb S p = true → doneS K (6 * one + other) S p 6 → ∀ t, 1 ≤ t → t ≤ 31 → dif K (p / 6) (p % 6) t = false ∧ (led K (p / 6) (p % 6) t = true → to2 K (p / 6) (p % 6) t < 64 ∧ (zb S (to2 K (p / 6) (p % 6) t) = true ∨ to2 K (p / 6) (p % 6) t = 6 * one + other)) := by
    intro S p hp hg hz hd t ht1 ht2
    obtain ⟨-, hpa, -, -⟩ := hg p hp hz
    rcases tg_all hk hpa ht1 ht2 with ⟨i, hi, rfl⟩ | e
    · exact hd i hi hi
    · obtain ⟨e1, e2⟩ := dif_none (o := p % 6) e
      exact ⟨e1, fun z => by rw [e2] at z; cases z⟩
  intro n
  induction n with
  | zero =>
    intro r S x10 x11 x12 x13 hr hg hp0 hin hc
    have hr : r = 36 := by omega
    subst hr
    refine mw_iload (i := 9) dL_isReason_131 rfl ?_
    refine mw_bipush (v := 36) dL_isReason_133 (by decide) ?_
    refine mw_icmp_ge (tgt := 330) dL_isReason_135 (by decide) (fun _ => ?_) (fun c9 => absurd c9 (by first | decide | exact (fun q => q rfl)))
    refine mw_iconst (v := 0) dL_isReason_330 (by decide) ?_
    refine mw_ireturn dL_isReason_331 ⟨_, rfl, rfl⟩ (hnot ?_)
    have hcl : ∀ p, p < 64 → zb S p = true → doneS K (6 * one + other) S p 6 := by
      rcases hc with hc | hc
      · have := cnt_24 (p := zb S) (fun k hk24 => by
          cases hz : zb S k with
          | false => rfl
          | true =>
            have hk64 : k < 64 := by
              rcases Nat.lt_or_ge k 64 with z | z
              · exact z
              · rw [zb_big S z] at hz; cases hz
            have := (hg k hk64 hz).2.1
            omega) 12
        have this : fa_cnt (zb S) 36 ≤ 24 := this
        omega
      · exact hc
    rintro ⟨n, hn⟩
    refine Ds_not (A := K) (q := 6 * one + other) (C := fun j => (j < 64 ∧ zb S j = true) ∨ j = 6 * one + other) (fun j hj hjq t ht1 ht2 => ?_) n p0 (hin.elim (fun z => Or.inl ⟨hp0, z⟩) Or.inr) hn
    obtain ⟨hj1, hj2⟩ := hj.resolve_right hjq
    obtain ⟨e1, e2⟩ := htag S j hj1 hg hj2 (hcl j hj1 hj2) t ht1 ht2
    exact ⟨e1, fun z => (e2 z).2.elim (fun y => Or.inl ⟨(e2 z).1, y⟩) Or.inr⟩
  | succ n ih =>
    intro r S x10 x11 x12 x13 hr hg hp0 hin hc
    refine mw_iload (i := 9) dL_isReason_131 rfl ?_
    refine mw_bipush (v := 36) dL_isReason_133 (by decide) ?_
    refine mw_icmp_ge (tgt := 330) dL_isReason_135 (by decide) (fun c9 => absurd c9 (by first | decide | exact (fun q => q rfl) | ((try simp only [fa_lit]); first | exact cq_le (by omega) (by omega) | exact cq_nle (by omega) (by omega) | exact cq_lt (by omega) (by omega) | exact cq_nlt (by omega) (by omega) | exact cq_eq (by omega) (by omega) (by omega) | exact cq_neq (by omega)))) (fun _ => ?_)
    refine mw_iconst (v := 0) dL_isReason_138 (by decide) ?_
    refine mw_istore_10 dL_isReason_139 (by decide) ?_
    refine lp_rp hk h1 h2 hfound (S0 := S) 36 0 S _ _ _ rfl hg extS.rf (fun p' hp' => absurd hp' (Nat.not_lt_zero _)) (fun S' x11 x12 x13 e1 e2 e3 => ?_)
    refine mw_iinc_9 dL_isReason_324 (by decide) rfl ?_
    refine mw_goto (tgt := 131) dL_isReason_327 (by decide) ?_
    rw [show nI r + Int32.ofInt 1 = nI (r + 1) from nI_1 _]
    refine ih (r + 1) S' _ _ _ _ (by omega) e2 hp0 (hin.elim (fun z => Or.inl (e1.1 p0 hp0 z)) Or.inr) ?_
    by_cases hsub : ∀ p, p < 64 → zb S' p = true → zb S p = true
    · right
      intro p hp hz
      have := (e2 p hp hz).2.1
      exact e3 p (by omega) (hsub p hp hz)
    · left
      rcases hc with hc | hc
      · have : fa_cnt (zb S) 36 < fa_cnt (zb S') 36 := cnt_more 36 (fun k hk => e1.1 k (by omega)) (by
          refine Classical.byContradiction fun hno => hsub (fun p hp hz => ?_)
          have hp24 := (e2 p hp hz).2.1
          cases hz' : zb S p with
          | true => rfl
          | false => exact absurd ⟨p, by omega, hz', hz⟩ hno)
        omega
      · refine absurd (fun p hp hz => ?_) hsub
        exact (e1.2 (fun j => j < 64 ∧ zb S j = true) (fun j hj t ht1 ht2 hl => by
          obtain ⟨-, e5⟩ := htag S j hj.1 hg hj.2 (hc j hj.1 hj.2) t ht1 ht2
          exact (e5 hl).2.elim (fun y => Or.inl ⟨(e5 hl).1, y⟩) Or.inr) (fun j hj hz => ⟨hj, hz⟩) p hp hz).2
theorem c_isReason (hk : kR K ns A) (h1 : one < ns) (h2 : other < ns) (hi : i0 < 6) : mw_Con mm_L_isReason 0 0 0 [.ref 43, .ref 54, .int (nI one), .int (nI other), .int (nI i0)] (gl H A X) (rsP H A X (rsnD K one other (tg i0))) := by
  have h4 := hk.1
  have ht := tg_in hi
  obtain ⟨κ, o, a1, a2, a3, a4, a5⟩ := kap hk h1 hi
  obtain ⟨κ', o', b1, b2, b3, b4, b5⟩ := kap hk h2 hi
  have hdif := dif_k a1 b1 a4 b4
  have hled := led_k a1 b1 a4 b4
  have hto : κ = 5 → κ' = 5 → to2 K one other (tg i0) = 6 * o + o' := fun z z' => by unfold to2; rw [(a5 z).2, (b5 z').2]
  refine gm_con pl_L rfl rfl (Nat.le_of_ble_eq_true rfl) rfl ?_
  refine mw_aload_n (i := 0) dL_isReason_0 rfl rfl ?_
  refine mw_bipush (v := 6) dL_isReason_1 (by decide) ?_
  refine mw_iload_n (i := 2) dL_isReason_3 rfl rfl ?_
  refine mw_imul dL_isReason_4 ?_
  refine mw_iload (i := 4) dL_isReason_5 rfl ?_
  refine mw_iadd dL_isReason_7 ?_
  rw [mx_6]
  refine mw_iald dL_isReason_8 gl_0 (mw_ix rfl (by omega) (by decide)) ?_
  rw [a3]
  refine mw_bipush (v := 8) dL_isReason_9 (by decide) ?_
  refine mw_irem dL_isReason_11 (by decide) ?_
  rw [mx_r8' a1 a2]
  refine mw_iconst (v := 1) dL_isReason_12 (by decide) ?_
  refine mw_isub dL_isReason_13 ?_
  refine mw_istore_5 dL_isReason_14 (by decide) ?_
  refine mw_aload_n (i := 0) dL_isReason_16 rfl rfl ?_
  refine mw_bipush (v := 6) dL_isReason_17 (by decide) ?_
  refine mw_iload_n (i := 3) dL_isReason_19 rfl rfl ?_
  refine mw_imul dL_isReason_20 ?_
  refine mw_iload (i := 4) dL_isReason_21 rfl ?_
  refine mw_iadd dL_isReason_23 ?_
  rw [mx_6]
  refine mw_iald dL_isReason_24 gl_0 (mw_ix rfl (by omega) (by decide)) ?_
  rw [b3]
  refine mw_bipush (v := 8) dL_isReason_25 (by decide) ?_
  refine mw_irem dL_isReason_27 (by decide) ?_
  rw [mx_r8' b1 b2]
  have hno : dif K one other (tg i0) = false → led K one other (tg i0) = false → ¬ rsnD K one other (tg i0) := by
    rintro z1 z2 (z | ⟨z, -⟩)
    · rw [z1] at z; cases z
    · rw [z2] at z; cases z
  by_cases c0 : κ = 0
  · refine mw_iconst (v := 1) dL_isReason_28 (by decide) ?_
    refine mw_isub dL_isReason_29 ?_
    refine mw_istore_6 dL_isReason_30 (by decide) ?_
    refine mw_iload (i := 5) dL_isReason_32 rfl ?_
    refine mw_if_lt (tgt := 42) dL_isReason_34 (by decide) (fun _ => ?_) (fun c9 => absurd c9 (fun z => z ((km_0 a1).mpr c0)))
    refine mw_iconst (v := 0) dL_isReason_42 (by decide) ?_
    exact mw_ireturn dL_isReason_43 ⟨_, rfl, rfl⟩ ⟨rfl, Or.inr ⟨rfl, hno (by rw [hdif]; exact decide_eq_false (fun z => z.1 c0)) (by rw [hled]; exact decide_eq_false (fun z => by omega))⟩⟩
  by_cases c0' : κ' = 0
  · refine mw_iconst (v := 1) dL_isReason_28 (by decide) ?_
    refine mw_isub dL_isReason_29 ?_
    refine mw_istore_6 dL_isReason_30 (by decide) ?_
    refine mw_iload (i := 5) dL_isReason_32 rfl ?_
    refine mw_if_lt (tgt := 42) dL_isReason_34 (by decide) (fun c9 => absurd c9 (fun z => c0 ((km_0 a1).mp z))) (fun _ => ?_)
    refine mw_iload (i := 6) dL_isReason_37 rfl ?_
    refine mw_if_ge (tgt := 44) dL_isReason_39 (by decide) (fun c9 => absurd c9 (fun z => ((km_g0 b1).mp z) c0')) (fun _ => ?_)
    refine mw_iconst (v := 0) dL_isReason_42 (by decide) ?_
    exact mw_ireturn dL_isReason_43 ⟨_, rfl, rfl⟩ ⟨rfl, Or.inr ⟨rfl, hno (by rw [hdif]; exact decide_eq_false (fun z => z.2.1 c0')) (by rw [hled]; exact decide_eq_false (fun z => by omega))⟩⟩
  by_cases c3 : κ < 4
  · by_cases ce : κ = κ'
    · refine mw_iconst (v := 1) dL_isReason_28 (by decide) ?_
      refine mw_isub dL_isReason_29 ?_
      refine mw_istore_6 dL_isReason_30 (by decide) ?_
      refine mw_iload (i := 5) dL_isReason_32 rfl ?_
      refine mw_if_lt (tgt := 42) dL_isReason_34 (by decide) (fun c9 => absurd c9 (fun z => c0 ((km_0 a1).mp z))) (fun _ => ?_)
      refine mw_iload (i := 6) dL_isReason_37 rfl ?_
      refine mw_if_ge (tgt := 44) dL_isReason_39 (by decide) (fun _ => ?_) (fun c9 => absurd c9 (fun z => z ((km_g0 b1).mpr c0')))
      refine mw_iload (i := 5) dL_isReason_44 rfl ?_
      refine mw_iconst (v := 3) dL_isReason_46 (by decide) ?_
      refine mw_icmp_lt (tgt := 56) dL_isReason_47 (by decide) (fun _ => ?_) (fun c9 => absurd c9 (fun z => z ((km_3 a1).mpr c3)))
      refine mw_iload (i := 5) dL_isReason_56 rfl ?_
      refine mw_iload (i := 6) dL_isReason_58 rfl ?_
      refine mw_icmp_eq (tgt := 67) dL_isReason_60 (by decide) (fun _ => ?_) (fun c9 => absurd c9 (fun z => z ((km_e a1 b1).mpr ce)))
      refine mw_iconst (v := 0) dL_isReason_67 (by decide) ?_
      exact mw_ireturn dL_isReason_68 ⟨_, rfl, rfl⟩ ⟨rfl, Or.inr ⟨rfl, hno (by rw [hdif]; exact decide_eq_false (fun z => z.2.2.1 ce)) (by rw [hled]; exact decide_eq_false (fun z => by omega))⟩⟩
    · refine mw_iconst (v := 1) dL_isReason_28 (by decide) ?_
      refine mw_isub dL_isReason_29 ?_
      refine mw_istore_6 dL_isReason_30 (by decide) ?_
      refine mw_iload (i := 5) dL_isReason_32 rfl ?_
      refine mw_if_lt (tgt := 42) dL_isReason_34 (by decide) (fun c9 => absurd c9 (fun z => c0 ((km_0 a1).mp z))) (fun _ => ?_)
      refine mw_iload (i := 6) dL_isReason_37 rfl ?_
      refine mw_if_ge (tgt := 44) dL_isReason_39 (by decide) (fun _ => ?_) (fun c9 => absurd c9 (fun z => z ((km_g0 b1).mpr c0')))
      refine mw_iload (i := 5) dL_isReason_44 rfl ?_
      refine mw_iconst (v := 3) dL_isReason_46 (by decide) ?_
      refine mw_icmp_lt (tgt := 56) dL_isReason_47 (by decide) (fun _ => ?_) (fun c9 => absurd c9 (fun z => z ((km_3 a1).mpr c3)))
      refine mw_iload (i := 5) dL_isReason_56 rfl ?_
      refine mw_iload (i := 6) dL_isReason_58 rfl ?_
      refine mw_icmp_eq (tgt := 67) dL_isReason_60 (by decide) (fun c9 => absurd c9 (fun z => ce ((km_e a1 b1).mp z))) (fun _ => ?_)
      refine mw_iconst (v := 1) dL_isReason_63 (by decide) ?_
      refine mw_goto (tgt := 68) dL_isReason_64 (by decide) ?_
      exact mw_ireturn dL_isReason_68 ⟨_, rfl, rfl⟩ ⟨rfl, Or.inl ⟨rfl, Or.inl (by rw [hdif]; exact decide_eq_true ⟨c0, c0', ce, Or.inl c3⟩)⟩⟩
  by_cases c3' : κ' < 4
  · refine mw_iconst (v := 1) dL_isReason_28 (by decide) ?_
    refine mw_isub dL_isReason_29 ?_
    refine mw_istore_6 dL_isReason_30 (by decide) ?_
    refine mw_iload (i := 5) dL_isReason_32 rfl ?_
    refine mw_if_lt (tgt := 42) dL_isReason_34 (by decide) (fun c9 => absurd c9 (fun z => c0 ((km_0 a1).mp z))) (fun _ => ?_)
    refine mw_iload (i := 6) dL_isReason_37 rfl ?_
    refine mw_if_ge (tgt := 44) dL_isReason_39 (by decide) (fun _ => ?_) (fun c9 => absurd c9 (fun z => z ((km_g0 b1).mpr c0')))
    refine mw_iload (i := 5) dL_isReason_44 rfl ?_
    refine mw_iconst (v := 3) dL_isReason_46 (by decide) ?_
    refine mw_icmp_lt (tgt := 56) dL_isReason_47 (by decide) (fun c9 => absurd c9 (fun z => c3 ((km_3 a1).mp z))) (fun _ => ?_)
    refine mw_iload (i := 6) dL_isReason_50 rfl ?_
    refine mw_iconst (v := 3) dL_isReason_52 (by decide) ?_
    refine mw_icmp_ge (tgt := 69) dL_isReason_53 (by decide) (fun c9 => absurd c9 (fun z => ((km_g3 b1).mp z) c3')) (fun _ => ?_)
    refine mw_iload (i := 5) dL_isReason_56 rfl ?_
    refine mw_iload (i := 6) dL_isReason_58 rfl ?_
    refine mw_icmp_eq (tgt := 67) dL_isReason_60 (by decide) (fun c9 => absurd c9 (fun z => by have := (km_e a1 b1).mp z; omega)) (fun _ => ?_)
    refine mw_iconst (v := 1) dL_isReason_63 (by decide) ?_
    refine mw_goto (tgt := 68) dL_isReason_64 (by decide) ?_
    exact mw_ireturn dL_isReason_68 ⟨_, rfl, rfl⟩ ⟨rfl, Or.inl ⟨rfl, Or.inl (by rw [hdif]; exact decide_eq_true ⟨c0, c0', by omega, Or.inr c3'⟩)⟩⟩
  have hdn : dif K one other (tg i0) = false := by rw [hdif]; exact decide_eq_false (fun z => z.2.2.2.elim c3 c3')
  by_cases c5 : κ = 5
  · by_cases c5' : κ' = 5
    · obtain ⟨o1, -⟩ := a5 c5
      obtain ⟨o1', -⟩ := b5 c5'
      have hto := hto c5 c5'
      have hldt : led K one other (tg i0) = true := by rw [hled]; exact decide_eq_true ⟨c5, c5'⟩
      refine mw_iconst (v := 1) dL_isReason_28 (by decide) ?_
      refine mw_isub dL_isReason_29 ?_
      refine mw_istore_6 dL_isReason_30 (by decide) ?_
      refine mw_iload (i := 5) dL_isReason_32 rfl ?_
      refine mw_if_lt (tgt := 42) dL_isReason_34 (by decide) (fun c9 => absurd c9 (fun z => c0 ((km_0 a1).mp z))) (fun _ => ?_)
      refine mw_iload (i := 6) dL_isReason_37 rfl ?_
      refine mw_if_ge (tgt := 44) dL_isReason_39 (by decide) (fun _ => ?_) (fun c9 => absurd c9 (fun z => z ((km_g0 b1).mpr c0')))
      refine mw_iload (i := 5) dL_isReason_44 rfl ?_
      refine mw_iconst (v := 3) dL_isReason_46 (by decide) ?_
      refine mw_icmp_lt (tgt := 56) dL_isReason_47 (by decide) (fun c9 => absurd c9 (fun z => c3 ((km_3 a1).mp z))) (fun _ => ?_)
      refine mw_iload (i := 6) dL_isReason_50 rfl ?_
      refine mw_iconst (v := 3) dL_isReason_52 (by decide) ?_
      refine mw_icmp_ge (tgt := 69) dL_isReason_53 (by decide) (fun _ => ?_) (fun c9 => absurd c9 (fun z => z ((km_g3 b1).mpr c3')))
      refine mw_iload (i := 5) dL_isReason_69 rfl ?_
      refine mw_iconst (v := 4) dL_isReason_71 (by decide) ?_
      refine mw_icmp_ne (tgt := 81) dL_isReason_72 (by decide) (fun c9 => absurd c9 (fun z => z ((km_4 a1).mpr c5))) (fun _ => ?_)
      refine mw_iload (i := 6) dL_isReason_75 rfl ?_
      refine mw_iconst (v := 4) dL_isReason_77 (by decide) ?_
      refine mw_icmp_eq (tgt := 83) dL_isReason_78 (by decide) (fun _ => ?_) (fun c9 => absurd c9 (fun z => z ((km_4 b1).mpr c5')))
      refine mw_lconst (v := 1) dL_isReason_83 (by decide) ?_
      refine mw_bipush (v := 6) dL_isReason_84 (by decide) ?_
      refine mw_aload_n (i := 0) dL_isReason_86 rfl rfl ?_
      refine mw_bipush (v := 6) dL_isReason_87 (by decide) ?_
      refine mw_iload_n (i := 2) dL_isReason_89 rfl rfl ?_
      refine mw_imul dL_isReason_90 ?_
      refine mw_iload (i := 4) dL_isReason_91 rfl ?_
      refine mw_iadd dL_isReason_93 ?_
      rw [mx_6]
      refine mw_iald dL_isReason_94 gl_0 (mw_ix rfl (by omega) (by decide)) ?_
      refine mw_bipush (v := 8) dL_isReason_95 (by decide) ?_
      rw [a3]
      refine mw_idiv dL_isReason_97 (by decide) ?_
      rw [mx_d8' a1 a2]
      refine mw_imul dL_isReason_98 ?_
      refine mw_aload_n (i := 0) dL_isReason_99 rfl rfl ?_
      refine mw_bipush (v := 6) dL_isReason_100 (by decide) ?_
      refine mw_iload_n (i := 3) dL_isReason_102 rfl rfl ?_
      refine mw_imul dL_isReason_103 ?_
      refine mw_iload (i := 4) dL_isReason_104 rfl ?_
      refine mw_iadd dL_isReason_106 ?_
      rw [mx_6]
      refine mw_iald dL_isReason_107 gl_0 (mw_ix rfl (by omega) (by decide)) ?_
      refine mw_bipush (v := 8) dL_isReason_108 (by decide) ?_
      rw [b3]
      refine mw_idiv dL_isReason_110 (by decide) ?_
      rw [mx_d8' b1 b2]
      refine mw_iadd dL_isReason_111 ?_
      rw [mx_6]
      refine mw_lshl dL_isReason_112 rfl ?_
      refine mw_lconst (v := 1) dL_isReason_113 (by decide) ?_
      refine mw_bipush (v := 6) dL_isReason_114 (by decide) ?_
      refine mw_iload_n (i := 2) dL_isReason_116 rfl rfl ?_
      refine mw_imul dL_isReason_117 ?_
      refine mw_iload_n (i := 3) dL_isReason_118 rfl rfl ?_
      refine mw_iadd dL_isReason_119 ?_
      rw [mx_6]
      refine mw_lshl dL_isReason_120 rfl ?_
      refine mw_ldc2 dL_isReason_121 kn_L_221 ?_
      refine mw_lxor dL_isReason_124 ?_
      refine mw_land dL_isReason_125 ?_
      refine mw_lstore_7 dL_isReason_126 (by decide) ?_
      refine mw_iconst (v := 0) dL_isReason_128 (by decide) ?_
      refine mw_istore_9 dL_isReason_129 (by decide) ?_
      have hn64 : 6 * o + o' < 64 := by omega
      have hq64 : 6 * one + other < 64 := by omega
      have hbit : ∀ p', p' < 64 → zb (mkp (6 * o + o') (6 * one + other)) p' = (decide (p' = 6 * o + o') && !decide (p' = 6 * one + other)) := fun p' hp' => zb_mkp hn64 hq64 hp'
      refine lp_rr hk h1 h2 (p0 := 6 * o + o') (fun hD => ⟨rfl, Or.inl ⟨rfl, Or.inr ⟨hldt, by rw [hto]; exact hD⟩⟩⟩) (fun hD => ⟨rfl, Or.inr ⟨rfl, ?_⟩⟩) 36 0 (mkp (6 * o + o') (6 * one + other)) _ _ _ _ rfl (fun p hp hz => ?_) hn64 ?_ (Or.inl (Nat.zero_le _))
      · rw [hbit p hp, Bool.and_eq_true] at hz
        have e1 := of_decide_eq_true hz.1
        have e2 : p ≠ 6 * one + other := by
          have := hz.2
          simpa using this
        exact ⟨e2, by omega, by omega, fun z => by rw [← e1]; exact z⟩
      · rw [hbit _ hn64]
        by_cases eq : 6 * o + o' = 6 * one + other
        · exact Or.inr eq
        · left; simp [eq]
      · rintro (z | ⟨-, z⟩)
        · rw [hdn] at z; cases z
        · rw [hto] at z; exact hD z
    · refine mw_iconst (v := 1) dL_isReason_28 (by decide) ?_
      refine mw_isub dL_isReason_29 ?_
      refine mw_istore_6 dL_isReason_30 (by decide) ?_
      refine mw_iload (i := 5) dL_isReason_32 rfl ?_
      refine mw_if_lt (tgt := 42) dL_isReason_34 (by decide) (fun c9 => absurd c9 (fun z => c0 ((km_0 a1).mp z))) (fun _ => ?_)
      refine mw_iload (i := 6) dL_isReason_37 rfl ?_
      refine mw_if_ge (tgt := 44) dL_isReason_39 (by decide) (fun _ => ?_) (fun c9 => absurd c9 (fun z => z ((km_g0 b1).mpr c0')))
      refine mw_iload (i := 5) dL_isReason_44 rfl ?_
      refine mw_iconst (v := 3) dL_isReason_46 (by decide) ?_
      refine mw_icmp_lt (tgt := 56) dL_isReason_47 (by decide) (fun c9 => absurd c9 (fun z => c3 ((km_3 a1).mp z))) (fun _ => ?_)
      refine mw_iload (i := 6) dL_isReason_50 rfl ?_
      refine mw_iconst (v := 3) dL_isReason_52 (by decide) ?_
      refine mw_icmp_ge (tgt := 69) dL_isReason_53 (by decide) (fun _ => ?_) (fun c9 => absurd c9 (fun z => z ((km_g3 b1).mpr c3')))
      refine mw_iload (i := 5) dL_isReason_69 rfl ?_
      refine mw_iconst (v := 4) dL_isReason_71 (by decide) ?_
      refine mw_icmp_ne (tgt := 81) dL_isReason_72 (by decide) (fun c9 => absurd c9 (fun z => z ((km_4 a1).mpr c5))) (fun _ => ?_)
      refine mw_iload (i := 6) dL_isReason_75 rfl ?_
      refine mw_iconst (v := 4) dL_isReason_77 (by decide) ?_
      refine mw_icmp_eq (tgt := 83) dL_isReason_78 (by decide) (fun c9 => absurd c9 (fun z => c5' ((km_4 b1).mp z))) (fun _ => ?_)
      refine mw_iconst (v := 0) dL_isReason_81 (by decide) ?_
      exact mw_ireturn dL_isReason_82 ⟨_, rfl, rfl⟩ ⟨rfl, Or.inr ⟨rfl, hno hdn (by rw [hled]; exact decide_eq_false (fun z => c5' z.2))⟩⟩
  · refine mw_iconst (v := 1) dL_isReason_28 (by decide) ?_
    refine mw_isub dL_isReason_29 ?_
    refine mw_istore_6 dL_isReason_30 (by decide) ?_
    refine mw_iload (i := 5) dL_isReason_32 rfl ?_
    refine mw_if_lt (tgt := 42) dL_isReason_34 (by decide) (fun c9 => absurd c9 (fun z => c0 ((km_0 a1).mp z))) (fun _ => ?_)
    refine mw_iload (i := 6) dL_isReason_37 rfl ?_
    refine mw_if_ge (tgt := 44) dL_isReason_39 (by decide) (fun _ => ?_) (fun c9 => absurd c9 (fun z => z ((km_g0 b1).mpr c0')))
    refine mw_iload (i := 5) dL_isReason_44 rfl ?_
    refine mw_iconst (v := 3) dL_isReason_46 (by decide) ?_
    refine mw_icmp_lt (tgt := 56) dL_isReason_47 (by decide) (fun c9 => absurd c9 (fun z => c3 ((km_3 a1).mp z))) (fun _ => ?_)
    refine mw_iload (i := 6) dL_isReason_50 rfl ?_
    refine mw_iconst (v := 3) dL_isReason_52 (by decide) ?_
    refine mw_icmp_ge (tgt := 69) dL_isReason_53 (by decide) (fun _ => ?_) (fun c9 => absurd c9 (fun z => z ((km_g3 b1).mpr c3')))
    refine mw_iload (i := 5) dL_isReason_69 rfl ?_
    refine mw_iconst (v := 4) dL_isReason_71 (by decide) ?_
    refine mw_icmp_ne (tgt := 81) dL_isReason_72 (by decide) (fun _ => ?_) (fun c9 => absurd c9 (fun z => c5 ((km_4 a1).mp z)))
    refine mw_iconst (v := 0) dL_isReason_81 (by decide) ?_
    exact mw_ireturn dL_isReason_82 ⟨_, rfl, rfl⟩ ⟨rfl, Or.inr ⟨rfl, hno hdn (by rw [hled]; exact decide_eq_false (fun z => c5 z.1))⟩⟩
end RS
