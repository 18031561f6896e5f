/-! the law's fields: their bytes in two longs, what f, v, x, w hold of a field, of a row; sizes, the last known one -/
theorem wb_tb (n : Nat) : (lN n).toBitVec = BitVec.ofNat 64 n := rfl
theorem wb_inj {a b : Int64} (h : a.toBitVec = b.toBitVec) : a = b := Int64.toBitVec_inj.mp h
theorem wb_tn {n : Nat} (h : n < 2 ^ 64) : (lN n).toBitVec.toNat = n := by rw [wb_tb, BitVec.toNat_ofNat, Nat.mod_eq_of_lt h]
theorem wb_of (x : Int64) : ∃ n, n < 2 ^ 64 ∧ x = lN n := ⟨x.toBitVec.toNat, x.toBitVec.isLt, wb_inj (by rw [wb_tb]; simp)⟩
theorem wb_c : ∀ k, k < 64 → ((nI k).toInt64 &&& 63) = lN k := by decide +kernel
theorem wb_sm : ∀ k, k < 64 → (BitVec.ofNat 64 k).smod 64 = BitVec.ofNat 64 k := by decide +kernel
theorem wb_shl (n : Nat) {k : Nat} (hk : k < 64) : lN n <<< ((nI k).toInt64 &&& 63) = lN (n * 2 ^ k) := by
  rw [wb_c k hk]
  apply wb_inj
  rw [Int64.toBitVec_shiftLeft, wb_tb, wb_tb, wb_tb, wb_sm k hk]
  apply BitVec.eq_of_toNat_eq
  rw [BitVec.shiftLeft_eq', BitVec.toNat_shiftLeft, BitVec.toNat_ofNat, BitVec.toNat_ofNat, BitVec.toNat_ofNat, Nat.mod_eq_of_lt (show k < 2 ^ 64 by omega), Nat.shiftLeft_eq, Nat.mul_mod, Nat.mod_mod, ← Nat.mul_mod]
/-- the byte j of a long -/
def lb (V : Int64) (j : Nat) : Nat := V.toBitVec.toNat / 2 ^ (8 * j) % 2 ^ 8
theorem lb_lt (V : Int64) (j : Nat) : lb V j < 256 := Nat.mod_lt _ (by decide)
theorem lb_0 (j : Nat) : lb 0 j = 0 := by
  unfold lb
  show 0 / 2 ^ (8 * j) % 2 ^ 8 = 0
  rw [Nat.zero_div]
theorem lb_shr (V : Int64) {j : Nat} (hj : j < 8) : (V >>> ((nI (8 * j)).toInt64 &&& 63)) &&& 255 = lN (lb V j) := by
  rw [wb_c (8 * j) (by omega)]
  apply wb_inj
  rw [Int64.toBitVec_and, Int64.toBitVec_shiftRight, wb_tb, wb_tb, wb_sm (8 * j) (by omega), show (255 : Int64).toBitVec = BitVec.ofNat 64 (2 ^ 8 - 1) from rfl]
  apply BitVec.eq_of_getLsbD_eq
  intro i hi
  rw [BitVec.getLsbD_and, BitVec.sshiftRight_eq', BitVec.toNat_ofNat, Nat.mod_eq_of_lt (show 8 * j < 2 ^ 64 by omega), BitVec.getLsbD_sshiftRight, BitVec.getLsbD_ofNat, BitVec.getLsbD_ofNat, Nat.testBit_two_pow_sub_one]
  unfold lb
  rw [Nat.testBit_mod_two_pow, Nat.testBit_div_two_pow]
  by_cases h8 : i < 8
  · rw [if_pos (show 8 * j + i < 64 by omega)]
    have h64 : ¬ 64 ≤ i := by omega
    simp [h8, hi, h64, BitVec.getLsbD, Nat.add_comm]
  · simp [h8]
theorem mx_8m (s : Nat) : 8 * nI s = nI (8 * s) := by
  rw [show (8 : Int32) = nI 8 from rfl, pk_mul]
theorem lb_at (V : Int64) {j : Nat} (hj : j < 8) : ((V >>> ((8 * nI j).toInt64 &&& 63)) &&& 255).toInt32 = nI (lb V j) := by
  rw [mx_8m, lb_shr V hj, lN_i]
/-- a byte is added to a long that has nothing there -/
theorem lb_or (V : Int64) {b k : Nat} (hb : b < 256) (hk : k < 8) (h0 : lb V k = 0) (j : Nat) (hj : j < 8) : lb (V ||| (nI b).toInt64 <<< ((8 * nI k).toInt64 &&& 63)) j = if j = k then b else lb V j := by
  have hp : (2 : Nat) ^ (8 * k) ≤ 2 ^ 56 := Nat.pow_le_pow_right (by decide) (by omega)
  have hs : b * 2 ^ (8 * k) < 2 ^ 64 := by
    have : b * 2 ^ (8 * k) ≤ 255 * 2 ^ 56 := Nat.mul_le_mul (by omega) hp
    omega
  rw [mx_8m, nI_l (by omega), wb_shl b (by omega)]
  unfold lb at h0 ⊢
  rw [Int64.toBitVec_or, BitVec.toNat_or, wb_tn hs]
  apply Nat.eq_of_testBit_eq
  intro i
  rw [Nat.testBit_mod_two_pow, Nat.testBit_div_two_pow, Nat.testBit_or, Nat.testBit_mul_two_pow]
  have h1 : ∀ i, i < 8 → V.toBitVec.toNat.testBit (i + 8 * k) = false := fun i hi => by
    have h2 := congrArg (fun n => n.testBit i) h0
    simp only [Nat.testBit_mod_two_pow, Nat.testBit_div_two_pow, Nat.zero_testBit] at h2
    simpa [hi, Nat.add_comm] using h2
  by_cases h8 : i < 8
  · by_cases e : j = k
    · subst e
      rw [if_pos rfl, h1 i h8]
      simp [h8]
    · rw [if_neg e, Nat.testBit_mod_two_pow, Nat.testBit_div_two_pow]
      by_cases e2 : j < k
      · have h3 : ¬ 8 * k ≤ i + 8 * j := by omega
        simp [h3]
      · have h3 : 8 * k ≤ i + 8 * j := by omega
        have h4 : b.testBit (i + 8 * j - 8 * k) = false := Nat.testBit_lt_two_pow (Nat.lt_of_lt_of_le hb (by rw [show 256 = 2 ^ 8 from rfl]; exact Nat.pow_le_pow_right (by decide) (by omega)))
        simp [h4]
  · by_cases e : j = k
    · rw [if_pos e]
      have h4 : b.testBit i = false := Nat.testBit_lt_two_pow (Nat.lt_of_lt_of_le hb (by rw [show 256 = 2 ^ 8 from rfl]; exact Nat.pow_le_pow_right (by decide) (by omega)))
      simp [h8, h4]
    · rw [if_neg e, Nat.testBit_mod_two_pow]
      simp [h8]
/-- the byte j of a field -/
def bt2 (X : Nat → Nat → Int64) (p j : Nat) : Nat := if j < 8 then lb (X 6 p) j else lb (X 7 p) (j - 8)
/-- the place p of f, v, x, w holds the field x -/
def fC (A : Nat → Nat → Int32) (X : Nat → Nat → Int64) (p : Nat) (x : af) : Prop := A 4 p = nI (8 * x.1 + x.2.1) ∧ A 5 p = nI x.2.2.1 ∧ (x.2.1 = 2 → x.2.2.1 ≤ 16 ∧ ∀ j, j < 16 → bt2 X p j = x.2.2.2.getD j 0)
/-- the message m has the fields L -/
def fR (A : Nat → Nat → Int32) (X : Nat → Nat → Int64) (m : Nat) (L : List af) : Prop := A 3 m = nI L.length ∧ L.length ≤ 12 ∧ ∀ i x, L[i]? = some x → fC A X (12 * m + i) x
theorem fR_at {A : Nat → Nat → Int32} {X : Nat → Nat → Int64} {m : Nat} {L L1 L2 : List af} {x : af} (h : fR A X m L) (e : L = L1 ++ x :: L2) : fC A X (12 * m + L1.length) x ∧ L1.length + 1 ≤ L.length ∧ L.length ≤ 12 := by
  refine ⟨h.2.2 _ _ (by rw [e]; simp), by rw [e, List.length_append, List.length_cons]; omega, h.2.1⟩
theorem okf_key {x : af} (hx : okf x) : 8 * x.1 + x.2.1 < 2 ^ 8 ∧ (8 * x.1 + x.2.1) / 8 = x.1 ∧ (8 * x.1 + x.2.1) % 8 = x.2.1 := by
  obtain ⟨h1, h2, h3, -⟩ := hx
  omega
theorem nI_dec (n : Nat) : nI n + Int32.ofInt (-1) = nI n - 1 := by
  show nI n + (-1) = nI n - 1
  rw [Int32.sub_eq_add_neg]
/-- the place of the last one with P -/
def lix (P : af → Bool) : List af → Option Nat
  | [] => none
  | x :: L => match lix P L with
    | some i => some (i + 1)
    | none => if P x then some 0 else none
def lir (P : af → Bool) (b : Nat) (L : List af) : Int32 := match lix P L with
  | none => -1
  | some i => nI (b + i)
theorem lix_app (P : af → Bool) (x : af) : ∀ L : List af, lix P (L ++ [x]) = if P x then some L.length else lix P L
  | [] => rfl
  | z :: L => by
    have ih := lix_app P x L
    show (match lix P (L ++ [x]) with | some i => some (i + 1) | none => if P z then some 0 else none) = _
    rw [ih]
    by_cases e : P x = true
    · rw [if_pos e, if_pos e]; rfl
    · rw [if_neg e, if_neg e]; rfl
theorem lix_no {P : af → Bool} {L : List af} (h : lix P L = none) : ∀ x ∈ L, P x = false := by
  induction L with
  | nil => intro x hx; cases hx
  | cons z L ih =>
    have h : (match lix P L with | some i => some (i + 1) | none => if P z then some 0 else none) = none := h
    cases e : lix P L with
    | some i => rw [e] at h; cases h
    | none =>
      rw [e] at h
      intro x hx
      rcases List.mem_cons.mp hx with rfl | hx
      · cases e2 : P x with
        | false => rfl
        | true => rw [e2] at h; cases h
      · exact ih e x hx
theorem lix_yes {P : af → Bool} {L : List af} {i : Nat} (h : lix P L = some i) : ∃ L1 x L2, L = L1 ++ x :: L2 ∧ L1.length = i ∧ P x = true ∧ ∀ z ∈ L2, P z = false := by
  induction L generalizing i with
  | nil => cases h
  | cons z L ih =>
    have h : (match lix P L with | some i => some (i + 1) | none => if P z then some 0 else none) = some i := h
    cases e : lix P L with
    | some k =>
      rw [e] at h
      cases h
      obtain ⟨L1, x, L2, h1, h2, h3, h4⟩ := ih e
      exact ⟨z :: L1, x, L2, by rw [h1]; rfl, by rw [List.length_cons, h2], h3, h4⟩
    | none =>
      rw [e] at h
      cases e2 : P z with
      | false => rw [e2] at h; cases h
      | true =>
        rw [e2] at h
        cases h
        exact ⟨[], z, L, rfl, rfl, e2, lix_no e⟩
theorem lir_app (P : af → Bool) (b : Nat) (x : af) (L : List af) : lir P b (L ++ [x]) = if P x then nI (b + L.length) else lir P b L := by
  unfold lir
  rw [lix_app]
  by_cases e : P x = true
  · rw [if_pos e, if_pos e]
  · rw [if_neg e, if_neg e]
theorem four_len (v : Nat) : (four v).length = 4 := rfl
theorem ef_size {x : af} (hx : okf x) : (ef x).length = (egr (8 * x.1 + x.2.1)).length + (if x.2.1 = 5 then 4 else if x.2.1 = 0 then (egr x.2.2.1).length else (egr x.2.2.1).length + x.2.2.1) := by
  obtain ⟨t, y, v, Z⟩ := x
  obtain ⟨h1, h2, h3, h4, h5, h6, h7⟩ := hx
  dsimp only at h1 h2 h3 h4 h5 h6 h7 ⊢
  show (enum t y v ++ Z).length = _
  unfold enum
  rw [List.length_append, List.length_append]
  by_cases e5 : y = 5
  · rw [if_pos e5, if_pos e5, h6 (by omega), four_len]; rfl
  · rw [if_neg e5, if_neg e5]
    by_cases e0 : y = 0
    · rw [if_pos e0, h6 (by omega)]; rfl
    · rw [if_neg e0, h5 (by omega)]; omega
theorem eg_len5 : ∀ r v, (eg r v).length ≤ r + 1
  | 0, v => Nat.le_refl _
  | r + 1, v => by
    unfold eg
    split
    · exact Nat.succ_le_succ (Nat.zero_le _)
    · rw [List.length_cons]; have := eg_len5 r (v / 128); omega
section LH2
variable {H : mw_H} {A : Nat → Nat → Int32} {X : Nat → Nat → Int64} {K : Nat → Nat → Int32} {ns s t m p : Nat} {x : af} {L : List af}
theorem c_byteAt {j : Nat} (hp : p < 60) (hj : j < 16) : mw_Con mm_L_byteAt 0 0 0 [.ref 49, .ref 50, .int (nI p), .int (nI j)] (gl H A X) (mw_ret (.int (nI (bt2 X p j))) (gl H A X)) := by
  refine gm_con pl_L rfl rfl (Nat.le_of_ble_eq_true rfl) rfl ?_
  unfold bt2
  by_cases e : j < 8
  · rw [if_pos e]
    refine mw_iload_n (i := 3) dL_byteAt_0 rfl rfl ?_
    refine mw_bipush (v := 8) dL_byteAt_1 (by decide) ?_
    refine mw_icmp_ge (tgt := 17) dL_byteAt_3 (by decide) (fun c9 => absurd c9 (by first | decide | exact (fun q => q rfl) | ((try simp only [fa_lit]); first | exact cq_le (by omega) (by omega) | exact cq_nle (by omega) (by omega) | exact cq_lt (by omega) (by omega) | exact cq_nlt (by omega) (by omega) | exact cq_eq (by omega) (by omega) (by omega) | exact cq_neq (by omega)))) (fun _ => ?_)
    refine mw_aload_n (i := 0) dL_byteAt_6 rfl rfl ?_
    refine mw_iload_n (i := 2) dL_byteAt_7 rfl rfl ?_
    refine mw_lald dL_byteAt_8 gl_6 (mw_ix rfl hp (by decide)) ?_
    refine mw_bipush (v := 8) dL_byteAt_9 (by decide) ?_
    refine mw_iload_n (i := 3) dL_byteAt_11 rfl rfl ?_
    refine mw_imul dL_byteAt_12 ?_
    refine mw_lshr dL_byteAt_13 rfl ?_
    refine mw_goto (tgt := 28) dL_byteAt_14 (by decide) ?_
    refine mw_ldc2 dL_byteAt_28 kn_L_76 ?_
    refine mw_land dL_byteAt_31 ?_
    refine mw_l2i dL_byteAt_32 (lb_at (X 6 p) e) ?_
    exact mw_ireturn dL_byteAt_33 ⟨_, rfl, rfl⟩ ⟨rfl, rfl⟩
  · rw [if_neg e]
    have e8 : nI j - 8 = nI (j - 8) := pk_sub (b := 8) (by omega)
    refine mw_iload_n (i := 3) dL_byteAt_0 rfl rfl ?_
    refine mw_bipush (v := 8) dL_byteAt_1 (by decide) ?_
    refine mw_icmp_ge (tgt := 17) dL_byteAt_3 (by decide) (fun _ => ?_) (fun c9 => absurd c9 (by first | decide | exact (fun q => q rfl) | ((try simp only [fa_lit]); first | exact cq_le (by omega) (by omega) | exact cq_nle (by omega) (by omega) | exact cq_lt (by omega) (by omega) | exact cq_nlt (by omega) (by omega) | exact cq_eq (by omega) (by omega) (by omega) | exact cq_neq (by omega))))
    refine mw_aload_n (i := 1) dL_byteAt_17 rfl rfl ?_
    refine mw_iload_n (i := 2) dL_byteAt_18 rfl rfl ?_
    refine mw_lald dL_byteAt_19 gl_7 (mw_ix rfl hp (by decide)) ?_
    refine mw_bipush (v := 8) dL_byteAt_20 (by decide) ?_
    refine mw_iload_n (i := 3) dL_byteAt_22 rfl rfl ?_
    refine mw_bipush (v := 8) dL_byteAt_23 (by decide) ?_
    refine mw_isub dL_byteAt_25 ?_
    refine mw_imul dL_byteAt_26 ?_
    refine mw_lshr dL_byteAt_27 rfl ?_
    refine mw_ldc2 dL_byteAt_28 kn_L_76 ?_
    refine mw_land dL_byteAt_31 ?_
    refine mw_l2i dL_byteAt_32 (show _ = nI (lb (X 7 p) (j - 8)) from by rw [e8]; exact lb_at (X 7 p) (by omega)) ?_
    exact mw_ireturn dL_byteAt_33 ⟨_, rfl, rfl⟩ ⟨rfl, rfl⟩
theorem c_size (hx : okf x) (hf : fC A X p x) (hp : p < 60) : mw_Con mm_L_size 1 0 0 [.ref 47, .ref 48, .int (nI p)] (gl H A X) (mw_ret (.int (nI (ef x).length)) (gl H A X)) := by
  obtain ⟨h4, h5, -⟩ := hf
  obtain ⟨k1, k2, k3⟩ := okf_key hx
  have hv := hx.2.2.2.1
  have hq : 8 * x.1 + x.2.1 < 2 ^ 32 := by omega
  have hy := hx.2.2.1
  rw [ef_size hx]
  refine gm_con pl_L rfl rfl (Nat.le_of_ble_eq_true rfl) rfl ?_
  refine mw_aload_n (i := 0) dL_size_0 rfl rfl ?_
  refine mw_iload_n (i := 2) dL_size_1 rfl rfl ?_
  refine mw_iald dL_size_2 gl_4 (mw_ix rfl hp (by decide)) ?_
  rw [h4]
  refine mw_callSr dL_size_3 mk_L_73 ((c_groups hq)) (by decide) (Nat.le_refl _) (Nat.le_refl _) rfl rfl (Nat.le_of_ble_eq_true rfl) ?_
  refine mw_aload_n (i := 0) dL_size_6 rfl rfl ?_
  refine mw_iload_n (i := 2) dL_size_7 rfl rfl ?_
  refine mw_iald dL_size_8 gl_4 (mw_ix rfl hp (by decide)) ?_
  refine mw_bipush (v := 8) dL_size_9 (by decide) ?_
  refine mw_irem dL_size_11 (by decide) ?_
  rw [h4, mx_r8 (by omega), k3]
  by_cases e5 : x.2.1 = 5
  · refine mw_iconst (v := 5) dL_size_12 (by decide) ?_
    refine mw_icmp_ne (tgt := 20) dL_size_13 (by decide) (fun c9 => absurd c9 (by first | decide | exact (fun q => q rfl) | ((try simp only [fa_lit]); first | exact cq_le (by omega) (by omega) | exact cq_nle (by omega) (by omega) | exact cq_lt (by omega) (by omega) | exact cq_nlt (by omega) (by omega) | exact cq_eq (by omega) (by omega) (by omega) | exact cq_neq (by omega)))) (fun _ => ?_)
    refine mw_iconst (v := 4) dL_size_16 (by decide) ?_
    refine mw_goto (tgt := 48) dL_size_17 (by decide) ?_
    refine mw_iadd dL_size_48 ?_
    refine mw_ireturn dL_size_49 ⟨_, rfl, rfl⟩ ⟨?_, rfl⟩
    rw [if_pos e5]
    exact congrArg (fun z => (Sum.inl (some (Value.int z)) : Option Value ⊕ String)) (nI_add _ 4)
  · refine mw_iconst (v := 5) dL_size_12 (by decide) ?_
    refine mw_icmp_ne (tgt := 20) dL_size_13 (by decide) (fun _ => ?_) (fun c9 => absurd c9 (by first | decide | exact (fun q => q rfl) | ((try simp only [fa_lit]); first | exact cq_le (by omega) (by omega) | exact cq_nle (by omega) (by omega) | exact cq_lt (by omega) (by omega) | exact cq_nlt (by omega) (by omega) | exact cq_eq (by omega) (by omega) (by omega) | exact cq_neq (by omega))))
    refine mw_aload_n (i := 0) dL_size_20 rfl rfl ?_
    refine mw_iload_n (i := 2) dL_size_21 rfl rfl ?_
    refine mw_iald dL_size_22 gl_4 (mw_ix rfl hp (by decide)) ?_
    refine mw_bipush (v := 8) dL_size_23 (by decide) ?_
    refine mw_irem dL_size_25 (by decide) ?_
    rw [h4, mx_r8 (by omega), k3, if_neg e5]
    by_cases e0 : x.2.1 = 0
    · refine mw_if_ne (tgt := 38) dL_size_26 (by decide) (fun c9 => absurd c9 (cq_neq (b := 0) e0)) (fun _ => ?_)
      refine mw_aload_n (i := 1) dL_size_29 rfl rfl ?_
      refine mw_iload_n (i := 2) dL_size_30 rfl rfl ?_
      refine mw_iald dL_size_31 gl_5 (mw_ix rfl hp (by decide)) ?_
      rw [h5]
      refine mw_callSr dL_size_32 mk_L_73 ((c_groups hv)) (by decide) (Nat.le_refl _) (Nat.le_refl _) rfl rfl (Nat.le_of_ble_eq_true rfl) ?_
      refine mw_goto (tgt := 48) dL_size_35 (by decide) ?_
      refine mw_iadd dL_size_48 ?_
      rw [nI_add, if_pos e0]
      exact mw_ireturn dL_size_49 ⟨_, rfl, rfl⟩ ⟨rfl, rfl⟩
    · refine mw_if_ne (tgt := 38) dL_size_26 (by decide) (fun _ => ?_) (fun c9 => absurd c9 (cq_eq (b := 0) e0 (by omega) (by omega)))
      refine mw_aload_n (i := 1) dL_size_38 rfl rfl ?_
      refine mw_iload_n (i := 2) dL_size_39 rfl rfl ?_
      refine mw_iald dL_size_40 gl_5 (mw_ix rfl hp (by decide)) ?_
      rw [h5]
      refine mw_callSr dL_size_41 mk_L_73 ((c_groups hv)) (by decide) (Nat.le_refl _) (Nat.le_refl _) rfl rfl (Nat.le_of_ble_eq_true rfl) ?_
      refine mw_aload_n (i := 1) dL_size_44 rfl rfl ?_
      refine mw_iload_n (i := 2) dL_size_45 rfl rfl ?_
      refine mw_iald dL_size_46 gl_5 (mw_ix rfl hp (by decide)) ?_
      refine mw_iadd dL_size_47 ?_
      refine mw_iadd dL_size_48 ?_
      rw [h5, nI_add, nI_add, if_neg e0]
      exact mw_ireturn dL_size_49 ⟨_, rfl, rfl⟩ ⟨rfl, rfl⟩
theorem lp_weightOf (hm : m < 5) (hok : ∀ x ∈ L, okf x) (hR : fR A X m L) : ∀ (L2 L1 : List af), L = L1 ++ L2 → mw_W mm_L_weightOf 2 0 0 6 [some (.ref 47), some (.ref 48), some (.ref 46), some (.int (nI m)), some (.int (nI (eL L1).length)), some (.int (nI L1.length))] [] (gl H A X) (mw_ret (.int (nI (eL L).length)) (gl H A X))
  | [], L1, e => by
    rw [List.append_nil] at e
    subst e
    have h12 := hR.2.1
    refine mw_iload (i := 5) dL_weightOf_6 rfl ?_
    refine mw_aload_n (i := 2) dL_weightOf_8 rfl rfl ?_
    refine mw_iload_n (i := 3) dL_weightOf_9 rfl rfl ?_
    refine mw_iald dL_weightOf_10 gl_3 (mw_ix rfl hm (by decide)) ?_
    rw [hR.1]
    refine mw_icmp_ge (tgt := 37) dL_weightOf_11 (by decide) (fun _ => ?_) (fun c9 => absurd c9 (by first | decide | exact (fun q => q rfl) | ((try simp only [fa_lit]); first | exact cq_le (by omega) (by omega) | exact cq_nle (by omega) (by omega) | exact cq_lt (by omega) (by omega) | exact cq_nlt (by omega) (by omega) | exact cq_eq (by omega) (by omega) (by omega) | exact cq_neq (by omega))))
    refine mw_iload (i := 4) dL_weightOf_37 rfl ?_
    exact mw_ireturn dL_weightOf_39 ⟨_, rfl, rfl⟩ ⟨rfl, rfl⟩
  | x :: L2, L1, e => by
    obtain ⟨hf, h1, h12⟩ := fR_at hR e
    refine mw_iload (i := 5) dL_weightOf_6 rfl ?_
    refine mw_aload_n (i := 2) dL_weightOf_8 rfl rfl ?_
    refine mw_iload_n (i := 3) dL_weightOf_9 rfl rfl ?_
    refine mw_iald dL_weightOf_10 gl_3 (mw_ix rfl hm (by decide)) ?_
    rw [hR.1]
    refine mw_icmp_ge (tgt := 37) dL_weightOf_11 (by decide) (fun c9 => absurd c9 (by first | decide | exact (fun q => q rfl) | ((try simp only [fa_lit]); first | exact cq_le (by omega) (by omega) | exact cq_nle (by omega) (by omega) | exact cq_lt (by omega) (by omega) | exact cq_nlt (by omega) (by omega) | exact cq_eq (by omega) (by omega) (by omega) | exact cq_neq (by omega)))) (fun _ => ?_)
    refine mw_iload (i := 4) dL_weightOf_14 rfl ?_
    refine mw_aload_n (i := 0) dL_weightOf_16 rfl rfl ?_
    refine mw_aload_n (i := 1) dL_weightOf_17 rfl rfl ?_
    refine mw_bipush (v := 12) dL_weightOf_18 (by decide) ?_
    refine mw_iload_n (i := 3) dL_weightOf_20 rfl rfl ?_
    refine mw_imul dL_weightOf_21 ?_
    refine mw_iload (i := 5) dL_weightOf_22 rfl ?_
    refine mw_iadd dL_weightOf_24 ?_
    rw [mx_12]
    refine mw_callSr dL_weightOf_25 mk_L_78 ((c_size (hok x (by rw [e]; simp)) hf (by omega))) (by decide) (Nat.le_refl _) (Nat.le_refl _) rfl rfl (Nat.le_of_ble_eq_true rfl) ?_
    refine mw_iadd dL_weightOf_28 ?_
    refine mw_istore_4 dL_weightOf_29 (by decide) ?_
    refine mw_iinc_5 dL_weightOf_31 (by decide) rfl ?_
    refine mw_goto (tgt := 6) dL_weightOf_34 (by decide) ?_
    have h9 := lp_weightOf hm hok hR L2 (L1 ++ [x]) (by rw [e]; simp)
    rw [eL_one, List.length_append, List.length_append] at h9
    rw [nI_add, show nI L1.length + Int32.ofInt 1 = nI (L1.length + 1) from nI_1 _]
    exact h9
theorem c_weightOf (hm : m < 5) (hok : ∀ x ∈ L, okf x) (hR : fR A X m L) : mw_Con mm_L_weightOf 2 0 0 [.ref 47, .ref 48, .ref 46, .int (nI m)] (gl H A X) (mw_ret (.int (nI (eL L).length)) (gl H A X)) := by
  refine gm_con pl_L rfl rfl (Nat.le_of_ble_eq_true rfl) rfl ?_
  refine mw_iconst (v := 0) dL_weightOf_0 (by decide) ?_
  refine mw_istore_4 dL_weightOf_1 (by decide) ?_
  refine mw_iconst (v := 0) dL_weightOf_3 (by decide) ?_
  refine mw_istore_5 dL_weightOf_4 (by decide) ?_
  exact lp_weightOf hm hok hR L [] rfl
theorem lp_last (hk : kR K ns A) (hs : s < ns) (hc : A 2 m = nI (s + 1)) (ht2 : t ≤ 31) (hm : m < 5) (hok : ∀ x ∈ L, okf x) (hR : fR A X m L) : ∀ (n : Nat) (L1 L2 : List af), L1.length = n → L = L1 ++ L2 → mw_W mm_L_last 3 0 0 8 [some (.ref 43), some (.ref 45), some (.ref 46), some (.ref 47), some (.int (nI m)), some (.int (nI t)), some (.int (nI n - 1))] [] (gl H A X) (mw_ret (.int (lir (Pt K s (nI t)) (12 * m) L1)) (gl H A X)) := by
  intro n
  induction n with
  | zero =>
    intro L1 L2 hn e
    have hn : L1 = [] := List.length_eq_zero_iff.mp hn
    subst hn
    refine mw_iload (i := 6) dL_last_8 rfl ?_
    refine mw_if_lt (tgt := 69) dL_last_10 (by decide) (fun _ => ?_) (fun c9 => absurd c9 (by first | decide | (rw [pk_us]; decide)))
    refine mw_iconst (v := -1) dL_last_69 (by decide) ?_
    exact mw_ireturn dL_last_70 ⟨_, rfl, rfl⟩ ⟨rfl, rfl⟩
  | succ n ih =>
    intro L1 L2 hn e
    obtain ⟨L0, x, rfl⟩ : ∃ L0 x, L1 = L0 ++ [x] := by
      rcases List.eq_nil_or_concat L1 with h | ⟨L0, x, h⟩
      · rw [h] at hn; cases hn
      · exact ⟨L0, x, by rw [h]; simp⟩
    have hn : L0.length = n := by rw [List.length_append] at hn; exact Nat.succ.inj hn
    have e' : L = L0 ++ x :: L2 := by rw [e]; simp
    obtain ⟨hf, h1, h12⟩ := fR_at hR e'
    have hx := hok x (by rw [e']; simp)
    obtain ⟨k1, k2, k3⟩ := okf_key hx
    rw [hn] at hf h1
    rw [nI_pred, lir_app, hn]
    have ih := ih L0 (x :: L2) hn e'
    have hP : Pt K s (nI t) x = (decide (nI x.1 = nI t) && knb K s x) := rfl
    refine mw_iload (i := 6) dL_last_8 rfl ?_
    refine mw_if_lt (tgt := 69) dL_last_10 (by decide) (fun c9 => absurd c9 (cq_lt (b := 0) (Nat.zero_le _) (by omega))) (fun _ => ?_)
    refine mw_aload_n (i := 3) dL_last_13 rfl rfl ?_
    refine mw_bipush (v := 12) dL_last_14 (by decide) ?_
    refine mw_iload (i := 4) dL_last_16 rfl ?_
    refine mw_imul dL_last_18 ?_
    refine mw_iload (i := 6) dL_last_19 rfl ?_
    refine mw_iadd dL_last_21 ?_
    refine mw_iald dL_last_22 gl_4 (mw_ix (mx_12 m n) (by omega) (by decide)) ?_
    refine mw_bipush (v := 8) dL_last_23 (by decide) ?_
    rw [hf.1]
    refine mw_idiv dL_last_25 (by decide) ?_
    rw [mx_d8 (by omega), k2]
    have hx2 := hx.2.1
    by_cases et : x.1 = t
    · refine mw_iload (i := 5) dL_last_26 rfl ?_
      refine mw_icmp_ne (tgt := 63) dL_last_28 (by decide) (fun c9 => absurd c9 (by first | decide | exact (fun q => q rfl) | ((try simp only [fa_lit]); first | exact cq_le (by omega) (by omega) | exact cq_nle (by omega) (by omega) | exact cq_lt (by omega) (by omega) | exact cq_nlt (by omega) (by omega) | exact cq_eq (by omega) (by omega) (by omega) | exact cq_neq (by omega)))) (fun _ => ?_)
      refine mw_aload_n (i := 0) dL_last_31 rfl rfl ?_
      refine mw_aload_n (i := 1) dL_last_32 rfl rfl ?_
      refine mw_iload (i := 4) dL_last_33 rfl ?_
      refine mw_iald dL_last_35 gl_2 (mw_ix rfl hm (by decide)) ?_
      refine mw_iconst (v := 1) dL_last_36 (by decide) ?_
      refine mw_isub dL_last_37 ?_
      refine mw_aload_n (i := 3) dL_last_38 rfl rfl ?_
      refine mw_bipush (v := 12) dL_last_39 (by decide) ?_
      refine mw_iload (i := 4) dL_last_41 rfl ?_
      refine mw_imul dL_last_43 ?_
      refine mw_iload (i := 6) dL_last_44 rfl ?_
      refine mw_iadd dL_last_46 ?_
      refine mw_iald dL_last_47 gl_4 (mw_ix (mx_12 m n) (by omega) (by decide)) ?_
      rw [hf.1, hc, nI_pred]
      refine mw_callSr dL_last_48 mk_L_82 ((c_isKnown hk hs hx)) (by decide) (Nat.le_refl _) (Nat.le_refl _) rfl rfl (Nat.le_of_ble_eq_true rfl) ?_
      by_cases ek : knb K s x = true
      · rw [if_pos ek, if_pos (by rw [hP, ek, decide_eq_true (by rw [et])]; rfl)]
        refine mw_if_eq (tgt := 63) dL_last_51 (by decide) (fun c9 => absurd c9 (by first | decide | (rw [pk_us]; decide))) (fun _ => ?_)
        refine mw_bipush (v := 12) dL_last_54 (by decide) ?_
        refine mw_iload (i := 4) dL_last_56 rfl ?_
        refine mw_imul dL_last_58 ?_
        refine mw_iload (i := 6) dL_last_59 rfl ?_
        refine mw_iadd dL_last_61 ?_
        rw [mx_12]
        exact mw_ireturn dL_last_62 ⟨_, rfl, rfl⟩ ⟨rfl, rfl⟩
      · rw [if_neg ek, if_neg (by rw [hP, Bool.eq_false_iff.mpr ek, Bool.and_false]; decide)]
        refine mw_if_eq (tgt := 63) dL_last_51 (by decide) (fun _ => ?_) (fun c9 => absurd c9 (by first | decide | (rw [pk_us]; decide)))
        refine mw_iinc_6 dL_last_63 (by decide) rfl ?_
        refine mw_goto (tgt := 8) dL_last_66 (by decide) ?_
        rw [nI_dec]
        exact ih
    · rw [if_neg (by rw [hP, decide_eq_false (fun z => et ((nI_eq (by omega) (by omega)).mp z)), Bool.false_and]; decide)]
      refine mw_iload (i := 5) dL_last_26 rfl ?_
      refine mw_icmp_ne (tgt := 63) dL_last_28 (by decide) (fun _ => ?_) (fun c9 => absurd c9 (by first | decide | exact (fun q => q rfl) | ((try simp only [fa_lit]); first | exact cq_le (by omega) (by omega) | exact cq_nle (by omega) (by omega) | exact cq_lt (by omega) (by omega) | exact cq_nlt (by omega) (by omega) | exact cq_eq (by omega) (by omega) (by omega) | exact cq_neq (by omega))))
      refine mw_iinc_6 dL_last_63 (by decide) rfl ?_
      refine mw_goto (tgt := 8) dL_last_66 (by decide) ?_
      rw [nI_dec]
      exact ih
theorem c_last (hk : kR K ns A) (hs : s < ns) (hc : A 2 m = nI (s + 1)) (ht2 : t ≤ 31) (hm : m < 5) (hok : ∀ x ∈ L, okf x) (hR : fR A X m L) : mw_Con mm_L_last 3 0 0 [.ref 43, .ref 45, .ref 46, .ref 47, .int (nI m), .int (nI t)] (gl H A X) (mw_ret (.int (lir (Pt K s (nI t)) (12 * m) L)) (gl H A X)) := by
  refine gm_con pl_L rfl rfl (Nat.le_of_ble_eq_true rfl) rfl ?_
  refine mw_aload_n (i := 2) dL_last_0 rfl rfl ?_
  refine mw_iload (i := 4) dL_last_1 rfl ?_
  refine mw_iald dL_last_3 gl_3 (mw_ix rfl hm (by decide)) ?_
  rw [hR.1]
  refine mw_iconst (v := 1) dL_last_4 (by decide) ?_
  refine mw_isub dL_last_5 ?_
  refine mw_istore_6 dL_last_6 (by decide) ?_
  exact lp_last hk hs hc ht2 hm hok hR L.length L [] rfl (by simp)
end LH2
