/-! canonical bytes, written into q -/
/-- the bytes Y from the place w on: the first 64 places alone are written -/
def wq (f : Nat → Int32) (w : Nat) (Y : List Nat) : Nat → Int32 := fun j => if w ≤ j ∧ j < w + Y.length ∧ j < 64 then nI (Y.getD (j - w) 0) else f j
theorem wq_nil (f : Nat → Int32) (w : Nat) : wq f w [] = f := by
  funext j
  unfold wq
  rw [if_neg (by rw [List.length_nil]; omega)]
theorem wq_app (f : Nat → Int32) (w : Nat) (Y Z : List Nat) : wq (wq f w Y) (w + Y.length) Z = wq f w (Y ++ Z) := by
  funext j
  unfold wq
  rw [List.length_append]
  by_cases h64 : j < 64
  · by_cases h1 : w ≤ j
    · by_cases h2 : j < w + Y.length
      · rw [if_neg (by omega), if_pos ⟨h1, h2, h64⟩, if_pos ⟨h1, by omega, h64⟩]
        congr 1
        rw [List.getD_eq_getElem?_getD, List.getD_eq_getElem?_getD, List.getElem?_append_left (by omega)]
      · by_cases h3 : j < w + Y.length + Z.length
        · rw [if_pos ⟨by omega, h3, h64⟩, if_pos ⟨h1, by omega, h64⟩]
          congr 1
          rw [List.getD_eq_getElem?_getD, List.getD_eq_getElem?_getD, List.getElem?_append_right (by omega)]
          congr 2
          omega
        · rw [if_neg (by omega), if_neg (by omega), if_neg (by omega)]
    · rw [if_neg (by omega), if_neg (by omega), if_neg (by omega)]
  · rw [if_neg (by omega), if_neg (by omega), if_neg (by omega)]
/-- .. and q's count -/
def AW (A : Nat → Nat → Int32) (w : Nat) (Y : List Nat) : Nat → Nat → Int32 := va_up (va_up A 9 (wq (A 9) w Y)) 11 (upd (A 11) 2 (nI (w + Y.length)))
theorem AW_n (A : Nat → Nat → Int32) (w : Nat) (Y : List Nat) {j : Nat} (h9 : j ≠ 9) (h11 : j ≠ 11) : AW A w Y j = A j := by
  unfold AW
  rw [va_up_ne _ _ h11, va_up_ne _ _ h9]
theorem AW_g (A : Nat → Nat → Int32) (w : Nat) (Y : List Nat) : AW A w Y 11 2 = nI (w + Y.length) := by
  unfold AW
  rw [va_up_self, pk_us]
theorem AW_q (A : Nat → Nat → Int32) (w : Nat) (Y : List Nat) : AW A w Y 9 = wq (A 9) w Y := by
  unfold AW
  rw [va_up_ne _ _ (by decide), va_up_self]
theorem AW_g' (A : Nat → Nat → Int32) (w : Nat) (Y : List Nat) : AW A w Y 11 = upd (A 11) 2 (nI (w + Y.length)) := by
  unfold AW
  rw [va_up_self]
theorem up2 {β : Type} (A : Nat → β) {i j : Nat} (h : i ≠ j) (a b c d : β) : va_up (va_up (va_up (va_up A i a) j b) i c) j d = va_up (va_up A i c) j d := by
  funext k
  unfold va_up
  by_cases e : k = j
  · simp [e]
  · by_cases e2 : k = i
    · simp [e, e2]
    · simp [e, e2]
theorem AW_app (A : Nat → Nat → Int32) (w : Nat) (Y Z : List Nat) : AW (AW A w Y) (w + Y.length) Z = AW A w (Y ++ Z) := by
  have h : AW (AW A w Y) (w + Y.length) Z = va_up (va_up (AW A w Y) 9 (wq (AW A w Y 9) (w + Y.length) Z)) 11 (upd (AW A w Y 11) 2 (nI (w + Y.length + Z.length))) := rfl
  rw [h, AW_q, AW_g', wq_app, fa_upd_twice]
  unfold AW
  rw [up2 A (by decide), List.length_append, Nat.add_assoc]
theorem AW_0 (A : Nat → Nat → Int32) : va_up A 11 (upd (A 11) 2 0) = AW A 0 [] := by
  unfold AW
  rw [wq_nil, up_same]
  rfl
theorem AW_w (A : Nat → Nat → Int32) {w : Nat} (h : A 11 2 = nI w) : AW A w [] = A := by
  unfold AW
  rw [wq_nil, up_same, fa_upd_same (show A 11 2 = nI (w + [].length) from h), up_same]
theorem eg_get : ∀ (r v i : Nat), v < 2 ^ (7 * (r + 1)) → i < (eg r v).length → (eg r v).getD i 0 = v / 2 ^ (7 * i) % 128 + if i + 1 < (eg r v).length then 128 else 0
  | 0, v, i, hv, hi => by
    have hv : v < 128 := hv
    have hi : i < 1 := hi
    have hi : i = 0 := by omega
    subst hi
    show v = v / 2 ^ 0 % 128 + 0
    rw [Nat.pow_zero, Nat.div_one, Nat.mod_eq_of_lt hv, Nat.add_zero]
  | r + 1, v, i, hv, hi => by
    have hp : (2 : Nat) ^ (7 * (r + 1 + 1)) = 2 ^ (7 * (r + 1)) * 128 := by rw [show 7 * (r + 1 + 1) = 7 * (r + 1) + 7 by omega, Nat.pow_add]
    rw [hp] at hv
    unfold eg at hi ⊢
    by_cases e : v / 128 = 0
    · rw [if_pos e] at hi ⊢
      have hi : i < 1 := hi
      have hi : i = 0 := by omega
      subst hi
      show v = v / 2 ^ 0 % 128 + 0
      rw [Nat.pow_zero, Nat.div_one, Nat.mod_eq_of_lt (by omega), Nat.add_zero]
    · rw [if_neg e] at hi ⊢
      have hpos := eg_pos r (v / 128)
      cases i with
      | zero =>
        show v % 128 + 128 = v / 2 ^ 0 % 128 + _
        rw [Nat.pow_zero, Nat.div_one, if_pos (by rw [List.length_cons]; omega)]
      | succ i =>
        rw [List.length_cons] at hi ⊢
        have ih := eg_get r (v / 128) i (by rw [Nat.div_lt_iff_lt_mul (by decide)]; exact hv) (by omega)
        rw [show ((v % 128 + 128) :: eg r (v / 128)).getD (i + 1) 0 = (eg r (v / 128)).getD i 0 from rfl, ih, Nat.div_div_eq_div_mul, show 128 * 2 ^ (7 * i) = 2 ^ (7 * (i + 1)) by rw [show 7 * (i + 1) = 7 + 7 * i by omega, Nat.pow_add]]
        congr 1
        by_cases z : i + 1 < (eg r (v / 128)).length
        · rw [if_pos z, if_pos (by omega)]
        · rw [if_neg z, if_neg (by omega)]
theorem ush_7 {v i : Nat} (hv : v < 2 ^ 32) (hi : i ≤ 4) : ((nI v).toUInt32 >>> ((7 * nI i).toUInt32 &&& Int32.toUInt32 31)).toInt32 = nI (v / 2 ^ (7 * i)) := by
  have h : i = 0 ∨ i = 1 ∨ i = 2 ∨ i = 3 ∨ i = 4 := by omega
  refine ush_k hv (7 * nI i) (7 * i) ?_
  rcases h with rfl | rfl | rfl | rfl | rfl <;> decide
theorem take_get (Y : List Nat) {i : Nat} (hi : i < Y.length) : Y.take i ++ [Y.getD i 0] = Y.take (i + 1) := by
  rw [List.take_add_one, List.getD_eq_getElem?_getD, List.getElem?_eq_getElem hi]
  rfl
/-- a byte of a FIXED field's value -/
theorem four_get {v i : Nat} (hv : v < 2 ^ 32) (hi : i < 4) : (nI v >>> ((8 * nI i) &&& 31)) &&& 255 = nI ((four v).getD i 0) := by
  have hx : ∀ (x : Int32) (k : Nat), k ≤ 24 → ∀ s : Int32, (s.toBitVec.smod 32).toNat = k → (x >>> s) &&& 255 = nI (x.toBitVec.toNat / 2 ^ k % 256) := by
    intro x k hk s hs
    apply Int32.toBitVec_inj.mp
    rw [Int32.toBitVec_and, Int32.toBitVec_shiftRight, show (255 : Int32).toBitVec = BitVec.ofNat 32 (2 ^ 8 - 1) from rfl, show (nI (x.toBitVec.toNat / 2 ^ k % 256)).toBitVec = BitVec.ofNat 32 (x.toBitVec.toNat / 2 ^ k % 256) from rfl]
    apply BitVec.eq_of_getLsbD_eq
    intro i hi
    rw [BitVec.getLsbD_and, BitVec.sshiftRight_eq', hs, BitVec.getLsbD_sshiftRight, BitVec.getLsbD_ofNat, BitVec.getLsbD_ofNat, Nat.testBit_two_pow_sub_one, show 256 = 2 ^ 8 from rfl, Nat.testBit_mod_two_pow, Nat.testBit_div_two_pow]
    by_cases h8 : i < 8
    · rw [if_pos (show k + i < 32 by omega)]
      have h64 : ¬ 32 ≤ i := by omega
      simp [h8, hi, h64, BitVec.getLsbD, Nat.add_comm]
    · simp [h8]
  have h := hx (nI v) (8 * i) (by omega) ((8 * nI i) &&& 31) (by
    have h : i = 0 ∨ i = 1 ∨ i = 2 ∨ i = 3 := by omega
    rcases h with rfl | rfl | rfl | rfl <;> decide)
  rw [h, pk_tn hv]
  have h : i = 0 ∨ i = 1 ∨ i = 2 ∨ i = 3 := by omega
  rcases h with rfl | rfl | rfl | rfl
  · show nI (v / 1 % 256) = nI (v % 256)
    rw [Nat.div_one]
  · rfl
  · rfl
  · rfl
theorem four_lt {v i : Nat} : (four v).getD i 0 < 256 := by
  match i with
  | 0 => exact Nat.mod_lt _ (by decide)
  | 1 => exact Nat.mod_lt _ (by decide)
  | 2 => exact Nat.mod_lt _ (by decide)
  | 3 => exact Nat.mod_lt _ (by decide)
  | i + 4 => exact Nat.lt_of_le_of_lt (Nat.le_refl 0) (by decide)
section LH4
variable {H : mw_H} {A : Nat → Nat → Int32} {X : Nat → Nat → Int64} {K : Nat → Nat → Int32} {ns s t m p w : Nat} {x : af} {L L1 L2 : List af}
theorem c_writes {z : Int32} {b : Nat} (hw : w < 2 ^ 20) (hg : A 11 2 = nI w) (hz : z &&& 255 = nI b) : mw_Con mm_L_writes 0 0 0 [.ref 52, .ref 54, .int z] (gl H A X) (mw_void (gl H (AW A w [b]) X)) := by
  refine gm_con pl_L rfl rfl (Nat.le_of_ble_eq_true rfl) rfl ?_
  refine mw_aload_n (i := 1) dL_writes_0 rfl rfl ?_
  refine mw_iconst (v := 2) dL_writes_1 (by decide) ?_
  refine mw_iald dL_writes_2 gl_11 (mw_ix (j := 2) rfl (by decide) (by decide)) ?_
  rw [hg]
  by_cases e : w < 64
  · refine mw_bipush (v := 64) dL_writes_3 (by decide) ?_
    refine mw_icmp_ge (tgt := 18) dL_writes_5 (by decide) (fun c9 => absurd c9 (by first | decide | exact (fun q => q rfl) | ((try simp only [fa_lit]); first | exact cq_le (by omega) (by omega) | exact cq_nle (by omega) (by omega) | exact cq_lt (by omega) (by omega) | exact cq_nlt (by omega) (by omega) | exact cq_eq (by omega) (by omega) (by omega) | exact cq_neq (by omega)))) (fun _ => ?_)
    refine mw_aload_n (i := 0) dL_writes_8 rfl rfl ?_
    refine mw_aload_n (i := 1) dL_writes_9 rfl rfl ?_
    refine mw_iconst (v := 2) dL_writes_10 (by decide) ?_
    refine mw_iald dL_writes_11 gl_11 (mw_ix (j := 2) rfl (by decide) (by decide)) ?_
    rw [hg]
    refine mw_iload_n (i := 2) dL_writes_12 rfl rfl ?_
    refine mw_sipush (v := 255) dL_writes_13 (by decide) ?_
    refine mw_iand dL_writes_16 ?_
    rw [hz]
    refine gl_st9 dL_writes_17 (mw_ix rfl e (by decide)) ?_
    refine mw_aload_n (i := 1) dL_writes_18 rfl rfl ?_
    refine mw_iconst (v := 2) dL_writes_19 (by decide) ?_
    refine mw_dup2 dL_writes_20 rfl rfl ?_
    refine mw_iald dL_writes_21 gl_11 (mw_ix (j := 2) rfl (by decide) (by decide)) ?_
    refine mw_top (show va_up A 9 (upd (A 9) w (nI b)) 11 2 = nI w by rw [va_up_ne _ _ (by decide)]; exact hg) ?_
    refine mw_iconst (v := 1) dL_writes_22 (by decide) ?_
    refine mw_iadd dL_writes_23 ?_
    refine gl_st11 dL_writes_24 (mw_ix (j := 2) rfl (by decide) (by decide)) ?_
    refine mw_return dL_writes_25 rfl ⟨rfl, ?_⟩
    congr 1
    unfold AW
    rw [va_up_ne _ _ (by decide)]
    congr 2
    · congr 1
      funext j
      unfold wq upd
      by_cases ej : j = w
      · subst ej
        rw [if_pos rfl, if_pos ⟨Nat.le_refl _, by rw [List.length_singleton]; omega, e⟩, Nat.sub_self]
        rfl
      · rw [if_neg ej, if_neg (by rw [List.length_singleton]; omega)]
    · exact nI_1 w
  · refine mw_bipush (v := 64) dL_writes_3 (by decide) ?_
    refine mw_icmp_ge (tgt := 18) dL_writes_5 (by decide) (fun _ => ?_) (fun c9 => absurd c9 (by first | decide | exact (fun q => q rfl) | ((try simp only [fa_lit]); first | exact cq_le (by omega) (by omega) | exact cq_nle (by omega) (by omega) | exact cq_lt (by omega) (by omega) | exact cq_nlt (by omega) (by omega) | exact cq_eq (by omega) (by omega) (by omega) | exact cq_neq (by omega))))
    refine mw_aload_n (i := 1) dL_writes_18 rfl rfl ?_
    refine mw_iconst (v := 2) dL_writes_19 (by decide) ?_
    refine mw_dup2 dL_writes_20 rfl rfl ?_
    refine mw_iald dL_writes_21 gl_11 (mw_ix (j := 2) rfl (by decide) (by decide)) ?_
    rw [hg]
    refine mw_iconst (v := 1) dL_writes_22 (by decide) ?_
    refine mw_iadd dL_writes_23 ?_
    refine gl_st11 dL_writes_24 (mw_ix (j := 2) rfl (by decide) (by decide)) ?_
    refine mw_return dL_writes_25 rfl ⟨rfl, ?_⟩
    congr 1
    unfold AW
    rw [show wq (A 9) w [b] = A 9 from funext fun j => if_neg (by rw [List.length_singleton]; omega), up_same]
    congr 2
    exact nI_1 w
theorem lp_writeGroups {v : Nat} (hv : v < 2 ^ 32) (hw : w < 2 ^ 10) : ∀ (n i : Nat), i + n = (egr v).length → mw_W mm_L_writeGroups 1 0 0 8 [some (.ref 52), some (.ref 54), some (.int (nI v)), some (.int (nI (egr v).length)), some (.int (nI i))] [] (gl H (AW A w ((egr v).take i)) X) (mw_void (gl H (AW A w (egr v)) X)) := by
  have h5 : (egr v).length ≤ 5 := eg_len5 4 v
  intro n
  induction n with
  | zero =>
    intro i hi
    rw [Nat.add_zero] at hi
    rw [hi, List.take_length]
    refine mw_iload (i := 4) dL_writeGroups_8 rfl ?_
    refine mw_iload_n (i := 3) dL_writeGroups_10 rfl rfl ?_
    refine mw_icmp_ge (tgt := 51) dL_writeGroups_11 (by decide) (fun _ => ?_) (fun c9 => absurd c9 (by first | decide | exact (fun q => q rfl) | ((try simp only [fa_lit]); first | exact cq_le (by omega) (by omega) | exact cq_nle (by omega) (by omega) | exact cq_lt (by omega) (by omega) | exact cq_nlt (by omega) (by omega) | exact cq_eq (by omega) (by omega) (by omega) | exact cq_neq (by omega))))
    exact mw_return dL_writeGroups_51 rfl ⟨rfl, rfl⟩
  | succ n ih =>
    intro i hi
    have hi2 : i < (egr v).length := by omega
    have hl : ((egr v).take i).length = i := by rw [List.length_take]; omega
    have hget := eg_get 4 v i (by show v < 2 ^ 35; omega) hi2
    have hmod := Nat.mod_lt (v / 2 ^ (7 * i)) (show 0 < 128 by decide)
    have h9 := ih (i + 1) (by omega)
    have hc : ∀ z, z &&& 255 = nI ((egr v).getD i 0) → mw_Con mm_L_writes 0 0 0 [.ref 52, .ref 54, .int z] (gl H (AW A w ((egr v).take i)) X) (mw_void (gl H (AW A w ((egr v).take (i + 1))) X)) := by
      intro z hz
      have h := c_writes (H := H) (A := AW A w ((egr v).take i)) (X := X) (w := w + ((egr v).take i).length) (by omega) (AW_g _ _ _) hz
      rw [AW_app, take_get _ hi2] at h
      exact h
    refine mw_iload (i := 4) dL_writeGroups_8 rfl ?_
    refine mw_iload_n (i := 3) dL_writeGroups_10 rfl rfl ?_
    refine mw_icmp_ge (tgt := 51) dL_writeGroups_11 (by decide) (fun c9 => absurd c9 (by first | decide | exact (fun q => q rfl) | ((try simp only [fa_lit]); first | exact cq_le (by omega) (by omega) | exact cq_nle (by omega) (by omega) | exact cq_lt (by omega) (by omega) | exact cq_nlt (by omega) (by omega) | exact cq_eq (by omega) (by omega) (by omega) | exact cq_neq (by omega)))) (fun _ => ?_)
    refine mw_aload_n (i := 0) dL_writeGroups_14 rfl rfl ?_
    refine mw_aload_n (i := 1) dL_writeGroups_15 rfl rfl ?_
    refine mw_iload_n (i := 2) dL_writeGroups_16 rfl rfl ?_
    refine mw_bipush (v := 7) dL_writeGroups_17 (by decide) ?_
    refine mw_iload (i := 4) dL_writeGroups_19 rfl ?_
    refine mw_imul dL_writeGroups_21 ?_
    refine mw_iushr dL_writeGroups_22 (ush_7 hv (by omega)) ?_
    refine mw_bipush (v := 127) dL_writeGroups_23 (by decide) ?_
    refine mw_iand dL_writeGroups_25 ?_
    have hd7 : v / 2 ^ (7 * i) < 2 ^ 32 := Nat.lt_of_le_of_lt (Nat.div_le_self _ _) hv
    rw [show nI (v / 2 ^ (7 * i)) &&& 127 = nI (v / 2 ^ (7 * i) % 128) from pk_andN hd7 7 (by decide)]
    refine mw_iload (i := 4) dL_writeGroups_26 rfl ?_
    refine mw_iload_n (i := 3) dL_writeGroups_28 rfl rfl ?_
    refine mw_iconst (v := 1) dL_writeGroups_29 (by decide) ?_
    refine mw_isub dL_writeGroups_30 ?_
    rw [show nI (egr v).length - 1 = nI ((egr v).length - 1) from pk_sub (b := 1) (by omega)]
    by_cases e : i + 1 < (egr v).length
    · rw [if_pos (show i + 1 < (eg 4 v).length from e)] at hget
      have hget : (egr v).getD i 0 = v / 2 ^ (7 * i) % 128 + 128 := hget
      refine mw_icmp_ge (tgt := 40) dL_writeGroups_31 (by decide) (fun c9 => absurd c9 (by first | decide | exact (fun q => q rfl) | ((try simp only [fa_lit]); first | exact cq_le (by omega) (by omega) | exact cq_nle (by omega) (by omega) | exact cq_lt (by omega) (by omega) | exact cq_nlt (by omega) (by omega) | exact cq_eq (by omega) (by omega) (by omega) | exact cq_neq (by omega)))) (fun _ => ?_)
      refine mw_sipush (v := 128) dL_writeGroups_34 (by decide) ?_
      refine mw_goto (tgt := 41) dL_writeGroups_37 (by decide) ?_
      refine mw_iadd dL_writeGroups_41 ?_
      rw [show nI (v / 2 ^ (7 * i) % 128) + 128 = nI (v / 2 ^ (7 * i) % 128 + 128) from nI_add _ 128]
      refine mw_callSv dL_writeGroups_42 mk_L_96 ((hc _ (by rw [hget]; exact (pk_andN (by omega) 8 (by decide)).trans (by rw [Nat.mod_eq_of_lt (by omega)])))) (by decide) (Nat.le_refl _) (Nat.le_refl _) rfl rfl (Nat.le_of_ble_eq_true rfl) ?_
      refine mw_iinc_4 dL_writeGroups_45 (by decide) rfl ?_
      refine mw_goto (tgt := 8) dL_writeGroups_48 (by decide) ?_
      rw [show nI i + Int32.ofInt 1 = nI (i + 1) from nI_1 _]
      exact h9
    · rw [if_neg (show ¬ i + 1 < (eg 4 v).length from e)] at hget
      have hget : (egr v).getD i 0 = v / 2 ^ (7 * i) % 128 := hget
      refine mw_icmp_ge (tgt := 40) dL_writeGroups_31 (by decide) (fun _ => ?_) (fun c9 => absurd c9 (by first | decide | exact (fun q => q rfl) | ((try simp only [fa_lit]); first | exact cq_le (by omega) (by omega) | exact cq_nle (by omega) (by omega) | exact cq_lt (by omega) (by omega) | exact cq_nlt (by omega) (by omega) | exact cq_eq (by omega) (by omega) (by omega) | exact cq_neq (by omega))))
      refine mw_iconst (v := 0) dL_writeGroups_40 (by decide) ?_
      refine mw_iadd dL_writeGroups_41 ?_
      rw [show nI (v / 2 ^ (7 * i) % 128) + 0 = nI (v / 2 ^ (7 * i) % 128) from nI_add _ 0]
      refine mw_callSv dL_writeGroups_42 mk_L_96 ((hc _ (by rw [hget]; exact (pk_andN (by omega) 8 (by decide)).trans (by rw [Nat.mod_eq_of_lt (by omega)])))) (by decide) (Nat.le_refl _) (Nat.le_refl _) rfl rfl (Nat.le_of_ble_eq_true rfl) ?_
      refine mw_iinc_4 dL_writeGroups_45 (by decide) rfl ?_
      refine mw_goto (tgt := 8) dL_writeGroups_48 (by decide) ?_
      rw [show nI i + Int32.ofInt 1 = nI (i + 1) from nI_1 _]
      exact h9
theorem c_writeGroups {v : Nat} (hv : v < 2 ^ 32) (hw : w < 2 ^ 10) (hg : A 11 2 = nI w) : mw_Con mm_L_writeGroups 1 0 0 [.ref 52, .ref 54, .int (nI v)] (gl H A X) (mw_void (gl H (AW A w (egr v)) X)) := by
  refine gm_con pl_L rfl rfl (Nat.le_of_ble_eq_true rfl) rfl ?_
  refine mw_iload_n (i := 2) dL_writeGroups_0 rfl rfl ?_
  refine mw_callSr dL_writeGroups_1 mk_L_73 ((c_groups hv)) (by decide) (Nat.le_refl _) (Nat.le_refl _) rfl rfl (Nat.le_of_ble_eq_true rfl) ?_
  refine mw_istore_3 dL_writeGroups_4 (by decide) ?_
  refine mw_iconst (v := 0) dL_writeGroups_5 (by decide) ?_
  refine mw_istore_4 dL_writeGroups_6 (by decide) ?_
  have h9 := lp_writeGroups (H := H) (A := A) (X := X) hv hw (egr v).length 0 (by omega)
  rw [List.take_zero, AW_w A hg] at h9
  exact h9
/-- the writer's last loop: bytes -/
theorem lp_writeB (hp : p < 60) (hw : w < 2 ^ 10) {Z : List Nat} (hZ : Z.length ≤ 16) (hkey : A 4 p = nI (8 * x.1 + x.2.1)) (hx : okf x) (hv : A 5 p = nI x.2.2.1) (e2 : x.2.1 = 2) (h16 : x.2.2.1 ≤ 16) (hb : ∀ j, j < 16 → bt2 X p j = x.2.2.2.getD j 0) : ∀ (n i : Nat), i + n = x.2.2.1 → mw_W mm_L_writeField 2 0 0 79 [some (.ref 47), some (.ref 48), some (.ref 49), some (.ref 50), some (.ref 52), some (.ref 54), some (.int (nI p)), some (.int (nI i))] [] (gl H (AW A w (Z ++ x.2.2.2.take i)) X) (mw_void (gl H (AW A w (Z ++ x.2.2.2)) X)) := by
  obtain ⟨k1, k2, k3⟩ := okf_key hx
  have hlen := hx.2.2.2.2.1 e2
  have hlt := hx.2.2.2.2.2.2
  intro n
  induction n with
  | zero =>
    intro i hi
    refine mw_aload_n (i := 0) dL_writeField_79 rfl rfl ?_
    refine mw_iload (i := 6) dL_writeField_80 rfl ?_
    refine mw_iald dL_writeField_82 gl_4 (mw_ix rfl hp (by decide)) ?_
    refine mw_top ((congrFun (AW_n A w _ (by decide) (by decide)) p).trans hkey) ?_
    refine mw_bipush (v := 8) dL_writeField_83 (by decide) ?_
    refine mw_irem dL_writeField_85 (by decide) ?_
    rw [mx_r8 (by omega), k3]
    refine mw_iconst (v := 2) dL_writeField_86 (by decide) ?_
    refine mw_icmp_ne (tgt := 121) dL_writeField_87 (by decide) (fun c9 => absurd c9 (by first | decide | exact (fun q => q rfl) | ((try simp only [fa_lit]); first | exact cq_le (by omega) (by omega) | exact cq_nle (by omega) (by omega) | exact cq_lt (by omega) (by omega) | exact cq_nlt (by omega) (by omega) | exact cq_eq (by omega) (by omega) (by omega) | exact cq_neq (by omega)))) (fun _ => ?_)
    refine mw_iload (i := 7) dL_writeField_90 rfl ?_
    refine mw_aload_n (i := 1) dL_writeField_92 rfl rfl ?_
    refine mw_iload (i := 6) dL_writeField_93 rfl ?_
    refine mw_iald dL_writeField_95 gl_5 (mw_ix rfl hp (by decide)) ?_
    refine mw_top ((congrFun (AW_n A w _ (by decide) (by decide)) p).trans hv) ?_
    refine mw_icmp_ge (tgt := 121) dL_writeField_96 (by decide) (fun _ => ?_) (fun c9 => absurd c9 (by first | decide | exact (fun q => q rfl) | ((try simp only [fa_lit]); first | exact cq_le (by omega) (by omega) | exact cq_nle (by omega) (by omega) | exact cq_lt (by omega) (by omega) | exact cq_nlt (by omega) (by omega) | exact cq_eq (by omega) (by omega) (by omega) | exact cq_neq (by omega))))
    refine mw_return dL_writeField_121 rfl ⟨rfl, ?_⟩
    rw [show i = x.2.2.2.length by omega, List.take_length]
  | succ n ih =>
    intro i hi
    have hi2 : i < x.2.2.2.length := by omega
    have hbi := hb i (by omega)
    have hbl : x.2.2.2.getD i 0 < 256 := by rw [← hbi]; unfold bt2; split <;> exact lb_lt _ _
    have hl : (Z ++ x.2.2.2.take i).length = Z.length + i := by rw [List.length_append, List.length_take]; omega
    refine mw_aload_n (i := 0) dL_writeField_79 rfl rfl ?_
    refine mw_iload (i := 6) dL_writeField_80 rfl ?_
    refine mw_iald dL_writeField_82 gl_4 (mw_ix rfl hp (by decide)) ?_
    refine mw_top ((congrFun (AW_n A w _ (by decide) (by decide)) p).trans hkey) ?_
    refine mw_bipush (v := 8) dL_writeField_83 (by decide) ?_
    refine mw_irem dL_writeField_85 (by decide) ?_
    rw [mx_r8 (by omega), k3]
    refine mw_iconst (v := 2) dL_writeField_86 (by decide) ?_
    refine mw_icmp_ne (tgt := 121) dL_writeField_87 (by decide) (fun c9 => absurd c9 (by first | decide | exact (fun q => q rfl) | ((try simp only [fa_lit]); first | exact cq_le (by omega) (by omega) | exact cq_nle (by omega) (by omega) | exact cq_lt (by omega) (by omega) | exact cq_nlt (by omega) (by omega) | exact cq_eq (by omega) (by omega) (by omega) | exact cq_neq (by omega)))) (fun _ => ?_)
    refine mw_iload (i := 7) dL_writeField_90 rfl ?_
    refine mw_aload_n (i := 1) dL_writeField_92 rfl rfl ?_
    refine mw_iload (i := 6) dL_writeField_93 rfl ?_
    refine mw_iald dL_writeField_95 gl_5 (mw_ix rfl hp (by decide)) ?_
    refine mw_top ((congrFun (AW_n A w _ (by decide) (by decide)) p).trans hv) ?_
    refine mw_icmp_ge (tgt := 121) dL_writeField_96 (by decide) (fun c9 => absurd c9 (by first | decide | exact (fun q => q rfl) | ((try simp only [fa_lit]); first | exact cq_le (by omega) (by omega) | exact cq_nle (by omega) (by omega) | exact cq_lt (by omega) (by omega) | exact cq_nlt (by omega) (by omega) | exact cq_eq (by omega) (by omega) (by omega) | exact cq_neq (by omega)))) (fun _ => ?_)
    refine mw_aload (i := 4) dL_writeField_99 rfl ?_
    refine mw_aload (i := 5) dL_writeField_101 rfl ?_
    refine mw_aload_n (i := 2) dL_writeField_103 rfl rfl ?_
    refine mw_aload_n (i := 3) dL_writeField_104 rfl rfl ?_
    refine mw_iload (i := 6) dL_writeField_105 rfl ?_
    refine mw_iload (i := 7) dL_writeField_107 rfl ?_
    refine mw_callSr dL_writeField_109 mk_L_103 ((c_byteAt hp (by omega))) (by decide) (Nat.le_refl _) (Nat.le_refl _) rfl rfl (Nat.le_of_ble_eq_true rfl) ?_
    rw [hbi]
    have h := c_writes (H := H) (A := AW A w (Z ++ x.2.2.2.take i)) (X := X) (w := w + (Z ++ x.2.2.2.take i).length) (z := nI (x.2.2.2.getD i 0)) (b := x.2.2.2.getD i 0) (by omega) (AW_g _ _ _) ((pk_andN (by omega) 8 (by decide)).trans (by rw [Nat.mod_eq_of_lt (by omega)]))
    rw [AW_app, List.append_assoc, take_get _ hi2] at h
    refine mw_callSv dL_writeField_112 mk_L_96 (h) (by decide) (Nat.le_refl _) (Nat.le_refl _) rfl rfl (Nat.le_of_ble_eq_true rfl) ?_
    refine mw_iinc_7 dL_writeField_115 (by decide) rfl ?_
    refine mw_goto (tgt := 79) dL_writeField_118 (by decide) ?_
    rw [show nI i + Int32.ofInt 1 = nI (i + 1) from nI_1 _]
    exact ih (i + 1) (by omega)
theorem lp_write4 (hp : p < 60) (hw : w < 2 ^ 10) {Z : List Nat} (hZ : Z.length ≤ 16) (hkey : A 4 p = nI (8 * x.1 + x.2.1)) (hx : okf x) (hv : A 5 p = nI x.2.2.1) (e5 : x.2.1 = 5) : ∀ (n i : Nat), i + n = 4 → mw_W mm_L_writeField 2 0 0 36 [some (.ref 47), some (.ref 48), some (.ref 49), some (.ref 50), some (.ref 52), some (.ref 54), some (.int (nI p)), some (.int (nI i))] [] (gl H (AW A w (Z ++ (four x.2.2.1).take i)) X) (mw_void (gl H (AW A w (Z ++ four x.2.2.1)) X)) := by
  obtain ⟨k1, k2, k3⟩ := okf_key hx
  have hv32 := hx.2.2.2.1
  intro n
  induction n with
  | zero =>
    intro i hi
    refine mw_aload_n (i := 0) dL_writeField_36 rfl rfl ?_
    refine mw_iload (i := 6) dL_writeField_37 rfl ?_
    refine mw_iald dL_writeField_39 gl_4 (mw_ix rfl hp (by decide)) ?_
    refine mw_top ((congrFun (AW_n A w _ (by decide) (by decide)) p).trans hkey) ?_
    refine mw_bipush (v := 8) dL_writeField_40 (by decide) ?_
    refine mw_irem dL_writeField_42 (by decide) ?_
    rw [mx_r8 (by omega), k3]
    refine mw_iconst (v := 5) dL_writeField_43 (by decide) ?_
    refine mw_icmp_ne (tgt := 76) dL_writeField_44 (by decide) (fun c9 => absurd c9 (by first | decide | exact (fun q => q rfl) | ((try simp only [fa_lit]); first | exact cq_le (by omega) (by omega) | exact cq_nle (by omega) (by omega) | exact cq_lt (by omega) (by omega) | exact cq_nlt (by omega) (by omega) | exact cq_eq (by omega) (by omega) (by omega) | exact cq_neq (by omega)))) (fun _ => ?_)
    refine mw_iload (i := 7) dL_writeField_47 rfl ?_
    refine mw_iconst (v := 4) dL_writeField_49 (by decide) ?_
    refine mw_icmp_ge (tgt := 76) dL_writeField_50 (by decide) (fun _ => ?_) (fun c9 => absurd c9 (by first | decide | exact (fun q => q rfl) | ((try simp only [fa_lit]); first | exact cq_le (by omega) (by omega) | exact cq_nle (by omega) (by omega) | exact cq_lt (by omega) (by omega) | exact cq_nlt (by omega) (by omega) | exact cq_eq (by omega) (by omega) (by omega) | exact cq_neq (by omega))))
    refine mw_iconst (v := 0) dL_writeField_76 (by decide) ?_
    refine mw_istore_7 dL_writeField_77 (by decide) ?_
    refine mw_aload_n (i := 0) dL_writeField_79 rfl rfl ?_
    refine mw_iload (i := 6) dL_writeField_80 rfl ?_
    refine mw_iald dL_writeField_82 gl_4 (mw_ix rfl hp (by decide)) ?_
    refine mw_top ((congrFun (AW_n A w _ (by decide) (by decide)) p).trans hkey) ?_
    refine mw_bipush (v := 8) dL_writeField_83 (by decide) ?_
    refine mw_irem dL_writeField_85 (by decide) ?_
    rw [mx_r8 (by omega), k3]
    refine mw_iconst (v := 2) dL_writeField_86 (by decide) ?_
    refine mw_icmp_ne (tgt := 121) dL_writeField_87 (by decide) (fun _ => ?_) (fun c9 => absurd c9 (by first | decide | exact (fun q => q rfl) | ((try simp only [fa_lit]); first | exact cq_le (by omega) (by omega) | exact cq_nle (by omega) (by omega) | exact cq_lt (by omega) (by omega) | exact cq_nlt (by omega) (by omega) | exact cq_eq (by omega) (by omega) (by omega) | exact cq_neq (by omega))))
    refine mw_return dL_writeField_121 rfl ⟨rfl, ?_⟩
    rw [show i = 4 by omega]
    rfl
  | succ n ih =>
    intro i hi
    have hi4 : i < 4 := by omega
    have hl : (Z ++ (four x.2.2.1).take i).length = Z.length + i := by rw [List.length_append, List.length_take, four_len]; omega
    refine mw_aload_n (i := 0) dL_writeField_36 rfl rfl ?_
    refine mw_iload (i := 6) dL_writeField_37 rfl ?_
    refine mw_iald dL_writeField_39 gl_4 (mw_ix rfl hp (by decide)) ?_
    refine mw_top ((congrFun (AW_n A w _ (by decide) (by decide)) p).trans hkey) ?_
    refine mw_bipush (v := 8) dL_writeField_40 (by decide) ?_
    refine mw_irem dL_writeField_42 (by decide) ?_
    rw [mx_r8 (by omega), k3]
    refine mw_iconst (v := 5) dL_writeField_43 (by decide) ?_
    refine mw_icmp_ne (tgt := 76) dL_writeField_44 (by decide) (fun c9 => absurd c9 (by first | decide | exact (fun q => q rfl) | ((try simp only [fa_lit]); first | exact cq_le (by omega) (by omega) | exact cq_nle (by omega) (by omega) | exact cq_lt (by omega) (by omega) | exact cq_nlt (by omega) (by omega) | exact cq_eq (by omega) (by omega) (by omega) | exact cq_neq (by omega)))) (fun _ => ?_)
    refine mw_iload (i := 7) dL_writeField_47 rfl ?_
    refine mw_iconst (v := 4) dL_writeField_49 (by decide) ?_
    refine mw_icmp_ge (tgt := 76) dL_writeField_50 (by decide) (fun c9 => absurd c9 (by first | decide | exact (fun q => q rfl) | ((try simp only [fa_lit]); first | exact cq_le (by omega) (by omega) | exact cq_nle (by omega) (by omega) | exact cq_lt (by omega) (by omega) | exact cq_nlt (by omega) (by omega) | exact cq_eq (by omega) (by omega) (by omega) | exact cq_neq (by omega)))) (fun _ => ?_)
    refine mw_aload (i := 4) dL_writeField_53 rfl ?_
    refine mw_aload (i := 5) dL_writeField_55 rfl ?_
    refine mw_aload_n (i := 1) dL_writeField_57 rfl rfl ?_
    refine mw_iload (i := 6) dL_writeField_58 rfl ?_
    refine mw_iald dL_writeField_60 gl_5 (mw_ix rfl hp (by decide)) ?_
    refine mw_top ((congrFun (AW_n A w _ (by decide) (by decide)) p).trans hv) ?_
    have h := c_writes (H := H) (A := AW A w (Z ++ (four x.2.2.1).take i)) (X := X) (w := w + (Z ++ (four x.2.2.1).take i).length) (b := (four x.2.2.1).getD i 0) (by omega) (AW_g _ _ _) (four_get hv32 hi4)
    rw [AW_app, List.append_assoc, take_get _ (by rw [four_len]; exact hi4)] at h
    refine mw_bipush (v := 8) dL_writeField_61 (by decide) ?_
    refine mw_iload (i := 7) dL_writeField_63 rfl ?_
    refine mw_imul dL_writeField_65 ?_
    refine mw_ishr dL_writeField_66 ?_
    refine mw_callSv dL_writeField_67 mk_L_96 (h) (by decide) (Nat.le_refl _) (Nat.le_refl _) rfl rfl (Nat.le_of_ble_eq_true rfl) ?_
    refine mw_iinc_7 dL_writeField_70 (by decide) rfl ?_
    refine mw_goto (tgt := 36) dL_writeField_73 (by decide) ?_
    rw [show nI i + Int32.ofInt 1 = nI (i + 1) from nI_1 _]
    exact ih (i + 1) (by omega)
theorem c_writeField (hp : p < 60) (hw : w < 2 ^ 9) (hg : A 11 2 = nI w) (hx : okf x) (hf : fC A X p x) : mw_Con mm_L_writeField 2 0 0 [.ref 47, .ref 48, .ref 49, .ref 50, .ref 52, .ref 54, .int (nI p)] (gl H A X) (mw_void (gl H (AW A w (ef x)) X)) := by
  obtain ⟨hkey, hv, hb⟩ := hf
  obtain ⟨k1, k2, k3⟩ := okf_key hx
  obtain ⟨o1, o2, o3, hv32, o5, o6, o7⟩ := id hx
  have hq : 8 * x.1 + x.2.1 < 2 ^ 32 := by omega
  have hl1 : (egr (8 * x.1 + x.2.1)).length ≤ 5 := eg_len5 4 _
  have hl2 : (egr x.2.2.1).length ≤ 5 := eg_len5 4 _
  have hef : ef x = egr (8 * x.1 + x.2.1) ++ (if x.2.1 = 5 then four x.2.2.1 else egr x.2.2.1) ++ x.2.2.2 := rfl
  refine gm_con pl_L rfl rfl (Nat.le_of_ble_eq_true rfl) rfl ?_
  refine mw_aload (i := 4) dL_writeField_0 rfl ?_
  refine mw_aload (i := 5) dL_writeField_2 rfl ?_
  refine mw_aload_n (i := 0) dL_writeField_4 rfl rfl ?_
  refine mw_iload (i := 6) dL_writeField_5 rfl ?_
  refine mw_iald dL_writeField_7 gl_4 (mw_ix rfl hp (by decide)) ?_
  rw [hkey]
  refine mw_callSv dL_writeField_8 mk_L_100 ((c_writeGroups hq (by omega) hg)) (by decide) (Nat.le_refl _) (Nat.le_refl _) rfl rfl (Nat.le_of_ble_eq_true rfl) ?_
  refine mw_aload_n (i := 0) dL_writeField_11 rfl rfl ?_
  refine mw_iload (i := 6) dL_writeField_12 rfl ?_
  refine mw_iald dL_writeField_14 gl_4 (mw_ix rfl hp (by decide)) ?_
  refine mw_top ((congrFun (AW_n A w _ (by decide) (by decide)) p).trans hkey) ?_
  refine mw_bipush (v := 8) dL_writeField_15 (by decide) ?_
  refine mw_irem dL_writeField_17 (by decide) ?_
  rw [mx_r8 (by omega), k3]
  by_cases e5 : x.2.1 = 5
  · refine mw_iconst (v := 5) dL_writeField_18 (by decide) ?_
    refine mw_icmp_eq (tgt := 33) dL_writeField_19 (by decide) (fun _ => ?_) (fun c9 => absurd c9 (by first | decide | exact (fun q => q rfl) | ((try simp only [fa_lit]); first | exact cq_le (by omega) (by omega) | exact cq_nle (by omega) (by omega) | exact cq_lt (by omega) (by omega) | exact cq_nlt (by omega) (by omega) | exact cq_eq (by omega) (by omega) (by omega) | exact cq_neq (by omega))))
    refine mw_iconst (v := 0) dL_writeField_33 (by decide) ?_
    refine mw_istore_7 dL_writeField_34 (by decide) ?_
    have h9 := lp_write4 (H := H) (A := A) (X := X) (x := x) (w := w) (Z := egr (8 * x.1 + x.2.1)) hp (by omega) (by omega) hkey hx hv e5 4 0 rfl
    rw [List.take_zero, List.append_nil] at h9
    rw [hef, if_pos e5, o6 (by omega), List.append_nil]
    exact h9
  · refine mw_iconst (v := 5) dL_writeField_18 (by decide) ?_
    refine mw_icmp_eq (tgt := 33) dL_writeField_19 (by decide) (fun c9 => absurd c9 (by first | decide | exact (fun q => q rfl) | ((try simp only [fa_lit]); first | exact cq_le (by omega) (by omega) | exact cq_nle (by omega) (by omega) | exact cq_lt (by omega) (by omega) | exact cq_nlt (by omega) (by omega) | exact cq_eq (by omega) (by omega) (by omega) | exact cq_neq (by omega)))) (fun _ => ?_)
    refine mw_aload (i := 4) dL_writeField_22 rfl ?_
    refine mw_aload (i := 5) dL_writeField_24 rfl ?_
    refine mw_aload_n (i := 1) dL_writeField_26 rfl rfl ?_
    refine mw_iload (i := 6) dL_writeField_27 rfl ?_
    refine mw_iald dL_writeField_29 gl_5 (mw_ix rfl hp (by decide)) ?_
    refine mw_top ((congrFun (AW_n A w _ (by decide) (by decide)) p).trans hv) ?_
    have h := c_writeGroups (H := H) (A := AW A w (egr (8 * x.1 + x.2.1))) (X := X) (w := w + (egr (8 * x.1 + x.2.1)).length) hv32 (by omega) (AW_g _ _ _)
    rw [AW_app] at h
    refine mw_callSv dL_writeField_30 mk_L_100 (h) (by decide) (Nat.le_refl _) (Nat.le_refl _) rfl rfl (Nat.le_of_ble_eq_true rfl) ?_
    refine mw_iconst (v := 0) dL_writeField_33 (by decide) ?_
    refine mw_istore_7 dL_writeField_34 (by decide) ?_
    refine mw_aload_n (i := 0) dL_writeField_36 rfl rfl ?_
    refine mw_iload (i := 6) dL_writeField_37 rfl ?_
    refine mw_iald dL_writeField_39 gl_4 (mw_ix rfl hp (by decide)) ?_
    refine mw_top ((congrFun (AW_n A w _ (by decide) (by decide)) p).trans hkey) ?_
    refine mw_bipush (v := 8) dL_writeField_40 (by decide) ?_
    refine mw_irem dL_writeField_42 (by decide) ?_
    rw [mx_r8 (by omega), k3, hef, if_neg e5]
    by_cases e2 : x.2.1 = 2
    · refine mw_iconst (v := 5) dL_writeField_43 (by decide) ?_
      refine mw_icmp_ne (tgt := 76) dL_writeField_44 (by decide) (fun _ => ?_) (fun c9 => absurd c9 (by first | decide | exact (fun q => q rfl) | ((try simp only [fa_lit]); first | exact cq_le (by omega) (by omega) | exact cq_nle (by omega) (by omega) | exact cq_lt (by omega) (by omega) | exact cq_nlt (by omega) (by omega) | exact cq_eq (by omega) (by omega) (by omega) | exact cq_neq (by omega))))
      refine mw_iconst (v := 0) dL_writeField_76 (by decide) ?_
      refine mw_istore_7 dL_writeField_77 (by decide) ?_
      have h9 := lp_writeB (H := H) (A := A) (X := X) (x := x) (w := w) (Z := egr (8 * x.1 + x.2.1) ++ egr x.2.2.1) hp (by omega) (by rw [List.length_append]; omega) hkey hx hv e2 (hb e2).1 (hb e2).2 x.2.2.1 0 (by omega)
      rw [List.take_zero, List.append_nil] at h9
      exact h9
    · refine mw_iconst (v := 5) dL_writeField_43 (by decide) ?_
      refine mw_icmp_ne (tgt := 76) dL_writeField_44 (by decide) (fun _ => ?_) (fun c9 => absurd c9 (by first | decide | exact (fun q => q rfl) | ((try simp only [fa_lit]); first | exact cq_le (by omega) (by omega) | exact cq_nle (by omega) (by omega) | exact cq_lt (by omega) (by omega) | exact cq_nlt (by omega) (by omega) | exact cq_eq (by omega) (by omega) (by omega) | exact cq_neq (by omega))))
      refine mw_iconst (v := 0) dL_writeField_76 (by decide) ?_
      refine mw_istore_7 dL_writeField_77 (by decide) ?_
      refine mw_aload_n (i := 0) dL_writeField_79 rfl rfl ?_
      refine mw_iload (i := 6) dL_writeField_80 rfl ?_
      refine mw_iald dL_writeField_82 gl_4 (mw_ix rfl hp (by decide)) ?_
      refine mw_top ((congrFun (AW_n A w _ (by decide) (by decide)) p).trans hkey) ?_
      refine mw_bipush (v := 8) dL_writeField_83 (by decide) ?_
      refine mw_irem dL_writeField_85 (by decide) ?_
      rw [mx_r8 (by omega), k3]
      refine mw_iconst (v := 2) dL_writeField_86 (by decide) ?_
      refine mw_icmp_ne (tgt := 121) dL_writeField_87 (by decide) (fun _ => ?_) (fun c9 => absurd c9 (by first | decide | exact (fun q => q rfl) | ((try simp only [fa_lit]); first | exact cq_le (by omega) (by omega) | exact cq_nle (by omega) (by omega) | exact cq_lt (by omega) (by omega) | exact cq_nlt (by omega) (by omega) | exact cq_eq (by omega) (by omega) (by omega) | exact cq_neq (by omega))))
      refine mw_return dL_writeField_121 rfl ⟨rfl, ?_⟩
      rw [o6 e2, List.append_nil]
theorem canT_cons (t : Nat) : canT K s t (x :: L) = if x.1 = t ∧ cnb K s x L = true then x :: canT K s t L else canT K s t L := by
  show (if x.1 = t ∧ (knb K s x = true → (∀ z ∈ L, Pt K s (nI t) z = false) ∧ dfb K s t x = false) then _ else _) = _
  by_cases e : x.1 = t
  · subst e
    unfold cnb
    by_cases c : (knb K s x = true → (∀ z ∈ L, Pt K s (nI x.1) z = false) ∧ dfb K s x.1 x = false)
    · rw [if_pos ⟨rfl, c⟩, if_pos ⟨rfl, decide_eq_true c⟩]
    · rw [if_neg (fun z => c z.2), if_neg (fun z => c (of_decide_eq_true z.2))]
  · rw [if_neg (fun z => e z.1), if_neg (fun z => e z.1)]
theorem lp_canI (hk : kR K ns A) (hs : s < ns) (hc : A 2 m = nI (s + 1)) (hm : m < 5) (hok : ∀ x ∈ L, okf x) (hR : fR A X m L) (ht : t ≤ 31) (h120 : (eL L).length ≤ 120) {kc ks : Nat} {Po : mw_P} {x12 : Option Value} : ∀ (L2 L1 : List af) (Y : List Nat), L = L1 ++ L2 → Y.length + (eL L2).length ≤ 240 →
    mw_W mm_L_canonical 5 kc ks 91 [some (.ref 43), some (.ref 44), some (.ref 45), some (.ref 46), some (.ref 47), some (.ref 48), some (.ref 49), some (.ref 50), some (.ref 52), some (.ref 54), some (.int (nI m)), some (.int (nI t)), some (.int (nI (12 * m + L.length)))] [] (gl H (AW A 0 (Y ++ eL (canT K s t L2))) X) Po →
    mw_W mm_L_canonical 5 kc ks 22 [some (.ref 43), some (.ref 44), some (.ref 45), some (.ref 46), some (.ref 47), some (.ref 48), some (.ref 49), some (.ref 50), some (.ref 52), some (.ref 54), some (.int (nI m)), some (.int (nI t)), some (.int (nI (12 * m + L1.length)))] [] (gl H (AW A 0 Y) X) Po
  | [], L1, Y, e, hY, k => by
    rw [List.append_nil] at e
    subst e
    have h12 := hR.2.1
    refine mw_iload (i := 12) dL_canonical_22 rfl ?_
    refine mw_bipush (v := 12) dL_canonical_24 (by decide) ?_
    refine mw_iload (i := 10) dL_canonical_26 rfl ?_
    refine mw_imul dL_canonical_28 ?_
    refine mw_aload_n (i := 3) dL_canonical_29 rfl rfl ?_
    refine mw_iload (i := 10) dL_canonical_30 rfl ?_
    refine mw_iald dL_canonical_32 gl_3 (mw_ix rfl hm (by decide)) ?_
    refine mw_top ((congrFun (AW_n A 0 _ (by decide) (by decide)) m).trans hR.1) ?_
    refine mw_iadd dL_canonical_33 ?_
    rw [mx_12]
    refine mw_icmp_ge (tgt := 91) dL_canonical_34 (by decide) (fun _ => ?_) (fun c9 => absurd c9 (by first | decide | exact (fun q => q rfl) | ((try simp only [fa_lit]); first | exact cq_le (by omega) (by omega) | exact cq_nle (by omega) (by omega) | exact cq_lt (by omega) (by omega) | exact cq_nlt (by omega) (by omega) | exact cq_eq (by omega) (by omega) (by omega) | exact cq_neq (by omega))))
    rw [show canT K s t [] = [] from rfl, show eL [] = [] from rfl, List.append_nil] at k
    exact k
  | x :: L2, L1, Y, e, hY, k => by
    obtain ⟨hf, h1, h12⟩ := fR_at hR e
    have hx := hok x (by rw [e]; simp)
    obtain ⟨k1, k2, k3⟩ := okf_key hx
    have hx2 := hx.2.1
    have hk' : kR K ns (AW A 0 Y) := kR_cong hk (AW_n _ _ _ (by decide) (by decide)) (AW_n _ _ _ (by decide) (by decide))
    have hc' : AW A 0 Y 2 m = nI (s + 1) := (congrFun (AW_n A 0 _ (by decide) (by decide)) m).trans hc
    have hR' : fR (AW A 0 Y) X m L := fR_cong hR (congrFun (AW_n A 0 _ (by decide) (by decide)) m) (fun p _ _ => ⟨congrFun (AW_n A 0 _ (by decide) (by decide)) p, congrFun (AW_n A 0 _ (by decide) (by decide)) p, rfl, rfl⟩)
    have hf' : fC (AW A 0 Y) X (12 * m + L1.length) x := fC_cong hf (congrFun (AW_n A 0 _ (by decide) (by decide)) _) (congrFun (AW_n A 0 _ (by decide) (by decide)) _) rfl rfl
    rw [eL_cons, List.length_append] at hY
    have h9 := fun Y' => lp_canI (kc := kc) (ks := ks) (Po := Po) (x12 := x12) hk hs hc hm hok hR ht h120 L2 (L1 ++ [x]) Y' (by rw [e]; simp)
    rw [List.length_append, List.length_singleton, ← Nat.add_assoc] at h9
    rw [canT_cons] at k
    refine mw_iload (i := 12) dL_canonical_22 rfl ?_
    refine mw_bipush (v := 12) dL_canonical_24 (by decide) ?_
    refine mw_iload (i := 10) dL_canonical_26 rfl ?_
    refine mw_imul dL_canonical_28 ?_
    refine mw_aload_n (i := 3) dL_canonical_29 rfl rfl ?_
    refine mw_iload (i := 10) dL_canonical_30 rfl ?_
    refine mw_iald dL_canonical_32 gl_3 (mw_ix rfl hm (by decide)) ?_
    refine mw_top ((congrFun (AW_n A 0 _ (by decide) (by decide)) m).trans hR.1) ?_
    refine mw_iadd dL_canonical_33 ?_
    rw [mx_12]
    refine mw_icmp_ge (tgt := 91) dL_canonical_34 (by decide) (fun c9 => absurd c9 (by first | decide | exact (fun q => q rfl) | ((try simp only [fa_lit]); first | exact cq_le (by omega) (by omega) | exact cq_nle (by omega) (by omega) | exact cq_lt (by omega) (by omega) | exact cq_nlt (by omega) (by omega) | exact cq_eq (by omega) (by omega) (by omega) | exact cq_neq (by omega)))) (fun _ => ?_)
    refine mw_aload (i := 4) dL_canonical_37 rfl ?_
    refine mw_iload (i := 12) dL_canonical_39 rfl ?_
    refine mw_iald dL_canonical_41 gl_4 (mw_ix rfl (by omega) (by decide)) ?_
    refine mw_top hf'.1 ?_
    refine mw_bipush (v := 8) dL_canonical_42 (by decide) ?_
    refine mw_idiv dL_canonical_44 (by decide) ?_
    rw [mx_d8 (by omega), k2]
    by_cases et : x.1 = t
    · refine mw_iload (i := 11) dL_canonical_45 rfl ?_
      refine mw_icmp_ne (tgt := 85) dL_canonical_47 (by decide) (fun c9 => absurd c9 (by first | decide | exact (fun q => q rfl) | ((try simp only [fa_lit]); first | exact cq_le (by omega) (by omega) | exact cq_nle (by omega) (by omega) | exact cq_lt (by omega) (by omega) | exact cq_nlt (by omega) (by omega) | exact cq_eq (by omega) (by omega) (by omega) | exact cq_neq (by omega)))) (fun _ => ?_)
      refine mw_aload_n (i := 0) dL_canonical_50 rfl rfl ?_
      refine mw_aload_n (i := 1) dL_canonical_51 rfl rfl ?_
      refine mw_aload_n (i := 2) dL_canonical_52 rfl rfl ?_
      refine mw_aload_n (i := 3) dL_canonical_53 rfl rfl ?_
      refine mw_aload (i := 4) dL_canonical_54 rfl ?_
      refine mw_aload (i := 5) dL_canonical_56 rfl ?_
      refine mw_iload (i := 10) dL_canonical_58 rfl ?_
      refine mw_iload (i := 12) dL_canonical_60 rfl ?_
      refine mw_callSr dL_canonical_62 mk_L_107 ((c_isCanonical hk' hs hc' hm hok hR' e)) (by decide) (Nat.le_refl _) (Nat.le_refl _) rfl rfl (Nat.le_of_ble_eq_true rfl) ?_
      by_cases ec : cnb K s x L2 = true
      · rw [if_pos ⟨et, ec⟩, eL_cons, ← List.append_assoc] at k
        rw [if_pos ec]
        have hw := c_writeField (H := H) (A := AW A 0 Y) (X := X) (w := 0 + Y.length) (x := x) (p := 12 * m + L1.length) (by omega) (by omega) (AW_g _ _ _) hx hf'
        rw [AW_app] at hw
        refine mw_if_eq (tgt := 85) dL_canonical_65 (by decide) (fun c9 => absurd c9 (by first | decide | exact (fun q => q rfl))) (fun _ => ?_)
        refine mw_aload (i := 4) dL_canonical_68 rfl ?_
        refine mw_aload (i := 5) dL_canonical_70 rfl ?_
        refine mw_aload (i := 6) dL_canonical_72 rfl ?_
        refine mw_aload (i := 7) dL_canonical_74 rfl ?_
        refine mw_aload (i := 8) dL_canonical_76 rfl ?_
        refine mw_aload (i := 9) dL_canonical_78 rfl ?_
        refine mw_iload (i := 12) dL_canonical_80 rfl ?_
        refine mw_callSv dL_canonical_82 mk_L_111 (hw) (by decide) (Nat.le_refl _) (Nat.le_refl _) rfl rfl (Nat.le_of_ble_eq_true rfl) ?_
        refine mw_iinc_12 dL_canonical_85 (by decide) rfl ?_
        refine mw_goto (tgt := 22) dL_canonical_88 (by decide) ?_
        rw [show nI (12 * m + L1.length) + Int32.ofInt 1 = nI (12 * m + L1.length + 1) from nI_1 _]
        exact h9 _ (by rw [List.length_append]; omega) k
      · rw [if_neg (fun z => ec z.2)] at k
        rw [if_neg ec]
        refine mw_if_eq (tgt := 85) dL_canonical_65 (by decide) (fun _ => ?_) (fun c9 => absurd c9 (by first | decide | exact (fun q => q rfl)))
        refine mw_iinc_12 dL_canonical_85 (by decide) rfl ?_
        refine mw_goto (tgt := 22) dL_canonical_88 (by decide) ?_
        rw [show nI (12 * m + L1.length) + Int32.ofInt 1 = nI (12 * m + L1.length + 1) from nI_1 _]
        exact h9 _ (by omega) k
    · rw [if_neg (fun z => et z.1)] at k
      refine mw_iload (i := 11) dL_canonical_45 rfl ?_
      refine mw_icmp_ne (tgt := 85) dL_canonical_47 (by decide) (fun _ => ?_) (fun c9 => absurd c9 (by first | decide | exact (fun q => q rfl) | ((try simp only [fa_lit]); first | exact cq_le (by omega) (by omega) | exact cq_nle (by omega) (by omega) | exact cq_lt (by omega) (by omega) | exact cq_nlt (by omega) (by omega) | exact cq_eq (by omega) (by omega) (by omega) | exact cq_neq (by omega))))
      refine mw_iinc_12 dL_canonical_85 (by decide) rfl ?_
      refine mw_goto (tgt := 22) dL_canonical_88 (by decide) ?_
      rw [show nI (12 * m + L1.length) + Int32.ofInt 1 = nI (12 * m + L1.length + 1) from nI_1 _]
      exact h9 _ (by omega) k
theorem lp_canO (hk : kR K ns A) (hs : s < ns) (hc : A 2 m = nI (s + 1)) (hm : m < 5) (hok : ∀ x ∈ L, okf x) (hR : fR A X m L) (h120 : (eL L).length ≤ 120) : ∀ (n t : Nat) (x12 : Option Value), t + n = 31 →
    mw_W mm_L_canonical 5 0 0 8 [some (.ref 43), some (.ref 44), some (.ref 45), some (.ref 46), some (.ref 47), some (.ref 48), some (.ref 49), some (.ref 50), some (.ref 52), some (.ref 54), some (.int (nI m)), some (.int (nI (t + 1))), x12] [] (gl H (AW A 0 (eL (canU K s L t))) X) (mw_ret (.int (nI (eL (can K s L)).length)) (gl H (AW A 0 (eL (can K s L))) X)) := by
  intro n
  induction n with
  | zero =>
    intro t x12 ht
    have ht : t = 31 := by omega
    subst ht
    show mw_W _ _ _ _ _ _ _ (gl H (AW A 0 (eL (can K s L))) X) _
    refine mw_iload (i := 11) dL_canonical_8 rfl ?_
    refine mw_bipush (v := 32) dL_canonical_10 (by decide) ?_
    refine mw_icmp_ge (tgt := 97) dL_canonical_12 (by decide) (fun _ => ?_) (fun c9 => absurd c9 (by first | decide | exact (fun q => q rfl) | ((try simp only [fa_lit]); first | exact cq_le (by omega) (by omega) | exact cq_nle (by omega) (by omega) | exact cq_lt (by omega) (by omega) | exact cq_nlt (by omega) (by omega) | exact cq_eq (by omega) (by omega) (by omega) | exact cq_neq (by omega))))
    refine mw_aload (i := 9) dL_canonical_97 rfl ?_
    refine mw_iconst (v := 2) dL_canonical_99 (by decide) ?_
    refine mw_iald dL_canonical_100 gl_11 (mw_ix (j := 2) rfl (by decide) (by decide)) ?_
    rw [AW_g, Nat.zero_add]
    exact mw_ireturn dL_canonical_101 ⟨_, rfl, rfl⟩ ⟨rfl, rfl⟩
  | succ n ih =>
    intro t x12 ht
    have hle := canU_len K s L t
    have hle2 := fil_le (fun x => decide (x.1 ≤ t)) L
    refine mw_iload (i := 11) dL_canonical_8 rfl ?_
    refine mw_bipush (v := 32) dL_canonical_10 (by decide) ?_
    refine mw_icmp_ge (tgt := 97) dL_canonical_12 (by decide) (fun c9 => absurd c9 (by first | decide | exact (fun q => q rfl) | ((try simp only [fa_lit]); first | exact cq_le (by omega) (by omega) | exact cq_nle (by omega) (by omega) | exact cq_lt (by omega) (by omega) | exact cq_nlt (by omega) (by omega) | exact cq_eq (by omega) (by omega) (by omega) | exact cq_neq (by omega)))) (fun _ => ?_)
    refine mw_bipush (v := 12) dL_canonical_15 (by decide) ?_
    refine mw_iload (i := 10) dL_canonical_17 rfl ?_
    refine mw_imul dL_canonical_19 ?_
    rw [mx_12m]
    refine mw_istore_12 dL_canonical_20 (by decide) ?_
    refine lp_canI hk hs hc hm hok hR (by omega) h120 (x12 := none) L [] (eL (canU K s L t)) rfl (by omega) ?_
    refine mw_iinc_11 dL_canonical_91 (by decide) rfl ?_
    refine mw_goto (tgt := 8) dL_canonical_94 (by decide) ?_
    rw [show nI (t + 1) + Int32.ofInt 1 = nI (t + 1 + 1) from nI_1 _, ← eL_app]
    exact ih (t + 1) _ (by omega)
theorem c_canonical (hk : kR K ns A) (hs : s < ns) (hc : A 2 m = nI (s + 1)) (hm : m < 5) (hok : ∀ x ∈ L, okf x) (hR : fR A X m L) (h120 : (eL L).length ≤ 120) : mw_Con mm_L_canonical 5 0 0 [.ref 43, .ref 44, .ref 45, .ref 46, .ref 47, .ref 48, .ref 49, .ref 50, .ref 52, .ref 54, .int (nI m)] (gl H A X) (mw_ret (.int (nI (eL (can K s L)).length)) (gl H (AW A 0 (eL (can K s L))) X)) := by
  refine gm_con pl_L rfl rfl (Nat.le_of_ble_eq_true rfl) rfl ?_
  refine mw_aload (i := 9) dL_canonical_0 rfl ?_
  refine mw_iconst (v := 2) dL_canonical_2 (by decide) ?_
  refine mw_iconst (v := 0) dL_canonical_3 (by decide) ?_
  refine gl_st11 dL_canonical_4 (mw_ix (j := 2) rfl (by decide) (by decide)) ?_
  refine mw_iconst (v := 1) dL_canonical_5 (by decide) ?_
  refine mw_istore_11 dL_canonical_6 (by decide) ?_
  rw [AW_0]
  exact lp_canO hk hs hc hm hok hR h120 31 0 none rfl
end LH4
