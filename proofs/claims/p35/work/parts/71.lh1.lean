/-! the law's small methods -/
theorem pl_L : plainName RL = true := by decide +kernel
theorem cq_le {a b : Nat} (h : b < a) (ha : a < 2 ^ 31) : ¬ nI a ≤ nI b := nI_ge h ha
theorem cq_nle {a b : Nat} (h : a ≤ b) (hb : b < 2 ^ 31) : ¬ ¬ nI a ≤ nI b := fun q => q (nI_le h hb)
theorem cq_lt {a b : Nat} (h : b ≤ a) (ha : a < 2 ^ 31) : ¬ nI a < nI b := nI_nlt h ha
theorem cq_nlt {a b : Nat} (h : a < b) (hb : b < 2 ^ 31) : ¬ ¬ nI a < nI b := fun q => q (nI_lt h hb)
theorem cq_eq {a b : Nat} (h : a ≠ b) (ha : a < 2 ^ 31) (hb : b < 2 ^ 31) : ¬ nI a = nI b := fun q => h ((nI_eq ha hb).mp q)
theorem cq_neq {a b : Nat} (h : a = b) : ¬ ¬ nI a = nI b := fun q => q (by rw [h])
theorem mx_6 (s t : Nat) : 6 * nI s + nI t = nI (6 * s + t) := by
  rw [show (6 : Int32) = nI 6 from rfl, pk_mul, nI_add]
theorem mx_12 (s t : Nat) : 12 * nI s + nI t = nI (12 * s + t) := by
  rw [show (12 : Int32) = nI 12 from rfl, pk_mul, nI_add]
theorem mx_12m (s : Nat) : 12 * nI s = nI (12 * s) := by
  rw [show (12 : Int32) = nI 12 from rfl, pk_mul]
theorem mx_d8 {a : Nat} (ha : a < 2 ^ 31) : nI a / 8 = nI (a / 8) := pk_div (d := 8) ha (by decide) (by decide)
theorem mx_r8 {a : Nat} (ha : a < 2 ^ 31) : nI a - nI a / 8 * 8 = nI (a % 8) := pk_rem (d := 8) ha (by decide) (by decide)
/-- the tag of a place -/
def tg (i : Nat) : Nat := if i < 3 then i + 1 else if i = 3 then 15 else if i = 4 then 16 else 31
theorem six {i : Nat} (hi : i < 6) : i = 0 ∨ i = 1 ∨ i = 2 ∨ i = 3 ∨ i = 4 ∨ i = 5 := by omega
theorem tg_in {i : Nat} (hi : i < 6) : 1 ≤ tg i ∧ tg i ≤ 31 := by
  rcases six hi with rfl | rfl | rfl | rfl | rfl | rfl <;> decide
theorem tg_inj {i j : Nat} (hi : i < 6) (hj : j < 6) (h : tg i = tg j) : i = j := by
  rcases six hi with rfl | rfl | rfl | rfl | rfl | rfl <;> rcases six hj with rfl | rfl | rfl | rfl | rfl | rfl <;> first | rfl | exact absurd h (by decide)
/-- what k and z hold of the schemas K: at each place of a tag kind + 1 and 8 times the part's schema; the default of an int -/
def kR (K : Nat → Nat → Int32) (ns : Nat) (A : Nat → Nat → Int32) : Prop := ns ≤ 4 ∧ (∀ s i, s < ns → i < 6 → ∃ κ o : Nat, κ ≤ 5 ∧ o < 4 ∧ A 0 (6 * s + i) = nI (κ + 8 * o) ∧ K 1 (32 * s + tg i) = nI κ - 1 ∧ (κ = 5 → o < ns ∧ K 2 (32 * s + tg i) = nI o) ∧ (1 ≤ κ ∧ κ ≤ 3 → A 1 (6 * s + i) = K 3 (32 * s + tg i))) ∧ ∀ s t, s < ns → 1 ≤ t → t ≤ 31 → (∀ i, i < 6 → tg i ≠ t) → K 1 (32 * s + t) = -1
theorem zK_t {K : Nat → Nat → Int32} {s t : Nat} (h1 : 1 ≤ t) (h2 : t ≤ 31) : zKind K s (nI t) = K 1 (32 * s + t) := by
  unfold zKind
  rw [zTag_of h1 h2, if_neg (by decide), nI_clamp (by omega)]
theorem ush_1 (y : Int32) : (y.toUInt32 >>> (Int32.toUInt32 1 &&& Int32.toUInt32 31)).toInt32 = nI (uN y / 2) := by
  have h := pk_ushrN (uN_lt y) 1 1 (by decide)
  rw [nI_uN] at h
  exact h
theorem ush_k {n : Nat} (hn : n < 2 ^ 32) (s : Int32) (k : Nat) (hs : ((s.toUInt32 &&& Int32.toUInt32 31).toBitVec % 32).toNat = k) : ((nI n).toUInt32 >>> (s.toUInt32 &&& Int32.toUInt32 31)).toInt32 = nI (n / 2 ^ k) := pk_ushrN hn s k hs
theorem c_low {h : mw_H} (y : Int32) {n : Nat} (h0 : 0 < n) (hn : n < 2 ^ 31) : mw_Con mm_L_low 0 0 0 [.int y, .int (nI n)] h (mw_ret (.int (nI (uN y / 2 % n))) h) := by
  refine gm_con pl_L rfl rfl (Nat.le_of_ble_eq_true rfl) rfl ?_
  have hu := uN_lt y
  refine mw_iload_n (i := 0) dL_low_0 rfl rfl ?_
  refine mw_iconst (v := 1) dL_low_1 (by decide) ?_
  refine mw_iushr dL_low_2 (ush_1 y) ?_
  refine mw_iload_n (i := 1) dL_low_3 rfl rfl ?_
  refine mw_irem dL_low_4 (nI_ne0 h0 hn) ?_
  rw [pk_rem (by omega) h0 hn]
  exact mw_ireturn dL_low_5 ⟨_, rfl, rfl⟩ ⟨rfl, rfl⟩
theorem c_tagAt {h : mw_H} {i : Nat} (hi : i < 6) : mw_Con mm_L_tagAt 0 0 0 [.int (nI i)] h (mw_ret (.int (nI (tg i))) h) := by
  refine gm_con pl_L rfl rfl (Nat.le_of_ble_eq_true rfl) rfl ?_
  rcases six hi with rfl | rfl | rfl | rfl | rfl | rfl
  · refine mw_iload_n (i := 0) dL_tagAt_0 rfl rfl ?_
    refine mw_iconst (v := 3) dL_tagAt_1 (by decide) ?_
    refine mw_icmp_ge (tgt := 11) dL_tagAt_2 (by decide) (fun c9 => absurd c9 (by first | decide | (rw [pk_us]; decide))) (fun _ => ?_)
    refine mw_iload_n (i := 0) dL_tagAt_5 rfl rfl ?_
    refine mw_iconst (v := 1) dL_tagAt_6 (by decide) ?_
    refine mw_iadd dL_tagAt_7 ?_
    refine mw_goto (tgt := 33) dL_tagAt_8 (by decide) ?_
    exact mw_ireturn dL_tagAt_33 ⟨_, rfl, rfl⟩ ⟨rfl, rfl⟩
  · refine mw_iload_n (i := 0) dL_tagAt_0 rfl rfl ?_
    refine mw_iconst (v := 3) dL_tagAt_1 (by decide) ?_
    refine mw_icmp_ge (tgt := 11) dL_tagAt_2 (by decide) (fun c9 => absurd c9 (by first | decide | (rw [pk_us]; decide))) (fun _ => ?_)
    refine mw_iload_n (i := 0) dL_tagAt_5 rfl rfl ?_
    refine mw_iconst (v := 1) dL_tagAt_6 (by decide) ?_
    refine mw_iadd dL_tagAt_7 ?_
    refine mw_goto (tgt := 33) dL_tagAt_8 (by decide) ?_
    exact mw_ireturn dL_tagAt_33 ⟨_, rfl, rfl⟩ ⟨rfl, rfl⟩
  · refine mw_iload_n (i := 0) dL_tagAt_0 rfl rfl ?_
    refine mw_iconst (v := 3) dL_tagAt_1 (by decide) ?_
    refine mw_icmp_ge (tgt := 11) dL_tagAt_2 (by decide) (fun c9 => absurd c9 (by first | decide | (rw [pk_us]; decide))) (fun _ => ?_)
    refine mw_iload_n (i := 0) dL_tagAt_5 rfl rfl ?_
    refine mw_iconst (v := 1) dL_tagAt_6 (by decide) ?_
    refine mw_iadd dL_tagAt_7 ?_
    refine mw_goto (tgt := 33) dL_tagAt_8 (by decide) ?_
    exact mw_ireturn dL_tagAt_33 ⟨_, rfl, rfl⟩ ⟨rfl, rfl⟩
  · refine mw_iload_n (i := 0) dL_tagAt_0 rfl rfl ?_
    refine mw_iconst (v := 3) dL_tagAt_1 (by decide) ?_
    refine mw_icmp_ge (tgt := 11) dL_tagAt_2 (by decide) (fun _ => ?_) (fun c9 => absurd c9 (by first | decide | (rw [pk_us]; decide)))
    refine mw_iload_n (i := 0) dL_tagAt_11 rfl rfl ?_
    refine mw_iconst (v := 3) dL_tagAt_12 (by decide) ?_
    refine mw_icmp_ne (tgt := 21) dL_tagAt_13 (by decide) (fun c9 => absurd c9 (by first | decide | (rw [pk_us]; decide))) (fun _ => ?_)
    refine mw_bipush (v := 15) dL_tagAt_16 (by decide) ?_
    refine mw_goto (tgt := 33) dL_tagAt_18 (by decide) ?_
    exact mw_ireturn dL_tagAt_33 ⟨_, rfl, rfl⟩ ⟨rfl, rfl⟩
  · refine mw_iload_n (i := 0) dL_tagAt_0 rfl rfl ?_
    refine mw_iconst (v := 3) dL_tagAt_1 (by decide) ?_
    refine mw_icmp_ge (tgt := 11) dL_tagAt_2 (by decide) (fun _ => ?_) (fun c9 => absurd c9 (by first | decide | (rw [pk_us]; decide)))
    refine mw_iload_n (i := 0) dL_tagAt_11 rfl rfl ?_
    refine mw_iconst (v := 3) dL_tagAt_12 (by decide) ?_
    refine mw_icmp_ne (tgt := 21) dL_tagAt_13 (by decide) (fun _ => ?_) (fun c9 => absurd c9 (by first | decide | (rw [pk_us]; decide)))
    refine mw_iload_n (i := 0) dL_tagAt_21 rfl rfl ?_
    refine mw_iconst (v := 4) dL_tagAt_22 (by decide) ?_
    refine mw_icmp_ne (tgt := 31) dL_tagAt_23 (by decide) (fun c9 => absurd c9 (by first | decide | (rw [pk_us]; decide))) (fun _ => ?_)
    refine mw_bipush (v := 16) dL_tagAt_26 (by decide) ?_
    refine mw_goto (tgt := 33) dL_tagAt_28 (by decide) ?_
    exact mw_ireturn dL_tagAt_33 ⟨_, rfl, rfl⟩ ⟨rfl, rfl⟩
  · refine mw_iload_n (i := 0) dL_tagAt_0 rfl rfl ?_
    refine mw_iconst (v := 3) dL_tagAt_1 (by decide) ?_
    refine mw_icmp_ge (tgt := 11) dL_tagAt_2 (by decide) (fun _ => ?_) (fun c9 => absurd c9 (by first | decide | (rw [pk_us]; decide)))
    refine mw_iload_n (i := 0) dL_tagAt_11 rfl rfl ?_
    refine mw_iconst (v := 3) dL_tagAt_12 (by decide) ?_
    refine mw_icmp_ne (tgt := 21) dL_tagAt_13 (by decide) (fun _ => ?_) (fun c9 => absurd c9 (by first | decide | (rw [pk_us]; decide)))
    refine mw_iload_n (i := 0) dL_tagAt_21 rfl rfl ?_
    refine mw_iconst (v := 4) dL_tagAt_22 (by decide) ?_
    refine mw_icmp_ne (tgt := 31) dL_tagAt_23 (by decide) (fun _ => ?_) (fun c9 => absurd c9 (by first | decide | (rw [pk_us]; decide)))
    refine mw_bipush (v := 31) dL_tagAt_31 (by decide) ?_
    exact mw_ireturn dL_tagAt_33 ⟨_, rfl, rfl⟩ ⟨rfl, rfl⟩
section LH1
variable {H : mw_H} {A : Nat → Nat → Int32} {X : Nat → Nat → Int64} {K : Nat → Nat → Int32} {ns s t : Nat}
theorem lp_kind (hk : kR K ns A) (hs : s < ns) (h1 : 1 ≤ t) (h2 : t ≤ 31) : ∀ (n i : Nat), i + n = 6 → (∀ j, j < i → tg j ≠ t) → mw_W mm_L_kind 1 0 0 2 [some (.ref 43), some (.int (nI s)), some (.int (nI t)), some (.int (nI i))] [] (gl H A X) (mw_ret (.int (zKind K s (nI t))) (gl H A X)) := by
  have h4 := hk.1
  intro n
  induction n with
  | zero =>
    intro i hi hj
    have hi6 : i = 6 := by omega
    subst hi6
    refine mw_iload_n (i := 3) dL_kind_2 rfl rfl ?_
    refine mw_bipush (v := 6) dL_kind_3 (by decide) ?_
    refine mw_icmp_ge (tgt := 36) dL_kind_5 (by decide) (fun _ => ?_) (fun c9 => absurd c9 (by first | decide | (rw [pk_us]; decide)))
    refine mw_iconst (v := -1) dL_kind_36 (by decide) ?_
    refine mw_ireturn dL_kind_37 ⟨_, rfl, rfl⟩ ⟨?_, rfl⟩
    rw [zK_t h1 h2, hk.2.2 s t hs h1 h2 hj]
  | succ n ih =>
    intro i hi hj
    have hi6 : i < 6 := by omega
    have ht := tg_in hi6
    by_cases e : tg i = t
    · obtain ⟨κ, o, k1, k2, k3, k4, -⟩ := hk.2.1 s i hs hi6
      refine mw_iload_n (i := 3) dL_kind_2 rfl rfl ?_
      refine mw_bipush (v := 6) dL_kind_3 (by decide) ?_
      refine mw_icmp_ge (tgt := 36) dL_kind_5 (by decide) (fun c9 => absurd c9 (by first | decide | exact (fun q => q rfl) | ((try simp only [fa_lit]); first | exact cq_le (by omega) (by omega) | exact cq_nle (by omega) (by omega) | exact cq_lt (by omega) (by omega) | exact cq_nlt (by omega) (by omega) | exact cq_eq (by omega) (by omega) (by omega) | exact cq_neq (by omega)))) (fun _ => ?_)
      refine mw_iload_n (i := 3) dL_kind_8 rfl rfl ?_
      refine mw_callSr dL_kind_9 mk_L_64 ((c_tagAt hi6)) (by decide) (Nat.le_refl _) (Nat.le_refl _) rfl rfl (Nat.le_of_ble_eq_true rfl) ?_
      refine mw_iload_n (i := 2) dL_kind_12 rfl rfl ?_
      refine mw_icmp_ne (tgt := 30) dL_kind_13 (by decide) (fun c9 => absurd c9 (by first | decide | exact (fun q => q rfl) | ((try simp only [fa_lit]); first | exact cq_le (by omega) (by omega) | exact cq_nle (by omega) (by omega) | exact cq_lt (by omega) (by omega) | exact cq_nlt (by omega) (by omega) | exact cq_eq (by omega) (by omega) (by omega) | exact cq_neq (by omega)))) (fun _ => ?_)
      refine mw_aload_n (i := 0) dL_kind_16 rfl rfl ?_
      refine mw_bipush (v := 6) dL_kind_17 (by decide) ?_
      refine mw_iload_n (i := 1) dL_kind_19 rfl rfl ?_
      refine mw_imul dL_kind_20 ?_
      refine mw_iload_n (i := 3) dL_kind_21 rfl rfl ?_
      refine mw_iadd dL_kind_22 ?_
      refine mw_iald dL_kind_23 gl_0 (mw_ix (mx_6 s i) (by omega) (by decide)) ?_
      rw [k3]
      refine mw_bipush (v := 8) dL_kind_24 (by decide) ?_
      refine mw_irem dL_kind_26 (by decide) ?_
      rw [mx_r8 (by omega), show (κ + 8 * o) % 8 = κ by omega]
      refine mw_iconst (v := 1) dL_kind_27 (by decide) ?_
      refine mw_isub dL_kind_28 ?_
      refine mw_ireturn dL_kind_29 ⟨_, rfl, rfl⟩ ⟨?_, rfl⟩
      rw [zK_t h1 h2, ← e, k4]
    · refine mw_iload_n (i := 3) dL_kind_2 rfl rfl ?_
      refine mw_bipush (v := 6) dL_kind_3 (by decide) ?_
      refine mw_icmp_ge (tgt := 36) dL_kind_5 (by decide) (fun c9 => absurd c9 (by first | decide | exact (fun q => q rfl) | ((try simp only [fa_lit]); first | exact cq_le (by omega) (by omega) | exact cq_nle (by omega) (by omega) | exact cq_lt (by omega) (by omega) | exact cq_nlt (by omega) (by omega) | exact cq_eq (by omega) (by omega) (by omega) | exact cq_neq (by omega)))) (fun _ => ?_)
      refine mw_iload_n (i := 3) dL_kind_8 rfl rfl ?_
      refine mw_callSr dL_kind_9 mk_L_64 ((c_tagAt hi6)) (by decide) (Nat.le_refl _) (Nat.le_refl _) rfl rfl (Nat.le_of_ble_eq_true rfl) ?_
      refine mw_iload_n (i := 2) dL_kind_12 rfl rfl ?_
      refine mw_icmp_ne (tgt := 30) dL_kind_13 (by decide) (fun _ => ?_) (fun c9 => absurd c9 (by first | decide | exact (fun q => q rfl) | ((try simp only [fa_lit]); first | exact cq_le (by omega) (by omega) | exact cq_nle (by omega) (by omega) | exact cq_lt (by omega) (by omega) | exact cq_nlt (by omega) (by omega) | exact cq_eq (by omega) (by omega) (by omega) | exact cq_neq (by omega))))
      refine mw_iinc_3 dL_kind_30 (by decide) rfl ?_
      refine mw_goto (tgt := 2) dL_kind_33 (by decide) ?_
      rw [show nI i + Int32.ofInt 1 = nI (i + 1) from nI_1 i]
      exact ih (i + 1) (by omega) (fun j hj' => by
        rcases Nat.lt_or_ge j i with z | z
        · exact hj j z
        · rw [show j = i by omega]; exact e)
theorem c_kind (hk : kR K ns A) (hs : s < ns) (h1 : 1 ≤ t) (h2 : t ≤ 31) : mw_Con mm_L_kind 1 0 0 [.ref 43, .int (nI s), .int (nI t)] (gl H A X) (mw_ret (.int (zKind K s (nI t))) (gl H A X)) := by
  refine gm_con pl_L rfl rfl (Nat.le_of_ble_eq_true rfl) rfl ?_
  refine mw_iconst (v := 0) dL_kind_0 (by decide) ?_
  refine mw_istore_3 dL_kind_1 (by decide) ?_
  exact lp_kind hk hs h1 h2 6 0 rfl (fun j hj => absurd hj (Nat.not_lt_zero _))
theorem lp_place {h : mw_H} {i0 : Nat} (hi0 : i0 < 6) (hs : s < 4) : ∀ (n i : Nat), i + n = i0 → mw_W mm_L_place 1 0 0 2 [some (.int (nI s)), some (.int (nI (tg i0))), some (.int (nI i))] [] h (mw_ret (.int (nI (6 * s + i0))) h) := by
  intro n
  have ht0 := tg_in hi0
  induction n with
  | zero =>
    intro i hi
    have e : i = i0 := by omega
    subst e
    refine mw_iload_n (i := 2) dL_place_2 rfl rfl ?_
    refine mw_callSr dL_place_3 mk_L_64 ((c_tagAt hi0)) (by decide) (Nat.le_refl _) (Nat.le_refl _) rfl rfl (Nat.le_of_ble_eq_true rfl) ?_
    refine mw_iload_n (i := 1) dL_place_6 rfl rfl ?_
    refine mw_icmp_eq (tgt := 16) dL_place_7 (by decide) (fun _ => ?_) (fun c9 => absurd c9 (by first | decide | exact (fun q => q rfl) | ((try simp only [fa_lit]); first | exact cq_le (by omega) (by omega) | exact cq_nle (by omega) (by omega) | exact cq_lt (by omega) (by omega) | exact cq_nlt (by omega) (by omega) | exact cq_eq (by omega) (by omega) (by omega) | exact cq_neq (by omega))))
    refine mw_bipush (v := 6) dL_place_16 (by decide) ?_
    refine mw_iload_n (i := 0) dL_place_18 rfl rfl ?_
    refine mw_imul dL_place_19 ?_
    refine mw_iload_n (i := 2) dL_place_20 rfl rfl ?_
    refine mw_iadd dL_place_21 ?_
    rw [mx_6]
    exact mw_ireturn dL_place_22 ⟨_, rfl, rfl⟩ ⟨rfl, rfl⟩
  | succ n ih =>
    intro i hi
    have hi6 : i < 6 := by omega
    have ht := tg_in hi6
    have e : tg i ≠ tg i0 := fun z => by have := tg_inj hi6 hi0 z; omega
    refine mw_iload_n (i := 2) dL_place_2 rfl rfl ?_
    refine mw_callSr dL_place_3 mk_L_64 ((c_tagAt hi6)) (by decide) (Nat.le_refl _) (Nat.le_refl _) rfl rfl (Nat.le_of_ble_eq_true rfl) ?_
    refine mw_iload_n (i := 1) dL_place_6 rfl rfl ?_
    refine mw_icmp_eq (tgt := 16) dL_place_7 (by decide) (fun c9 => absurd c9 (by first | decide | exact (fun q => q rfl) | ((try simp only [fa_lit]); first | exact cq_le (by omega) (by omega) | exact cq_nle (by omega) (by omega) | exact cq_lt (by omega) (by omega) | exact cq_nlt (by omega) (by omega) | exact cq_eq (by omega) (by omega) (by omega) | exact cq_neq (by omega)))) (fun _ => ?_)
    refine mw_iinc_2 dL_place_10 (by decide) rfl ?_
    refine mw_goto (tgt := 2) dL_place_13 (by decide) ?_
    rw [show nI i + Int32.ofInt 1 = nI (i + 1) from nI_1 i]
    exact ih (i + 1) (by omega)
theorem c_place {h : mw_H} {i0 : Nat} (hi0 : i0 < 6) (hs : s < 4) : mw_Con mm_L_place 1 0 0 [.int (nI s), .int (nI (tg i0))] h (mw_ret (.int (nI (6 * s + i0))) h) := by
  refine gm_con pl_L rfl rfl (Nat.le_of_ble_eq_true rfl) rfl ?_
  refine mw_iconst (v := 0) dL_place_0 (by decide) ?_
  refine mw_istore_2 dL_place_1 (by decide) ?_
  exact lp_place hi0 hs i0 0 (by omega)
/-- a kind is one of six -/
theorem kR_cases (hk : kR K ns A) (hs : s < ns) (h1 : 1 ≤ t) (h2 : t ≤ 31) : zKind K s (nI t) = -1 ∨ ∃ κ : Nat, κ ≤ 4 ∧ zKind K s (nI t) = nI κ ∧ ∃ i, i < 6 ∧ tg i = t := by
  by_cases e : ∃ i, i < 6 ∧ tg i = t
  · obtain ⟨i, hi, rfl⟩ := e
    obtain ⟨κ, o, k1, k2, k3, k4, -⟩ := hk.2.1 s i hs hi
    rw [zK_t h1 h2, k4]
    cases κ with
    | zero => exact Or.inl rfl
    | succ κ => exact Or.inr ⟨κ, by omega, nI_pred κ, i, hi, rfl⟩
  · left
    rw [zK_t h1 h2]
    exact hk.2.2 s t hs h1 h2 (fun i hi z => e ⟨i, hi, z⟩)
theorem c_isKnown (hk : kR K ns A) (hs : s < ns) {x : af} (hx : okf x) : mw_Con mm_L_isKnown 2 0 0 [.ref 43, .int (nI s), .int (nI (8 * x.1 + x.2.1))] (gl H A X) (mw_ret (.int (if knb K s x then 1 else 0)) (gl H A X)) := by
  obtain ⟨h1, h2, h3, -⟩ := hx
  have hy : x.2.1 < 8 := by omega
  refine gm_con pl_L rfl rfl (Nat.le_of_ble_eq_true rfl) rfl ?_
  refine mw_aload_n (i := 0) dL_isKnown_0 rfl rfl ?_
  refine mw_iload_n (i := 1) dL_isKnown_1 rfl rfl ?_
  refine mw_iload_n (i := 2) dL_isKnown_2 rfl rfl ?_
  refine mw_bipush (v := 8) dL_isKnown_3 (by decide) ?_
  refine mw_idiv dL_isKnown_5 (by decide) ?_
  rw [mx_d8 (by omega), show (8 * x.1 + x.2.1) / 8 = x.1 by omega]
  refine mw_callSr dL_isKnown_6 mk_L_69 ((c_kind hk hs h1 h2)) (by decide) (Nat.le_refl _) (Nat.le_refl _) rfl rfl (Nat.le_of_ble_eq_true rfl) ?_
  refine mw_istore_3 dL_isKnown_9 (by decide) ?_
  have hq : ∀ b : Bool, knb K s x = b → (if knb K s x then (1 : Int32) else 0) = if b then 1 else 0 := fun b e => by rw [e]
  rcases kR_cases hk hs h1 h2 with e | ⟨κ, h9, e, -⟩
  · rw [e]
    refine mw_iload_n (i := 3) dL_isKnown_10 rfl rfl ?_
    refine mw_if_lt (tgt := 44) dL_isKnown_11 (by decide) (fun _ => ?_) (fun c9 => absurd c9 (by first | decide | (rw [pk_us]; decide)))
    refine mw_iconst (v := 0) dL_isKnown_44 (by decide) ?_
    refine mw_ireturn dL_isKnown_45 ⟨_, rfl, rfl⟩ ⟨?_, rfl⟩
    rw [hq false (by unfold knb zKn; rw [e]; rfl)]
    rfl
  · rw [e]
    have hne : ¬ nI κ = -1 := fun z => by
      have := congrArg Int32.toInt z
      rw [nI_toInt (by omega)] at this
      have : ((κ : Int)) = -1 := this
      omega
    have hkn : knb K s x = decide (zType (nI κ) = nI x.2.1) := by
      unfold knb zKn
      rw [e, if_neg hne]
      by_cases z : zType (nI κ) = nI x.2.1
      · rw [if_pos z, decide_eq_true z]; rfl
      · rw [if_neg z, decide_eq_false z]; rfl
    refine mw_iload_n (i := 3) dL_isKnown_10 rfl rfl ?_
    refine mw_if_lt (tgt := 44) dL_isKnown_11 (by decide) (fun c9 => absurd c9 (cq_lt (b := 0) (Nat.zero_le _) (by omega))) (fun _ => ?_)
    refine mw_iload_n (i := 2) dL_isKnown_14 rfl rfl ?_
    refine mw_bipush (v := 8) dL_isKnown_15 (by decide) ?_
    refine mw_irem dL_isKnown_17 (by decide) ?_
    rw [mx_r8 (by omega), show (8 * x.1 + x.2.1) % 8 = x.2.1 by omega]
    have hend : ∀ z : Nat, z < 8 → zType (nI κ) = nI z → mw_W mm_L_isKnown 2 0 0 37 [some (.ref 43), some (.int (nI s)), some (.int (nI (8 * x.1 + x.2.1))), some (.int (nI κ))] [.int (nI z), .int (nI x.2.1)] (gl H A X) (mw_ret (.int (if knb K s x then 1 else 0)) (gl H A X)) := by
      intro z hz hzt
      rw [hkn, hzt]
      by_cases e2 : x.2.1 = z
      · refine mw_icmp_ne (tgt := 44) dL_isKnown_37 (by decide) (fun c9 => absurd c9 (by first | decide | exact (fun q => q rfl) | ((try simp only [fa_lit]); first | exact cq_le (by omega) (by omega) | exact cq_nle (by omega) (by omega) | exact cq_lt (by omega) (by omega) | exact cq_nlt (by omega) (by omega) | exact cq_eq (by omega) (by omega) (by omega) | exact cq_neq (by omega)))) (fun _ => ?_)
        refine mw_iconst (v := 1) dL_isKnown_40 (by decide) ?_
        refine mw_goto (tgt := 45) dL_isKnown_41 (by decide) ?_
        refine mw_ireturn dL_isKnown_45 ⟨_, rfl, rfl⟩ ⟨?_, rfl⟩
        rw [decide_eq_true (by rw [e2])]
        rfl
      · refine mw_icmp_ne (tgt := 44) dL_isKnown_37 (by decide) (fun _ => ?_) (fun c9 => absurd c9 (by first | decide | exact (fun q => q rfl) | ((try simp only [fa_lit]); first | exact cq_le (by omega) (by omega) | exact cq_nle (by omega) (by omega) | exact cq_lt (by omega) (by omega) | exact cq_nlt (by omega) (by omega) | exact cq_eq (by omega) (by omega) (by omega) | exact cq_neq (by omega))))
        refine mw_iconst (v := 0) dL_isKnown_44 (by decide) ?_
        refine mw_ireturn dL_isKnown_45 ⟨_, rfl, rfl⟩ ⟨?_, rfl⟩
        rw [decide_eq_false (fun z2 => e2 ((nI_eq (by omega) (by omega)).mp z2).symm)]
        rfl
    have hc : κ = 0 ∨ κ = 1 ∨ κ = 2 ∨ κ = 3 ∨ κ = 4 := by omega
    rcases hc with rfl | rfl | rfl | rfl | rfl
    · refine mw_iload_n (i := 3) dL_isKnown_18 rfl rfl ?_
      refine mw_iconst (v := 2) dL_isKnown_19 (by decide) ?_
      refine mw_icmp_ge (tgt := 27) dL_isKnown_20 (by decide) (fun c9 => absurd c9 (by first | decide | (rw [pk_us]; decide))) (fun _ => ?_)
      refine mw_iconst (v := 0) dL_isKnown_23 (by decide) ?_
      refine mw_goto (tgt := 37) dL_isKnown_24 (by decide) ?_
      exact hend 0 (by decide) rfl
    · refine mw_iload_n (i := 3) dL_isKnown_18 rfl rfl ?_
      refine mw_iconst (v := 2) dL_isKnown_19 (by decide) ?_
      refine mw_icmp_ge (tgt := 27) dL_isKnown_20 (by decide) (fun c9 => absurd c9 (by first | decide | (rw [pk_us]; decide))) (fun _ => ?_)
      refine mw_iconst (v := 0) dL_isKnown_23 (by decide) ?_
      refine mw_goto (tgt := 37) dL_isKnown_24 (by decide) ?_
      exact hend 0 (by decide) rfl
    · refine mw_iload_n (i := 3) dL_isKnown_18 rfl rfl ?_
      refine mw_iconst (v := 2) dL_isKnown_19 (by decide) ?_
      refine mw_icmp_ge (tgt := 27) dL_isKnown_20 (by decide) (fun _ => ?_) (fun c9 => absurd c9 (by first | decide | (rw [pk_us]; decide)))
      refine mw_iload_n (i := 3) dL_isKnown_27 rfl rfl ?_
      refine mw_iconst (v := 2) dL_isKnown_28 (by decide) ?_
      refine mw_icmp_ne (tgt := 36) dL_isKnown_29 (by decide) (fun c9 => absurd c9 (by first | decide | (rw [pk_us]; decide))) (fun _ => ?_)
      refine mw_iconst (v := 5) dL_isKnown_32 (by decide) ?_
      refine mw_goto (tgt := 37) dL_isKnown_33 (by decide) ?_
      exact hend 5 (by decide) rfl
    · refine mw_iload_n (i := 3) dL_isKnown_18 rfl rfl ?_
      refine mw_iconst (v := 2) dL_isKnown_19 (by decide) ?_
      refine mw_icmp_ge (tgt := 27) dL_isKnown_20 (by decide) (fun _ => ?_) (fun c9 => absurd c9 (by first | decide | (rw [pk_us]; decide)))
      refine mw_iload_n (i := 3) dL_isKnown_27 rfl rfl ?_
      refine mw_iconst (v := 2) dL_isKnown_28 (by decide) ?_
      refine mw_icmp_ne (tgt := 36) dL_isKnown_29 (by decide) (fun _ => ?_) (fun c9 => absurd c9 (by first | decide | (rw [pk_us]; decide)))
      refine mw_iconst (v := 2) dL_isKnown_36 (by decide) ?_
      exact hend 2 (by decide) rfl
    · refine mw_iload_n (i := 3) dL_isKnown_18 rfl rfl ?_
      refine mw_iconst (v := 2) dL_isKnown_19 (by decide) ?_
      refine mw_icmp_ge (tgt := 27) dL_isKnown_20 (by decide) (fun _ => ?_) (fun c9 => absurd c9 (by first | decide | (rw [pk_us]; decide)))
      refine mw_iload_n (i := 3) dL_isKnown_27 rfl rfl ?_
      refine mw_iconst (v := 2) dL_isKnown_28 (by decide) ?_
      refine mw_icmp_ne (tgt := 36) dL_isKnown_29 (by decide) (fun _ => ?_) (fun c9 => absurd c9 (by first | decide | (rw [pk_us]; decide)))
      refine mw_iconst (v := 2) dL_isKnown_36 (by decide) ?_
      exact hend 2 (by decide) rfl
theorem c_stands {h : mw_H} (κ v : Int32) : mw_Con mm_L_stands 0 0 0 [.int κ, .int v] h (mw_ret (.int (zStF κ v)) h) := by
  refine gm_con pl_L rfl rfl (Nat.le_of_ble_eq_true rfl) rfl ?_
  by_cases e : κ = 1
  · subst e
    have hz : zStF 1 v = (v.toUInt32 >>> ((1 : Int32).toUInt32 &&& Int32.toUInt32 31)).toInt32 ^^^ -(v &&& 1) := if_pos rfl
    obtain ⟨j, hj, e1⟩ := pk_andE v (m := 1) 1 (by decide)
    have hj : j = 0 ∨ j = 1 := by omega
    rcases hj with rfl | rfl
    · refine mw_iload_n (i := 0) dL_stands_0 rfl rfl ?_
      refine mw_iconst (v := 1) dL_stands_1 (by decide) ?_
      refine mw_icmp_eq (tgt := 9) dL_stands_2 (by decide) (fun _ => ?_) (fun c9 => absurd c9 (by first | decide | (rw [pk_us]; decide)))
      refine mw_iload_n (i := 1) dL_stands_9 rfl rfl ?_
      refine mw_iconst (v := 1) dL_stands_10 (by decide) ?_
      refine mw_iand dL_stands_11 ?_
      refine mw_if_ne (tgt := 21) dL_stands_12 (by decide) (fun c9 => absurd c9 (fun z => z e1)) (fun _ => ?_)
      refine mw_iload_n (i := 1) dL_stands_15 rfl rfl ?_
      refine mw_iconst (v := 1) dL_stands_16 (by decide) ?_
      refine mw_iushr dL_stands_17 rfl ?_
      refine mw_goto (tgt := 26) dL_stands_18 (by decide) ?_
      refine mw_ireturn dL_stands_26 ⟨_, rfl, rfl⟩ ⟨?_, rfl⟩
      rw [hz, e1]
      congr 3
      show _ = _ ^^^ (0 : Int32)
      rw [Int32.xor_zero]
    · refine mw_iload_n (i := 0) dL_stands_0 rfl rfl ?_
      refine mw_iconst (v := 1) dL_stands_1 (by decide) ?_
      refine mw_icmp_eq (tgt := 9) dL_stands_2 (by decide) (fun _ => ?_) (fun c9 => absurd c9 (by first | decide | (rw [pk_us]; decide)))
      refine mw_iload_n (i := 1) dL_stands_9 rfl rfl ?_
      refine mw_iconst (v := 1) dL_stands_10 (by decide) ?_
      refine mw_iand dL_stands_11 ?_
      refine mw_if_ne (tgt := 21) dL_stands_12 (by decide) (fun _ => ?_) (fun c9 => absurd c9 (fun z => absurd (e1.symm.trans z) (by decide)))
      refine mw_iload_n (i := 1) dL_stands_21 rfl rfl ?_
      refine mw_iconst (v := 1) dL_stands_22 (by decide) ?_
      refine mw_iushr dL_stands_23 rfl ?_
      refine mw_iconst (v := -1) dL_stands_24 (by decide) ?_
      refine mw_ixor dL_stands_25 ?_
      refine mw_ireturn dL_stands_26 ⟨_, rfl, rfl⟩ ⟨?_, rfl⟩
      rw [hz, e1]
      rfl
  · refine mw_iload_n (i := 0) dL_stands_0 rfl rfl ?_
    refine mw_iconst (v := 1) dL_stands_1 (by decide) ?_
    refine mw_icmp_eq (tgt := 9) dL_stands_2 (by decide) (fun c9 => absurd c9 e) (fun _ => ?_)
    refine mw_iload_n (i := 1) dL_stands_5 rfl rfl ?_
    refine mw_goto (tgt := 26) dL_stands_6 (by decide) ?_
    refine mw_ireturn dL_stands_26 ⟨_, rfl, rfl⟩ ⟨?_, rfl⟩
    rw [show zStF κ v = v from if_neg e]
theorem lp_groups {h : mw_H} {x0 : Option Value} : ∀ (r v m : Nat), v < 2 ^ (7 * (r + 1)) → v < 2 ^ 32 → m + r ≤ 10 → mw_W mm_L_groups 0 0 0 7 [x0, some (.int (nI (m + 1))), some (.int (nI (v / 128)))] [] h (mw_ret (.int (nI (m + (eg r v).length))) h)
  | 0, v, m, hv, _, _ => by
    have hv : v < 128 := hv
    rw [show v / 128 = 0 by omega]
    refine mw_iload_n (i := 2) dL_groups_7 rfl rfl ?_
    refine mw_if_eq (tgt := 22) dL_groups_8 (by decide) (fun _ => ?_) (fun c9 => absurd c9 (by first | decide | (rw [pk_us]; decide)))
    refine mw_iload_n (i := 1) dL_groups_22 rfl rfl ?_
    exact mw_ireturn dL_groups_23 ⟨_, rfl, rfl⟩ ⟨rfl, rfl⟩
  | r + 1, v, m, hv, hv2, hm => by
    unfold eg
    by_cases e : v / 128 = 0
    · rw [if_pos e, e]
      refine mw_iload_n (i := 2) dL_groups_7 rfl rfl ?_
      refine mw_if_eq (tgt := 22) dL_groups_8 (by decide) (fun _ => ?_) (fun c9 => absurd c9 (by first | decide | (rw [pk_us]; decide)))
      refine mw_iload_n (i := 1) dL_groups_22 rfl rfl ?_
      exact mw_ireturn dL_groups_23 ⟨_, rfl, rfl⟩ ⟨rfl, rfl⟩
    · rw [if_neg e]
      have hp : (2 : Nat) ^ (7 * (r + 1 + 1)) = 2 ^ (7 * (r + 1)) * 128 := by rw [show 7 * (r + 1 + 1) = 7 * (r + 1) + 7 by omega, Nat.pow_add]
      rw [hp] at hv
      have hv3 : v / 128 < 2 ^ (7 * (r + 1)) := by
        rw [Nat.div_lt_iff_lt_mul (by decide)]
        exact hv
      refine mw_iload_n (i := 2) dL_groups_7 rfl rfl ?_
      refine mw_if_eq (tgt := 22) dL_groups_8 (by decide) (fun c9 => absurd c9 (nI_ne0 (by omega) (by omega))) (fun _ => ?_)
      refine mw_iinc_1 dL_groups_11 (by decide) rfl ?_
      refine mw_iload_n (i := 2) dL_groups_14 rfl rfl ?_
      refine mw_bipush (v := 7) dL_groups_15 (by decide) ?_
      refine mw_iushr dL_groups_17 (ush_k (by omega) 7 7 (by decide)) ?_
      refine mw_istore_2 dL_groups_18 (by decide) ?_
      refine mw_goto (tgt := 7) dL_groups_19 (by decide) ?_
      rw [show nI (m + 1) + Int32.ofInt 1 = nI (m + 1 + 1) from nI_1 (m + 1), show m + ((v % 128 + 128) :: eg r (v / 128)).length = m + 1 + (eg r (v / 128)).length by rw [List.length_cons]; omega]
      exact lp_groups r (v / 128) (m + 1) hv3 (by omega) (by omega)
theorem c_groups {h : mw_H} {n : Nat} (hn : n < 2 ^ 32) : mw_Con mm_L_groups 0 0 0 [.int (nI n)] h (mw_ret (.int (nI (egr n).length)) h) := by
  refine gm_con pl_L rfl rfl (Nat.le_of_ble_eq_true rfl) rfl ?_
  refine mw_iconst (v := 1) dL_groups_0 (by decide) ?_
  refine mw_istore_1 dL_groups_1 (by decide) ?_
  refine mw_iload_n (i := 0) dL_groups_2 rfl rfl ?_
  refine mw_bipush (v := 7) dL_groups_3 (by decide) ?_
  refine mw_iushr dL_groups_5 (ush_k hn 7 7 (by decide)) ?_
  refine mw_istore_2 dL_groups_6 (by decide) ?_
  have h9 := lp_groups (h := h) (x0 := some (.int (nI n))) 4 n 0 (by omega) hn (by omega)
  rw [Nat.zero_add, Nat.zero_add] at h9
  exact h9
end LH1
