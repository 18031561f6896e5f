/-! the reference's small methods -/
def zIn (v lo hi : Int32) : Int32 := if v < lo then 0 else if hi < v then 0 else 1
def zTag (t : Int32) : Int32 := zIn t 1 31
def zInt (k : Int32) : Int32 := zIn k 0 2
def zHas (k : Int32) : Int32 := if k = 3 then 1 else if k = 4 then 1 else 0
def zType (k : Int32) : Int32 := if k = 2 then 5 else if k = 0 then 0 else if k = 1 then 0 else 2
def zStF (k v : Int32) : Int32 := if k = 1 then (v.toUInt32 >>> ((1 : Int32).toUInt32 &&& Int32.toUInt32 31)).toInt32 ^^^ -(v &&& 1) else v
def zStA (k v : Int32) : Int32 := if k = 1 then (v <<< ((1 : Int32) &&& 31)) ^^^ (v >>> ((31 : Int32) &&& 31)) else v
theorem zIn_1 {v lo hi : Int32} (h : zIn v lo hi ≠ 0) : lo ≤ v ∧ v ≤ hi := by
  unfold zIn at h
  by_cases h1 : v < lo
  · rw [if_pos h1] at h; exact absurd rfl h
  · rw [if_neg h1] at h
    by_cases h2 : hi < v
    · rw [if_pos h2] at h; exact absurd rfl h
    · exact ⟨fa_of_nlt h1, fa_of_nlt h2⟩
theorem zIn_01 (v lo hi : Int32) : zIn v lo hi = 0 ∨ zIn v lo hi = 1 := by
  unfold zIn
  by_cases h1 : v < lo
  · rw [if_pos h1]; exact Or.inl rfl
  · rw [if_neg h1]
    by_cases h2 : hi < v
    · rw [if_pos h2]; exact Or.inl rfl
    · rw [if_neg h2]; exact Or.inr rfl
theorem nb_in (v lo hi : Int32) : narrow .boolean (.int (zIn v lo hi)) = .int (zIn v lo hi) := by
  rcases zIn_01 v lo hi with e | e <;> rw [e] <;> rfl
theorem nI_of3 {x M : Int32} {n : Nat} (hM : M = nI n) (hn : n < 2 ^ 31) (h0 : 0 ≤ x) (h : x ≤ M) : ∃ j : Nat, j ≤ n ∧ x = nI j := by
  rw [hM] at h
  have h1 : 0 ≤ x.toInt := by rw [Int32.le_iff_toInt_le] at h0; simpa using h0
  have h2 : x.toInt ≤ n := by rw [Int32.le_iff_toInt_le, nI_toInt hn] at h; exact h
  refine ⟨x.toInt.toNat, by omega, ?_⟩
  apply Int32.toInt_inj.mp
  rw [nI_toInt (by omega)]
  omega
theorem zTag_nI {t : Int32} (h : zTag t ≠ 0) : ∃ j : Nat, 1 ≤ j ∧ j ≤ 31 ∧ t = nI j := by
  obtain ⟨h1, h2⟩ := zIn_1 h
  obtain ⟨j, hj, rfl⟩ := nI_of3 (M := 31) (n := 31) rfl (by decide) (by rw [Int32.le_iff_toInt_le] at h1 ⊢; exact Int.le_trans (by decide) h1) h2
  refine ⟨j, ?_, hj, rfl⟩
  rcases Nat.eq_zero_or_pos j with z | z
  · subst z; exact absurd h1 (by decide)
  · exact z
theorem zTag_of {j : Nat} (h1 : 1 ≤ j) (h2 : j ≤ 31) : zTag (nI j) = 1 := by
  unfold zTag zIn
  rw [if_neg (by rw [show (1 : Int32) = nI 1 from rfl]; exact nI_nlt h1 (by omega)), if_neg (by rw [show (31 : Int32) = nI 31 from rfl]; exact nI_nlt h2 (by omega))]
theorem zTag_big {j : Nat} (h : ¬ (1 ≤ j ∧ j ≤ 31)) (hj : j < 2 ^ 31) : zTag (nI j) = 0 := by
  unfold zTag zIn
  by_cases h0 : j = 0
  · subst h0; rfl
  · rw [if_neg (by rw [show (1 : Int32) = nI 1 from rfl]; exact nI_nlt (by omega) (by omega)), if_pos (by rw [show (31 : Int32) = nI 31 from rfl]; exact nI_lt (by omega) hj)]
theorem mx_32 (s t : Nat) : 32 * nI s + nI t = nI (32 * s + t) := by
  rw [show (32 : Int32) = nI 32 from rfl, pk_mul, nI_add]
theorem mx_120 (s t : Nat) : 120 * nI s + nI t = nI (120 * s + t) := by
  rw [show (120 : Int32) = nI 120 from rfl, pk_mul, nI_add]
theorem mx_120m (s : Nat) : 120 * nI s = nI (120 * s) := by
  rw [show (120 : Int32) = nI 120 from rfl, pk_mul]
section R2
variable {M : Nat} {h : mw_H} {I : Nat → Int32} {A : Nat → Nat → Int32}
theorem c_in (v lo hi : Int32) : mw_Con mm_X7_in 0 0 0 [.int v, .int lo, .int hi] h (mw_ret (.int (zIn v lo hi)) h) := by
  refine gm_con pl_X7 rfl rfl (Nat.le_of_ble_eq_true rfl) rfl ?_
  refine mw_iload_n (i := 0) dX7_in_0 rfl rfl ?_
  refine mw_iload_n (i := 1) dX7_in_1 rfl rfl ?_
  refine mw_icmp_lt (tgt := 14) dX7_in_2 (by decide) (fun c_2 => ?_) (fun c_2 => ?_)
  · refine mw_iconst (v := 0) dX7_in_14 (by decide) ?_
    exact mw_ireturn dX7_in_15 ⟨_, rfl, rfl⟩ ⟨by unfold zIn; first | rw [if_pos c_2] | rw [if_neg c_2, if_pos c_7] | rw [if_neg c_2, if_neg c_7], rfl⟩
  · refine mw_iload_n (i := 0) dX7_in_5 rfl rfl ?_
    refine mw_iload_n (i := 2) dX7_in_6 rfl rfl ?_
    refine mw_icmp_gt (tgt := 14) dX7_in_7 (by decide) (fun c_7 => ?_) (fun c_7 => ?_)
    · refine mw_iconst (v := 0) dX7_in_14 (by decide) ?_
      exact mw_ireturn dX7_in_15 ⟨_, rfl, rfl⟩ ⟨by unfold zIn; first | rw [if_pos c_2] | rw [if_neg c_2, if_pos c_7] | rw [if_neg c_2, if_neg c_7], rfl⟩
    · refine mw_iconst (v := 1) dX7_in_10 (by decide) ?_
      refine mw_goto (tgt := 15) dX7_in_11 (by decide) ?_
      exact mw_ireturn dX7_in_15 ⟨_, rfl, rfl⟩ ⟨by unfold zIn; first | rw [if_pos c_2] | rw [if_neg c_2, if_pos c_7] | rw [if_neg c_2, if_neg c_7], rfl⟩
theorem c_isTag (t : Int32) : mw_Con mm_X7_isTag 1 0 0 [.int t] h (mw_ret (.int (zTag t)) h) := by
  refine gm_con pl_X7 rfl rfl (Nat.le_of_ble_eq_true rfl) rfl ?_
  refine mw_iload_n (i := 0) dX7_isTag_0 rfl rfl ?_
  refine mw_iconst (v := 1) dX7_isTag_1 (by decide) ?_
  refine mw_bipush (v := 31) dX7_isTag_2 (by decide) ?_
  refine mw_callSr dX7_isTag_4 mk_X7_51 (c_in t 1 31) (by decide) (Nat.le_refl _) (Nat.le_refl _) rfl rfl (Nat.le_of_ble_eq_true rfl) ?_
  exact mw_ireturn dX7_isTag_7 ⟨_, rfl, nb_in _ _ _⟩ ⟨rfl, rfl⟩
theorem c_isInt (k : Int32) : mw_Con mm_X7_isInt 1 0 0 [.int k] h (mw_ret (.int (zInt k)) h) := by
  refine gm_con pl_X7 rfl rfl (Nat.le_of_ble_eq_true rfl) rfl ?_
  refine mw_iload_n (i := 0) dX7_isInt_0 rfl rfl ?_
  refine mw_iconst (v := 0) dX7_isInt_1 (by decide) ?_
  refine mw_iconst (v := 2) dX7_isInt_2 (by decide) ?_
  refine mw_callSr dX7_isInt_3 mk_X7_51 (c_in k 0 2) (by decide) (Nat.le_refl _) (Nat.le_refl _) rfl rfl (Nat.le_of_ble_eq_true rfl) ?_
  exact mw_ireturn dX7_isInt_6 ⟨_, rfl, nb_in _ _ _⟩ ⟨rfl, rfl⟩
theorem c_hasBytes (k : Int32) : mw_Con mm_X7_hasBytes 0 0 0 [.int k] h (mw_ret (.int (zHas k)) h) := by
  refine gm_con pl_X7 rfl rfl (Nat.le_of_ble_eq_true rfl) rfl ?_
  refine mw_iload_n (i := 0) dX7_hasBytes_0 rfl rfl ?_
  refine mw_iconst (v := 3) dX7_hasBytes_1 (by decide) ?_
  refine mw_icmp_eq (tgt := 10) dX7_hasBytes_2 (by decide) (fun c_2 => ?_) (fun c_2 => ?_)
  · refine mw_iconst (v := 1) dX7_hasBytes_10 (by decide) ?_
    refine mw_goto (tgt := 15) dX7_hasBytes_11 (by decide) ?_
    exact mw_ireturn dX7_hasBytes_15 ⟨_, rfl, rfl⟩ ⟨by simp_all [zHas], rfl⟩
  · refine mw_iload_n (i := 0) dX7_hasBytes_5 rfl rfl ?_
    refine mw_iconst (v := 4) dX7_hasBytes_6 (by decide) ?_
    refine mw_icmp_ne (tgt := 14) dX7_hasBytes_7 (by decide) (fun c_7 => ?_) (fun c_7 => ?_)
    · refine mw_iconst (v := 0) dX7_hasBytes_14 (by decide) ?_
      exact mw_ireturn dX7_hasBytes_15 ⟨_, rfl, rfl⟩ ⟨by simp_all [zHas], rfl⟩
    · refine mw_iconst (v := 1) dX7_hasBytes_10 (by decide) ?_
      refine mw_goto (tgt := 15) dX7_hasBytes_11 (by decide) ?_
      exact mw_ireturn dX7_hasBytes_15 ⟨_, rfl, rfl⟩ ⟨by simp_all [zHas], rfl⟩
theorem c_typeOf (k : Int32) : mw_Con mm_X7_typeOf 0 0 0 [.int k] h (mw_ret (.int (zType k)) h) := by
  refine gm_con pl_X7 rfl rfl (Nat.le_of_ble_eq_true rfl) rfl ?_
  refine mw_iload_n (i := 0) dX7_typeOf_0 rfl rfl ?_
  refine mw_iconst (v := 2) dX7_typeOf_1 (by decide) ?_
  refine mw_icmp_ne (tgt := 9) dX7_typeOf_2 (by decide) (fun c_2 => ?_) (fun c_2 => ?_)
  · refine mw_iload_n (i := 0) dX7_typeOf_9 rfl rfl ?_
    refine mw_if_eq (tgt := 18) dX7_typeOf_10 (by decide) (fun c_10 => ?_) (fun c_10 => ?_)
    · refine mw_iconst (v := 0) dX7_typeOf_18 (by decide) ?_
      refine mw_goto (tgt := 23) dX7_typeOf_19 (by decide) ?_
      exact mw_ireturn dX7_typeOf_23 ⟨_, rfl, rfl⟩ ⟨by simp_all [zType], rfl⟩
    · refine mw_iload_n (i := 0) dX7_typeOf_13 rfl rfl ?_
      refine mw_iconst (v := 1) dX7_typeOf_14 (by decide) ?_
      refine mw_icmp_ne (tgt := 22) dX7_typeOf_15 (by decide) (fun c_15 => ?_) (fun c_15 => ?_)
      · refine mw_iconst (v := 2) dX7_typeOf_22 (by decide) ?_
        exact mw_ireturn dX7_typeOf_23 ⟨_, rfl, rfl⟩ ⟨by simp_all [zType], rfl⟩
      · refine mw_iconst (v := 0) dX7_typeOf_18 (by decide) ?_
        refine mw_goto (tgt := 23) dX7_typeOf_19 (by decide) ?_
        exact mw_ireturn dX7_typeOf_23 ⟨_, rfl, rfl⟩ ⟨by simp_all [zType], rfl⟩
  · refine mw_iconst (v := 5) dX7_typeOf_5 (by decide) ?_
    refine mw_goto (tgt := 23) dX7_typeOf_6 (by decide) ?_
    exact mw_ireturn dX7_typeOf_23 ⟨_, rfl, rfl⟩ ⟨by simp_all [zType], rfl⟩
theorem c_standsFor (k v : Int32) : mw_Con mm_X7_standsFor 0 0 0 [.int k, .int v] h (mw_ret (.int (zStF k v)) h) := by
  refine gm_con pl_X7 rfl rfl (Nat.le_of_ble_eq_true rfl) rfl ?_
  refine mw_iload_n (i := 0) dX7_standsFor_0 rfl rfl ?_
  refine mw_iconst (v := 1) dX7_standsFor_1 (by decide) ?_
  refine mw_icmp_ne (tgt := 16) dX7_standsFor_2 (by decide) (fun c_2 => ?_) (fun c_2 => ?_)
  · refine mw_iload_n (i := 1) dX7_standsFor_16 rfl rfl ?_
    exact mw_ireturn dX7_standsFor_17 ⟨_, rfl, rfl⟩ ⟨by simp_all [zStF], rfl⟩
  · refine mw_iload_n (i := 1) dX7_standsFor_5 rfl rfl ?_
    refine mw_iconst (v := 1) dX7_standsFor_6 (by decide) ?_
    refine mw_iushr dX7_standsFor_7 rfl ?_
    refine mw_iload_n (i := 1) dX7_standsFor_8 rfl rfl ?_
    refine mw_iconst (v := 1) dX7_standsFor_9 (by decide) ?_
    refine mw_iand dX7_standsFor_10 ?_
    refine mw_ineg dX7_standsFor_11 ?_
    refine mw_ixor dX7_standsFor_12 ?_
    refine mw_goto (tgt := 17) dX7_standsFor_13 (by decide) ?_
    exact mw_ireturn dX7_standsFor_17 ⟨_, rfl, rfl⟩ ⟨by simp_all [zStF], rfl⟩
theorem c_standsAs (k v : Int32) : mw_Con mm_X7_standsAs 0 0 0 [.int k, .int v] h (mw_ret (.int (zStA k v)) h) := by
  refine gm_con pl_X7 rfl rfl (Nat.le_of_ble_eq_true rfl) rfl ?_
  refine mw_iload_n (i := 0) dX7_standsAs_0 rfl rfl ?_
  refine mw_iconst (v := 1) dX7_standsAs_1 (by decide) ?_
  refine mw_icmp_ne (tgt := 16) dX7_standsAs_2 (by decide) (fun c_2 => ?_) (fun c_2 => ?_)
  · refine mw_iload_n (i := 1) dX7_standsAs_16 rfl rfl ?_
    exact mw_ireturn dX7_standsAs_17 ⟨_, rfl, rfl⟩ ⟨by simp_all [zStA], rfl⟩
  · refine mw_iload_n (i := 1) dX7_standsAs_5 rfl rfl ?_
    refine mw_iconst (v := 1) dX7_standsAs_6 (by decide) ?_
    refine mw_ishl dX7_standsAs_7 ?_
    refine mw_iload_n (i := 1) dX7_standsAs_8 rfl rfl ?_
    refine mw_bipush (v := 31) dX7_standsAs_9 (by decide) ?_
    refine mw_ishr dX7_standsAs_11 ?_
    refine mw_ixor dX7_standsAs_12 ?_
    refine mw_goto (tgt := 17) dX7_standsAs_13 (by decide) ?_
    exact mw_ireturn dX7_standsAs_17 ⟨_, rfl, rfl⟩ ⟨by simp_all [zStA], rfl⟩
theorem c_thrown : mw_Con mm_X7_thrown 0 0 0 [.ref M] (gm M h I A) (mw_ret (.int (I 0)) (gm M h I A)) := by
  refine gm_con pl_X7 rfl rfl (Nat.le_of_ble_eq_true rfl) rfl ?_
  refine mw_aload_n (i := 0) dX7_thrown_0 rfl rfl ?_
  refine mw_get dX7_thrown_1 fk_X7_44 gm_0 rfl ?_
  exact mw_ireturn dX7_thrown_4 ⟨_, rfl, rfl⟩ ⟨rfl, rfl⟩
/-- whether s is a schema -/
def zSch (I : Nat → Int32) (s : Int32) : Int32 := zIn s 0 (I 1 - 1)
theorem c_isSchema (s : Int32) : mw_Con mm_X7_isSchema 1 0 0 [.ref M, .int s] (gm M h I A) (mw_ret (.int (zSch I s)) (gm M h I A)) := by
  refine gm_con pl_X7 rfl rfl (Nat.le_of_ble_eq_true rfl) rfl ?_
  refine mw_iload_n (i := 1) dX7_isSchema_0 rfl rfl ?_
  refine mw_iconst (v := 0) dX7_isSchema_1 (by decide) ?_
  refine mw_aload_n (i := 0) dX7_isSchema_2 rfl rfl ?_
  refine mw_get dX7_isSchema_3 fk_X7_48 gm_0 rfl ?_
  refine mw_iconst (v := 1) dX7_isSchema_6 (by decide) ?_
  refine mw_isub dX7_isSchema_7 ?_
  refine mw_callSr dX7_isSchema_8 mk_X7_51 (c_in s 0 (I 1 - 1)) (by decide) (Nat.le_refl _) (Nat.le_refl _) rfl rfl (Nat.le_of_ble_eq_true rfl) ?_
  exact mw_ireturn dX7_isSchema_11 ⟨_, rfl, nb_in _ _ _⟩ ⟨rfl, rfl⟩
/-- whether m is a message -/
def zMes (A : Nat → Nat → Int32) (m : Int32) : Int32 := if zIn m 0 11 = 0 then 0 else if A 4 m.toNatClampNeg = 0 then 0 else 1
theorem c_isMessage (m : Int32) : mw_Con mm_X7_isMessage 1 0 0 [.ref M, .int m] (gm M h I A) (mw_ret (.int (zMes A m)) (gm M h I A)) := by
  refine gm_con pl_X7 rfl rfl (Nat.le_of_ble_eq_true rfl) rfl ?_
  refine mw_iload_n (i := 1) dX7_isMessage_0 rfl rfl ?_
  refine mw_iconst (v := 0) dX7_isMessage_1 (by decide) ?_
  refine mw_bipush (v := 11) dX7_isMessage_2 (by decide) ?_
  refine mw_callSr dX7_isMessage_4 mk_X7_51 (c_in m 0 11) (by decide) (Nat.le_refl _) (Nat.le_refl _) rfl rfl (Nat.le_of_ble_eq_true rfl) ?_
  refine mw_if_eq (tgt := 23) dX7_isMessage_7 (by decide) (fun c_7 => ?_) (fun c_7 => ?_)
  · refine mw_iconst (v := 0) dX7_isMessage_23 (by decide) ?_
    exact mw_ireturn dX7_isMessage_24 ⟨_, rfl, rfl⟩ ⟨by simp [zMes, c_7], rfl⟩
  · obtain ⟨h1, h2⟩ := zIn_1 c_7
    obtain ⟨j, hj, rfl⟩ := nI_of3 (M := 11) (n := 11) rfl (by decide) h1 h2
    refine mw_aload_n (i := 0) dX7_isMessage_10 rfl rfl ?_
    refine mw_get dX7_isMessage_11 fk_X7_19 gm_0 rfl ?_
    refine mw_iload_n (i := 1) dX7_isMessage_14 rfl rfl ?_
    refine mw_zald dX7_isMessage_15 gm_4 (mw_ix rfl (Nat.lt_succ_of_le hj) (by decide)) ?_
    refine mw_if_eq (tgt := 23) dX7_isMessage_16 (by decide) (fun c_16 => ?_) (fun c_16 => ?_)
    · refine mw_iconst (v := 0) dX7_isMessage_23 (by decide) ?_
      exact mw_ireturn dX7_isMessage_24 ⟨_, rfl, rfl⟩ ⟨by simp [zMes, c_7, nI_clamp (show j < 2 ^ 31 by omega), c_16], rfl⟩
    · refine mw_iconst (v := 1) dX7_isMessage_19 (by decide) ?_
      refine mw_goto (tgt := 24) dX7_isMessage_20 (by decide) ?_
      exact mw_ireturn dX7_isMessage_24 ⟨_, rfl, rfl⟩ ⟨by simp [zMes, c_7, nI_clamp (show j < 2 ^ 31 by omega), c_16], rfl⟩
/-- the kind of a tag in the schema s -/
def zKind (A : Nat → Nat → Int32) (s : Nat) (t : Int32) : Int32 := if zTag t = 0 then -1 else A 1 (32 * s + t.toNatClampNeg)
theorem c_kind {s : Nat} (hs : s < 6) (t : Int32) : mw_Con mm_X7_kind 2 0 0 [.ref M, .int (nI s), .int t] (gm M h I A) (mw_ret (.int (zKind A s t)) (gm M h I A)) := by
  refine gm_con pl_X7 rfl rfl (Nat.le_of_ble_eq_true rfl) rfl ?_
  refine mw_iload_n (i := 2) dX7_kind_0 rfl rfl ?_
  refine mw_callSr dX7_kind_1 mk_X7_74 (c_isTag t) (by decide) (Nat.le_refl _) (Nat.le_refl _) rfl rfl (Nat.le_of_ble_eq_true rfl) ?_
  refine mw_if_eq (tgt := 21) dX7_kind_4 (by decide) (fun c_4 => ?_) (fun c_4 => ?_)
  · refine mw_iconst (v := -1) dX7_kind_21 (by decide) ?_
    exact mw_ireturn dX7_kind_22 ⟨_, rfl, rfl⟩ ⟨by simp [zKind, c_4], rfl⟩
  · obtain ⟨j, h1, h2, rfl⟩ := zTag_nI c_4
    refine mw_aload_n (i := 0) dX7_kind_7 rfl rfl ?_
    refine mw_get dX7_kind_8 fk_X7_7 gm_0 rfl ?_
    refine mw_bipush (v := 32) dX7_kind_11 (by decide) ?_
    refine mw_iload_n (i := 1) dX7_kind_13 rfl rfl ?_
    refine mw_imul dX7_kind_14 ?_
    refine mw_iload_n (i := 2) dX7_kind_15 rfl rfl ?_
    refine mw_iadd dX7_kind_16 ?_
    refine mw_iald dX7_kind_17 gm_1 (mw_ix (mx_32 s j) (show 32 * s + j < 192 by omega) (by decide)) ?_
    refine mw_goto (tgt := 22) dX7_kind_18 (by decide) ?_
    exact mw_ireturn dX7_kind_22 ⟨_, rfl, rfl⟩ ⟨by simp [zKind, c_4, nI_clamp (show j < 2 ^ 31 by omega)], rfl⟩
theorem c_kindIn {m s : Nat} (hm : m < 12) (hs : s < 6) (hsm : A 5 m = nI s) (t : Int32) : mw_Con mm_X7_kindIn 3 0 0 [.ref M, .int (nI m), .int t] (gm M h I A) (mw_ret (.int (zKind A s t)) (gm M h I A)) := by
  refine gm_con pl_X7 rfl rfl (Nat.le_of_ble_eq_true rfl) rfl ?_
  have hrd := hsm
  refine mw_aload_n (i := 0) dX7_kindIn_0 rfl rfl ?_
  refine mw_aload_n (i := 0) dX7_kindIn_1 rfl rfl ?_
  refine mw_get dX7_kindIn_2 fk_X7_23 gm_0 rfl ?_
  refine mw_iload_n (i := 1) dX7_kindIn_5 rfl rfl ?_
  refine mw_iald dX7_kindIn_6 gm_5 (mw_ix rfl hm (by decide)) ?_
  rw [hsm]
  refine mw_iload_n (i := 2) dX7_kindIn_7 rfl rfl ?_
  refine mw_callVr dX7_kindIn_8 mk_X7_98 gm_0 rfl (c_kind hs t) (by decide) (Nat.le_refl _) (Nat.le_refl _) rfl rfl (Nat.le_of_ble_eq_true rfl) ?_
  exact mw_ireturn dX7_kindIn_11 ⟨_, rfl, rfl⟩ ⟨rfl, rfl⟩
/-- whether the field that was read last is known to the schema s -/
def zKn (A : Nat → Nat → Int32) (s : Nat) (tag type : Int32) : Int32 := if zKind A s tag = -1 then 0 else if zType (zKind A s tag) = type then 1 else 0
theorem c_isKnown {s : Nat} (hs : s < 6) : mw_Con mm_X7_isKnown 3 0 0 [.ref M, .int (nI s)] (gm M h I A) (mw_ret (.int (zKn A s (I 13) (I 14))) (gm M h I A)) := by
  refine gm_con pl_X7 rfl rfl (Nat.le_of_ble_eq_true rfl) rfl ?_
  refine mw_aload_n (i := 0) dX7_isKnown_0 rfl rfl ?_
  refine mw_iload_n (i := 1) dX7_isKnown_1 rfl rfl ?_
  refine mw_aload_n (i := 0) dX7_isKnown_2 rfl rfl ?_
  refine mw_get dX7_isKnown_3 fk_X7_68 gm_0 rfl ?_
  refine mw_callVr dX7_isKnown_6 mk_X7_98 gm_0 rfl (c_kind hs (I 13)) (by decide) (Nat.le_refl _) (Nat.le_refl _) rfl rfl (Nat.le_of_ble_eq_true rfl) ?_
  refine mw_istore_2 dX7_isKnown_9 (by decide) ?_
  refine mw_iload_n (i := 2) dX7_isKnown_10 rfl rfl ?_
  refine mw_iconst (v := -1) dX7_isKnown_11 (by decide) ?_
  refine mw_icmp_eq (tgt := 30) dX7_isKnown_12 (by decide) (fun c_12 => ?_) (fun c_12 => ?_)
  · refine mw_iconst (v := 0) dX7_isKnown_30 (by decide) ?_
    exact mw_ireturn dX7_isKnown_31 ⟨_, rfl, rfl⟩ ⟨by simp_all [zKn], rfl⟩
  · refine mw_iload_n (i := 2) dX7_isKnown_15 rfl rfl ?_
    refine mw_callSr dX7_isKnown_16 mk_X7_102 (c_typeOf (zKind A s (I 13))) (by decide) (Nat.le_refl _) (Nat.le_refl _) rfl rfl (Nat.le_of_ble_eq_true rfl) ?_
    refine mw_aload_n (i := 0) dX7_isKnown_19 rfl rfl ?_
    refine mw_get dX7_isKnown_20 fk_X7_71 gm_0 rfl ?_
    refine mw_icmp_ne (tgt := 30) dX7_isKnown_23 (by decide) (fun c_23 => ?_) (fun c_23 => ?_)
    · refine mw_iconst (v := 0) dX7_isKnown_30 (by decide) ?_
      exact mw_ireturn dX7_isKnown_31 ⟨_, rfl, rfl⟩ ⟨by simp_all [zKn], rfl⟩
    · refine mw_iconst (v := 1) dX7_isKnown_26 (by decide) ?_
      refine mw_goto (tgt := 31) dX7_isKnown_27 (by decide) ?_
      exact mw_ireturn dX7_isKnown_31 ⟨_, rfl, rfl⟩ ⟨by simp_all [zKn], rfl⟩
end R2
