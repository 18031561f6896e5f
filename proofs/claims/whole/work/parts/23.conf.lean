/-! conflicts: the math -/
def dif (A : Nat → Nat → Int32) (s o t : Nat) : Bool := decide (zKind A s (nI t) ≠ -1) && (decide (zKind A o (nI t) ≠ -1) && (decide (zKind A s (nI t) ≠ zKind A o (nI t)) && (decide (zInt (zKind A s (nI t)) ≠ 0) || decide (zInt (zKind A o (nI t)) ≠ 0))))
def led (A : Nat → Nat → Int32) (s o t : Nat) : Bool := decide (zKind A s (nI t) = 4) && decide (zKind A o (nI t) = 4)
/-- the schema of a part -/
def pn (A : Nat → Nat → Int32) (s t : Nat) : Nat := (A 2 (32 * s + t)).toNatClampNeg
/-- the pair to which a pair leads -/
def to2 (A : Nat → Nat → Int32) (s o t : Nat) : Nat := 6 * pn A s t + pn A o t
def wfK (A : Nat → Nat → Int32) (ns : Nat) : Prop := ∀ s t, s < ns → 1 ≤ t → t ≤ 31 → zKind A s (nI t) = 4 → pn A s t < ns ∧ A 2 (32 * s + t) = nI (pn A s t)
/-- a difference is found in n steps from the pair j, with no way over the pair q -/
def dn (A : Nat → Nat → Int32) (q : Nat) : Nat → Nat → Prop
  | 0, _ => False
  | n + 1, j => j ≠ q ∧ ∃ t, 1 ≤ t ∧ t ≤ 31 ∧ (dif A (j / 6) (j % 6) t = true ∨ led A (j / 6) (j % 6) t = true ∧ dn A q n (to2 A (j / 6) (j % 6) t))
def Ds (A : Nat → Nat → Int32) (q j : Nat) : Prop := ∃ n, dn A q n j
theorem Ds_here {A : Nat → Nat → Int32} {q s o t : Nat} (ho : o < 6) (h1 : 1 ≤ t) (h2 : t ≤ 31) (hq : 6 * s + o ≠ q) (h : dif A s o t = true) : Ds A q (6 * s + o) := by
  refine ⟨1, hq, t, h1, h2, Or.inl ?_⟩
  rw [show (6 * s + o) / 6 = s by omega, show (6 * s + o) % 6 = o by omega]
  exact h
theorem Ds_next {A : Nat → Nat → Int32} {q s o t : Nat} (ho : o < 6) (h1 : 1 ≤ t) (h2 : t ≤ 31) (hq : 6 * s + o ≠ q) (h : led A s o t = true) (hn : Ds A q (to2 A s o t)) : Ds A q (6 * s + o) := by
  obtain ⟨n, hn⟩ := hn
  refine ⟨n + 1, hq, t, h1, h2, Or.inr ?_⟩
  rw [show (6 * s + o) / 6 = s by omega, show (6 * s + o) % 6 = o by omega]
  exact ⟨h, hn⟩
/-- a closed set without differences holds none that leads to one -/
theorem Ds_not {A : Nat → Nat → Int32} {q : Nat} {C : Nat → Prop} (h : ∀ j, C j → j ≠ q → ∀ t, 1 ≤ t → t ≤ 31 → dif A (j / 6) (j % 6) t = false ∧ (led A (j / 6) (j % 6) t = true → C (to2 A (j / 6) (j % 6) t))) : ∀ n j, C j → ¬ dn A q n j
  | 0, _, _, hd => hd
  | n + 1, j, hC, hd => by
    obtain ⟨hq, t, h1, h2, hd⟩ := hd
    obtain ⟨i1, i2⟩ := h j hC hq t h1 h2
    rcases hd with hd | ⟨hd, hn⟩
    · rw [i1] at hd; exact absurd hd (by decide)
    · exact Ds_not h n _ (i2 hd) hn
/-- a tag is a reason -/
def rsnD (A : Nat → Nat → Int32) (s o t : Nat) : Prop := dif A s o t = true ∨ led A s o t = true ∧ Ds A (6 * s + o) (to2 A s o t)
def isConf (A : Nat → Nat → Int32) (s o : Nat) (r : Int32) : Prop := (r = -1 ∧ ∀ t, 1 ≤ t → t ≤ 31 → ¬ rsnD A s o t) ∨ (∃ t, 1 ≤ t ∧ t ≤ 31 ∧ r = nI t ∧ rsnD A s o t ∧ ∀ t', 1 ≤ t' → t' < t → ¬ rsnD A s o t')
theorem isConf_one {A : Nat → Nat → Int32} {s o : Nat} {r r' : Int32} (h : isConf A s o r) (h' : isConf A s o r') : r = r' := by
  rcases h with ⟨h1, h2⟩ | ⟨t, h1, h2, h3, h4, h5⟩
  · rcases h' with ⟨k1, k2⟩ | ⟨t', k1, k2, k3, k4, k5⟩
    · rw [h1, k1]
    · exact absurd k4 (h2 t' k1 k2)
  · rcases h' with ⟨k1, k2⟩ | ⟨t', k1, k2, k3, k4, k5⟩
    · exact absurd h4 (k2 t h1 h2)
    · rw [h3, k3]
      congr 1
      rcases Nat.lt_or_ge t t' with z | z
      · exact absurd h4 (k5 t h1 z)
      · rcases Nat.lt_or_ge t' t with z2 | z2
        · exact absurd k4 (h5 t' k1 z2)
        · omega
/-- a reason, by what is known so far -/
def rsn (A : Nat → Nat → Int32) (g : Nat → Int32) (s o t : Nat) : Bool := dif A s o t || (led A s o t && decide (g (to2 A s o t) ≠ 0))
section R11
variable {M : Nat} {h : mw_H} {I : Nat → Int32} {A : Nat → Nat → Int32}
theorem c_differsAt {s o t : Nat} (hs : s < 6) (ho : o < 6) : mw_Con mm_X7_differsAt 3 0 0 [.ref M, .int (nI s), .int (nI o), .int (nI t)] (gm M h I A) (mw_ret (.int (if dif A s o t then 1 else 0)) (gm M h I A)) := by
  refine gm_con pl_X7 rfl rfl (Nat.le_of_ble_eq_true rfl) rfl ?_
  refine mw_aload_n (i := 0) dX7_differsAt_0 rfl rfl ?_
  refine mw_iload_n (i := 1) dX7_differsAt_1 rfl rfl ?_
  refine mw_iload_n (i := 3) dX7_differsAt_2 rfl rfl ?_
  refine mw_callVr dX7_differsAt_3 mk_X7_98 gm_0 rfl (c_kind hs (nI t)) (by decide) (Nat.le_refl _) (Nat.le_refl _) rfl rfl (Nat.le_of_ble_eq_true rfl) ?_
  refine mw_istore_4 dX7_differsAt_6 (by decide) ?_
  refine mw_aload_n (i := 0) dX7_differsAt_8 rfl rfl ?_
  refine mw_iload_n (i := 2) dX7_differsAt_9 rfl rfl ?_
  refine mw_iload_n (i := 3) dX7_differsAt_10 rfl rfl ?_
  refine mw_callVr dX7_differsAt_11 mk_X7_98 gm_0 rfl (c_kind ho (nI t)) (by decide) (Nat.le_refl _) (Nat.le_refl _) rfl rfl (Nat.le_of_ble_eq_true rfl) ?_
  refine mw_istore_5 dX7_differsAt_14 (by decide) ?_
  refine mw_iload (i := 4) dX7_differsAt_16 rfl ?_
  refine mw_iconst (v := -1) dX7_differsAt_18 (by decide) ?_
  refine mw_icmp_eq (tgt := 55) dX7_differsAt_19 (by decide) (fun c_19 => ?_) (fun c_19 => ?_)
  · refine mw_iconst (v := 0) dX7_differsAt_55 (by decide) ?_
    exact mw_ireturn dX7_differsAt_56 ⟨_, rfl, rfl⟩ ⟨by unfold dif; simp [*], rfl⟩
  · refine mw_iload (i := 5) dX7_differsAt_22 rfl ?_
    refine mw_iconst (v := -1) dX7_differsAt_24 (by decide) ?_
    refine mw_icmp_eq (tgt := 55) dX7_differsAt_25 (by decide) (fun c_25 => ?_) (fun c_25 => ?_)
    · refine mw_iconst (v := 0) dX7_differsAt_55 (by decide) ?_
      exact mw_ireturn dX7_differsAt_56 ⟨_, rfl, rfl⟩ ⟨by unfold dif; simp [*], rfl⟩
    · refine mw_iload (i := 4) dX7_differsAt_28 rfl ?_
      refine mw_iload (i := 5) dX7_differsAt_30 rfl ?_
      refine mw_icmp_eq (tgt := 55) dX7_differsAt_32 (by decide) (fun c_32 => ?_) (fun c_32 => ?_)
      · refine mw_iconst (v := 0) dX7_differsAt_55 (by decide) ?_
        exact mw_ireturn dX7_differsAt_56 ⟨_, rfl, rfl⟩ ⟨by unfold dif; simp [*], rfl⟩
      · refine mw_iload (i := 4) dX7_differsAt_35 rfl ?_
        refine mw_callSr dX7_differsAt_37 mk_X7_120 (c_isInt (zKind A s (nI t))) (by decide) (Nat.le_refl _) (Nat.le_refl _) rfl rfl (Nat.le_of_ble_eq_true rfl) ?_
        refine mw_if_ne (tgt := 51) dX7_differsAt_40 (by decide) (fun c_40 => ?_) (fun c_40 => ?_)
        · refine mw_iconst (v := 1) dX7_differsAt_51 (by decide) ?_
          refine mw_goto (tgt := 56) dX7_differsAt_52 (by decide) ?_
          exact mw_ireturn dX7_differsAt_56 ⟨_, rfl, rfl⟩ ⟨by unfold dif; simp [*], rfl⟩
        · refine mw_iload (i := 5) dX7_differsAt_43 rfl ?_
          refine mw_callSr dX7_differsAt_45 mk_X7_120 (c_isInt (zKind A o (nI t))) (by decide) (Nat.le_refl _) (Nat.le_refl _) rfl rfl (Nat.le_of_ble_eq_true rfl) ?_
          refine mw_if_eq (tgt := 55) dX7_differsAt_48 (by decide) (fun c_48 => ?_) (fun c_48 => ?_)
          · refine mw_iconst (v := 0) dX7_differsAt_55 (by decide) ?_
            exact mw_ireturn dX7_differsAt_56 ⟨_, rfl, rfl⟩ ⟨by unfold dif; simp [*], rfl⟩
          · refine mw_iconst (v := 1) dX7_differsAt_51 (by decide) ?_
            refine mw_goto (tgt := 56) dX7_differsAt_52 (by decide) ?_
            exact mw_ireturn dX7_differsAt_56 ⟨_, rfl, rfl⟩ ⟨by unfold dif; simp [*], rfl⟩
theorem c_leadsTo {s o t : Nat} (hs : s < 6) (ho : o < 6) (h1 : 1 ≤ t) (h2 : t ≤ 31) : mw_Con mm_X7_leadsTo 3 0 0 [.ref M, .int (nI s), .int (nI o), .int (nI t)] (gm M h I A) (mw_ret (.int (if led A s o t then 6 * A 2 (32 * s + t) + A 2 (32 * o + t) else -1)) (gm M h I A)) := by
  refine gm_con pl_X7 rfl rfl (Nat.le_of_ble_eq_true rfl) rfl ?_
  have ix1 := mw_ix (mx_32 s t) (show 32 * s + t < 192 by omega) (by decide)
  have ix2 := mw_ix (mx_32 o t) (show 32 * o + t < 192 by omega) (by decide)
  have hno : led A s o t = false → mw_W mm_X7_leadsTo 3 0 0 24 [some (.ref M), some (.int (nI s)), some (.int (nI o)), some (.int (nI t)), none] [] (gm M h I A) (mw_ret (.int (if led A s o t then 6 * A 2 (32 * s + t) + A 2 (32 * o + t) else -1)) (gm M h I A)) := by
    intro e
    rw [e]
    refine mw_iconst (v := 0) dX7_leadsTo_24 (by decide) ?_
    refine mw_istore_4 dX7_leadsTo_25 (by decide) ?_
    refine mw_iload (i := 4) dX7_leadsTo_27 rfl ?_
    refine mw_if_eq (tgt := 61) dX7_leadsTo_29 (by decide) (fun c_29 => ?_) (fun c_29 => ?_)
    · refine mw_iconst (v := -1) dX7_leadsTo_61 (by decide) ?_
      exact mw_ireturn dX7_leadsTo_62 ⟨_, rfl, rfl⟩ ⟨rfl, rfl⟩
    · exact absurd rfl c_29
  refine mw_aload_n (i := 0) dX7_leadsTo_0 rfl rfl ?_
  refine mw_iload_n (i := 1) dX7_leadsTo_1 rfl rfl ?_
  refine mw_iload_n (i := 3) dX7_leadsTo_2 rfl rfl ?_
  refine mw_callVr dX7_leadsTo_3 mk_X7_98 gm_0 rfl (c_kind hs (nI t)) (by decide) (Nat.le_refl _) (Nat.le_refl _) rfl rfl (Nat.le_of_ble_eq_true rfl) ?_
  refine mw_iconst (v := 4) dX7_leadsTo_6 (by decide) ?_
  refine mw_icmp_ne (tgt := 24) dX7_leadsTo_7 (by decide) (fun c_7 => ?_) (fun c_7 => ?_)
  · refine hno ?_
    unfold led
    rw [decide_eq_false c_7, Bool.false_and]
  · refine mw_aload_n (i := 0) dX7_leadsTo_10 rfl rfl ?_
    refine mw_iload_n (i := 2) dX7_leadsTo_11 rfl rfl ?_
    refine mw_iload_n (i := 3) dX7_leadsTo_12 rfl rfl ?_
    refine mw_callVr dX7_leadsTo_13 mk_X7_98 gm_0 rfl (c_kind ho (nI t)) (by decide) (Nat.le_refl _) (Nat.le_refl _) rfl rfl (Nat.le_of_ble_eq_true rfl) ?_
    refine mw_iconst (v := 4) dX7_leadsTo_16 (by decide) ?_
    refine mw_icmp_ne (tgt := 24) dX7_leadsTo_17 (by decide) (fun c_17 => ?_) (fun c_17 => ?_)
    · refine hno ?_
      unfold led
      rw [decide_eq_false (p := zKind A o (nI t) = 4) c_17, Bool.and_false]
    · have e : led A s o t = true := by
        unfold led
        rw [decide_eq_true c_7, decide_eq_true (p := zKind A o (nI t) = 4) c_17]
        rfl
      rw [e]
      refine mw_iconst (v := 1) dX7_leadsTo_20 (by decide) ?_
      refine mw_goto (tgt := 25) dX7_leadsTo_21 (by decide) ?_
      refine mw_istore_4 dX7_leadsTo_25 (by decide) ?_
      refine mw_iload (i := 4) dX7_leadsTo_27 rfl ?_
      refine mw_if_eq (tgt := 61) dX7_leadsTo_29 (by decide) (fun c_29 => ?_) (fun c_29 => ?_)
      · exact absurd (show (1 : Int32) = 0 from c_29) (by decide)
      · refine mw_bipush (v := 6) dX7_leadsTo_32 (by decide) ?_
        refine mw_aload_n (i := 0) dX7_leadsTo_34 rfl rfl ?_
        refine mw_get dX7_leadsTo_35 fk_X7_13 gm_0 rfl ?_
        refine mw_bipush (v := 32) dX7_leadsTo_38 (by decide) ?_
        refine mw_iload_n (i := 1) dX7_leadsTo_40 rfl rfl ?_
        refine mw_imul dX7_leadsTo_41 ?_
        refine mw_iload_n (i := 3) dX7_leadsTo_42 rfl rfl ?_
        refine mw_iadd dX7_leadsTo_43 ?_
        refine mw_iald dX7_leadsTo_44 gm_2 ix1 ?_
        refine mw_imul dX7_leadsTo_45 ?_
        refine mw_aload_n (i := 0) dX7_leadsTo_46 rfl rfl ?_
        refine mw_get dX7_leadsTo_47 fk_X7_13 gm_0 rfl ?_
        refine mw_bipush (v := 32) dX7_leadsTo_50 (by decide) ?_
        refine mw_iload_n (i := 2) dX7_leadsTo_52 rfl rfl ?_
        refine mw_imul dX7_leadsTo_53 ?_
        refine mw_iload_n (i := 3) dX7_leadsTo_54 rfl rfl ?_
        refine mw_iadd dX7_leadsTo_55 ?_
        refine mw_iald dX7_leadsTo_56 gm_2 ix2 ?_
        refine mw_iadd dX7_leadsTo_57 ?_
        refine mw_goto (tgt := 62) dX7_leadsTo_58 (by decide) ?_
        exact mw_ireturn dX7_leadsTo_62 ⟨_, rfl, rfl⟩ ⟨rfl, rfl⟩
theorem to2_lt {ns s o t : Nat} (hw : wfK A ns) (hns : ns ≤ 6) (hs : s < ns) (ho : o < ns) (h1 : 1 ≤ t) (h2 : t ≤ 31) (hl : led A s o t = true) : to2 A s o t < 36 ∧ 6 * A 2 (32 * s + t) + A 2 (32 * o + t) = nI (to2 A s o t) ∧ pn A s t < ns ∧ pn A o t < ns := by
  unfold led at hl
  rw [Bool.and_eq_true, decide_eq_true_iff, decide_eq_true_iff] at hl
  obtain ⟨a1, a2⟩ := hw s t hs h1 h2 hl.1
  obtain ⟨b1, b2⟩ := hw o t ho h1 h2 hl.2
  unfold to2
  refine ⟨by omega, ?_, a1, b1⟩
  rw [a2, b2, show (6 : Int32) = nI 6 from rfl, pk_mul, nI_add]
theorem c_isReason {ns s o t : Nat} (hw : wfK A ns) (hns : ns ≤ 6) (hs : s < ns) (ho : o < ns) (h1 : 1 ≤ t) (h2 : t ≤ 31) : mw_Con mm_X7_isReason 4 0 0 [.ref M, .int (nI s), .int (nI o), .int (nI t)] (gm M h I A) (mw_ret (.int (if rsn A (A 11) s o t then 1 else 0)) (gm M h I A)) := by
  have htl := fun z => to2_lt hw hns hs ho h1 h2 z
  refine gm_con pl_X7 rfl rfl (Nat.le_of_ble_eq_true rfl) rfl ?_
  refine mw_aload_n (i := 0) dX7_isReason_0 rfl rfl ?_
  refine mw_iload_n (i := 1) dX7_isReason_1 rfl rfl ?_
  refine mw_iload_n (i := 2) dX7_isReason_2 rfl rfl ?_
  refine mw_iload_n (i := 3) dX7_isReason_3 rfl rfl ?_
  refine mw_callVr dX7_isReason_4 mk_X7_139 gm_0 rfl (c_leadsTo (show s < 6 by omega) (show o < 6 by omega) h1 h2) (by decide) (Nat.le_refl _) (Nat.le_refl _) rfl rfl (Nat.le_of_ble_eq_true rfl) ?_
  refine mw_istore_4 dX7_isReason_7 (by decide) ?_
  refine mw_aload_n (i := 0) dX7_isReason_9 rfl rfl ?_
  refine mw_iload_n (i := 1) dX7_isReason_10 rfl rfl ?_
  refine mw_iload_n (i := 2) dX7_isReason_11 rfl rfl ?_
  refine mw_iload_n (i := 3) dX7_isReason_12 rfl rfl ?_
  refine mw_callVr dX7_isReason_13 mk_X7_143 gm_0 rfl (c_differsAt (show s < 6 by omega) (show o < 6 by omega)) (by decide) (Nat.le_refl _) (Nat.le_refl _) rfl rfl (Nat.le_of_ble_eq_true rfl) ?_
  cases hd : dif A s o t with
  | true =>
    have e : rsn A (A 11) s o t = true := by unfold rsn; rw [hd]; rfl
    rw [e]
    refine mw_if_ne (tgt := 35) dX7_isReason_16 (by decide) (fun c_16 => ?_) (fun c_16 => ?_)
    · refine mw_iconst (v := 1) dX7_isReason_35 (by decide) ?_
      refine mw_goto (tgt := 40) dX7_isReason_36 (by decide) ?_
      exact mw_ireturn dX7_isReason_40 ⟨_, rfl, rfl⟩ ⟨rfl, rfl⟩
    · exact absurd (show (1 : Int32) = 0 from c_16) (by decide)
  | false =>
    refine mw_if_ne (tgt := 35) dX7_isReason_16 (by decide) (fun c_16 => ?_) (fun c_16 => ?_)
    · exact absurd rfl c_16
    · cases hl : led A s o t with
      | false =>
        have e : rsn A (A 11) s o t = false := by unfold rsn; rw [hd, hl]; rfl
        rw [e]
        refine mw_iload (i := 4) dX7_isReason_19 rfl ?_
        refine mw_iconst (v := -1) dX7_isReason_21 (by decide) ?_
        refine mw_icmp_eq (tgt := 39) dX7_isReason_22 (by decide) (fun c_22 => ?_) (fun c_22 => ?_)
        · refine mw_iconst (v := 0) dX7_isReason_39 (by decide) ?_
          exact mw_ireturn dX7_isReason_40 ⟨_, rfl, rfl⟩ ⟨rfl, rfl⟩
        · exact absurd rfl c_22
      | true =>
        obtain ⟨t1, t2, -⟩ := htl hl
        have e : rsn A (A 11) s o t = decide (A 11 (to2 A s o t) ≠ 0) := by unfold rsn; rw [hd, hl]; rfl
        rw [e, if_pos rfl, t2]
        refine mw_iload (i := 4) dX7_isReason_19 rfl ?_
        refine mw_iconst (v := -1) dX7_isReason_21 (by decide) ?_
        refine mw_icmp_eq (tgt := 39) dX7_isReason_22 (by decide) (fun c_22 => ?_) (fun c_22 => ?_)
        · exact absurd (show nI (to2 A s o t) < 0 by rw [show nI (to2 A s o t) = -1 from c_22]; decide) (nI_pos (by omega))
        · refine mw_aload_n (i := 0) dX7_isReason_25 rfl rfl ?_
          refine mw_get dX7_isReason_26 fk_X7_41 gm_0 rfl ?_
          refine mw_iload (i := 4) dX7_isReason_29 rfl ?_
          refine mw_zald dX7_isReason_31 gm_11 (mw_ix rfl t1 (by decide)) ?_
          refine mw_if_eq (tgt := 39) dX7_isReason_32 (by decide) (fun c_32 => ?_) (fun c_32 => ?_)
          · refine mw_iconst (v := 0) dX7_isReason_39 (by decide) ?_
            exact mw_ireturn dX7_isReason_40 ⟨_, rfl, rfl⟩ ⟨by rw [decide_eq_false (fun z => z c_32)]; rfl, rfl⟩
          · refine mw_iconst (v := 1) dX7_isReason_35 (by decide) ?_
            refine mw_goto (tgt := 40) dX7_isReason_36 (by decide) ?_
            exact mw_ireturn dX7_isReason_40 ⟨_, rfl, rfl⟩ ⟨by rw [decide_eq_true c_32]; rfl, rfl⟩
end R11
