/-! canonical fields, what others there are, what is free -/
theorem kR_cong {K : Nat → Nat → Int32} {ns : Nat} {A A' : Nat → Nat → Int32} (h : kR K ns A) (h0 : A' 0 = A 0) (h1 : A' 1 = A 1) : kR K ns A' := by
  unfold kR
  rw [h0, h1]
  exact h
theorem fC_cong {A A' : Nat → Nat → Int32} {X X' : Nat → Nat → Int64} {p : Nat} {x : af} (h : fC A X p x) (h4 : A' 4 p = A 4 p) (h5 : A' 5 p = A 5 p) (h6 : X' 6 p = X 6 p) (h7 : X' 7 p = X 7 p) : fC A' X' p x := by
  unfold fC bt2
  rw [h4, h5, h6, h7]
  exact h
theorem fR_cong {A A' : Nat → Nat → Int32} {X X' : Nat → Nat → Int64} {m : Nat} {L : List af} (h : fR A X m L) (h3 : A' 3 m = A 3 m) (hp : ∀ p, 12 * m ≤ p → p < 12 * m + 12 → A' 4 p = A 4 p ∧ A' 5 p = A 5 p ∧ X' 6 p = X 6 p ∧ X' 7 p = X 7 p) : fR A' X' m L := by
  refine ⟨h3.trans h.1, h.2.1, fun i x hi => ?_⟩
  have hl := (List.getElem?_eq_some_iff.mp hi).1
  have h12 := h.2.1
  obtain ⟨a, b, c, d⟩ := hp (12 * m + i) (by omega) (by omega)
  exact fC_cong (h.2.2 i x hi) a b c d
theorem kR_at {K : Nat → Nat → Int32} {ns s t κ : Nat} {A : Nat → Nat → Int32} (hk : kR K ns A) (hs : s < ns) (h1 : 1 ≤ t) (h2 : t ≤ 31) (hκ : κ ≤ 4) (e : zKind K s (nI t) = nI κ) : ∃ i o, i < 6 ∧ tg i = t ∧ o < 4 ∧ A 0 (6 * s + i) = nI (κ + 1 + 8 * o) ∧ (κ = 4 → o < ns ∧ K 2 (32 * s + t) = nI o) ∧ (κ ≤ 2 → A 1 (6 * s + i) = K 3 (32 * s + t)) := by
  have hm1 : ∀ k : Nat, k ≤ 4 → ¬ nI k = -1 := fun k hk z => by
    have := congrArg Int32.toInt z
    rw [nI_toInt (by omega)] at this
    have : ((k : Int)) = -1 := this
    omega
  by_cases h : ∃ i, i < 6 ∧ tg i = t
  · obtain ⟨i, hi, rfl⟩ := h
    obtain ⟨κ', o, k1, k2, k3, k4, k5, k6⟩ := hk.2.1 s i hs hi
    rw [zK_t h1 h2, k4] at e
    have e2 : κ' = κ + 1 := by
      cases κ' with
      | zero => exact absurd e.symm (hm1 κ hκ)
      | succ n =>
        rw [nI_pred] at e
        rw [(nI_eq (by omega) (by omega)).mp e]
    subst e2
    exact ⟨i, o, hi, rfl, k2, k3, fun z => k5 (by omega), fun z => k6 (by omega)⟩
  · rw [zK_t h1 h2, hk.2.2 s t hs h1 h2 (fun i hi z => h ⟨i, hi, z⟩)] at e
    exact absurd e.symm (hm1 κ hκ)
theorem lix_mid {P : af → Bool} {x : af} (hx : P x = true) (L1 : List af) : ∀ (n : Nat) (L2 : List af), L2.length = n → ((∀ z ∈ L2, P z = false) → lix P (L1 ++ x :: L2) = some L1.length) ∧ ((∃ z ∈ L2, P z = true) → ∃ i, lix P (L1 ++ x :: L2) = some i ∧ L1.length < i ∧ i < (L1 ++ x :: L2).length)
  | 0, L2, hn => by
    have hn : L2 = [] := List.length_eq_zero_iff.mp hn
    subst hn
    refine ⟨fun _ => by rw [lix_app, if_pos hx], fun h => by obtain ⟨z, hz, -⟩ := h; cases hz⟩
  | n + 1, L2, hn => by
    obtain ⟨L0, y, rfl⟩ : ∃ L0 y, L2 = L0 ++ [y] := by
      rcases List.eq_nil_or_concat L2 with h | ⟨L0, y, h⟩
      · rw [h] at hn; cases hn
      · exact ⟨L0, y, by rw [h]; simp⟩
    have hn : L0.length = n := by rw [List.length_append] at hn; exact Nat.succ.inj hn
    obtain ⟨i1, i2⟩ := lix_mid hx L1 n L0 hn
    rw [show L1 ++ x :: (L0 ++ [y]) = (L1 ++ x :: L0) ++ [y] by simp, lix_app]
    constructor
    · intro h
      rw [if_neg (by rw [h y (by simp)]; decide)]
      exact i1 (fun z hz => h z (by simp [hz]))
    · intro h
      by_cases ey : P y = true
      · rw [if_pos ey]
        exact ⟨_, rfl, by rw [List.length_append, List.length_cons]; omega, by rw [List.length_append (bs := [y]), List.length_singleton]; omega⟩
      · rw [if_neg ey]
        obtain ⟨i, h1, h2, h3⟩ := i2 (by
          obtain ⟨z, hz, hP⟩ := h
          rcases List.mem_append.mp hz with hz | hz
          · exact ⟨z, hz, hP⟩
          · rw [List.mem_singleton] at hz
            rw [hz] at hP
            exact absurd hP ey)
        exact ⟨i, h1, h2, by rw [List.length_append (bs := [y]), List.length_singleton]; omega⟩
/-- the field x with L2 behind it is canonical -/
def cnb (K : Nat → Nat → Int32) (s : Nat) (x : af) (L2 : List af) : Bool := decide (knb K s x = true → (∀ z ∈ L2, Pt K s (nI x.1) z = false) ∧ dfb K s x.1 x = false)
section LH3
variable {H : mw_H} {A : Nat → Nat → Int32} {X : Nat → Nat → Int64} {K : Nat → Nat → Int32} {ns s t m p w : Nat} {x : af} {L L1 L2 : List af}
theorem c_isCanonical (hk : kR K ns A) (hs : s < ns) (hc : A 2 m = nI (s + 1)) (hm : m < 5) (hok : ∀ x ∈ L, okf x) (hR : fR A X m L) (e : L = L1 ++ x :: L2) : mw_Con mm_L_isCanonical 4 0 0 [.ref 43, .ref 44, .ref 45, .ref 46, .ref 47, .ref 48, .int (nI m), .int (nI (12 * m + L1.length))] (gl H A X) (mw_ret (.int (if cnb K s x L2 then 1 else 0)) (gl H A X)) := by
  obtain ⟨hf, l1, l2⟩ := fR_at hR e
  have hx := hok x (by rw [e]; simp)
  obtain ⟨k1, k2, k3⟩ := okf_key hx
  have h1 := hx.1
  have h2 := hx.2.1
  have h4 := hk.1
  have hP : Pt K s (nI x.1) x = knb K s x := by unfold Pt; rw [decide_eq_true rfl, Bool.true_and]
  refine gm_con pl_L rfl rfl (Nat.le_of_ble_eq_true rfl) rfl ?_
  refine mw_aload_n (i := 2) dL_isCanonical_0 rfl rfl ?_
  refine mw_iload (i := 6) dL_isCanonical_1 rfl ?_
  refine mw_iald dL_isCanonical_3 gl_2 (mw_ix rfl hm (by decide)) ?_
  rw [hc]
  refine mw_iconst (v := 1) dL_isCanonical_4 (by decide) ?_
  refine mw_isub dL_isCanonical_5 ?_
  rw [nI_pred]
  refine mw_istore_8 dL_isCanonical_6 (by decide) ?_
  refine mw_aload_n (i := 0) dL_isCanonical_8 rfl rfl ?_
  refine mw_iload (i := 8) dL_isCanonical_9 rfl ?_
  refine mw_aload (i := 4) dL_isCanonical_11 rfl ?_
  refine mw_iload (i := 7) dL_isCanonical_13 rfl ?_
  refine mw_iald dL_isCanonical_15 gl_4 (mw_ix rfl (by omega) (by decide)) ?_
  rw [hf.1]
  refine mw_callSr dL_isCanonical_16 mk_L_82 ((c_isKnown hk hs hx)) (by decide) (Nat.le_refl _) (Nat.le_refl _) rfl rfl (Nat.le_of_ble_eq_true rfl) ?_
  by_cases ek : knb K s x = true
  · rw [if_pos ek]
    refine mw_if_ne (tgt := 24) dL_isCanonical_19 (by decide) (fun _ => ?_) (fun c9 => absurd c9 (by first | decide | exact (fun q => q rfl)))
    refine mw_aload_n (i := 0) dL_isCanonical_24 rfl rfl ?_
    refine mw_iload (i := 8) dL_isCanonical_25 rfl ?_
    refine mw_aload (i := 4) dL_isCanonical_27 rfl ?_
    refine mw_iload (i := 7) dL_isCanonical_29 rfl ?_
    refine mw_iald dL_isCanonical_31 gl_4 (mw_ix rfl (by omega) (by decide)) ?_
    rw [hf.1]
    refine mw_bipush (v := 8) dL_isCanonical_32 (by decide) ?_
    refine mw_idiv dL_isCanonical_34 (by decide) ?_
    rw [mx_d8 (by omega), k2]
    refine mw_callSr dL_isCanonical_35 mk_L_69 ((c_kind hk hs h1 h2)) (by decide) (Nat.le_refl _) (Nat.le_refl _) rfl rfl (Nat.le_of_ble_eq_true rfl) ?_
    refine mw_istore_9 dL_isCanonical_38 (by decide) ?_
    refine mw_aload_n (i := 0) dL_isCanonical_40 rfl rfl ?_
    refine mw_aload_n (i := 2) dL_isCanonical_41 rfl rfl ?_
    refine mw_aload_n (i := 3) dL_isCanonical_42 rfl rfl ?_
    refine mw_aload (i := 4) dL_isCanonical_43 rfl ?_
    refine mw_iload (i := 6) dL_isCanonical_45 rfl ?_
    refine mw_aload (i := 4) dL_isCanonical_47 rfl ?_
    refine mw_iload (i := 7) dL_isCanonical_49 rfl ?_
    refine mw_iald dL_isCanonical_51 gl_4 (mw_ix rfl (by omega) (by decide)) ?_
    rw [hf.1]
    refine mw_bipush (v := 8) dL_isCanonical_52 (by decide) ?_
    refine mw_idiv dL_isCanonical_54 (by decide) ?_
    rw [mx_d8 (by omega), k2]
    refine mw_callSr dL_isCanonical_55 mk_L_86 ((c_last hk hs hc h2 hm hok hR)) (by decide) (Nat.le_refl _) (Nat.le_refl _) rfl rfl (Nat.le_of_ble_eq_true rfl) ?_
    refine mw_iload (i := 7) dL_isCanonical_58 rfl ?_
    have hlm := lix_mid (P := Pt K s (nI x.1)) (by rw [hP]; exact ek) L1 L2.length L2 rfl
    by_cases ea : ∀ z ∈ L2, Pt K s (nI x.1) z = false
    · have hl : lir (Pt K s (nI x.1)) (12 * m) L = nI (12 * m + L1.length) := by
        unfold lir
        rw [e, hlm.1 ea]
      rw [hl]
      have hcn : cnb K s x L2 = !dfb K s x.1 x := by
        unfold cnb
        cases hd : dfb K s x.1 x with
        | false => exact decide_eq_true (fun _ => ⟨ea, rfl⟩)
        | true => exact decide_eq_false (fun z => absurd (z ek).2 (by decide))
      obtain ⟨κ, h9, ez, -⟩ : ∃ κ : Nat, κ ≤ 4 ∧ zKind K s (nI x.1) = nI κ ∧ True := by
        rcases kR_cases hk hs h1 h2 with z | ⟨κ, a, b, -⟩
        · exfalso
          unfold knb zKn at ek
          rw [z, if_pos rfl] at ek
          exact absurd ek (by decide)
        · exact ⟨κ, a, b, trivial⟩
      obtain ⟨i, o, i1, i2, i3, i4, i5, i6⟩ := kR_at hk hs h1 h2 h9 ez
      rw [ez, hcn]
      by_cases e3 : κ ≤ 2
      · have hd : dfb K s x.1 x = decide (zStF (nI κ) (nI x.2.2.1) = A 1 (6 * s + i)) := by
          unfold dfb
          rw [ez, i6 e3]
          have : κ = 0 ∨ κ = 1 ∨ κ = 2 := by omega
          rcases this with rfl | rfl | rfl <;> rfl
        rw [hd]
        refine mw_icmp_ne (tgt := 101) dL_isCanonical_60 (by decide) (fun c9 => absurd c9 (by first | decide | exact (fun q => q rfl))) (fun _ => ?_)
        refine mw_iload (i := 9) dL_isCanonical_63 rfl ?_
        refine mw_iconst (v := 2) dL_isCanonical_65 (by decide) ?_
        refine mw_icmp_gt (tgt := 97) dL_isCanonical_66 (by decide) (fun c9 => absurd c9 (by first | decide | exact (fun q => q rfl) | ((try simp only [fa_lit]); first | exact cq_le (by omega) (by omega) | exact cq_nle (by omega) (by omega) | exact cq_lt (by omega) (by omega) | exact cq_nlt (by omega) (by omega) | exact cq_eq (by omega) (by omega) (by omega) | exact cq_neq (by omega)))) (fun _ => ?_)
        refine mw_iload (i := 9) dL_isCanonical_69 rfl ?_
        refine mw_aload (i := 5) dL_isCanonical_71 rfl ?_
        refine mw_iload (i := 7) dL_isCanonical_73 rfl ?_
        refine mw_iald dL_isCanonical_75 gl_5 (mw_ix rfl (by omega) (by decide)) ?_
        rw [hf.2.1]
        refine mw_callSr dL_isCanonical_76 mk_L_90 ((c_stands _ _)) (by decide) (Nat.le_refl _) (Nat.le_refl _) rfl rfl (Nat.le_of_ble_eq_true rfl) ?_
        refine mw_aload_n (i := 1) dL_isCanonical_79 rfl rfl ?_
        refine mw_iload (i := 8) dL_isCanonical_80 rfl ?_
        refine mw_aload (i := 4) dL_isCanonical_82 rfl ?_
        refine mw_iload (i := 7) dL_isCanonical_84 rfl ?_
        refine mw_iald dL_isCanonical_86 gl_4 (mw_ix rfl (by omega) (by decide)) ?_
        rw [hf.1]
        refine mw_bipush (v := 8) dL_isCanonical_87 (by decide) ?_
        refine mw_idiv dL_isCanonical_89 (by decide) ?_
        rw [mx_d8 (by omega), k2, ← i2]
        refine mw_callSr dL_isCanonical_90 mk_L_93 ((c_place i1 (by omega))) (by decide) (Nat.le_refl _) (Nat.le_refl _) rfl rfl (Nat.le_of_ble_eq_true rfl) ?_
        refine mw_iald dL_isCanonical_93 gl_1 (mw_ix rfl (by omega) (by decide)) ?_
        by_cases ed : zStF (nI κ) (nI x.2.2.1) = A 1 (6 * s + i)
        · refine mw_icmp_eq (tgt := 101) dL_isCanonical_94 (by decide) (fun _ => ?_) (fun c9 => absurd c9 (fun q => q ed))
          refine mw_iconst (v := 0) dL_isCanonical_101 (by decide) ?_
          refine mw_ireturn dL_isCanonical_102 ⟨_, rfl, rfl⟩ ⟨?_, rfl⟩
          rw [decide_eq_true ed]
          rfl
        · refine mw_icmp_eq (tgt := 101) dL_isCanonical_94 (by decide) (fun c9 => absurd c9 ed) (fun _ => ?_)
          refine mw_iconst (v := 1) dL_isCanonical_97 (by decide) ?_
          refine mw_goto (tgt := 102) dL_isCanonical_98 (by decide) ?_
          refine mw_ireturn dL_isCanonical_102 ⟨_, rfl, rfl⟩ ⟨?_, rfl⟩
          rw [decide_eq_false ed]
          rfl
      · have hd : dfb K s x.1 x = false := by
          unfold dfb
          rw [ez]
          have : κ = 3 ∨ κ = 4 := by omega
          rcases this with rfl | rfl <;> rfl
        rw [hd]
        refine mw_icmp_ne (tgt := 101) dL_isCanonical_60 (by decide) (fun c9 => absurd c9 (by first | decide | exact (fun q => q rfl))) (fun _ => ?_)
        refine mw_iload (i := 9) dL_isCanonical_63 rfl ?_
        refine mw_iconst (v := 2) dL_isCanonical_65 (by decide) ?_
        refine mw_icmp_gt (tgt := 97) dL_isCanonical_66 (by decide) (fun _ => ?_) (fun c9 => absurd c9 (by first | decide | exact (fun q => q rfl) | ((try simp only [fa_lit]); first | exact cq_le (by omega) (by omega) | exact cq_nle (by omega) (by omega) | exact cq_lt (by omega) (by omega) | exact cq_nlt (by omega) (by omega) | exact cq_eq (by omega) (by omega) (by omega) | exact cq_neq (by omega))))
        refine mw_iconst (v := 1) dL_isCanonical_97 (by decide) ?_
        refine mw_goto (tgt := 102) dL_isCanonical_98 (by decide) ?_
        exact mw_ireturn dL_isCanonical_102 ⟨_, rfl, rfl⟩ ⟨rfl, rfl⟩
    · obtain ⟨j, j1, j2, j3⟩ := hlm.2 (by
        refine Classical.byContradiction fun z => ea (fun y hy => ?_)
        cases hy2 : Pt K s (nI x.1) y with
        | false => rfl
        | true => exact absurd ⟨y, hy, hy2⟩ z)
      rw [← e] at j3
      have hl : lir (Pt K s (nI x.1)) (12 * m) L = nI (12 * m + j) := by
        unfold lir
        rw [e, j1]
      rw [hl]
      have hcn : cnb K s x L2 = false := decide_eq_false (fun z => ea (z ek).1)
      rw [hcn]
      refine mw_icmp_ne (tgt := 101) dL_isCanonical_60 (by decide) (fun _ => ?_) (fun c9 => absurd c9 (by first | decide | exact (fun q => q rfl) | ((try simp only [fa_lit]); first | exact cq_le (by omega) (by omega) | exact cq_nle (by omega) (by omega) | exact cq_lt (by omega) (by omega) | exact cq_nlt (by omega) (by omega) | exact cq_eq (by omega) (by omega) (by omega) | exact cq_neq (by omega))))
      refine mw_iconst (v := 0) dL_isCanonical_101 (by decide) ?_
      exact mw_ireturn dL_isCanonical_102 ⟨_, rfl, rfl⟩ ⟨rfl, rfl⟩
  · have hcn : cnb K s x L2 = true := decide_eq_true (fun z => absurd z ek)
    rw [if_neg ek, hcn]
    refine mw_if_ne (tgt := 24) dL_isCanonical_19 (by decide) (fun c9 => absurd c9 (by first | decide | exact (fun q => q rfl))) (fun _ => ?_)
    refine mw_iconst (v := 1) dL_isCanonical_22 (by decide) ?_
    exact mw_ireturn dL_isCanonical_23 ⟨_, rfl, rfl⟩ ⟨rfl, rfl⟩
/-- one is another -/
theorem oth_app (L1 : List af) (x : af) (t : Int32) : oth K s t (L1 ++ [x]) = if Pt K s t x then oth K s t L1 else oth K s t L1 ++ [x] := by
  unfold oth
  rw [List.filter_append, List.filter_cons]
  by_cases e : Pt K s t x = true
  · rw [if_pos e, if_neg (by rw [e]; decide)]; simp
  · rw [if_neg e, if_pos (by rw [Bool.eq_false_iff.mpr e]; rfl)]; rfl
theorem oth_len (t : Int32) : (oth K s t L).length ≤ L.length := List.length_filter_le _ _
theorem lp_others (hk : kR K ns A) (hs : s < ns) (hc : A 2 m = nI (s + 1)) (ht2 : t ≤ 31) (hm : m < 5) (hok : ∀ x ∈ L, okf x) (hR : fR A X m L) : ∀ (L2 L1 : List af), L = L1 ++ L2 → mw_W mm_L_others 3 0 0 10 [some (.ref 43), some (.ref 45), some (.ref 46), some (.ref 47), some (.int (nI m)), some (.int (nI t)), some (.int (nI (oth K s (nI t) L1).length)), some (.int (nI (12 * m + L1.length)))] [] (gl H A X) (mw_ret (.int (nI (oth K s (nI t) L).length)) (gl H A X))
  | [], L1, e => by
    rw [List.append_nil] at e
    subst e
    have h12 := hR.2.1
    refine mw_iload (i := 7) dL_others_10 rfl ?_
    refine mw_bipush (v := 12) dL_others_12 (by decide) ?_
    refine mw_iload (i := 4) dL_others_14 rfl ?_
    refine mw_imul dL_others_16 ?_
    refine mw_aload_n (i := 2) dL_others_17 rfl rfl ?_
    refine mw_iload (i := 4) dL_others_18 rfl ?_
    refine mw_iald dL_others_20 gl_3 (mw_ix rfl hm (by decide)) ?_
    refine mw_iadd dL_others_21 ?_
    rw [hR.1, mx_12]
    refine mw_icmp_ge (tgt := 70) dL_others_22 (by decide) (fun _ => ?_) (fun c9 => absurd c9 (by first | decide | exact (fun q => q rfl) | ((try simp only [fa_lit]); first | exact cq_le (by omega) (by omega) | exact cq_nle (by omega) (by omega) | exact cq_lt (by omega) (by omega) | exact cq_nlt (by omega) (by omega) | exact cq_eq (by omega) (by omega) (by omega) | exact cq_neq (by omega))))
    refine mw_iload (i := 6) dL_others_70 rfl ?_
    exact mw_ireturn dL_others_72 ⟨_, rfl, rfl⟩ ⟨rfl, rfl⟩
  | x :: L2, L1, e => by
    obtain ⟨hf, h1, h12⟩ := fR_at hR e
    have hx := hok x (by rw [e]; simp)
    obtain ⟨k1, k2, k3⟩ := okf_key hx
    have hx2 := hx.2.1
    have h9 := lp_others hk hs hc ht2 hm hok hR L2 (L1 ++ [x]) (by rw [e]; simp)
    rw [oth_app, List.length_append, List.length_singleton, ← Nat.add_assoc] at h9
    have hP : Pt K s (nI t) x = (decide (nI x.1 = nI t) && knb K s x) := rfl
    refine mw_iload (i := 7) dL_others_10 rfl ?_
    refine mw_bipush (v := 12) dL_others_12 (by decide) ?_
    refine mw_iload (i := 4) dL_others_14 rfl ?_
    refine mw_imul dL_others_16 ?_
    refine mw_aload_n (i := 2) dL_others_17 rfl rfl ?_
    refine mw_iload (i := 4) dL_others_18 rfl ?_
    refine mw_iald dL_others_20 gl_3 (mw_ix rfl hm (by decide)) ?_
    refine mw_iadd dL_others_21 ?_
    rw [hR.1, mx_12]
    refine mw_icmp_ge (tgt := 70) dL_others_22 (by decide) (fun c9 => absurd c9 (by first | decide | exact (fun q => q rfl) | ((try simp only [fa_lit]); first | exact cq_le (by omega) (by omega) | exact cq_nle (by omega) (by omega) | exact cq_lt (by omega) (by omega) | exact cq_nlt (by omega) (by omega) | exact cq_eq (by omega) (by omega) (by omega) | exact cq_neq (by omega)))) (fun _ => ?_)
    refine mw_iload (i := 6) dL_others_25 rfl ?_
    refine mw_aload_n (i := 3) dL_others_27 rfl rfl ?_
    refine mw_iload (i := 7) dL_others_28 rfl ?_
    refine mw_iald dL_others_30 gl_4 (mw_ix rfl (by omega) (by decide)) ?_
    rw [hf.1]
    refine mw_bipush (v := 8) dL_others_31 (by decide) ?_
    refine mw_idiv dL_others_33 (by decide) ?_
    rw [mx_d8 (by omega), k2]
    by_cases et : x.1 = t
    · refine mw_iload (i := 5) dL_others_34 rfl ?_
      refine mw_icmp_ne (tgt := 60) dL_others_36 (by decide) (fun c9 => absurd c9 (by first | decide | exact (fun q => q rfl) | ((try simp only [fa_lit]); first | exact cq_le (by omega) (by omega) | exact cq_nle (by omega) (by omega) | exact cq_lt (by omega) (by omega) | exact cq_nlt (by omega) (by omega) | exact cq_eq (by omega) (by omega) (by omega) | exact cq_neq (by omega)))) (fun _ => ?_)
      refine mw_aload_n (i := 0) dL_others_39 rfl rfl ?_
      refine mw_aload_n (i := 1) dL_others_40 rfl rfl ?_
      refine mw_iload (i := 4) dL_others_41 rfl ?_
      refine mw_iald dL_others_43 gl_2 (mw_ix rfl hm (by decide)) ?_
      refine mw_iconst (v := 1) dL_others_44 (by decide) ?_
      refine mw_isub dL_others_45 ?_
      refine mw_aload_n (i := 3) dL_others_46 rfl rfl ?_
      refine mw_iload (i := 7) dL_others_47 rfl ?_
      refine mw_iald dL_others_49 gl_4 (mw_ix rfl (by omega) (by decide)) ?_
      rw [hf.1, hc, nI_pred]
      refine mw_callSr dL_others_50 mk_L_82 ((c_isKnown hk hs hx)) (by decide) (Nat.le_refl _) (Nat.le_refl _) rfl rfl (Nat.le_of_ble_eq_true rfl) ?_
      by_cases ek : knb K s x = true
      · rw [if_pos (by rw [hP, ek, decide_eq_true (by rw [et])]; rfl)] at h9
        rw [if_pos ek]
        refine mw_if_eq (tgt := 60) dL_others_53 (by decide) (fun c9 => absurd c9 (by first | decide | exact (fun q => q rfl))) (fun _ => ?_)
        refine mw_iconst (v := 0) dL_others_56 (by decide) ?_
        refine mw_goto (tgt := 61) dL_others_57 (by decide) ?_
        refine mw_iadd dL_others_61 ?_
        refine mw_istore_6 dL_others_62 (by decide) ?_
        refine mw_iinc_7 dL_others_64 (by decide) rfl ?_
        refine mw_goto (tgt := 10) dL_others_67 (by decide) ?_
        rw [show nI (12 * m + L1.length) + Int32.ofInt 1 = nI (12 * m + L1.length + 1) from nI_1 _, show nI (oth K s (nI t) L1).length + 0 = nI (oth K s (nI t) L1).length from nI_add _ 0]
        exact h9
      · rw [if_neg (by rw [hP, Bool.eq_false_iff.mpr ek, Bool.and_false]; decide), List.length_append, List.length_singleton] at h9
        rw [if_neg ek]
        refine mw_if_eq (tgt := 60) dL_others_53 (by decide) (fun _ => ?_) (fun c9 => absurd c9 (by first | decide | exact (fun q => q rfl)))
        refine mw_iconst (v := 1) dL_others_60 (by decide) ?_
        refine mw_iadd dL_others_61 ?_
        refine mw_istore_6 dL_others_62 (by decide) ?_
        refine mw_iinc_7 dL_others_64 (by decide) rfl ?_
        refine mw_goto (tgt := 10) dL_others_67 (by decide) ?_
        rw [show nI (12 * m + L1.length) + Int32.ofInt 1 = nI (12 * m + L1.length + 1) from nI_1 _, show nI (oth K s (nI t) L1).length + 1 = nI ((oth K s (nI t) L1).length + 1) from nI_1 _]
        exact h9
    · rw [if_neg (by rw [hP, decide_eq_false (fun z => et ((nI_eq (by omega) (by omega)).mp z)), Bool.false_and]; decide), List.length_append, List.length_singleton] at h9
      refine mw_iload (i := 5) dL_others_34 rfl ?_
      refine mw_icmp_ne (tgt := 60) dL_others_36 (by decide) (fun _ => ?_) (fun c9 => absurd c9 (by first | decide | exact (fun q => q rfl) | ((try simp only [fa_lit]); first | exact cq_le (by omega) (by omega) | exact cq_nle (by omega) (by omega) | exact cq_lt (by omega) (by omega) | exact cq_nlt (by omega) (by omega) | exact cq_eq (by omega) (by omega) (by omega) | exact cq_neq (by omega))))
      refine mw_iconst (v := 1) dL_others_60 (by decide) ?_
      refine mw_iadd dL_others_61 ?_
      refine mw_istore_6 dL_others_62 (by decide) ?_
      refine mw_iinc_7 dL_others_64 (by decide) rfl ?_
      refine mw_goto (tgt := 10) dL_others_67 (by decide) ?_
      rw [show nI (12 * m + L1.length) + Int32.ofInt 1 = nI (12 * m + L1.length + 1) from nI_1 _, show nI (oth K s (nI t) L1).length + 1 = nI ((oth K s (nI t) L1).length + 1) from nI_1 _]
      exact h9
theorem c_others (hk : kR K ns A) (hs : s < ns) (hc : A 2 m = nI (s + 1)) (ht2 : t ≤ 31) (hm : m < 5) (hok : ∀ x ∈ L, okf x) (hR : fR A X m L) : mw_Con mm_L_others 3 0 0 [.ref 43, .ref 45, .ref 46, .ref 47, .int (nI m), .int (nI t)] (gl H A X) (mw_ret (.int (nI (oth K s (nI t) L).length)) (gl H A X)) := by
  refine gm_con pl_L rfl rfl (Nat.le_of_ble_eq_true rfl) rfl ?_
  refine mw_iconst (v := 0) dL_others_0 (by decide) ?_
  refine mw_istore_6 dL_others_1 (by decide) ?_
  refine mw_bipush (v := 12) dL_others_3 (by decide) ?_
  refine mw_iload (i := 4) dL_others_5 rfl ?_
  refine mw_imul dL_others_7 ?_
  rw [mx_12m]
  refine mw_istore_7 dL_others_8 (by decide) ?_
  exact lp_others hk hs hc ht2 hm hok hR L [] rfl
theorem lp_weightO (hk : kR K ns A) (hs : s < ns) (hc : A 2 m = nI (s + 1)) (ht2 : t ≤ 31) (hm : m < 5) (hok : ∀ x ∈ L, okf x) (hR : fR A X m L) : ∀ (L2 L1 : List af), L = L1 ++ L2 → mw_W mm_L_weightOfOthers 3 0 0 10 [some (.ref 43), some (.ref 45), some (.ref 46), some (.ref 47), some (.ref 48), some (.int (nI m)), some (.int (nI t)), some (.int (nI (eL (oth K s (nI t) L1)).length)), some (.int (nI (12 * m + L1.length)))] [] (gl H A X) (mw_ret (.int (nI (eL (oth K s (nI t) L)).length)) (gl H A X))
  | [], L1, e => by
    rw [List.append_nil] at e
    subst e
    have h12 := hR.2.1
    refine mw_iload (i := 8) dL_weightOfOthers_10 rfl ?_
    refine mw_bipush (v := 12) dL_weightOfOthers_12 (by decide) ?_
    refine mw_iload (i := 5) dL_weightOfOthers_14 rfl ?_
    refine mw_imul dL_weightOfOthers_16 ?_
    refine mw_aload_n (i := 2) dL_weightOfOthers_17 rfl rfl ?_
    refine mw_iload (i := 5) dL_weightOfOthers_18 rfl ?_
    refine mw_iald dL_weightOfOthers_20 gl_3 (mw_ix rfl hm (by decide)) ?_
    refine mw_iadd dL_weightOfOthers_21 ?_
    rw [hR.1, mx_12]
    refine mw_icmp_ge (tgt := 77) dL_weightOfOthers_22 (by decide) (fun _ => ?_) (fun c9 => absurd c9 (by first | decide | exact (fun q => q rfl) | ((try simp only [fa_lit]); first | exact cq_le (by omega) (by omega) | exact cq_nle (by omega) (by omega) | exact cq_lt (by omega) (by omega) | exact cq_nlt (by omega) (by omega) | exact cq_eq (by omega) (by omega) (by omega) | exact cq_neq (by omega))))
    refine mw_iload (i := 7) dL_weightOfOthers_77 rfl ?_
    exact mw_ireturn dL_weightOfOthers_79 ⟨_, rfl, rfl⟩ ⟨rfl, rfl⟩
  | x :: L2, L1, e => by
    obtain ⟨hf, h1, h12⟩ := fR_at hR e
    have hx := hok x (by rw [e]; simp)
    obtain ⟨k1, k2, k3⟩ := okf_key hx
    have hx2 := hx.2.1
    have h9 := lp_weightO hk hs hc ht2 hm hok hR L2 (L1 ++ [x]) (by rw [e]; simp)
    rw [oth_app, List.length_append, List.length_singleton, ← Nat.add_assoc] at h9
    have hP : Pt K s (nI t) x = (decide (nI x.1 = nI t) && knb K s x) := rfl
    refine mw_iload (i := 8) dL_weightOfOthers_10 rfl ?_
    refine mw_bipush (v := 12) dL_weightOfOthers_12 (by decide) ?_
    refine mw_iload (i := 5) dL_weightOfOthers_14 rfl ?_
    refine mw_imul dL_weightOfOthers_16 ?_
    refine mw_aload_n (i := 2) dL_weightOfOthers_17 rfl rfl ?_
    refine mw_iload (i := 5) dL_weightOfOthers_18 rfl ?_
    refine mw_iald dL_weightOfOthers_20 gl_3 (mw_ix rfl hm (by decide)) ?_
    refine mw_iadd dL_weightOfOthers_21 ?_
    rw [hR.1, mx_12]
    refine mw_icmp_ge (tgt := 77) dL_weightOfOthers_22 (by decide) (fun c9 => absurd c9 (by first | decide | exact (fun q => q rfl) | ((try simp only [fa_lit]); first | exact cq_le (by omega) (by omega) | exact cq_nle (by omega) (by omega) | exact cq_lt (by omega) (by omega) | exact cq_nlt (by omega) (by omega) | exact cq_eq (by omega) (by omega) (by omega) | exact cq_neq (by omega)))) (fun _ => ?_)
    refine mw_iload (i := 7) dL_weightOfOthers_25 rfl ?_
    refine mw_aload_n (i := 3) dL_weightOfOthers_27 rfl rfl ?_
    refine mw_iload (i := 8) dL_weightOfOthers_28 rfl ?_
    refine mw_iald dL_weightOfOthers_30 gl_4 (mw_ix rfl (by omega) (by decide)) ?_
    rw [hf.1]
    refine mw_bipush (v := 8) dL_weightOfOthers_31 (by decide) ?_
    refine mw_idiv dL_weightOfOthers_33 (by decide) ?_
    rw [mx_d8 (by omega), k2]
    by_cases et : x.1 = t
    · refine mw_iload (i := 6) dL_weightOfOthers_34 rfl ?_
      refine mw_icmp_ne (tgt := 60) dL_weightOfOthers_36 (by decide) (fun c9 => absurd c9 (by first | decide | exact (fun q => q rfl) | ((try simp only [fa_lit]); first | exact cq_le (by omega) (by omega) | exact cq_nle (by omega) (by omega) | exact cq_lt (by omega) (by omega) | exact cq_nlt (by omega) (by omega) | exact cq_eq (by omega) (by omega) (by omega) | exact cq_neq (by omega)))) (fun _ => ?_)
      refine mw_aload_n (i := 0) dL_weightOfOthers_39 rfl rfl ?_
      refine mw_aload_n (i := 1) dL_weightOfOthers_40 rfl rfl ?_
      refine mw_iload (i := 5) dL_weightOfOthers_41 rfl ?_
      refine mw_iald dL_weightOfOthers_43 gl_2 (mw_ix rfl hm (by decide)) ?_
      refine mw_iconst (v := 1) dL_weightOfOthers_44 (by decide) ?_
      refine mw_isub dL_weightOfOthers_45 ?_
      refine mw_aload_n (i := 3) dL_weightOfOthers_46 rfl rfl ?_
      refine mw_iload (i := 8) dL_weightOfOthers_47 rfl ?_
      refine mw_iald dL_weightOfOthers_49 gl_4 (mw_ix rfl (by omega) (by decide)) ?_
      rw [hf.1, hc, nI_pred]
      refine mw_callSr dL_weightOfOthers_50 mk_L_82 ((c_isKnown hk hs hx)) (by decide) (Nat.le_refl _) (Nat.le_refl _) rfl rfl (Nat.le_of_ble_eq_true rfl) ?_
      by_cases ek : knb K s x = true
      · rw [if_pos (by rw [hP, ek, decide_eq_true (by rw [et])]; rfl)] at h9
        rw [if_pos ek]
        refine mw_if_eq (tgt := 60) dL_weightOfOthers_53 (by decide) (fun c9 => absurd c9 (by first | decide | exact (fun q => q rfl))) (fun _ => ?_)
        refine mw_iconst (v := 0) dL_weightOfOthers_56 (by decide) ?_
        refine mw_goto (tgt := 68) dL_weightOfOthers_57 (by decide) ?_
        refine mw_iadd dL_weightOfOthers_68 ?_
        refine mw_istore_7 dL_weightOfOthers_69 (by decide) ?_
        refine mw_iinc_8 dL_weightOfOthers_71 (by decide) rfl ?_
        refine mw_goto (tgt := 10) dL_weightOfOthers_74 (by decide) ?_
        rw [show nI (12 * m + L1.length) + Int32.ofInt 1 = nI (12 * m + L1.length + 1) from nI_1 _, show nI (eL (oth K s (nI t) L1)).length + 0 = nI (eL (oth K s (nI t) L1)).length from nI_add _ 0]
        exact h9
      · rw [if_neg (by rw [hP, Bool.eq_false_iff.mpr ek, Bool.and_false]; decide), eL_one, List.length_append] at h9
        rw [if_neg ek]
        refine mw_if_eq (tgt := 60) dL_weightOfOthers_53 (by decide) (fun _ => ?_) (fun c9 => absurd c9 (by first | decide | exact (fun q => q rfl)))
        refine mw_aload_n (i := 3) dL_weightOfOthers_60 rfl rfl ?_
        refine mw_aload (i := 4) dL_weightOfOthers_61 rfl ?_
        refine mw_iload (i := 8) dL_weightOfOthers_63 rfl ?_
        refine mw_callSr dL_weightOfOthers_65 mk_L_78 ((c_size hx hf (by omega))) (by decide) (Nat.le_refl _) (Nat.le_refl _) rfl rfl (Nat.le_of_ble_eq_true rfl) ?_
        refine mw_iadd dL_weightOfOthers_68 ?_
        refine mw_istore_7 dL_weightOfOthers_69 (by decide) ?_
        refine mw_iinc_8 dL_weightOfOthers_71 (by decide) rfl ?_
        refine mw_goto (tgt := 10) dL_weightOfOthers_74 (by decide) ?_
        rw [show nI (12 * m + L1.length) + Int32.ofInt 1 = nI (12 * m + L1.length + 1) from nI_1 _, nI_add]
        exact h9
    · rw [if_neg (by rw [hP, decide_eq_false (fun z => et ((nI_eq (by omega) (by omega)).mp z)), Bool.false_and]; decide), eL_one, List.length_append] at h9
      refine mw_iload (i := 6) dL_weightOfOthers_34 rfl ?_
      refine mw_icmp_ne (tgt := 60) dL_weightOfOthers_36 (by decide) (fun _ => ?_) (fun c9 => absurd c9 (by first | decide | exact (fun q => q rfl) | ((try simp only [fa_lit]); first | exact cq_le (by omega) (by omega) | exact cq_nle (by omega) (by omega) | exact cq_lt (by omega) (by omega) | exact cq_nlt (by omega) (by omega) | exact cq_eq (by omega) (by omega) (by omega) | exact cq_neq (by omega))))
      refine mw_aload_n (i := 3) dL_weightOfOthers_60 rfl rfl ?_
      refine mw_aload (i := 4) dL_weightOfOthers_61 rfl ?_
      refine mw_iload (i := 8) dL_weightOfOthers_63 rfl ?_
      refine mw_callSr dL_weightOfOthers_65 mk_L_78 ((c_size hx hf (by omega))) (by decide) (Nat.le_refl _) (Nat.le_refl _) rfl rfl (Nat.le_of_ble_eq_true rfl) ?_
      refine mw_iadd dL_weightOfOthers_68 ?_
      refine mw_istore_7 dL_weightOfOthers_69 (by decide) ?_
      refine mw_iinc_8 dL_weightOfOthers_71 (by decide) rfl ?_
      refine mw_goto (tgt := 10) dL_weightOfOthers_74 (by decide) ?_
      rw [show nI (12 * m + L1.length) + Int32.ofInt 1 = nI (12 * m + L1.length + 1) from nI_1 _, nI_add]
      exact h9
theorem c_weightO (hk : kR K ns A) (hs : s < ns) (hc : A 2 m = nI (s + 1)) (ht2 : t ≤ 31) (hm : m < 5) (hok : ∀ x ∈ L, okf x) (hR : fR A X m L) : mw_Con mm_L_weightOfOthers 3 0 0 [.ref 43, .ref 45, .ref 46, .ref 47, .ref 48, .int (nI m), .int (nI t)] (gl H A X) (mw_ret (.int (nI (eL (oth K s (nI t) L)).length)) (gl H A X)) := by
  refine gm_con pl_L rfl rfl (Nat.le_of_ble_eq_true rfl) rfl ?_
  refine mw_iconst (v := 0) dL_weightOfOthers_0 (by decide) ?_
  refine mw_istore_7 dL_weightOfOthers_1 (by decide) ?_
  refine mw_bipush (v := 12) dL_weightOfOthers_3 (by decide) ?_
  refine mw_iload (i := 5) dL_weightOfOthers_5 rfl ?_
  refine mw_imul dL_weightOfOthers_7 ?_
  rw [mx_12m]
  refine mw_istore_8 dL_weightOfOthers_8 (by decide) ?_
  exact lp_weightO hk hs hc ht2 hm hok hR L [] rfl
/-- the first of the places 0 .. 4 without a message -/
def fre5 (c : Nat → Int32) : Nat := fa_first (fun m => decide (c m = 0)) 5
theorem lp_free (n : Nat) : ∀ i, i + n = 5 → (∀ j, j < i → A 2 j ≠ 0) → mw_W mm_L_free 0 0 0 2 [some (.ref 45), some (.int (nI i))] [] (gl H A X) (fun v H' => H' = gl H A X ∧ ((v = .inl (some (.int (-1))) ∧ ∀ j, j < 5 → A 2 j ≠ 0) ∨ ∃ f, f < 5 ∧ v = .inl (some (.int (nI f))) ∧ A 2 f = 0 ∧ ∀ j, j < f → A 2 j ≠ 0)) := by
  induction n with
  | zero =>
    intro i hi hj
    have hi : i = 5 := by omega
    subst hi
    refine mw_iload_n (i := 1) dL_free_2 rfl rfl ?_
    refine mw_iconst (v := 5) dL_free_3 (by decide) ?_
    refine mw_icmp_ge (tgt := 21) dL_free_4 (by decide) (fun _ => ?_) (fun c9 => absurd c9 (by first | decide | exact (fun q => q rfl)))
    refine mw_iconst (v := -1) dL_free_21 (by decide) ?_
    exact mw_ireturn dL_free_22 ⟨_, rfl, rfl⟩ ⟨rfl, Or.inl ⟨rfl, hj⟩⟩
  | succ n ih =>
    intro i hi hj
    have hi5 : i < 5 := by omega
    by_cases e : A 2 i = 0
    · refine mw_iload_n (i := 1) dL_free_2 rfl rfl ?_
      refine mw_iconst (v := 5) dL_free_3 (by decide) ?_
      refine mw_icmp_ge (tgt := 21) dL_free_4 (by decide) (fun c9 => absurd c9 (by first | decide | exact (fun q => q rfl) | ((try simp only [fa_lit]); first | exact cq_le (by omega) (by omega) | exact cq_nle (by omega) (by omega) | exact cq_lt (by omega) (by omega) | exact cq_nlt (by omega) (by omega) | exact cq_eq (by omega) (by omega) (by omega) | exact cq_neq (by omega)))) (fun _ => ?_)
      refine mw_aload_n (i := 0) dL_free_7 rfl rfl ?_
      refine mw_iload_n (i := 1) dL_free_8 rfl rfl ?_
      refine mw_iald dL_free_9 gl_2 (mw_ix rfl hi5 (by decide)) ?_
      refine mw_if_ne (tgt := 15) dL_free_10 (by decide) (fun c9 => absurd c9 (fun z => z e)) (fun _ => ?_)
      refine mw_iload_n (i := 1) dL_free_13 rfl rfl ?_
      exact mw_ireturn dL_free_14 ⟨_, rfl, rfl⟩ ⟨rfl, Or.inr ⟨i, hi5, rfl, e, hj⟩⟩
    · refine mw_iload_n (i := 1) dL_free_2 rfl rfl ?_
      refine mw_iconst (v := 5) dL_free_3 (by decide) ?_
      refine mw_icmp_ge (tgt := 21) dL_free_4 (by decide) (fun c9 => absurd c9 (by first | decide | exact (fun q => q rfl) | ((try simp only [fa_lit]); first | exact cq_le (by omega) (by omega) | exact cq_nle (by omega) (by omega) | exact cq_lt (by omega) (by omega) | exact cq_nlt (by omega) (by omega) | exact cq_eq (by omega) (by omega) (by omega) | exact cq_neq (by omega)))) (fun _ => ?_)
      refine mw_aload_n (i := 0) dL_free_7 rfl rfl ?_
      refine mw_iload_n (i := 1) dL_free_8 rfl rfl ?_
      refine mw_iald dL_free_9 gl_2 (mw_ix rfl hi5 (by decide)) ?_
      refine mw_if_ne (tgt := 15) dL_free_10 (by decide) (fun _ => ?_) (fun c9 => absurd c9 e)
      refine mw_iinc_1 dL_free_15 (by decide) rfl ?_
      refine mw_goto (tgt := 2) dL_free_18 (by decide) ?_
      rw [show nI i + Int32.ofInt 1 = nI (i + 1) from nI_1 _]
      exact ih (i + 1) (by omega) (fun j hj' => by
        rcases Nat.lt_or_ge j i with z | z
        · exact hj j z
        · rw [show j = i by omega]; exact e)
theorem c_free : mw_Con mm_L_free 0 0 0 [.ref 45] (gl H A X) (fun v H' => H' = gl H A X ∧ ((v = .inl (some (.int (-1))) ∧ ∀ j, j < 5 → A 2 j ≠ 0) ∨ ∃ f, f < 5 ∧ v = .inl (some (.int (nI f))) ∧ A 2 f = 0 ∧ ∀ j, j < f → A 2 j ≠ 0)) := by
  refine gm_con pl_L rfl rfl (Nat.le_of_ble_eq_true rfl) rfl ?_
  refine mw_iconst (v := 0) dL_free_0 (by decide) ?_
  refine mw_istore_1 dL_free_1 (by decide) ?_
  exact lp_free 5 0 rfl (fun j hj => absurd hj (Nat.not_lt_zero _))
end LH3
