/-! the class side: pairs of schemas (class side) -/
theorem pl_X4 : plainName RX4 = true := by decide +kernel
abbrev pV (p n : Nat) : va_E := .inr (4, [.ref (p + 1), .ref (p + 2), .ref (p + 3), .int (nI n)])
abbrev pA (g : Nat → Option Nat) : va_E := .inl (4, (36, .inr (.inr (.inr (.inr g)))))
/-- at p the pairs Q, noted -/
def isP (H : mw_H) (p : Nat) (sa : Nat → Nat) (ns : Nat) (Q : List Nat) : Prop := mw_g H p = some (pV p Q.length) ∧ (∀ j ∈ Q, j / 6 < ns ∧ j % 6 < ns) ∧ ∃ (g1 g2 : Nat → Option Nat) (f : Nat → Int32), mw_g H (p + 1) = some (pA g1) ∧ mw_g H (p + 2) = some (pA g2) ∧ mw_g H (p + 3) = some (.inl (2, (36, .inl f))) ∧ (∀ i, i < Q.length → g1 i = some (sa (Q.getD i 0 / 6)) ∧ g2 i = some (sa (Q.getD i 0 % 6))) ∧ (∀ j, j < 36 → f j = if j ∈ Q then 1 else 0) ∧ Q.length + zc f = 36
/-- room for pairs -/
def isP0 (H : mw_H) (p : Nat) : Prop := ∃ (n : Nat) (g1 g2 : Nat → Option Nat) (f : Nat → Int32), mw_g H p = some (pV p n) ∧ mw_g H (p + 1) = some (pA g1) ∧ mw_g H (p + 2) = some (pA g2) ∧ mw_g H (p + 3) = some (.inl (2, (36, .inl f)))
def SP (p : Nat) : List Nat := [p, p + 1, p + 2, p + 3]
theorem SP_o {p b : Nat} (h : p + 3 < b) : b ∉ SP p := by
  unfold SP
  simp only [List.mem_cons, List.not_mem_nil, or_false, not_or]
  omega
theorem isP.r {H : mw_H} {p : Nat} {sa : Nat → Nat} {ns : Nat} {Q : List Nat} (h : isP H p sa ns Q) : isP0 H p := by
  obtain ⟨h1, -, g1, g2, f, h2, h3, h4, -⟩ := h
  exact ⟨_, g1, g2, f, h1, h2, h3, h4⟩
theorem isP0_F {S : List Nat} {H H' : mw_H} {p : Nat} (h : isP0 H p) (hF : yF S H H') (hS : ∀ b ∈ S, b < p ∨ p + 3 < b) : isP0 H' p := by
  obtain ⟨n, g1, g2, f, h1, h2, h3, h4⟩ := h
  have ho : ∀ j, j ≤ 3 → p + j ∉ S := fun j hj hm => by have := hS _ hm; omega
  exact ⟨n, g1, g2, f, hF.g (ho 0 (by decide)) h1, hF.g (ho 1 (by decide)) h2, hF.g (ho 2 (by decide)) h3, hF.g (ho 3 (by decide)) h4⟩
theorem zc_pos {f : Nat → Int32} {j : Nat} (hj : j < 36) (h : f j = 0) : 0 < zc f := by
  have h1 := cnt_upd (f := f) (i := j) (x := 1) (by decide) h 36 hj
  show 0 < fa_cnt (fun j => decide (f j = 0)) 36
  omega
theorem zc_upd {f : Nat → Int32} {j : Nat} (hj : j < 36) (h : f j = 0) : zc (upd f j 1) + 1 = zc f := cnt_upd (by decide) h 36 hj
theorem zc_0 {f : Nat → Int32} (h : ∀ j, j < 36 → f j = 0) : zc f = 36 := by
  have h1 : ∀ n, n ≤ 36 → fa_cnt (fun j => decide (f j = 0)) n = n := by
    intro n
    induction n with
    | zero => intro _; rfl
    | succ n ih =>
      intro hn
      rw [fa_cnt_yes (by rw [h n (by omega)]; rfl), ih (by omega)]
  exact h1 36 (Nat.le_refl _)
section C17
variable {H : mw_H} {p : Nat} {K : Nat → Nat → Int32} {sa : Nat → Nat} {ns s o : Nat} {Q : List Nat}
/-- all schemas -/
def aS (H : mw_H) (K : Nat → Nat → Int32) (sa : Nat → Nat) (ns : Nat) : Prop := ∀ s, s < ns → isS H K sa s (sa s) (sa s + 1) (sa s + 2) (sa s + 3) (sa s + 4)
theorem aS_F {S : List Nat} {H H' : mw_H} (h : aS H K sa ns) (hF : yF S H H') (hS : ∀ s, s < ns → sa s ∉ S ∧ sa s + 1 ∉ S ∧ sa s + 2 ∉ S ∧ sa s + 3 ∉ S ∧ sa s + 4 ∉ S) : aS H' K sa ns := fun s hs => isS_F (h s hs) hF (hS s hs).1 (hS s hs).2.1 (hS s hs).2.2.1 (hS s hs).2.2.2.1 (hS s hs).2.2.2.2
theorem aS_P {H H' : mw_H} (h : aS H K sa ns) (hF : yF (SP p) H H') (hsa : ∀ s, s < ns → p + 3 < sa s) : aS H' K sa ns := aS_F h hF (fun s hs => by have := hsa s hs; exact ⟨SP_o (by omega), SP_o (by omega), SP_o (by omega), SP_o (by omega), SP_o (by omega)⟩)
theorem lp_fp : ∀ (r k : Nat) (f : Nat → Int32) (H' : mw_H), k + r = 36 → yF [p + 3] H H' → mw_g H' (p + 3) = some (.inl (2, (36, .inl f))) → (∀ j, j < k → f j = 0) → mw_g H p = some (pV p 0) ∨ (∃ n, mw_g H p = some (pV p n)) →
    mw_W mm_X4_forgetPairs 0 0 0 2 [some (.ref p), some (.int (nI k))] [] H' (fun v H' => v = .inl none ∧ yF [p, p + 3] H H' ∧ mw_g H' p = some (pV p 0) ∧ ∃ f, mw_g H' (p + 3) = some (.inl (2, (36, .inl f))) ∧ ∀ j, j < 36 → f j = 0) := by
  intro r
  induction r with
  | zero =>
    intro k f H' hk hF hf h0 hp
    have hk : k = 36 := hk
    subst hk
    obtain ⟨n, hp⟩ : ∃ n, mw_g H p = some (pV p n) := by
      rcases hp with h | h
      · exact ⟨_, h⟩
      · exact h
    have h_this := hF.g (S5_1 (show p ≠ p + 3 by omega)) hp
    refine mw_iload_n (i := 1) dX4_forgetPairs_2 rfl rfl ?_
    refine mw_bipush (v := 36) dX4_forgetPairs_3 (by decide) ?_
    refine mw_icmp_ge (tgt := 21) dX4_forgetPairs_5 (by decide) (fun _ => ?_) (fun c9 => absurd c9 (by first | decide | (rw [pk_us]; decide)))
    refine mw_aload_n (i := 0) dX4_forgetPairs_21 rfl rfl ?_
    refine mw_iconst (v := 0) dX4_forgetPairs_22 (by decide) ?_
    refine mw_put dX4_forgetPairs_23 fk_X4_39 h_this (Nat.le_of_ble_eq_true rfl) (fun _ => ⟨rfl, rfl⟩) ?_
    exact mw_return dX4_forgetPairs_26 rfl ⟨rfl, (hF.mo (by simp)).s (by simp), mw_gs, f, (mw_go (by omega)).trans hf, h0⟩
  | succ r ih =>
    intro k f H' hk hF hf h0 hp
    obtain ⟨n, hp1⟩ : ∃ n, mw_g H p = some (pV p n) := by
      rcases hp with h | h
      · exact ⟨_, h⟩
      · exact h
    have h_this := hF.g (S5_1 (show p ≠ p + 3 by omega)) hp1
    have h_this_isNoted := hf
    refine mw_iload_n (i := 1) dX4_forgetPairs_2 rfl rfl ?_
    refine mw_bipush (v := 36) dX4_forgetPairs_3 (by decide) ?_
    refine mw_icmp_ge (tgt := 21) dX4_forgetPairs_5 (by decide) (fun c9 => absurd c9 (show ¬ nI 36 ≤ nI k from nI_ge (by omega) (by decide))) (fun _ => ?_)
    refine mw_aload_n (i := 0) dX4_forgetPairs_8 rfl rfl ?_
    refine mw_get dX4_forgetPairs_9 fk_X4_20 h_this rfl ?_
    refine mw_iload_n (i := 1) dX4_forgetPairs_12 rfl rfl ?_
    refine mw_iconst (v := 0) dX4_forgetPairs_13 (by decide) ?_
    refine mw_zast dX4_forgetPairs_14 h_this_isNoted (mw_ix rfl (show k < 36 by omega) (by decide)) ?_
    refine mw_iinc_1 dX4_forgetPairs_15 (by decide) rfl ?_
    refine mw_goto (tgt := 2) dX4_forgetPairs_18 (by decide) ?_
    rw [show nI k + Int32.ofInt 1 = nI (k + 1) from nI_1 k]
    refine ih (k + 1) _ _ (by omega) (hF.s (by simp)) mw_gs (fun j hj => ?_) hp
    by_cases e : j = k
    · rw [e, pk_us]; rfl
    · rw [pk_un e]; exact h0 j (by omega)
theorem y_forgetPairs (hP : isP0 H p) : mw_Con mm_X4_forgetPairs 0 0 0 [.ref p] H (fun v H' => v = .inl none ∧ yF (SP p) H H' ∧ isP H' p sa ns []) := by
  obtain ⟨n, g1, g2, f, h1, h2, h3, h4⟩ := hP
  refine gm_con pl_X4 rfl rfl (Nat.le_of_ble_eq_true rfl) rfl ?_
  refine mw_iconst (v := 0) dX4_forgetPairs_0 (by decide) ?_
  refine mw_istore_1 dX4_forgetPairs_1 (by decide) ?_
  refine mw_post (fun v h' z => ?_) (lp_fp (H := H) (p := p) 36 0 f H rfl yF.rf h4 (fun j hj => absurd hj (Nat.not_lt_zero _)) (Or.inr ⟨n, h1⟩))
  obtain ⟨z1, z2, z3, f', z4, z5⟩ := z
  exact ⟨z1, z2.mo (fun b hb => by unfold SP; simp only [List.mem_cons, List.not_mem_nil, or_false] at hb ⊢; omega), z3, fun j hj => absurd hj List.not_mem_nil, g1, g2, f', z2.g (by simp) h2, z2.g (by simp) h3, z4, fun i hi => absurd hi (Nat.not_lt_zero _), fun j hj => by rw [z5 j hj, if_neg List.not_mem_nil], by rw [zc_0 z5]; rfl⟩
/-- Q with j noted -/
def nte (Q : List Nat) (j : Nat) : List Nat := if j ∈ Q then Q else Q ++ [j]
theorem y_notePair (hns : ns ≤ 6) (hA : aS H K sa ns) (hP : isP H p sa ns Q) (hs : s < ns) (ho : o < ns) (hsa : ∀ s, s < ns → p + 3 < sa s) : mw_Con mm_X4_notePair 0 0 0 [.ref p, .ref (sa s), .ref (sa o)] H (fun v H' => v = .inl none ∧ yF (SP p) H H' ∧ isP H' p sa ns (nte Q (6 * s + o))) := by
  have hP0 := hP
  obtain ⟨h_this, hq, g1, g2, f, h_this_olders, h_this_successors, h_this_isNoted, hg, hf, hz⟩ := hP
  have h_p1 := (hA s hs).1
  have h_p2 := (hA o ho).1
  have s1 := hsa s hs
  have s2 := hsa o ho
  have hj : 6 * s + o < 36 := by omega
  have fj := hf _ hj
  refine gm_con pl_X4 rfl rfl (Nat.le_of_ble_eq_true rfl) rfl ?_
  refine mw_aload_n (i := 1) dX4_notePair_0 rfl rfl ?_
  refine mw_get dX4_notePair_1 fk_X4_55 h_p1 rfl ?_
  refine mw_bipush (v := 6) dX4_notePair_4 (by decide) ?_
  refine mw_imul dX4_notePair_6 ?_
  refine mw_aload_n (i := 2) dX4_notePair_7 rfl rfl ?_
  refine mw_get dX4_notePair_8 fk_X4_55 h_p2 rfl ?_
  refine mw_iadd dX4_notePair_11 ?_
  rw [show nI s * 6 + nI o = nI (6 * s + o) by rw [show (6 : Int32) = nI 6 from rfl, pk_mul, nI_add, Nat.mul_comm]]
  unfold nte
  by_cases hm : 6 * s + o ∈ Q
  · rw [if_pos hm]
    rw [if_pos hm] at fj
    by_cases hc : Q.length < 36
    · refine mw_istore_3 dX4_notePair_12 (by decide) ?_
      refine mw_iload_n (i := 3) dX4_notePair_13 rfl rfl ?_
      refine mw_if_lt (tgt := 85) dX4_notePair_14 (by decide) (fun c9 => absurd c9 (nI_pos (by omega))) (fun _ => ?_)
      refine mw_iload_n (i := 3) dX4_notePair_17 rfl rfl ?_
      refine mw_bipush (v := 36) dX4_notePair_18 (by decide) ?_
      refine mw_icmp_ge (tgt := 85) dX4_notePair_20 (by decide) (fun c9 => absurd c9 (show ¬ nI 36 ≤ nI (6 * s + o) from nI_ge hj (by decide))) (fun _ => ?_)
      refine mw_aload_n (i := 0) dX4_notePair_23 rfl rfl ?_
      refine mw_get dX4_notePair_24 fk_X4_39 h_this rfl ?_
      refine mw_if_lt (tgt := 85) dX4_notePair_27 (by decide) (fun c9 => absurd c9 (nI_pos (by omega))) (fun _ => ?_)
      refine mw_aload_n (i := 0) dX4_notePair_30 rfl rfl ?_
      refine mw_get dX4_notePair_31 fk_X4_39 h_this rfl ?_
      refine mw_bipush (v := 36) dX4_notePair_34 (by decide) ?_
      refine mw_icmp_ge (tgt := 85) dX4_notePair_36 (by decide) (fun c9 => absurd c9 (show ¬ nI 36 ≤ nI Q.length from nI_ge hc (by decide))) (fun _ => ?_)
      refine mw_aload_n (i := 0) dX4_notePair_39 rfl rfl ?_
      refine mw_get dX4_notePair_40 fk_X4_20 h_this rfl ?_
      refine mw_iload_n (i := 3) dX4_notePair_43 rfl rfl ?_
      refine mw_zald dX4_notePair_44 h_this_isNoted (mw_ix rfl hj (by decide)) ?_
      rw [fj]
      refine mw_if_ne (tgt := 85) dX4_notePair_45 (by decide) (fun _ => ?_) (fun c9 => absurd c9 (by first | decide | (rw [pk_us]; decide)))
      exact mw_return dX4_notePair_85 rfl ⟨rfl, yF.rf, hP0⟩
    · refine mw_istore_3 dX4_notePair_12 (by decide) ?_
      refine mw_iload_n (i := 3) dX4_notePair_13 rfl rfl ?_
      refine mw_if_lt (tgt := 85) dX4_notePair_14 (by decide) (fun c9 => absurd c9 (nI_pos (by omega))) (fun _ => ?_)
      refine mw_iload_n (i := 3) dX4_notePair_17 rfl rfl ?_
      refine mw_bipush (v := 36) dX4_notePair_18 (by decide) ?_
      refine mw_icmp_ge (tgt := 85) dX4_notePair_20 (by decide) (fun c9 => absurd c9 (show ¬ nI 36 ≤ nI (6 * s + o) from nI_ge hj (by decide))) (fun _ => ?_)
      refine mw_aload_n (i := 0) dX4_notePair_23 rfl rfl ?_
      refine mw_get dX4_notePair_24 fk_X4_39 h_this rfl ?_
      refine mw_if_lt (tgt := 85) dX4_notePair_27 (by decide) (fun c9 => absurd c9 (nI_pos (by omega))) (fun _ => ?_)
      refine mw_aload_n (i := 0) dX4_notePair_30 rfl rfl ?_
      refine mw_get dX4_notePair_31 fk_X4_39 h_this rfl ?_
      refine mw_bipush (v := 36) dX4_notePair_34 (by decide) ?_
      refine mw_icmp_ge (tgt := 85) dX4_notePair_36 (by decide) (fun _ => ?_) (fun c9 => absurd c9 (fun z => z (show nI 36 ≤ nI Q.length from nI_le (by omega) (by omega))))
      exact mw_return dX4_notePair_85 rfl ⟨rfl, yF.rf, hP0⟩
  · rw [if_neg hm]
    rw [if_neg hm] at fj
    have hzp := zc_pos hj fj
    have hc : Q.length < 36 := by omega
    have ic := mw_ix rfl hc (by decide)
    refine mw_istore_3 dX4_notePair_12 (by decide) ?_
    refine mw_iload_n (i := 3) dX4_notePair_13 rfl rfl ?_
    refine mw_if_lt (tgt := 85) dX4_notePair_14 (by decide) (fun c9 => absurd c9 (nI_pos (by omega))) (fun _ => ?_)
    refine mw_iload_n (i := 3) dX4_notePair_17 rfl rfl ?_
    refine mw_bipush (v := 36) dX4_notePair_18 (by decide) ?_
    refine mw_icmp_ge (tgt := 85) dX4_notePair_20 (by decide) (fun c9 => absurd c9 (show ¬ nI 36 ≤ nI (6 * s + o) from nI_ge hj (by decide))) (fun _ => ?_)
    refine mw_aload_n (i := 0) dX4_notePair_23 rfl rfl ?_
    refine mw_get dX4_notePair_24 fk_X4_39 h_this rfl ?_
    refine mw_if_lt (tgt := 85) dX4_notePair_27 (by decide) (fun c9 => absurd c9 (nI_pos (by omega))) (fun _ => ?_)
    refine mw_aload_n (i := 0) dX4_notePair_30 rfl rfl ?_
    refine mw_get dX4_notePair_31 fk_X4_39 h_this rfl ?_
    refine mw_bipush (v := 36) dX4_notePair_34 (by decide) ?_
    refine mw_icmp_ge (tgt := 85) dX4_notePair_36 (by decide) (fun c9 => absurd c9 (show ¬ nI 36 ≤ nI Q.length from nI_ge hc (by decide))) (fun _ => ?_)
    refine mw_aload_n (i := 0) dX4_notePair_39 rfl rfl ?_
    refine mw_get dX4_notePair_40 fk_X4_20 h_this rfl ?_
    refine mw_iload_n (i := 3) dX4_notePair_43 rfl rfl ?_
    refine mw_zald dX4_notePair_44 h_this_isNoted (mw_ix rfl hj (by decide)) ?_
    rw [fj]
    refine mw_if_ne (tgt := 85) dX4_notePair_45 (by decide) (fun c9 => absurd c9 (by first | decide | (rw [pk_us]; decide))) (fun _ => ?_)
    refine mw_aload_n (i := 0) dX4_notePair_48 rfl rfl ?_
    refine mw_get dX4_notePair_49 fk_X4_20 h_this rfl ?_
    refine mw_iload_n (i := 3) dX4_notePair_52 rfl rfl ?_
    refine mw_iconst (v := 1) dX4_notePair_53 (by decide) ?_
    refine mw_zast dX4_notePair_54 h_this_isNoted (mw_ix rfl hj (by decide)) ?_
    refine mw_aload_n (i := 0) dX4_notePair_55 rfl rfl ?_
    refine mw_get dX4_notePair_56 fk_X4_11 ((mw_go (by omega)).trans h_this) rfl ?_
    refine mw_aload_n (i := 0) dX4_notePair_59 rfl rfl ?_
    refine mw_get dX4_notePair_60 fk_X4_39 ((mw_go (by omega)).trans h_this) rfl ?_
    refine mw_aload_n (i := 1) dX4_notePair_63 rfl rfl ?_
    refine mw_aast ty_S dX4_notePair_64 ((mw_go (by omega)).trans h_this_olders) ic ((mw_go (by omega)).trans h_p1) rfl ?_
    refine mw_aload_n (i := 0) dX4_notePair_65 rfl rfl ?_
    refine mw_get dX4_notePair_66 fk_X4_17 ((mw_go (by omega)).trans ((mw_go (by omega)).trans h_this)) rfl ?_
    refine mw_aload_n (i := 0) dX4_notePair_69 rfl rfl ?_
    refine mw_get dX4_notePair_70 fk_X4_39 ((mw_go (by omega)).trans ((mw_go (by omega)).trans h_this)) rfl ?_
    refine mw_aload_n (i := 2) dX4_notePair_73 rfl rfl ?_
    refine mw_aast ty_S dX4_notePair_74 ((mw_go (by omega)).trans ((mw_go (by omega)).trans h_this_successors)) ic ((mw_go (by omega)).trans ((mw_go (by omega)).trans h_p2)) rfl ?_
    refine mw_aload_n (i := 0) dX4_notePair_75 rfl rfl ?_
    refine mw_dup dX4_notePair_76 rfl ?_
    refine mw_get dX4_notePair_77 fk_X4_39 ((mw_go (by omega)).trans ((mw_go (by omega)).trans ((mw_go (by omega)).trans h_this))) rfl ?_
    refine mw_iconst (v := 1) dX4_notePair_80 (by decide) ?_
    refine mw_iadd dX4_notePair_81 ?_
    refine mw_put dX4_notePair_82 fk_X4_39 ((mw_go (by omega)).trans ((mw_go (by omega)).trans ((mw_go (by omega)).trans h_this))) (Nat.le_of_ble_eq_true rfl) (fun _ => ⟨rfl, rfl⟩) ?_
    refine mw_return dX4_notePair_85 rfl ⟨rfl, (((yF.rf.s (by simp [SP])).s (by simp [SP])).s (by simp [SP])).s (by simp [SP]), mw_gs.trans ?_, ?_, va_up g1 Q.length (some (sa s)), va_up g2 Q.length (some (sa o)), upd f (6 * s + o) 1, ?_, ?_, ?_, ?_, ?_, ?_⟩
    · rw [nI_1, List.length_append]; rfl
    · intro j hj'
      rcases List.mem_append.mp hj' with h | h
      · exact hq j h
      · rw [List.mem_singleton] at h
        rw [h]
        omega
    · exact (mw_go (by omega)).trans ((mw_go (by omega)).trans mw_gs)
    · exact (mw_go (by omega)).trans mw_gs
    · exact (mw_go (by omega)).trans ((mw_go (by omega)).trans ((mw_go (by omega)).trans mw_gs))
    · intro i hi
      rw [List.length_append] at hi
      have hi : i < Q.length + 1 := hi
      by_cases e : i = Q.length
      · subst e
        have e1 : (Q ++ [6 * s + o]).getD Q.length 0 = 6 * s + o := by
          rw [List.getD_eq_getElem?_getD, List.getElem?_append_right (Nat.le_refl _), Nat.sub_self]
          rfl
        rw [e1, va_up_self, va_up_self, show (6 * s + o) / 6 = s by omega, show (6 * s + o) % 6 = o by omega]
        exact ⟨rfl, rfl⟩
      · have e1 : (Q ++ [6 * s + o]).getD i 0 = Q.getD i 0 := by
          rw [List.getD_eq_getElem?_getD, List.getD_eq_getElem?_getD, List.getElem?_append_left (by omega)]
        rw [e1, va_up_ne _ _ e, va_up_ne _ _ e]
        exact hg i (by omega)
    · intro j hj'
      by_cases e : j = 6 * s + o
      · rw [e, pk_us, if_pos (List.mem_append_right _ (List.mem_singleton.mpr rfl))]
      · rw [pk_un e, hf j hj']
        by_cases h : j ∈ Q
        · rw [if_pos h, if_pos (List.mem_append_left _ h)]
        · rw [if_neg h, if_neg]
          intro z
          rcases List.mem_append.mp z with z | z
          · exact h z
          · exact e (List.mem_singleton.mp z)
    · have := zc_upd hj fj
      rw [List.length_append]
      show Q.length + 1 + _ = 36
      omega
theorem y_notePartsAt {t : Nat} (hns : ns ≤ 6) (hw : wfK K ns) (hA : aS H K sa ns) (hP : isP H p sa ns Q) (hs : s < ns) (ho : o < ns) (hsa : ∀ s, s < ns → p + 3 < sa s) (t1 : 1 ≤ t) (t2 : t ≤ 31) : mw_Con mm_X4_notePartsAt 2 0 0 [.ref p, .ref (sa s), .ref (sa o), .int (nI t)] H (fun v H' => v = .inl none ∧ yF (SP p) H H' ∧ isP H' p sa ns (if led K s o t = true then nte Q (to2 K s o t) else Q)) := by
  have hP0 := hP
  obtain ⟨h_this, -⟩ := hP
  have h_p1 := (hA s hs).1
  have h_p2 := (hA o ho).1
  refine gm_con pl_X4 rfl rfl (Nat.le_of_ble_eq_true rfl) rfl ?_
  by_cases k1 : zKind K s (nI t) = 4
  · refine mw_aload_n (i := 1) dX4_notePartsAt_0 rfl rfl ?_
    refine mw_iload_n (i := 3) dX4_notePartsAt_1 rfl rfl ?_
    refine mw_callVr dX4_notePartsAt_2 mk_X4_51 h_p1 rfl (y_partOf1 (hA s hs) t1 t2 k1) (by decide) (Nat.le_refl _) (Nat.le_refl _) rfl rfl (Nat.le_of_ble_eq_true rfl) ?_
    refine mw_astore_4 dX4_notePartsAt_5 (by decide) ?_
    refine mw_aload_n (i := 2) dX4_notePartsAt_7 rfl rfl ?_
    refine mw_iload_n (i := 3) dX4_notePartsAt_8 rfl rfl ?_
    by_cases k2 : zKind K o (nI t) = 4
    · rw [if_pos (by unfold led; rw [decide_eq_true k1, decide_eq_true k2]; rfl)]
      refine mw_callVr dX4_notePartsAt_9 mk_X4_51 h_p2 rfl (y_partOf1 (hA o ho) t1 t2 k2) (by decide) (Nat.le_refl _) (Nat.le_refl _) rfl rfl (Nat.le_of_ble_eq_true rfl) ?_
      refine mw_astore_5 dX4_notePartsAt_12 (by decide) ?_
      refine mw_aload (i := 4) dX4_notePartsAt_14 rfl ?_
      refine mw_ifnull dX4_notePartsAt_16 ?_
      refine mw_aload (i := 5) dX4_notePartsAt_19 rfl ?_
      refine mw_ifnull dX4_notePartsAt_21 ?_
      refine mw_aload_n (i := 0) dX4_notePartsAt_24 rfl rfl ?_
      refine mw_aload (i := 4) dX4_notePartsAt_25 rfl ?_
      refine mw_aload (i := 5) dX4_notePartsAt_27 rfl ?_
      refine mw_callV dX4_notePartsAt_29 mk_X4_27 h_this rfl (y_notePair hns hA hP0 (hw s t hs t1 t2 k1).1 (hw o t ho t1 t2 k2).1 hsa) (by decide) (Nat.le_refl _) (Nat.le_refl _) rfl rfl (Nat.le_of_ble_eq_true rfl) (fun E9 h9 q9 => ?_) (fun v9 h9 q9 => ?_)
      · cases q9.1
      obtain ⟨e9, u1, u2⟩ := q9
      cases e9
      exact mw_return dX4_notePartsAt_32 rfl ⟨rfl, u1, u2⟩
    · rw [if_neg (by unfold led; rw [decide_eq_false k2, Bool.and_false]; decide)]
      refine mw_callVr dX4_notePartsAt_9 mk_X4_51 h_p2 rfl (y_partOf0 (hA o ho) (nI t) k2) (by decide) (Nat.le_refl _) (Nat.le_refl _) rfl rfl (Nat.le_of_ble_eq_true rfl) ?_
      refine mw_astoreN_5 dX4_notePartsAt_12 (by decide) ?_
      refine mw_aload (i := 4) dX4_notePartsAt_14 rfl ?_
      refine mw_ifnull dX4_notePartsAt_16 ?_
      refine mw_aloadN (i := 5) dX4_notePartsAt_19 rfl ?_
      refine mw_ifnullN dX4_notePartsAt_21 (tgt := 32) (by decide) ?_
      exact mw_return dX4_notePartsAt_32 rfl ⟨rfl, yF.rf, hP0⟩
  · rw [if_neg (by unfold led; rw [decide_eq_false k1, Bool.false_and]; decide)]
    refine mw_aload_n (i := 1) dX4_notePartsAt_0 rfl rfl ?_
    refine mw_iload_n (i := 3) dX4_notePartsAt_1 rfl rfl ?_
    refine mw_callVr dX4_notePartsAt_2 mk_X4_51 h_p1 rfl (y_partOf0 (hA s hs) (nI t) k1) (by decide) (Nat.le_refl _) (Nat.le_refl _) rfl rfl (Nat.le_of_ble_eq_true rfl) ?_
    refine mw_astoreN_4 dX4_notePartsAt_5 (by decide) ?_
    by_cases k2 : zKind K o (nI t) = 4
    · refine mw_aload_n (i := 2) dX4_notePartsAt_7 rfl rfl ?_
      refine mw_iload_n (i := 3) dX4_notePartsAt_8 rfl rfl ?_
      refine mw_callVr dX4_notePartsAt_9 mk_X4_51 h_p2 rfl (y_partOf1 (hA o ho) t1 t2 k2) (by decide) (Nat.le_refl _) (Nat.le_refl _) rfl rfl (Nat.le_of_ble_eq_true rfl) ?_
      refine mw_astore_5 dX4_notePartsAt_12 (by decide) ?_
      refine mw_aloadN (i := 4) dX4_notePartsAt_14 rfl ?_
      refine mw_ifnullN dX4_notePartsAt_16 (tgt := 32) (by decide) ?_
      exact mw_return dX4_notePartsAt_32 rfl ⟨rfl, yF.rf, hP0⟩
    · refine mw_aload_n (i := 2) dX4_notePartsAt_7 rfl rfl ?_
      refine mw_iload_n (i := 3) dX4_notePartsAt_8 rfl rfl ?_
      refine mw_callVr dX4_notePartsAt_9 mk_X4_51 h_p2 rfl (y_partOf0 (hA o ho) (nI t) k2) (by decide) (Nat.le_refl _) (Nat.le_refl _) rfl rfl (Nat.le_of_ble_eq_true rfl) ?_
      refine mw_astoreN_5 dX4_notePartsAt_12 (by decide) ?_
      refine mw_aloadN (i := 4) dX4_notePartsAt_14 rfl ?_
      refine mw_ifnullN dX4_notePartsAt_16 (tgt := 32) (by decide) ?_
      exact mw_return dX4_notePartsAt_32 rfl ⟨rfl, yF.rf, hP0⟩
end C17
