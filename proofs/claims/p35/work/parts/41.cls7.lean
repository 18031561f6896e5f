/-! the class side: fields, scanned: their parts (class side) -/
/-- the heap behind a stretch is told by what is known of it -/
theorem mw_heap {y : mw_M} {d kc ks pc : Nat} {ls : List (Option Value)} {st : List Value} {H0 : mw_H} {Po : mw_P} (Q : mw_H → Prop) (h : Q H0) (k : ∀ H', Q H' → mw_W y d kc ks pc ls st H' Po) : mw_W y d kc ks pc ls st H0 Po := k H0 h
theorem g_ne {H : mw_H} {a b : Nat} {x y : va_E} (h : mw_g H a = some x) (h' : mw_g H b = some y) (n : x ≠ y) : a ≠ b := by
  intro e
  rw [e, h'] at h
  exact n (Option.some.inj h).symm
theorem yF.g {S : List Nat} {H H' : mw_H} (h : yF S H H') {b : Nat} {x : Option va_E} (hb : b ∉ S) (hx : mw_g H b = x) : mw_g H' b = x := (h.2.2 b hb).trans hx
theorem pl_X2 : plainName RX2 = true := by decide +kernel
/-- the object of fields at a -/
abbrev fV (a k src : Nat) (nx lm pb pa : Int32) : va_E := .inr (2, [.ref (a + 1), .ref (a + 2), .ref (a + 3), .ref (a + 4), .int (nI k), .ref src, .int nx, .int lm, .int pb, .int pa])
/-- its arrays -/
def aF (H : mw_H) (a : Nat) (f1 f2 f3 f4 : Nat → Int32) : Prop := mw_g H (a + 1) = some (.inl (0, (60, .inl f1))) ∧ mw_g H (a + 2) = some (.inl (0, (60, .inl f2))) ∧ mw_g H (a + 3) = some (.inl (0, (60, .inl f3))) ∧ mw_g H (a + 4) = some (.inl (0, (60, .inl f4)))
theorem aF_F {S : List Nat} {H H' : mw_H} {a : Nat} {f1 f2 f3 f4 : Nat → Int32} (h : aF H a f1 f2 f3 f4) (hF : yF S H H') (h1 : a + 1 ∉ S) (h2 : a + 2 ∉ S) (h3 : a + 3 ∉ S) (h4 : a + 4 ∉ S) : aF H' a f1 f2 f3 f4 :=
  ⟨hF.g h1 h.1, hF.g h2 h.2.1, hF.g h3 h.2.2.1, hF.g h4 h.2.2.2⟩
abbrev bX (X : List Nat) : Nat → Nat := fun j => X.getD j 0
/-- the fault, as it is held -/
def pbI (f : Nat) (pb : Int32) : Int32 := if f = 0 then pb else nI f
section C6
variable {H : mw_H} {a k src cs e : Nat} {X : List Nat} {pb pa : Int32}
/-- what scanning a number leaves -/
def zN (H : mw_H) (a k src e : Nat) (pb pa : Int32) (r : Nat × Nat × Nat) : mw_P := fun v H' => v = .inl (some (.int (nI r.2.2))) ∧ mw_g H' a = some (fV a k src (nI r.2.1) (nI e) (pbI r.1 pb) pa) ∧ yF [a] H H'
theorem lp_sg (hX : X.length ≤ 256) (he : e ≤ X.length) : ∀ (r p v : Nat) (H : mw_H) (x3 : Option Value), r ≤ 5 → p ≤ e → v < 2 ^ (7 * (5 - r)) → mw_g H a = some (fV a k src (nI p) (nI e) pb pa) → isB H src cs X →
    mw_W mm_X2_scanGroups 1 0 0 4 [some (.ref a), some (.int (nI v)), some (.int (nI (7 * (5 - r)))), x3] [] H (zN H a k src e pb pa (pg (bX X) e r p v)) := by
  intro r
  induction r with
  | zero =>
    intro p v H x3 _ hp hv h_this hB
    refine mw_iload_n (i := 2) dX2_scanGroups_4 rfl rfl ?_
    refine mw_bipush (v := 28) dX2_scanGroups_5 (by decide) ?_
    refine mw_icmp_gt (tgt := 98) dX2_scanGroups_7 (by decide) (fun _ => ?_) (fun c9 => absurd c9 (by first | decide | (rw [pk_us]; decide)))
    refine mw_iload_n (i := 1) dX2_scanGroups_98 rfl rfl ?_
    exact mw_ireturn dX2_scanGroups_99 ⟨_, rfl, rfl⟩ ⟨rfl, h_this, yF.rf⟩
  | succ r ih =>
    intro p v H x3 hr hp hv h_this hB
    have h_this_source := hB.1
    have n1 : src ≠ a := g_ne hB.1 h_this (fun z => by cases z)
    obtain ⟨f0, hf0, -⟩ := hB.2.2.2
    have n2 : cs ≠ a := g_ne hf0 h_this (fun z => by cases z)
    have hk : 5 - (r + 1) = 4 - r := by omega
    rw [hk] at hv ⊢
    refine mw_iload_n (i := 2) dX2_scanGroups_4 rfl rfl ?_
    refine mw_bipush (v := 28) dX2_scanGroups_5 (by decide) ?_
    refine mw_icmp_gt (tgt := 98) dX2_scanGroups_7 (by decide) (fun c9 => absurd c9 (nI_nlt (show 7 * (4 - r) ≤ 28 by omega) (by decide))) (fun _ => ?_)
    refine mw_aload_n (i := 0) dX2_scanGroups_10 rfl rfl ?_
    refine mw_get dX2_scanGroups_11 fk_X2_35 h_this rfl ?_
    refine mw_aload_n (i := 0) dX2_scanGroups_14 rfl rfl ?_
    refine mw_get dX2_scanGroups_15 fk_X2_38 h_this rfl ?_
    by_cases hpe : p = e
    · have hpgr : pg (bX X) e (r + 1) p v = (1, p, 0) := by
        show (if p = e then _ else _) = _
        rw [if_pos hpe]
      rw [hpgr]
      refine mw_icmp_lt (tgt := 28) dX2_scanGroups_18 (by decide) (fun c9 => absurd c9 (nI_nlt (show e ≤ p by omega) (by omega))) (fun _ => ?_)
      refine mw_aload_n (i := 0) dX2_scanGroups_21 rfl rfl ?_
      refine mw_iconst (v := 1) dX2_scanGroups_22 (by decide) ?_
      refine mw_put dX2_scanGroups_23 fk_X2_44 h_this (Nat.le_of_ble_eq_true rfl) (fun _ => ⟨rfl, rfl⟩) ?_
      refine mw_iconst (v := 0) dX2_scanGroups_26 (by decide) ?_
      exact mw_ireturn dX2_scanGroups_27 ⟨_, rfl, rfl⟩ ⟨rfl, mw_gs, yF.rf.s (by simp)⟩
    · have hb2 := hB.2.2.1 _ (getD_mem (X := X) (k := p) (by omega))
      have hpgr : pg (bX X) e (r + 1) p v = if r = 0 ∧ 15 < bX X p then (2, p + 1, 0) else if bX X p < 128 then (0, p + 1, v + bX X p % 128 * 2 ^ (7 * (4 - r))) else pg (bX X) e r (p + 1) (v + bX X p % 128 * 2 ^ (7 * (4 - r))) := by
        show (if p = e then _ else _) = _
        rw [if_neg hpe]
      rw [hpgr]
      refine mw_icmp_lt (tgt := 28) dX2_scanGroups_18 (by decide) (fun _ => ?_) (fun c9 => absurd c9 (fun z => z (nI_lt (show p < e by omega) (by omega))))
      refine mw_aload_n (i := 0) dX2_scanGroups_28 rfl rfl ?_
      refine mw_get dX2_scanGroups_29 fk_X2_27 h_this rfl ?_
      refine mw_aload_n (i := 0) dX2_scanGroups_32 rfl rfl ?_
      refine mw_get dX2_scanGroups_33 fk_X2_35 h_this rfl ?_
      refine mw_callVr dX2_scanGroups_36 mk_X2_117 h_this_source rfl (y_at hB (show p < X.length by omega)) (by decide) (Nat.le_refl _) (Nat.le_refl _) rfl rfl (Nat.le_of_ble_eq_true rfl) ?_
      refine mw_sipush (v := 255) dX2_scanGroups_39 (by decide) ?_
      refine mw_iand dX2_scanGroups_42 ?_
      rw [bV_255 hb2]
      refine mw_istore_3 dX2_scanGroups_43 (by decide) ?_
      refine mw_aload_n (i := 0) dX2_scanGroups_44 rfl rfl ?_
      refine mw_dup dX2_scanGroups_45 rfl ?_
      refine mw_get dX2_scanGroups_46 fk_X2_35 h_this rfl ?_
      refine mw_iconst (v := 1) dX2_scanGroups_49 (by decide) ?_
      refine mw_iadd dX2_scanGroups_50 ?_
      refine mw_put dX2_scanGroups_51 fk_X2_35 h_this (Nat.le_of_ble_eq_true rfl) (fun _ => ⟨rfl, rfl⟩) ?_
      refine mw_heap (fun H' => mw_g H' a = some (fV a k src (nI (p + 1)) (nI e) pb pa) ∧ yF [a] H H') ⟨mw_gs.trans (by rw [← nI_1 p]; rfl), yF.rf.s (by simp)⟩ (fun H1 q1 => ?_)
      obtain ⟨q1, q2⟩ := q1
      have hB1 := isB_F hB q2 (by simpa using n1) (by simpa using n2)
      have h_this := q1
      rw [show X.getD p 0 = bX X p from rfl] at hb2 ⊢
      generalize hc : bX X p = c at *
      have hlast : ∀ (hq : ¬ (r = 0 ∧ 15 < c)), mw_W mm_X2_scanGroups 1 0 0 73 [some (.ref a), some (.int (nI v)), some (.int (nI (7 * (4 - r)))), some (.int (nI c))] [] H1 (zN H a k src e pb pa (if r = 0 ∧ 15 < c then (2, p + 1, 0) else if c < 128 then (0, p + 1, v + c % 128 * 2 ^ (7 * (4 - r))) else pg (bX X) e r (p + 1) (v + c % 128 * 2 ^ (7 * (4 - r))))) := by
        intro hq
        rw [if_neg hq]
        have hor := mb_grp (v := v) (c := c) (k := 4 - r) (by omega) hb2 (fun z => by omega) hv
        rw [show (7 : Int32) * nI (4 - r) = nI (7 * (4 - r)) by rw [show (7 : Int32) = nI 7 from rfl, pk_mul]] at hor
        refine mw_iload_n (i := 1) dX2_scanGroups_73 rfl rfl ?_
        refine mw_iload_n (i := 3) dX2_scanGroups_74 rfl rfl ?_
        refine mw_bipush (v := 127) dX2_scanGroups_75 (by decide) ?_
        refine mw_iand dX2_scanGroups_77 ?_
        refine mw_iload_n (i := 2) dX2_scanGroups_78 rfl rfl ?_
        refine mw_ishl dX2_scanGroups_79 ?_
        refine mw_ior dX2_scanGroups_80 ?_
        rw [hor]
        by_cases h128 : c < 128
        · rw [if_pos h128]
          refine mw_istore_1 dX2_scanGroups_81 (by decide) ?_
          refine mw_iload_n (i := 3) dX2_scanGroups_82 rfl rfl ?_
          refine mw_sipush (v := 128) dX2_scanGroups_83 (by decide) ?_
          refine mw_icmp_ge (tgt := 92) dX2_scanGroups_86 (by decide) (fun c9 => absurd c9 (nI_ge (b := 128) h128 (by decide))) (fun _ => ?_)
          refine mw_goto (tgt := 98) dX2_scanGroups_89 (by decide) ?_
          refine mw_iload_n (i := 1) dX2_scanGroups_98 rfl rfl ?_
          exact mw_ireturn dX2_scanGroups_99 ⟨_, rfl, rfl⟩ ⟨rfl, q1, q2⟩
        · rw [if_neg h128]
          refine mw_istore_1 dX2_scanGroups_81 (by decide) ?_
          refine mw_iload_n (i := 3) dX2_scanGroups_82 rfl rfl ?_
          refine mw_sipush (v := 128) dX2_scanGroups_83 (by decide) ?_
          refine mw_icmp_ge (tgt := 92) dX2_scanGroups_86 (by decide) (fun _ => ?_) (fun c9 => absurd c9 (fun z => z (nI_le (show 128 ≤ c by omega) (by omega))))
          refine mw_iinc_2 dX2_scanGroups_92 (by decide) rfl ?_
          refine mw_goto (tgt := 4) dX2_scanGroups_95 (by decide) ?_
          have hr0 : 4 - r + 1 = 5 - r := by omega
          have e4 : nI (7 * (4 - r)) + Int32.ofInt 7 = nI (7 * (5 - r)) := by
            rw [← hr0, show (Int32.ofInt 7) = nI 7 from rfl, nI_add]
            congr 1
          rw [e4]
          have hv2 : v + c % 128 * 2 ^ (7 * (4 - r)) < 2 ^ (7 * (5 - r)) := by
            rw [← hr0]
            rw [show 7 * (4 - r + 1) = 7 * (4 - r) + 7 by omega, Nat.pow_add]
            have := Nat.mod_lt c (show 0 < 128 by decide)
            have h3 : c % 128 * 2 ^ (7 * (4 - r)) ≤ 127 * 2 ^ (7 * (4 - r)) := Nat.mul_le_mul_right _ (by omega)
            omega
          refine mw_post (fun v' h' z => ?_) (ih (p + 1) (v + c % 128 * 2 ^ (7 * (4 - r))) H1 _ (by omega) (by omega) hv2 q1 hB1)
          exact ⟨z.1, z.2.1, q2.tr z.2.2⟩
      by_cases hr0 : r = 0
      · by_cases h15 : 15 < c
        · rw [if_pos ⟨hr0, h15⟩]
          subst hr0
          refine mw_iload_n (i := 2) dX2_scanGroups_54 rfl rfl ?_
          refine mw_bipush (v := 28) dX2_scanGroups_55 (by decide) ?_
          refine mw_icmp_ne (tgt := 73) dX2_scanGroups_57 (by decide) (fun c9 => absurd c9 (fun z => z rfl)) (fun _ => ?_)
          refine mw_iload_n (i := 3) dX2_scanGroups_60 rfl rfl ?_
          refine mw_bipush (v := 15) dX2_scanGroups_61 (by decide) ?_
          refine mw_icmp_le (tgt := 73) dX2_scanGroups_63 (by decide) (fun c9 => absurd c9 (nI_ge (a := 15) h15 (by omega))) (fun _ => ?_)
          refine mw_aload_n (i := 0) dX2_scanGroups_66 rfl rfl ?_
          refine mw_iconst (v := 2) dX2_scanGroups_67 (by decide) ?_
          refine mw_put dX2_scanGroups_68 fk_X2_44 h_this (Nat.le_of_ble_eq_true rfl) (fun _ => ⟨rfl, rfl⟩) ?_
          refine mw_iconst (v := 0) dX2_scanGroups_71 (by decide) ?_
          exact mw_ireturn dX2_scanGroups_72 ⟨_, rfl, rfl⟩ ⟨rfl, mw_gs, q2.s (by simp)⟩
        · subst hr0
          refine mw_iload_n (i := 2) dX2_scanGroups_54 rfl rfl ?_
          refine mw_bipush (v := 28) dX2_scanGroups_55 (by decide) ?_
          refine mw_icmp_ne (tgt := 73) dX2_scanGroups_57 (by decide) (fun c9 => absurd c9 (fun z => z rfl)) (fun _ => ?_)
          refine mw_iload_n (i := 3) dX2_scanGroups_60 rfl rfl ?_
          refine mw_bipush (v := 15) dX2_scanGroups_61 (by decide) ?_
          refine mw_icmp_le (tgt := 73) dX2_scanGroups_63 (by decide) (fun _ => ?_) (fun c9 => absurd c9 (fun z => z (nI_le (b := 15) (by omega) (by decide))))
          exact hlast (fun z => h15 z.2)
      · refine mw_iload_n (i := 2) dX2_scanGroups_54 rfl rfl ?_
        refine mw_bipush (v := 28) dX2_scanGroups_55 (by decide) ?_
        refine mw_icmp_ne (tgt := 73) dX2_scanGroups_57 (by decide) (fun _ => ?_) (fun c9 => absurd c9 (fun y => by rw [show (28 : Int32) = nI 28 from rfl, nI_eq (by omega) (by decide)] at y; omega))
        exact hlast (fun z => hr0 z.1)
theorem y_scanGroups (hX : X.length ≤ 256) (he : e ≤ X.length) {p : Nat} (hp : p ≤ e) (h_this : mw_g H a = some (fV a k src (nI p) (nI e) pb pa)) (hB : isB H src cs X) : mw_Con mm_X2_scanGroups 1 0 0 [.ref a] H (zN H a k src e pb pa (pg (bX X) e 5 p 0)) := by
  refine gm_con pl_X2 rfl rfl (Nat.le_of_ble_eq_true rfl) rfl ?_
  refine mw_iconst (v := 0) dX2_scanGroups_0 (by decide) ?_
  refine mw_istore_1 dX2_scanGroups_1 (by decide) ?_
  refine mw_iconst (v := 0) dX2_scanGroups_2 (by decide) ?_
  refine mw_istore_2 dX2_scanGroups_3 (by decide) ?_
  exact lp_sg hX he 5 p 0 H none (by omega) hp (by decide) h_this hB
end C6
