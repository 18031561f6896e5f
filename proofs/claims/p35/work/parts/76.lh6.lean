/-! reading a row of bytes: a group number, a field -/
section GLG
variable {y : mw_M} {d kc ks pc : Nat} {ls : List (Option Value)} {st : List Value} {H : mw_H} {Po : mw_P} {A : Nat → Nat → Int32} {X : Nat → Nat → Int64} {G : Nat → Int32}
theorem gl_G : mw_g (gl H (va_up A 11 G) X) 54 = some (.inl (0, (6, .inl G))) := gl_11
theorem gl_3G : mw_g (gl H (va_up A 11 G) X) 46 = some (.inl (0, (5, .inl (A 3)))) := gl_3
theorem gl_4G : mw_g (gl H (va_up A 11 G) X) 47 = some (.inl (0, (60, .inl (A 4)))) := gl_4
theorem gl_5G : mw_g (gl H (va_up A 11 G) X) 48 = some (.inl (0, (60, .inl (A 5)))) := gl_5
theorem gl_rowG {r : Nat} (hr : r = 8 ∨ r = 9) : mw_g (gl H (va_up A 11 G) X) (43 + r) = some (.inl (0, (64, .inl (A r)))) := by
  rcases hr with rfl | rfl
  · exact gl_8
  · exact gl_9
theorem up_up {β : Type} (A : Nat → β) (j : Nat) (a b : β) : va_up (va_up A j a) j b = va_up A j b := by
  funext k
  unfold va_up
  by_cases e : k = j
  · simp [e]
  · simp [e]
theorem up_sw {β : Type} (A : Nat → β) {i j : Nat} (h : i ≠ j) (a b : β) : va_up (va_up A i a) j b = va_up (va_up A j b) i a := by
  funext k
  unfold va_up
  by_cases e : k = j
  · subst e
    rw [if_pos rfl, if_neg (fun z => h z.symm), if_pos rfl]
  · rw [if_neg e]
    by_cases e2 : k = i
    · rw [if_pos e2, if_pos e2]
    · rw [if_neg e2, if_neg e2, if_neg e]
theorem gl_stG {q : Nat} {i x : Int32} (dg : decode y.2.1 pc = .ok (.iastore, 1)) (hi : vp_in i 6 ∧ i.toNatClampNeg = q) (k : mw_W y d kc ks (pc + 1) ls st (gl H (va_up A 11 (upd G q x)) X) Po) : mw_W y d kc ks pc ls (.int x :: .int i :: .ref 54 :: st) (gl H (va_up A 11 G) X) Po := by
  refine gl_st11 dg hi ?_
  rw [va_up_self, up_up]
  exact k
theorem gl_st3G {q : Nat} {i x : Int32} (dg : decode y.2.1 pc = .ok (.iastore, 1)) (hi : vp_in i 5 ∧ i.toNatClampNeg = q) (k : mw_W y d kc ks (pc + 1) ls st (gl H (va_up (va_up A 3 (upd (A 3) q x)) 11 G) X) Po) : mw_W y d kc ks pc ls (.int x :: .int i :: .ref 46 :: st) (gl H (va_up A 11 G) X) Po := by
  refine gl_st3 dg hi ?_
  rw [va_up_ne _ _ (by decide), up_sw _ (by decide)]
  exact k
theorem gl_st4G {q : Nat} {i x : Int32} (dg : decode y.2.1 pc = .ok (.iastore, 1)) (hi : vp_in i 60 ∧ i.toNatClampNeg = q) (k : mw_W y d kc ks (pc + 1) ls st (gl H (va_up (va_up A 4 (upd (A 4) q x)) 11 G) X) Po) : mw_W y d kc ks pc ls (.int x :: .int i :: .ref 47 :: st) (gl H (va_up A 11 G) X) Po := by
  refine gl_st4 dg hi ?_
  rw [va_up_ne _ _ (by decide), up_sw _ (by decide)]
  exact k
theorem gl_st5G {q : Nat} {i x : Int32} (dg : decode y.2.1 pc = .ok (.iastore, 1)) (hi : vp_in i 60 ∧ i.toNatClampNeg = q) (k : mw_W y d kc ks (pc + 1) ls st (gl H (va_up (va_up A 5 (upd (A 5) q x)) 11 G) X) Po) : mw_W y d kc ks pc ls (.int x :: .int i :: .ref 48 :: st) (gl H (va_up A 11 G) X) Po := by
  refine gl_st5 dg hi ?_
  rw [va_up_ne _ _ (by decide), up_sw _ (by decide)]
  exact k
end GLG
/-- the places 0, 1, 2 of g stay -/
def gK (G G' : Nat → Int32) : Prop := ∀ j, j < 3 → G' j = G j
theorem gK.rf {G : Nat → Int32} : gK G G := fun _ _ => rfl
theorem gK.tr {G G' G'' : Nat → Int32} (h : gK G G') (k : gK G' G'') : gK G G'' := fun j hj => (k j hj).trans (h j hj)
theorem gK.u {G G' : Nat → Int32} (h : gK G G') {q : Nat} (hq : 3 ≤ q) (x : Int32) : gK G (upd G' q x) := fun j hj => (pk_un (by omega)).trans (h j hj)
theorem shl_7 {c i : Nat} (hc : c < 2 ^ 7) (hi : i ≤ 4) (h4 : i = 4 → c ≤ 15) : nI c <<< ((7 * nI i) &&& 31) = nI (c * 2 ^ (7 * i)) := by
  have h : i = 0 ∨ i = 1 ∨ i = 2 ∨ i = 3 ∨ i = 4 := by omega
  rcases h with rfl | rfl | rfl | rfl | rfl
  · exact pk_shlN _ 0 (by decide) (by omega)
  · exact pk_shlN _ 7 (by decide) (by omega)
  · exact pk_shlN _ 14 (by decide) (by omega)
  · exact pk_shlN _ 21 (by decide) (by omega)
  · have := h4 rfl
    exact pk_shlN _ 28 (by decide) (by omega)
/-- a row of bytes -/
def bR (A : Nat → Nat → Int32) (r e : Nat) (b : Nat → Nat) : Prop := (r = 8 ∨ r = 9) ∧ e ≤ 64 ∧ (∀ j, b j < 256) ∧ ∀ j, j < e → A r j = nI (b j)
/-- the end of number: what pg says -/
def nP (H : mw_H) (A : Nat → Nat → Int32) (X : Nat → Nat → Int64) (G : Nat → Int32) (a : Nat × Nat × Nat) : mw_P := fun v H' => v = .inl none ∧ ∃ G', H' = gl H (va_up A 11 G') X ∧ gK G G' ∧ G' 3 = nI a.2.1 ∧ G' 4 = nI a.1 ∧ (a.1 = 0 → G' 5 = nI a.2.2)
section LH6
variable {H : mw_H} {A : Nat → Nat → Int32} {X : Nat → Nat → Int64} {K : Nat → Nat → Int32} {r e m : Nat} {b : Nat → Nat} {G0 : Nat → Int32}
theorem lp_number (hb : bR A r e b) : ∀ (q p v : Nat) (G : Nat → Int32) (x4 : Option Value), q ≤ 5 → p ≤ e → v < 2 ^ (7 * (5 - q)) → (q = 0 → v < 2 ^ 32) → G 3 = nI p → G 4 = 0 → G 5 = nI v → gK G0 G →
    mw_W mm_L_number 0 0 0 6 [some (.ref (43 + r)), some (.ref 54), some (.int (nI e)), some (.int (nI (5 - q))), x4] [] (gl H (va_up A 11 G) X) (nP H A X G0 (pg b e q p v)) := by
  obtain ⟨hr, he, hb2, hA⟩ := hb
  intro q
  induction q with
  | zero =>
    intro p v G x4 _ hp hv hv0 h3 h4 h5 hG
    refine mw_iload_n (i := 3) dL_number_6 rfl rfl ?_
    refine mw_iconst (v := 5) dL_number_7 (by decide) ?_
    refine mw_icmp_ge (tgt := 85) dL_number_8 (by decide) (fun _ => ?_) (fun c9 => absurd c9 (by first | decide | exact (fun q => q rfl)))
    exact mw_return dL_number_85 rfl ⟨rfl, G, rfl, hG, h3, h4, fun _ => h5⟩
  | succ q ih =>
    intro p v G x4 hq hp hv _ h3 h4 h5 hG
    have hk : 5 - (q + 1) = 4 - q := by omega
    rw [hk] at hv ⊢
    have hpg : pg b e (q + 1) p v = if p = e then (1, p, 0) else if q = 0 ∧ 15 < b p then (2, p + 1, 0) else if b p < 128 then (0, p + 1, v + b p % 128 * 2 ^ (7 * (4 - q))) else pg b e q (p + 1) (v + b p % 128 * 2 ^ (7 * (4 - q))) := rfl
    refine mw_iload_n (i := 3) dL_number_6 rfl rfl ?_
    refine mw_iconst (v := 5) dL_number_7 (by decide) ?_
    refine mw_icmp_ge (tgt := 85) dL_number_8 (by decide) (fun c9 => absurd c9 (by first | decide | exact (fun q => q rfl) | ((try simp only [fa_lit]); first | exact cq_le (by omega) (by omega) | exact cq_nle (by omega) (by omega) | exact cq_lt (by omega) (by omega) | exact cq_nlt (by omega) (by omega) | exact cq_eq (by omega) (by omega) (by omega) | exact cq_neq (by omega)))) (fun _ => ?_)
    refine mw_aload_n (i := 1) dL_number_11 rfl rfl ?_
    refine mw_iconst (v := 3) dL_number_12 (by decide) ?_
    refine mw_iald dL_number_13 gl_G (mw_ix (j := 3) rfl (by decide) (by decide)) ?_
    rw [h3]
    by_cases hpe : p = e
    · rw [hpg, if_pos hpe]
      refine mw_iload_n (i := 2) dL_number_14 rfl rfl ?_
      refine mw_icmp_ne (tgt := 23) dL_number_15 (by decide) (fun c9 => absurd c9 (by first | decide | exact (fun q => q rfl) | ((try simp only [fa_lit]); first | exact cq_le (by omega) (by omega) | exact cq_nle (by omega) (by omega) | exact cq_lt (by omega) (by omega) | exact cq_nlt (by omega) (by omega) | exact cq_eq (by omega) (by omega) (by omega) | exact cq_neq (by omega)))) (fun _ => ?_)
      refine mw_aload_n (i := 1) dL_number_18 rfl rfl ?_
      refine mw_iconst (v := 4) dL_number_19 (by decide) ?_
      refine mw_iconst (v := 1) dL_number_20 (by decide) ?_
      refine gl_stG dL_number_21 (mw_ix (j := 4) rfl (by decide) (by decide)) ?_
      exact mw_return dL_number_22 rfl ⟨rfl, _, rfl, hG.u (by decide) _, (pk_un (by decide)).trans h3, pk_us, fun z => absurd z (Nat.succ_ne_zero _)⟩
    · rw [if_neg hpe] at hpg
      refine mw_iload_n (i := 2) dL_number_14 rfl rfl ?_
      refine mw_icmp_ne (tgt := 23) dL_number_15 (by decide) (fun _ => ?_) (fun c9 => absurd c9 (by first | decide | exact (fun q => q rfl) | ((try simp only [fa_lit]); first | exact cq_le (by omega) (by omega) | exact cq_nle (by omega) (by omega) | exact cq_lt (by omega) (by omega) | exact cq_nlt (by omega) (by omega) | exact cq_eq (by omega) (by omega) (by omega) | exact cq_neq (by omega))))
      refine mw_aload_n (i := 0) dL_number_23 rfl rfl ?_
      refine mw_aload_n (i := 1) dL_number_24 rfl rfl ?_
      refine mw_iconst (v := 3) dL_number_25 (by decide) ?_
      refine mw_iald dL_number_26 gl_G (mw_ix (j := 3) rfl (by decide) (by decide)) ?_
      rw [h3]
      refine mw_iald dL_number_27 (gl_rowG hr) (mw_ix rfl (by omega) (by decide)) ?_
      refine mw_istore_4 dL_number_28 (by decide) ?_
      refine mw_aload_n (i := 1) dL_number_30 rfl rfl ?_
      refine mw_iconst (v := 3) dL_number_31 (by decide) ?_
      refine mw_dup2 dL_number_32 rfl rfl ?_
      refine mw_iald dL_number_33 gl_G (mw_ix (j := 3) rfl (by decide) (by decide)) ?_
      rw [h3, hA p (by omega)]
      have hbp := hb2 p
      refine mw_iconst (v := 1) dL_number_34 (by decide) ?_
      refine mw_iadd dL_number_35 ?_
      refine gl_stG dL_number_36 (mw_ix (j := 3) rfl (by decide) (by decide)) ?_
      rw [show nI p + 1 = nI (p + 1) from nI_1 p]
      have hlast : ¬ (q = 0 ∧ 15 < b p) → mw_W mm_L_number 0 0 0 54 [some (.ref (43 + r)), some (.ref 54), some (.int (nI e)), some (.int (nI (4 - q))), some (.int (nI (b p)))] [] (gl H (va_up A 11 (upd G 3 (nI (p + 1)))) X) (nP H A X G0 (pg b e (q + 1) p v)) := by
        intro hno
        rw [if_neg hno] at hpg
        have hm := Nat.mod_lt (b p) (show 0 < 128 by decide)
        have hr0 : 4 - q + 1 = 5 - q := by omega
        have hv2 : v + b p % 128 * 2 ^ (7 * (4 - q)) < 2 ^ (7 * (5 - q)) := by
          rw [← hr0, show 7 * (4 - q + 1) = 7 * (4 - q) + 7 by omega, Nat.pow_add]
          have h3 : b p % 128 * 2 ^ (7 * (4 - q)) ≤ 127 * 2 ^ (7 * (4 - q)) := Nat.mul_le_mul_right _ (by omega)
          omega
        have hv3 : q = 0 → v + b p % 128 * 2 ^ (7 * (4 - q)) < 2 ^ 32 := by
          intro z
          subst z
          have : b p ≤ 15 := by omega
          have h4 : b p % 128 = b p := Nat.mod_eq_of_lt (by omega)
          rw [h4]
          have h : v < 268435456 := hv
          show v + b p * 268435456 < 4294967296
          clear hv2
          omega
        refine mw_aload_n (i := 1) dL_number_54 rfl rfl ?_
        refine mw_iconst (v := 5) dL_number_55 (by decide) ?_
        refine mw_dup2 dL_number_56 rfl rfl ?_
        refine mw_iald dL_number_57 gl_G (mw_ix (j := 5) rfl (by decide) (by decide)) ?_
        refine mw_top ((pk_un (by decide)).trans h5) ?_
        refine mw_iload (i := 4) dL_number_58 rfl ?_
        refine mw_bipush (v := 127) dL_number_60 (by decide) ?_
        refine mw_iand dL_number_62 ?_
        rw [show nI (b p) &&& 127 = nI (b p % 128) from pk_andN (by omega) 7 (by decide)]
        refine mw_bipush (v := 7) dL_number_63 (by decide) ?_
        refine mw_iload_n (i := 3) dL_number_65 rfl rfl ?_
        refine mw_imul dL_number_66 ?_
        refine mw_ishl dL_number_67 ?_
        rw [shl_7 hm (by omega) (fun z => by have := Nat.mod_le (b p) 128; omega)]
        refine mw_iadd dL_number_68 ?_
        rw [nI_add]
        by_cases h128 : b p < 128
        · rw [hpg, if_pos h128]
          refine gl_stG dL_number_69 (mw_ix (j := 5) rfl (by decide) (by decide)) ?_
          refine mw_iload (i := 4) dL_number_70 rfl ?_
          refine mw_sipush (v := 128) dL_number_72 (by decide) ?_
          refine mw_icmp_ge (tgt := 79) dL_number_75 (by decide) (fun c9 => absurd c9 (by first | decide | exact (fun q => q rfl) | ((try simp only [fa_lit]); first | exact cq_le (by omega) (by omega) | exact cq_nle (by omega) (by omega) | exact cq_lt (by omega) (by omega) | exact cq_nlt (by omega) (by omega) | exact cq_eq (by omega) (by omega) (by omega) | exact cq_neq (by omega)))) (fun _ => ?_)
          exact mw_return dL_number_78 rfl ⟨rfl, _, rfl, (hG.u (by decide) _).u (by decide) _, (pk_un (by decide)).trans pk_us, (pk_un (by decide)).trans ((pk_un (by decide)).trans h4), fun _ => pk_us⟩
        · rw [hpg, if_neg h128]
          refine gl_stG dL_number_69 (mw_ix (j := 5) rfl (by decide) (by decide)) ?_
          refine mw_iload (i := 4) dL_number_70 rfl ?_
          refine mw_sipush (v := 128) dL_number_72 (by decide) ?_
          refine mw_icmp_ge (tgt := 79) dL_number_75 (by decide) (fun _ => ?_) (fun c9 => absurd c9 (by first | decide | exact (fun q => q rfl) | ((try simp only [fa_lit]); first | exact cq_le (by omega) (by omega) | exact cq_nle (by omega) (by omega) | exact cq_lt (by omega) (by omega) | exact cq_nlt (by omega) (by omega) | exact cq_eq (by omega) (by omega) (by omega) | exact cq_neq (by omega))))
          refine mw_iinc_3 dL_number_79 (by decide) rfl ?_
          refine mw_goto (tgt := 6) dL_number_82 (by decide) ?_
          rw [show nI (4 - q) + Int32.ofInt 1 = nI (5 - q) by rw [← hr0]; exact nI_1 _]
          exact ih (p + 1) _ _ _ (by omega) (by omega) hv2 hv3 ((pk_un (by decide)).trans pk_us) ((pk_un (by decide)).trans ((pk_un (by decide)).trans h4)) pk_us ((hG.u (by decide) _).u (by decide) _)
      by_cases h0 : q = 0
      · by_cases h15 : 15 < b p
        · rw [hpg, if_pos ⟨h0, h15⟩]
          refine mw_iload_n (i := 3) dL_number_37 rfl rfl ?_
          refine mw_iconst (v := 4) dL_number_38 (by decide) ?_
          refine mw_icmp_ne (tgt := 54) dL_number_39 (by decide) (fun c9 => absurd c9 (by first | decide | exact (fun q => q rfl) | ((try simp only [fa_lit]); first | exact cq_le (by omega) (by omega) | exact cq_nle (by omega) (by omega) | exact cq_lt (by omega) (by omega) | exact cq_nlt (by omega) (by omega) | exact cq_eq (by omega) (by omega) (by omega) | exact cq_neq (by omega)))) (fun _ => ?_)
          refine mw_iload (i := 4) dL_number_42 rfl ?_
          refine mw_bipush (v := 15) dL_number_44 (by decide) ?_
          refine mw_icmp_le (tgt := 54) dL_number_46 (by decide) (fun c9 => absurd c9 (by first | decide | exact (fun q => q rfl) | ((try simp only [fa_lit]); first | exact cq_le (by omega) (by omega) | exact cq_nle (by omega) (by omega) | exact cq_lt (by omega) (by omega) | exact cq_nlt (by omega) (by omega) | exact cq_eq (by omega) (by omega) (by omega) | exact cq_neq (by omega)))) (fun _ => ?_)
          refine mw_aload_n (i := 1) dL_number_49 rfl rfl ?_
          refine mw_iconst (v := 4) dL_number_50 (by decide) ?_
          refine mw_iconst (v := 2) dL_number_51 (by decide) ?_
          refine gl_stG dL_number_52 (mw_ix (j := 4) rfl (by decide) (by decide)) ?_
          exact mw_return dL_number_53 rfl ⟨rfl, _, rfl, (hG.u (by decide) _).u (by decide) _, (pk_un (by decide)).trans pk_us, pk_us, fun z => absurd z (Nat.succ_ne_zero _)⟩
        · refine mw_iload_n (i := 3) dL_number_37 rfl rfl ?_
          refine mw_iconst (v := 4) dL_number_38 (by decide) ?_
          refine mw_icmp_ne (tgt := 54) dL_number_39 (by decide) (fun c9 => absurd c9 (by first | decide | exact (fun q => q rfl) | ((try simp only [fa_lit]); first | exact cq_le (by omega) (by omega) | exact cq_nle (by omega) (by omega) | exact cq_lt (by omega) (by omega) | exact cq_nlt (by omega) (by omega) | exact cq_eq (by omega) (by omega) (by omega) | exact cq_neq (by omega)))) (fun _ => ?_)
          refine mw_iload (i := 4) dL_number_42 rfl ?_
          refine mw_bipush (v := 15) dL_number_44 (by decide) ?_
          refine mw_icmp_le (tgt := 54) dL_number_46 (by decide) (fun _ => ?_) (fun c9 => absurd c9 (by first | decide | exact (fun q => q rfl) | ((try simp only [fa_lit]); first | exact cq_le (by omega) (by omega) | exact cq_nle (by omega) (by omega) | exact cq_lt (by omega) (by omega) | exact cq_nlt (by omega) (by omega) | exact cq_eq (by omega) (by omega) (by omega) | exact cq_neq (by omega))))
          exact hlast (fun z => h15 z.2)
      · refine mw_iload_n (i := 3) dL_number_37 rfl rfl ?_
        refine mw_iconst (v := 4) dL_number_38 (by decide) ?_
        refine mw_icmp_ne (tgt := 54) dL_number_39 (by decide) (fun _ => ?_) (fun c9 => absurd c9 (by first | decide | exact (fun q => q rfl) | ((try simp only [fa_lit]); first | exact cq_le (by omega) (by omega) | exact cq_nle (by omega) (by omega) | exact cq_lt (by omega) (by omega) | exact cq_nlt (by omega) (by omega) | exact cq_eq (by omega) (by omega) (by omega) | exact cq_neq (by omega))))
        exact hlast (fun z => h0 z.1)
theorem c_number {p : Nat} {G : Nat → Int32} (hb : bR A r e b) (hp : p ≤ e) (h3 : G 3 = nI p) (h4 : G 4 = 0) : mw_Con mm_L_number 0 0 0 [.ref (43 + r), .ref 54, .int (nI e)] (gl H (va_up A 11 G) X) (nP H A X G (pg b e 5 p 0)) := by
  refine gm_con pl_L rfl rfl (Nat.le_of_ble_eq_true rfl) rfl ?_
  refine mw_aload_n (i := 1) dL_number_0 rfl rfl ?_
  refine mw_iconst (v := 5) dL_number_1 (by decide) ?_
  refine mw_iconst (v := 0) dL_number_2 (by decide) ?_
  refine gl_stG dL_number_3 (mw_ix (j := 5) rfl (by decide) (by decide)) ?_
  refine mw_iconst (v := 0) dL_number_4 (by decide) ?_
  refine mw_istore_3 dL_number_5 (by decide) ?_
  exact lp_number hb 5 p 0 _ none (by omega) hp (by decide) (fun z => absurd z (by decide)) ((pk_un (by decide)).trans h3) ((pk_un (by decide)).trans h4) pk_us (gK.rf.u (by decide) _)
end LH6
