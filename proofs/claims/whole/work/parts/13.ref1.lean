/-! bytes: a group number, read -/
/-- r groups are left, v is what has been read: (fault, the next place, the value) -/
def pg (b : Nat → Nat) (e : Nat) : Nat → Nat → Nat → Nat × Nat × Nat
  | 0, p, v => (0, p, v)
  | r + 1, p, v => if p = e then (1, p, 0) else if r = 0 ∧ 15 < b p then (2, p + 1, 0) else if b p < 128 then (0, p + 1, v + b p % 128 * 2 ^ (7 * (4 - r))) else pg b e r (p + 1) (v + b p % 128 * 2 ^ (7 * (4 - r)))
theorem mb_grp {v c k : Nat} (hk : k ≤ 4) (hc : c < 256) (h4 : k = 4 → c ≤ 15) (hv : v < 2 ^ (7 * k)) : nI v ||| ((nI c &&& 127) <<< ((7 * nI k) &&& 31)) = nI (v + c % 128 * 2 ^ (7 * k)) := by
  have e1 : nI c &&& 127 = nI (c % 2 ^ 7) := pk_andN (by omega) 7 (by decide)
  rw [e1, Int32.or_comm]
  have hk' : k = 0 ∨ k = 1 ∨ k = 2 ∨ k = 3 ∨ k = 4 := by omega
  rcases hk' with rfl | rfl | rfl | rfl | rfl
  · rw [pk_shlN _ 0 (by decide) (by omega), Nat.mul_comm, fa_or_sum (k := 0) _ hv]
    congr 1; omega
  · rw [pk_shlN _ 7 (by decide) (by omega), Nat.mul_comm, fa_or_sum (k := 7) _ hv]
    congr 1; omega
  · rw [pk_shlN _ 14 (by decide) (by omega), Nat.mul_comm, fa_or_sum (k := 14) _ hv]
    congr 1; omega
  · rw [pk_shlN _ 21 (by decide) (by omega), Nat.mul_comm, fa_or_sum (k := 21) _ hv]
    congr 1; omega
  · have := h4 rfl
    rw [pk_shlN _ 28 (by decide) (by omega), Nat.mul_comm, fa_or_sum (k := 28) _ hv]
    congr 1; omega
theorem pg_le (b : Nat → Nat) (e : Nat) : ∀ r p v, p ≤ e → p ≤ (pg b e r p v).2.1 ∧ (pg b e r p v).2.1 ≤ e
  | 0, p, v, h => ⟨Nat.le_refl _, h⟩
  | r + 1, p, v, h => by
    unfold pg
    by_cases h1 : p = e
    · rw [if_pos h1]; exact ⟨Nat.le_refl _, h⟩
    · rw [if_neg h1]
      by_cases h2 : r = 0 ∧ 15 < b p
      · rw [if_pos h2]; exact ⟨Nat.le_succ _, by show p + 1 ≤ e; omega⟩
      · rw [if_neg h2]
        by_cases h3 : b p < 128
        · rw [if_pos h3]; exact ⟨Nat.le_succ _, by show p + 1 ≤ e; omega⟩
        · rw [if_neg h3]
          have := pg_le b e r (p + 1) (v + b p % 128 * 2 ^ (7 * (4 - r))) (by omega)
          exact ⟨by omega, this.2⟩
theorem pg_lt (b : Nat → Nat) (e : Nat) (hb : ∀ p, b p < 256) : ∀ r p v, r ≤ 5 → v < 2 ^ (7 * (5 - r)) → (r = 0 → v < 2 ^ 32) → (pg b e r p v).2.2 < 2 ^ 32
  | 0, p, v, _, _, h => h rfl
  | r + 1, p, v, hr, h, _ => by
    have hk : 5 - (r + 1) = 4 - r := by omega
    rw [hk] at h
    have hm := Nat.mod_lt (b p) (show 0 < 128 by decide)
    have hr0 : 4 - r + 1 = 5 - r := by omega
    have hv2 : v + b p % 128 * 2 ^ (7 * (4 - r)) < 2 ^ (7 * (5 - r)) := by
      rw [← hr0, show 7 * (4 - r + 1) = 7 * (4 - r) + 7 by omega, Nat.pow_add]
      have h3 : b p % 128 * 2 ^ (7 * (4 - r)) ≤ 127 * 2 ^ (7 * (4 - r)) := Nat.mul_le_mul_right _ (by omega)
      omega
    have hv3 : ¬ (r = 0 ∧ 15 < b p) → r = 0 → v + b p % 128 * 2 ^ (7 * (4 - r)) < 2 ^ 32 := by
      intro hq z
      subst z
      have : b p ≤ 15 := by omega
      have h4 : b p % 128 = b p := Nat.mod_eq_of_lt (by omega)
      rw [h4]
      have h : v < 268435456 := h
      show v + b p * 268435456 < 4294967296
      clear hv2
      omega
    unfold pg
    by_cases h1 : p = e
    · rw [if_pos h1]; exact Nat.le_of_ble_eq_true rfl
    · rw [if_neg h1]
      by_cases h2 : r = 0 ∧ 15 < b p
      · rw [if_pos h2]; exact Nat.le_of_ble_eq_true rfl
      · rw [if_neg h2]
        by_cases h3 : b p < 128
        · rw [if_pos h3]
          show v + b p % 128 * 2 ^ (7 * (4 - r)) < 2 ^ 32
          by_cases z : r = 0
          · exact hv3 h2 z
          · have h7 : (2 : Nat) ^ (7 * (5 - r)) ≤ 2 ^ 32 := Nat.pow_le_pow_right (by decide) (by omega)
            omega
        · rw [if_neg h3]
          exact pg_lt b e hb r (p + 1) _ (by omega) hv2 (hv3 h2)
theorem mw_top {y : mw_M} {d kc ks pc : Nat} {ls : List (Option Value)} {st : List Value} {h : mw_H} {Po : mw_P} {x v : Int32} (e : x = v) (k : mw_W y d kc ks pc ls (.int v :: st) h Po) : mw_W y d kc ks pc ls (.int x :: st) h Po := by
  subst e
  exact k
/-- a method of class 7 by its walk -/
theorem gm_con {y : mw_M} {d kc ks : Nat} {ls : List (Option Value)} {h : mw_H} {Po : mw_P} {as : List Value} (hy : plainName y.1.cls = true) (hn : y.2.2.2.2 = []) (hcat : as.all (fun v => v.category == 1) = true) (hlen : as.length ≤ y.2.2.1) (hls : as.map some ++ List.replicate (y.2.2.1 - as.length) none = ls) (w : mw_W y d kc ks 0 ls [] h Po) : mw_Con y d kc ks as h Po :=
  mw_con hy hn (fun v hv => by have h9 := List.all_eq_true.mp hcat v hv; simpa using h9) hlen hls w
theorem pl_X7 : plainName RX7 = true := by decide +kernel
/-- at := q, fault := f where there is one -/
def gI (I : Nat → Int32) (f q : Nat) : Nat → Int32 := upd (if f = 0 then I else upd I 12 (nI f)) 11 (nI q)
theorem gI_same {I : Nat → Int32} {p : Nat} (h : I 11 = nI p) : gI I 0 p = I := by
  unfold gI
  rw [if_pos rfl]
  exact fa_upd_same h
theorem gI_one {I : Nat → Int32} {f p : Nat} (hf : f ≠ 0) (h : I 11 = nI p) : gI I f p = upd I 12 (nI f) := by
  unfold gI
  rw [if_neg hf]
  exact fa_upd_same (by rw [← h]; exact pk_un (by decide))
theorem gI_at {I : Nat → Int32} {f q : Nat} {x : Int32} : gI (upd I 11 x) f q = gI I f q := by
  unfold gI
  funext j
  simp only [upd]
  by_cases hj : j = 11
  · rw [if_pos hj, if_pos hj]
  · rw [if_neg hj, if_neg hj]
    by_cases hf : f = 0
    · rw [if_pos hf, if_pos hf]
      exact pk_un hj
    · rw [if_neg hf, if_neg hf]
      simp only [upd, if_neg hj]
section GRP
variable {M q n e : Nat} {h : mw_H} {A : Nat → Nat → Int32} {f : Nat → Int32} {b : Nat → Nat}
theorem lp_group (h_p1 : ∀ I : Nat → Int32, mw_g (gm M h I A) (M + q) = some (.inl (0, (n, .inl f)))) (hb : ∀ j, j < n → f j = nI (b j)) (hb2 : ∀ j, b j < 256) (hn : n < 2 ^ 31) (hen : e ≤ n) :
    ∀ (r p v : Nat) (I : Nat → Int32) (x5 : Option Value), r ≤ 5 → p ≤ e → v < 2 ^ (7 * (5 - r)) → I 11 = nI p →
      mw_W mm_X7_group 0 0 0 5 [some (.ref M), some (.ref (M + q)), some (.int (nI e)), some (.int (nI v)), some (.int (nI (5 - r))), x5] [] (gm M h I A) (mw_ret (.int (nI (pg b e r p v).2.2)) (gm M h (gI I (pg b e r p v).1 (pg b e r p v).2.1) A)) := by
  intro r
  induction r with
  | zero =>
    intro p v I x5 _ hp hv hI
    refine mw_iload (i := 4) dX7_group_5 rfl ?_
    refine mw_iconst (v := 5) dX7_group_7 (by decide) ?_
    refine mw_icmp_ge (tgt := 94) dX7_group_8 (by decide) (fun c_8 => ?_) (fun c_8 => ?_)
    · refine mw_iload_n (i := 3) dX7_group_94 rfl rfl ?_
      exact mw_ireturn dX7_group_95 ⟨_, rfl, rfl⟩ ⟨rfl, by show _ = gm M h (gI I 0 p) A; rw [gI_same hI]⟩
    · exact absurd (by decide) c_8
  | succ r ih =>
    intro p v I x5 hr hp hv hI
    have hk : 5 - (r + 1) = 4 - r := by omega
    rw [hk] at hv ⊢
    refine mw_iload (i := 4) dX7_group_5 rfl ?_
    refine mw_iconst (v := 5) dX7_group_7 (by decide) ?_
    refine mw_icmp_ge (tgt := 94) dX7_group_8 (by decide) (fun c_8 => ?_) (fun c_8 => ?_)
    · exact absurd c_8 (by rw [show (5 : Int32) = nI 5 from rfl]; exact nI_ge (by omega) (by omega))
    · refine mw_aload_n (i := 0) dX7_group_11 rfl rfl ?_
      refine mw_get dX7_group_12 fk_X7_55 gm_0 rfl ?_
      refine mw_iload_n (i := 2) dX7_group_15 rfl rfl ?_
      refine mw_icmp_ne (tgt := 26) dX7_group_16 (by decide) (fun c_16 => ?_) (fun c_16 => ?_)
      · have hpe : p ≠ e := fun z => c_16 (by rw [← z]; exact hI)
        have hpn : p < n := by omega
        refine mw_aload_n (i := 1) dX7_group_26 rfl rfl ?_
        refine mw_aload_n (i := 0) dX7_group_27 rfl rfl ?_
        refine mw_get dX7_group_28 fk_X7_55 gm_0 rfl ?_
        refine mw_iald dX7_group_31 (h_p1 _) (mw_ix hI hpn hn) ?_
        rw [hb p hpn]
        refine mw_istore_5 dX7_group_32 (by decide) ?_
        refine mw_aload_n (i := 0) dX7_group_34 rfl rfl ?_
        refine mw_dup dX7_group_35 rfl ?_
        refine mw_get dX7_group_36 fk_X7_55 gm_0 rfl ?_
        refine mw_iconst (v := 1) dX7_group_39 (by decide) ?_
        refine mw_iadd dX7_group_40 ?_
        refine gm_put dX7_group_41 fk_X7_55 (by decide) (gm_h11 _) ?_
        refine mw_iload (i := 4) dX7_group_44 rfl ?_
        refine mw_iconst (v := 4) dX7_group_46 (by decide) ?_
        have hI1 : (upd I 11 (I 11 + 1)) 11 = nI (p + 1) := by rw [pk_us, hI]; exact nI_1 p
        have hpgr : pg b e (r + 1) p v = if r = 0 ∧ 15 < b p then (2, p + 1, 0) else if b p < 128 then (0, p + 1, v + b p % 128 * 2 ^ (7 * (4 - r))) else pg b e r (p + 1) (v + b p % 128 * 2 ^ (7 * (4 - r))) := by
          show (if p = e then _ else _) = _
          rw [if_neg hpe]
        have hlast : ∀ (hq : ¬ (r = 0 ∧ 15 < b p)), mw_W mm_X7_group 0 0 0 64 [some (.ref M), some (.ref (M + q)), some (.int (nI e)), some (.int (nI v)), some (.int (nI (4 - r))), some (.int (nI (b p)))] [] (gm M h (upd I 11 (I 11 + 1)) A) (mw_ret (.int (nI (pg b e (r + 1) p v).2.2)) (gm M h (gI I (pg b e (r + 1) p v).1 (pg b e (r + 1) p v).2.1) A)) := by
          intro hq
          rw [hpgr, if_neg hq]
          have hor := mb_grp (v := v) (c := b p) (k := 4 - r) (by omega) (hb2 p) (fun z => by have := hb2 p; omega) hv
          refine mw_iload_n (i := 3) dX7_group_64 rfl rfl ?_
          refine mw_iload (i := 5) dX7_group_65 rfl ?_
          refine mw_bipush (v := 127) dX7_group_67 (by decide) ?_
          refine mw_iand dX7_group_69 ?_
          refine mw_bipush (v := 7) dX7_group_70 (by decide) ?_
          refine mw_iload (i := 4) dX7_group_72 rfl ?_
          refine mw_imul dX7_group_74 ?_
          refine mw_ishl dX7_group_75 ?_
          refine mw_ior dX7_group_76 ?_
          rw [hor]
          refine mw_istore_3 dX7_group_77 (by decide) ?_
          refine mw_iload (i := 5) dX7_group_78 rfl ?_
          refine mw_sipush (v := 128) dX7_group_80 (by decide) ?_
          refine mw_icmp_ge (tgt := 88) dX7_group_83 (by decide) (fun c_83 => ?_) (fun c_83 => ?_)
          · have h128 : ¬ b p < 128 := fun z => by
              have z2 : nI 128 ≤ nI (b p) := c_83
              rw [nI_leI (by omega) (by have := hb2 p; omega)] at z2
              omega
            rw [if_neg h128]
            have hr0 : 4 - r + 1 = 5 - r := by omega
            refine mw_iinc_4 dX7_group_88 (by decide) rfl ?_
            refine mw_goto (tgt := 5) dX7_group_91 (by decide) ?_
            have e4 : nI (4 - r) + Int32.ofInt 1 = nI (5 - r) := by
              rw [← hr0]
              exact nI_1 _
            rw [e4]
            have hv2 : v + b p % 128 * 2 ^ (7 * (4 - r)) < 2 ^ (7 * (5 - r)) := by
              rw [← hr0]
              rw [show 7 * (4 - r + 1) = 7 * (4 - r) + 7 by omega, Nat.pow_add]
              have := Nat.mod_lt (b p) (show 0 < 128 by decide)
              have h3 : b p % 128 * 2 ^ (7 * (4 - r)) ≤ 127 * 2 ^ (7 * (4 - r)) := Nat.mul_le_mul_right _ (by omega)
              omega
            have h9 := ih (p + 1) (v + b p % 128 * 2 ^ (7 * (4 - r))) (upd I 11 (I 11 + 1)) (some (.int (nI (b p)))) (by omega) (by omega) hv2 hI1
            rw [gI_at] at h9
            exact h9
          · have h128 : b p < 128 := by
              rcases Nat.lt_or_ge (b p) 128 with z | z
              · exact z
              · exact absurd (nI_le z (by have := hb2 p; omega)) c_83
            rw [if_pos h128]
            refine mw_iload_n (i := 3) dX7_group_86 rfl rfl ?_
            refine mw_ireturn dX7_group_87 ⟨_, rfl, rfl⟩ ⟨rfl, ?_⟩
            show _ = gm M h (gI I 0 (p + 1)) A
            rw [← gI_at (x := I 11 + 1), gI_same hI1]
        refine mw_icmp_ne (tgt := 64) dX7_group_47 (by decide) (fun c_47 => ?_) (fun c_47 => ?_)
        · refine hlast (fun z => c_47 ?_)
          rw [z.1]
          rfl
        · refine mw_iload (i := 5) dX7_group_50 rfl ?_
          refine mw_bipush (v := 15) dX7_group_52 (by decide) ?_
          have hr0 : r = 0 := by
            have z : nI (4 - r) = nI 4 := c_47
            rw [nI_eq (by omega) (by omega)] at z
            omega
          refine mw_icmp_le (tgt := 64) dX7_group_54 (by decide) (fun c_54 => ?_) (fun c_54 => ?_)
          · refine hlast (fun z => ?_)
            have z2 : nI (b p) ≤ nI 15 := c_54
            rw [nI_leI (by have := hb2 p; omega) (by omega)] at z2
            omega
          · have h15 : r = 0 ∧ 15 < b p := by
              refine ⟨hr0, ?_⟩
              rcases Nat.lt_or_ge 15 (b p) with z | z
              · exact z
              · exact absurd (nI_le z (by omega)) c_54
            rw [hpgr, if_pos h15]
            refine mw_aload_n (i := 0) dX7_group_57 rfl rfl ?_
            refine mw_iconst (v := 2) dX7_group_58 (by decide) ?_
            refine gm_put dX7_group_59 fk_X7_58 (by decide) (gm_h12 _) ?_
            refine mw_iconst (v := 0) dX7_group_62 (by decide) ?_
            refine mw_ireturn dX7_group_63 ⟨_, rfl, rfl⟩ ⟨rfl, ?_⟩
            show _ = gm M h (gI I 2 (p + 1)) A
            rw [← gI_at (x := I 11 + 1), gI_one (by decide) hI1]
            rfl
      · have hpe : p = e := by
          have z : I 11 = nI e := c_16
          rw [hI, nI_eq (by omega) (by omega)] at z
          exact z
        have hpgr : pg b e (r + 1) p v = (1, p, 0) := by
          show (if p = e then _ else _) = _
          rw [if_pos hpe]
        rw [hpgr]
        refine mw_aload_n (i := 0) dX7_group_19 rfl rfl ?_
        refine mw_iconst (v := 1) dX7_group_20 (by decide) ?_
        refine gm_put dX7_group_21 fk_X7_58 (by decide) (gm_h12 _) ?_
        refine mw_iconst (v := 0) dX7_group_24 (by decide) ?_
        refine mw_ireturn dX7_group_25 ⟨_, rfl, rfl⟩ ⟨rfl, ?_⟩
        show _ = gm M h (gI I 1 p) A
        rw [gI_one (by decide) hI]
        rfl
theorem c_group (h_p1 : ∀ I : Nat → Int32, mw_g (gm M h I A) (M + q) = some (.inl (0, (n, .inl f)))) (hb : ∀ j, j < n → f j = nI (b j)) (hb2 : ∀ j, b j < 256) (hn : n < 2 ^ 31) (hen : e ≤ n) {p : Nat} {I : Nat → Int32} (hp : p ≤ e) (hI : I 11 = nI p) :
    mw_Con mm_X7_group 0 0 0 [.ref M, .ref (M + q), .int (nI e)] (gm M h I A) (mw_ret (.int (nI (pg b e 5 p 0).2.2)) (gm M h (gI I (pg b e 5 p 0).1 (pg b e 5 p 0).2.1) A)) := by
  refine gm_con pl_X7 rfl rfl (Nat.le_of_ble_eq_true rfl) rfl ?_
  refine mw_iconst (v := 0) dX7_group_0 (by decide) ?_
  refine mw_istore_3 dX7_group_1 (by decide) ?_
  refine mw_iconst (v := 0) dX7_group_2 (by decide) ?_
  refine mw_istore_4 dX7_group_3 (by decide) ?_
  exact lp_group h_p1 hb hb2 hn hen 5 p 0 I none (by omega) hp (by decide) hI
end GRP
