/-! addSchema, setKind, conflict -/
section I7
variable {y : mw_M} {d kc ks pc : Nat} {ls : List (Option Value)} {st : List Value} {h : mw_H} {Po : mw_P}
theorem mw_iinc_7 {n : Int} {x v : Int32} {a0 a1 a2 a3 a4 a5 a6 : Option Value} {r : List (Option Value)} (dg : decode y.2.1 pc = .ok (.iinc 7 n, 3)) (hn : 7 < y.2.2.1) (hv : x + Int32.ofInt n = v) (k : mw_W y d kc ks (pc + 3) (a0 :: a1 :: a2 :: a3 :: a4 :: a5 :: a6 :: some (.int v) :: r) (st) h Po) : mw_W y d kc ks (pc) (a0 :: a1 :: a2 :: a3 :: a4 :: a5 :: a6 :: some (.int x) :: r) (st) h Po := by
  intro G p l e R s m args below meth c mc msl H locs cells slots lsA C hc hs hR hS hL
  obtain ⟨hx, hb, hr, hml, hown, hlk, htr, htab, hnm, hRf, hRl, hRc, hRs, hK⟩ := id C
  obtain ⟨k9, hk9⟩ := List.getElem?_of_mem (mw_al_mem (G := G) (ls := a0 :: a1 :: a2 :: a3 :: a4 :: a5 :: a6 :: some (.int x) :: r) (i := 7) (v := .int x) rfl)
  exact lv_iinc hx hb dg (mw_al_has hL) hk9 hv hn rfl (fun ls9 h9 => k G p l e R s m args below meth c mc msl H locs cells slots ls9 C hc hs hR hS (mw_L_set (ls := a0 :: a1 :: a2 :: a3 :: a4 :: a5 :: a6 :: some (.int x) :: r) (i := 7) (v := .int v) hL rfl rfl h9))
theorem mw_istore_7 {a0 a1 a2 a3 a4 a5 a6 a7 : Option Value} {r : List (Option Value)} {x : Int32} (dg : decode y.2.1 pc = .ok (.istore 7, 2)) (hn : 7 < y.2.2.1) (k : mw_W y d kc ks (pc + 2) (a0 :: a1 :: a2 :: a3 :: a4 :: a5 :: a6 :: some (.int x) :: r) (st) h Po) : mw_W y d kc ks (pc) (a0 :: a1 :: a2 :: a3 :: a4 :: a5 :: a6 :: a7 :: r) (.int x :: st) h Po := by
  intro G p l e R s m args below meth c mc msl H locs cells slots lsA C hc hs hR hS hL
  obtain ⟨hx, hb, hr, hml, hown, hlk, htr, htab, hnm, hRf, hRl, hRc, hRs, hK⟩ := id C
  exact lv_istore (x := x) hx hb dg (mw_al_has hL) hn rfl (fun ls9 h9 => k G p l e R s m args below meth c mc msl H locs cells slots ls9 C hc hs hR hS (mw_L_set (ls := a0 :: a1 :: a2 :: a3 :: a4 :: a5 :: a6 :: a7 :: r) (i := 7) (v := .int x) hL rfl rfl h9))
end I7
def fil1 (f : Nat → Int32) (n k : Nat) : Nat → Int32 := fun j => if 32 * n ≤ j ∧ j < 32 * n + k then -1 else f j
theorem fil1_0 (f : Nat → Int32) (n : Nat) : fil1 f n 0 = f := by
  funext j
  show (if _ then _ else _) = _
  exact if_neg (by omega)
theorem fil1_s (f : Nat → Int32) (n k : Nat) : upd (fil1 f n k) (32 * n + k) (-1) = fil1 f n (k + 1) := by
  funext j
  show (if j = 32 * n + k then _ else if _ then _ else _) = if _ then _ else _
  by_cases e : j = 32 * n + k
  · rw [if_pos e, if_pos (by omega)]
  · rw [if_neg e]
    by_cases e2 : 32 * n ≤ j ∧ j < 32 * n + k
    · rw [if_pos e2, if_pos (by omega)]
    · rw [if_neg e2, if_neg (by omega)]
section P2
variable {M : Nat} {h : mw_H} {g : mS} {I : Nat → Int32} {A : Nat → Nat → Int32}
theorem lp_add {n : Nat} (hn : n < 6) (h1 : I 1 = nI n) {Po : mw_P} (K : ∀ x1, mw_W mm_X7_addSchema 0 0 0 56 [some (.ref M), x1] [] (gm M h I (va_up A 1 (fil1 (A 1) n 32))) Po) : ∀ (r k : Nat), k + r = 32 →
    mw_W mm_X7_addSchema 0 0 0 29 [some (.ref M), some (.int (nI k))] [] (gm M h I (va_up A 1 (fil1 (A 1) n k))) Po := by
  intro r
  induction r with
  | zero =>
    intro k hk
    have hk : k = 32 := hk
    subst hk
    refine mw_iload_n (i := 1) dX7_addSchema_29 rfl rfl ?_
    refine mw_bipush (v := 32) dX7_addSchema_30 (by decide) ?_
    refine mw_icmp_ge (tgt := 56) dX7_addSchema_32 (by decide) (fun _ => ?_) (fun c9 => absurd c9 (by first | decide | (rw [pk_us]; decide)))
    exact K _
  | succ r ih =>
    intro k hk
    refine mw_iload_n (i := 1) dX7_addSchema_29 rfl rfl ?_
    refine mw_bipush (v := 32) dX7_addSchema_30 (by decide) ?_
    refine mw_icmp_ge (tgt := 56) dX7_addSchema_32 (by decide) (fun c9 => absurd c9 (by rw [show (32 : Int32) = nI 32 from rfl]; exact nI_ge (by omega) (by omega))) (fun _ => ?_)
    refine mw_aload_n (i := 0) dX7_addSchema_35 rfl rfl ?_
    refine mw_get dX7_addSchema_36 fk_X7_7 gm_0 rfl ?_
    refine mw_bipush (v := 32) dX7_addSchema_39 (by decide) ?_
    refine mw_aload_n (i := 0) dX7_addSchema_41 rfl rfl ?_
    refine mw_get dX7_addSchema_42 fk_X7_48 gm_0 rfl ?_
    refine mw_imul dX7_addSchema_45 ?_
    refine mw_iload_n (i := 1) dX7_addSchema_46 rfl rfl ?_
    refine mw_iadd dX7_addSchema_47 ?_
    refine mw_iconst (v := -1) dX7_addSchema_48 (by decide) ?_
    rw [h1]
    refine gm_st1 dX7_addSchema_49 (mw_ix (mx_32 n k) (show 32 * n + k < 192 by omega) (by decide)) ?_
    rw [va_up_self, bx_uu, fil1_s]
    refine mw_iinc_1 dX7_addSchema_50 (by decide) rfl ?_
    refine mw_goto (tgt := 29) dX7_addSchema_53 (by decide) ?_
    rw [show nI k + Int32.ofInt 1 = nI (k + 1) from nI_1 k]
    exact ih (k + 1) (by omega)
theorem r_addSchema (hr : rR g I A) : mw_Con mm_X7_addSchema 0 0 0 [.ref M] (gm M h I A) (rP M h (sp_addSchema g)) := by
  refine gm_con pl_X7 rfl rfl (Nat.le_of_ble_eq_true rfl) rfl ?_
  unfold sp_addSchema
  have h6 := rR_ns hr
  refine mw_aload_n (i := 0) dX7_addSchema_0 rfl rfl ?_
  refine mw_aload_n (i := 0) dX7_addSchema_1 rfl rfl ?_
  refine mw_get dX7_addSchema_2 fk_X7_48 gm_0 rfl ?_
  refine mw_bipush (v := 6) dX7_addSchema_5 (by decide) ?_
  rw [hr.2.1]
  by_cases e : g.1 = 6
  · rw [if_pos e, e]
    refine mw_icmp_ne (tgt := 14) dX7_addSchema_7 (by decide) (fun c9 => absurd c9 (fun z => z rfl)) (fun _ => ?_)
    refine mw_iconst (v := 1) dX7_addSchema_10 (by decide) ?_
    refine mw_goto (tgt := 15) dX7_addSchema_11 (by decide) ?_
    refine gm_put dX7_addSchema_15 fk_X7_44 (by decide) (gm_h0 _) ?_
    refine mw_aload_n (i := 0) dX7_addSchema_18 rfl rfl ?_
    refine mw_get dX7_addSchema_19 fk_X7_44 gm_0 rfl ?_
    refine mw_if_le (tgt := 27) dX7_addSchema_22 (by decide) (fun c9 => absurd c9 (by first | decide | (rw [pk_us]; decide))) (fun _ => ?_)
    refine mw_iconst (v := 0) dX7_addSchema_25 (by decide) ?_
    exact mw_ireturn dX7_addSchema_26 ⟨_, rfl, rfl⟩ (rP_I hr rfl rfl rfl)
  · rw [if_neg e]
    refine mw_icmp_ne (tgt := 14) dX7_addSchema_7 (by decide) (fun _ => ?_) (fun c9 => absurd c9 (fun z => e (by rw [show (6 : Int32) = nI 6 from rfl, nI_eq (by omega) (by omega)] at z; exact z)))
    refine mw_iconst (v := 0) dX7_addSchema_14 (by decide) ?_
    refine gm_put dX7_addSchema_15 fk_X7_44 (by decide) (gm_h0 _) ?_
    refine mw_aload_n (i := 0) dX7_addSchema_18 rfl rfl ?_
    refine mw_get dX7_addSchema_19 fk_X7_44 gm_0 rfl ?_
    refine mw_if_le (tgt := 27) dX7_addSchema_22 (by decide) (fun _ => ?_) (fun c9 => absurd c9 (by first | decide | (rw [pk_us]; decide)))
    refine mw_iconst (v := 0) dX7_addSchema_27 (by decide) ?_
    refine mw_istore_1 dX7_addSchema_28 (by decide) ?_
    have h9 := lp_add (M := M) (h := h) (I := upd I 0 0) (A := A) (n := g.1) (by omega) hr.2.1 (Po := rP M h (0, nI g.1, (g.1 + 1, va_up g.2.1 1 (fun j => if 32 * g.1 ≤ j ∧ j < 32 * g.1 + 32 then -1 else g.2.1 1 j), g.2.2))) ?_ 32 0 (by omega)
    · rw [fil1_0, up_same] at h9
      exact h9
    · intro x1
      refine mw_aload_n (i := 0) dX7_addSchema_56 rfl rfl ?_
      refine mw_dup dX7_addSchema_57 rfl ?_
      refine mw_get dX7_addSchema_58 fk_X7_48 gm_0 rfl ?_
      refine mw_iconst (v := 1) dX7_addSchema_61 (by decide) ?_
      refine mw_iadd dX7_addSchema_62 ?_
      refine gm_put dX7_addSchema_63 fk_X7_48 (by decide) (gm_h1 _) ?_
      refine mw_aload_n (i := 0) dX7_addSchema_66 rfl rfl ?_
      refine mw_get dX7_addSchema_67 fk_X7_48 gm_0 rfl ?_
      refine mw_iconst (v := 1) dX7_addSchema_70 (by decide) ?_
      refine mw_isub dX7_addSchema_71 ?_
      have e1 : upd I 0 0 1 + 1 = nI (g.1 + 1) := by rw [show upd I 0 0 1 = I 1 from pk_un (by decide), hr.2.1]; exact nI_1 _
      rw [e1]
      refine mw_top (v := nI g.1) ?_ ?_
      · show nI (g.1 + 1) - nI 1 = _
        rw [pk_sub (by omega)]
        rfl
      · have hf : fil1 (A 1) g.1 32 = fun j => if 32 * g.1 ≤ j ∧ j < 32 * g.1 + 32 then -1 else g.2.1 1 j := by rw [hr.2.2.1]; rfl
        refine mw_ireturn dX7_addSchema_72 ⟨_, rfl, rfl⟩ ⟨rfl, _, _, rfl, rfl, rR_K hr (by omega) (Nat.le_succ _) ?_ ?_ rfl ?_ ?_ ?_ (fun j h1 h2 => va_up_ne _ _ (by omega)) rfl⟩
        · intro s t hs h1 h2 h4
          rw [zKind_of h1 h2, va_up_self] at h4
          unfold pn
          rw [va_up_ne _ _ (by decide)]
          by_cases z : 32 * g.1 ≤ 32 * s + t ∧ 32 * s + t < 32 * g.1 + 32
          · rw [if_pos z] at h4; exact absurd h4 (by decide)
          · rw [if_neg z] at h4
            have hs' : s < g.1 := by omega
            obtain ⟨p1, p2⟩ := hr.1.2.1 s t hs' h1 h2 (by rw [zKind_of h1 h2]; exact h4)
            exact ⟨Nat.lt_succ_of_lt p1, p2⟩
        · intro s t hs h1 h2
          rw [va_up_self]
          by_cases z : 32 * g.1 ≤ 32 * s + t ∧ 32 * s + t < 32 * g.1 + 32
          · rw [if_pos z]; exact Or.inl rfl
          · rw [if_neg z]
            exact hr.1.2.2.1 s t (by omega) h1 h2
        · rw [va_up_self, va_up_self, hf]
        · exact hr.2.2.2.1
        · exact hr.2.2.2.2.1
theorem zIn04 {k : Int32} (h : ¬ zIn k 0 4 = 0) : ∃ j : Nat, j ≤ 4 ∧ k = nI j := by
  obtain ⟨h1, h2⟩ := zIn_1 h
  exact nI_of3 (M := 4) (n := 4) rfl (by decide) h1 h2
theorem r_setKind (hr : rR g I A) (s t k o : Int32) : mw_Con mm_X7_setKind 2 0 0 [.ref M, .int s, .int t, .int k, .int o] (gm M h I A) (rP M h (sp_setKind g s t k o)) := by
  refine gm_con pl_X7 rfl rfl (Nat.le_of_ble_eq_true rfl) rfl ?_
  unfold sp_setKind
  have h6 := rR_ns hr
  cases hs : sS g s with
  | none =>
    refine mw_aload_n (i := 0) dX7_setKind_0 rfl rfl ?_
    refine mw_aload_n (i := 0) dX7_setKind_1 rfl rfl ?_
    refine mw_iload_n (i := 1) dX7_setKind_2 rfl rfl ?_
    refine mw_callVr dX7_setKind_3 mk_X7_136 gm_0 rfl (c_S0 hr hs) (by decide) (Nat.le_refl _) (Nat.le_refl _) rfl rfl (Nat.le_of_ble_eq_true rfl) ?_
    refine mw_if_eq (tgt := 23) dX7_setKind_6 (by decide) (fun _ => ?_) (fun c9 => absurd c9 (by first | decide | (rw [pk_us]; decide)))
    refine mw_iconst (v := 1) dX7_setKind_23 (by decide) ?_
    refine mw_goto (tgt := 48) dX7_setKind_24 (by decide) ?_
    refine gm_put dX7_setKind_48 fk_X7_44 (by decide) (gm_h0 _) ?_
    refine mw_aload_n (i := 0) dX7_setKind_51 rfl rfl ?_
    refine mw_get dX7_setKind_52 fk_X7_44 gm_0 rfl ?_
    refine mw_if_le (tgt := 60) dX7_setKind_55 (by decide) (fun c9 => absurd c9 (by first | decide | (rw [pk_us]; decide))) (fun _ => ?_)
    refine mw_iconst (v := 0) dX7_setKind_58 (by decide) ?_
    exact mw_ireturn dX7_setKind_59 ⟨_, rfl, rfl⟩ (rP_I hr rfl rfl rfl)
  | some j =>
    obtain ⟨hj, rfl⟩ := sS_in (rR_ns hr) hs
    dsimp only
    refine mw_aload_n (i := 0) dX7_setKind_0 rfl rfl ?_
    refine mw_aload_n (i := 0) dX7_setKind_1 rfl rfl ?_
    refine mw_iload_n (i := 1) dX7_setKind_2 rfl rfl ?_
    refine mw_callVr dX7_setKind_3 mk_X7_136 gm_0 rfl (c_S1 hr hs) (by decide) (Nat.le_refl _) (Nat.le_refl _) rfl rfl (Nat.le_of_ble_eq_true rfl) ?_
    refine mw_if_eq (tgt := 23) dX7_setKind_6 (by decide) (fun c9 => absurd c9 (by first | decide | (rw [pk_us]; decide))) (fun _ => ?_)
    refine mw_iload_n (i := 3) dX7_setKind_9 rfl rfl ?_
    refine mw_iconst (v := 4) dX7_setKind_10 (by decide) ?_
    -- behind the look at the part
    have J : (k = 4 → ∃ p, p < g.1 ∧ p < 6 ∧ o = nI p) → mw_W mm_X7_setKind 2 0 0 27 [some (.ref M), some (.int (nI j)), some (.int t), some (.int k), some (.int o), none] [.ref M] (gm M h I A) (rP M h (if zTag t = 0 ∨ zIn k 0 4 = 0 then (2, 0, g) else (0, g.2.1 1 (tix j t), (g.1, va_up (va_up (va_up g.2.1 1 (upd (g.2.1 1) (tix j t) k)) 2 (upd (g.2.1 2) (tix j t) o)) 3 (upd (g.2.1 3) (tix j t) 0), g.2.2)))) := by
      intro hp
      by_cases ht : zTag t = 0
      · rw [if_pos (Or.inl ht)]
        refine mw_iload_n (i := 2) dX7_setKind_27 rfl rfl ?_
        refine mw_callSr dX7_setKind_28 mk_X7_74 (c_T0 ht) (by decide) (Nat.le_refl _) (Nat.le_refl _) rfl rfl (Nat.le_of_ble_eq_true rfl) ?_
        refine mw_if_eq (tgt := 47) dX7_setKind_31 (by decide) (fun _ => ?_) (fun c9 => absurd c9 (by first | decide | (rw [pk_us]; decide)))
        refine mw_iconst (v := 2) dX7_setKind_47 (by decide) ?_
        refine gm_put dX7_setKind_48 fk_X7_44 (by decide) (gm_h0 _) ?_
        refine mw_aload_n (i := 0) dX7_setKind_51 rfl rfl ?_
        refine mw_get dX7_setKind_52 fk_X7_44 gm_0 rfl ?_
        refine mw_if_le (tgt := 60) dX7_setKind_55 (by decide) (fun c9 => absurd c9 (by first | decide | (rw [pk_us]; decide))) (fun _ => ?_)
        refine mw_iconst (v := 0) dX7_setKind_58 (by decide) ?_
        exact mw_ireturn dX7_setKind_59 ⟨_, rfl, rfl⟩ (rP_I hr rfl rfl rfl)
      · by_cases hk : zIn k 0 4 = 0
        · rw [if_pos (Or.inr hk)]
          refine mw_iload_n (i := 2) dX7_setKind_27 rfl rfl ?_
          refine mw_callSr dX7_setKind_28 mk_X7_74 (c_T1 ht) (by decide) (Nat.le_refl _) (Nat.le_refl _) rfl rfl (Nat.le_of_ble_eq_true rfl) ?_
          refine mw_if_eq (tgt := 47) dX7_setKind_31 (by decide) (fun c9 => absurd c9 (by first | decide | (rw [pk_us]; decide))) (fun _ => ?_)
          refine mw_iload_n (i := 3) dX7_setKind_34 rfl rfl ?_
          refine mw_iconst (v := 0) dX7_setKind_35 (by decide) ?_
          refine mw_iconst (v := 4) dX7_setKind_36 (by decide) ?_
          refine mw_callSr dX7_setKind_37 mk_X7_51 (c_in k 0 4) (by decide) (Nat.le_refl _) (Nat.le_refl _) rfl rfl (Nat.le_of_ble_eq_true rfl) ?_
          rw [hk]
          refine mw_if_eq (tgt := 47) dX7_setKind_40 (by decide) (fun _ => ?_) (fun c9 => absurd c9 (by first | decide | (rw [pk_us]; decide)))
          refine mw_iconst (v := 2) dX7_setKind_47 (by decide) ?_
          refine gm_put dX7_setKind_48 fk_X7_44 (by decide) (gm_h0 _) ?_
          refine mw_aload_n (i := 0) dX7_setKind_51 rfl rfl ?_
          refine mw_get dX7_setKind_52 fk_X7_44 gm_0 rfl ?_
          refine mw_if_le (tgt := 60) dX7_setKind_55 (by decide) (fun c9 => absurd c9 (by first | decide | (rw [pk_us]; decide))) (fun _ => ?_)
          refine mw_iconst (v := 0) dX7_setKind_58 (by decide) ?_
          exact mw_ireturn dX7_setKind_59 ⟨_, rfl, rfl⟩ (rP_I hr rfl rfl rfl)
        · rw [if_neg (fun z => z.elim ht hk)]
          have ix := tix_ix (show j < 6 by omega) ht
          refine mw_iload_n (i := 2) dX7_setKind_27 rfl rfl ?_
          refine mw_callSr dX7_setKind_28 mk_X7_74 (c_T1 ht) (by decide) (Nat.le_refl _) (Nat.le_refl _) rfl rfl (Nat.le_of_ble_eq_true rfl) ?_
          refine mw_if_eq (tgt := 47) dX7_setKind_31 (by decide) (fun c9 => absurd c9 (by first | decide | (rw [pk_us]; decide))) (fun _ => ?_)
          refine mw_iload_n (i := 3) dX7_setKind_34 rfl rfl ?_
          refine mw_iconst (v := 0) dX7_setKind_35 (by decide) ?_
          refine mw_iconst (v := 4) dX7_setKind_36 (by decide) ?_
          refine mw_callSr dX7_setKind_37 mk_X7_51 (c_in k 0 4) (by decide) (Nat.le_refl _) (Nat.le_refl _) rfl rfl (Nat.le_of_ble_eq_true rfl) ?_
          refine mw_if_eq (tgt := 47) dX7_setKind_40 (by decide) (fun c9 => absurd c9 hk) (fun _ => ?_)
          refine mw_iconst (v := 0) dX7_setKind_43 (by decide) ?_
          refine mw_goto (tgt := 48) dX7_setKind_44 (by decide) ?_
          refine gm_put dX7_setKind_48 fk_X7_44 (by decide) (gm_h0 _) ?_
          refine mw_aload_n (i := 0) dX7_setKind_51 rfl rfl ?_
          refine mw_get dX7_setKind_52 fk_X7_44 gm_0 rfl ?_
          refine mw_if_le (tgt := 60) dX7_setKind_55 (by decide) (fun _ => ?_) (fun c9 => absurd c9 (by first | decide | (rw [pk_us]; decide)))
          refine mw_aload_n (i := 0) dX7_setKind_60 rfl rfl ?_
          refine mw_get dX7_setKind_61 fk_X7_7 gm_0 rfl ?_
          refine mw_bipush (v := 32) dX7_setKind_64 (by decide) ?_
          refine mw_iload_n (i := 1) dX7_setKind_66 rfl rfl ?_
          refine mw_imul dX7_setKind_67 ?_
          refine mw_iload_n (i := 2) dX7_setKind_68 rfl rfl ?_
          refine mw_iadd dX7_setKind_69 ?_
          refine mw_iald dX7_setKind_70 gm_1 ix ?_
          refine mw_istore_5 dX7_setKind_71 (by decide) ?_
          refine mw_aload_n (i := 0) dX7_setKind_73 rfl rfl ?_
          refine mw_get dX7_setKind_74 fk_X7_7 gm_0 rfl ?_
          refine mw_bipush (v := 32) dX7_setKind_77 (by decide) ?_
          refine mw_iload_n (i := 1) dX7_setKind_79 rfl rfl ?_
          refine mw_imul dX7_setKind_80 ?_
          refine mw_iload_n (i := 2) dX7_setKind_81 rfl rfl ?_
          refine mw_iadd dX7_setKind_82 ?_
          refine mw_iload_n (i := 3) dX7_setKind_83 rfl rfl ?_
          refine gm_st1 dX7_setKind_84 ix ?_
          refine mw_aload_n (i := 0) dX7_setKind_85 rfl rfl ?_
          refine mw_get dX7_setKind_86 fk_X7_13 gm_0 rfl ?_
          refine mw_bipush (v := 32) dX7_setKind_89 (by decide) ?_
          refine mw_iload_n (i := 1) dX7_setKind_91 rfl rfl ?_
          refine mw_imul dX7_setKind_92 ?_
          refine mw_iload_n (i := 2) dX7_setKind_93 rfl rfl ?_
          refine mw_iadd dX7_setKind_94 ?_
          refine mw_iload (i := 4) dX7_setKind_95 rfl ?_
          refine gm_st2 dX7_setKind_97 ix ?_
          refine mw_aload_n (i := 0) dX7_setKind_98 rfl rfl ?_
          refine mw_get dX7_setKind_99 fk_X7_16 gm_0 rfl ?_
          refine mw_bipush (v := 32) dX7_setKind_102 (by decide) ?_
          refine mw_iload_n (i := 1) dX7_setKind_104 rfl rfl ?_
          refine mw_imul dX7_setKind_105 ?_
          refine mw_iload_n (i := 2) dX7_setKind_106 rfl rfl ?_
          refine mw_iadd dX7_setKind_107 ?_
          refine mw_iconst (v := 0) dX7_setKind_108 (by decide) ?_
          refine gm_st3 dX7_setKind_109 ix ?_
          refine mw_iload (i := 5) dX7_setKind_110 rfl ?_
          refine mw_ireturn dX7_setKind_112 ⟨_, rfl, rfl⟩ ⟨?_, _, _, rfl, rfl, rR_K hr h6 (Nat.le_refl _) (wfK_upd (k := k) (o := o) hr.1.2.1 ht rfl rfl hp) (okK_upd hr.1.2.2.1 (k := k) (Or.inr (zIn04 hk)) rfl) hr.2.1 ?_ ?_ ?_ (fun j h1 h2 => ?_) rfl⟩
          · rw [hr.2.2.1]
          · rw [← hr.2.2.1]; rfl
          · rw [← hr.2.2.2.1]; rfl
          · rw [← hr.2.2.2.2.1]; rfl
          · rw [va_up_ne _ _ (by omega), va_up_ne _ _ (by omega), va_up_ne _ _ (by omega)]
    by_cases hk4 : k = 4
    · subst hk4
      cases ho : sS g o with
      | none =>
        rw [if_pos ⟨rfl, rfl⟩]
        refine mw_icmp_ne (tgt := 27) dX7_setKind_11 (by decide) (fun c9 => absurd c9 (fun z => z rfl)) (fun _ => ?_)
        refine mw_aload_n (i := 0) dX7_setKind_14 rfl rfl ?_
        refine mw_iload (i := 4) dX7_setKind_15 rfl ?_
        refine mw_callVr dX7_setKind_17 mk_X7_136 gm_0 rfl (c_S0 hr ho) (by decide) (Nat.le_refl _) (Nat.le_refl _) rfl rfl (Nat.le_of_ble_eq_true rfl) ?_
        refine mw_if_ne (tgt := 27) dX7_setKind_20 (by decide) (fun c9 => absurd c9 (by first | decide | (rw [pk_us]; decide))) (fun _ => ?_)
        refine mw_iconst (v := 1) dX7_setKind_23 (by decide) ?_
        refine mw_goto (tgt := 48) dX7_setKind_24 (by decide) ?_
        refine gm_put dX7_setKind_48 fk_X7_44 (by decide) (gm_h0 _) ?_
        refine mw_aload_n (i := 0) dX7_setKind_51 rfl rfl ?_
        refine mw_get dX7_setKind_52 fk_X7_44 gm_0 rfl ?_
        refine mw_if_le (tgt := 60) dX7_setKind_55 (by decide) (fun c9 => absurd c9 (by first | decide | (rw [pk_us]; decide))) (fun _ => ?_)
        refine mw_iconst (v := 0) dX7_setKind_58 (by decide) ?_
        exact mw_ireturn dX7_setKind_59 ⟨_, rfl, rfl⟩ (rP_I hr rfl rfl rfl)
      | some j2 =>
        obtain ⟨hj2, rfl⟩ := sS_in (rR_ns hr) ho
        rw [if_neg (fun z => absurd z.2 (by simp))]
        refine mw_icmp_ne (tgt := 27) dX7_setKind_11 (by decide) (fun c9 => absurd c9 (fun z => z rfl)) (fun _ => ?_)
        refine mw_aload_n (i := 0) dX7_setKind_14 rfl rfl ?_
        refine mw_iload (i := 4) dX7_setKind_15 rfl ?_
        refine mw_callVr dX7_setKind_17 mk_X7_136 gm_0 rfl (c_S1 hr ho) (by decide) (Nat.le_refl _) (Nat.le_refl _) rfl rfl (Nat.le_of_ble_eq_true rfl) ?_
        refine mw_if_ne (tgt := 27) dX7_setKind_20 (by decide) (fun _ => ?_) (fun c9 => absurd c9 (by first | decide | (rw [pk_us]; decide)))
        exact J (fun _ => ⟨j2, hj2, by omega, rfl⟩)
    · rw [if_neg (fun z => hk4 z.1)]
      refine mw_icmp_ne (tgt := 27) dX7_setKind_11 (by decide) (fun _ => ?_) (fun c9 => absurd c9 (fun z => hk4 z))
      exact J (fun z => absurd z hk4)
/-- how many are not set yet -/
def zc (f : Nat → Int32) : Nat := fa_cnt (fun j => decide (f j = 0)) 36
theorem cnt_upd {f : Nat → Int32} {i : Nat} {x : Int32} (hx : x ≠ 0) (h0 : f i = 0) : ∀ n, i < n → fa_cnt (fun j => decide (upd f i x j = 0)) n + 1 = fa_cnt (fun j => decide (f j = 0)) n
  | 0, h => absurd h (Nat.not_lt_zero _)
  | n + 1, h => by
    by_cases e : i = n
    · subst e
      rw [fa_cnt_no (by rw [pk_us]; exact decide_eq_false hx), fa_cnt_yes (decide_eq_true h0)]
      congr 1
      exact fa_cnt_cong (fun k hk => by rw [pk_un (by omega)])
    · have ih := cnt_upd hx h0 n (by omega)
      cases hf : decide (f n = 0) with
      | true =>
        rw [fa_cnt_yes (p := fun j => decide (f j = 0)) hf, fa_cnt_yes (by rw [pk_un (by omega)]; exact hf)]
        omega
      | false =>
        rw [fa_cnt_no (p := fun j => decide (f j = 0)) hf, fa_cnt_no (by rw [pk_un (by omega)]; exact hf)]
        exact ih
/-- what is noted is so -/
def sound (A : Nat → Nat → Int32) (q : Nat) (f : Nat → Int32) : Prop := ∀ j, j < 36 → f j ≠ 0 → Ds A q j
/-- one pass: before the pair (s, o) all is looked at; mo is whether something was noted -/
def pass (A : Nat → Nat → Int32) (ns q : Nat) (f0 : Nat → Int32) (s o : Nat) (f : Nat → Int32) (mo : Int32) : Prop := sound A q f ∧ ((mo = 0 ∧ f = f0 ∧ ∀ s' o', s' < ns → o' < ns → (s' < s ∨ s' = s ∧ o' < o) → 6 * s' + o' ≠ q → f0 (6 * s' + o') = 0 → ∀ t, 1 ≤ t → t ≤ 31 → rsn A f0 s' o' t = false) ∨ (mo = 1 ∧ zc f < zc f0))
theorem rsn_D {A : Nat → Nat → Int32} {q s o t : Nat} {f : Nat → Int32} (ho : o < 6) (h1 : 1 ≤ t) (h2 : t ≤ 31) (hq : 6 * s + o ≠ q) (hs : sound A q f) (ht : led A s o t = true → to2 A s o t < 36) (h : rsn A f s o t = true) : Ds A q (6 * s + o) := by
  unfold rsn at h
  rw [Bool.or_eq_true, Bool.and_eq_true, decide_eq_true_iff] at h
  rcases h with h | ⟨h, h3⟩
  · exact Ds_here ho h1 h2 hq h
  · exact Ds_next ho h1 h2 hq h (hs _ (ht h) h3)
theorem sound_upd {A : Nat → Nat → Int32} {q i : Nat} {f : Nat → Int32} {x : Int32} (h : sound A q f) (hi : Ds A q i) : sound A q (upd f i x) := by
  intro j hj6 hj
  by_cases e : j = i
  · rw [e]; exact hi
  · rw [pk_un e] at hj
    exact h j hj6 hj
section LC
variable {ns a b q : Nat} {f0 : Nat → Int32} {Po : mw_P}
theorem lp_ct (hw : wfK A ns) (hns : ns ≤ 6) (ha : a < ns) (hb : b < ns) (hq : q = 6 * a + b) {s o : Nat} (hs : s < ns) (ho : o < ns)
    (K : ∀ (f : Nat → Int32) (mo : Int32) (x7 : Option Value), pass A ns q f0 s (o + 1) f mo → mw_W mm_X7_conflict 5 0 0 172 [some (.ref M), some (.int (nI a)), some (.int (nI b)), some (.int mo), some (.int (nI s)), some (.int (nI o)), some (.int (if 6 * s + o = q then 1 else 0)), x7] [] (gm M h I (va_up A 11 f)) Po) :
    ∀ (n t : Nat) (f : Nat → Int32) (mo : Int32), t + n = 32 → 1 ≤ t → pass A ns q f0 s o f mo → (mo = 0 → 6 * s + o ≠ q → f0 (6 * s + o) = 0 → ∀ t', 1 ≤ t' → t' < t → rsn A f0 s o t' = false) →
    mw_W mm_X7_conflict 5 0 0 109 [some (.ref M), some (.int (nI a)), some (.int (nI b)), some (.int mo), some (.int (nI s)), some (.int (nI o)), some (.int (if 6 * s + o = q then 1 else 0)), some (.int (nI t))] [] (gm M h I (va_up A 11 f)) Po := by
  have hix := mw_ix (show 6 * nI s + nI o = nI (6 * s + o) by rw [show (6 : Int32) = nI 6 from rfl, pk_mul, nI_add]) (show 6 * s + o < 36 by omega) (by decide)
  -- the pair is done
  have hdone : ∀ (f : Nat → Int32) (mo : Int32), pass A ns q f0 s o f mo → (mo = 0 → 6 * s + o ≠ q → f0 (6 * s + o) = 0 → ∀ t', 1 ≤ t' → t' ≤ 31 → rsn A f0 s o t' = false) → pass A ns q f0 s (o + 1) f mo := by
    intro f mo hp hn
    obtain ⟨p1, p2⟩ := hp
    refine ⟨p1, ?_⟩
    rcases p2 with ⟨m1, m2, m3⟩ | p2
    · refine Or.inl ⟨m1, m2, fun s' o' hs' ho' hlt hne h0 t h1 h2 => ?_⟩
      by_cases z : s' = s ∧ o' = o
      · obtain ⟨rfl, rfl⟩ := z
        exact hn m1 hne h0 t h1 h2
      · exact m3 s' o' hs' ho' (by omega) hne h0 t h1 h2
    · exact Or.inr p2
  intro n
  induction n with
  | zero =>
    intro t f mo ht h1 hp hn
    have ht : t = 32 := ht
    subst ht
    refine mw_iload (i := 7) dX7_conflict_109 rfl ?_
    refine mw_bipush (v := 32) dX7_conflict_111 (by decide) ?_
    refine mw_icmp_ge (tgt := 172) dX7_conflict_113 (by decide) (fun _ => ?_) (fun c9 => absurd c9 (by first | decide | (rw [pk_us]; decide)))
    exact K f mo _ (hdone f mo hp (fun m1 hne h0 t' z1 z2 => hn m1 hne h0 t' z1 (by omega)))
  | succ n ih =>
    intro t f mo ht h1 hp hn
    refine mw_iload (i := 7) dX7_conflict_109 rfl ?_
    refine mw_bipush (v := 32) dX7_conflict_111 (by decide) ?_
    refine mw_icmp_ge (tgt := 172) dX7_conflict_113 (by decide) (fun c9 => absurd c9 (by rw [show (32 : Int32) = nI 32 from rfl]; exact nI_ge (by omega) (by omega))) (fun _ => ?_)
    refine mw_iload (i := 6) dX7_conflict_116 rfl ?_
    by_cases hqq : 6 * s + o = q
    · have K' := K
      rw [if_pos hqq] at K' ⊢
      refine mw_if_ne (tgt := 172) dX7_conflict_118 (by decide) (fun _ => ?_) (fun c9 => absurd c9 (fun z => absurd (show (1 : Int32) = 0 from z) (by decide)))
      exact K' f mo _ (hdone f mo hp (fun _ hne => absurd hqq hne))
    · have K' := K
      have ih' := ih
      rw [if_neg hqq] at K' ih' ⊢
      refine mw_if_ne (tgt := 172) dX7_conflict_118 (by decide) (fun c9 => absurd c9 (fun z => z rfl)) (fun _ => ?_)
      refine mw_aload_n (i := 0) dX7_conflict_121 rfl rfl ?_
      refine mw_get dX7_conflict_122 fk_X7_41 gm_0 rfl ?_
      refine mw_bipush (v := 6) dX7_conflict_125 (by decide) ?_
      refine mw_iload (i := 4) dX7_conflict_127 rfl ?_
      refine mw_imul dX7_conflict_129 ?_
      refine mw_iload (i := 5) dX7_conflict_130 rfl ?_
      refine mw_iadd dX7_conflict_132 ?_
      refine mw_zald dX7_conflict_133 gm_11 hix ?_
      by_cases h0 : f (6 * s + o) = 0
      · have hc := c_isReason (M := M) (h := h) (I := I) (A := va_up A 11 f) (ns := ns) (s := s) (o := o) (t := t) hw hns hs ho h1 (by omega)
        rw [va_up_self] at hc
        have hrs : rsn (va_up A 11 f) f s o t = rsn A f s o t := rfl
        rw [hrs] at hc
        refine mw_if_ne (tgt := 172) dX7_conflict_134 (by decide) (fun c9 => absurd c9 (fun z => z h0)) (fun _ => ?_)
        refine mw_aload_n (i := 0) dX7_conflict_137 rfl rfl ?_
        refine mw_iload (i := 4) dX7_conflict_138 rfl ?_
        refine mw_iload (i := 5) dX7_conflict_140 rfl ?_
        refine mw_iload (i := 7) dX7_conflict_142 rfl ?_
        refine mw_callVr dX7_conflict_144 mk_X7_146 gm_0 rfl (hc) (by decide) (Nat.le_refl _) (Nat.le_refl _) rfl rfl (Nat.le_of_ble_eq_true rfl) ?_
        cases hv : rsn A f s o t with
        | false =>
          refine mw_if_eq (tgt := 166) dX7_conflict_147 (by decide) (fun _ => ?_) (fun c9 => absurd c9 (fun z => z rfl))
          refine mw_iinc_7 dX7_conflict_166 (by decide) rfl ?_
          refine mw_goto (tgt := 109) dX7_conflict_169 (by decide) ?_
          rw [show nI t + Int32.ofInt 1 = nI (t + 1) from nI_1 t]
          refine ih' (t + 1) f mo (by omega) (by omega) hp (fun m1 hne h00 t' z1 z2 => ?_)
          rcases Nat.lt_or_ge t' t with z | z
          · exact hn m1 hne h00 t' z1 z
          · have hff : f = f0 := by
              rcases hp.2 with ⟨_, m2, _⟩ | ⟨m2, _⟩
              · exact m2
              · rw [m1] at m2; exact absurd m2 (by decide)
            rw [show t' = t by omega, ← hff]
            exact hv
        | true =>
          have hD := rsn_D (q := q) (show o < 6 by omega) h1 (by omega) hqq hp.1 (fun z => (to2_lt hw hns hs ho h1 (by omega) z).1) hv
          refine mw_if_eq (tgt := 166) dX7_conflict_147 (by decide) (fun c9 => absurd c9 (fun z => absurd (show (1 : Int32) = 0 from z) (by decide))) (fun _ => ?_)
          refine mw_aload_n (i := 0) dX7_conflict_150 rfl rfl ?_
          refine mw_get dX7_conflict_151 fk_X7_41 gm_0 rfl ?_
          refine mw_bipush (v := 6) dX7_conflict_154 (by decide) ?_
          refine mw_iload (i := 4) dX7_conflict_156 rfl ?_
          refine mw_imul dX7_conflict_158 ?_
          refine mw_iload (i := 5) dX7_conflict_159 rfl ?_
          refine mw_iadd dX7_conflict_161 ?_
          refine mw_iconst (v := 1) dX7_conflict_162 (by decide) ?_
          refine gm_st11 dX7_conflict_163 hix rfl ?_
          rw [va_up_self, bx_uu]
          refine mw_iconst (v := 1) dX7_conflict_164 (by decide) ?_
          refine mw_istore_3 dX7_conflict_165 (by decide) ?_
          refine mw_iinc_7 dX7_conflict_166 (by decide) rfl ?_
          refine mw_goto (tgt := 109) dX7_conflict_169 (by decide) ?_
          rw [show nI t + Int32.ofInt 1 = nI (t + 1) from nI_1 t]
          have hz := cnt_upd (f := f) (i := 6 * s + o) (x := 1) (by decide) h0 36 (by omega)
          refine ih' (t + 1) (upd f (6 * s + o) 1) 1 (by omega) (by omega) ⟨sound_upd hp.1 hD, Or.inr ⟨rfl, ?_⟩⟩ (fun z => absurd z (by decide))
          unfold zc
          rcases hp.2 with ⟨_, m2, _⟩ | ⟨_, m2⟩
          · rw [← m2]; omega
          · unfold zc at m2; omega
      · refine mw_if_ne (tgt := 172) dX7_conflict_134 (by decide) (fun _ => ?_) (fun c9 => absurd c9 (fun z => h0 z))
        exact K' f mo _ (hdone f mo hp (fun m1 _ h00 => by
          have hff : f = f0 := by
            rcases hp.2 with ⟨_, m2, _⟩ | ⟨m2, _⟩
            · exact m2
            · rw [m1] at m2; exact absurd m2 (by decide)
          rw [hff] at h0
          exact absurd h00 h0))
theorem lp_co (hw : wfK A ns) (hns : ns ≤ 6) (hI : I 1 = nI ns) (ha : a < ns) (hb : b < ns) (hq : q = 6 * a + b) {s : Nat} (hs : s < ns)
    (K : ∀ (f : Nat → Int32) (mo : Int32) (x5 x6 x7 : Option Value), pass A ns q f0 (s + 1) 0 f mo → mw_W mm_X7_conflict 5 0 0 178 [some (.ref M), some (.int (nI a)), some (.int (nI b)), some (.int mo), some (.int (nI s)), x5, x6, x7] [] (gm M h I (va_up A 11 f)) Po) :
    ∀ (n o : Nat) (f : Nat → Int32) (mo : Int32) (x6 x7 : Option Value), o + n = ns → pass A ns q f0 s o f mo →
    mw_W mm_X7_conflict 5 0 0 78 [some (.ref M), some (.int (nI a)), some (.int (nI b)), some (.int mo), some (.int (nI s)), some (.int (nI o)), x6, x7] [] (gm M h I (va_up A 11 f)) Po := by
  intro n
  induction n with
  | zero =>
    intro o f mo x6 x7 ho hp
    have ho : o = ns := ho
    subst ho
    refine mw_iload (i := 5) dX7_conflict_78 rfl ?_
    refine mw_aload_n (i := 0) dX7_conflict_80 rfl rfl ?_
    refine mw_get dX7_conflict_81 fk_X7_48 gm_0 rfl ?_
    rw [hI]
    refine mw_icmp_ge (tgt := 178) dX7_conflict_84 (by decide) (fun _ => ?_) (fun c9 => absurd c9 (fun z => z (Int32.le_refl _)))
    refine K f mo _ _ _ ⟨hp.1, ?_⟩
    rcases hp.2 with ⟨m1, m2, m3⟩ | m
    · exact Or.inl ⟨m1, m2, fun s' o' h1 h2 hlt => m3 s' o' h1 h2 (by omega)⟩
    · exact Or.inr m
  | succ n ih =>
    intro o f mo x6 x7 ho hp
    refine mw_iload (i := 5) dX7_conflict_78 rfl ?_
    refine mw_aload_n (i := 0) dX7_conflict_80 rfl rfl ?_
    refine mw_get dX7_conflict_81 fk_X7_48 gm_0 rfl ?_
    rw [hI]
    refine mw_icmp_ge (tgt := 178) dX7_conflict_84 (by decide) (fun c9 => absurd c9 (nI_ge (by omega) (by omega))) (fun _ => ?_)
    refine mw_iload (i := 4) dX7_conflict_87 rfl ?_
    refine mw_iload_n (i := 1) dX7_conflict_89 rfl rfl ?_
    have hJ : mw_W mm_X7_conflict 5 0 0 104 [some (.ref M), some (.int (nI a)), some (.int (nI b)), some (.int mo), some (.int (nI s)), some (.int (nI o)), x6, x7] [.int (if 6 * s + o = q then 1 else 0)] (gm M h I (va_up A 11 f)) Po := by
      refine mw_istore_6 dX7_conflict_104 (by decide) ?_
      refine mw_iconst (v := 1) dX7_conflict_106 (by decide) ?_
      refine mw_istore_7 dX7_conflict_107 (by decide) ?_
      refine lp_ct hw hns ha hb hq hs (show o < ns by omega) (fun f' mo' x7' hp' => ?_) 31 1 f mo rfl (Nat.le_refl _) hp (fun _ _ _ t' z1 z2 => by omega)
      refine mw_iinc_5 dX7_conflict_172 (by decide) rfl ?_
      refine mw_goto (tgt := 78) dX7_conflict_175 (by decide) ?_
      rw [show nI o + Int32.ofInt 1 = nI (o + 1) from nI_1 o]
      exact ih (o + 1) f' mo' _ _ (by omega) hp'
    by_cases e : s = a
    · refine mw_icmp_ne (tgt := 103) dX7_conflict_90 (by decide) (fun c9 => absurd c9 (fun z => z (by rw [e]))) (fun _ => ?_)
      refine mw_iload (i := 5) dX7_conflict_93 rfl ?_
      refine mw_iload_n (i := 2) dX7_conflict_95 rfl rfl ?_
      by_cases e2 : o = b
      · rw [if_pos (by omega)] at hJ
        refine mw_icmp_ne (tgt := 103) dX7_conflict_96 (by decide) (fun c9 => absurd c9 (fun z => z (by rw [e2]))) (fun _ => ?_)
        refine mw_iconst (v := 1) dX7_conflict_99 (by decide) ?_
        refine mw_goto (tgt := 104) dX7_conflict_100 (by decide) ?_
        exact hJ
      · rw [if_neg (by omega)] at hJ
        refine mw_icmp_ne (tgt := 103) dX7_conflict_96 (by decide) (fun _ => ?_) (fun c9 => absurd c9 (fun z => e2 (by rw [nI_eq (by omega) (by omega)] at z; exact z)))
        refine mw_iconst (v := 0) dX7_conflict_103 (by decide) ?_
        exact hJ
    · rw [if_neg (by omega)] at hJ
      refine mw_icmp_ne (tgt := 103) dX7_conflict_90 (by decide) (fun _ => ?_) (fun c9 => absurd c9 (fun z => e (by rw [nI_eq (by omega) (by omega)] at z; exact z)))
      refine mw_iconst (v := 0) dX7_conflict_103 (by decide) ?_
      exact hJ
theorem lp_cs (hw : wfK A ns) (hns : ns ≤ 6) (hI : I 1 = nI ns) (ha : a < ns) (hb : b < ns) (hq : q = 6 * a + b)
    (K : ∀ (f : Nat → Int32) (mo : Int32) (x4 x5 x6 x7 : Option Value), pass A ns q f0 ns 0 f mo → mw_W mm_X7_conflict 5 0 0 57 [some (.ref M), some (.int (nI a)), some (.int (nI b)), some (.int mo), x4, x5, x6, x7] [] (gm M h I (va_up A 11 f)) Po) :
    ∀ (n s : Nat) (f : Nat → Int32) (mo : Int32) (x5 x6 x7 : Option Value), s + n = ns → pass A ns q f0 s 0 f mo →
    mw_W mm_X7_conflict 5 0 0 66 [some (.ref M), some (.int (nI a)), some (.int (nI b)), some (.int mo), some (.int (nI s)), x5, x6, x7] [] (gm M h I (va_up A 11 f)) Po := by
  intro n
  induction n with
  | zero =>
    intro s f mo x5 x6 x7 hs hp
    have hs : s = ns := hs
    subst hs
    refine mw_iload (i := 4) dX7_conflict_66 rfl ?_
    refine mw_aload_n (i := 0) dX7_conflict_68 rfl rfl ?_
    refine mw_get dX7_conflict_69 fk_X7_48 gm_0 rfl ?_
    rw [hI]
    refine mw_icmp_ge (tgt := 184) dX7_conflict_72 (by decide) (fun _ => ?_) (fun c9 => absurd c9 (fun z => z (Int32.le_refl _)))
    refine mw_goto (tgt := 57) dX7_conflict_184 (by decide) ?_
    exact K f mo _ _ _ _ hp
  | succ n ih =>
    intro s f mo x5 x6 x7 hs hp
    refine mw_iload (i := 4) dX7_conflict_66 rfl ?_
    refine mw_aload_n (i := 0) dX7_conflict_68 rfl rfl ?_
    refine mw_get dX7_conflict_69 fk_X7_48 gm_0 rfl ?_
    rw [hI]
    refine mw_icmp_ge (tgt := 184) dX7_conflict_72 (by decide) (fun c9 => absurd c9 (nI_ge (by omega) (by omega))) (fun _ => ?_)
    refine mw_iconst (v := 0) dX7_conflict_75 (by decide) ?_
    refine mw_istore_5 dX7_conflict_76 (by decide) ?_
    refine lp_co hw hns hI ha hb hq (show s < ns by omega) (fun f' mo' x5' x6' x7' hp' => ?_) ns 0 f mo x6 x7 (by omega) hp
    refine mw_iinc_4 dX7_conflict_178 (by decide) rfl ?_
    refine mw_goto (tgt := 66) dX7_conflict_181 (by decide) ?_
    rw [show nI s + Int32.ofInt 1 = nI (s + 1) from nI_1 s]
    exact ih (s + 1) f' mo' _ _ _ (by omega) hp'
/-- nothing more is to note -/
def closed (A : Nat → Nat → Int32) (ns q : Nat) (f : Nat → Int32) : Prop := ∀ s o, s < ns → o < ns → 6 * s + o ≠ q → f (6 * s + o) = 0 → ∀ t, 1 ≤ t → t ≤ 31 → rsn A f s o t = false
theorem lp_cw (hw : wfK A ns) (hns : ns ≤ 6) (hI : I 1 = nI ns) (ha : a < ns) (hb : b < ns) (hq : q = 6 * a + b)
    (K : ∀ (f : Nat → Int32) (x4 x5 x6 x7 : Option Value), sound A q f → closed A ns q f → mw_W mm_X7_conflict 5 0 0 187 [some (.ref M), some (.int (nI a)), some (.int (nI b)), some (.int 0), x4, x5, x6, x7] [] (gm M h I (va_up A 11 f)) Po) :
    ∀ (n : Nat) (f : Nat → Int32) (x4 x5 x6 x7 : Option Value), zc f < n → sound A q f →
    mw_W mm_X7_conflict 5 0 0 57 [some (.ref M), some (.int (nI a)), some (.int (nI b)), some (.int 1), x4, x5, x6, x7] [] (gm M h I (va_up A 11 f)) Po := by
  intro n
  induction n with
  | zero => intro f _ _ _ _ hz; exact absurd hz (Nat.not_lt_zero _)
  | succ n ih =>
    intro f x4 x5 x6 x7 hz hs
    refine mw_iload_n (i := 3) dX7_conflict_57 rfl rfl ?_
    refine mw_if_eq (tgt := 187) dX7_conflict_58 (by decide) (fun c9 => absurd c9 (by first | decide | (rw [pk_us]; decide))) (fun _ => ?_)
    refine mw_iconst (v := 0) dX7_conflict_61 (by decide) ?_
    refine mw_istore_3 dX7_conflict_62 (by decide) ?_
    refine mw_iconst (v := 0) dX7_conflict_63 (by decide) ?_
    refine mw_istore_4 dX7_conflict_64 (by decide) ?_
    refine lp_cs (f0 := f) hw hns hI ha hb hq (fun f' mo' y4 y5 y6 y7 hp => ?_) ns 0 f 0 x5 x6 x7 (by omega) ⟨hs, Or.inl ⟨rfl, rfl, fun s' o' _ _ hlt => by omega⟩⟩
    rcases hp.2 with ⟨m1, m2, m3⟩ | ⟨m1, m2⟩
    · subst m1
      subst m2
      refine mw_iload_n (i := 3) dX7_conflict_57 rfl rfl ?_
      refine mw_if_eq (tgt := 187) dX7_conflict_58 (by decide) (fun _ => ?_) (fun c9 => absurd c9 (by first | decide | (rw [pk_us]; decide)))
      exact K f' y4 y5 y6 y7 hp.1 (fun s' o' h1 h2 hq' h0 t z1 z2 => m3 s' o' h1 h2 (Or.inl h1) hq' h0 t z1 z2)
    · subst m1
      exact ih f' y4 y5 y6 y7 (by omega) hp.1
/-- the row with the first k cleared -/
def fil0 (f : Nat → Int32) (k : Nat) : Nat → Int32 := fun j => if j < k then 0 else f j
theorem fil0_s (f : Nat → Int32) (k : Nat) : upd (fil0 f k) k 0 = fil0 f (k + 1) := by
  funext j
  show (if j = k then _ else if _ then _ else _) = if _ then _ else _
  by_cases e : j = k
  · rw [if_pos e, if_pos (by omega)]
  · rw [if_neg e]
    by_cases e2 : j < k
    · rw [if_pos e2, if_pos (by omega)]
    · rw [if_neg e2, if_neg (by omega)]
theorem lp_c0 {x1 x2 : Option Value} (K : mw_W mm_X7_conflict 5 0 0 55 [some (.ref M), x1, x2, some (.int (nI 36)), none, none, none, none] [] (gm M h I (va_up A 11 (fil0 (A 11) 36))) Po) : ∀ (n k : Nat), k + n = 36 →
    mw_W mm_X7_conflict 5 0 0 36 [some (.ref M), x1, x2, some (.int (nI k)), none, none, none, none] [] (gm M h I (va_up A 11 (fil0 (A 11) k))) Po := by
  intro n
  induction n with
  | zero =>
    intro k hk
    have hk : k = 36 := hk
    subst hk
    refine mw_iload_n (i := 3) dX7_conflict_36 rfl rfl ?_
    refine mw_bipush (v := 36) dX7_conflict_37 (by decide) ?_
    refine mw_icmp_ge (tgt := 55) dX7_conflict_39 (by decide) (fun _ => ?_) (fun c9 => absurd c9 (by first | decide | (rw [pk_us]; decide)))
    exact K
  | succ n ih =>
    intro k hk
    refine mw_iload_n (i := 3) dX7_conflict_36 rfl rfl ?_
    refine mw_bipush (v := 36) dX7_conflict_37 (by decide) ?_
    refine mw_icmp_ge (tgt := 55) dX7_conflict_39 (by decide) (fun c9 => absurd c9 (by rw [show (36 : Int32) = nI 36 from rfl]; exact nI_ge (by omega) (by omega))) (fun _ => ?_)
    refine mw_aload_n (i := 0) dX7_conflict_42 rfl rfl ?_
    refine mw_get dX7_conflict_43 fk_X7_41 gm_0 rfl ?_
    refine mw_iload_n (i := 3) dX7_conflict_46 rfl rfl ?_
    refine mw_iconst (v := 0) dX7_conflict_47 (by decide) ?_
    refine gm_st11 dX7_conflict_48 (mw_ix rfl (show k < 36 by omega) (by decide)) rfl ?_
    rw [va_up_self, bx_uu, show vp_nar .boolean 0 = 0 from rfl, fil0_s]
    refine mw_iinc_3 dX7_conflict_49 (by decide) rfl ?_
    refine mw_goto (tgt := 36) dX7_conflict_52 (by decide) ?_
    rw [show nI k + Int32.ofInt 1 = nI (k + 1) from nI_1 k]
    exact ih (k + 1) (by omega)
theorem closed_D {f : Nat → Int32} (hw : wfK A ns) (hns : ns ≤ 6) (ha : a < ns) (hb : b < ns) (hq : q = 6 * a + b) (hs : sound A q f) (hc : closed A ns q f) {t : Nat} (h1 : 1 ≤ t) (h2 : t ≤ 31) : (rsn A f a b t = true ↔ rsnD A a b t) := by
  unfold rsn rsnD
  rw [Bool.or_eq_true, Bool.and_eq_true, decide_eq_true_iff, ← hq]
  constructor
  · rintro (z | ⟨z, z2⟩)
    · exact Or.inl z
    · exact Or.inr ⟨z, hs _ (to2_lt hw hns ha hb h1 h2 z).1 z2⟩
  · rintro (z | ⟨z, n, z2⟩)
    · exact Or.inl z
    · refine Or.inr ⟨z, fun h0 => ?_⟩
      obtain ⟨t1, t2, t3, t4⟩ := to2_lt hw hns ha hb h1 h2 z
      refine Ds_not (q := q) (C := fun j => j / 6 < ns ∧ j % 6 < ns ∧ f j = 0) ?_ n _ ⟨?_, ?_, h0⟩ z2
      · rintro j ⟨c1, c2, c3⟩ hj t' y1 y2
        have hj6 : 6 * (j / 6) + j % 6 = j := Nat.div_add_mod j 6
        have hr := hc (j / 6) (j % 6) c1 c2 (by omega) (by rw [hj6]; exact c3) t' y1 y2
        unfold rsn at hr
        rw [Bool.or_eq_false_iff] at hr
        refine ⟨hr.1, fun hl => ?_⟩
        have hr2 := hr.2
        rw [hl, Bool.true_and] at hr2
        obtain ⟨u1, u2, u3, u4⟩ := to2_lt hw hns c1 c2 y1 y2 hl
        have hr2 := of_decide_eq_false hr2
        refine ⟨?_, ?_, Decidable.not_not.mp hr2⟩
        · unfold to2; omega
        · unfold to2; omega
      · unfold to2; omega
      · unfold to2; omega
theorem lp_cf {f : Nat → Int32} {x3 x6 x7 : Option Value} (hw : wfK A ns) (hns : ns ≤ 6) (ha : a < ns) (hb : b < ns) (hq : q = 6 * a + b) (hs : sound A q f) (hc : closed A ns q f) {g : mS} {h0 : I 0 = 0} {Q : Int32 → Prop} (hQ : ∀ r, isConf A a b r → Q r) : ∀ (t : Nat) (r : Int32), t ≤ 31 → ((r = -1 ∧ ∀ t', t < t' → t' ≤ 31 → ¬ rsnD A a b t') ∨ (∃ t1, t < t1 ∧ t1 ≤ 31 ∧ r = nI t1 ∧ rsnD A a b t1 ∧ ∀ t', t < t' → t' < t1 → ¬ rsnD A a b t')) →
    mw_W mm_X7_conflict 5 0 0 194 [some (.ref M), some (.int (nI a)), some (.int (nI b)), x3, some (.int r), some (.int (nI t)), x6, x7] [] (gm M h I (va_up A 11 f)) (fun v h' => ∃ r, Q r ∧ v = .inl (some (.int r)) ∧ h' = gm M h I (va_up A 11 f)) := by
  intro t
  induction t with
  | zero =>
    intro r _ hr
    refine mw_iload (i := 5) dX7_conflict_194 rfl ?_
    refine mw_if_le (tgt := 225) dX7_conflict_196 (by decide) (fun _ => ?_) (fun c9 => absurd c9 (by first | decide | (rw [pk_us]; decide)))
    refine mw_iload (i := 4) dX7_conflict_225 rfl ?_
    refine mw_ireturn dX7_conflict_227 ⟨_, rfl, rfl⟩ ⟨r, hQ r ?_, rfl, rfl⟩
    rcases hr with ⟨r1, r2⟩ | ⟨t1, r1, r2, r3, r4, r5⟩
    · exact Or.inl ⟨r1, fun t z1 z2 => r2 t z1 z2⟩
    · exact Or.inr ⟨t1, r1, r2, r3, r4, fun t' z1 z2 => r5 t' z1 z2⟩
  | succ t ih =>
    intro r ht hr
    have hcr := c_isReason (M := M) (h := h) (I := I) (A := va_up A 11 f) (ns := ns) (s := a) (o := b) (t := t + 1) hw hns ha hb (by omega) (by omega)
    rw [va_up_self] at hcr
    have hrs : rsn (va_up A 11 f) f a b (t + 1) = rsn A f a b (t + 1) := rfl
    rw [hrs] at hcr
    have hD := closed_D hw hns ha hb hq hs hc (t := t + 1) (by omega) (by omega)
    have hm1 : nI (t + 1) + Int32.ofInt (-1) = nI t := by
      rw [← nI_1 t, Int32.add_assoc, show (1 : Int32) + Int32.ofInt (-1) = 0 from rfl, Int32.add_zero]
    refine mw_iload (i := 5) dX7_conflict_194 rfl ?_
    refine mw_if_le (tgt := 225) dX7_conflict_196 (by decide) (fun c9 => absurd c9 (show ¬ nI (t + 1) ≤ nI 0 from nI_ge (by omega) (by omega))) (fun _ => ?_)
    refine mw_aload_n (i := 0) dX7_conflict_199 rfl rfl ?_
    refine mw_iload_n (i := 1) dX7_conflict_200 rfl rfl ?_
    refine mw_iload_n (i := 2) dX7_conflict_201 rfl rfl ?_
    refine mw_iload (i := 5) dX7_conflict_202 rfl ?_
    refine mw_callVr dX7_conflict_204 mk_X7_146 gm_0 rfl (hcr) (by decide) (Nat.le_refl _) (Nat.le_refl _) rfl rfl (Nat.le_of_ble_eq_true rfl) ?_
    cases hv : rsn A f a b (t + 1) with
    | false =>
      have hn : ¬ rsnD A a b (t + 1) := fun z => by rw [hD.mpr z] at hv; exact absurd hv (by decide)
      refine mw_if_eq (tgt := 215) dX7_conflict_207 (by decide) (fun _ => ?_) (fun c9 => absurd c9 (fun z => z rfl))
      refine mw_iload (i := 4) dX7_conflict_215 rfl ?_
      refine mw_istore_4 dX7_conflict_217 (by decide) ?_
      refine mw_iinc_5 dX7_conflict_219 (by decide) rfl ?_
      refine mw_goto (tgt := 194) dX7_conflict_222 (by decide) ?_
      rw [hm1]
      refine ih r (by omega) ?_
      rcases hr with ⟨r1, r2⟩ | ⟨t1, r1, r2, r3, r4, r5⟩
      · refine Or.inl ⟨r1, fun t' z1 z2 => ?_⟩
        rcases Nat.lt_or_ge (t + 1) t' with y | y
        · exact r2 t' y z2
        · rw [show t' = t + 1 by omega]; exact hn
      · refine Or.inr ⟨t1, by omega, r2, r3, r4, fun t' z1 z2 => ?_⟩
        rcases Nat.lt_or_ge (t + 1) t' with y | y
        · exact r5 t' y z2
        · rw [show t' = t + 1 by omega]; exact hn
    | true =>
      refine mw_if_eq (tgt := 215) dX7_conflict_207 (by decide) (fun c9 => absurd c9 (fun z => absurd (show (1 : Int32) = 0 from z) (by decide))) (fun _ => ?_)
      refine mw_iload (i := 5) dX7_conflict_210 rfl ?_
      refine mw_goto (tgt := 217) dX7_conflict_212 (by decide) ?_
      refine mw_istore_4 dX7_conflict_217 (by decide) ?_
      refine mw_iinc_5 dX7_conflict_219 (by decide) rfl ?_
      refine mw_goto (tgt := 194) dX7_conflict_222 (by decide) ?_
      rw [hm1]
      exact ih (nI (t + 1)) (by omega) (Or.inr ⟨t + 1, Nat.lt_succ_self _, by omega, rfl, hD.mp hv, fun t' z1 z2 => by omega⟩)
theorem isConf_cong {A K : Nat → Nat → Int32} (h1 : A 1 = K 1) (h2 : A 2 = K 2) {r : Int32} (h : isConf A a b r) : isConf K a b r := by
  have hd : dif A = dif K := by
    funext s o t
    unfold dif
    rw [zKind_cong h1, zKind_cong h1]
  have hl : led A = led K := by
    funext s o t
    unfold led
    rw [zKind_cong h1, zKind_cong h1]
  have ht : to2 A = to2 K := by
    funext s o t
    unfold to2 pn
    rw [h2]
  have hn : ∀ q n j, dn A q n j ↔ dn K q n j := by
    intro q n
    induction n with
    | zero => exact fun j => Iff.rfl
    | succ n ih =>
      intro j
      show (j ≠ q ∧ ∃ t, _) ↔ (j ≠ q ∧ ∃ t, _)
      simp only [hd, hl, ht, ih]
  have hDs : ∀ q j, Ds A q j ↔ Ds K q j := fun q j => exists_congr (fun n => hn q n j)
  have hr : ∀ t, rsnD A a b t ↔ rsnD K a b t := by
    intro t
    unfold rsnD
    rw [hd, hl, ht, hDs]
  unfold isConf at h ⊢
  simp only [hr] at h
  exact h
theorem wfK_cong {A K : Nat → Nat → Int32} (h1 : A 1 = K 1) (h2 : A 2 = K 2) (h : wfK K ns) : wfK A ns := by
  intro s t hs z1 z2 h4
  rw [zKind_cong h1] at h4
  have := h s t hs z1 z2 h4
  unfold pn at this ⊢
  rw [h2]
  exact this
end LC
theorem r_conflict (hr : rR g I A) (s o : Int32) : mw_Con mm_X7_conflict 5 0 0 [.ref M, .int s, .int o] (gm M h I A) (fun v h' => ∃ a, sp_conflict g s o a ∧ rP M h a v h') := by
  refine gm_con pl_X7 rfl rfl (Nat.le_of_ble_eq_true rfl) rfl ?_
  unfold sp_conflict
  have h6 := rR_ns hr
  cases hs : sS g s with
  | none =>
    refine mw_aload_n (i := 0) dX7_conflict_0 rfl rfl ?_
    refine mw_aload_n (i := 0) dX7_conflict_1 rfl rfl ?_
    refine mw_iload_n (i := 1) dX7_conflict_2 rfl rfl ?_
    refine mw_callVr dX7_conflict_3 mk_X7_136 gm_0 rfl (c_S0 hr hs) (by decide) (Nat.le_refl _) (Nat.le_refl _) rfl rfl (Nat.le_of_ble_eq_true rfl) ?_
    refine mw_if_eq (tgt := 21) dX7_conflict_6 (by decide) (fun _ => ?_) (fun c9 => absurd c9 (by first | decide | (rw [pk_us]; decide)))
    refine mw_iconst (v := 1) dX7_conflict_21 (by decide) ?_
    refine gm_put dX7_conflict_22 fk_X7_44 (by decide) (gm_h0 _) ?_
    refine mw_aload_n (i := 0) dX7_conflict_25 rfl rfl ?_
    refine mw_get dX7_conflict_26 fk_X7_44 gm_0 rfl ?_
    refine mw_if_le (tgt := 34) dX7_conflict_29 (by decide) (fun c9 => absurd c9 (by first | decide | (rw [pk_us]; decide))) (fun _ => ?_)
    refine mw_iconst (v := 0) dX7_conflict_32 (by decide) ?_
    exact mw_ireturn dX7_conflict_33 ⟨_, rfl, rfl⟩ ⟨_, rfl, rP_I hr rfl rfl rfl⟩
  | some a =>
    cases ho : sS g o with
    | none =>
      refine mw_aload_n (i := 0) dX7_conflict_0 rfl rfl ?_
      refine mw_aload_n (i := 0) dX7_conflict_1 rfl rfl ?_
      refine mw_iload_n (i := 1) dX7_conflict_2 rfl rfl ?_
      refine mw_callVr dX7_conflict_3 mk_X7_136 gm_0 rfl (c_S1 hr hs) (by decide) (Nat.le_refl _) (Nat.le_refl _) rfl rfl (Nat.le_of_ble_eq_true rfl) ?_
      refine mw_if_eq (tgt := 21) dX7_conflict_6 (by decide) (fun c9 => absurd c9 (by first | decide | (rw [pk_us]; decide))) (fun _ => ?_)
      refine mw_aload_n (i := 0) dX7_conflict_9 rfl rfl ?_
      refine mw_iload_n (i := 2) dX7_conflict_10 rfl rfl ?_
      refine mw_callVr dX7_conflict_11 mk_X7_136 gm_0 rfl (c_S0 hr ho) (by decide) (Nat.le_refl _) (Nat.le_refl _) rfl rfl (Nat.le_of_ble_eq_true rfl) ?_
      refine mw_if_eq (tgt := 21) dX7_conflict_14 (by decide) (fun _ => ?_) (fun c9 => absurd c9 (by first | decide | (rw [pk_us]; decide)))
      refine mw_iconst (v := 1) dX7_conflict_21 (by decide) ?_
      refine gm_put dX7_conflict_22 fk_X7_44 (by decide) (gm_h0 _) ?_
      refine mw_aload_n (i := 0) dX7_conflict_25 rfl rfl ?_
      refine mw_get dX7_conflict_26 fk_X7_44 gm_0 rfl ?_
      refine mw_if_le (tgt := 34) dX7_conflict_29 (by decide) (fun c9 => absurd c9 (by first | decide | (rw [pk_us]; decide))) (fun _ => ?_)
      refine mw_iconst (v := 0) dX7_conflict_32 (by decide) ?_
      exact mw_ireturn dX7_conflict_33 ⟨_, rfl, rfl⟩ ⟨_, rfl, rP_I hr rfl rfl rfl⟩
    | some b =>
      obtain ⟨ha, rfl⟩ := sS_in (rR_ns hr) hs
      obtain ⟨hb, rfl⟩ := sS_in (rR_ns hr) ho
      dsimp only
      have hw := wfK_cong hr.2.2.1 hr.2.2.2.1 hr.1.2.1
      refine mw_aload_n (i := 0) dX7_conflict_0 rfl rfl ?_
      refine mw_aload_n (i := 0) dX7_conflict_1 rfl rfl ?_
      refine mw_iload_n (i := 1) dX7_conflict_2 rfl rfl ?_
      refine mw_callVr dX7_conflict_3 mk_X7_136 gm_0 rfl (c_S1 hr hs) (by decide) (Nat.le_refl _) (Nat.le_refl _) rfl rfl (Nat.le_of_ble_eq_true rfl) ?_
      refine mw_if_eq (tgt := 21) dX7_conflict_6 (by decide) (fun c9 => absurd c9 (by first | decide | (rw [pk_us]; decide))) (fun _ => ?_)
      refine mw_aload_n (i := 0) dX7_conflict_9 rfl rfl ?_
      refine mw_iload_n (i := 2) dX7_conflict_10 rfl rfl ?_
      refine mw_callVr dX7_conflict_11 mk_X7_136 gm_0 rfl (c_S1 hr ho) (by decide) (Nat.le_refl _) (Nat.le_refl _) rfl rfl (Nat.le_of_ble_eq_true rfl) ?_
      refine mw_if_eq (tgt := 21) dX7_conflict_14 (by decide) (fun c9 => absurd c9 (by first | decide | (rw [pk_us]; decide))) (fun _ => ?_)
      refine mw_iconst (v := 0) dX7_conflict_17 (by decide) ?_
      refine mw_goto (tgt := 22) dX7_conflict_18 (by decide) ?_
      refine gm_put dX7_conflict_22 fk_X7_44 (by decide) (gm_h0 _) ?_
      refine mw_aload_n (i := 0) dX7_conflict_25 rfl rfl ?_
      refine mw_get dX7_conflict_26 fk_X7_44 gm_0 rfl ?_
      refine mw_if_le (tgt := 34) dX7_conflict_29 (by decide) (fun _ => ?_) (fun c9 => absurd c9 (by first | decide | (rw [pk_us]; decide)))
      refine mw_iconst (v := 0) dX7_conflict_34 (by decide) ?_
      refine mw_istore_3 dX7_conflict_35 (by decide) ?_
      have h9 := lp_c0 (M := M) (h := h) (I := upd I 0 0) (A := A) (x1 := some (.int (nI a))) (x2 := some (.int (nI b))) (Po := (fun v h' => ∃ a1 : mA, (a1.1 = 0 ∧ isConf g.2.1 a b a1.2.1 ∧ a1.2.2 = g) ∧ rP M h a1 v h')) ?_ 36 0 rfl
      · rw [show fil0 (A 11) 0 = A 11 from funext (fun j => if_neg (Nat.not_lt_zero j)), up_same] at h9
        exact h9
      · refine mw_iconst (v := 1) dX7_conflict_55 (by decide) ?_
        refine mw_istore_3 dX7_conflict_56 (by decide) ?_
        refine lp_cw (M := M) (h := h) (I := upd I 0 0) (A := A) hw h6 (show (upd I 0 0) 1 = nI g.1 from hr.2.1) ha hb rfl (fun f x4 x5 x6 x7 hsd hcl => ?_) 37 _ _ _ _ _ (Nat.lt_succ_of_le (fa_cnt_le _ 36)) (fun j hj hn => absurd (if_pos hj) hn)
        refine mw_iconst (v := -1) dX7_conflict_187 (by decide) ?_
        refine mw_istore_4 dX7_conflict_188 (by decide) ?_
        refine mw_bipush (v := 31) dX7_conflict_190 (by decide) ?_
        refine mw_istore_5 dX7_conflict_192 (by decide) ?_
        refine mw_post (fun v h' z => ?_) (lp_cf (Q := isConf A a b) (g := g) (h0 := pk_us) hw h6 ha hb rfl hsd hcl (fun r hr => hr) 31 (-1) (Nat.le_refl _) (Or.inl ⟨rfl, fun t' z1 z2 => by omega⟩))
        obtain ⟨r, z1, z2, z3⟩ := z
        exact ⟨(0, r, g), ⟨rfl, isConf_cong hr.2.2.1 hr.2.2.2.1 z1, rfl⟩, z2, _, _, z3, rfl, rR_scr hr (fun j _ h8 => va_up_ne _ _ (by omega)) rfl rfl⟩
end P2
