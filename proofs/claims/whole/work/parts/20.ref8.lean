/-! the reference's rows: what is written becomes a message; what is put aside -/
/-- the row X lies in f from 0 on -/
def holds (f : Nat → Int32) (X : List Nat) : Prop := ∀ j, j < X.length → f j = nI (X.getD j 0)
theorem take_one {X : List Nat} {k : Nat} (hk : k < X.length) : X.take k ++ [X.getD k 0] = X.take (k + 1) := by
  rw [List.take_succ, List.getD_eq_getElem?_getD, List.getElem?_eq_getElem hk]
  rfl
theorem wr_take {f : Nat → Int32} {w : Nat} {X : List Nat} {k : Nat} (hk : k < X.length) : upd (wr f w (X.take k)) (w + k) (nI (X.getD k 0)) = wr f w (X.take (k + 1)) := by
  rw [← take_one hk, ← wr_app, wr_one, List.length_take, Nat.min_eq_left (by omega)]
theorem holds_wr {f : Nat → Int32} {X : List Nat} : holds (wr f 0 X) X := by
  intro j hj
  show (if 0 ≤ j ∧ j < 0 + X.length then nI (X.getD (j - 0) 0) else f j) = _
  rw [if_pos (by omega), Nat.sub_zero]
theorem getD_mem {X : List Nat} {k : Nat} (hk : k < X.length) : X.getD k 0 ∈ X := by
  rw [List.getD_eq_getElem?_getD, List.getElem?_eq_getElem hk]
  exact List.getElem_mem hk
theorem eq_getD {X Y : List Nat} (hl : X.length = Y.length) (h : ∀ k, k < X.length → X.getD k 0 = Y.getD k 0) : X = Y := by
  apply List.ext_getElem hl
  intro k h1 h2
  have h3 := h k h1
  rw [List.getD_eq_getElem?_getD, List.getD_eq_getElem?_getD, List.getElem?_eq_getElem h1, List.getElem?_eq_getElem h2] at h3
  exact h3
/-- X becomes the message m -/
def aB (A : Nat → Nat → Int32) (m : Nat) (X : List Nat) : Nat → Nat → Int32 := va_up (va_up A 7 (wr (A 7) (120 * m) X)) 6 (upd (A 6) m (nI X.length))
section R8
variable {M m s : Nat} {h : mw_H} {I : Nat → Int32} {A : Nat → Nat → Int32} {X Y : List Nat}
theorem lp_bec (hm : m < 12) (hX : holds (A 9) X) (h18 : I 18 = nI X.length) (hl : X.length ≤ 120) : ∀ (n k : Nat), k + n = X.length →
    mw_W mm_X7_becomes 0 0 0 2 [some (.ref M), some (.int (nI m)), some (.int (nI k))] [] (gm M h I (va_up A 7 (wr (A 7) (120 * m) (X.take k)))) (mw_void (gm M h I (aB A m X))) := by
  intro n
  induction n with
  | zero =>
    intro k hk
    have hk : k = X.length := hk
    subst hk
    rw [List.take_length]
    refine mw_iload_n (i := 2) dX7_becomes_2 rfl rfl ?_
    refine mw_aload_n (i := 0) dX7_becomes_3 rfl rfl ?_
    refine mw_get dX7_becomes_4 fk_X7_84 gm_0 rfl ?_
    refine mw_icmp_ge (tgt := 33) dX7_becomes_7 (by decide) (fun c_7 => ?_) (fun c_7 => ?_)
    · refine mw_aload_n (i := 0) dX7_becomes_33 rfl rfl ?_
      refine mw_get dX7_becomes_34 fk_X7_26 gm_0 rfl ?_
      refine mw_iload_n (i := 1) dX7_becomes_37 rfl rfl ?_
      refine mw_aload_n (i := 0) dX7_becomes_38 rfl rfl ?_
      refine mw_get dX7_becomes_39 fk_X7_84 gm_0 rfl ?_
      refine mw_top (v := nI X.length) h18 ?_
      refine gm_st6 dX7_becomes_42 (mw_ix rfl hm (by decide)) ?_
      exact mw_return dX7_becomes_43 rfl ⟨rfl, rfl⟩
    · exact absurd (by rw [h18]; exact Int32.le_refl _) c_7
  | succ n ih =>
    intro k hk
    refine mw_iload_n (i := 2) dX7_becomes_2 rfl rfl ?_
    refine mw_aload_n (i := 0) dX7_becomes_3 rfl rfl ?_
    refine mw_get dX7_becomes_4 fk_X7_84 gm_0 rfl ?_
    refine mw_icmp_ge (tgt := 33) dX7_becomes_7 (by decide) (fun c_7 => ?_) (fun c_7 => ?_)
    · exact absurd c_7 (by rw [h18]; exact nI_ge (by omega) (by omega))
    · refine mw_aload_n (i := 0) dX7_becomes_10 rfl rfl ?_
      refine mw_get dX7_becomes_11 fk_X7_29 gm_0 rfl ?_
      refine mw_bipush (v := 120) dX7_becomes_14 (by decide) ?_
      refine mw_iload_n (i := 1) dX7_becomes_16 rfl rfl ?_
      refine mw_imul dX7_becomes_17 ?_
      refine mw_iload_n (i := 2) dX7_becomes_18 rfl rfl ?_
      refine mw_iadd dX7_becomes_19 ?_
      refine mw_aload_n (i := 0) dX7_becomes_20 rfl rfl ?_
      refine mw_get dX7_becomes_21 fk_X7_35 gm_0 rfl ?_
      refine mw_iload_n (i := 2) dX7_becomes_24 rfl rfl ?_
      refine mw_iald dX7_becomes_25 gm_9 (mw_ix rfl (show k < 300 by omega) (by decide)) ?_
      refine mw_top (v := nI (X.getD k 0)) (hX k (by omega)) ?_
      refine gm_st7 dX7_becomes_26 (mw_ix (mx_120 m k) (show 120 * m + k < 1440 by omega) (by decide)) ?_
      rw [va_up_self, bx_uu, wr_take (by omega)]
      refine mw_iinc_2 dX7_becomes_27 (by decide) rfl ?_
      refine mw_goto (tgt := 2) dX7_becomes_30 (by decide) ?_
      rw [show nI k + Int32.ofInt 1 = nI (k + 1) from nI_1 k]
      exact ih (k + 1) (by omega)
theorem c_becomes (hm : m < 12) (hX : holds (A 9) X) (h18 : I 18 = nI X.length) (hl : X.length ≤ 120) : mw_Con mm_X7_becomes 0 0 0 [.ref M, .int (nI m)] (gm M h I A) (mw_void (gm M h I (aB A m X))) := by
  refine gm_con pl_X7 rfl rfl (Nat.le_of_ble_eq_true rfl) rfl ?_
  refine mw_iconst (v := 0) dX7_becomes_0 (by decide) ?_
  refine mw_istore_2 dX7_becomes_1 (by decide) ?_
  have h9 := lp_bec (M := M) (h := h) hm hX h18 hl X.length 0 (by omega)
  rw [List.take_zero, wr_nil, up_same] at h9
  exact h9
theorem lp_pa (hX : holds (A 9) X) (h18 : I 18 = nI X.length) (hl : X.length ≤ 300) : ∀ (n k : Nat), k + n = X.length →
    mw_W mm_X7_putsAside 0 0 0 2 [some (.ref M), some (.int (nI k))] [] (gm M h I (va_up A 10 (wr (A 10) 0 (X.take k)))) (mw_void (gm M h (upd I 20 (nI X.length)) (va_up A 10 (wr (A 10) 0 X)))) := by
  intro n
  induction n with
  | zero =>
    intro k hk
    have hk : k = X.length := hk
    subst hk
    rw [List.take_length]
    refine mw_iload_n (i := 1) dX7_putsAside_2 rfl rfl ?_
    refine mw_aload_n (i := 0) dX7_putsAside_3 rfl rfl ?_
    refine mw_get dX7_putsAside_4 fk_X7_84 gm_0 rfl ?_
    refine mw_icmp_ge (tgt := 28) dX7_putsAside_7 (by decide) (fun c_7 => ?_) (fun c_7 => ?_)
    · refine mw_aload_n (i := 0) dX7_putsAside_28 rfl rfl ?_
      refine mw_aload_n (i := 0) dX7_putsAside_29 rfl rfl ?_
      refine mw_get dX7_putsAside_30 fk_X7_84 gm_0 rfl ?_
      refine mw_top (v := nI X.length) h18 ?_
      refine gm_put dX7_putsAside_33 fk_X7_126 (by decide) (gm_h20 _) ?_
      exact mw_return dX7_putsAside_36 rfl ⟨rfl, rfl⟩
    · exact absurd (by rw [h18]; exact Int32.le_refl _) c_7
  | succ n ih =>
    intro k hk
    refine mw_iload_n (i := 1) dX7_putsAside_2 rfl rfl ?_
    refine mw_aload_n (i := 0) dX7_putsAside_3 rfl rfl ?_
    refine mw_get dX7_putsAside_4 fk_X7_84 gm_0 rfl ?_
    refine mw_icmp_ge (tgt := 28) dX7_putsAside_7 (by decide) (fun c_7 => ?_) (fun c_7 => ?_)
    · exact absurd c_7 (by rw [h18]; exact nI_ge (by omega) (by omega))
    · refine mw_aload_n (i := 0) dX7_putsAside_10 rfl rfl ?_
      refine mw_get dX7_putsAside_11 fk_X7_38 gm_0 rfl ?_
      refine mw_iload_n (i := 1) dX7_putsAside_14 rfl rfl ?_
      refine mw_aload_n (i := 0) dX7_putsAside_15 rfl rfl ?_
      refine mw_get dX7_putsAside_16 fk_X7_35 gm_0 rfl ?_
      refine mw_iload_n (i := 1) dX7_putsAside_19 rfl rfl ?_
      refine mw_iald dX7_putsAside_20 gm_9 (mw_ix rfl (show k < 300 by omega) (by decide)) ?_
      refine mw_top (v := nI (X.getD k 0)) (hX k (by omega)) ?_
      refine gm_st10 dX7_putsAside_21 (mw_ix (show nI k = nI (0 + k) by rw [Nat.zero_add]) (show 0 + k < 300 by omega) (by decide)) ?_
      rw [va_up_self, bx_uu, wr_take (by omega)]
      refine mw_iinc_1 dX7_putsAside_22 (by decide) rfl ?_
      refine mw_goto (tgt := 2) dX7_putsAside_25 (by decide) ?_
      rw [show nI k + Int32.ofInt 1 = nI (k + 1) from nI_1 k]
      exact ih (k + 1) (by omega)
theorem c_putsAside (hX : holds (A 9) X) (h18 : I 18 = nI X.length) (hl : X.length ≤ 300) : mw_Con mm_X7_putsAside 0 0 0 [.ref M] (gm M h I A) (mw_void (gm M h (upd I 20 (nI X.length)) (va_up A 10 (wr (A 10) 0 X)))) := by
  refine gm_con pl_X7 rfl rfl (Nat.le_of_ble_eq_true rfl) rfl ?_
  refine mw_iconst (v := 0) dX7_putsAside_0 (by decide) ?_
  refine mw_istore_1 dX7_putsAside_1 (by decide) ?_
  have h9 := lp_pa (M := M) (h := h) hX h18 hl X.length 0 (by omega)
  rw [List.take_zero, wr_nil, up_same] at h9
  exact h9
theorem lp_ia (hX : holds (A 9) X) (hY : holds (A 10) Y) (h18 : I 18 = nI X.length) (hl : X.length ≤ 300) (hx : ∀ z ∈ X, z < 256) (hy : ∀ z ∈ Y, z < 256) (hlY : Y.length = X.length) : ∀ (n k : Nat), k + n = X.length → (∀ j, j < k → X.getD j 0 = Y.getD j 0) →
    mw_W mm_X7_isAsAside 0 0 0 19 [some (.ref M), some (.int 1), some (.int (nI k))] [] (gm M h I A) (mw_ret (.int (if X = Y then 1 else 0)) (gm M h I A)) := by
  intro n
  induction n with
  | zero =>
    intro k hk hXY
    have hk : k = X.length := hk
    have e : X = Y := eq_getD hlY.symm (fun j hj => hXY j (by omega))
    rw [if_pos e]
    refine mw_iload_n (i := 2) dX7_isAsAside_19 rfl rfl ?_
    refine mw_aload_n (i := 0) dX7_isAsAside_20 rfl rfl ?_
    refine mw_get dX7_isAsAside_21 fk_X7_84 gm_0 rfl ?_
    refine mw_icmp_ge (tgt := 58) dX7_isAsAside_24 (by decide) (fun c_24 => ?_) (fun c_24 => ?_)
    · refine mw_iload_n (i := 1) dX7_isAsAside_58 rfl rfl ?_
      exact mw_ireturn dX7_isAsAside_59 ⟨_, rfl, rfl⟩ ⟨rfl, rfl⟩
    · exact absurd (by rw [h18, hk]; exact Int32.le_refl _) c_24
  | succ n ih =>
    intro k hk hXY
    refine mw_iload_n (i := 2) dX7_isAsAside_19 rfl rfl ?_
    refine mw_aload_n (i := 0) dX7_isAsAside_20 rfl rfl ?_
    refine mw_get dX7_isAsAside_21 fk_X7_84 gm_0 rfl ?_
    refine mw_icmp_ge (tgt := 58) dX7_isAsAside_24 (by decide) (fun c_24 => ?_) (fun c_24 => ?_)
    · exact absurd c_24 (by rw [h18]; exact nI_ge (by omega) (by omega))
    · refine mw_iload_n (i := 1) dX7_isAsAside_27 rfl rfl ?_
      refine mw_if_eq (tgt := 58) dX7_isAsAside_28 (by decide) (fun c_28 => ?_) (fun c_28 => ?_)
      · exact absurd c_28 (by decide)
      · have hxk := hx _ (getD_mem (X := X) (k := k) (by omega))
        have hyk := hy _ (getD_mem (X := Y) (k := k) (by omega))
        refine mw_aload_n (i := 0) dX7_isAsAside_31 rfl rfl ?_
        refine mw_get dX7_isAsAside_32 fk_X7_35 gm_0 rfl ?_
        refine mw_iload_n (i := 2) dX7_isAsAside_35 rfl rfl ?_
        refine mw_iald dX7_isAsAside_36 gm_9 (mw_ix rfl (show k < 300 by omega) (by decide)) ?_
        refine mw_top (v := nI (X.getD k 0)) (hX k (by omega)) ?_
        refine mw_aload_n (i := 0) dX7_isAsAside_37 rfl rfl ?_
        refine mw_get dX7_isAsAside_38 fk_X7_38 gm_0 rfl ?_
        refine mw_iload_n (i := 2) dX7_isAsAside_41 rfl rfl ?_
        refine mw_iald dX7_isAsAside_42 gm_10 (mw_ix rfl (show k < 300 by omega) (by decide)) ?_
        refine mw_top (v := nI (Y.getD k 0)) (hY k (by omega)) ?_
        refine mw_icmp_ne (tgt := 50) dX7_isAsAside_43 (by decide) (fun c_43 => ?_) (fun c_43 => ?_)
        · have e : X ≠ Y := fun e => c_43 (by rw [e])
          rw [if_neg e]
          refine mw_iconst (v := 0) dX7_isAsAside_50 (by decide) ?_
          refine mw_istore_1 dX7_isAsAside_51 (by decide) ?_
          refine mw_iinc_2 dX7_isAsAside_52 (by decide) rfl ?_
          refine mw_goto (tgt := 19) dX7_isAsAside_55 (by decide) ?_
          refine mw_iload_n (i := 2) dX7_isAsAside_19 rfl rfl ?_
          refine mw_aload_n (i := 0) dX7_isAsAside_20 rfl rfl ?_
          refine mw_get dX7_isAsAside_21 fk_X7_84 gm_0 rfl ?_
          refine mw_icmp_ge (tgt := 58) dX7_isAsAside_24 (by decide) (fun c_24b => ?_) (fun c_24b => ?_)
          · refine mw_iload_n (i := 1) dX7_isAsAside_58 rfl rfl ?_
            exact mw_ireturn dX7_isAsAside_59 ⟨_, rfl, rfl⟩ ⟨rfl, rfl⟩
          · refine mw_iload_n (i := 1) dX7_isAsAside_27 rfl rfl ?_
            refine mw_if_eq (tgt := 58) dX7_isAsAside_28 (by decide) (fun c_28b => ?_) (fun c_28b => ?_)
            · refine mw_iload_n (i := 1) dX7_isAsAside_58 rfl rfl ?_
              exact mw_ireturn dX7_isAsAside_59 ⟨_, rfl, rfl⟩ ⟨rfl, rfl⟩
            · exact absurd rfl c_28b
        · rw [nI_eq (by omega) (by omega)] at c_43
          refine mw_iconst (v := 1) dX7_isAsAside_46 (by decide) ?_
          refine mw_goto (tgt := 51) dX7_isAsAside_47 (by decide) ?_
          refine mw_istore_1 dX7_isAsAside_51 (by decide) ?_
          refine mw_iinc_2 dX7_isAsAside_52 (by decide) rfl ?_
          refine mw_goto (tgt := 19) dX7_isAsAside_55 (by decide) ?_
          rw [show nI k + Int32.ofInt 1 = nI (k + 1) from nI_1 k]
          refine ih (k + 1) (by omega) (fun j hj => ?_)
          rcases Nat.lt_or_ge j k with z | z
          · exact hXY j z
          · rw [show j = k by omega]; exact c_43
theorem c_isAsAside (hX : holds (A 9) X) (hY : holds (A 10) Y) (h18 : I 18 = nI X.length) (h20 : I 20 = nI Y.length) (hl : X.length ≤ 300) (hlY : Y.length ≤ 300) (hx : ∀ z ∈ X, z < 256) (hy : ∀ z ∈ Y, z < 256) :
    mw_Con mm_X7_isAsAside 0 0 0 [.ref M] (gm M h I A) (mw_ret (.int (if X = Y then 1 else 0)) (gm M h I A)) := by
  refine gm_con pl_X7 rfl rfl (Nat.le_of_ble_eq_true rfl) rfl ?_
  refine mw_aload_n (i := 0) dX7_isAsAside_0 rfl rfl ?_
  refine mw_get dX7_isAsAside_1 fk_X7_84 gm_0 rfl ?_
  refine mw_aload_n (i := 0) dX7_isAsAside_4 rfl rfl ?_
  refine mw_get dX7_isAsAside_5 fk_X7_126 gm_0 rfl ?_
  rw [h18, h20]
  refine mw_icmp_ne (tgt := 15) dX7_isAsAside_8 (by decide) (fun c_8 => ?_) (fun c_8 => ?_)
  · have e : X ≠ Y := fun e => c_8 (by rw [e])
    rw [if_neg e]
    refine mw_iconst (v := 0) dX7_isAsAside_15 (by decide) ?_
    refine mw_istore_1 dX7_isAsAside_16 (by decide) ?_
    refine mw_iconst (v := 0) dX7_isAsAside_17 (by decide) ?_
    refine mw_istore_2 dX7_isAsAside_18 (by decide) ?_
    refine mw_iload_n (i := 2) dX7_isAsAside_19 rfl rfl ?_
    refine mw_aload_n (i := 0) dX7_isAsAside_20 rfl rfl ?_
    refine mw_get dX7_isAsAside_21 fk_X7_84 gm_0 rfl ?_
    refine mw_icmp_ge (tgt := 58) dX7_isAsAside_24 (by decide) (fun c_24b => ?_) (fun c_24b => ?_)
    · refine mw_iload_n (i := 1) dX7_isAsAside_58 rfl rfl ?_
      exact mw_ireturn dX7_isAsAside_59 ⟨_, rfl, rfl⟩ ⟨rfl, rfl⟩
    · refine mw_iload_n (i := 1) dX7_isAsAside_27 rfl rfl ?_
      refine mw_if_eq (tgt := 58) dX7_isAsAside_28 (by decide) (fun c_28b => ?_) (fun c_28b => ?_)
      · refine mw_iload_n (i := 1) dX7_isAsAside_58 rfl rfl ?_
        exact mw_ireturn dX7_isAsAside_59 ⟨_, rfl, rfl⟩ ⟨rfl, rfl⟩
      · exact absurd rfl c_28b
  · rw [nI_eq (by omega) (by omega)] at c_8
    refine mw_iconst (v := 1) dX7_isAsAside_11 (by decide) ?_
    refine mw_goto (tgt := 16) dX7_isAsAside_12 (by decide) ?_
    refine mw_istore_1 dX7_isAsAside_16 (by decide) ?_
    refine mw_iconst (v := 0) dX7_isAsAside_17 (by decide) ?_
    refine mw_istore_2 dX7_isAsAside_18 (by decide) ?_
    exact lp_ia hX hY h18 hl hx hy c_8.symm X.length 0 (by omega) (fun j hj => absurd hj (Nat.not_lt_zero _))
/-- f is the first free place, 12 if there is none -/
def isFree (A : Nat → Nat → Int32) (f : Nat) : Prop := f ≤ 12 ∧ (∀ j, j < f → A 4 j ≠ 0) ∧ (f < 12 → A 4 f = 0)
theorem lp_fr {f : Nat} (hf : isFree A f) : ∀ (n k : Nat), k + n = f →
    mw_W mm_X7_free 0 0 0 2 [some (.ref M), some (.int (nI k))] [] (gm M h I A) (mw_ret (.int (nI f)) (gm M h I A)) := by
  obtain ⟨h1, h2, h3⟩ := hf
  intro n
  induction n with
  | zero =>
    intro k hk
    have hk : k = f := hk
    subst hk
    refine mw_iload_n (i := 1) dX7_free_2 rfl rfl ?_
    refine mw_bipush (v := 12) dX7_free_3 (by decide) ?_
    refine mw_icmp_ge (tgt := 23) dX7_free_5 (by decide) (fun c_5 => ?_) (fun c_5 => ?_)
    · refine mw_iload_n (i := 1) dX7_free_23 rfl rfl ?_
      exact mw_ireturn dX7_free_24 ⟨_, rfl, rfl⟩ ⟨rfl, rfl⟩
    · have h12 : k < 12 := by
        rcases Nat.lt_or_ge k 12 with z | z
        · exact z
        · exact absurd (nI_le z (by omega)) c_5
      refine mw_aload_n (i := 0) dX7_free_8 rfl rfl ?_
      refine mw_get dX7_free_9 fk_X7_19 gm_0 rfl ?_
      refine mw_iload_n (i := 1) dX7_free_12 rfl rfl ?_
      refine mw_zald dX7_free_13 gm_4 (mw_ix rfl h12 (by decide)) ?_
      refine mw_if_eq (tgt := 23) dX7_free_14 (by decide) (fun c_14 => ?_) (fun c_14 => ?_)
      · refine mw_iload_n (i := 1) dX7_free_23 rfl rfl ?_
        exact mw_ireturn dX7_free_24 ⟨_, rfl, rfl⟩ ⟨rfl, rfl⟩
      · exact absurd (h3 h12) c_14
  | succ n ih =>
    intro k hk
    refine mw_iload_n (i := 1) dX7_free_2 rfl rfl ?_
    refine mw_bipush (v := 12) dX7_free_3 (by decide) ?_
    refine mw_icmp_ge (tgt := 23) dX7_free_5 (by decide) (fun c_5 => ?_) (fun c_5 => ?_)
    · exact absurd c_5 (by rw [show (12 : Int32) = nI 12 from rfl]; exact nI_ge (by omega) (by omega))
    · refine mw_aload_n (i := 0) dX7_free_8 rfl rfl ?_
      refine mw_get dX7_free_9 fk_X7_19 gm_0 rfl ?_
      refine mw_iload_n (i := 1) dX7_free_12 rfl rfl ?_
      refine mw_zald dX7_free_13 gm_4 (mw_ix rfl (show k < 12 by omega) (by decide)) ?_
      refine mw_if_eq (tgt := 23) dX7_free_14 (by decide) (fun c_14 => ?_) (fun c_14 => ?_)
      · exact absurd c_14 (h2 k (by omega))
      · refine mw_iinc_1 dX7_free_17 (by decide) rfl ?_
        refine mw_goto (tgt := 2) dX7_free_20 (by decide) ?_
        rw [show nI k + Int32.ofInt 1 = nI (k + 1) from nI_1 k]
        exact ih (k + 1) (by omega)
theorem c_free {f : Nat} (hf : isFree A f) : mw_Con mm_X7_free 0 0 0 [.ref M] (gm M h I A) (mw_ret (.int (nI f)) (gm M h I A)) := by
  refine gm_con pl_X7 rfl rfl (Nat.le_of_ble_eq_true rfl) rfl ?_
  refine mw_iconst (v := 0) dX7_free_0 (by decide) ?_
  refine mw_istore_1 dX7_free_1 (by decide) ?_
  exact lp_fr hf f 0 (by omega)
theorem c_isFull {f : Nat} (hf : isFree A f) : mw_Con mm_X7_isFull 1 0 0 [.ref M] (gm M h I A) (mw_ret (.int (if f = 12 then 1 else 0)) (gm M h I A)) := by
  refine gm_con pl_X7 rfl rfl (Nat.le_of_ble_eq_true rfl) rfl ?_
  refine mw_aload_n (i := 0) dX7_isFull_0 rfl rfl ?_
  refine mw_callVr dX7_isFull_1 mk_X7_129 gm_0 rfl (c_free hf) (by decide) (Nat.le_refl _) (Nat.le_refl _) rfl rfl (Nat.le_of_ble_eq_true rfl) ?_
  refine mw_bipush (v := 12) dX7_isFull_4 (by decide) ?_
  refine mw_icmp_ne (tgt := 13) dX7_isFull_6 (by decide) (fun c_6 => ?_) (fun c_6 => ?_)
  · have e : f ≠ 12 := fun e => c_6 (by rw [e]; rfl)
    rw [if_neg e]
    refine mw_iconst (v := 0) dX7_isFull_13 (by decide) ?_
    exact mw_ireturn dX7_isFull_14 ⟨_, rfl, rfl⟩ ⟨rfl, rfl⟩
  · have e : f = 12 := by
      have z : nI f = nI 12 := c_6
      have := hf.1
      rw [nI_eq (by omega) (by omega)] at z
      exact z
    rw [if_pos e]
    refine mw_iconst (v := 1) dX7_isFull_9 (by decide) ?_
    refine mw_goto (tgt := 14) dX7_isFull_10 (by decide) ?_
    exact mw_ireturn dX7_isFull_14 ⟨_, rfl, rfl⟩ ⟨rfl, rfl⟩
/-- X becomes a new message f with the schema s -/
def aN (A : Nat → Nat → Int32) (f s : Nat) (X : List Nat) : Nat → Nat → Int32 := aB (va_up (va_up A 4 (upd (A 4) f 1)) 5 (upd (A 5) f (nI s))) f X
theorem c_makes {f : Nat} (hf : isFree A f) (hf2 : f < 12) (hX : holds (A 9) X) (h18 : I 18 = nI X.length) (hl : X.length ≤ 120) : mw_Con mm_X7_makes 1 0 0 [.ref M, .int (nI s)] (gm M h I A) (mw_ret (.int (nI f)) (gm M h I (aN A f s X))) := by
  refine gm_con pl_X7 rfl rfl (Nat.le_of_ble_eq_true rfl) rfl ?_
  refine mw_aload_n (i := 0) dX7_makes_0 rfl rfl ?_
  refine mw_callVr dX7_makes_1 mk_X7_129 gm_0 rfl (c_free hf) (by decide) (Nat.le_refl _) (Nat.le_refl _) rfl rfl (Nat.le_of_ble_eq_true rfl) ?_
  refine mw_istore_2 dX7_makes_4 (by decide) ?_
  refine mw_aload_n (i := 0) dX7_makes_5 rfl rfl ?_
  refine mw_get dX7_makes_6 fk_X7_19 gm_0 rfl ?_
  refine mw_iload_n (i := 2) dX7_makes_9 rfl rfl ?_
  refine mw_iconst (v := 1) dX7_makes_10 (by decide) ?_
  refine gm_st4 dX7_makes_11 (mw_ix rfl hf2 (by decide)) rfl ?_
  refine mw_aload_n (i := 0) dX7_makes_12 rfl rfl ?_
  refine mw_get dX7_makes_13 fk_X7_23 gm_0 rfl ?_
  refine mw_iload_n (i := 2) dX7_makes_16 rfl rfl ?_
  refine mw_iload_n (i := 1) dX7_makes_17 rfl rfl ?_
  refine gm_st5 dX7_makes_18 (mw_ix rfl hf2 (by decide)) ?_
  refine mw_aload_n (i := 0) dX7_makes_19 rfl rfl ?_
  refine mw_iload_n (i := 2) dX7_makes_20 rfl rfl ?_
  have hX' : holds ((va_up (va_up A 4 (upd (A 4) f 1)) 5 (upd ((va_up A 4 (upd (A 4) f 1)) 5) f (nI s))) 9) X := hX
  refine mw_callVv dX7_makes_21 mk_X7_133 gm_0 rfl (c_becomes hf2 hX' h18 hl) (by decide) (Nat.le_refl _) (Nat.le_refl _) rfl rfl (Nat.le_of_ble_eq_true rfl) ?_
  refine mw_iload_n (i := 2) dX7_makes_24 rfl rfl ?_
  exact mw_ireturn dX7_makes_25 ⟨_, rfl, rfl⟩ ⟨rfl, rfl⟩
theorem c_isWritten (hm : m < 12) (hX : holds (A 9) X) (h18 : I 18 = nI X.length) (hl : X.length ≤ 300) : mw_Con mm_X7_isWritten 1 0 0 [.ref M, .int (nI m)] (gm M h I A) (mw_void (if X.length ≤ 120 then gm M h (upd I 0 0) (aB A m X) else gm M h (upd I 0 3) A)) := by
  refine gm_con pl_X7 rfl rfl (Nat.le_of_ble_eq_true rfl) rfl ?_
  refine mw_aload_n (i := 0) dX7_isWritten_0 rfl rfl ?_
  refine mw_aload_n (i := 0) dX7_isWritten_1 rfl rfl ?_
  refine mw_get dX7_isWritten_2 fk_X7_84 gm_0 rfl ?_
  refine mw_bipush (v := 120) dX7_isWritten_5 (by decide) ?_
  rw [h18]
  refine mw_icmp_le (tgt := 14) dX7_isWritten_7 (by decide) (fun c_7 => ?_) (fun c_7 => ?_)
  · have e : X.length ≤ 120 := by
      have z : nI X.length ≤ nI 120 := c_7
      rw [nI_leI (by omega) (by omega)] at z
      exact z
    rw [if_pos e]
    refine mw_iconst (v := 0) dX7_isWritten_14 (by decide) ?_
    refine gm_put dX7_isWritten_15 fk_X7_44 (by decide) (gm_h0 _) ?_
    refine mw_aload_n (i := 0) dX7_isWritten_18 rfl rfl ?_
    refine mw_get dX7_isWritten_19 fk_X7_44 gm_0 rfl ?_
    refine mw_if_ne (tgt := 30) dX7_isWritten_22 (by decide) (fun c_22 => ?_) (fun c_22 => ?_)
    · exact absurd rfl c_22
    · refine mw_aload_n (i := 0) dX7_isWritten_25 rfl rfl ?_
      refine mw_iload_n (i := 1) dX7_isWritten_26 rfl rfl ?_
      refine mw_callVv dX7_isWritten_27 mk_X7_133 gm_0 rfl (c_becomes (I := upd I 0 0) hm hX h18 e) (by decide) (Nat.le_refl _) (Nat.le_refl _) rfl rfl (Nat.le_of_ble_eq_true rfl) ?_
      exact mw_return dX7_isWritten_30 rfl ⟨rfl, rfl⟩
  · have e : ¬ X.length ≤ 120 := fun z => c_7 (by rw [show (120 : Int32) = nI 120 from rfl, nI_leI (by omega) (by omega)]; exact z)
    rw [if_neg e]
    refine mw_iconst (v := 3) dX7_isWritten_10 (by decide) ?_
    refine mw_goto (tgt := 15) dX7_isWritten_11 (by decide) ?_
    refine gm_put dX7_isWritten_15 fk_X7_44 (by decide) (gm_h0 _) ?_
    refine mw_aload_n (i := 0) dX7_isWritten_18 rfl rfl ?_
    refine mw_get dX7_isWritten_19 fk_X7_44 gm_0 rfl ?_
    refine mw_if_ne (tgt := 30) dX7_isWritten_22 (by decide) (fun c_22 => ?_) (fun c_22 => ?_)
    · exact mw_return dX7_isWritten_30 rfl ⟨rfl, rfl⟩
    · exact absurd (show (3 : Int32) = 0 from c_22) (by decide)
end R8
