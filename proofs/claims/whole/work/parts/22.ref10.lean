/-! the reference's field of bytes -/
/-- X becomes the message m if it isn't too much -/
def zSet (M : Nat) (h : mw_H) (A : Nat → Nat → Int32) (I : Nat → Int32) (m : Nat) (X : List Nat) (v : Option Value ⊕ String) (h' : mw_H) : Prop := ∃ I' : Nat → Int32, h' = gm M h I' (if X.length ≤ 120 then aB (va_up A 9 (wr (A 9) 0 X)) m X else va_up A 9 (wr (A 9) 0 X)) ∧ (∀ k, ((1 ≤ k ∧ k < 11) ∨ 20 < k) → I' k = I k) ∧ I' 0 = (if X.length ≤ 120 then 0 else 3)
section R10
variable {M m s : Nat} {h : mw_H} {I : Nat → Int32} {A : Nat → Nat → Int32} {X Y : List Nat}
theorem lp_sb {g : Nat → Int32} {w t : Nat} (hY : holds (A 10) Y) (h20 : I 20 = nI Y.length) (hw : w + (ef (t, 2, Y.length, Y)).length ≤ 300) {Po : mw_P} (x2 : Option Value)
    (K : mw_W mm_X7_setsBytes 5 0 0 42 [some (.ref M), some (.int (nI m)), x2, some (.int (nI Y.length))] [] (gm M h (upd I 18 (nI (w + (ef (t, 2, Y.length, Y)).length))) (va_up A 9 (wr g w (ef (t, 2, Y.length, Y))))) Po) : ∀ (n k : Nat), k + n = Y.length →
    mw_W mm_X7_setsBytes 5 0 0 18 [some (.ref M), some (.int (nI m)), x2, some (.int (nI k))] [] (gm M h (upd I 18 (nI (w + (enum t 2 Y.length ++ Y.take k).length))) (va_up A 9 (wr g w (enum t 2 Y.length ++ Y.take k)))) Po := by
  have hlY : (ef (t, 2, Y.length, Y)).length = (enum t 2 Y.length).length + Y.length := by rw [ef_split, List.length_append]
  rw [hlY] at hw
  intro n
  induction n with
  | zero =>
    intro k hk
    have hk : k = Y.length := hk
    subst hk
    rw [List.take_length]
    have g20 : (upd I 18 (nI (w + (enum t 2 Y.length ++ Y).length))) 20 = nI Y.length := h20
    refine mw_iload_n (i := 3) dX7_setsBytes_18 rfl rfl ?_
    refine mw_aload_n (i := 0) dX7_setsBytes_19 rfl rfl ?_
    refine mw_get dX7_setsBytes_20 fk_X7_126 gm_0 rfl ?_
    rw [g20]
    refine mw_icmp_ge (tgt := 42) dX7_setsBytes_23 (by decide) (fun c_23 => ?_) (fun c_23 => ?_)
    · exact K
    · exact absurd (Int32.le_refl _) c_23
  | succ n ih =>
    intro k hk
    have hih := ih (k + 1) (by omega)
    have hlen : (enum t 2 Y.length ++ Y.take k).length = (enum t 2 Y.length).length + k := by rw [List.length_append, List.length_take]; omega
    have g20 : (upd I 18 (nI (w + (enum t 2 Y.length ++ Y.take k).length))) 20 = nI Y.length := h20
    refine mw_iload_n (i := 3) dX7_setsBytes_18 rfl rfl ?_
    refine mw_aload_n (i := 0) dX7_setsBytes_19 rfl rfl ?_
    refine mw_get dX7_setsBytes_20 fk_X7_126 gm_0 rfl ?_
    rw [g20]
    refine mw_icmp_ge (tgt := 42) dX7_setsBytes_23 (by decide) (fun c_23 => ?_) (fun c_23 => ?_)
    · exact absurd c_23 (nI_ge (by omega) (by omega))
    · refine mw_aload_n (i := 0) dX7_setsBytes_26 rfl rfl ?_
      refine mw_aload_n (i := 0) dX7_setsBytes_27 rfl rfl ?_
      refine mw_get dX7_setsBytes_28 fk_X7_38 gm_0 rfl ?_
      refine mw_iload_n (i := 3) dX7_setsBytes_31 rfl rfl ?_
      refine mw_iald dX7_setsBytes_32 gm_10 (mw_ix rfl (show k < 300 by omega) (by decide)) ?_
      refine mw_top (v := nI (Y.getD k 0)) (hY k (by omega)) ?_
      refine mw_callVv dX7_setsBytes_33 mk_X7_87 gm_0 rfl (c_writes (w := w + (enum t 2 Y.length ++ Y.take k).length) (Y.getD k 0) pk_us (by omega)) (by decide) (Nat.le_refl _) (Nat.le_refl _) rfl rfl (Nat.le_of_ble_eq_true rfl) ?_
      have e5 : w + (enum t 2 Y.length ++ Y.take k).length + [Y.getD k 0].length = w + (enum t 2 Y.length ++ Y.take (k + 1)).length := by
        rw [← take_one (X := Y) (k := k) (by omega)]
        simp only [List.length_append]
        omega
      rw [gW_up, fa_upd_twice, wr_app, e5, List.append_assoc, take_one (by omega)]
      refine mw_iinc_3 dX7_setsBytes_36 (by decide) rfl ?_
      refine mw_goto (tgt := 18) dX7_setsBytes_39 (by decide) ?_
      rw [show nI k + Int32.ofInt 1 = nI (k + 1) from nI_1 k]
      exact hih
theorem c_setsBytes {L : List af} (hM : rMes A m s L) {t : Nat} (ht : t ≤ 31) (hY : holds (A 10) Y) (h20 : I 20 = nI Y.length) (hl : Y.length ≤ 130) : mw_Con mm_X7_setsBytes 5 0 0 [.ref M, .int (nI m), .int (nI t)] (gm M h I A) (fun v h' => v = .inl (some (.int (if (eL (L.filter (fun x => !Pt A s (nI t) x)) ++ ef (t, 2, Y.length, Y)).length ≤ 120 then nI Y.length else 0))) ∧ zSet M h A I m (eL (L.filter (fun x => !Pt A s (nI t) x)) ++ ef (t, 2, Y.length, Y)) v h') := by
  have hM0 := hM
  obtain ⟨hm, hs, h5, hok, hlen, h6, hrow, hA⟩ := hM
  have hfl := fil_le (fun x => !Pt A s (nI t) x) L
  generalize hX0 : eL (L.filter (fun x => !Pt A s (nI t) x)) = X0 at *
  have hlY : (ef (t, 2, Y.length, Y)).length = (enum t 2 Y.length).length + Y.length := by rw [ef_split, List.length_append]
  have hle : (enum t 2 Y.length).length ≤ 10 := by
    unfold enum
    rw [if_neg (by decide), List.length_append]
    have := eg_len 4 (8 * t + 2)
    have := eg_len 4 Y.length
    show (eg 4 _).length + (eg 4 _).length ≤ 10
    omega
  refine gm_con pl_X7 rfl rfl (Nat.le_of_ble_eq_true rfl) rfl ?_
  have hwo := c_writesOthers (M := M) (h := h) (I := I) hM0 (nI t)
  rw [hX0] at hwo
  refine mw_aload_n (i := 0) dX7_setsBytes_0 rfl rfl ?_
  refine mw_iload_n (i := 1) dX7_setsBytes_1 rfl rfl ?_
  refine mw_iload_n (i := 2) dX7_setsBytes_2 rfl rfl ?_
  refine mw_callV dX7_setsBytes_3 mk_X7_159 gm_0 rfl (hwo) (by decide) (Nat.le_refl _) (Nat.le_refl _) rfl rfl (Nat.le_of_ble_eq_true rfl) (fun E9 h9 q9 => ?_) (fun v9 h9 q9 => ?_)
  · cases q9.1
  · obtain ⟨e9, I1, rfl, hS, h18⟩ := q9
    cases e9
    have k20 : I1 20 = nI Y.length := (hS 20 (by decide)).trans h20
    refine mw_aload_n (i := 0) dX7_setsBytes_6 rfl rfl ?_
    refine mw_iload_n (i := 2) dX7_setsBytes_7 rfl rfl ?_
    refine mw_iconst (v := 2) dX7_setsBytes_8 (by decide) ?_
    refine mw_aload_n (i := 0) dX7_setsBytes_9 rfl rfl ?_
    refine mw_get dX7_setsBytes_10 fk_X7_126 gm_0 rfl ?_
    rw [k20]
    refine mw_callVv dX7_setsBytes_13 mk_X7_94 gm_0 rfl (c_writesNumber (tag := t) (type := 2) (v := Y.length) (by omega) (by omega) h18 (by omega)) (by decide) (Nat.le_refl _) (Nat.le_refl _) rfl rfl (Nat.le_of_ble_eq_true rfl) ?_
    rw [gW_up]
    refine mw_iconst (v := 0) dX7_setsBytes_16 (by decide) ?_
    refine mw_istore_3 dX7_setsBytes_17 (by decide) ?_
    have h9 := lp_sb (M := M) (m := m) (h := h) (I := I1) (A := A) (g := wr (A 9) 0 X0) (w := 0 + X0.length) (t := t) hY k20 (by omega) (Po := (fun v h' => v = .inl (some (.int (if (X0 ++ ef (t, 2, Y.length, Y)).length ≤ 120 then nI Y.length else 0))) ∧ zSet M h A I m (X0 ++ ef (t, 2, Y.length, Y)) v h')) (some (.int (nI t))) ?_ Y.length 0 (by omega)
    · rw [List.take_zero, List.append_nil] at h9
      exact h9
    · rw [wr_app, Nat.add_assoc, ← List.length_append, Nat.zero_add]
      have hX : holds ((va_up A 9 (wr (A 9) 0 (X0 ++ ef (t, 2, Y.length, Y)))) 9) (X0 ++ ef (t, 2, Y.length, Y)) := by rw [va_up_self]; exact holds_wr
      have hXl : (X0 ++ ef (t, 2, Y.length, Y)).length ≤ 300 := by rw [List.length_append]; omega
      generalize X0 ++ ef (t, 2, Y.length, Y) = X at *
      have k20' : (upd I1 18 (nI X.length)) 20 = nI Y.length := k20
      have hS' : zScw I (upd I1 18 (nI X.length)) := hS.up (by decide) _
      have k18 : (upd I1 18 (nI X.length)) 18 = nI X.length := pk_us
      generalize upd I1 18 (nI X.length) = I2 at *
      refine mw_aload_n (i := 0) dX7_setsBytes_42 rfl rfl ?_
      refine mw_iload_n (i := 1) dX7_setsBytes_43 rfl rfl ?_
      refine mw_callVv dX7_setsBytes_44 mk_X7_172 gm_0 rfl (c_isWritten hm hX k18 hXl) (by decide) (Nat.le_refl _) (Nat.le_refl _) rfl rfl (Nat.le_of_ble_eq_true rfl) ?_
      by_cases hc : X.length ≤ 120
      · rw [if_pos hc, if_pos hc]
        refine mw_aload_n (i := 0) dX7_setsBytes_47 rfl rfl ?_
        refine mw_get dX7_setsBytes_48 fk_X7_44 gm_0 rfl ?_
        refine mw_if_le (tgt := 58) dX7_setsBytes_51 (by decide) (fun c_51 => ?_) (fun c_51 => ?_)
        · refine mw_aload_n (i := 0) dX7_setsBytes_58 rfl rfl ?_
          refine mw_get dX7_setsBytes_59 fk_X7_126 gm_0 rfl ?_
          refine mw_top (v := nI Y.length) k20' ?_
          exact mw_ireturn dX7_setsBytes_62 ⟨_, rfl, rfl⟩ ⟨rfl, upd I2 0 0, by rw [if_pos hc], fun k hk => (pk_un (by omega)).trans (hS' k (by omega)), by rw [if_pos hc]; rfl⟩
        · exact absurd (Int32.le_refl _) c_51
      · rw [if_neg hc, if_neg hc]
        refine mw_aload_n (i := 0) dX7_setsBytes_47 rfl rfl ?_
        refine mw_get dX7_setsBytes_48 fk_X7_44 gm_0 rfl ?_
        refine mw_if_le (tgt := 58) dX7_setsBytes_51 (by decide) (fun c_51 => ?_) (fun c_51 => ?_)
        · exact absurd (show (3 : Int32) ≤ 0 from c_51) (by decide)
        · refine mw_iconst (v := 0) dX7_setsBytes_54 (by decide) ?_
          refine mw_goto (tgt := 62) dX7_setsBytes_55 (by decide) ?_
          exact mw_ireturn dX7_setsBytes_62 ⟨_, rfl, rfl⟩ ⟨rfl, upd I2 0 3, by rw [if_neg hc], fun k hk => (pk_un (by omega)).trans (hS' k (by omega)), by rw [if_neg hc]; rfl⟩
end R10
