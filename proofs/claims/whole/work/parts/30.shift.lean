/-! a row read from another place is the same row -/
section SH
variable {b b' : Nat → Nat} {d e : Nat}
theorem pg_sh (hb : ∀ j, j < e → b (d + j) = b' j) : ∀ r p v, p ≤ e → pg b (d + e) r (d + p) v = ((pg b' e r p v).1, d + (pg b' e r p v).2.1, (pg b' e r p v).2.2)
  | 0, p, v, _ => rfl
  | r + 1, p, v, hp => by
    unfold pg
    by_cases h1 : p = e
    · rw [if_pos h1, if_pos (by omega)]
    · rw [if_neg h1, if_neg (by omega), hb p (by omega)]
      by_cases h2 : r = 0 ∧ 15 < b' p
      · rw [if_pos h2, if_pos h2]
        rfl
      · rw [if_neg h2, if_neg h2]
        by_cases h3 : b' p < 128
        · rw [if_pos h3, if_pos h3]
          rfl
        · rw [if_neg h3, if_neg h3]
          exact pg_sh hb r (p + 1) _ (by omega)
theorem v4_sh (hb : ∀ j, j < e → b (d + j) = b' j) {q : Nat} (hq : q + 4 ≤ e) : v4 b (d + q) = v4 b' q := by
  unfold v4
  rw [hb q (by omega), Nat.add_assoc d q 1, hb (q + 1) (by omega), Nat.add_assoc d q 2, hb (q + 2) (by omega), Nat.add_assoc d q 3, hb (q + 3) (by omega)]
theorem pf_sh (hb : ∀ j, j < e → b (d + j) = b' j) {p : Nat} (hp : p ≤ e) : (pf b (d + e) (d + p)).1 = (pf b' e p).1 ∧ ((pf b' e p).1 = 0 → (pf b (d + e) (d + p)).2.1 = d + (pf b' e p).2.1 ∧ (pf b (d + e) (d + p)).2.2 = (pf b' e p).2.2) := by
  have hq1 := pg_le b' e 5 p 0 hp
  have g1 := pg_sh hb 5 p 0 hp
  unfold pf
  rw [g1]
  generalize pg b' e 5 p 0 = g at *
  obtain ⟨f1, q1, K⟩ := g
  dsimp only at hq1 ⊢
  have g2 := pg_sh hb 5 q1 0 hq1.2
  rw [g2]
  clear g2 g1
  generalize pg b' e 5 q1 0 = k2 at *
  obtain ⟨f2, q2, v⟩ := k2
  dsimp only
  by_cases c1 : f1 ≠ 0
  · rw [if_pos c1, if_pos c1]; exact ⟨rfl, fun z => absurd z c1⟩
  rw [if_neg c1, if_neg c1]
  by_cases c2 : ¬ (1 ≤ K / 8 ∧ K / 8 ≤ 31)
  · rw [if_pos c2, if_pos c2]; exact ⟨rfl, fun z => absurd (show (3 : Nat) = 0 from z) (by decide)⟩
  rw [if_neg c2, if_neg c2]
  by_cases c3 : ¬ (K % 8 = 0 ∨ K % 8 = 2 ∨ K % 8 = 5)
  · rw [if_pos c3, if_pos c3]; exact ⟨rfl, fun z => absurd (show (4 : Nat) = 0 from z) (by decide)⟩
  rw [if_neg c3, if_neg c3]
  by_cases c4 : K % 8 = 5
  · rw [if_pos c4, if_pos c4]
    by_cases c5 : e < q1 + 4
    · rw [if_pos c5, if_pos (by omega)]; exact ⟨rfl, fun z => absurd (show (1 : Nat) = 0 from z) (by decide)⟩
    · rw [if_neg c5, if_neg (by omega), v4_sh hb (by omega)]
      exact ⟨rfl, fun _ => ⟨Nat.add_assoc _ _ _, rfl⟩⟩
  rw [if_neg c4, if_neg c4]
  by_cases c5 : f2 ≠ 0
  · rw [if_pos c5, if_pos c5]; exact ⟨rfl, fun z => absurd z c5⟩
  rw [if_neg c5, if_neg c5]
  by_cases c6 : K % 8 = 2
  · rw [if_pos c6, if_pos c6]
    by_cases c7 : e < q2 + v
    · rw [if_pos c7, if_pos (by omega)]; exact ⟨rfl, fun z => absurd (show (1 : Nat) = 0 from z) (by decide)⟩
    · rw [if_neg c7, if_neg (by omega)]
      exact ⟨rfl, fun _ => ⟨Nat.add_assoc _ _ _, rfl⟩⟩
  · rw [if_neg c6, if_neg c6]
    exact ⟨rfl, fun _ => ⟨rfl, rfl⟩⟩
theorem prs_sh (hb : ∀ j, j < e → b (d + j) = b' j) (hb2 : ∀ j, b' j < 256) : ∀ n p, p ≤ e → prs b (d + e) n (d + p) = ((prs b' e n p).1, (prs b' e n p).2.1, if (prs b' e n p).2.1 = 0 then 0 else d + (prs b' e n p).2.2)
  | 0, p, _ => rfl
  | n + 1, p, hp => by
    obtain ⟨s1, s2⟩ := pf_sh hb hp
    unfold prs
    by_cases h1 : e ≤ p
    · rw [if_pos h1, if_pos (by omega)]
      rfl
    · rw [if_neg h1, if_neg (by omega), s1]
      by_cases h2 : (pf b' e p).1 = 0
      · obtain ⟨t1, t2⟩ := s2 h2
        obtain ⟨o1, o2, o3, o4, o5⟩ := pf_ok hb2 hp h2
        rw [if_pos h2, if_pos h2, t1, prs_sh hb hb2 n _ o4]
        have hm : mkf b (pf b (d + e) (d + p)) = mkf b' (pf b' e p) := by
          unfold mkf
          rw [t1, t2]
          by_cases h3 : (pf b' e p).2.2.2.1 = 2
          · rw [if_pos h3, if_pos h3]
            have h4 := o5 h3
            congr 3
            unfold bys
            refine List.map_congr_left (fun j hj => ?_)
            rw [List.mem_range] at hj
            rw [← hb _ (by omega)]
            congr 1
            omega
          · rw [if_neg h3, if_neg h3]
        rw [hm]
      · rw [if_neg h2, if_neg h2]
        dsimp only
        rw [if_neg h2]
end SH
/-- a row in an array, read -/
theorem prs_row {f : Nat → Int32} {d : Nat} {Y : List Nat} (h : rowAt (bt f) d Y) (hY : ∀ z ∈ Y, z < 256) : prs (bt f) (d + Y.length) 60 d = ((prsL Y).1, (prsL Y).2.1, if (prsL Y).2.1 = 0 then 0 else d + (prsL Y).2.2) := by
  have hb : ∀ j, (fun j => Y.getD j 0) j < 256 := by
    intro j
    show Y.getD j 0 < 256
    rcases Nat.lt_or_ge j Y.length with z | z
    · exact hY _ (getD_mem z)
    · rw [List.getD_eq_getElem?_getD, List.getElem?_eq_none z]; decide
  exact prs_sh (b := bt f) (b' := fun j => Y.getD j 0) (d := d) (e := Y.length) (fun j hj => h j hj) hb 60 0 (Nat.zero_le _)
theorem prsL_ok {Y : List Nat} (hY : ∀ z ∈ Y, z < 256) : (∀ x ∈ (prsL Y).1, okf x) ∧ (eL (prsL Y).1).length ≤ Y.length := by
  have hb : ∀ j, (fun j => Y.getD j 0) j < 256 := by
    intro j
    show Y.getD j 0 < 256
    rcases Nat.lt_or_ge j Y.length with z | z
    · exact hY _ (getD_mem z)
    · rw [List.getD_eq_getElem?_getD, List.getElem?_eq_none z]; decide
  have h1 := prs_ok (b := fun j => Y.getD j 0) (e := Y.length) hb 60 0 (Nat.zero_le _)
  refine ⟨h1.1, ?_⟩
  have h2 := h1.2
  rw [Nat.zero_add] at h2
  exact h2
theorem prs_le4 {b : Nat → Nat} {e : Nat} : ∀ n p, (prs b e n p).2.1 ≤ 4
  | 0, _ => Nat.zero_le _
  | n + 1, p => by
    unfold prs
    by_cases h1 : e ≤ p
    · rw [if_pos h1]; exact Nat.zero_le _
    · rw [if_neg h1]
      by_cases h2 : (pf b e p).1 = 0
      · rw [if_pos h2]; exact prs_le4 n _
      · rw [if_neg h2]; exact pf_f b e p
theorem prsL_le4 (Y : List Nat) : (prsL Y).2.1 ≤ 4 := prs_le4 _ _
section P5
variable {M : Nat} {h : mw_H} {g : mS} {I : Nat → Int32} {A : Nat → Nat → Int32}
theorem c_tape (hr : rR g I A) (h1 : ∀ k, k = 9 → (upd I 0 0) k = I k) {I0 : Nat → Int32} : mw_Con mm_X7_reads 4 0 0 [.ref M, .ref (M + 8), .int 0, .int (nI g.2.2.2.length)] (gm M h I0 A) (zRds M h A I0 0 (A 9) ((prsL g.2.2.2).1, (prsL g.2.2.2).2.1, if (prsL g.2.2.2).2.1 = 0 then 0 else (prsL g.2.2.2).2.2)) := by
  obtain ⟨a0, a1, a2, a3, a4, a5, a6, a7, a8, a9⟩ := hr
  have h5 := a0.2.2.2.2.1
  have hp := prs_row a9 a0.2.2.2.2.2
  rw [Nat.zero_add, Nat.zero_add] at hp
  have hc := c_reads (M := M) (h := h) (I := I0) (A := A) (q := 8) (n := 120) (Or.inr ⟨rfl, rfl⟩) a7 (p := 0) (e := g.2.2.2.length) (Nat.zero_le _) h5 (N := 60) (by omega) (by omega)
  rw [hp] at hc
  exact hc
theorem r_fault (hr : rR g I A) : mw_Con mm_X7_fault 5 0 0 [.ref M] (gm M h I A) (rP M h (sp_fault g)) := by
  refine gm_con pl_X7 rfl rfl (Nat.le_of_ble_eq_true rfl) rfl ?_
  refine mw_aload_n (i := 0) dX7_fault_0 rfl rfl ?_
  refine mw_iconst (v := 0) dX7_fault_1 (by decide) ?_
  refine gm_put dX7_fault_2 fk_X7_44 (by decide) (gm_h0 _) ?_
  refine mw_aload_n (i := 0) dX7_fault_5 rfl rfl ?_
  refine mw_aload_n (i := 0) dX7_fault_6 rfl rfl ?_
  refine mw_get dX7_fault_7 fk_X7_32 gm_0 rfl ?_
  refine mw_iconst (v := 0) dX7_fault_10 (by decide) ?_
  refine mw_aload_n (i := 0) dX7_fault_11 rfl rfl ?_
  refine mw_get dX7_fault_12 fk_X7_204 gm_0 rfl ?_
  rw [show upd I 0 0 9 = nI g.2.2.2.length from hr.2.2.2.2.2.2.2.2.1]
  refine mw_callV dX7_fault_15 mk_X7_191 gm_0 rfl (c_tape hr (fun k hk => by rw [hk]; rfl)) (by decide) (Nat.le_refl _) (Nat.le_refl _) rfl rfl (Nat.le_of_ble_eq_true rfl) (fun E9 h9 q9 => ?_) (fun v9 h9 q9 => ?_)
  · cases q9.1
  · obtain ⟨e9, I1, rfl, hS, -⟩ := q9
    cases e9
    exact mw_ireturn dX7_fault_18 ⟨_, rfl, rfl⟩ ⟨rfl, _, _, rfl, (hS 0 (by decide)).trans rfl, rR_scr hr (fun j _ h8 => va_up_ne _ _ (by omega)) ((hS 1 (by decide)).trans rfl) ((hS 9 (by decide)).trans rfl)⟩
theorem r_faultAt (hr : rR g I A) : mw_Con mm_X7_faultAt 5 0 0 [.ref M] (gm M h I A) (rP M h (sp_faultAt g)) := by
  refine gm_con pl_X7 rfl rfl (Nat.le_of_ble_eq_true rfl) rfl ?_
  have h4 := prsL_le4 g.2.2.2
  unfold sp_faultAt
  refine mw_aload_n (i := 0) dX7_faultAt_0 rfl rfl ?_
  refine mw_iconst (v := 0) dX7_faultAt_1 (by decide) ?_
  refine gm_put dX7_faultAt_2 fk_X7_44 (by decide) (gm_h0 _) ?_
  refine mw_aload_n (i := 0) dX7_faultAt_5 rfl rfl ?_
  refine mw_aload_n (i := 0) dX7_faultAt_6 rfl rfl ?_
  refine mw_get dX7_faultAt_7 fk_X7_32 gm_0 rfl ?_
  refine mw_iconst (v := 0) dX7_faultAt_10 (by decide) ?_
  refine mw_aload_n (i := 0) dX7_faultAt_11 rfl rfl ?_
  refine mw_get dX7_faultAt_12 fk_X7_204 gm_0 rfl ?_
  rw [show upd I 0 0 9 = nI g.2.2.2.length from hr.2.2.2.2.2.2.2.2.1]
  refine mw_callV dX7_faultAt_15 mk_X7_191 gm_0 rfl (c_tape hr (fun k hk => by rw [hk]; rfl)) (by decide) (Nat.le_refl _) (Nat.le_refl _) rfl rfl (Nat.le_of_ble_eq_true rfl) (fun E9 h9 q9 => ?_) (fun v9 h9 q9 => ?_)
  · cases q9.1
  · obtain ⟨e9, I1, rfl, hS, -, h17⟩ := q9
    cases e9
    dsimp only at h17 ⊢
    by_cases hf : (prsL g.2.2.2).2.1 = 0
    · rw [if_pos hf, hf]
      refine mw_if_le (tgt := 28) dX7_faultAt_18 (by decide) (fun _ => ?_) (fun c9 => absurd c9 (by first | decide | (rw [pk_us]; decide)))
      refine mw_iconst (v := -1) dX7_faultAt_28 (by decide) ?_
      exact mw_ireturn dX7_faultAt_29 ⟨_, rfl, rfl⟩ ⟨rfl, _, _, rfl, (hS 0 (by decide)).trans rfl, rR_scr hr (fun j _ h8 => va_up_ne _ _ (by omega)) ((hS 1 (by decide)).trans rfl) ((hS 9 (by decide)).trans rfl)⟩
    · rw [if_neg hf]
      have h17 := h17 hf
      rw [if_neg hf] at h17
      refine mw_if_le (tgt := 28) dX7_faultAt_18 (by decide) (fun c9 => absurd c9 (show ¬ nI (prsL g.2.2.2).2.1 ≤ nI 0 from nI_ge (by omega) (by omega))) (fun _ => ?_)
      refine mw_aload_n (i := 0) dX7_faultAt_21 rfl rfl ?_
      refine mw_get dX7_faultAt_22 fk_X7_61 gm_0 rfl ?_
      rw [h17]
      refine mw_goto (tgt := 29) dX7_faultAt_25 (by decide) ?_
      exact mw_ireturn dX7_faultAt_29 ⟨_, rfl, rfl⟩ ⟨rfl, _, _, rfl, (hS 0 (by decide)).trans rfl, rR_scr hr (fun j _ h8 => va_up_ne _ _ (by omega)) ((hS 1 (by decide)).trans rfl) ((hS 9 (by decide)).trans rfl)⟩
theorem r_read (hr : rR g I A) (s : Int32) : mw_Con mm_X7_read 5 0 0 [.ref M, .int s] (gm M h I A) (rP M h (sp_read g s)) := by
  refine gm_con pl_X7 rfl rfl (Nat.le_of_ble_eq_true rfl) rfl ?_
  have h4 := prsL_le4 g.2.2.2
  unfold sp_read newM
  cases hs : sS g s with
  | none =>
    refine mw_aload_n (i := 0) dX7_read_0 rfl rfl ?_
    refine mw_aload_n (i := 0) dX7_read_1 rfl rfl ?_
    refine mw_iload_n (i := 1) dX7_read_2 rfl rfl ?_
    refine mw_callVr dX7_read_3 mk_X7_136 gm_0 rfl (c_S0 hr hs) (by decide) (Nat.le_refl _) (Nat.le_refl _) rfl rfl (Nat.le_of_ble_eq_true rfl) ?_
    refine mw_if_ne (tgt := 13) dX7_read_6 (by decide) (fun c9 => absurd c9 (by first | decide | (rw [pk_us]; decide))) (fun _ => ?_)
    refine mw_iconst (v := 1) dX7_read_9 (by decide) ?_
    refine mw_goto (tgt := 45) dX7_read_10 (by decide) ?_
    refine gm_put dX7_read_45 fk_X7_44 (by decide) (gm_h0 _) ?_
    refine mw_aload_n (i := 0) dX7_read_48 rfl rfl ?_
    refine mw_get dX7_read_49 fk_X7_44 gm_0 rfl ?_
    refine mw_if_le (tgt := 59) dX7_read_52 (by decide) (fun c9 => absurd c9 (by first | decide | (rw [pk_us]; decide))) (fun _ => ?_)
    refine mw_iconst (v := 0) dX7_read_55 (by decide) ?_
    refine mw_goto (tgt := 64) dX7_read_56 (by decide) ?_
    exact mw_ireturn dX7_read_64 ⟨_, rfl, rfl⟩ (rP_I hr rfl rfl rfl)
  | some j =>
    obtain ⟨hj, rfl⟩ := sS_in (rR_ns hr) hs
    dsimp only
    refine mw_aload_n (i := 0) dX7_read_0 rfl rfl ?_
    refine mw_aload_n (i := 0) dX7_read_1 rfl rfl ?_
    refine mw_iload_n (i := 1) dX7_read_2 rfl rfl ?_
    refine mw_callVr dX7_read_3 mk_X7_136 gm_0 rfl (c_S1 hr hs) (by decide) (Nat.le_refl _) (Nat.le_refl _) rfl rfl (Nat.le_of_ble_eq_true rfl) ?_
    refine mw_if_ne (tgt := 13) dX7_read_6 (by decide) (fun _ => ?_) (fun c9 => absurd c9 (by first | decide | (rw [pk_us]; decide)))
    refine mw_aload_n (i := 0) dX7_read_13 rfl rfl ?_
    refine mw_aload_n (i := 0) dX7_read_14 rfl rfl ?_
    refine mw_get dX7_read_15 fk_X7_32 gm_0 rfl ?_
    refine mw_iconst (v := 0) dX7_read_18 (by decide) ?_
    refine mw_aload_n (i := 0) dX7_read_19 rfl rfl ?_
    refine mw_get dX7_read_20 fk_X7_204 gm_0 rfl ?_
    rw [show I 9 = nI g.2.2.2.length from hr.2.2.2.2.2.2.2.2.1]
    refine mw_callV dX7_read_23 mk_X7_191 gm_0 rfl (c_tape hr (fun k hk => by rw [hk]; rfl)) (by decide) (Nat.le_refl _) (Nat.le_refl _) rfl rfl (Nat.le_of_ble_eq_true rfl) (fun E9 h9 q9 => ?_) (fun v9 h9 q9 => ?_)
    · cases q9.1
    · obtain ⟨e9, I1, rfl, hS, h18, -⟩ := q9
      cases e9
      dsimp only at h18 ⊢
      have hr1 : rR g I1 (va_up A 9 (wr (A 9) 0 (eL (prsL g.2.2.2).1))) := rR_scr hr (fun j _ h8 => va_up_ne _ _ (by omega)) (hS 1 (by decide)) (hS 9 (by decide))
      by_cases hf : (prsL g.2.2.2).2.1 = 0
      · rw [hf, if_neg (fun z => z rfl)]
        obtain ⟨p1, p2⟩ := prsL_ok hr.1.2.2.2.2.2
        have h5 := hr.1.2.2.2.2.1
        by_cases hfr : fre g.2.2.1 = 12
        · rw [if_pos hfr]
          refine mw_if_le (tgt := 33) dX7_read_26 (by decide) (fun _ => ?_) (fun c9 => absurd c9 (by first | decide | (rw [pk_us]; decide)))
          refine mw_aload_n (i := 0) dX7_read_33 rfl rfl ?_
          refine mw_callVr dX7_read_34 mk_X7_149 gm_0 rfl (c_F1 hr1 hfr) (by decide) (Nat.le_refl _) (Nat.le_refl _) rfl rfl (Nat.le_of_ble_eq_true rfl) ?_
          refine mw_if_eq (tgt := 44) dX7_read_37 (by decide) (fun c9 => absurd c9 (by first | decide | (rw [pk_us]; decide))) (fun _ => ?_)
          refine mw_iconst (v := 3) dX7_read_40 (by decide) ?_
          refine mw_goto (tgt := 45) dX7_read_41 (by decide) ?_
          refine gm_put dX7_read_45 fk_X7_44 (by decide) (gm_h0 _) ?_
          refine mw_aload_n (i := 0) dX7_read_48 rfl rfl ?_
          refine mw_get dX7_read_49 fk_X7_44 gm_0 rfl ?_
          refine mw_if_le (tgt := 59) dX7_read_52 (by decide) (fun c9 => absurd c9 (by first | decide | (rw [pk_us]; decide))) (fun _ => ?_)
          refine mw_iconst (v := 0) dX7_read_55 (by decide) ?_
          refine mw_goto (tgt := 64) dX7_read_56 (by decide) ?_
          exact mw_ireturn dX7_read_64 ⟨_, rfl, rfl⟩ (rP_I hr1 rfl rfl rfl)
        · rw [if_neg hfr]
          have hfree := rR_free hr1
          have hf2 : fre g.2.2.1 < 12 := by have := hfree.1; omega
          rw [Nat.zero_add] at h18
          refine mw_if_le (tgt := 33) dX7_read_26 (by decide) (fun _ => ?_) (fun c9 => absurd c9 (by first | decide | (rw [pk_us]; decide)))
          refine mw_aload_n (i := 0) dX7_read_33 rfl rfl ?_
          refine mw_callVr dX7_read_34 mk_X7_149 gm_0 rfl (c_F0 hr1 hfr) (by decide) (Nat.le_refl _) (Nat.le_refl _) rfl rfl (Nat.le_of_ble_eq_true rfl) ?_
          refine mw_if_eq (tgt := 44) dX7_read_37 (by decide) (fun _ => ?_) (fun c9 => absurd c9 (by first | decide | (rw [pk_us]; decide)))
          refine mw_iconst (v := 0) dX7_read_44 (by decide) ?_
          refine gm_put dX7_read_45 fk_X7_44 (by decide) (gm_h0 _) ?_
          refine mw_aload_n (i := 0) dX7_read_48 rfl rfl ?_
          refine mw_get dX7_read_49 fk_X7_44 gm_0 rfl ?_
          refine mw_if_le (tgt := 59) dX7_read_52 (by decide) (fun _ => ?_) (fun c9 => absurd c9 (by first | decide | (rw [pk_us]; decide)))
          refine mw_aload_n (i := 0) dX7_read_59 rfl rfl ?_
          refine mw_iload_n (i := 1) dX7_read_60 rfl rfl ?_
          refine mw_callVr dX7_read_61 mk_X7_153 gm_0 rfl (c_makes (X := eL (prsL g.2.2.2).1) (s := j) hfree hf2 (by rw [va_up_self]; exact holds_wr) ((pk_un (by decide)).trans h18) (by omega)) (by decide) (Nat.le_refl _) (Nat.le_refl _) rfl rfl (Nat.le_of_ble_eq_true rfl) ?_
          exact mw_ireturn dX7_read_64 ⟨_, rfl, rfl⟩ ⟨rfl, _, _, rfl, rfl, rR_new hr hf2 hj p1 (by omega) (fun j _ h8 => va_up_ne _ _ (by omega)) ((pk_un (by decide)).trans (hS 1 (by decide))) ((pk_un (by decide)).trans (hS 9 (by decide)))⟩
      · rw [if_pos hf]
        refine mw_if_le (tgt := 33) dX7_read_26 (by decide) (fun c9 => absurd c9 (show ¬ nI (prsL g.2.2.2).2.1 ≤ nI 0 from nI_ge (by omega) (by omega))) (fun _ => ?_)
        refine mw_iconst (v := 2) dX7_read_29 (by decide) ?_
        refine mw_goto (tgt := 45) dX7_read_30 (by decide) ?_
        refine gm_put dX7_read_45 fk_X7_44 (by decide) (gm_h0 _) ?_
        refine mw_aload_n (i := 0) dX7_read_48 rfl rfl ?_
        refine mw_get dX7_read_49 fk_X7_44 gm_0 rfl ?_
        refine mw_if_le (tgt := 59) dX7_read_52 (by decide) (fun c9 => absurd c9 (by first | decide | (rw [pk_us]; decide))) (fun _ => ?_)
        refine mw_iconst (v := 0) dX7_read_55 (by decide) ?_
        refine mw_goto (tgt := 64) dX7_read_56 (by decide) ?_
        exact mw_ireturn dX7_read_64 ⟨_, rfl, rfl⟩ (rP_I hr1 rfl rfl rfl)
theorem r_open (hr : rR g I A) (m t : Int32) : mw_Con mm_X7_open 6 0 0 [.ref M, .int m, .int t] (gm M h I A) (rP M h (sp_open g m t)) := by
  refine gm_con pl_X7 rfl rfl (Nat.le_of_ble_eq_true rfl) rfl ?_
  unfold sp_open newM
  cases hm : sM g m with
  | none =>
    refine mw_aload_n (i := 0) dX7_open_0 rfl rfl ?_
    refine mw_aload_n (i := 0) dX7_open_1 rfl rfl ?_
    refine mw_iload_n (i := 1) dX7_open_2 rfl rfl ?_
    refine mw_callVr dX7_open_3 mk_X7_156 gm_0 rfl (c_M0 hr hm) (by decide) (Nat.le_refl _) (Nat.le_refl _) rfl rfl (Nat.le_of_ble_eq_true rfl) ?_
    refine mw_if_ne (tgt := 13) dX7_open_6 (by decide) (fun c9 => absurd c9 (by first | decide | (rw [pk_us]; decide))) (fun _ => ?_)
    refine mw_iconst (v := 1) dX7_open_9 (by decide) ?_
    refine mw_goto (tgt := 28) dX7_open_10 (by decide) ?_
    refine gm_put dX7_open_28 fk_X7_44 (by decide) (gm_h0 _) ?_
    refine mw_aload_n (i := 0) dX7_open_31 rfl rfl ?_
    refine mw_get dX7_open_32 fk_X7_44 gm_0 rfl ?_
    refine mw_if_ne (tgt := 56) dX7_open_35 (by decide) (fun _ => ?_) (fun c9 => absurd c9 (by first | decide | (rw [pk_us]; decide)))
    refine mw_aload_n (i := 0) dX7_open_56 rfl rfl ?_
    refine mw_get dX7_open_57 fk_X7_44 gm_0 rfl ?_
    refine mw_if_ne (tgt := 103) dX7_open_60 (by decide) (fun _ => ?_) (fun c9 => absurd c9 (by first | decide | (rw [pk_us]; decide)))
    refine mw_aload_n (i := 0) dX7_open_103 rfl rfl ?_
    refine mw_get dX7_open_104 fk_X7_44 gm_0 rfl ?_
    refine mw_if_le (tgt := 114) dX7_open_107 (by decide) (fun c9 => absurd c9 (by first | decide | (rw [pk_us]; decide))) (fun _ => ?_)
    refine mw_iconst (v := 0) dX7_open_110 (by decide) ?_
    refine mw_goto (tgt := 134) dX7_open_111 (by decide) ?_
    exact mw_ireturn dX7_open_134 ⟨_, rfl, rfl⟩ (rP_I hr rfl rfl rfl)
  | some q =>
    obtain ⟨m, s, L⟩ := q
    obtain ⟨h12, rfl, hT⟩ := sM_in hm
    have hM := rR_mes hr h12 hT
    have hs := hM.2.1
    have hzk := zKind_cong (s := s) (t := t) hr.2.2.1
    dsimp only
    refine mw_aload_n (i := 0) dX7_open_0 rfl rfl ?_
    refine mw_aload_n (i := 0) dX7_open_1 rfl rfl ?_
    refine mw_iload_n (i := 1) dX7_open_2 rfl rfl ?_
    refine mw_callVr dX7_open_3 mk_X7_156 gm_0 rfl (c_M1 hr hm) (by decide) (Nat.le_refl _) (Nat.le_refl _) rfl rfl (Nat.le_of_ble_eq_true rfl) ?_
    refine mw_if_ne (tgt := 13) dX7_open_6 (by decide) (fun _ => ?_) (fun c9 => absurd c9 (by first | decide | (rw [pk_us]; decide)))
    refine mw_aload_n (i := 0) dX7_open_13 rfl rfl ?_
    refine mw_iload_n (i := 1) dX7_open_14 rfl rfl ?_
    refine mw_iload_n (i := 2) dX7_open_15 rfl rfl ?_
    refine mw_callVr dX7_open_16 mk_X7_166 gm_0 rfl (c_kindIn h12 hM.2.1 hM.2.2.1 t) (by decide) (Nat.le_refl _) (Nat.le_refl _) rfl rfl (Nat.le_of_ble_eq_true rfl) ?_
    refine mw_iconst (v := 4) dX7_open_19 (by decide) ?_
    rw [hzk]
    by_cases hi : zKind g.2.1 s t ≠ 4
    · rw [if_pos hi]
      refine mw_icmp_ne (tgt := 27) dX7_open_20 (by decide) (fun _ => ?_) (fun c9 => absurd c9 (fun z => hi z))
      refine mw_iconst (v := 2) dX7_open_27 (by decide) ?_
      refine gm_put dX7_open_28 fk_X7_44 (by decide) (gm_h0 _) ?_
      refine mw_aload_n (i := 0) dX7_open_31 rfl rfl ?_
      refine mw_get dX7_open_32 fk_X7_44 gm_0 rfl ?_
      refine mw_if_ne (tgt := 56) dX7_open_35 (by decide) (fun _ => ?_) (fun c9 => absurd c9 (by first | decide | (rw [pk_us]; decide)))
      refine mw_aload_n (i := 0) dX7_open_56 rfl rfl ?_
      refine mw_get dX7_open_57 fk_X7_44 gm_0 rfl ?_
      refine mw_if_ne (tgt := 103) dX7_open_60 (by decide) (fun _ => ?_) (fun c9 => absurd c9 (by first | decide | (rw [pk_us]; decide)))
      refine mw_aload_n (i := 0) dX7_open_103 rfl rfl ?_
      refine mw_get dX7_open_104 fk_X7_44 gm_0 rfl ?_
      refine mw_if_le (tgt := 114) dX7_open_107 (by decide) (fun c9 => absurd c9 (by first | decide | (rw [pk_us]; decide))) (fun _ => ?_)
      refine mw_iconst (v := 0) dX7_open_110 (by decide) ?_
      refine mw_goto (tgt := 134) dX7_open_111 (by decide) ?_
      exact mw_ireturn dX7_open_134 ⟨_, rfl, rfl⟩ (rP_I hr rfl rfl rfl)
    · rw [if_neg hi]
      have hi : zKind g.2.1 s t = 4 := Decidable.not_not.mp hi
      refine mw_icmp_ne (tgt := 27) dX7_open_20 (by decide) (fun c9 => absurd c9 (fun z => z hi)) (fun _ => ?_)
      refine mw_iconst (v := 0) dX7_open_23 (by decide) ?_
      refine mw_goto (tgt := 28) dX7_open_24 (by decide) ?_
      refine gm_put dX7_open_28 fk_X7_44 (by decide) (gm_h0 _) ?_
      refine mw_aload_n (i := 0) dX7_open_31 rfl rfl ?_
      refine mw_get dX7_open_32 fk_X7_44 gm_0 rfl ?_
      refine mw_if_ne (tgt := 56) dX7_open_35 (by decide) (fun c9 => absurd c9 (fun z => z rfl)) (fun _ => ?_)
      refine mw_aload_n (i := 0) dX7_open_38 rfl rfl ?_
      refine mw_aload_n (i := 0) dX7_open_39 rfl rfl ?_
      refine mw_iload_n (i := 1) dX7_open_40 rfl rfl ?_
      refine mw_iload_n (i := 2) dX7_open_41 rfl rfl ?_
      refine mw_callV dX7_open_42 mk_X7_178 gm_0 rfl (c_finds hM t) (by decide) (Nat.le_refl _) (Nat.le_refl _) rfl rfl (Nat.le_of_ble_eq_true rfl) (fun E9 h9 q9 => ?_) (fun v9 h9 q9 => ?_)
      · exact (zFd_no q9).elim
      · obtain ⟨I1, rfl, hS, hc⟩ := q9
        rw [Pt_cong hr.2.2.1] at hc
        rcases hc with ⟨hno, e9⟩ | ⟨L1, x, L2, hL, hPx, hno, e9, hRd⟩
        · cases e9
          rw [lastK_no hno]
          dsimp only
          refine mw_if_eq (tgt := 52) dX7_open_45 (by decide) (fun _ => ?_) (fun c9 => absurd c9 (by first | decide | (rw [pk_us]; decide)))
          refine mw_iconst (v := 3) dX7_open_52 (by decide) ?_
          refine gm_put dX7_open_53 fk_X7_44 (by decide) (gm_h0 _) ?_
          refine mw_aload_n (i := 0) dX7_open_56 rfl rfl ?_
          refine mw_get dX7_open_57 fk_X7_44 gm_0 rfl ?_
          refine mw_if_ne (tgt := 103) dX7_open_60 (by decide) (fun _ => ?_) (fun c9 => absurd c9 (by first | decide | (rw [pk_us]; decide)))
          refine mw_aload_n (i := 0) dX7_open_103 rfl rfl ?_
          refine mw_get dX7_open_104 fk_X7_44 gm_0 rfl ?_
          refine mw_if_le (tgt := 114) dX7_open_107 (by decide) (fun c9 => absurd c9 (by first | decide | (rw [pk_us]; decide))) (fun _ => ?_)
          refine mw_iconst (v := 0) dX7_open_110 (by decide) ?_
          refine mw_goto (tgt := 134) dX7_open_111 (by decide) ?_
          exact mw_ireturn dX7_open_134 ⟨_, rfl, rfl⟩ (rP_I hr rfl ((pk_un (by decide)).trans (hS 1 (by decide))) ((pk_un (by decide)).trans (hS 9 (by decide))))
        · cases e9
          have hx := hM.2.2.2.1 x (by rw [hL]; exact List.mem_append_right _ List.mem_cons_self)
          have h2 := known_ty hPx (by rw [hi]; decide) hx
          obtain ⟨pp, y1, y2, y3, y4, y5, y6⟩ := zRd_byte hM hL h2 hRd
          have hx7 := hx.2.2.2.2.2.2
          rw [hL, lastK_yes hPx hno]
          dsimp only
          have hl4 := prsL_le4 x.2.2.2
          have hp := prs_row y5 hx7
          rw [y2] at hp
          have hc := c_reads (M := M) (h := h) (I := upd I1 0 0) (A := A) (q := 7) (n := 1440) (Or.inl ⟨rfl, rfl⟩) hM.2.2.2.2.2.2.2 (p := pp) (e := pp + x.2.2.1) (Nat.le_add_right _ _) y4 (N := 60) (by omega) (by omega)
          rw [hp] at hc
          refine mw_if_eq (tgt := 52) dX7_open_45 (by decide) (fun c9 => absurd c9 (fun z => absurd (show (1 : Int32) = 0 from z) (by decide))) (fun _ => ?_)
          refine mw_iconst (v := 0) dX7_open_48 (by decide) ?_
          refine mw_goto (tgt := 53) dX7_open_49 (by decide) ?_
          refine gm_put dX7_open_53 fk_X7_44 (by decide) (gm_h0 _) ?_
          refine mw_aload_n (i := 0) dX7_open_56 rfl rfl ?_
          refine mw_get dX7_open_57 fk_X7_44 gm_0 rfl ?_
          refine mw_if_ne (tgt := 103) dX7_open_60 (by decide) (fun c9 => absurd c9 (fun z => z rfl)) (fun _ => ?_)
          refine mw_aload_n (i := 0) dX7_open_63 rfl rfl ?_
          refine mw_aload_n (i := 0) dX7_open_64 rfl rfl ?_
          refine mw_aload_n (i := 0) dX7_open_65 rfl rfl ?_
          refine mw_get dX7_open_66 fk_X7_29 gm_0 rfl ?_
          refine mw_aload_n (i := 0) dX7_open_69 rfl rfl ?_
          refine mw_get dX7_open_70 fk_X7_81 gm_0 rfl ?_
          refine mw_aload_n (i := 0) dX7_open_73 rfl rfl ?_
          refine mw_get dX7_open_74 fk_X7_81 gm_0 rfl ?_
          refine mw_aload_n (i := 0) dX7_open_77 rfl rfl ?_
          refine mw_get dX7_open_78 fk_X7_78 gm_0 rfl ?_
          refine mw_iadd dX7_open_81 ?_
          rw [show upd I1 0 0 16 = nI pp from y1, show upd I1 0 0 15 = nI x.2.2.1 from y6, nI_add]
          refine mw_callV dX7_open_82 mk_X7_191 gm_0 rfl (hc) (by decide) (Nat.le_refl _) (Nat.le_refl _) rfl rfl (Nat.le_of_ble_eq_true rfl) (fun E9 h9 q9 => ?_) (fun v9 h9 q9 => ?_)
          · cases q9.1
          · obtain ⟨e9, I2, rfl, hS2, h18, -⟩ := q9
            cases e9
            dsimp only at h18 ⊢
            have k1 : I2 1 = I 1 := (hS2 1 (by decide)).trans ((pk_un (by decide)).trans (hS 1 (by decide)))
            have k9 : I2 9 = I 9 := (hS2 9 (by decide)).trans ((pk_un (by decide)).trans (hS 9 (by decide)))
            have hr1 : rR g I2 (va_up A 9 (wr (A 9) 0 (eL (prsL x.2.2.2).1))) := rR_scr hr (fun j _ h8 => va_up_ne _ _ (by omega)) k1 k9
            by_cases hf : (prsL x.2.2.2).2.1 = 0
            · rw [hf, if_neg (fun z => z rfl)]
              obtain ⟨p1, p2⟩ := prsL_ok hx7
              by_cases hfr : fre g.2.2.1 = 12
              · rw [if_pos hfr]
                refine mw_if_gt (tgt := 95) dX7_open_85 (by decide) (fun c9 => absurd c9 (by first | decide | (rw [pk_us]; decide))) (fun _ => ?_)
                refine mw_aload_n (i := 0) dX7_open_88 rfl rfl ?_
                refine mw_callVr dX7_open_89 mk_X7_149 gm_0 rfl (c_F1 hr1 hfr) (by decide) (Nat.le_refl _) (Nat.le_refl _) rfl rfl (Nat.le_of_ble_eq_true rfl) ?_
                refine mw_if_eq (tgt := 99) dX7_open_92 (by decide) (fun c9 => absurd c9 (by first | decide | (rw [pk_us]; decide))) (fun _ => ?_)
                refine mw_iconst (v := 4) dX7_open_95 (by decide) ?_
                refine mw_goto (tgt := 100) dX7_open_96 (by decide) ?_
                refine gm_put dX7_open_100 fk_X7_44 (by decide) (gm_h0 _) ?_
                refine mw_aload_n (i := 0) dX7_open_103 rfl rfl ?_
                refine mw_get dX7_open_104 fk_X7_44 gm_0 rfl ?_
                refine mw_if_le (tgt := 114) dX7_open_107 (by decide) (fun c9 => absurd c9 (by first | decide | (rw [pk_us]; decide))) (fun _ => ?_)
                refine mw_iconst (v := 0) dX7_open_110 (by decide) ?_
                refine mw_goto (tgt := 134) dX7_open_111 (by decide) ?_
                exact mw_ireturn dX7_open_134 ⟨_, rfl, rfl⟩ (rP_I hr1 rfl rfl rfl)
              · rw [if_neg hfr]
                have hfree := rR_free hr1
                have hf2 : fre g.2.2.1 < 12 := by have := hfree.1; omega
                rw [Nat.zero_add] at h18
                have hzt := zK4_tag hi
                obtain ⟨j, j1, j2, rfl⟩ := zTag_nI hzt
                have hsn := (hr.1.2.2.2.1 m s L h12 hT).1
                obtain ⟨w1, w2⟩ := hr.1.2.1 s j hsn j1 j2 hi
                rw [nI_clamp (by omega)]
                refine mw_if_gt (tgt := 95) dX7_open_85 (by decide) (fun c9 => absurd c9 (by first | decide | (rw [pk_us]; decide))) (fun _ => ?_)
                refine mw_aload_n (i := 0) dX7_open_88 rfl rfl ?_
                refine mw_callVr dX7_open_89 mk_X7_149 gm_0 rfl (c_F0 hr1 hfr) (by decide) (Nat.le_refl _) (Nat.le_refl _) rfl rfl (Nat.le_of_ble_eq_true rfl) ?_
                refine mw_if_eq (tgt := 99) dX7_open_92 (by decide) (fun _ => ?_) (fun c9 => absurd c9 (by first | decide | (rw [pk_us]; decide)))
                refine mw_iconst (v := 0) dX7_open_99 (by decide) ?_
                refine gm_put dX7_open_100 fk_X7_44 (by decide) (gm_h0 _) ?_
                refine mw_aload_n (i := 0) dX7_open_103 rfl rfl ?_
                refine mw_get dX7_open_104 fk_X7_44 gm_0 rfl ?_
                refine mw_if_le (tgt := 114) dX7_open_107 (by decide) (fun _ => ?_) (fun c9 => absurd c9 (by first | decide | (rw [pk_us]; decide)))
                refine mw_aload_n (i := 0) dX7_open_114 rfl rfl ?_
                refine mw_aload_n (i := 0) dX7_open_115 rfl rfl ?_
                refine mw_get dX7_open_116 fk_X7_13 gm_0 rfl ?_
                refine mw_bipush (v := 32) dX7_open_119 (by decide) ?_
                refine mw_aload_n (i := 0) dX7_open_121 rfl rfl ?_
                refine mw_get dX7_open_122 fk_X7_23 gm_0 rfl ?_
                refine mw_iload_n (i := 1) dX7_open_125 rfl rfl ?_
                refine mw_iald dX7_open_126 gm_5 (mw_ix rfl h12 (by decide)) ?_
                rw [show (va_up A 9 (wr (A 9) 0 (eL (prsL x.2.2.2).1))) 5 m = nI s from hM.2.2.1]
                refine mw_imul dX7_open_127 ?_
                refine mw_iload_n (i := 2) dX7_open_128 rfl rfl ?_
                refine mw_iadd dX7_open_129 ?_
                refine mw_iald dX7_open_130 gm_2 (mw_ix (mx_32 s j) (show 32 * s + j < 192 by omega) (by decide)) ?_
                have ev : (va_up A 9 (wr (A 9) 0 (eL (prsL x.2.2.2).1))) 2 (32 * s + j) = nI (pn g.2.1 s j) := by
                  rw [va_up_ne _ _ (by decide), hr.2.2.2.1]; exact w2
                rw [ev]
                refine mw_callVr dX7_open_131 mk_X7_153 gm_0 rfl (c_makes (X := eL (prsL x.2.2.2).1) (s := pn g.2.1 s j) hfree hf2 (by rw [va_up_self]; exact holds_wr) ((pk_un (by decide)).trans h18) (by omega)) (by decide) (Nat.le_refl _) (Nat.le_refl _) rfl rfl (Nat.le_of_ble_eq_true rfl) ?_
                exact mw_ireturn dX7_open_134 ⟨_, rfl, rfl⟩ ⟨rfl, _, _, rfl, rfl, rR_new hr hf2 w1 p1 (by omega) (fun j _ h8 => va_up_ne _ _ (by omega)) ((pk_un (by decide)).trans k1) ((pk_un (by decide)).trans k9)⟩
            · rw [if_pos hf]
              refine mw_if_gt (tgt := 95) dX7_open_85 (by decide) (fun _ => ?_) (fun c9 => absurd c9 (show ¬ ¬ nI 0 < nI (prsL x.2.2.2).2.1 from fun z => z (nI_lt (by omega) (by omega))))
              refine mw_iconst (v := 4) dX7_open_95 (by decide) ?_
              refine mw_goto (tgt := 100) dX7_open_96 (by decide) ?_
              refine gm_put dX7_open_100 fk_X7_44 (by decide) (gm_h0 _) ?_
              refine mw_aload_n (i := 0) dX7_open_103 rfl rfl ?_
              refine mw_get dX7_open_104 fk_X7_44 gm_0 rfl ?_
              refine mw_if_le (tgt := 114) dX7_open_107 (by decide) (fun c9 => absurd c9 (by first | decide | (rw [pk_us]; decide))) (fun _ => ?_)
              refine mw_iconst (v := 0) dX7_open_110 (by decide) ?_
              refine mw_goto (tgt := 134) dX7_open_111 (by decide) ?_
              exact mw_ireturn dX7_open_134 ⟨_, rfl, rfl⟩ (rP_I hr1 rfl rfl rfl)
end P5
