/-! keeps: a tag is cleared, the tape: written by gen/88.py (class side) -/
section K5
variable {sc : mSc} {g : mS} {H : mw_H} {A : Nat → Nat → Int32} {X : Nat → Nat → Int64} {s m i p s0 s2 : Nat} {L L2 : List af} {lf act y : Int32}
theorem lp_clear (hm : m < 5) (ht2 : tg i ≤ 31) {A0 : Nat → Nat → Int32} {X0 : Nat → Nat → Int64} {x39 x40 x41 : Option Value} {x21 x22 x23 x24 x25 x26 x27 x28 x29 x30 x31 x32 x33 x34 x35 x36 : Option Value} (k : ∀ A' X' x38, fR A' X' m (L.filter (fun x => !decide (nI x.1 = nI (tg i)))) → fF m A0 X0 A' X' → (∀ j, A' 11 j = A0 11 j) → mw_W mm_L_keeps 10 12 560 1605 (some (.ref 1) :: some (.int act) :: some (.int y) :: some (.ref 43) :: some (.ref 44) :: some (.ref 45) :: some (.ref 46) :: some (.ref 47) :: some (.ref 48) :: some (.ref 49) :: some (.ref 50) :: some (.ref 51) :: some (.ref 52) :: some (.ref 54) :: some (.int (lf)) :: some (.int (nI s0)) :: some (.int (nI m)) :: some (.int (nI (tg i))) :: some (.int (zKind g.2.1 s (nI (tg i)))) :: some (.int (lir (Pt g.2.1 s (nI (tg i))) (12 * m) L)) :: some (.int (nI p)) :: x21 :: x22 :: x23 :: x24 :: x25 :: x26 :: x27 :: x28 :: x29 :: x30 :: x31 :: x32 :: x33 :: x34 :: x35 :: x36 :: some (.int (nI (L.filter (fun x => decide (nI x.1 = nI (tg i)))).length)) :: x38 :: x39 :: x40 :: x41 :: []) [] (gl H A' X') (lwP sc)) : ∀ (n : Nat) (L1 F D : List af) (A : Nat → Nat → Int32) (X : Nat → Nat → Int64), L1.length = n → L = L1 ++ D → F = D.filter (fun x => !decide (nI x.1 = nI (tg i))) → (∀ x ∈ L, okf x) → fR A X m (L1 ++ F) → fF m A0 X0 A X → (∀ j, A 11 j = A0 11 j) →
    mw_W mm_L_keeps 10 12 560 1553 (some (.ref 1) :: some (.int act) :: some (.int y) :: some (.ref 43) :: some (.ref 44) :: some (.ref 45) :: some (.ref 46) :: some (.ref 47) :: some (.ref 48) :: some (.ref 49) :: some (.ref 50) :: some (.ref 51) :: some (.ref 52) :: some (.ref 54) :: some (.int (lf)) :: some (.int (nI s0)) :: some (.int (nI m)) :: some (.int (nI (tg i))) :: some (.int (zKind g.2.1 s (nI (tg i)))) :: some (.int (lir (Pt g.2.1 s (nI (tg i))) (12 * m) L)) :: some (.int (nI p)) :: x21 :: x22 :: x23 :: x24 :: x25 :: x26 :: x27 :: x28 :: x29 :: x30 :: x31 :: x32 :: x33 :: x34 :: x35 :: x36 :: some (.int (nI (D.filter (fun x => decide (nI x.1 = nI (tg i)))).length)) :: some (.int (nI (12 * m + n) - 1)) :: x39 :: x40 :: x41 :: []) [] (gl H A X) (lwP sc) := by
  intro n
  induction n with
  | zero =>
    intro L1 F D A X hn hL hF hok hR hFr hG
    have hn : L1 = [] := List.length_eq_zero_iff.mp hn
    subst hn
    have hL : L = D := hL
    subst hL
    have hR : fR A X m F := hR
    rw [hF] at hR
    refine mw_iload (i := 38) dL_keeps_1553 rfl ?_
    refine mw_bipush (v := 12) dL_keeps_1555 (by decide) ?_
    refine mw_iload (i := 16) dL_keeps_1557 rfl ?_
    refine mw_imul dL_keeps_1559 ?_
    rw [mx_12m]
    refine mw_icmp_lt (tgt := 1605) dL_keeps_1560 (by decide) (fun _ => ?_) (fun c9 => absurd c9 (fun z => z (dec_lt (by omega))))
    exact k A X _ hR hFr hG
  | succ n ih =>
    intro L1 F D A X hn hL hF hok hR hFr hG
    obtain ⟨L0, x, rfl⟩ : ∃ L0 x, L1 = L0 ++ [x] := by
      rcases List.eq_nil_or_concat L1 with h | ⟨L0, x, h⟩
      · rw [h] at hn; cases hn
      · exact ⟨L0, x, by rw [h]; simp⟩
    have hn : L0.length = n := by rw [List.length_append] at hn; exact Nat.succ.inj hn
    have e1 : (L0 ++ [x]) ++ F = L0 ++ x :: F := by simp
    have e2 : (L0 ++ [x]) ++ D = L0 ++ x :: D := by simp
    rw [e2] at hL
    rw [e1] at hR
    obtain ⟨hf, h1, h12⟩ := fR_at hR rfl
    rw [hn] at hf
    have hx := hok x (by rw [hL]; simp)
    obtain ⟨k1, k2, k3⟩ := okf_key hx
    have hx2 := hx.2.1
    have hlen : (L0 ++ x :: F).length = n + 1 + F.length := by rw [List.length_append, List.length_cons, hn]; omega
    rw [show nI (12 * m + (n + 1)) - 1 = nI (12 * m + n) from nI_pred _]
    refine mw_iload (i := 38) dL_keeps_1553 rfl ?_
    refine mw_bipush (v := 12) dL_keeps_1555 (by decide) ?_
    refine mw_iload (i := 16) dL_keeps_1557 rfl ?_
    refine mw_imul dL_keeps_1559 ?_
    rw [mx_12m]
    refine mw_icmp_lt (tgt := 1605) dL_keeps_1560 (by decide) (fun c9 => absurd c9 (by first | decide | exact (fun q => q rfl) | ((try simp only [fa_lit]); first | exact cq_le (by omega) (by omega) | exact cq_nle (by omega) (by omega) | exact cq_lt (by omega) (by omega) | exact cq_nlt (by omega) (by omega) | exact cq_eq (by omega) (by omega) (by omega) | exact cq_neq (by omega)))) (fun _ => ?_)
    refine mw_aload (i := 7) dL_keeps_1563 rfl ?_
    refine mw_iload (i := 38) dL_keeps_1565 rfl ?_
    refine mw_iald dL_keeps_1567 gl_4 (mw_ix rfl (by omega) (by decide)) ?_
    rw [hf.1]
    refine mw_bipush (v := 8) dL_keeps_1568 (by decide) ?_
    refine mw_idiv dL_keeps_1570 (by decide) ?_
    rw [mx_d8 (by omega), k2]
    by_cases et : x.1 = tg i
    · have hd : decide (nI x.1 = nI (tg i)) = true := decide_eq_true (by rw [et])
      have hrm := c_remove (H := H) (X := X) hm (i := n) (N := (L0 ++ x :: F).length) (by omega) hR.2.1 hR.1
      have hR' := fR_remove hR rfl
      rw [hn] at hR'
      have hFr' := hFr.tr (fF_remove (m := m) (A := A) (X := X) (i := n) (N := (L0 ++ x :: F).length) (by omega) hR.2.1)
      have h9 := ih L0 F (x :: D) _ _ hn hL (by rw [hF, List.filter_cons, if_neg (by rw [hd]; decide)]) hok hR' hFr' (fun j => by rw [rmA_n _ _ _ (by decide) (by decide), va_up_ne _ _ (by decide)]; exact hG j)
      rw [List.filter_cons, if_pos hd, List.length_cons] at h9
      refine mw_iload (i := 17) dL_keeps_1571 rfl ?_
      refine mw_icmp_eq (tgt := 1579) dL_keeps_1573 (by decide) (fun _ => ?_) (fun c9 => absurd c9 (by first | decide | exact (fun q => q rfl) | ((try simp only [fa_lit]); first | exact cq_le (by omega) (by omega) | exact cq_nle (by omega) (by omega) | exact cq_lt (by omega) (by omega) | exact cq_nlt (by omega) (by omega) | exact cq_eq (by omega) (by omega) (by omega) | exact cq_neq (by omega))))
      refine mw_aload (i := 6) dL_keeps_1579 rfl ?_
      refine mw_aload (i := 7) dL_keeps_1581 rfl ?_
      refine mw_aload (i := 8) dL_keeps_1583 rfl ?_
      refine mw_aload (i := 9) dL_keeps_1585 rfl ?_
      refine mw_aload (i := 10) dL_keeps_1587 rfl ?_
      refine mw_iload (i := 16) dL_keeps_1589 rfl ?_
      refine mw_iload (i := 38) dL_keeps_1591 rfl ?_
      refine mw_callSv dL_keeps_1593 mk_L_115 (hrm) (by decide) (Nat.le_refl _) (Nat.le_refl _) rfl rfl (Nat.le_of_ble_eq_true rfl) ?_
      refine mw_iinc_37 dL_keeps_1596 (by decide) rfl ?_
      refine mw_iinc_38 dL_keeps_1599 (by decide) rfl ?_
      refine mw_goto (tgt := 1553) dL_keeps_1602 (by decide) ?_
      rw [nI_dec, show nI (D.filter (fun x => decide (nI x.1 = nI (tg i)))).length + Int32.ofInt 1 = nI ((D.filter (fun x => decide (nI x.1 = nI (tg i)))).length + 1) from nI_1 _]
      exact h9
    · have hd : ¬ decide (nI x.1 = nI (tg i)) = true := fun z => et ((nI_eq (by omega) (by omega)).mp (of_decide_eq_true z))
      have h9 := ih L0 (x :: F) (x :: D) A X hn hL (by rw [hF, List.filter_cons, if_pos (by rw [Bool.eq_false_iff.mpr hd]; rfl)]) hok hR hFr hG
      rw [List.filter_cons, if_neg hd] at h9
      refine mw_iload (i := 17) dL_keeps_1571 rfl ?_
      refine mw_icmp_eq (tgt := 1579) dL_keeps_1573 (by decide) (fun c9 => absurd c9 (by first | decide | exact (fun q => q rfl) | ((try simp only [fa_lit]); first | exact cq_le (by omega) (by omega) | exact cq_nle (by omega) (by omega) | exact cq_lt (by omega) (by omega) | exact cq_nlt (by omega) (by omega) | exact cq_eq (by omega) (by omega) (by omega) | exact cq_neq (by omega)))) (fun _ => ?_)
      refine mw_goto (tgt := 1599) dL_keeps_1576 (by decide) ?_
      refine mw_iinc_38 dL_keeps_1599 (by decide) rfl ?_
      refine mw_goto (tgt := 1553) dL_keeps_1602 (by decide) ?_
      rw [nI_dec]
      exact h9
theorem kp_clear (hI : cS sc g H A X) (hM : mR g A X) (hfr : frP g lf) (hs0 : s0 < g.1) (hm : m < 5) (hT : g.2.2.1 m = some (s, L)) (hi : i < 6) (hp : p < 5) (hTp : g.2.2.1 p = some (s2, L2)) {x21 x22 x23 x24 x25 x26 x27 x28 x29 x30 x31 x32 x33 x34 x35 x36 x37 x38 x39 x40 x41 : Option Value} : mw_W mm_L_keeps 10 12 560 1535 (some (.ref 1) :: some (.int act) :: some (.int y) :: some (.ref 43) :: some (.ref 44) :: some (.ref 45) :: some (.ref 46) :: some (.ref 47) :: some (.ref 48) :: some (.ref 49) :: some (.ref 50) :: some (.ref 51) :: some (.ref 52) :: some (.ref 54) :: some (.int (lf)) :: some (.int (nI s0)) :: some (.int (nI m)) :: some (.int (nI (tg i))) :: some (.int (zKind g.2.1 s (nI (tg i)))) :: some (.int (lir (Pt g.2.1 s (nI (tg i))) (12 * m) L)) :: some (.int (nI p)) :: x21 :: x22 :: x23 :: x24 :: x25 :: x26 :: x27 :: x28 :: x29 :: x30 :: x31 :: x32 :: x33 :: x34 :: x35 :: x36 :: x37 :: x38 :: x39 :: x40 :: x41 :: []) [] (gl H A X) (lwP sc) := by
  have hgok := cS_ok hI
  have hns4 := mR_ns hM
  have ht := tg_in hi
  obtain ⟨hk, hg0, hms, hmo, hg1, h64, htp, -⟩ := id hM
  obtain ⟨hs, hok, h120⟩ := hgok.2.2.2.1 m s L (by omega) hT
  obtain ⟨hA, hR⟩ := (hms m hm).2 s L hT
  have h12 := hR.2.1
  have hsM := sM_at (g := g) (by omega) hT
  have hsS := sS_at hgok.1 hs0
  refine mw_iconst (v := 0) dL_keeps_1535 (by decide) ?_
  refine mw_istore_37 dL_keeps_1536 (by decide) ?_
  refine mw_bipush (v := 12) dL_keeps_1538 (by decide) ?_
  refine mw_iload (i := 16) dL_keeps_1540 rfl ?_
  refine mw_imul dL_keeps_1542 ?_
  rw [mx_12m]
  refine mw_aload (i := 6) dL_keeps_1543 rfl ?_
  refine mw_iload (i := 16) dL_keeps_1545 rfl ?_
  refine mw_iald dL_keeps_1547 gl_3 (mw_ix rfl hm (by decide)) ?_
  rw [hR.1]
  refine mw_iadd dL_keeps_1548 ?_
  rw [nI_add]
  refine mw_iconst (v := 1) dL_keeps_1549 (by decide) ?_
  refine mw_isub dL_keeps_1550 ?_
  refine mw_istore_38 dL_keeps_1551 (by decide) ?_
  refine lp_clear (lf := lf) (s0 := s0) (act := act) (y := y) (p := p) (L := L) hm ht.2 (A0 := A) (X0 := X) (fun A' X' x38 hR' hF' hG' => ?_) L.length L [] [] A X rfl (by simp) rfl hok (by simpa using hR) fF.rf (fun _ => rfl)
  have hI := cS_gl (A' := A') (X' := X') hI
  have hM' := mR_put hM hm hT hR' hF'
  have hsp : sp_clear g (nI m) (nI (tg i)) = (0, nI (L.filter (fun x => decide (nI x.1 = nI (tg i)))).length, gSet g m s (L.filter (fun x => !decide (nI x.1 = nI (tg i))))) := by
    unfold sp_clear
    rw [hsM]
    show (if zTag (nI (tg i)) = 0 then _ else _) = _
    rw [zTag_of ht.1 ht.2, if_neg (by decide)]
  have hw := d_clear hI (nI m) (nI (tg i)) (by rw [hsp])
  rw [hsp] at hw
  have hT' : (gSet g m s (L.filter (fun x => !decide (nI x.1 = nI (tg i))))).2.2.1 m = some (s, L.filter (fun x => !decide (nI x.1 = nI (tg i)))) := if_pos rfl
  have hlk : lastK g.2.1 s (nI (tg i)) (L.filter (fun x => !decide (nI x.1 = nI (tg i)))) = none := lastK_no (fun x hx => by
    have h9 := (List.mem_filter.mp hx).2
    unfold Pt
    cases hd : decide (nI x.1 = nI (tg i)) with
    | false => rfl
    | true => rw [hd] at h9; cases h9)
  have hs2 : sp_has (gSet g m s (L.filter (fun x => !decide (nI x.1 = nI (tg i))))) (nI m) (nI (tg i)) = (0, 0, gSet g m s (L.filter (fun x => !decide (nI x.1 = nI (tg i))))) := by
    unfold sp_has
    rw [sM_at (by omega) hT']
    show (if zTag (nI (tg i)) = 0 then _ else (0, (if (lastK g.2.1 s (nI (tg i)) (L.filter (fun x => !decide (nI x.1 = nI (tg i))))).isSome then (1 : Int32) else 0), _)) = _
    rw [zTag_of ht.1 ht.2, if_neg (by decide), hlk]
    rfl
  generalize gSet g m s (L.filter (fun x => !decide (nI x.1 = nI (tg i)))) = g' at hw hs2 hM'
  refine mw_aload_n (i := 0) dL_keeps_1605 rfl rfl ?_
  refine mw_iload (i := 16) dL_keeps_1606 rfl ?_
  refine mw_iload (i := 17) dL_keeps_1608 rfl ?_
  refine mw_callV dL_keeps_1610 mk_L_188 (cS_o hI) rfl (hw) (by decide) (Nat.le_refl _) (Nat.le_refl _) rfl rfl (Nat.le_of_ble_eq_true rfl) (fun E9 h9 q9 => ?_) (fun v9 h9 q9 => ?_)
  · cases q9.1
  obtain ⟨e9, H1, rfl, hI⟩ := q9
  cases e9
  have hI : cS sc g' H1 A' X' := hI
  have hw := d_has hI (nI m) (nI (tg i)) (by rw [hs2])
  rw [hs2] at hw
  refine mw_iload (i := 37) dL_keeps_1613 rfl ?_
  refine mw_icmp_ne (tgt := 1633) dL_keeps_1615 (by decide) (fun c9 => absurd c9 (by first | decide | exact (fun q => q rfl))) (fun _ => ?_)
  refine mw_aload_n (i := 0) dL_keeps_1618 rfl rfl ?_
  refine mw_iload (i := 16) dL_keeps_1619 rfl ?_
  refine mw_iload (i := 17) dL_keeps_1621 rfl ?_
  refine mw_callV dL_keeps_1623 mk_L_191 (cS_o hI) rfl (hw) (by decide) (Nat.le_refl _) (Nat.le_refl _) rfl rfl (Nat.le_of_ble_eq_true rfl) (fun E9 h9 q9 => ?_) (fun v9 h9 q9 => ?_)
  · cases q9.1
  obtain ⟨e9, H2, rfl, hI⟩ := q9
  cases e9
  refine mw_if_ne (tgt := 1633) dL_keeps_1626 (by decide) (fun c9 => absurd c9 (by first | decide | exact (fun q => q rfl))) (fun _ => ?_)
  refine mw_iconst (v := 1) dL_keeps_1629 (by decide) ?_
  refine mw_goto (tgt := 1634) dL_keeps_1630 (by decide) ?_
  exact mw_ireturn dL_keeps_1634 ⟨_, rfl, rfl⟩ ⟨rfl, _, _, _, _, rfl, hI, hM'⟩
/-- the tape is Y now -/
theorem mR_tp (hM : mR g A X) {A' : Nat → Nat → Int32} {Y : List Nat} (h : ∀ j, j ≠ 8 → j ≠ 9 → j ≠ 10 → j ≠ 11 → A' j = A j) (g0 : A' 11 0 = A 11 0) (g1 : A' 11 1 = nI Y.length) (hl : Y.length ≤ 64) (hY : ∀ j, j < Y.length → A' 8 j = nI (Y.getD j 0)) : mR (gTape g Y) A' X := by
  obtain ⟨a1, a2, a3, a4, a5, a6, a7, a8⟩ := hM
  have hn : ∀ j, j < 8 → A' j = A j := fun j hj => h j (by omega) (by omega) (by omega) (by omega)
  refine ⟨kR_cong a1 (hn 0 (by decide)) (hn 1 (by decide)), g0.trans a2, fun m hm => ?_, a4, g1, hl, hY, fun j hj => by rw [hn 0 (by decide)]; exact a8 j hj⟩
  rw [hn 2 (by decide)]
  exact ⟨(a3 m hm).1, fun s L hT => ⟨((a3 m hm).2 s L hT).1, fR_cong ((a3 m hm).2 s L hT).2 (by rw [hn 3 (by decide)]) (fun p _ _ => ⟨by rw [hn 4 (by decide)], by rw [hn 5 (by decide)], rfl, rfl⟩)⟩⟩
theorem lp_tape {C : List Nat} (hC : C.length ≤ 64) {B : Nat → Nat → Int32} (hq : ∀ j, j < C.length → B 9 j = nI (C.getD j 0)) {x40 x41 : Option Value} {x21 x22 x23 x24 x25 x26 x27 x28 x29 x30 x31 x32 x33 x34 x35 x36 x37 : Option Value} (k : ∀ x39, mw_W mm_L_keeps 10 12 560 1717 (some (.ref 1) :: some (.int act) :: some (.int y) :: some (.ref 43) :: some (.ref 44) :: some (.ref 45) :: some (.ref 46) :: some (.ref 47) :: some (.ref 48) :: some (.ref 49) :: some (.ref 50) :: some (.ref 51) :: some (.ref 52) :: some (.ref 54) :: some (.int (lf)) :: some (.int (nI s0)) :: some (.int (nI m)) :: some (.int (nI (tg i))) :: some (.int (zKind g.2.1 s (nI (tg i)))) :: some (.int (lir (Pt g.2.1 s (nI (tg i))) (12 * m) L)) :: some (.int (nI p)) :: x21 :: x22 :: x23 :: x24 :: x25 :: x26 :: x27 :: x28 :: x29 :: x30 :: x31 :: x32 :: x33 :: x34 :: x35 :: x36 :: x37 :: some (.int (nI C.length)) :: x39 :: x40 :: x41 :: []) [] (gl H (va_up B 8 (rcp (B 8) C C.length)) X) (lwP sc)) : ∀ (n j : Nat), j + n = C.length → mw_W mm_L_keeps 10 12 560 1694 (some (.ref 1) :: some (.int act) :: some (.int y) :: some (.ref 43) :: some (.ref 44) :: some (.ref 45) :: some (.ref 46) :: some (.ref 47) :: some (.ref 48) :: some (.ref 49) :: some (.ref 50) :: some (.ref 51) :: some (.ref 52) :: some (.ref 54) :: some (.int (lf)) :: some (.int (nI s0)) :: some (.int (nI m)) :: some (.int (nI (tg i))) :: some (.int (zKind g.2.1 s (nI (tg i)))) :: some (.int (lir (Pt g.2.1 s (nI (tg i))) (12 * m) L)) :: some (.int (nI p)) :: x21 :: x22 :: x23 :: x24 :: x25 :: x26 :: x27 :: x28 :: x29 :: x30 :: x31 :: x32 :: x33 :: x34 :: x35 :: x36 :: x37 :: some (.int (nI C.length)) :: some (.int (nI j)) :: x40 :: x41 :: []) [] (gl H (va_up B 8 (rcp (B 8) C j)) X) (lwP sc) := by
  intro n
  induction n with
  | zero =>
    intro j hj
    have hj : j = C.length := by omega
    subst hj
    refine mw_iload (i := 39) dL_keeps_1694 rfl ?_
    refine mw_iload (i := 38) dL_keeps_1696 rfl ?_
    refine mw_icmp_ge (tgt := 1717) dL_keeps_1698 (by decide) (fun _ => ?_) (fun c9 => absurd c9 (by first | decide | exact (fun q => q rfl) | ((try simp only [fa_lit]); first | exact cq_le (by omega) (by omega) | exact cq_nle (by omega) (by omega) | exact cq_lt (by omega) (by omega) | exact cq_nlt (by omega) (by omega) | exact cq_eq (by omega) (by omega) (by omega) | exact cq_neq (by omega))))
    exact k _
  | succ n ih =>
    intro j hj
    refine mw_iload (i := 39) dL_keeps_1694 rfl ?_
    refine mw_iload (i := 38) dL_keeps_1696 rfl ?_
    refine mw_icmp_ge (tgt := 1717) dL_keeps_1698 (by decide) (fun c9 => absurd c9 (by first | decide | exact (fun q => q rfl) | ((try simp only [fa_lit]); first | exact cq_le (by omega) (by omega) | exact cq_nle (by omega) (by omega) | exact cq_lt (by omega) (by omega) | exact cq_nlt (by omega) (by omega) | exact cq_eq (by omega) (by omega) (by omega) | exact cq_neq (by omega)))) (fun _ => ?_)
    refine mw_aload (i := 11) dL_keeps_1701 rfl ?_
    refine mw_iload (i := 39) dL_keeps_1703 rfl ?_
    refine mw_aload (i := 12) dL_keeps_1705 rfl ?_
    refine mw_iload (i := 39) dL_keeps_1707 rfl ?_
    refine mw_iald dL_keeps_1709 gl_9 (mw_ix rfl (by omega) (by decide)) ?_
    refine mw_top (show va_up B 8 (rcp (B 8) C j) 9 j = nI (C.getD j 0) by rw [va_up_ne _ _ (by decide)]; exact hq j (by omega)) ?_
    refine gl_st8 dL_keeps_1710 (mw_ix rfl (by omega) (by decide)) ?_
    refine mw_iinc_39 dL_keeps_1711 (by decide) rfl ?_
    refine mw_goto (tgt := 1694) dL_keeps_1714 (by decide) ?_
    rw [va_up_self, up_up, rcp_s, show nI j + Int32.ofInt 1 = nI (j + 1) from nI_1 _]
    exact ih (j + 1) (by omega)
theorem kp_write (hI : cS sc g H A X) (hM : mR g A X) (hfr : frP g lf) (hs0 : s0 < g.1) (hm : m < 5) (hT : g.2.2.1 m = some (s, L)) (hi : i < 6) (hp : p < 5) (hTp : g.2.2.1 p = some (s2, L2)) {x21 x22 x23 x24 x25 x26 x27 x28 x29 x30 x31 x32 x33 x34 x35 x36 x37 x38 x39 x40 x41 : Option Value} : mw_W mm_L_keeps 10 12 560 1635 (some (.ref 1) :: some (.int act) :: some (.int y) :: some (.ref 43) :: some (.ref 44) :: some (.ref 45) :: some (.ref 46) :: some (.ref 47) :: some (.ref 48) :: some (.ref 49) :: some (.ref 50) :: some (.ref 51) :: some (.ref 52) :: some (.ref 54) :: some (.int (lf)) :: some (.int (nI s0)) :: some (.int (nI m)) :: some (.int (nI (tg i))) :: some (.int (zKind g.2.1 s (nI (tg i)))) :: some (.int (lir (Pt g.2.1 s (nI (tg i))) (12 * m) L)) :: some (.int (nI p)) :: x21 :: x22 :: x23 :: x24 :: x25 :: x26 :: x27 :: x28 :: x29 :: x30 :: x31 :: x32 :: x33 :: x34 :: x35 :: x36 :: x37 :: x38 :: x39 :: x40 :: x41 :: []) [] (gl H A X) (lwP sc) := by
  have hgok := cS_ok hI
  have hns4 := mR_ns hM
  have ht := tg_in hi
  obtain ⟨hk, hg0, hms, hmo, hg1, h64, htp, -⟩ := id hM
  obtain ⟨hs, hok, h120⟩ := hgok.2.2.2.1 m s L (by omega) hT
  obtain ⟨hA, hR⟩ := (hms m hm).2 s L hT
  have h12 := hR.2.1
  have hsM := sM_at (g := g) (by omega) hT
  have hsS := sS_at hgok.1 hs0
  have hca := c_canonical (H := H) hk hs hA hm hok hR h120
  have hCb : ∀ z ∈ eL (can g.2.1 s L), z < 256 := eL_lt (can_ok hok)
  have hCl : (eL (can g.2.1 s L)).length ≤ 120 := Nat.le_trans (canU_le g.2.1 s L 31) h120
  have hsp : sp_write g (nI m) = (0, nI (eL (can g.2.1 s L)).length, gTape g (eL (can g.2.1 s L))) := by
    unfold sp_write
    rw [hsM]
  generalize eL (can g.2.1 s L) = C at hca hsp hCb hCl
  have hM2 : mR g (AW A 0 C) X := mR_scr hM (fun j z9 z10 z11 => AW_n _ _ _ z9 z11) (by rw [AW_g', pk_un (by decide)]) (by rw [AW_g', pk_un (by decide)])
  have hI := cS_gl (A' := AW A 0 C) (X' := X) hI
  refine mw_aload_n (i := 3) dL_keeps_1635 rfl rfl ?_
  refine mw_aload (i := 4) dL_keeps_1636 rfl ?_
  refine mw_aload (i := 5) dL_keeps_1638 rfl ?_
  refine mw_aload (i := 6) dL_keeps_1640 rfl ?_
  refine mw_aload (i := 7) dL_keeps_1642 rfl ?_
  refine mw_aload (i := 8) dL_keeps_1644 rfl ?_
  refine mw_aload (i := 9) dL_keeps_1646 rfl ?_
  refine mw_aload (i := 10) dL_keeps_1648 rfl ?_
  refine mw_aload (i := 12) dL_keeps_1650 rfl ?_
  refine mw_aload (i := 13) dL_keeps_1652 rfl ?_
  refine mw_iload (i := 16) dL_keeps_1654 rfl ?_
  refine mw_callSr dL_keeps_1656 mk_L_184 (hca) (by decide) (Nat.le_refl _) (Nat.le_refl _) rfl rfl (Nat.le_of_ble_eq_true rfl) ?_
  refine mw_istore_38 dL_keeps_1659 (by decide) ?_
  by_cases hbig : 64 < C.length
  · have hw := d_length hI rfl
    refine mw_iload (i := 38) dL_keeps_1661 rfl ?_
    refine mw_bipush (v := 64) dL_keeps_1663 (by decide) ?_
    refine mw_icmp_le (tgt := 1685) dL_keeps_1665 (by decide) (fun c9 => absurd c9 (by first | decide | exact (fun q => q rfl) | ((try simp only [fa_lit]); first | exact cq_le (by omega) (by omega) | exact cq_nle (by omega) (by omega) | exact cq_lt (by omega) (by omega) | exact cq_nlt (by omega) (by omega) | exact cq_eq (by omega) (by omega) (by omega) | exact cq_neq (by omega)))) (fun _ => ?_)
    refine mw_aload_n (i := 0) dL_keeps_1668 rfl rfl ?_
    refine mw_callV dL_keeps_1669 mk_L_195 (cS_o hI) rfl (hw) (by decide) (Nat.le_refl _) (Nat.le_refl _) rfl rfl (Nat.le_of_ble_eq_true rfl) (fun E9 h9 q9 => ?_) (fun v9 h9 q9 => ?_)
    · cases q9.1
    obtain ⟨e9, H1, rfl, hI⟩ := q9
    cases e9
    refine mw_aload (i := 13) dL_keeps_1672 rfl ?_
    refine mw_iconst (v := 1) dL_keeps_1674 (by decide) ?_
    refine mw_iald dL_keeps_1675 gl_11 (mw_ix (j := 1) rfl (by decide) (by decide)) ?_
    refine mw_top hM2.2.2.2.2.1 ?_
    refine mw_icmp_ne (tgt := 1683) dL_keeps_1676 (by decide) (fun c9 => absurd c9 (by first | decide | exact (fun q => q rfl))) (fun _ => ?_)
    refine mw_iconst (v := 1) dL_keeps_1679 (by decide) ?_
    refine mw_goto (tgt := 1684) dL_keeps_1680 (by decide) ?_
    exact mw_ireturn dL_keeps_1684 ⟨_, rfl, rfl⟩ ⟨rfl, _, _, _, _, rfl, hI, hM2⟩
  · refine mw_iload (i := 38) dL_keeps_1661 rfl ?_
    refine mw_bipush (v := 64) dL_keeps_1663 (by decide) ?_
    refine mw_icmp_le (tgt := 1685) dL_keeps_1665 (by decide) (fun _ => ?_) (fun c9 => absurd c9 (by first | decide | exact (fun q => q rfl) | ((try simp only [fa_lit]); first | exact cq_le (by omega) (by omega) | exact cq_nle (by omega) (by omega) | exact cq_lt (by omega) (by omega) | exact cq_nlt (by omega) (by omega) | exact cq_eq (by omega) (by omega) (by omega) | exact cq_neq (by omega))))
    refine mw_aload (i := 13) dL_keeps_1685 rfl ?_
    refine mw_iconst (v := 1) dL_keeps_1687 (by decide) ?_
    refine mw_iload (i := 38) dL_keeps_1688 rfl ?_
    refine gl_st11 dL_keeps_1690 (mw_ix (j := 1) rfl (by decide) (by decide)) ?_
    refine mw_iconst (v := 0) dL_keeps_1691 (by decide) ?_
    refine mw_istore_39 dL_keeps_1692 (by decide) ?_
    generalize hB : va_up (AW A 0 C) 11 (upd (AW A 0 C 11) 1 (nI C.length)) = B
    have bn : ∀ j, j ≠ 9 → j ≠ 11 → B j = A j := fun j z9 z11 => by rw [← hB, va_up_ne _ _ z11, AW_n _ _ _ z9 z11]
    have b9 : ∀ j, j < C.length → B 9 j = nI (C.getD j 0) := fun j hj => by rw [← hB, va_up_ne _ _ (by decide), AW_q]; exact wq_get hj (by omega)
    have b11 : B 11 1 = nI C.length ∧ B 11 0 = A 11 0 := by
      rw [← hB, va_up_self, AW_g']
      exact ⟨pk_us, by rw [pk_un (by decide), pk_un (by decide)]⟩
    have htl := fun k => lp_tape (g := g) (H := H) (X := X) (s := s) (m := m) (i := i) (p := p) (s0 := s0) (L := L) (lf := lf) (act := act) (y := y) (sc := sc) (C := C) (by omega) (B := B) b9 (x40 := x40) (x41 := x41) (x21 := x21) (x22 := x22) (x23 := x23) (x24 := x24) (x25 := x25) (x26 := x26) (x27 := x27) (x28 := x28) (x29 := x29) (x30 := x30) (x31 := x31) (x32 := x32) (x33 := x33) (x34 := x34) (x35 := x35) (x36 := x36) (x37 := x37)  k C.length 0 (by omega)
    rw [rcp_0, up_same] at htl
    refine htl (fun x39 => ?_)
    have hI := cS_gl (A' := va_up B 8 (rcp (B 8) C C.length)) (X' := X) hI
    have hw := d_write hI (nI m) (by rw [hsp])
    rw [hsp] at hw
    refine mw_aload_n (i := 0) dL_keeps_1717 rfl rfl ?_
    refine mw_iload (i := 16) dL_keeps_1718 rfl ?_
    refine mw_callV dL_keeps_1720 mk_L_198 (cS_o hI) rfl (hw) (by decide) (Nat.le_refl _) (Nat.le_refl _) rfl rfl (Nat.le_of_ble_eq_true rfl) (fun E9 h9 q9 => ?_) (fun v9 h9 q9 => ?_)
    · cases q9.1
    obtain ⟨e9, H1, rfl, hI⟩ := q9
    cases e9
    refine mw_iload (i := 38) dL_keeps_1723 rfl ?_
    refine mw_icmp_ne (tgt := 1732) dL_keeps_1725 (by decide) (fun c9 => absurd c9 (by first | decide | exact (fun q => q rfl))) (fun _ => ?_)
    refine mw_iconst (v := 1) dL_keeps_1728 (by decide) ?_
    refine mw_goto (tgt := 1733) dL_keeps_1729 (by decide) ?_
    refine mw_ireturn dL_keeps_1733 ⟨_, rfl, rfl⟩ ⟨rfl, _, _, _, _, rfl, hI, ?_⟩
    refine mR_tp hM (fun j z8 z9 z10 z11 => by rw [va_up_ne _ _ z8, bn j z9 z11]) (by rw [va_up_ne _ _ (by decide)]; exact b11.2) (by rw [va_up_ne _ _ (by decide)]; exact b11.1) (by omega) (fun j hj => ?_)
    rw [va_up_self]
    exact if_pos hj
theorem kp_cut (hI : cS sc g H A X) (hM : mR g A X) (hfr : frP g lf) (hs0 : s0 < g.1) (hm : m < 5) (hT : g.2.2.1 m = some (s, L)) (hi : i < 6) (hp : p < 5) (hTp : g.2.2.1 p = some (s2, L2)) {x21 x22 x23 x24 x25 x26 x27 x28 x29 x30 x31 x32 x33 x34 x35 x36 x37 x38 x39 x40 x41 : Option Value} (h0 : y &&& 28672 = 0) : mw_W mm_L_keeps 10 12 560 1734 (some (.ref 1) :: some (.int act) :: some (.int y) :: some (.ref 43) :: some (.ref 44) :: some (.ref 45) :: some (.ref 46) :: some (.ref 47) :: some (.ref 48) :: some (.ref 49) :: some (.ref 50) :: some (.ref 51) :: some (.ref 52) :: some (.ref 54) :: some (.int (lf)) :: some (.int (nI s0)) :: some (.int (nI m)) :: some (.int (nI (tg i))) :: some (.int (zKind g.2.1 s (nI (tg i)))) :: some (.int (lir (Pt g.2.1 s (nI (tg i))) (12 * m) L)) :: some (.int (nI p)) :: x21 :: x22 :: x23 :: x24 :: x25 :: x26 :: x27 :: x28 :: x29 :: x30 :: x31 :: x32 :: x33 :: x34 :: x35 :: x36 :: x37 :: x38 :: x39 :: x40 :: x41 :: []) [] (gl H A X) (lwP sc) := by
  have hgok := cS_ok hI
  have hns4 := mR_ns hM
  have ht := tg_in hi
  obtain ⟨hk, hg0, hms, hmo, hg1, h64, htp, -⟩ := id hM
  obtain ⟨hs, hok, h120⟩ := hgok.2.2.2.1 m s L (by omega) hT
  obtain ⟨hA, hR⟩ := (hms m hm).2 s L hT
  have h12 := hR.2.1
  have hsM := sM_at (g := g) (by omega) hT
  have hsS := sS_at hgok.1 hs0
  have hl32 : g.2.2.2.length < 2 ^ 31 := by omega
  have hst : uN (y >>> (15 &&& 31)) / 2 % (g.2.2.2.length + 1) < g.2.2.2.length + 1 := Nat.mod_lt _ (by omega)
  refine mw_iload_n (i := 2) dL_keeps_1734 rfl rfl ?_
  refine mw_sipush (v := 28672) dL_keeps_1735 (by decide) ?_
  refine mw_iand dL_keeps_1738 ?_
  refine mw_if_ne (tgt := 1818) dL_keeps_1739 (by decide) (fun c9 => absurd c9 (fun z => z h0)) (fun _ => ?_)
  refine mw_iload_n (i := 2) dL_keeps_1742 rfl rfl ?_
  refine mw_bipush (v := 15) dL_keeps_1743 (by decide) ?_
  refine mw_ishr dL_keeps_1745 ?_
  refine mw_aload (i := 13) dL_keeps_1746 rfl ?_
  refine mw_iconst (v := 1) dL_keeps_1748 (by decide) ?_
  refine mw_iald dL_keeps_1749 gl_11 (mw_ix (j := 1) rfl (by decide) (by decide)) ?_
  rw [hg1]
  refine mw_iconst (v := 1) dL_keeps_1750 (by decide) ?_
  refine mw_iadd dL_keeps_1751 ?_
  rw [show nI g.2.2.2.length + 1 = nI (g.2.2.2.length + 1) from nI_1 _]
  refine mw_callSr dL_keeps_1752 mk_L_129 ((c_low _ (by omega) (by omega))) (by decide) (Nat.le_refl _) (Nat.le_refl _) rfl rfl (Nat.le_of_ble_eq_true rfl) ?_
  generalize uN (y >>> (15 &&& 31)) / 2 % (g.2.2.2.length + 1) = st at hst ⊢
  refine mw_istore_39 dL_keeps_1755 (by decide) ?_
  refine mw_aload (i := 13) dL_keeps_1757 rfl ?_
  refine mw_iconst (v := 1) dL_keeps_1759 (by decide) ?_
  refine mw_iald dL_keeps_1760 gl_11 (mw_ix (j := 1) rfl (by decide) (by decide)) ?_
  rw [hg1]
  refine mw_iload (i := 39) dL_keeps_1761 rfl ?_
  refine mw_isub dL_keeps_1763 ?_
  rw [pk_sub (by omega)]
  refine mw_istore_40 dL_keeps_1764 (by decide) ?_
  refine mw_aload (i := 13) dL_keeps_1766 rfl ?_
  refine mw_iconst (v := 1) dL_keeps_1768 (by decide) ?_
  refine mw_iald dL_keeps_1769 gl_11 (mw_ix (j := 1) rfl (by decide) (by decide)) ?_
  rw [hg1]
  refine mw_istore_41 dL_keeps_1770 (by decide) ?_
  refine mw_aload (i := 13) dL_keeps_1772 rfl ?_
  refine mw_iconst (v := 1) dL_keeps_1774 (by decide) ?_
  refine mw_iload (i := 39) dL_keeps_1775 rfl ?_
  refine gl_st11 dL_keeps_1777 (mw_ix (j := 1) rfl (by decide) (by decide)) ?_
  refine mw_aload_n (i := 0) dL_keeps_1778 rfl rfl ?_
  refine mw_iload (i := 41) dL_keeps_1779 rfl ?_
  refine mw_iconst (v := 1) dL_keeps_1781 (by decide) ?_
  rw [show nI g.2.2.2.length = nI g.2.2.2.length from rfl]
  have hI := cS_gl (A' := va_up A 11 (upd (A 11) 1 (nI st))) (X' := X) hI
  have hs1 : sp_cut g (nI (g.2.2.2.length + 1)) = (1, 0, g) := by
    unfold sp_cut
    rw [show nI g.2.2.2.length = nI (g.2.2.2.length + 1) - 1 from (nI_pred _).symm, zi_out (Nat.le_refl _) (by omega), if_pos rfl]
  have hs2 : sp_cut g (-1) = (1, 0, g) := by
    unfold sp_cut
    rw [zi_neg (by decide), if_pos rfl]
  have hs3 : sp_cut g (nI st) = (0, nI (g.2.2.2.length - st), gTape g (g.2.2.2.take st)) := by
    unfold sp_cut
    rw [show zIn (nI st) 0 (nI g.2.2.2.length) = 1 by
      have h := zi_in (n := g.2.2.2.length + 1) hst (by omega)
      rw [nI_pred] at h
      exact h, if_neg (by decide), pk_sub (by omega), nI_clamp (by omega)]
  have hw := w_cut hI (nI (g.2.2.2.length + 1))
  rw [hs1] at hw
  refine mw_iadd dL_keeps_1782 ?_
  rw [show nI g.2.2.2.length + 1 = nI (g.2.2.2.length + 1) from nI_1 _]
  refine mw_callSX dL_keeps_1783 mk_L_201 (hw) (by decide) (Nat.le_refl _) (Nat.le_refl _) rfl rfl (Nat.le_of_ble_eq_true rfl) (fun E9 h9 q9 => ?_) (fun v9 h9 q9 => ?_)
  · cases q9.1
  obtain ⟨e9, H1, rfl, hI⟩ := q9
  cases e9
  have hw := w_cut hI (-1)
  rw [hs2] at hw
  refine mw_bipush (v := -71) dL_keeps_1786 (by decide) ?_
  refine mw_icmp_ne (tgt := 1816) dL_keeps_1788 (by decide) (fun c9 => absurd c9 (by first | decide | exact (fun q => q rfl))) (fun _ => ?_)
  refine mw_aload_n (i := 0) dL_keeps_1791 rfl rfl ?_
  refine mw_iconst (v := -1) dL_keeps_1792 (by decide) ?_
  refine mw_callSX dL_keeps_1793 mk_L_201 (hw) (by decide) (Nat.le_refl _) (Nat.le_refl _) rfl rfl (Nat.le_of_ble_eq_true rfl) (fun E9 h9 q9 => ?_) (fun v9 h9 q9 => ?_)
  · cases q9.1
  obtain ⟨e9, H2, rfl, hI⟩ := q9
  cases e9
  have hw := w_cut hI (nI st)
  rw [hs3] at hw
  refine mw_bipush (v := -71) dL_keeps_1796 (by decide) ?_
  refine mw_icmp_ne (tgt := 1816) dL_keeps_1798 (by decide) (fun c9 => absurd c9 (by first | decide | exact (fun q => q rfl))) (fun _ => ?_)
  refine mw_aload_n (i := 0) dL_keeps_1801 rfl rfl ?_
  refine mw_iload (i := 39) dL_keeps_1802 rfl ?_
  refine mw_callSX dL_keeps_1804 mk_L_201 (hw) (by decide) (Nat.le_refl _) (Nat.le_refl _) rfl rfl (Nat.le_of_ble_eq_true rfl) (fun E9 h9 q9 => ?_) (fun v9 h9 q9 => ?_)
  · cases q9.1
  obtain ⟨e9, H3, rfl, hI⟩ := q9
  cases e9
  refine mw_iload (i := 40) dL_keeps_1807 rfl ?_
  refine mw_icmp_ne (tgt := 1816) dL_keeps_1809 (by decide) (fun c9 => absurd c9 (by first | decide | exact (fun q => q rfl))) (fun _ => ?_)
  refine mw_iconst (v := 1) dL_keeps_1812 (by decide) ?_
  refine mw_goto (tgt := 1817) dL_keeps_1813 (by decide) ?_
  refine mw_ireturn dL_keeps_1817 ⟨_, rfl, rfl⟩ ⟨rfl, _, _, _, _, rfl, hI, ?_⟩
  have hlt : (g.2.2.2.take st).length = st := by rw [List.length_take]; omega
  refine mR_tp hM (fun j _ _ _ z11 => va_up_ne _ _ z11) (by rw [va_up_self, pk_un (by decide)]) (by rw [va_up_self, pk_us, hlt]) (by omega) (fun j hj => ?_)
  rw [va_up_ne _ _ (by decide), htp j (by omega)]
  congr 1
  rw [List.getD_eq_getElem?_getD, List.getD_eq_getElem?_getD, List.getElem?_take_of_lt (by omega)]
theorem kp_put_b (hI : cS sc g H A X) (hM : mR g A X) (hfr : frP g lf) (hs0 : s0 < g.1) (hm : m < 5) (hT : g.2.2.1 m = some (s, L)) (hi : i < 6) (hp : p < 5) (hTp : g.2.2.1 p = some (s2, L2)) {x21 x22 x23 x24 x25 x26 x27 x28 x29 x30 x31 x32 x33 x34 x35 x36 x37 x38 x39 x40 x41 : Option Value} {b : Nat} (hb : b < 256) (hl : g.2.2.2.length < 64) : mw_W mm_L_keeps 10 12 560 1904 (some (.ref 1) :: some (.int act) :: some (.int y) :: some (.ref 43) :: some (.ref 44) :: some (.ref 45) :: some (.ref 46) :: some (.ref 47) :: some (.ref 48) :: some (.ref 49) :: some (.ref 50) :: some (.ref 51) :: some (.ref 52) :: some (.ref 54) :: some (.int (lf)) :: some (.int (nI s0)) :: some (.int (nI m)) :: some (.int (nI (tg i))) :: some (.int (zKind g.2.1 s (nI (tg i)))) :: some (.int (lir (Pt g.2.1 s (nI (tg i))) (12 * m) L)) :: some (.int (nI p)) :: x21 :: x22 :: x23 :: x24 :: x25 :: x26 :: x27 :: x28 :: x29 :: x30 :: x31 :: x32 :: x33 :: x34 :: x35 :: x36 :: x37 :: x38 :: x39 :: x40 :: x41 :: []) [.int (nI b), .int (nI g.2.2.2.length), .ref 51] (gl H A X) (lwP sc) := by
  have hgok := cS_ok hI
  have hns4 := mR_ns hM
  have ht := tg_in hi
  obtain ⟨hk, hg0, hms, hmo, hg1, h64, htp, -⟩ := id hM
  obtain ⟨hs, hok, h120⟩ := hgok.2.2.2.1 m s L (by omega) hT
  obtain ⟨hA, hR⟩ := (hms m hm).2 s L hT
  have h12 := hR.2.1
  have hsM := sM_at (g := g) (by omega) hT
  have hsS := sS_at hgok.1 hs0
  refine gl_st8 dL_keeps_1904 (mw_ix rfl (by omega) (by decide)) ?_
  refine mw_aload (i := 13) dL_keeps_1905 rfl ?_
  refine mw_iconst (v := 1) dL_keeps_1907 (by decide) ?_
  refine mw_dup2 dL_keeps_1908 rfl rfl ?_
  refine mw_iald dL_keeps_1909 gl_11 (mw_ix (j := 1) rfl (by decide) (by decide)) ?_
  refine mw_top (show va_up A 8 (upd (A 8) g.2.2.2.length (nI b)) 11 1 = nI g.2.2.2.length by rw [va_up_ne _ _ (by decide)]; exact hg1) ?_
  refine mw_iconst (v := 1) dL_keeps_1910 (by decide) ?_
  refine mw_iadd dL_keeps_1911 ?_
  rw [nI_1]
  refine gl_st11 dL_keeps_1912 (mw_ix (j := 1) rfl (by decide) (by decide)) ?_
  generalize hB : va_up (va_up A 8 (upd (A 8) g.2.2.2.length (nI b))) 11 (upd (va_up A 8 (upd (A 8) g.2.2.2.length (nI b)) 11) 1 (nI (g.2.2.2.length + 1))) = B
  have b8 : B 8 = upd (A 8) g.2.2.2.length (nI b) := by rw [← hB, va_up_ne _ _ (by decide), va_up_self]
  have bn : ∀ j, j ≠ 8 → j ≠ 11 → B j = A j := fun j z8 z11 => by rw [← hB, va_up_ne _ _ z11, va_up_ne _ _ z8]
  have b11 : B 11 1 = nI (g.2.2.2.length + 1) ∧ B 11 0 = A 11 0 := by
    rw [← hB, va_up_self]
    exact ⟨pk_us, by rw [pk_un (by decide), va_up_ne _ _ (by decide)]⟩
  have hI := cS_gl (A' := B) (X' := X) hI
  have hsp : sp_put g (nI b).toInt8.toInt32 = (0, nI (g.2.2.2.length + 1), gTape g (g.2.2.2 ++ [b])) := by
    unfold sp_put
    rw [if_neg (by omega), i8_b b hb, uN_nI (by omega)]
  have hw := d_put hI (nI b) (by rw [hsp])
  rw [hsp] at hw
  refine mw_aload_n (i := 0) dL_keeps_1913 rfl rfl ?_
  refine mw_aload (i := 11) dL_keeps_1914 rfl ?_
  refine mw_aload (i := 13) dL_keeps_1916 rfl ?_
  refine mw_iconst (v := 1) dL_keeps_1918 (by decide) ?_
  refine mw_iald dL_keeps_1919 gl_11 (mw_ix (j := 1) rfl (by decide) (by decide)) ?_
  rw [b11.1]
  refine mw_iconst (v := 1) dL_keeps_1920 (by decide) ?_
  refine mw_isub dL_keeps_1921 ?_
  rw [nI_pred]
  refine mw_iald dL_keeps_1922 gl_8 (mw_ix rfl (by omega) (by decide)) ?_
  rw [b8, pk_us]
  refine mw_i2b dL_keeps_1923 rfl ?_
  refine mw_callV dL_keeps_1924 mk_L_205 (cS_o hI) rfl (hw) (by decide) (Nat.le_refl _) (Nat.le_refl _) rfl rfl (Nat.le_of_ble_eq_true rfl) (fun E9 h9 q9 => ?_) (fun v9 h9 q9 => ?_)
  · cases q9.1
  obtain ⟨e9, H1, rfl, hI⟩ := q9
  cases e9
  refine mw_aload (i := 13) dL_keeps_1927 rfl ?_
  refine mw_iconst (v := 1) dL_keeps_1929 (by decide) ?_
  refine mw_iald dL_keeps_1930 gl_11 (mw_ix (j := 1) rfl (by decide) (by decide)) ?_
  rw [b11.1]
  refine mw_icmp_ne (tgt := 1938) dL_keeps_1931 (by decide) (fun c9 => absurd c9 (by first | decide | exact (fun q => q rfl))) (fun _ => ?_)
  refine mw_iconst (v := 1) dL_keeps_1934 (by decide) ?_
  refine mw_goto (tgt := 1939) dL_keeps_1935 (by decide) ?_
  refine mw_ireturn dL_keeps_1939 ⟨_, rfl, rfl⟩ ⟨rfl, _, _, _, _, rfl, hI, ?_⟩
  have hll : (g.2.2.2 ++ [b]).length = g.2.2.2.length + 1 := by rw [List.length_append, List.length_singleton]
  refine mR_tp hM (fun j z8 _ _ z11 => bn j z8 z11) b11.2 (by rw [hll]; exact b11.1) (by omega) (fun j hj => ?_)
  rw [b8, oth_bytes]
  by_cases e : j = g.2.2.2.length
  · rw [if_pos e, e, pk_us]
  · rw [if_neg e, pk_un e, htp j (by omega)]
theorem kp_put (hI : cS sc g H A X) (hM : mR g A X) (hfr : frP g lf) (hs0 : s0 < g.1) (hm : m < 5) (hT : g.2.2.1 m = some (s, L)) (hi : i < 6) (hp : p < 5) (hTp : g.2.2.1 p = some (s2, L2)) {x21 x22 x23 x24 x25 x26 x27 x28 x29 x30 x31 x32 x33 x34 x35 x36 x37 x38 x39 x40 x41 : Option Value} (h0 : ¬ y &&& 28672 = 0) : mw_W mm_L_keeps 10 12 560 1734 (some (.ref 1) :: some (.int act) :: some (.int y) :: some (.ref 43) :: some (.ref 44) :: some (.ref 45) :: some (.ref 46) :: some (.ref 47) :: some (.ref 48) :: some (.ref 49) :: some (.ref 50) :: some (.ref 51) :: some (.ref 52) :: some (.ref 54) :: some (.int (lf)) :: some (.int (nI s0)) :: some (.int (nI m)) :: some (.int (nI (tg i))) :: some (.int (zKind g.2.1 s (nI (tg i)))) :: some (.int (lir (Pt g.2.1 s (nI (tg i))) (12 * m) L)) :: some (.int (nI p)) :: x21 :: x22 :: x23 :: x24 :: x25 :: x26 :: x27 :: x28 :: x29 :: x30 :: x31 :: x32 :: x33 :: x34 :: x35 :: x36 :: x37 :: x38 :: x39 :: x40 :: x41 :: []) [] (gl H A X) (lwP sc) := by
  have hgok := cS_ok hI
  have hns4 := mR_ns hM
  have ht := tg_in hi
  obtain ⟨hk, hg0, hms, hmo, hg1, h64, htp, -⟩ := id hM
  obtain ⟨hs, hok, h120⟩ := hgok.2.2.2.1 m s L (by omega) hT
  obtain ⟨hA, hR⟩ := (hms m hm).2 s L hT
  have h12 := hR.2.1
  have hsM := sM_at (g := g) (by omega) hT
  have hsS := sS_at hgok.1 hs0
  refine mw_iload_n (i := 2) dL_keeps_1734 rfl rfl ?_
  refine mw_sipush (v := 28672) dL_keeps_1735 (by decide) ?_
  refine mw_iand dL_keeps_1738 ?_
  refine mw_if_ne (tgt := 1818) dL_keeps_1739 (by decide) (fun _ => ?_) (fun c9 => absurd c9 h0)
  refine mw_aload (i := 13) dL_keeps_1818 rfl ?_
  refine mw_iconst (v := 1) dL_keeps_1820 (by decide) ?_
  refine mw_iald dL_keeps_1821 gl_11 (mw_ix (j := 1) rfl (by decide) (by decide)) ?_
  rw [hg1]
  by_cases h64' : g.2.2.2.length = 64
  · have hs1 : sp_cut g 65 = (1, 0, g) := by
      unfold sp_cut
      rw [h64']
      exact if_pos (by decide)
    have hw := w_cut hI 65
    rw [hs1] at hw
    refine mw_bipush (v := 64) dL_keeps_1822 (by decide) ?_
    refine mw_icmp_ne (tgt := 1844) dL_keeps_1824 (by decide) (fun c9 => absurd c9 (by first | decide | exact (fun q => q rfl) | ((try simp only [fa_lit]); first | exact cq_le (by omega) (by omega) | exact cq_nle (by omega) (by omega) | exact cq_lt (by omega) (by omega) | exact cq_nlt (by omega) (by omega) | exact cq_eq (by omega) (by omega) (by omega) | exact cq_neq (by omega)))) (fun _ => ?_)
    refine mw_aload_n (i := 0) dL_keeps_1827 rfl rfl ?_
    refine mw_bipush (v := 65) dL_keeps_1828 (by decide) ?_
    refine mw_callSX dL_keeps_1830 mk_L_201 (hw) (by decide) (Nat.le_refl _) (Nat.le_refl _) rfl rfl (Nat.le_of_ble_eq_true rfl) (fun E9 h9 q9 => ?_) (fun v9 h9 q9 => ?_)
    · cases q9.1
    obtain ⟨e9, H1, rfl, hI⟩ := q9
    cases e9
    refine mw_bipush (v := -71) dL_keeps_1833 (by decide) ?_
    refine mw_icmp_ne (tgt := 1842) dL_keeps_1835 (by decide) (fun c9 => absurd c9 (by first | decide | exact (fun q => q rfl))) (fun _ => ?_)
    refine mw_iconst (v := 1) dL_keeps_1838 (by decide) ?_
    refine mw_goto (tgt := 1843) dL_keeps_1839 (by decide) ?_
    exact mw_ireturn dL_keeps_1843 ⟨_, rfl, rfl⟩ ⟨rfl, _, _, _, _, rfl, hI, hM⟩
  · refine mw_bipush (v := 64) dL_keeps_1822 (by decide) ?_
    refine mw_icmp_ne (tgt := 1844) dL_keeps_1824 (by decide) (fun _ => ?_) (fun c9 => absurd c9 (by first | decide | exact (fun q => q rfl) | ((try simp only [fa_lit]); first | exact cq_le (by omega) (by omega) | exact cq_nle (by omega) (by omega) | exact cq_lt (by omega) (by omega) | exact cq_nlt (by omega) (by omega) | exact cq_eq (by omega) (by omega) (by omega) | exact cq_neq (by omega))))
    refine mw_aload (i := 11) dL_keeps_1844 rfl ?_
    refine mw_aload (i := 13) dL_keeps_1846 rfl ?_
    refine mw_iconst (v := 1) dL_keeps_1848 (by decide) ?_
    refine mw_iald dL_keeps_1849 gl_11 (mw_ix (j := 1) rfl (by decide) (by decide)) ?_
    rw [hg1]
    by_cases e1 : y &&& 32768 = 0
    · refine mw_iload_n (i := 2) dL_keeps_1850 rfl rfl ?_
      refine mw_ldc dL_keeps_1851 kn_L_203 ?_
      refine mw_iand dL_keeps_1853 ?_
      refine mw_if_ne (tgt := 1868) dL_keeps_1854 (by decide) (fun c9 => absurd c9 (fun z => z e1)) (fun _ => ?_)
      refine mw_iload_n (i := 2) dL_keeps_1857 rfl rfl ?_
      refine mw_bipush (v := 16) dL_keeps_1858 (by decide) ?_
      refine mw_ishr dL_keeps_1860 ?_
      refine mw_sipush (v := 255) dL_keeps_1861 (by decide) ?_
      refine mw_iand dL_keeps_1864 ?_
      rw [pk_and _ (m := 255) 8 (by decide)]
      refine mw_goto (tgt := 1904) dL_keeps_1865 (by decide) ?_
      exact kp_put_b hI hM hfr hs0 hm hT hi hp hTp (Nat.mod_lt _ (by decide)) (by omega)
    · by_cases e2 : y &&& 65536 = 0
      · refine mw_iload_n (i := 2) dL_keeps_1850 rfl rfl ?_
        refine mw_ldc dL_keeps_1851 kn_L_203 ?_
        refine mw_iand dL_keeps_1853 ?_
        refine mw_if_ne (tgt := 1868) dL_keeps_1854 (by decide) (fun _ => ?_) (fun c9 => absurd c9 e1)
        refine mw_iload_n (i := 2) dL_keeps_1868 rfl rfl ?_
        refine mw_ldc dL_keeps_1869 kn_L_204 ?_
        refine mw_iand dL_keeps_1871 ?_
        refine mw_if_ne (tgt := 1895) dL_keeps_1872 (by decide) (fun c9 => absurd c9 (fun z => z e2)) (fun _ => ?_)
        refine mw_bipush (v := 8) dL_keeps_1875 (by decide) ?_
        refine mw_iload (i := 17) dL_keeps_1877 rfl ?_
        refine mw_imul dL_keeps_1879 ?_
        refine mw_iload_n (i := 2) dL_keeps_1880 rfl rfl ?_
        refine mw_bipush (v := 17) dL_keeps_1881 (by decide) ?_
        refine mw_ishr dL_keeps_1883 ?_
        refine mw_bipush (v := 7) dL_keeps_1884 (by decide) ?_
        refine mw_iand dL_keeps_1886 ?_
        rw [mx_8m, pk_and _ (m := 7) 3 (by decide)]
        refine mw_iadd dL_keeps_1887 ?_
        refine mw_sipush (v := 255) dL_keeps_1888 (by decide) ?_
        refine mw_iand dL_keeps_1891 ?_
        rw [nI_add, pk_and _ (m := 255) 8 (by decide)]
        refine mw_goto (tgt := 1904) dL_keeps_1892 (by decide) ?_
        exact kp_put_b hI hM hfr hs0 hm hT hi hp hTp (Nat.mod_lt _ (by decide)) (by omega)
      · refine mw_iload_n (i := 2) dL_keeps_1850 rfl rfl ?_
        refine mw_ldc dL_keeps_1851 kn_L_203 ?_
        refine mw_iand dL_keeps_1853 ?_
        refine mw_if_ne (tgt := 1868) dL_keeps_1854 (by decide) (fun _ => ?_) (fun c9 => absurd c9 e1)
        refine mw_iload_n (i := 2) dL_keeps_1868 rfl rfl ?_
        refine mw_ldc dL_keeps_1869 kn_L_204 ?_
        refine mw_iand dL_keeps_1871 ?_
        refine mw_if_ne (tgt := 1895) dL_keeps_1872 (by decide) (fun _ => ?_) (fun c9 => absurd c9 e2)
        refine mw_iload_n (i := 2) dL_keeps_1895 rfl rfl ?_
        refine mw_bipush (v := 17) dL_keeps_1896 (by decide) ?_
        refine mw_ishr dL_keeps_1898 ?_
        refine mw_bipush (v := 8) dL_keeps_1899 (by decide) ?_
        refine mw_callSr dL_keeps_1901 mk_L_129 ((c_low _ (n := 8) (by decide) (by decide))) (by decide) (Nat.le_refl _) (Nat.le_refl _) rfl rfl (Nat.le_of_ble_eq_true rfl) ?_
        exact kp_put_b hI hM hfr hs0 hm hT hi hp hTp (Nat.lt_trans (Nat.mod_lt _ (by decide)) (by decide)) (by omega)
end K5
