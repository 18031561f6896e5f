/-! keeps: a part is set, a tag is cleared: written by gen/87.py (class side) -/
section SPP
variable {g : mS} {m p s s2 : Nat} {L L2 : List af} {t o : Int32}
theorem spl_part (hm : m < 12) (hT : g.2.2.1 m = some (s, L)) (hp : p < 12) (hTp : g.2.2.1 p = some (s2, L2)) : sp_setPart g (nI m) t (nI p) = if zKind g.2.1 s t ≠ 4 ∨ g.2.1 2 (tix s t) ≠ nI s2 then (2, 0, g) else putM g m s (oth g.2.1 s t L ++ [(t.toNatClampNeg, 2, (eL (can g.2.1 s2 L2)).length, eL (can g.2.1 s2 L2))]) (nI (eL (can g.2.1 s2 L2)).length) := by
  unfold sp_setPart
  rw [sM_at hm hT, sM_at hp hTp]
  rfl
theorem spl_part1 (h : sM g o = none ) : sp_setPart g (nI m) t o = (1, 0, g) := by
  unfold sp_setPart
  rw [h]
  cases sM g (nI m) with
  | none => rfl
  | some q => rfl
theorem spl_part0 {x : Int32} (h : sM g x = none ) : sp_setPart g x t o = (1, 0, g) := by
  unfold sp_setPart
  rw [h]
end SPP
theorem dec_lt {n : Nat} (h : n < 2 ^ 31) : nI n - 1 < nI n := by
  cases n with
  | zero => decide
  | succ n => rw [nI_pred]; exact nI_lt (Nat.lt_succ_self n) h
section K4
variable {sc : mSc} {g : mS} {H : mw_H} {A : Nat → Nat → Int32} {X : Nat → Nat → Int64} {s m i p s0 s2 : Nat} {L L2 : List af} {lf act y : Int32}
theorem kp_part_bad (hI : cS sc g H A X) (hM : mR g A X) (hfr : frP g lf) (hs0 : s0 < g.1) (hm : m < 5) (hT : g.2.2.1 m = some (s, L)) (hi : i < 6) (hp : p < 5) (hTp : g.2.2.1 p = some (s2, L2)) {x21 x22 x23 x24 x25 x26 x27 x28 x29 x30 x31 x32 x33 x34 x35 x36 x37 x38 x39 x40 x41 : Option Value} (hz : zKind g.2.1 s (nI (tg i)) ≠ 4 ∨ g.2.1 2 (tix s (nI (tg i))) ≠ nI s2) : mw_W mm_L_keeps 10 12 560 1239 (some (.ref 1) :: some (.int act) :: some (.int y) :: some (.ref 43) :: some (.ref 44) :: some (.ref 45) :: some (.ref 46) :: some (.ref 47) :: some (.ref 48) :: some (.ref 49) :: some (.ref 50) :: some (.ref 51) :: some (.ref 52) :: some (.ref 54) :: some (.int (lf)) :: some (.int (nI s0)) :: some (.int (nI m)) :: some (.int (nI (tg i))) :: some (.int (zKind g.2.1 s (nI (tg i)))) :: some (.int (lir (Pt g.2.1 s (nI (tg i))) (12 * m) L)) :: some (.int (nI p)) :: x21 :: x22 :: x23 :: x24 :: x25 :: x26 :: x27 :: x28 :: x29 :: x30 :: some (.int (0)) :: x32 :: x33 :: x34 :: x35 :: x36 :: x37 :: x38 :: x39 :: x40 :: x41 :: []) [] (gl H A X) (lwP sc) := by
  have hw := w_setPart hI (nI m) (nI (tg i)) (nI p)
  rw [spl_part (by omega) hT (by omega) hTp, if_pos hz] at hw
  refine mw_iload (i := 31) dL_keeps_1239 rfl ?_
  refine mw_if_ne (tgt := 1280) dL_keeps_1241 (by decide) (fun c9 => absurd c9 (by first | decide | exact (fun q => q rfl))) (fun _ => ?_)
  refine mw_aload_n (i := 0) dL_keeps_1244 rfl rfl ?_
  refine mw_iload (i := 16) dL_keeps_1245 rfl ?_
  refine mw_iload (i := 17) dL_keeps_1247 rfl ?_
  refine mw_iload (i := 20) dL_keeps_1249 rfl ?_
  refine mw_callSX dL_keeps_1251 mk_L_182 (hw) (by decide) (Nat.le_refl _) (Nat.le_refl _) rfl rfl (Nat.le_of_ble_eq_true rfl) (fun E9 h9 q9 => ?_) (fun v9 h9 q9 => ?_)
  · cases q9.1
  obtain ⟨e9, H1, rfl, hI⟩ := q9
  cases e9
  have hw := w_setPart hI (nI m) (nI (tg i)) 12
  rw [spl_part1 (sM_out (by decide))] at hw
  refine mw_bipush (v := -72) dL_keeps_1254 (by decide) ?_
  refine mw_icmp_ne (tgt := 1278) dL_keeps_1256 (by decide) (fun c9 => absurd c9 (by first | decide | exact (fun q => q rfl))) (fun _ => ?_)
  refine mw_aload_n (i := 0) dL_keeps_1259 rfl rfl ?_
  refine mw_iload (i := 16) dL_keeps_1260 rfl ?_
  refine mw_iload (i := 17) dL_keeps_1262 rfl ?_
  refine mw_bipush (v := 12) dL_keeps_1264 (by decide) ?_
  refine mw_callSX dL_keeps_1266 mk_L_182 (hw) (by decide) (Nat.le_refl _) (Nat.le_refl _) rfl rfl (Nat.le_of_ble_eq_true rfl) (fun E9 h9 q9 => ?_) (fun v9 h9 q9 => ?_)
  · cases q9.1
  obtain ⟨e9, H2, rfl, hI⟩ := q9
  cases e9
  refine mw_bipush (v := -71) dL_keeps_1269 (by decide) ?_
  refine mw_icmp_ne (tgt := 1278) dL_keeps_1271 (by decide) (fun c9 => absurd c9 (by first | decide | exact (fun q => q rfl))) (fun _ => ?_)
  refine mw_iconst (v := 1) dL_keeps_1274 (by decide) ?_
  refine mw_goto (tgt := 1279) dL_keeps_1275 (by decide) ?_
  exact mw_ireturn dL_keeps_1279 ⟨_, rfl, rfl⟩ ⟨rfl, _, _, _, _, rfl, hI, hM⟩
theorem kp_part_r (hI : cS sc g H A X) (hM : mR g A X) (hfr : frP g lf) (hs0 : s0 < g.1) (hm : m < 5) (hT : g.2.2.1 m = some (s, L)) (hi : i < 6) (hp : p < 5) (hTp : g.2.2.1 p = some (s2, L2)) {x38 x39 x40 x41 : Option Value} {x21 x22 x23 x24 x25 x26 x27 x28 x29 x30 x31 x37 : Option Value} {V V' : Int64} {xn : af} {C : List Nat} (hc16 : C.length ≤ 16) (hxn : xn = (tg i, 2, C.length, C)) (hsp : sp_setPart g (nI m) (nI (tg i)) (nI p) = (0, nI C.length, gSet g m s (oth g.2.1 s (nI (tg i)) L ++ [xn]))) (hbt : ∀ j, j < 16 → (if j < 8 then lb V j else lb V' (j - 8)) = C.getD j 0) (ho : (oth g.2.1 s (nI (tg i)) L).length < 12) : mw_W mm_L_keeps 10 12 560 1483 (some (.ref 1) :: some (.int act) :: some (.int y) :: some (.ref 43) :: some (.ref 44) :: some (.ref 45) :: some (.ref 46) :: some (.ref 47) :: some (.ref 48) :: some (.ref 49) :: some (.ref 50) :: some (.ref 51) :: some (.ref 52) :: some (.ref 54) :: some (.int (lf)) :: some (.int (nI s0)) :: some (.int (nI m)) :: some (.int (nI (tg i))) :: some (.int (zKind g.2.1 s (nI (tg i)))) :: some (.int (lir (Pt g.2.1 s (nI (tg i))) (12 * m) L)) :: some (.int (nI p)) :: x21 :: x22 :: x23 :: x24 :: x25 :: x26 :: x27 :: x28 :: x29 :: x30 :: x31 :: some (.int (nI C.length)) :: some (.long V) :: none :: some (.long V') :: none :: x37 :: x38 :: x39 :: x40 :: x41 :: []) [] (gl H A X) (lwP sc) := by
  have hgok := cS_ok hI
  have hns4 := mR_ns hM
  have ht := tg_in hi
  obtain ⟨hk, hg0, hms, hmo, hg1, h64, htp, -⟩ := id hM
  obtain ⟨hs, hok, h120⟩ := hgok.2.2.2.1 m s L (by omega) hT
  obtain ⟨hA, hR⟩ := (hms m hm).2 s L hT
  have h12 := hR.2.1
  have hsM := sM_at (g := g) (by omega) hT
  have hsS := sS_at hgok.1 hs0
  have hx1 : xn.1 = tg i := by rw [hxn]
  have hx2 : xn.2.1 = 2 := by rw [hxn]
  have hx3 : xn.2.2.1 = C.length := by rw [hxn]
  have hx4 : xn.2.2.2 = C := by rw [hxn]
  refine mw_aload_n (i := 3) dL_keeps_1483 rfl rfl ?_
  refine mw_aload (i := 5) dL_keeps_1484 rfl ?_
  refine mw_aload (i := 6) dL_keeps_1486 rfl ?_
  refine mw_aload (i := 7) dL_keeps_1488 rfl ?_
  refine mw_aload (i := 8) dL_keeps_1490 rfl ?_
  refine mw_aload (i := 9) dL_keeps_1492 rfl ?_
  refine mw_aload (i := 10) dL_keeps_1494 rfl ?_
  refine mw_iload (i := 16) dL_keeps_1496 rfl ?_
  refine mw_bipush (v := 8) dL_keeps_1498 (by decide) ?_
  refine mw_iload (i := 17) dL_keeps_1500 rfl ?_
  refine mw_imul dL_keeps_1502 ?_
  rw [mx_8m]
  refine mw_iconst (v := 2) dL_keeps_1503 (by decide) ?_
  refine mw_iadd dL_keeps_1504 ?_
  rw [show nI (8 * tg i) + 2 = nI (8 * tg i + 2) from nI_add _ 2]
  refine mw_iload (i := 32) dL_keeps_1505 rfl ?_
  refine mw_lload (i := 33) dL_keeps_1507 rfl rfl ?_
  refine mw_lload (i := 35) dL_keeps_1509 rfl rfl ?_
  refine mw_callS dL_keeps_1511 mk_L_174 ((c_replace hk hs hA ht.2 hm hok hR (field := 8 * tg i + 2) (xn := xn) (by omega) (by omega) (by rw [hx1, hx2]) (by rw [hx3]) (fun _ => ⟨by omega, fun j hj => by rw [hx4]; exact hbt j hj⟩) ho)) (by decide) (Nat.le_refl _) (Nat.le_refl _) rfl rfl (Nat.le_of_ble_eq_true rfl) (fun E9 h9 q9 => ?_) (fun v9 h9 q9 => ?_)
  · cases q9.1
  obtain ⟨e9, A', X', rfl, hR', hF', hG'⟩ := q9
  cases e9
  have hI := cS_gl (A' := A') (X' := X') hI
  have hM' := mR_put hM hm hT hR' hF'
  have hw := w_setPart hI (nI m) (nI (tg i)) (nI p)
  rw [hsp] at hw
  generalize gSet g m s (oth g.2.1 s (nI (tg i)) L ++ [xn]) = g' at hw hM'
  refine mw_aload_n (i := 0) dL_keeps_1514 rfl rfl ?_
  refine mw_iload (i := 16) dL_keeps_1515 rfl ?_
  refine mw_iload (i := 17) dL_keeps_1517 rfl ?_
  refine mw_iload (i := 20) dL_keeps_1519 rfl ?_
  refine mw_callSX dL_keeps_1521 mk_L_182 (hw) (by decide) (Nat.le_refl _) (Nat.le_refl _) rfl rfl (Nat.le_of_ble_eq_true rfl) (fun E9 h9 q9 => ?_) (fun v9 h9 q9 => ?_)
  · cases q9.1
  obtain ⟨e9, H1, rfl, hI⟩ := q9
  cases e9
  have hI : cS sc g' H1 A' X' := hI
  refine mw_iload (i := 32) dL_keeps_1524 rfl ?_
  refine mw_icmp_ne (tgt := 1533) dL_keeps_1526 (by decide) (fun c9 => absurd c9 (by first | decide | exact (fun q => q rfl))) (fun _ => ?_)
  refine mw_iconst (v := 1) dL_keeps_1529 (by decide) ?_
  refine mw_goto (tgt := 1534) dL_keeps_1530 (by decide) ?_
  exact mw_ireturn dL_keeps_1534 ⟨_, rfl, rfl⟩ ⟨rfl, _, _, _, _, rfl, hI, hM'⟩
theorem lp_two {x38 x39 x40 x41 : Option Value} {x21 x22 x23 x24 x25 x26 x27 x28 x29 x30 x31 : Option Value} {C : List Nat} (hc16 : C.length ≤ 16) (hCb : ∀ z ∈ C, z < 256) (hq : ∀ j, j < C.length → j < 64 → A 9 j = nI (C.getD j 0)) (k : ∀ V V' x37, (∀ j, j < 16 → (if j < 8 then lb V j else lb V' (j - 8)) = C.getD j 0) → mw_W mm_L_keeps 10 12 560 1483 (some (.ref 1) :: some (.int act) :: some (.int y) :: some (.ref 43) :: some (.ref 44) :: some (.ref 45) :: some (.ref 46) :: some (.ref 47) :: some (.ref 48) :: some (.ref 49) :: some (.ref 50) :: some (.ref 51) :: some (.ref 52) :: some (.ref 54) :: some (.int (lf)) :: some (.int (nI s0)) :: some (.int (nI m)) :: some (.int (nI (tg i))) :: some (.int (zKind g.2.1 s (nI (tg i)))) :: some (.int (lir (Pt g.2.1 s (nI (tg i))) (12 * m) L)) :: some (.int (nI p)) :: x21 :: x22 :: x23 :: x24 :: x25 :: x26 :: x27 :: x28 :: x29 :: x30 :: x31 :: some (.int (nI C.length)) :: some (.long V) :: none :: some (.long V') :: none :: x37 :: x38 :: x39 :: x40 :: x41 :: []) [] (gl H A X) (lwP sc)) : ∀ (n j : Nat) (V V' : Int64), j + n = C.length → (∀ q, q < 16 → (if q < 8 then lb V q else lb V' (q - 8)) = if q < j then C.getD q 0 else 0) → mw_W mm_L_keeps 10 12 560 1423 (some (.ref 1) :: some (.int act) :: some (.int y) :: some (.ref 43) :: some (.ref 44) :: some (.ref 45) :: some (.ref 46) :: some (.ref 47) :: some (.ref 48) :: some (.ref 49) :: some (.ref 50) :: some (.ref 51) :: some (.ref 52) :: some (.ref 54) :: some (.int (lf)) :: some (.int (nI s0)) :: some (.int (nI m)) :: some (.int (nI (tg i))) :: some (.int (zKind g.2.1 s (nI (tg i)))) :: some (.int (lir (Pt g.2.1 s (nI (tg i))) (12 * m) L)) :: some (.int (nI p)) :: x21 :: x22 :: x23 :: x24 :: x25 :: x26 :: x27 :: x28 :: x29 :: x30 :: x31 :: some (.int (nI C.length)) :: some (.long V) :: none :: some (.long V') :: none :: some (.int (nI j)) :: x38 :: x39 :: x40 :: x41 :: []) [] (gl H A X) (lwP sc) := by
  intro n
  induction n with
  | zero =>
    intro j V V' hj hV
    have hj : j = C.length := by omega
    subst hj
    refine mw_iload (i := 37) dL_keeps_1423 rfl ?_
    refine mw_iload (i := 32) dL_keeps_1425 rfl ?_
    refine mw_icmp_ge (tgt := 1483) dL_keeps_1427 (by decide) (fun _ => ?_) (fun c9 => absurd c9 (by first | decide | exact (fun q => q rfl) | ((try simp only [fa_lit]); first | exact cq_le (by omega) (by omega) | exact cq_nle (by omega) (by omega) | exact cq_lt (by omega) (by omega) | exact cq_nlt (by omega) (by omega) | exact cq_eq (by omega) (by omega) (by omega) | exact cq_neq (by omega))))
    refine k V V' _ (fun j hj => ?_)
    rw [hV j hj]
    by_cases c : j < C.length
    · rw [if_pos c]
    · rw [if_neg c, getD_out (by omega)]
  | succ n ih =>
    intro j V V' hj hV
    have hb := getD_byte hCb j
    have hV0 := hV j (by omega)
    rw [if_neg (Nat.lt_irrefl j)] at hV0
    by_cases h8 : j < 8
    · rw [if_pos h8] at hV0
      refine mw_iload (i := 37) dL_keeps_1423 rfl ?_
      refine mw_iload (i := 32) dL_keeps_1425 rfl ?_
      refine mw_icmp_ge (tgt := 1483) dL_keeps_1427 (by decide) (fun c9 => absurd c9 (by first | decide | exact (fun q => q rfl) | ((try simp only [fa_lit]); first | exact cq_le (by omega) (by omega) | exact cq_nle (by omega) (by omega) | exact cq_lt (by omega) (by omega) | exact cq_nlt (by omega) (by omega) | exact cq_eq (by omega) (by omega) (by omega) | exact cq_neq (by omega)))) (fun _ => ?_)
      refine mw_iload (i := 37) dL_keeps_1430 rfl ?_
      refine mw_bipush (v := 8) dL_keeps_1432 (by decide) ?_
      refine mw_icmp_ge (tgt := 1457) dL_keeps_1434 (by decide) (fun c9 => absurd c9 (by first | decide | exact (fun q => q rfl) | ((try simp only [fa_lit]); first | exact cq_le (by omega) (by omega) | exact cq_nle (by omega) (by omega) | exact cq_lt (by omega) (by omega) | exact cq_nlt (by omega) (by omega) | exact cq_eq (by omega) (by omega) (by omega) | exact cq_neq (by omega)))) (fun _ => ?_)
      refine mw_lload (i := 33) dL_keeps_1437 rfl rfl ?_
      refine mw_aload (i := 12) dL_keeps_1439 rfl ?_
      refine mw_iload (i := 37) dL_keeps_1441 rfl ?_
      refine mw_iald dL_keeps_1443 gl_9 (mw_ix rfl (by omega) (by decide)) ?_
      rw [hq j (by omega) (by omega)]
      refine mw_i2l dL_keeps_1444 rfl ?_
      refine mw_bipush (v := 8) dL_keeps_1445 (by decide) ?_
      refine mw_iload (i := 37) dL_keeps_1447 rfl ?_
      refine mw_imul dL_keeps_1449 ?_
      refine mw_lshl dL_keeps_1450 rfl ?_
      refine mw_lor dL_keeps_1451 ?_
      refine mw_lstore_33 dL_keeps_1452 (by decide) ?_
      refine mw_goto (tgt := 1477) dL_keeps_1454 (by decide) ?_
      refine mw_iinc_37 dL_keeps_1477 (by decide) rfl ?_
      refine mw_goto (tgt := 1423) dL_keeps_1480 (by decide) ?_
      rw [show nI j + Int32.ofInt 1 = nI (j + 1) from nI_1 _]
      refine ih (j + 1) _ V' (by omega) (fun q hq16 => ?_)
      have hVq := hV q hq16
      by_cases hq8 : q < 8
      · rw [if_pos hq8] at hVq ⊢
        rw [lb_or V hb h8 hV0 q hq8, hVq]
        by_cases e : q = j
        · rw [if_pos e, if_pos (by omega), e]
        · rw [if_neg e]
          by_cases c : q < j
          · rw [if_pos c, if_pos (by omega)]
          · rw [if_neg c, if_neg (by omega)]
      · rw [if_neg hq8] at hVq ⊢
        rw [hVq, if_neg (by omega), if_neg (by omega)]
    · rw [if_neg h8] at hV0
      refine mw_iload (i := 37) dL_keeps_1423 rfl ?_
      refine mw_iload (i := 32) dL_keeps_1425 rfl ?_
      refine mw_icmp_ge (tgt := 1483) dL_keeps_1427 (by decide) (fun c9 => absurd c9 (by first | decide | exact (fun q => q rfl) | ((try simp only [fa_lit]); first | exact cq_le (by omega) (by omega) | exact cq_nle (by omega) (by omega) | exact cq_lt (by omega) (by omega) | exact cq_nlt (by omega) (by omega) | exact cq_eq (by omega) (by omega) (by omega) | exact cq_neq (by omega)))) (fun _ => ?_)
      refine mw_iload (i := 37) dL_keeps_1430 rfl ?_
      refine mw_bipush (v := 8) dL_keeps_1432 (by decide) ?_
      refine mw_icmp_ge (tgt := 1457) dL_keeps_1434 (by decide) (fun _ => ?_) (fun c9 => absurd c9 (by first | decide | exact (fun q => q rfl) | ((try simp only [fa_lit]); first | exact cq_le (by omega) (by omega) | exact cq_nle (by omega) (by omega) | exact cq_lt (by omega) (by omega) | exact cq_nlt (by omega) (by omega) | exact cq_eq (by omega) (by omega) (by omega) | exact cq_neq (by omega))))
      refine mw_lload (i := 35) dL_keeps_1457 rfl rfl ?_
      refine mw_aload (i := 12) dL_keeps_1459 rfl ?_
      refine mw_iload (i := 37) dL_keeps_1461 rfl ?_
      refine mw_iald dL_keeps_1463 gl_9 (mw_ix rfl (by omega) (by decide)) ?_
      rw [hq j (by omega) (by omega)]
      refine mw_i2l dL_keeps_1464 rfl ?_
      refine mw_bipush (v := 8) dL_keeps_1465 (by decide) ?_
      refine mw_iload (i := 37) dL_keeps_1467 rfl ?_
      refine mw_bipush (v := 8) dL_keeps_1469 (by decide) ?_
      refine mw_isub dL_keeps_1471 ?_
      rw [show nI j - 8 = nI (j - 8) from pk_sub (b := 8) (by omega)]
      refine mw_imul dL_keeps_1472 ?_
      refine mw_lshl dL_keeps_1473 rfl ?_
      refine mw_lor dL_keeps_1474 ?_
      refine mw_lstore_35 dL_keeps_1475 (by decide) ?_
      refine mw_iinc_37 dL_keeps_1477 (by decide) rfl ?_
      refine mw_goto (tgt := 1423) dL_keeps_1480 (by decide) ?_
      rw [show nI j + Int32.ofInt 1 = nI (j + 1) from nI_1 _]
      refine ih (j + 1) V _ (by omega) (fun q hq16 => ?_)
      have hVq := hV q hq16
      by_cases hq8 : q < 8
      · rw [if_pos hq8] at hVq ⊢
        rw [hVq, if_pos (by omega), if_pos (by omega)]
      · rw [if_neg hq8] at hVq ⊢
        rw [lb_or V' hb (by omega) hV0 (q - 8) (by omega), hVq]
        by_cases e : q = j
        · rw [if_pos (by omega), if_pos (by omega), e]
        · rw [if_neg (by omega)]
          by_cases c : q < j
          · rw [if_pos c, if_pos (by omega)]
          · rw [if_neg c, if_neg (by omega)]
theorem kp_part_c (hI : cS sc g H A X) (hM : mR g A X) (hfr : frP g lf) (hs0 : s0 < g.1) (hm : m < 5) (hT : g.2.2.1 m = some (s, L)) (hi : i < 6) (hp : p < 5) (hTp : g.2.2.1 p = some (s2, L2)) {x33 x34 x35 x36 x37 x38 x39 x40 x41 : Option Value} {x21 x22 x23 x24 x25 x26 x27 x28 x29 x30 x31 : Option Value} {C : List Nat} {xn : af} (hC : C.length ≤ 120) (hCb : ∀ z ∈ C, z < 256) (hq : ∀ j, j < C.length → j < 64 → A 9 j = nI (C.getD j 0)) (hxn : xn = (tg i, 2, C.length, C)) (hsp : sp_setPart g (nI m) (nI (tg i)) (nI p) = putM g m s (oth g.2.1 s (nI (tg i)) L ++ [xn]) (nI C.length)) : mw_W mm_L_keeps 10 12 560 1306 (some (.ref 1) :: some (.int act) :: some (.int y) :: some (.ref 43) :: some (.ref 44) :: some (.ref 45) :: some (.ref 46) :: some (.ref 47) :: some (.ref 48) :: some (.ref 49) :: some (.ref 50) :: some (.ref 51) :: some (.ref 52) :: some (.ref 54) :: some (.int (lf)) :: some (.int (nI s0)) :: some (.int (nI m)) :: some (.int (nI (tg i))) :: some (.int (zKind g.2.1 s (nI (tg i)))) :: some (.int (lir (Pt g.2.1 s (nI (tg i))) (12 * m) L)) :: some (.int (nI p)) :: x21 :: x22 :: x23 :: x24 :: x25 :: x26 :: x27 :: x28 :: x29 :: x30 :: x31 :: some (.int (nI C.length)) :: x33 :: x34 :: x35 :: x36 :: x37 :: x38 :: x39 :: x40 :: x41 :: []) [] (gl H A X) (lwP sc) := by
  have hgok := cS_ok hI
  have hns4 := mR_ns hM
  have ht := tg_in hi
  obtain ⟨hk, hg0, hms, hmo, hg1, h64, htp, -⟩ := id hM
  obtain ⟨hs, hok, h120⟩ := hgok.2.2.2.1 m s L (by omega) hT
  obtain ⟨hA, hR⟩ := (hms m hm).2 s L hT
  have h12 := hR.2.1
  have hsM := sM_at (g := g) (by omega) hT
  have hsS := sS_at hgok.1 hs0
  have hx1 : xn.1 = tg i := by rw [hxn]
  have hx2 : xn.2.1 = 2 := by rw [hxn]
  have hx3 : xn.2.2.1 = C.length := by rw [hxn]
  have hx4 : xn.2.2.2 = C := by rw [hxn]
  have hxok : okf xn := by
    refine ⟨by omega, by omega, by omega, by omega, fun _ => by rw [hx4, hx3], fun z => absurd hx2 z, fun z hz => ?_⟩
    rw [hx4] at hz
    exact hCb z hz
  have hel : (eL (oth g.2.1 s (nI (tg i)) L)).length ≤ 120 := Nat.le_trans (fil_le _ L) h120
  have hg5 : (egr (8 * tg i + 2)).length ≤ 5 := eg_len5 4 _
  have hg5' : (egr C.length).length ≤ 5 := eg_len5 4 _
  have hotho := oth_len (K := g.2.1) (s := s) (L := L) (nI (tg i))
  have hew := eL_put (oth g.2.1 s (nI (tg i)) L) xn
  rw [ef_size hxok, hx1, hx2, hx3, if_neg (by decide), if_neg (by decide)] at hew
  refine mw_aload_n (i := 3) dL_keeps_1306 rfl rfl ?_
  refine mw_aload (i := 5) dL_keeps_1307 rfl ?_
  refine mw_aload (i := 6) dL_keeps_1309 rfl ?_
  refine mw_aload (i := 7) dL_keeps_1311 rfl ?_
  refine mw_aload (i := 8) dL_keeps_1313 rfl ?_
  refine mw_iload (i := 16) dL_keeps_1315 rfl ?_
  refine mw_iload (i := 17) dL_keeps_1317 rfl ?_
  refine mw_callSr dL_keeps_1319 mk_L_167 ((c_weightO hk hs hA ht.2 hm hok hR)) (by decide) (Nat.le_refl _) (Nat.le_refl _) rfl rfl (Nat.le_of_ble_eq_true rfl) ?_
  refine mw_bipush (v := 8) dL_keeps_1322 (by decide) ?_
  refine mw_iload (i := 17) dL_keeps_1324 rfl ?_
  refine mw_imul dL_keeps_1326 ?_
  rw [mx_8m]
  refine mw_iconst (v := 2) dL_keeps_1327 (by decide) ?_
  refine mw_iadd dL_keeps_1328 ?_
  rw [show nI (8 * tg i) + 2 = nI (8 * tg i + 2) from nI_add _ 2]
  refine mw_callSr dL_keeps_1329 mk_L_73 ((c_groups (by omega))) (by decide) (Nat.le_refl _) (Nat.le_refl _) rfl rfl (Nat.le_of_ble_eq_true rfl) ?_
  refine mw_iadd dL_keeps_1332 ?_
  rw [nI_add]
  refine mw_iload (i := 32) dL_keeps_1333 rfl ?_
  refine mw_callSr dL_keeps_1335 mk_L_73 ((c_groups (by omega))) (by decide) (Nat.le_refl _) (Nat.le_refl _) rfl rfl (Nat.le_of_ble_eq_true rfl) ?_
  refine mw_iadd dL_keeps_1338 ?_
  rw [nI_add]
  refine mw_iload (i := 32) dL_keeps_1339 rfl ?_
  refine mw_iadd dL_keeps_1341 ?_
  rw [nI_add]
  by_cases hbig : 120 < (eL (oth g.2.1 s (nI (tg i)) L ++ [xn])).length
  · have hw := w_setPart hI (nI m) (nI (tg i)) (nI p)
    rw [hsp, putM_big hbig] at hw
    refine mw_bipush (v := 120) dL_keeps_1342 (by decide) ?_
    refine mw_icmp_le (tgt := 1368) dL_keeps_1344 (by decide) (fun c9 => absurd c9 (by first | decide | exact (fun q => q rfl) | ((try simp only [fa_lit]); first | exact cq_le (by omega) (by omega) | exact cq_nle (by omega) (by omega) | exact cq_lt (by omega) (by omega) | exact cq_nlt (by omega) (by omega) | exact cq_eq (by omega) (by omega) (by omega) | exact cq_neq (by omega)))) (fun _ => ?_)
    refine mw_aload_n (i := 0) dL_keeps_1347 rfl rfl ?_
    refine mw_iload (i := 16) dL_keeps_1348 rfl ?_
    refine mw_iload (i := 17) dL_keeps_1350 rfl ?_
    refine mw_iload (i := 20) dL_keeps_1352 rfl ?_
    refine mw_callSX dL_keeps_1354 mk_L_182 (hw) (by decide) (Nat.le_refl _) (Nat.le_refl _) rfl rfl (Nat.le_of_ble_eq_true rfl) (fun E9 h9 q9 => ?_) (fun v9 h9 q9 => ?_)
    · cases q9.1
    obtain ⟨e9, H1, rfl, hI⟩ := q9
    cases e9
    refine mw_bipush (v := -73) dL_keeps_1357 (by decide) ?_
    refine mw_icmp_ne (tgt := 1366) dL_keeps_1359 (by decide) (fun c9 => absurd c9 (by first | decide | exact (fun q => q rfl))) (fun _ => ?_)
    refine mw_iconst (v := 1) dL_keeps_1362 (by decide) ?_
    refine mw_goto (tgt := 1367) dL_keeps_1363 (by decide) ?_
    exact mw_ireturn dL_keeps_1367 ⟨_, rfl, rfl⟩ ⟨rfl, _, _, _, _, rfl, hI, hM⟩
  · rw [putM_ok hbig] at hsp
    have hno : mw_W mm_L_keeps 10 12 560 1394 (some (.ref 1) :: some (.int act) :: some (.int y) :: some (.ref 43) :: some (.ref 44) :: some (.ref 45) :: some (.ref 46) :: some (.ref 47) :: some (.ref 48) :: some (.ref 49) :: some (.ref 50) :: some (.ref 51) :: some (.ref 52) :: some (.ref 54) :: some (.int (lf)) :: some (.int (nI s0)) :: some (.int (nI m)) :: some (.int (nI (tg i))) :: some (.int (zKind g.2.1 s (nI (tg i)))) :: some (.int (lir (Pt g.2.1 s (nI (tg i))) (12 * m) L)) :: some (.int (nI p)) :: x21 :: x22 :: x23 :: x24 :: x25 :: x26 :: x27 :: x28 :: x29 :: x30 :: x31 :: some (.int (nI C.length)) :: x33 :: x34 :: x35 :: x36 :: x37 :: x38 :: x39 :: x40 :: x41 :: []) [] (gl H A X) (lwP sc) := by
      have hw := w_setPart hI 5 (nI (tg i)) (nI p)
      rw [spl_part0 (show sM g 5 = none from sM_no (m := 5) (by decide) (hmo 5 (by decide) (by decide)))] at hw
      refine mw_aload_n (i := 0) dL_keeps_1394 rfl rfl ?_
      refine mw_iconst (v := 5) dL_keeps_1395 (by decide) ?_
      refine mw_iload (i := 17) dL_keeps_1396 rfl ?_
      refine mw_iload (i := 20) dL_keeps_1398 rfl ?_
      refine mw_callSX dL_keeps_1400 mk_L_182 (hw) (by decide) (Nat.le_refl _) (Nat.le_refl _) rfl rfl (Nat.le_of_ble_eq_true rfl) (fun E9 h9 q9 => ?_) (fun v9 h9 q9 => ?_)
      · cases q9.1
      obtain ⟨e9, H1, rfl, hI⟩ := q9
      cases e9
      refine mw_bipush (v := -71) dL_keeps_1403 (by decide) ?_
      refine mw_icmp_ne (tgt := 1412) dL_keeps_1405 (by decide) (fun c9 => absurd c9 (by first | decide | exact (fun q => q rfl))) (fun _ => ?_)
      refine mw_iconst (v := 1) dL_keeps_1408 (by decide) ?_
      refine mw_goto (tgt := 1413) dL_keeps_1409 (by decide) ?_
      exact mw_ireturn dL_keeps_1413 ⟨_, rfl, rfl⟩ ⟨rfl, _, _, _, _, rfl, hI, hM⟩
    refine mw_bipush (v := 120) dL_keeps_1342 (by decide) ?_
    refine mw_icmp_le (tgt := 1368) dL_keeps_1344 (by decide) (fun _ => ?_) (fun c9 => absurd c9 (by first | decide | exact (fun q => q rfl) | ((try simp only [fa_lit]); first | exact cq_le (by omega) (by omega) | exact cq_nle (by omega) (by omega) | exact cq_lt (by omega) (by omega) | exact cq_nlt (by omega) (by omega) | exact cq_eq (by omega) (by omega) (by omega) | exact cq_neq (by omega))))
    by_cases h16 : 16 < C.length
    · refine mw_iload (i := 32) dL_keeps_1368 rfl ?_
      refine mw_bipush (v := 16) dL_keeps_1370 (by decide) ?_
      refine mw_icmp_gt (tgt := 1394) dL_keeps_1372 (by decide) (fun _ => ?_) (fun c9 => absurd c9 (by first | decide | exact (fun q => q rfl) | ((try simp only [fa_lit]); first | exact cq_le (by omega) (by omega) | exact cq_nle (by omega) (by omega) | exact cq_lt (by omega) (by omega) | exact cq_nlt (by omega) (by omega) | exact cq_eq (by omega) (by omega) (by omega) | exact cq_neq (by omega))))
      exact hno
    · refine mw_iload (i := 32) dL_keeps_1368 rfl ?_
      refine mw_bipush (v := 16) dL_keeps_1370 (by decide) ?_
      refine mw_icmp_gt (tgt := 1394) dL_keeps_1372 (by decide) (fun c9 => absurd c9 (by first | decide | exact (fun q => q rfl) | ((try simp only [fa_lit]); first | exact cq_le (by omega) (by omega) | exact cq_nle (by omega) (by omega) | exact cq_lt (by omega) (by omega) | exact cq_nlt (by omega) (by omega) | exact cq_eq (by omega) (by omega) (by omega) | exact cq_neq (by omega)))) (fun _ => ?_)
      refine mw_aload_n (i := 3) dL_keeps_1375 rfl rfl ?_
      refine mw_aload (i := 5) dL_keeps_1376 rfl ?_
      refine mw_aload (i := 6) dL_keeps_1378 rfl ?_
      refine mw_aload (i := 7) dL_keeps_1380 rfl ?_
      refine mw_iload (i := 16) dL_keeps_1382 rfl ?_
      refine mw_iload (i := 17) dL_keeps_1384 rfl ?_
      refine mw_callSr dL_keeps_1386 mk_L_171 ((c_others hk hs hA ht.2 hm hok hR)) (by decide) (Nat.le_refl _) (Nat.le_refl _) rfl rfl (Nat.le_of_ble_eq_true rfl) ?_
      by_cases ho : (oth g.2.1 s (nI (tg i)) L).length = 12
      · refine mw_bipush (v := 12) dL_keeps_1389 (by decide) ?_
        refine mw_icmp_ne (tgt := 1414) dL_keeps_1391 (by decide) (fun c9 => absurd c9 (by first | decide | exact (fun q => q rfl) | ((try simp only [fa_lit]); first | exact cq_le (by omega) (by omega) | exact cq_nle (by omega) (by omega) | exact cq_lt (by omega) (by omega) | exact cq_nlt (by omega) (by omega) | exact cq_eq (by omega) (by omega) (by omega) | exact cq_neq (by omega)))) (fun _ => ?_)
        exact hno
      · refine mw_bipush (v := 12) dL_keeps_1389 (by decide) ?_
        refine mw_icmp_ne (tgt := 1414) dL_keeps_1391 (by decide) (fun _ => ?_) (fun c9 => absurd c9 (by first | decide | exact (fun q => q rfl) | ((try simp only [fa_lit]); first | exact cq_le (by omega) (by omega) | exact cq_nle (by omega) (by omega) | exact cq_lt (by omega) (by omega) | exact cq_nlt (by omega) (by omega) | exact cq_eq (by omega) (by omega) (by omega) | exact cq_neq (by omega))))
        refine mw_lconst (v := 0) dL_keeps_1414 (by decide) ?_
        refine mw_lstore_33 dL_keeps_1415 (by decide) ?_
        refine mw_lconst (v := 0) dL_keeps_1417 (by decide) ?_
        refine mw_lstore_35 dL_keeps_1418 (by decide) ?_
        refine mw_iconst (v := 0) dL_keeps_1420 (by decide) ?_
        refine mw_istore_37 dL_keeps_1421 (by decide) ?_
        refine lp_two (by omega) hCb hq (fun V V' x37 hbt => ?_) C.length 0 0 0 (by omega) (fun q hq16 => ?_)
        · exact kp_part_r hI hM hfr hs0 hm hT hi hp hTp (by omega) hxn hsp hbt (by omega)
        · rw [lb_0, lb_0, if_neg (Nat.not_lt_zero _)]
          split <;> rfl
theorem kp_part (hI : cS sc g H A X) (hM : mR g A X) (hfr : frP g lf) (hs0 : s0 < g.1) (hm : m < 5) (hT : g.2.2.1 m = some (s, L)) (hi : i < 6) (hp : p < 5) (hTp : g.2.2.1 p = some (s2, L2)) {x21 x22 x23 x24 x25 x26 x27 x28 x29 x30 x31 x32 x33 x34 x35 x36 x37 x38 x39 x40 x41 : Option Value} : mw_W mm_L_keeps 10 12 560 1199 (some (.ref 1) :: some (.int act) :: some (.int y) :: some (.ref 43) :: some (.ref 44) :: some (.ref 45) :: some (.ref 46) :: some (.ref 47) :: some (.ref 48) :: some (.ref 49) :: some (.ref 50) :: some (.ref 51) :: some (.ref 52) :: some (.ref 54) :: some (.int (lf)) :: some (.int (nI s0)) :: some (.int (nI m)) :: some (.int (nI (tg i))) :: some (.int (zKind g.2.1 s (nI (tg i)))) :: some (.int (lir (Pt g.2.1 s (nI (tg i))) (12 * m) L)) :: some (.int (nI p)) :: x21 :: x22 :: x23 :: x24 :: x25 :: x26 :: x27 :: x28 :: x29 :: x30 :: x31 :: x32 :: x33 :: x34 :: x35 :: x36 :: x37 :: x38 :: x39 :: x40 :: x41 :: []) [] (gl H A X) (lwP sc) := by
  have hgok := cS_ok hI
  have hns4 := mR_ns hM
  have ht := tg_in hi
  obtain ⟨hk, hg0, hms, hmo, hg1, h64, htp, -⟩ := id hM
  obtain ⟨hs, hok, h120⟩ := hgok.2.2.2.1 m s L (by omega) hT
  obtain ⟨hA, hR⟩ := (hms m hm).2 s L hT
  have h12 := hR.2.1
  have hsM := sM_at (g := g) (by omega) hT
  have hsS := sS_at hgok.1 hs0
  obtain ⟨hs2, hok2, h1202⟩ := hgok.2.2.2.1 p s2 L2 (by omega) hTp
  obtain ⟨hA2, hR2⟩ := (hms p hp).2 s2 L2 hTp
  have hcl : (nI (tg i)).toNatClampNeg = tg i := nI_clamp (by omega)
  have htix : tix s (nI (tg i)) = 32 * s + tg i := tix_n (by omega)
  have hbad := fun h => kp_part_bad (x21 := x21) (x22 := x22) (x23 := x23) (x24 := x24) (x25 := x25) (x26 := x26) (x27 := x27) (x28 := x28) (x29 := x29) (x30 := x30) (x32 := x32) (x33 := x33) (x34 := x34) (x35 := x35) (x36 := x36) (x37 := x37) (x38 := x38) (x39 := x39) (x40 := x40) (x41 := x41) (x31 := none) (act := act) (y := y) (lf := lf) hI hM hfr hs0 hm hT hi hp hTp h
  rcases kR_cases hk hs ht.1 ht.2 with hz | ⟨κ, hκ, hz, -⟩
  · rw [hz] at hbad ⊢
    refine mw_iload (i := 18) dL_keeps_1199 rfl ?_
    refine mw_iconst (v := 4) dL_keeps_1201 (by decide) ?_
    refine mw_icmp_ne (tgt := 1236) dL_keeps_1202 (by decide) (fun _ => ?_) (fun c9 => absurd c9 (by first | decide | exact (fun q => q rfl)))
    refine mw_iconst (v := 0) dL_keeps_1236 (by decide) ?_
    refine mw_istore_31 dL_keeps_1237 (by decide) ?_
    exact hbad (Or.inl (by decide))
  · by_cases h4 : κ = 4
    · subst h4
      obtain ⟨i', o, i1, i2, i3, i4, i5, -⟩ := kR_at hk hs ht.1 ht.2 (by decide) hz
      have i2 := tg_inj i1 hi i2
      subst i2
      obtain ⟨o1, o2⟩ := i5 rfl
      have hsp := spl_part (t := nI (tg i')) (by omega : m < 12) hT (by omega : p < 12) hTp
      rw [hcl] at hsp
      by_cases ho : o = s2
      · subst ho
        rw [if_neg (fun z => by
          rcases z with z | z
          · exact z hz
          · rw [htix] at z; exact z o2)] at hsp
        have hca := c_canonical (H := H) hk hs2 hA2 hp hok2 hR2 h1202
        have hCb : ∀ z ∈ eL (can g.2.1 o L2), z < 256 := eL_lt (can_ok hok2)
        have hCl : (eL (can g.2.1 o L2)).length ≤ 120 := Nat.le_trans (canU_le g.2.1 o L2 31) h1202
        generalize eL (can g.2.1 o L2) = C at hca hsp hCb hCl
        have hM2 : mR g (AW A 0 C) X := mR_scr hM (fun j z9 z10 z11 => AW_n _ _ _ z9 z11) (by rw [AW_g', pk_un (by decide)]) (by rw [AW_g', pk_un (by decide)])
        have hgo := kp_part_c (x33 := x33) (x34 := x34) (x35 := x35) (x36 := x36) (x37 := x37) (x38 := x38) (x39 := x39) (x40 := x40) (x41 := x41) (x21 := x21) (x22 := x22) (x23 := x23) (x24 := x24) (x25 := x25) (x26 := x26) (x27 := x27) (x28 := x28) (x29 := x29) (x30 := x30)  (x31 := some (.int 1)) (act := act) (y := y) (lf := lf) (cS_gl (A' := AW A 0 C) (X' := X) hI) hM2 hfr hs0 hm hT hi hp hTp hCl hCb (fun j hj h64 => by rw [AW_q]; exact wq_get hj h64) rfl hsp
        rw [hz] at hgo ⊢
        refine mw_iload (i := 18) dL_keeps_1199 rfl ?_
        refine mw_iconst (v := 4) dL_keeps_1201 (by decide) ?_
        refine mw_icmp_ne (tgt := 1236) dL_keeps_1202 (by decide) (fun c9 => absurd c9 (by first | decide | exact (fun q => q rfl))) (fun _ => ?_)
        refine mw_aload_n (i := 3) dL_keeps_1205 rfl rfl ?_
        refine mw_aload (i := 5) dL_keeps_1206 rfl ?_
        refine mw_iload (i := 16) dL_keeps_1208 rfl ?_
        refine mw_iald dL_keeps_1210 gl_2 (mw_ix rfl hm (by decide)) ?_
        rw [hA]
        refine mw_iconst (v := 1) dL_keeps_1211 (by decide) ?_
        refine mw_isub dL_keeps_1212 ?_
        rw [nI_pred]
        refine mw_iload (i := 17) dL_keeps_1213 rfl ?_
        refine mw_callSr dL_keeps_1215 mk_L_93 ((c_place hi (by omega))) (by decide) (Nat.le_refl _) (Nat.le_refl _) rfl rfl (Nat.le_of_ble_eq_true rfl) ?_
        refine mw_iald dL_keeps_1218 gl_0 (mw_ix rfl (by omega) (by decide)) ?_
        rw [i4]
        refine mw_bipush (v := 8) dL_keeps_1219 (by decide) ?_
        refine mw_idiv dL_keeps_1221 (by decide) ?_
        rw [mx_d8' (by decide) i3]
        refine mw_aload (i := 5) dL_keeps_1222 rfl ?_
        refine mw_iload (i := 20) dL_keeps_1224 rfl ?_
        refine mw_iald dL_keeps_1226 gl_2 (mw_ix rfl hp (by decide)) ?_
        rw [hA2]
        refine mw_iconst (v := 1) dL_keeps_1227 (by decide) ?_
        refine mw_isub dL_keeps_1228 ?_
        rw [nI_pred]
        refine mw_icmp_ne (tgt := 1236) dL_keeps_1229 (by decide) (fun c9 => absurd c9 (by first | decide | exact (fun q => q rfl))) (fun _ => ?_)
        refine mw_iconst (v := 1) dL_keeps_1232 (by decide) ?_
        refine mw_goto (tgt := 1237) dL_keeps_1233 (by decide) ?_
        refine mw_istore_31 dL_keeps_1237 (by decide) ?_
        refine mw_iload (i := 31) dL_keeps_1239 rfl ?_
        refine mw_if_ne (tgt := 1280) dL_keeps_1241 (by decide) (fun _ => ?_) (fun c9 => absurd c9 (by first | decide | exact (fun q => q rfl)))
        refine mw_aload_n (i := 3) dL_keeps_1280 rfl rfl ?_
        refine mw_aload (i := 4) dL_keeps_1281 rfl ?_
        refine mw_aload (i := 5) dL_keeps_1283 rfl ?_
        refine mw_aload (i := 6) dL_keeps_1285 rfl ?_
        refine mw_aload (i := 7) dL_keeps_1287 rfl ?_
        refine mw_aload (i := 8) dL_keeps_1289 rfl ?_
        refine mw_aload (i := 9) dL_keeps_1291 rfl ?_
        refine mw_aload (i := 10) dL_keeps_1293 rfl ?_
        refine mw_aload (i := 12) dL_keeps_1295 rfl ?_
        refine mw_aload (i := 13) dL_keeps_1297 rfl ?_
        refine mw_iload (i := 20) dL_keeps_1299 rfl ?_
        refine mw_callSr dL_keeps_1301 mk_L_184 (hca) (by decide) (Nat.le_refl _) (Nat.le_refl _) rfl rfl (Nat.le_of_ble_eq_true rfl) ?_
        refine mw_istore_32 dL_keeps_1304 (by decide) ?_
        exact hgo
      · rw [hz] at hbad ⊢
        refine mw_iload (i := 18) dL_keeps_1199 rfl ?_
        refine mw_iconst (v := 4) dL_keeps_1201 (by decide) ?_
        refine mw_icmp_ne (tgt := 1236) dL_keeps_1202 (by decide) (fun c9 => absurd c9 (by first | decide | exact (fun q => q rfl))) (fun _ => ?_)
        refine mw_aload_n (i := 3) dL_keeps_1205 rfl rfl ?_
        refine mw_aload (i := 5) dL_keeps_1206 rfl ?_
        refine mw_iload (i := 16) dL_keeps_1208 rfl ?_
        refine mw_iald dL_keeps_1210 gl_2 (mw_ix rfl hm (by decide)) ?_
        rw [hA]
        refine mw_iconst (v := 1) dL_keeps_1211 (by decide) ?_
        refine mw_isub dL_keeps_1212 ?_
        rw [nI_pred]
        refine mw_iload (i := 17) dL_keeps_1213 rfl ?_
        refine mw_callSr dL_keeps_1215 mk_L_93 ((c_place hi (by omega))) (by decide) (Nat.le_refl _) (Nat.le_refl _) rfl rfl (Nat.le_of_ble_eq_true rfl) ?_
        refine mw_iald dL_keeps_1218 gl_0 (mw_ix rfl (by omega) (by decide)) ?_
        rw [i4]
        refine mw_bipush (v := 8) dL_keeps_1219 (by decide) ?_
        refine mw_idiv dL_keeps_1221 (by decide) ?_
        rw [mx_d8' (by decide) i3]
        refine mw_aload (i := 5) dL_keeps_1222 rfl ?_
        refine mw_iload (i := 20) dL_keeps_1224 rfl ?_
        refine mw_iald dL_keeps_1226 gl_2 (mw_ix rfl hp (by decide)) ?_
        rw [hA2]
        refine mw_iconst (v := 1) dL_keeps_1227 (by decide) ?_
        refine mw_isub dL_keeps_1228 ?_
        rw [nI_pred]
        refine mw_icmp_ne (tgt := 1236) dL_keeps_1229 (by decide) (fun _ => ?_) (fun c9 => absurd c9 (by first | decide | exact (fun q => q rfl) | ((try simp only [fa_lit]); first | exact cq_le (by omega) (by omega) | exact cq_nle (by omega) (by omega) | exact cq_lt (by omega) (by omega) | exact cq_nlt (by omega) (by omega) | exact cq_eq (by omega) (by omega) (by omega) | exact cq_neq (by omega))))
        refine mw_iconst (v := 0) dL_keeps_1236 (by decide) ?_
        refine mw_istore_31 dL_keeps_1237 (by decide) ?_
        exact hbad (Or.inr (by rw [htix, o2]; exact fun z => ho ((nI_eq (by omega) (by omega)).mp z)))
    · have hne : ¬ nI κ = 4 := fun z => h4 ((nI_eq (b := 4) (by omega) (by decide)).mp z)
      rw [hz] at hbad ⊢
      refine mw_iload (i := 18) dL_keeps_1199 rfl ?_
      refine mw_iconst (v := 4) dL_keeps_1201 (by decide) ?_
      refine mw_icmp_ne (tgt := 1236) dL_keeps_1202 (by decide) (fun _ => ?_) (fun c9 => absurd c9 hne)
      refine mw_iconst (v := 0) dL_keeps_1236 (by decide) ?_
      refine mw_istore_31 dL_keeps_1237 (by decide) ?_
      exact hbad (Or.inl hne)
end K4
