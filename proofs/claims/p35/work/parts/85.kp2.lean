/-! keeps: an int is set: written by gen/85.py (class side) -/
theorem mR_put {g : mS} {A A' : Nat → Nat → Int32} {X X' : Nat → Nat → Int64} {m s : Nat} {L L' : List af} (hM : mR g A X) (hm : m < 5) (hT : g.2.2.1 m = some (s, L)) (hR : fR A' X' m L') (hF : fF m A X A' X') : mR (gSet g m s L') A' X' := by
  refine mR_set hM hm (hF.1 0 (by decide) (by decide) (by decide) (by decide)) (hF.1 1 (by decide) (by decide) (by decide) (by decide)) (hF.1 8 (by decide) (by decide) (by decide) (by decide)) (hF.2.1 0 (by decide)) (hF.2.1 1 (by decide)) ?_ (fun j _ => by rw [hF.1 2 (by decide) (by decide) (by decide) (by decide)]) hR (fun m' L' hm' _ h => hF.fR hm' h)
  rw [hF.1 2 (by decide) (by decide) (by decide) (by decide)]
  exact ((hM.2.2.1 m hm).2 s L hT).1
theorem bv_x (x : Int32) : (x ^^^ (-1)).toBitVec.toNat = 2 ^ 32 - 1 - x.toBitVec.toNat := by
  rw [Int32.toBitVec_xor, show (-1 : Int32).toBitVec = BitVec.allOnes 32 from rfl, BitVec.xor_allOnes, BitVec.toNat_not]
theorem bv_eq {x z : Int32} (h : x.toBitVec.toNat = z.toBitVec.toNat) : x = z := Int32.toBitVec_inj.mp (BitVec.eq_of_toNat_eq h)
theorem bv_2m (x : Int32) : (2 * x).toBitVec.toNat = 2 * x.toBitVec.toNat % 2 ^ 32 := by
  rw [Int32.toBitVec_mul, BitVec.toNat_mul]
  rfl
theorem bv_a1 (x : Int32) : (x + 1).toBitVec.toNat = (x.toBitVec.toNat + 1) % 2 ^ 32 := by
  rw [Int32.toBitVec_add, BitVec.toNat_add]
  rfl
theorem bv_sgn (x : Int32) : x < 0 ↔ 2 ^ 31 ≤ x.toBitVec.toNat := by
  have h := x.toBitVec.isLt
  rw [fa_lt]
  show x.toBitVec.toInt < 0 ↔ _
  rw [BitVec.toInt_eq_toNat_cond]
  by_cases c : 2 * x.toBitVec.toNat < 2 ^ 32
  · rw [if_pos c]; omega
  · rw [if_neg c]; omega
theorem bv_s1 (x : Int32) : (x <<< ((1 : Int32) &&& 31)).toBitVec.toNat = 2 * x.toBitVec.toNat % 2 ^ 32 := by
  rw [pk_shl x _ 1 (by decide), Nat.mul_comm]
theorem bv_s31 (x : Int32) : x >>> ((31 : Int32) &&& 31) = if x < 0 then -1 else 0 := by
  have h := pk_shr x ((31 : Int32) &&& 31) 31 (by decide)
  have h1 := Int32.toInt_lt x
  have h2 := Int32.le_toInt x
  apply Int32.toInt_inj.mp
  rw [h, Int.shiftRight_eq_div_pow]
  by_cases c : x < 0
  · rw [if_pos c]
    rw [fa_lt] at c
    have c : x.toInt < 0 := c
    show x.toInt / 2147483648 = -1
    omega
  · rw [if_neg c]
    rw [fa_lt] at c
    have c : ¬ x.toInt < 0 := c
    show x.toInt / 2147483648 = 0
    omega
theorem zStA_neg {v : Int32} (h : v < 0) : zStA 1 v = 2 * (v ^^^ (-1)) + 1 := by
  show (v <<< ((1 : Int32) &&& 31)) ^^^ (v >>> ((31 : Int32) &&& 31)) = _
  rw [bv_s31, if_pos h]
  apply bv_eq
  have h1 := v.toBitVec.isLt
  rw [bv_x, bv_s1, bv_a1, bv_2m, bv_x]
  omega
theorem zStA_pos {v : Int32} (h : ¬ v < 0) : zStA 1 v = 2 * v := by
  show (v <<< ((1 : Int32) &&& 31)) ^^^ (v >>> ((31 : Int32) &&& 31)) = _
  rw [bv_s31, if_neg h, Int32.xor_zero]
  apply bv_eq
  rw [bv_s1, bv_2m]
theorem zSt_1 (v : Int32) : zStF 1 (zStA 1 v) = v := by
  have hz : ∀ z : Int32, zStF 1 z = (z.toUInt32 >>> ((1 : Int32).toUInt32 &&& Int32.toUInt32 31)).toInt32 ^^^ -(z &&& 1) := fun z => if_pos rfl
  have hu : ∀ z : Int32, (z.toUInt32 >>> ((1 : Int32).toUInt32 &&& Int32.toUInt32 31)).toInt32.toBitVec.toNat = z.toBitVec.toNat / 2 ^ 1 := fun z => pk_ushr z 1 1 (by decide)
  have h1 := v.toBitVec.isLt
  by_cases c : v < 0
  · have c2 := (bv_sgn v).mp c
    have hn : (zStA 1 v).toBitVec.toNat = 2 ^ 33 - 1 - 2 * v.toBitVec.toNat := by
      rw [zStA_neg c, bv_a1, bv_2m, bv_x]
      omega
    have hb : zStA 1 v &&& 1 = 1 := by
      rw [pk_and (zStA 1 v) (m := 1) 1 (by decide), hn, show (2 ^ 33 - 1 - 2 * v.toBitVec.toNat) % 2 ^ 1 = 1 by omega]
      rfl
    rw [hz, hb, show -(1 : Int32) = -1 from rfl]
    apply bv_eq
    rw [bv_x, hu, hn]
    omega
  · have c2 : ¬ 2 ^ 31 ≤ v.toBitVec.toNat := fun z => c ((bv_sgn v).mpr z)
    have hn : (zStA 1 v).toBitVec.toNat = 2 * v.toBitVec.toNat := by
      rw [zStA_pos c, bv_2m]
      omega
    have hb : zStA 1 v &&& 1 = 0 := by
      rw [pk_and (zStA 1 v) (m := 1) 1 (by decide), hn, show 2 * v.toBitVec.toNat % 2 ^ 1 = 0 by omega]
      rfl
    rw [hz, hb, show -(0 : Int32) = 0 from rfl, Int32.xor_zero]
    apply bv_eq
    rw [hu, hn]
    omega
theorem zSt_k {κ : Nat} (h : κ ≤ 4) (v : Int32) : zStF (nI κ) (zStA (nI κ) v) = v := by
  by_cases e : κ = 1
  · subst e; exact zSt_1 v
  · have hne : ¬ nI κ = 1 := fun z => e ((nI_eq (b := 1) (by omega) (by decide)).mp z)
    have e1 : zStA (nI κ) v = v := if_neg hne
    rw [e1]
    exact if_neg hne
theorem eL_put (L : List af) (x : af) : (eL (L ++ [x])).length = (eL L).length + (ef x).length := by rw [eL_one, List.length_append]
theorem lastK_put {K : Nat → Nat → Int32} {s : Nat} {t : Int32} {L : List af} {x : af} (hx : Pt K s t x = true) : lastK K s t (L ++ [x]) = some x := lastK_yes (L2 := []) hx (fun z hz => by cases hz)
theorem zInt_m1 : zInt (-1) = 0 := by decide
theorem zHas_m1 : zHas (-1) = 0 := by decide
theorem zK_0 {K : Nat → Nat → Int32} {s : Nat} {t : Int32} (h : zTag t = 0) : zKind K s t = -1 := if_pos h
section SPL
variable {g : mS} {m s : Nat} {L : List af} {t v : Int32} {x : af}
theorem spl_get (hm : m < 12) (hT : g.2.2.1 m = some (s, L)) (hz : ¬ zInt (zKind g.2.1 s t) = 0) (hl : lastK g.2.1 s t L = some x) : sp_get g (nI m) t = (0, zStF (zKind g.2.1 s t) (nI x.2.2.1), g) := by
  unfold sp_get
  rw [sM_at hm hT]
  show (if zInt (zKind g.2.1 s t) = 0 then _ else _) = _
  rw [if_neg hz, hl]
theorem spl_get2 (hm : m < 12) (hT : g.2.2.1 m = some (s, L)) (hz : zInt (zKind g.2.1 s t) = 0) : sp_get g (nI m) t = (2, 0, g) := by
  unfold sp_get
  rw [sM_at hm hT]
  exact if_pos hz
theorem spl_set2 (hm : m < 12) (hT : g.2.2.1 m = some (s, L)) (hz : zInt (zKind g.2.1 s t) = 0) : sp_set g (nI m) t v = (2, 0, g) := by
  unfold sp_set
  rw [sM_at hm hT]
  exact if_pos hz
theorem spl_set (hm : m < 12) (hT : g.2.2.1 m = some (s, L)) (hz : ¬ zInt (zKind g.2.1 s t) = 0) : sp_set g (nI m) t v = putM g m s (oth g.2.1 s t L ++ [(t.toNatClampNeg, tyN (zKind g.2.1 s t), uN (zStA (zKind g.2.1 s t) v), [])]) 0 := by
  unfold sp_set
  rw [sM_at hm hT]
  exact if_neg hz
theorem spl_weight (hm : m < 12) (hT : g.2.2.1 m = some (s, L)) : sp_weight g (nI m) = (0, nI (eL L).length, g) := by
  unfold sp_weight
  rw [sM_at hm hT]
theorem putM_big {L' : List af} {r : Int32} (h : 120 < (eL L').length) : putM g m s L' r = (3, 0, g) := if_pos h
theorem putM_ok {L' : List af} {r : Int32} (h : ¬ 120 < (eL L').length) : putM g m s L' r = (0, r, gSet g m s L') := if_neg h
end SPL
section K2
variable {sc : mSc} {g : mS} {H : mw_H} {A : Nat → Nat → Int32} {X : Nat → Nat → Int64} {s m i p s0 s2 : Nat} {L L2 : List af} {lf act y : Int32}
theorem kp_set_bad (hI : cS sc g H A X) (hM : mR g A X) (hfr : frP g lf) (hs0 : s0 < g.1) (hm : m < 5) (hT : g.2.2.1 m = some (s, L)) (hi : i < 6) (hp : p < 5) (hTp : g.2.2.1 p = some (s2, L2)) {x22 x23 x24 x25 x26 x27 x28 x29 x30 x31 x32 x33 x34 x35 x36 x37 x38 x39 x40 x41 : Option Value} {v : Int32} (hz : zInt (zKind g.2.1 s (nI (tg i))) = 0) : mw_W mm_L_keeps 10 12 560 612 (some (.ref 1) :: some (.int act) :: some (.int y) :: some (.ref 43) :: some (.ref 44) :: some (.ref 45) :: some (.ref 46) :: some (.ref 47) :: some (.ref 48) :: some (.ref 49) :: some (.ref 50) :: some (.ref 51) :: some (.ref 52) :: some (.ref 54) :: some (.int (lf)) :: some (.int (nI s0)) :: some (.int (nI m)) :: some (.int (nI (tg i))) :: some (.int (zKind g.2.1 s (nI (tg i)))) :: some (.int (lir (Pt g.2.1 s (nI (tg i))) (12 * m) L)) :: some (.int (nI p)) :: some (.int (v)) :: x22 :: x23 :: x24 :: x25 :: x26 :: x27 :: x28 :: x29 :: x30 :: x31 :: x32 :: x33 :: x34 :: x35 :: x36 :: x37 :: x38 :: x39 :: x40 :: x41 :: []) [] (gl H A X) (lwP sc) := by
  have hw := w_set hI (nI m) (nI (tg i)) v
  rw [spl_set2 (by omega) hT hz] at hw
  refine mw_aload_n (i := 0) dL_keeps_612 rfl rfl ?_
  refine mw_iload (i := 16) dL_keeps_613 rfl ?_
  refine mw_iload (i := 17) dL_keeps_615 rfl ?_
  refine mw_iload (i := 21) dL_keeps_617 rfl ?_
  refine mw_callSX dL_keeps_619 mk_L_160 (hw) (by decide) (Nat.le_refl _) (Nat.le_refl _) rfl rfl (Nat.le_of_ble_eq_true rfl) (fun E9 h9 q9 => ?_) (fun v9 h9 q9 => ?_)
  · cases q9.1
  obtain ⟨e9, H1, rfl, hI⟩ := q9
  cases e9
  refine mw_bipush (v := -72) dL_keeps_622 (by decide) ?_
  refine mw_icmp_ne (tgt := 642) dL_keeps_624 (by decide) (fun c9 => absurd c9 (by first | decide | exact (fun q => q rfl))) (fun _ => ?_)
  refine mw_aload_n (i := 0) dL_keeps_627 rfl rfl ?_
  refine mw_iload (i := 16) dL_keeps_628 rfl ?_
  refine mw_iload (i := 17) dL_keeps_630 rfl ?_
  refine mw_callSX dL_keeps_632 mk_L_163 ((w_hasNone hI (nI m) (nI (tg i)) (spl_get2 (by omega) hT hz))) (by decide) (Nat.le_refl _) (Nat.le_refl _) rfl rfl (Nat.le_of_ble_eq_true rfl) (fun E9 h9 q9 => ?_) (fun v9 h9 q9 => ?_)
  · cases q9.1
  obtain ⟨e9, H2, rfl, hI⟩ := q9
  cases e9
  refine mw_if_eq (tgt := 642) dL_keeps_635 (by decide) (fun c9 => absurd c9 (by first | decide | exact (fun q => q rfl))) (fun _ => ?_)
  refine mw_iconst (v := 1) dL_keeps_638 (by decide) ?_
  refine mw_goto (tgt := 643) dL_keeps_639 (by decide) ?_
  exact mw_ireturn dL_keeps_643 ⟨_, rfl, rfl⟩ ⟨rfl, _, _, _, _, rfl, hI, hM⟩
theorem kp_set_w (hI : cS sc g H A X) (hM : mR g A X) (hfr : frP g lf) (hs0 : s0 < g.1) (hm : m < 5) (hT : g.2.2.1 m = some (s, L)) (hi : i < 6) (hp : p < 5) (hTp : g.2.2.1 p = some (s2, L2)) {x25 x26 x27 x28 x29 x30 x31 x32 x33 x34 x35 x36 x37 x38 x39 x40 x41 : Option Value} {v : Int32} {κ nb ty Wt : Nat} {xn : af} (hz : zKind g.2.1 s (nI (tg i)) = nI κ) (hκ : κ ≤ 2) (hty : ty = 0 ∨ ty = 5) (hxn : xn = (tg i, ty, nb, [])) (hxP : Pt g.2.1 s (nI (tg i)) xn = true) (hnbI : zStA (nI κ) v = nI nb) (hsp : sp_set g (nI m) (nI (tg i)) v = putM g m s (oth g.2.1 s (nI (tg i)) L ++ [xn]) 0) (hW : Wt = (eL (oth g.2.1 s (nI (tg i)) L ++ [xn])).length) (hW2 : Wt ≤ 200) : mw_W mm_L_keeps 10 12 560 736 (some (.ref 1) :: some (.int act) :: some (.int y) :: some (.ref 43) :: some (.ref 44) :: some (.ref 45) :: some (.ref 46) :: some (.ref 47) :: some (.ref 48) :: some (.ref 49) :: some (.ref 50) :: some (.ref 51) :: some (.ref 52) :: some (.ref 54) :: some (.int (lf)) :: some (.int (nI s0)) :: some (.int (nI m)) :: some (.int (nI (tg i))) :: some (.int (nI κ)) :: some (.int (lir (Pt g.2.1 s (nI (tg i))) (12 * m) L)) :: some (.int (nI p)) :: some (.int (v)) :: some (.int (nI nb)) :: some (.int (nI (8 * tg i + ty))) :: some (.int (nI Wt)) :: x25 :: x26 :: x27 :: x28 :: x29 :: x30 :: x31 :: x32 :: x33 :: x34 :: x35 :: x36 :: x37 :: x38 :: x39 :: x40 :: x41 :: []) [] (gl H A X) (lwP sc) := by
  have hgok := cS_ok hI
  have hns4 := mR_ns hM
  have ht := tg_in hi
  obtain ⟨hk, hg0, hms, hmo, hg1, h64, htp, -⟩ := id hM
  obtain ⟨hs, hok, h120⟩ := hgok.2.2.2.1 m s L (by omega) hT
  obtain ⟨hA, hR⟩ := (hms m hm).2 s L hT
  have h12 := hR.2.1
  have hsM := sM_at (g := g) (by omega) hT
  have hsS := sS_at hgok.1 hs0
  have hzi : ¬ zInt (zKind g.2.1 s (nI (tg i))) = 0 := by rw [hz, zInt_k (by omega), if_pos hκ]; decide
  have hx1 : xn.1 = tg i := by rw [hxn]
  have hx2 : xn.2.1 = ty := by rw [hxn]
  have hx3 : xn.2.2.1 = nb := by rw [hxn]
  have hotho := oth_len (K := g.2.1) (s := s) (L := L) (nI (tg i))
  by_cases hbig : 120 < Wt
  · have hw := w_set hI (nI m) (nI (tg i)) v
    rw [hsp, putM_big (by omega)] at hw
    refine mw_iload (i := 24) dL_keeps_736 rfl ?_
    refine mw_bipush (v := 120) dL_keeps_738 (by decide) ?_
    refine mw_icmp_le (tgt := 764) dL_keeps_740 (by decide) (fun c9 => absurd c9 (by first | decide | exact (fun q => q rfl) | ((try simp only [fa_lit]); first | exact cq_le (by omega) (by omega) | exact cq_nle (by omega) (by omega) | exact cq_lt (by omega) (by omega) | exact cq_nlt (by omega) (by omega) | exact cq_eq (by omega) (by omega) (by omega) | exact cq_neq (by omega)))) (fun _ => ?_)
    refine mw_aload_n (i := 0) dL_keeps_743 rfl rfl ?_
    refine mw_iload (i := 16) dL_keeps_744 rfl ?_
    refine mw_iload (i := 17) dL_keeps_746 rfl ?_
    refine mw_iload (i := 21) dL_keeps_748 rfl ?_
    refine mw_callSX dL_keeps_750 mk_L_160 (hw) (by decide) (Nat.le_refl _) (Nat.le_refl _) rfl rfl (Nat.le_of_ble_eq_true rfl) (fun E9 h9 q9 => ?_) (fun v9 h9 q9 => ?_)
    · cases q9.1
    obtain ⟨e9, H1, rfl, hI⟩ := q9
    cases e9
    refine mw_bipush (v := -73) dL_keeps_753 (by decide) ?_
    refine mw_icmp_ne (tgt := 762) dL_keeps_755 (by decide) (fun c9 => absurd c9 (by first | decide | exact (fun q => q rfl))) (fun _ => ?_)
    refine mw_iconst (v := 1) dL_keeps_758 (by decide) ?_
    refine mw_goto (tgt := 763) dL_keeps_759 (by decide) ?_
    exact mw_ireturn dL_keeps_763 ⟨_, rfl, rfl⟩ ⟨rfl, _, _, _, _, rfl, hI, hM⟩
  · rw [putM_ok (by omega)] at hsp
    refine mw_iload (i := 24) dL_keeps_736 rfl ?_
    refine mw_bipush (v := 120) dL_keeps_738 (by decide) ?_
    refine mw_icmp_le (tgt := 764) dL_keeps_740 (by decide) (fun _ => ?_) (fun c9 => absurd c9 (by first | decide | exact (fun q => q rfl) | ((try simp only [fa_lit]); first | exact cq_le (by omega) (by omega) | exact cq_nle (by omega) (by omega) | exact cq_lt (by omega) (by omega) | exact cq_nlt (by omega) (by omega) | exact cq_eq (by omega) (by omega) (by omega) | exact cq_neq (by omega))))
    refine mw_aload_n (i := 3) dL_keeps_764 rfl rfl ?_
    refine mw_aload (i := 5) dL_keeps_765 rfl ?_
    refine mw_aload (i := 6) dL_keeps_767 rfl ?_
    refine mw_aload (i := 7) dL_keeps_769 rfl ?_
    refine mw_iload (i := 16) dL_keeps_771 rfl ?_
    refine mw_iload (i := 17) dL_keeps_773 rfl ?_
    refine mw_callSr dL_keeps_775 mk_L_171 ((c_others hk hs hA ht.2 hm hok hR)) (by decide) (Nat.le_refl _) (Nat.le_refl _) rfl rfl (Nat.le_of_ble_eq_true rfl) ?_
    by_cases ho : (oth g.2.1 s (nI (tg i)) L).length = 12
    · have hw := w_set hI (nI m) 0 v
      rw [spl_set2 (by omega) hT (by rw [zK_0 zTag_0]; exact zInt_m1)] at hw
      refine mw_bipush (v := 12) dL_keeps_778 (by decide) ?_
      refine mw_icmp_ne (tgt := 803) dL_keeps_780 (by decide) (fun c9 => absurd c9 (by first | decide | exact (fun q => q rfl) | ((try simp only [fa_lit]); first | exact cq_le (by omega) (by omega) | exact cq_nle (by omega) (by omega) | exact cq_lt (by omega) (by omega) | exact cq_nlt (by omega) (by omega) | exact cq_eq (by omega) (by omega) (by omega) | exact cq_neq (by omega)))) (fun _ => ?_)
      refine mw_aload_n (i := 0) dL_keeps_783 rfl rfl ?_
      refine mw_iload (i := 16) dL_keeps_784 rfl ?_
      refine mw_iconst (v := 0) dL_keeps_786 (by decide) ?_
      refine mw_iload (i := 21) dL_keeps_787 rfl ?_
      refine mw_callSX dL_keeps_789 mk_L_160 (hw) (by decide) (Nat.le_refl _) (Nat.le_refl _) rfl rfl (Nat.le_of_ble_eq_true rfl) (fun E9 h9 q9 => ?_) (fun v9 h9 q9 => ?_)
      · cases q9.1
      obtain ⟨e9, H1, rfl, hI⟩ := q9
      cases e9
      refine mw_bipush (v := -72) dL_keeps_792 (by decide) ?_
      refine mw_icmp_ne (tgt := 801) dL_keeps_794 (by decide) (fun c9 => absurd c9 (by first | decide | exact (fun q => q rfl))) (fun _ => ?_)
      refine mw_iconst (v := 1) dL_keeps_797 (by decide) ?_
      refine mw_goto (tgt := 802) dL_keeps_798 (by decide) ?_
      exact mw_ireturn dL_keeps_802 ⟨_, rfl, rfl⟩ ⟨rfl, _, _, _, _, rfl, hI, hM⟩
    · refine mw_bipush (v := 12) dL_keeps_778 (by decide) ?_
      refine mw_icmp_ne (tgt := 803) dL_keeps_780 (by decide) (fun _ => ?_) (fun c9 => absurd c9 (by first | decide | exact (fun q => q rfl) | ((try simp only [fa_lit]); first | exact cq_le (by omega) (by omega) | exact cq_nle (by omega) (by omega) | exact cq_lt (by omega) (by omega) | exact cq_nlt (by omega) (by omega) | exact cq_eq (by omega) (by omega) (by omega) | exact cq_neq (by omega))))
      refine mw_aload_n (i := 3) dL_keeps_803 rfl rfl ?_
      refine mw_aload (i := 5) dL_keeps_804 rfl ?_
      refine mw_aload (i := 6) dL_keeps_806 rfl ?_
      refine mw_aload (i := 7) dL_keeps_808 rfl ?_
      refine mw_aload (i := 8) dL_keeps_810 rfl ?_
      refine mw_aload (i := 9) dL_keeps_812 rfl ?_
      refine mw_aload (i := 10) dL_keeps_814 rfl ?_
      refine mw_iload (i := 16) dL_keeps_816 rfl ?_
      refine mw_iload (i := 23) dL_keeps_818 rfl ?_
      refine mw_iload (i := 22) dL_keeps_820 rfl ?_
      refine mw_lconst (v := 0) dL_keeps_822 (by decide) ?_
      refine mw_lconst (v := 0) dL_keeps_823 (by decide) ?_
      refine mw_callS dL_keeps_824 mk_L_174 ((c_replace hk hs hA ht.2 hm hok hR (field := 8 * tg i + ty) (xn := xn) (by omega) (by omega) (by rw [hx1, hx2]) (by rw [hx3]) (fun z => by rw [hx2] at z; omega) (by omega))) (by decide) (Nat.le_refl _) (Nat.le_refl _) rfl rfl (Nat.le_of_ble_eq_true rfl) (fun E9 h9 q9 => ?_) (fun v9 h9 q9 => ?_)
      · cases q9.1
      obtain ⟨e9, A', X', rfl, hR', hF', hG'⟩ := q9
      cases e9
      have hI := cS_gl (A' := A') (X' := X') hI
      have hM' := mR_put hM hm hT hR' hF'
      have hw := w_set hI (nI m) (nI (tg i)) v
      rw [hsp] at hw
      have hT' : (gSet g m s (oth g.2.1 s (nI (tg i)) L ++ [xn])).2.2.1 m = some (s, oth g.2.1 s (nI (tg i)) L ++ [xn]) := if_pos rfl
      have hs1 := spl_get (g := gSet g m s (oth g.2.1 s (nI (tg i)) L ++ [xn])) (t := nI (tg i)) (by omega) hT' hzi (lastK_put hxP)
      have hs2 := spl_weight (g := gSet g m s (oth g.2.1 s (nI (tg i)) L ++ [xn])) (by omega) hT'
      have hv : zStF (zKind g.2.1 s (nI (tg i))) (nI xn.2.2.1) = v := by rw [hz, hx3, ← hnbI, zSt_k (by omega)]
      rw [show zStF (zKind (gSet g m s (oth g.2.1 s (nI (tg i)) L ++ [xn])).2.1 s (nI (tg i))) (nI xn.2.2.1) = v from hv] at hs1
      rw [← hW] at hs2
      generalize gSet g m s (oth g.2.1 s (nI (tg i)) L ++ [xn]) = g' at hw hs1 hs2 hM'
      refine mw_aload_n (i := 0) dL_keeps_827 rfl rfl ?_
      refine mw_iload (i := 16) dL_keeps_828 rfl ?_
      refine mw_iload (i := 17) dL_keeps_830 rfl ?_
      refine mw_iload (i := 21) dL_keeps_832 rfl ?_
      refine mw_callSX dL_keeps_834 mk_L_160 (hw) (by decide) (Nat.le_refl _) (Nat.le_refl _) rfl rfl (Nat.le_of_ble_eq_true rfl) (fun E9 h9 q9 => ?_) (fun v9 h9 q9 => ?_)
      · cases q9.1
      obtain ⟨e9, H1, rfl, hI⟩ := q9
      cases e9
      have hI : cS sc g' H1 A' X' := hI
      have hw := d_get hI (nI m) (nI (tg i)) (by rw [hs1])
      rw [hs1] at hw
      refine mw_if_ne (tgt := 868) dL_keeps_837 (by decide) (fun c9 => absurd c9 (by first | decide | exact (fun q => q rfl))) (fun _ => ?_)
      refine mw_aload_n (i := 0) dL_keeps_840 rfl rfl ?_
      refine mw_iload (i := 16) dL_keeps_841 rfl ?_
      refine mw_iload (i := 17) dL_keeps_843 rfl ?_
      refine mw_callV dL_keeps_845 mk_L_52 (cS_o hI) rfl (hw) (by decide) (Nat.le_refl _) (Nat.le_refl _) rfl rfl (Nat.le_of_ble_eq_true rfl) (fun E9 h9 q9 => ?_) (fun v9 h9 q9 => ?_)
      · cases q9.1
      obtain ⟨e9, H2, rfl, hI⟩ := q9
      cases e9
      have hI : cS sc g' H2 A' X' := hI
      have hw := d_weight hI (nI m) (by rw [hs2])
      rw [hs2] at hw
      refine mw_iload (i := 21) dL_keeps_848 rfl ?_
      refine mw_icmp_ne (tgt := 868) dL_keeps_850 (by decide) (fun c9 => absurd c9 (by first | decide | exact (fun q => q rfl))) (fun _ => ?_)
      refine mw_aload_n (i := 0) dL_keeps_853 rfl rfl ?_
      refine mw_iload (i := 16) dL_keeps_854 rfl ?_
      refine mw_callV dL_keeps_856 mk_L_55 (cS_o hI) rfl (hw) (by decide) (Nat.le_refl _) (Nat.le_refl _) rfl rfl (Nat.le_of_ble_eq_true rfl) (fun E9 h9 q9 => ?_) (fun v9 h9 q9 => ?_)
      · cases q9.1
      obtain ⟨e9, H3, rfl, hI⟩ := q9
      cases e9
      refine mw_iload (i := 24) dL_keeps_859 rfl ?_
      refine mw_icmp_ne (tgt := 868) dL_keeps_861 (by decide) (fun c9 => absurd c9 (by first | decide | exact (fun q => q rfl))) (fun _ => ?_)
      refine mw_iconst (v := 1) dL_keeps_864 (by decide) ?_
      refine mw_goto (tgt := 869) dL_keeps_865 (by decide) ?_
      exact mw_ireturn dL_keeps_869 ⟨_, rfl, rfl⟩ ⟨rfl, _, _, _, _, rfl, hI, hM'⟩
theorem kp_set_f (hI : cS sc g H A X) (hM : mR g A X) (hfr : frP g lf) (hs0 : s0 < g.1) (hm : m < 5) (hT : g.2.2.1 m = some (s, L)) (hi : i < 6) (hp : p < 5) (hTp : g.2.2.1 p = some (s2, L2)) {x23 x24 x25 x26 x27 x28 x29 x30 x31 x32 x33 x34 x35 x36 x37 x38 x39 x40 x41 : Option Value} {v : Int32} {κ nb ty : Nat} {xn : af} (hz : zKind g.2.1 s (nI (tg i)) = nI κ) (hκ : κ ≤ 2) (hty : ty = if κ = 2 then 5 else 0) (hxn : xn = (tg i, ty, nb, [])) (hu : nb < 2 ^ 32) (hxok : okf xn) (hxP : Pt g.2.1 s (nI (tg i)) xn = true) (hnbI : zStA (nI κ) v = nI nb) (hsp : sp_set g (nI m) (nI (tg i)) v = putM g m s (oth g.2.1 s (nI (tg i)) L ++ [xn]) 0) : mw_W mm_L_keeps 10 12 560 677 (some (.ref 1) :: some (.int act) :: some (.int y) :: some (.ref 43) :: some (.ref 44) :: some (.ref 45) :: some (.ref 46) :: some (.ref 47) :: some (.ref 48) :: some (.ref 49) :: some (.ref 50) :: some (.ref 51) :: some (.ref 52) :: some (.ref 54) :: some (.int (lf)) :: some (.int (nI s0)) :: some (.int (nI m)) :: some (.int (nI (tg i))) :: some (.int (nI κ)) :: some (.int (lir (Pt g.2.1 s (nI (tg i))) (12 * m) L)) :: some (.int (nI p)) :: some (.int (v)) :: some (.int (nI nb)) :: x23 :: x24 :: x25 :: x26 :: x27 :: x28 :: x29 :: x30 :: x31 :: x32 :: x33 :: x34 :: x35 :: x36 :: x37 :: x38 :: x39 :: x40 :: x41 :: []) [] (gl H A X) (lwP sc) := by
  have hgok := cS_ok hI
  have hns4 := mR_ns hM
  have ht := tg_in hi
  obtain ⟨hk, hg0, hms, hmo, hg1, h64, htp, -⟩ := id hM
  obtain ⟨hs, hok, h120⟩ := hgok.2.2.2.1 m s L (by omega) hT
  obtain ⟨hA, hR⟩ := (hms m hm).2 s L hT
  have h12 := hR.2.1
  have hsM := sM_at (g := g) (by omega) hT
  have hsS := sS_at hgok.1 hs0
  have hx1 : xn.1 = tg i := by rw [hxn]
  have hx2 : xn.2.1 = ty := by rw [hxn]
  have hx3 : xn.2.2.1 = nb := by rw [hxn]
  have hel : (eL (oth g.2.1 s (nI (tg i)) L)).length ≤ 120 := Nat.le_trans (fil_le _ L) h120
  have hg5 : (egr (8 * tg i + ty)).length ≤ 5 := eg_len5 4 _
  have hg5' : (egr nb).length ≤ 5 := eg_len5 4 _
  have hew := eL_put (oth g.2.1 s (nI (tg i)) L) xn
  rw [ef_size hxok, hx1, hx2, hx3] at hew
  refine mw_bipush (v := 8) dL_keeps_677 (by decide) ?_
  refine mw_iload (i := 17) dL_keeps_679 rfl ?_
  refine mw_imul dL_keeps_681 ?_
  rw [mx_8m]
  by_cases e2 : κ = 2
  · rw [if_pos e2] at hty
    rw [if_pos hty] at hew
    refine mw_iload (i := 18) dL_keeps_682 rfl ?_
    refine mw_iconst (v := 2) dL_keeps_684 (by decide) ?_
    refine mw_icmp_ne (tgt := 692) dL_keeps_685 (by decide) (fun c9 => absurd c9 (by first | decide | exact (fun q => q rfl) | ((try simp only [fa_lit]); first | exact cq_le (by omega) (by omega) | exact cq_nle (by omega) (by omega) | exact cq_lt (by omega) (by omega) | exact cq_nlt (by omega) (by omega) | exact cq_eq (by omega) (by omega) (by omega) | exact cq_neq (by omega)))) (fun _ => ?_)
    refine mw_iconst (v := 5) dL_keeps_688 (by decide) ?_
    refine mw_goto (tgt := 693) dL_keeps_689 (by decide) ?_
    refine mw_iadd dL_keeps_693 ?_
    rw [show nI (8 * tg i) + 5 = nI (8 * tg i + ty) by rw [hty]; exact nI_add _ 5]
    refine mw_istore_23 dL_keeps_694 (by decide) ?_
    refine mw_aload_n (i := 3) dL_keeps_696 rfl rfl ?_
    refine mw_aload (i := 5) dL_keeps_697 rfl ?_
    refine mw_aload (i := 6) dL_keeps_699 rfl ?_
    refine mw_aload (i := 7) dL_keeps_701 rfl ?_
    refine mw_aload (i := 8) dL_keeps_703 rfl ?_
    refine mw_iload (i := 16) dL_keeps_705 rfl ?_
    refine mw_iload (i := 17) dL_keeps_707 rfl ?_
    refine mw_callSr dL_keeps_709 mk_L_167 ((c_weightO hk hs hA ht.2 hm hok hR)) (by decide) (Nat.le_refl _) (Nat.le_refl _) rfl rfl (Nat.le_of_ble_eq_true rfl) ?_
    refine mw_iload (i := 23) dL_keeps_712 rfl ?_
    refine mw_callSr dL_keeps_714 mk_L_73 ((c_groups (by omega))) (by decide) (Nat.le_refl _) (Nat.le_refl _) rfl rfl (Nat.le_of_ble_eq_true rfl) ?_
    refine mw_iadd dL_keeps_717 ?_
    rw [nI_add]
    refine mw_iload (i := 18) dL_keeps_718 rfl ?_
    refine mw_iconst (v := 2) dL_keeps_720 (by decide) ?_
    refine mw_icmp_ne (tgt := 728) dL_keeps_721 (by decide) (fun c9 => absurd c9 (by first | decide | exact (fun q => q rfl) | ((try simp only [fa_lit]); first | exact cq_le (by omega) (by omega) | exact cq_nle (by omega) (by omega) | exact cq_lt (by omega) (by omega) | exact cq_nlt (by omega) (by omega) | exact cq_eq (by omega) (by omega) (by omega) | exact cq_neq (by omega)))) (fun _ => ?_)
    refine mw_iconst (v := 4) dL_keeps_724 (by decide) ?_
    refine mw_goto (tgt := 733) dL_keeps_725 (by decide) ?_
    refine mw_iadd dL_keeps_733 ?_
    rw [show nI ((eL (oth g.2.1 s (nI (tg i)) L)).length + (egr (8 * tg i + ty)).length) + 4 = nI ((eL (oth g.2.1 s (nI (tg i)) L)).length + (egr (8 * tg i + ty)).length + 4) from nI_add _ 4]
    refine mw_istore_24 dL_keeps_734 (by decide) ?_
    exact kp_set_w hI hM hfr hs0 hm hT hi hp hTp hz hκ (Or.inr hty) hxn hxP hnbI hsp (by omega) (by omega)
  · rw [if_neg e2] at hty
    rw [if_neg (by omega), if_pos hty] at hew
    refine mw_iload (i := 18) dL_keeps_682 rfl ?_
    refine mw_iconst (v := 2) dL_keeps_684 (by decide) ?_
    refine mw_icmp_ne (tgt := 692) dL_keeps_685 (by decide) (fun _ => ?_) (fun c9 => absurd c9 (by first | decide | exact (fun q => q rfl) | ((try simp only [fa_lit]); first | exact cq_le (by omega) (by omega) | exact cq_nle (by omega) (by omega) | exact cq_lt (by omega) (by omega) | exact cq_nlt (by omega) (by omega) | exact cq_eq (by omega) (by omega) (by omega) | exact cq_neq (by omega))))
    refine mw_iconst (v := 0) dL_keeps_692 (by decide) ?_
    refine mw_iadd dL_keeps_693 ?_
    rw [show nI (8 * tg i) + 0 = nI (8 * tg i + ty) by rw [hty]; exact nI_add _ 0]
    refine mw_istore_23 dL_keeps_694 (by decide) ?_
    refine mw_aload_n (i := 3) dL_keeps_696 rfl rfl ?_
    refine mw_aload (i := 5) dL_keeps_697 rfl ?_
    refine mw_aload (i := 6) dL_keeps_699 rfl ?_
    refine mw_aload (i := 7) dL_keeps_701 rfl ?_
    refine mw_aload (i := 8) dL_keeps_703 rfl ?_
    refine mw_iload (i := 16) dL_keeps_705 rfl ?_
    refine mw_iload (i := 17) dL_keeps_707 rfl ?_
    refine mw_callSr dL_keeps_709 mk_L_167 ((c_weightO hk hs hA ht.2 hm hok hR)) (by decide) (Nat.le_refl _) (Nat.le_refl _) rfl rfl (Nat.le_of_ble_eq_true rfl) ?_
    refine mw_iload (i := 23) dL_keeps_712 rfl ?_
    refine mw_callSr dL_keeps_714 mk_L_73 ((c_groups (by omega))) (by decide) (Nat.le_refl _) (Nat.le_refl _) rfl rfl (Nat.le_of_ble_eq_true rfl) ?_
    refine mw_iadd dL_keeps_717 ?_
    rw [nI_add]
    refine mw_iload (i := 18) dL_keeps_718 rfl ?_
    refine mw_iconst (v := 2) dL_keeps_720 (by decide) ?_
    refine mw_icmp_ne (tgt := 728) dL_keeps_721 (by decide) (fun _ => ?_) (fun c9 => absurd c9 (by first | decide | exact (fun q => q rfl) | ((try simp only [fa_lit]); first | exact cq_le (by omega) (by omega) | exact cq_nle (by omega) (by omega) | exact cq_lt (by omega) (by omega) | exact cq_nlt (by omega) (by omega) | exact cq_eq (by omega) (by omega) (by omega) | exact cq_neq (by omega))))
    refine mw_iload (i := 22) dL_keeps_728 rfl ?_
    refine mw_callSr dL_keeps_730 mk_L_73 ((c_groups hu)) (by decide) (Nat.le_refl _) (Nat.le_refl _) rfl rfl (Nat.le_of_ble_eq_true rfl) ?_
    refine mw_iadd dL_keeps_733 ?_
    rw [nI_add]
    refine mw_istore_24 dL_keeps_734 (by decide) ?_
    exact kp_set_w hI hM hfr hs0 hm hT hi hp hTp hz hκ (Or.inl hty) hxn hxP hnbI hsp (by omega) (by omega)
theorem kp_set_k (hI : cS sc g H A X) (hM : mR g A X) (hfr : frP g lf) (hs0 : s0 < g.1) (hm : m < 5) (hT : g.2.2.1 m = some (s, L)) (hi : i < 6) (hp : p < 5) (hTp : g.2.2.1 p = some (s2, L2)) {x22 x23 x24 x25 x26 x27 x28 x29 x30 x31 x32 x33 x34 x35 x36 x37 x38 x39 x40 x41 : Option Value} {v : Int32} : mw_W mm_L_keeps 10 12 560 601 (some (.ref 1) :: some (.int act) :: some (.int y) :: some (.ref 43) :: some (.ref 44) :: some (.ref 45) :: some (.ref 46) :: some (.ref 47) :: some (.ref 48) :: some (.ref 49) :: some (.ref 50) :: some (.ref 51) :: some (.ref 52) :: some (.ref 54) :: some (.int (lf)) :: some (.int (nI s0)) :: some (.int (nI m)) :: some (.int (nI (tg i))) :: some (.int (zKind g.2.1 s (nI (tg i)))) :: some (.int (lir (Pt g.2.1 s (nI (tg i))) (12 * m) L)) :: some (.int (nI p)) :: some (.int (v)) :: x22 :: x23 :: x24 :: x25 :: x26 :: x27 :: x28 :: x29 :: x30 :: x31 :: x32 :: x33 :: x34 :: x35 :: x36 :: x37 :: x38 :: x39 :: x40 :: x41 :: []) [] (gl H A X) (lwP sc) := by
  have hgok := cS_ok hI
  have hns4 := mR_ns hM
  have ht := tg_in hi
  obtain ⟨hk, hg0, hms, hmo, hg1, h64, htp, -⟩ := id hM
  obtain ⟨hs, hok, h120⟩ := hgok.2.2.2.1 m s L (by omega) hT
  obtain ⟨hA, hR⟩ := (hms m hm).2 s L hT
  have h12 := hR.2.1
  have hsM := sM_at (g := g) (by omega) hT
  have hsS := sS_at hgok.1 hs0
  have hcl : (nI (tg i)).toNatClampNeg = tg i := nI_clamp (by omega)
  rcases kR_cases hk hs ht.1 ht.2 with hz | ⟨κ, hκ, hz, -⟩
  · have hbad := fun h => kp_set_bad (v := v) (x22 := x22) (x23 := x23) (x24 := x24) (x25 := x25) (x26 := x26) (x27 := x27) (x28 := x28) (x29 := x29) (x30 := x30) (x31 := x31) (x32 := x32) (x33 := x33) (x34 := x34) (x35 := x35) (x36 := x36) (x37 := x37) (x38 := x38) (x39 := x39) (x40 := x40) (x41 := x41) (act := act) (y := y) hI hM hfr hs0 hm hT hi hp hTp h
    rw [hz] at hbad ⊢
    refine mw_iload (i := 18) dL_keeps_601 rfl ?_
    refine mw_if_lt (tgt := 612) dL_keeps_603 (by decide) (fun _ => ?_) (fun c9 => absurd c9 (by first | decide | exact (fun q => q rfl)))
    exact hbad zInt_m1
  · by_cases h2 : κ ≤ 2
    · have hzi : ¬ zInt (zKind g.2.1 s (nI (tg i))) = 0 := by rw [hz, zInt_k hκ, if_pos h2]; decide
      have hu := uN_lt (zStA (nI κ) v)
      have hsp := spl_set (v := v) (t := nI (tg i)) (by omega : m < 12) hT hzi
      rw [hz, hcl] at hsp
      obtain ⟨nb, hnb⟩ : ∃ z, z = uN (zStA (nI κ) v) := ⟨_, rfl⟩
      have hnbI : zStA (nI κ) v = nI nb := by rw [hnb, nI_uN]
      rw [← hnb] at hu hsp
      obtain ⟨ty, hty⟩ : ∃ z, z = tyN (nI κ) := ⟨_, rfl⟩
      rw [← hty] at hsp
      have hty2 : ty = if κ = 2 then 5 else 0 := by
        rw [hty]
        have h : κ = 0 ∨ κ = 1 ∨ κ = 2 := by omega
        rcases h with rfl | rfl | rfl <;> rfl
      have hty05 : ty = 0 ∨ ty = 5 := by rw [hty2]; split <;> simp
      obtain ⟨xn, hxn⟩ : ∃ z : af, z = (tg i, ty, nb, []) := ⟨_, rfl⟩
      rw [← hxn] at hsp
      have hxok : okf xn := by
        rw [hxn]
        exact ⟨ht.1, ht.2, by show ty = 0 ∨ ty = 2 ∨ ty = 5; omega, hu, fun z => by have z : ty = 2 := z; omega, fun _ => rfl, fun z hz => by cases hz⟩
      have hxP : Pt g.2.1 s (nI (tg i)) xn = true := by
        unfold Pt knb zKn
        rw [hxn]
        show (decide (nI (tg i) = nI (tg i)) && decide ((if zKind g.2.1 s (nI (tg i)) = -1 then (0 : Int32) else if zType (zKind g.2.1 s (nI (tg i))) = nI ty then 1 else 0) ≠ 0)) = true
        rw [hz, if_neg (nI_nm1 (by omega)), if_pos (by rw [hty]; exact zType_tyN (by rw [← hz]; exact hzi)), decide_eq_true rfl]
        rfl
      have hfld := kp_set_f (x23 := x23) (x24 := x24) (x25 := x25) (x26 := x26) (x27 := x27) (x28 := x28) (x29 := x29) (x30 := x30) (x31 := x31) (x32 := x32) (x33 := x33) (x34 := x34) (x35 := x35) (x36 := x36) (x37 := x37) (x38 := x38) (x39 := x39) (x40 := x40) (x41 := x41) (act := act) (y := y) hI hM hfr hs0 hm hT hi hp hTp hz h2 hty2 hxn hu hxok hxP hnbI hsp
      rw [hz]
      refine mw_iload (i := 18) dL_keeps_601 rfl ?_
      refine mw_if_lt (tgt := 612) dL_keeps_603 (by decide) (fun c9 => absurd c9 (cq_lt (b := 0) (Nat.zero_le _) (by omega))) (fun _ => ?_)
      refine mw_iload (i := 18) dL_keeps_606 rfl ?_
      refine mw_iconst (v := 2) dL_keeps_608 (by decide) ?_
      refine mw_icmp_le (tgt := 644) dL_keeps_609 (by decide) (fun _ => ?_) (fun c9 => absurd c9 (by first | decide | exact (fun q => q rfl) | ((try simp only [fa_lit]); first | exact cq_le (by omega) (by omega) | exact cq_nle (by omega) (by omega) | exact cq_lt (by omega) (by omega) | exact cq_nlt (by omega) (by omega) | exact cq_eq (by omega) (by omega) (by omega) | exact cq_neq (by omega))))
      by_cases e1 : κ = 1
      · have hk1 : nI κ = 1 := by rw [e1]; rfl
        by_cases hv : v < 0
        · refine mw_iload (i := 18) dL_keeps_644 rfl ?_
          refine mw_iconst (v := 1) dL_keeps_646 (by decide) ?_
          refine mw_icmp_ne (tgt := 673) dL_keeps_647 (by decide) (fun c9 => absurd c9 (fun z => z hk1)) (fun _ => ?_)
          refine mw_iload (i := 21) dL_keeps_650 rfl ?_
          refine mw_if_ge (tgt := 666) dL_keeps_652 (by decide) (fun c9 => absurd c9 (fun z => ((fa_of_lt hv).2.1) z)) (fun _ => ?_)
          refine mw_iconst (v := 2) dL_keeps_655 (by decide) ?_
          refine mw_iload (i := 21) dL_keeps_656 rfl ?_
          refine mw_iconst (v := -1) dL_keeps_658 (by decide) ?_
          refine mw_ixor dL_keeps_659 ?_
          refine mw_imul dL_keeps_660 ?_
          refine mw_iconst (v := 1) dL_keeps_661 (by decide) ?_
          refine mw_iadd dL_keeps_662 ?_
          refine mw_goto (tgt := 675) dL_keeps_663 (by decide) ?_
          rw [show 2 * (v ^^^ (-1)) + 1 = nI nb by rw [← hnbI, hk1, zStA_neg hv]]
          refine mw_istore_22 dL_keeps_675 (by decide) ?_
          exact hfld
        · refine mw_iload (i := 18) dL_keeps_644 rfl ?_
          refine mw_iconst (v := 1) dL_keeps_646 (by decide) ?_
          refine mw_icmp_ne (tgt := 673) dL_keeps_647 (by decide) (fun c9 => absurd c9 (fun z => z hk1)) (fun _ => ?_)
          refine mw_iload (i := 21) dL_keeps_650 rfl ?_
          refine mw_if_ge (tgt := 666) dL_keeps_652 (by decide) (fun _ => ?_) (fun c9 => absurd c9 (fun z => z (fa_of_nlt hv)))
          refine mw_iconst (v := 2) dL_keeps_666 (by decide) ?_
          refine mw_iload (i := 21) dL_keeps_667 rfl ?_
          refine mw_imul dL_keeps_669 ?_
          refine mw_goto (tgt := 675) dL_keeps_670 (by decide) ?_
          rw [show 2 * v = nI nb by rw [← hnbI, hk1, zStA_pos hv]]
          refine mw_istore_22 dL_keeps_675 (by decide) ?_
          exact hfld
      · have hk1 : ¬ nI κ = 1 := fun z => e1 ((nI_eq (b := 1) (by omega) (by decide)).mp z)
        have hnv : nI nb = v := by
          rw [← hnbI]
          exact if_neg hk1
        rw [hnv] at hfld
        refine mw_iload (i := 18) dL_keeps_644 rfl ?_
        refine mw_iconst (v := 1) dL_keeps_646 (by decide) ?_
        refine mw_icmp_ne (tgt := 673) dL_keeps_647 (by decide) (fun _ => ?_) (fun c9 => absurd c9 hk1)
        refine mw_iload (i := 21) dL_keeps_673 rfl ?_
        refine mw_istore_22 dL_keeps_675 (by decide) ?_
        exact hfld
    · have hbad := fun h => kp_set_bad (v := v) (x22 := x22) (x23 := x23) (x24 := x24) (x25 := x25) (x26 := x26) (x27 := x27) (x28 := x28) (x29 := x29) (x30 := x30) (x31 := x31) (x32 := x32) (x33 := x33) (x34 := x34) (x35 := x35) (x36 := x36) (x37 := x37) (x38 := x38) (x39 := x39) (x40 := x40) (x41 := x41) (act := act) (y := y) hI hM hfr hs0 hm hT hi hp hTp h
      rw [hz] at hbad ⊢
      refine mw_iload (i := 18) dL_keeps_601 rfl ?_
      refine mw_if_lt (tgt := 612) dL_keeps_603 (by decide) (fun c9 => absurd c9 (cq_lt (b := 0) (Nat.zero_le _) (by omega))) (fun _ => ?_)
      refine mw_iload (i := 18) dL_keeps_606 rfl ?_
      refine mw_iconst (v := 2) dL_keeps_608 (by decide) ?_
      refine mw_icmp_le (tgt := 644) dL_keeps_609 (by decide) (fun c9 => absurd c9 (by first | decide | exact (fun q => q rfl) | ((try simp only [fa_lit]); first | exact cq_le (by omega) (by omega) | exact cq_nle (by omega) (by omega) | exact cq_lt (by omega) (by omega) | exact cq_nlt (by omega) (by omega) | exact cq_eq (by omega) (by omega) (by omega) | exact cq_neq (by omega)))) (fun _ => ?_)
      exact hbad (by rw [zInt_k hκ, if_neg h2])
theorem kp_set (hI : cS sc g H A X) (hM : mR g A X) (hfr : frP g lf) (hs0 : s0 < g.1) (hm : m < 5) (hT : g.2.2.1 m = some (s, L)) (hi : i < 6) (hp : p < 5) (hTp : g.2.2.1 p = some (s2, L2)) {x21 x22 x23 x24 x25 x26 x27 x28 x29 x30 x31 x32 x33 x34 x35 x36 x37 x38 x39 x40 x41 : Option Value} : mw_W mm_L_keeps 10 12 560 573 (some (.ref 1) :: some (.int act) :: some (.int y) :: some (.ref 43) :: some (.ref 44) :: some (.ref 45) :: some (.ref 46) :: some (.ref 47) :: some (.ref 48) :: some (.ref 49) :: some (.ref 50) :: some (.ref 51) :: some (.ref 52) :: some (.ref 54) :: some (.int (lf)) :: some (.int (nI s0)) :: some (.int (nI m)) :: some (.int (nI (tg i))) :: some (.int (zKind g.2.1 s (nI (tg i)))) :: some (.int (lir (Pt g.2.1 s (nI (tg i))) (12 * m) L)) :: some (.int (nI p)) :: x21 :: x22 :: x23 :: x24 :: x25 :: x26 :: x27 :: x28 :: x29 :: x30 :: x31 :: x32 :: x33 :: x34 :: x35 :: x36 :: x37 :: x38 :: x39 :: x40 :: x41 :: []) [] (gl H A X) (lwP sc) := by
  by_cases e0 : y &&& 49152 = 0
  · refine mw_iload_n (i := 2) dL_keeps_573 rfl rfl ?_
    refine mw_ldc dL_keeps_574 kn_L_162 ?_
    refine mw_iand dL_keeps_576 ?_
    refine mw_if_ne (tgt := 586) dL_keeps_577 (by decide) (fun c9 => absurd c9 (fun z => z e0)) (fun _ => ?_)
    refine mw_iload_n (i := 2) dL_keeps_580 rfl rfl ?_
    refine mw_iconst (v := 3) dL_keeps_581 (by decide) ?_
    refine mw_ishr dL_keeps_582 ?_
    refine mw_goto (tgt := 599) dL_keeps_583 (by decide) ?_
    refine mw_istore_21 dL_keeps_599 (by decide) ?_
    exact kp_set_k hI hM hfr hs0 hm hT hi hp hTp
  · refine mw_iload_n (i := 2) dL_keeps_573 rfl rfl ?_
    refine mw_ldc dL_keeps_574 kn_L_162 ?_
    refine mw_iand dL_keeps_576 ?_
    refine mw_if_ne (tgt := 586) dL_keeps_577 (by decide) (fun _ => ?_) (fun c9 => absurd c9 e0)
    refine mw_iload_n (i := 2) dL_keeps_586 rfl rfl ?_
    refine mw_bipush (v := 16) dL_keeps_587 (by decide) ?_
    refine mw_ishr dL_keeps_589 ?_
    refine mw_sipush (v := 200) dL_keeps_590 (by decide) ?_
    refine mw_callSr dL_keeps_593 mk_L_129 ((c_low _ (n := 200) (by decide) (by decide))) (by decide) (Nat.le_refl _) (Nat.le_refl _) rfl rfl (Nat.le_of_ble_eq_true rfl) ?_
    refine mw_bipush (v := 60) dL_keeps_596 (by decide) ?_
    refine mw_isub dL_keeps_598 ?_
    refine mw_istore_21 dL_keeps_599 (by decide) ?_
    exact kp_set_k hI hM hfr hs0 hm hT hi hp hTp
end K2
