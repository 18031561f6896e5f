/-! keeps: a message is read, a part opened: written by gen/89.py (class side) -/
theorem mR_new {g : mS} {A A' : Nat → Nat → Int32} {X X' : Nat → Nat → Int64} {f s : Nat} {L' : List af} (hM : mR g A X) (hf : f < 5) (hT : g.2.2.1 f = none) (hF : fF f A X A' X') (hR : fR A' X' f L') : mR (gSet g f s L') (va_up A' 2 (upd (A' 2) f (nI (s + 1)))) X' := by
  have hn : ∀ j, j ≠ 2 → va_up A' 2 (upd (A' 2) f (nI (s + 1))) j = A' j := fun j z => va_up_ne _ _ z
  refine mR_set hM hf ?_ ?_ ?_ ?_ ?_ (by rw [va_up_self, pk_us]) (fun j hj => ?_) (fR_cong hR (by rw [hn 3 (by decide)]) (fun p _ _ => ⟨by rw [hn 4 (by decide)], by rw [hn 5 (by decide)], rfl, rfl⟩)) (fun m' L'' hm' _ h => ?_)
  · rw [hn 0 (by decide)]; exact hF.1 0 (by decide) (by decide) (by decide) (by decide)
  · rw [hn 1 (by decide)]; exact hF.1 1 (by decide) (by decide) (by decide) (by decide)
  · rw [hn 8 (by decide)]; exact hF.1 8 (by decide) (by decide) (by decide) (by decide)
  · rw [hn 11 (by decide)]; exact hF.2.1 0 (by decide)
  · rw [hn 11 (by decide)]; exact hF.2.1 1 (by decide)
  · rw [va_up_self, pk_un hj, hF.1 2 (by decide) (by decide) (by decide) (by decide)]
  · exact fR_cong (hF.fR hm' h) (by rw [hn 3 (by decide)]) (fun p _ _ => ⟨by rw [hn 4 (by decide)], by rw [hn 5 (by decide)], rfl, rfl⟩)
theorem ef_in {x : af} : ∀ {L : List af}, x ∈ L → (ef x).length ≤ (eL L).length
  | [], h => by cases h
  | z :: L, h => by
    rw [eL_cons, List.length_append]
    rcases List.mem_cons.mp h with rfl | h
    · omega
    · have := ef_in h; omega
theorem eL_two : ∀ (L : List af), 2 * L.length ≤ (eL L).length
  | [] => Nat.le_refl _
  | x :: L => by
    have ih := eL_two L
    have := ef_len2 x
    rw [eL_cons, List.length_append, List.length_cons]
    omega
theorem small_16 {L : List af} (hok : ∀ x ∈ L, okf x) (h : (eL L).length ≤ 16) : small L := by
  refine ⟨by have := eL_two L; omega, fun x hx h2 => ?_⟩
  have h1 := ef_in hx
  have h3 := ef_size (hok x hx)
  rw [if_neg (by omega), if_neg (by omega)] at h3
  omega
section SPO
variable {g : mS} {m s : Nat} {L : List af} {t : Int32} {x : af}
theorem spl_open2 (hm : m < 12) (hT : g.2.2.1 m = some (s, L)) (hz : zKind g.2.1 s t ≠ 4) : sp_open g (nI m) t = (2, 0, g) := by
  unfold sp_open
  rw [sM_at hm hT]
  exact if_pos hz
theorem spl_open3 (hm : m < 12) (hT : g.2.2.1 m = some (s, L)) (hz : zKind g.2.1 s t = 4) (hl : lastK g.2.1 s t L = none) : sp_open g (nI m) t = (3, 0, g) := by
  unfold sp_open
  rw [sM_at hm hT]
  show (if zKind g.2.1 s t ≠ 4 then _ else _) = _
  rw [if_neg (fun z => z hz), hl]
theorem spl_open (hm : m < 12) (hT : g.2.2.1 m = some (s, L)) (hz : zKind g.2.1 s t = 4) (hl : lastK g.2.1 s t L = some x) : sp_open g (nI m) t = if (prsL x.2.2.2).2.1 ≠ 0 then (4, 0, g) else newM g 4 (pn g.2.1 s t.toNatClampNeg) (prsL x.2.2.2).1 := by
  unfold sp_open
  rw [sM_at hm hT]
  show (if zKind g.2.1 s t ≠ 4 then _ else _) = _
  rw [if_neg (fun z => z hz), hl]
end SPO
section K6
variable {sc : mSc} {g : mS} {H : mw_H} {A : Nat → Nat → Int32} {X : Nat → Nat → Int64} {s m i p s0 s2 : Nat} {L L2 : List af} {lf act y : Int32}
theorem kp_read (hI : cS sc g H A X) (hM : mR g A X) (hfr : frP g lf) (hs0 : s0 < g.1) (hm : m < 5) (hT : g.2.2.1 m = some (s, L)) (hi : i < 6) (hp : p < 5) (hTp : g.2.2.1 p = some (s2, L2)) {x21 x22 x23 x24 x25 x26 x27 x28 x29 x30 x31 x32 x33 x34 x35 x36 x37 x38 x39 x40 x41 : Option Value} : mw_W mm_L_keeps 10 12 560 1940 (some (.ref 1) :: some (.int act) :: some (.int y) :: some (.ref 43) :: some (.ref 44) :: some (.ref 45) :: some (.ref 46) :: some (.ref 47) :: some (.ref 48) :: some (.ref 49) :: some (.ref 50) :: some (.ref 51) :: some (.ref 52) :: some (.ref 54) :: some (.int (lf)) :: some (.int (nI s0)) :: some (.int (nI m)) :: some (.int (nI (tg i))) :: some (.int (zKind g.2.1 s (nI (tg i)))) :: some (.int (lir (Pt g.2.1 s (nI (tg i))) (12 * m) L)) :: some (.int (nI p)) :: x21 :: x22 :: x23 :: x24 :: x25 :: x26 :: x27 :: x28 :: x29 :: x30 :: x31 :: x32 :: x33 :: x34 :: x35 :: x36 :: x37 :: x38 :: x39 :: x40 :: x41 :: []) [] (gl H A X) (lwP sc) := by
  have hgok := cS_ok hI
  have hns4 := mR_ns hM
  have ht := tg_in hi
  obtain ⟨hk, hg0, hms, hmo, hg1, h64, htp, -⟩ := id hM
  obtain ⟨hs, hok, h120⟩ := hgok.2.2.2.1 m s L (by omega) hT
  obtain ⟨hA, hR⟩ := (hms m hm).2 s L hT
  have h12 := hR.2.1
  have hsM := sM_at (g := g) (by omega) hT
  have hsS := sS_at hgok.1 hs0
  have hbT := mR_tape hM hgok
  have hf4 := prsL_le4 g.2.2.2
  obtain ⟨f12, hf⟩ := frP_12 hfr (hmo 5 (by decide) (by decide))
  rcases hf with ⟨rfl, hf5⟩ | ⟨hlf, hf5, hTf⟩
  · have hsp : sp_read g (nI g.1) = (1, 0, g) := by
      unfold sp_read
      rw [sS_out hgok.1]
    have hw := w_read hI (nI g.1) (by rw [hsp]; show ¬ (1 : Int32) = 3; decide)
    rw [hsp] at hw
    refine mw_iload (i := 14) dL_keeps_1940 rfl ?_
    refine mw_if_ge (tgt := 1964) dL_keeps_1942 (by decide) (fun c9 => absurd c9 (by first | decide | exact (fun q => q rfl))) (fun _ => ?_)
    refine mw_aload_n (i := 0) dL_keeps_1945 rfl rfl ?_
    refine mw_aload (i := 13) dL_keeps_1946 rfl ?_
    refine mw_iconst (v := 0) dL_keeps_1948 (by decide) ?_
    refine mw_iald dL_keeps_1949 gl_11 (mw_ix (j := 0) rfl (by decide) (by decide)) ?_
    rw [hg0]
    refine mw_callSX dL_keeps_1950 mk_L_209 (hw) (by decide) (Nat.le_refl _) (Nat.le_refl _) rfl rfl (Nat.le_of_ble_eq_true rfl) (fun E9 h9 q9 => ?_) (fun v9 h9 q9 => ?_)
    · cases q9.1
    obtain ⟨e9, H1, rfl, hI⟩ := q9
    cases e9
    refine mw_bipush (v := -71) dL_keeps_1953 (by decide) ?_
    refine mw_icmp_ne (tgt := 1962) dL_keeps_1955 (by decide) (fun c9 => absurd c9 (by first | decide | exact (fun q => q rfl))) (fun _ => ?_)
    refine mw_iconst (v := 1) dL_keeps_1958 (by decide) ?_
    refine mw_goto (tgt := 1963) dL_keeps_1959 (by decide) ?_
    exact mw_ireturn dL_keeps_1963 ⟨_, rfl, rfl⟩ ⟨rfl, _, _, _, _, rfl, hI, hM⟩
  · have hsp : sp_read g (nI s0) = if (prsL g.2.2.2).2.1 ≠ 0 then (2, 0, g) else (0, nI (fre g.2.2.1), gSet g (fre g.2.2.1) s0 (prsL g.2.2.2).1) := by
      unfold sp_read
      rw [hsS]
      show (if (prsL g.2.2.2).2.1 ≠ 0 then (2, 0, g) else newM g 3 s0 (prsL g.2.2.2).1) = _
      unfold newM
      rw [if_neg (show ¬ fre g.2.2.1 = 12 by omega)]
    rw [hlf]
    generalize fre g.2.2.1 = f at f12 hf5 hTf hsp ⊢
    refine mw_iload (i := 14) dL_keeps_1940 rfl ?_
    refine mw_if_ge (tgt := 1964) dL_keeps_1942 (by decide) (fun _ => ?_) (fun c9 => absurd c9 (cq_nle (a := 0) (Nat.zero_le _) (by omega)))
    refine mw_aload (i := 11) dL_keeps_1964 rfl ?_
    refine mw_aload (i := 13) dL_keeps_1966 rfl ?_
    refine mw_iconst (v := 1) dL_keeps_1968 (by decide) ?_
    refine mw_iald dL_keeps_1969 gl_11 (mw_ix (j := 1) rfl (by decide) (by decide)) ?_
    rw [hg1]
    refine mw_aload (i := 6) dL_keeps_1970 rfl ?_
    refine mw_aload (i := 7) dL_keeps_1972 rfl ?_
    refine mw_aload (i := 8) dL_keeps_1974 rfl ?_
    refine mw_aload (i := 9) dL_keeps_1976 rfl ?_
    refine mw_aload (i := 10) dL_keeps_1978 rfl ?_
    refine mw_aload (i := 13) dL_keeps_1980 rfl ?_
    refine mw_iload (i := 14) dL_keeps_1982 rfl ?_
    refine mw_callS dL_keeps_1984 mk_L_211 ((c_readsM hf5 hbT)) (by decide) (Nat.le_refl _) (Nat.le_refl _) rfl rfl (Nat.le_of_ble_eq_true rfl) (fun E9 h9 q9 => ?_) (fun v9 h9 q9 => ?_)
    · obtain ⟨A', X', -, -, ⟨-, z, -⟩ | ⟨-, -, z, -⟩ | ⟨-, -, z⟩⟩ := q9 <;> cases z
    obtain ⟨A', X', rfl, hF, hq⟩ := q9
    have hM2 := mR_fF hM hTf hF
    have hI := cS_gl (A' := A') (X' := X') hI
    rcases hq with ⟨hfl, e9, -⟩ | ⟨hfl, hsm, e9, hR'⟩ | ⟨hfl, -, e9⟩
    · cases e9
      have hfl : (prsL g.2.2.2).2.1 ≠ 0 := hfl
      rw [if_pos hfl] at hsp
      have hw := w_read hI (nI s0) (by rw [hsp]; show ¬ (2 : Int32) = 3; decide)
      rw [hsp] at hw
      show mw_W _ _ _ _ _ _ (Option.toList (some (.int (nI (prsL g.2.2.2).2.1))) ++ []) _ _
      refine mw_istore_39 dL_keeps_1987 (by decide) ?_
      refine mw_iload (i := 39) dL_keeps_1989 rfl ?_
      refine mw_bipush (v := 9) dL_keeps_1991 (by decide) ?_
      refine mw_icmp_ne (tgt := 2009) dL_keeps_1993 (by decide) (fun _ => ?_) (fun c9 => absurd c9 (by first | decide | exact (fun q => q rfl) | ((try simp only [fa_lit]); first | exact cq_le (by omega) (by omega) | exact cq_nle (by omega) (by omega) | exact cq_lt (by omega) (by omega) | exact cq_nlt (by omega) (by omega) | exact cq_eq (by omega) (by omega) (by omega) | exact cq_neq (by omega))))
      refine mw_iload (i := 39) dL_keeps_2009 rfl ?_
      refine mw_if_ne (tgt := 2023) dL_keeps_2011 (by decide) (fun _ => ?_) (fun c9 => absurd c9 (nI_ne0 (by omega) (by omega)))
      refine mw_aload_n (i := 0) dL_keeps_2023 rfl rfl ?_
      refine mw_iload (i := 15) dL_keeps_2024 rfl ?_
      refine mw_callSX dL_keeps_2026 mk_L_209 (hw) (by decide) (Nat.le_refl _) (Nat.le_refl _) rfl rfl (Nat.le_of_ble_eq_true rfl) (fun E9 h9 q9 => ?_) (fun v9 h9 q9 => ?_)
      · cases q9.1
      obtain ⟨e9, H1, rfl, hI⟩ := q9
      cases e9
      refine mw_iload (i := 39) dL_keeps_2029 rfl ?_
      refine mw_if_ne (tgt := 2039) dL_keeps_2031 (by decide) (fun _ => ?_) (fun c9 => absurd c9 (nI_ne0 (by omega) (by omega)))
      refine mw_bipush (v := -72) dL_keeps_2039 (by decide) ?_
      refine mw_icmp_ne (tgt := 2048) dL_keeps_2041 (by decide) (fun c9 => absurd c9 (by first | decide | exact (fun q => q rfl))) (fun _ => ?_)
      refine mw_iconst (v := 1) dL_keeps_2044 (by decide) ?_
      refine mw_goto (tgt := 2049) dL_keeps_2045 (by decide) ?_
      exact mw_ireturn dL_keeps_2049 ⟨_, rfl, rfl⟩ ⟨rfl, _, _, _, _, rfl, hI, hM2⟩
    · cases e9
      have hfl : (prsL g.2.2.2).2.1 = 0 := hfl
      rw [if_neg (fun z => z hfl)] at hsp
      refine mw_istore_39 dL_keeps_1987 (by decide) ?_
      refine mw_iload (i := 39) dL_keeps_1989 rfl ?_
      refine mw_bipush (v := 9) dL_keeps_1991 (by decide) ?_
      refine mw_icmp_ne (tgt := 2009) dL_keeps_1993 (by decide) (fun _ => ?_) (fun c9 => absurd c9 (by first | decide | exact (fun q => q rfl)))
      refine mw_iload (i := 39) dL_keeps_2009 rfl ?_
      refine mw_if_ne (tgt := 2023) dL_keeps_2011 (by decide) (fun c9 => absurd c9 (by first | decide | exact (fun q => q rfl))) (fun _ => ?_)
      refine mw_aload (i := 5) dL_keeps_2014 rfl ?_
      refine mw_iload (i := 14) dL_keeps_2016 rfl ?_
      refine mw_iload (i := 15) dL_keeps_2018 rfl ?_
      refine mw_iconst (v := 1) dL_keeps_2020 (by decide) ?_
      refine mw_iadd dL_keeps_2021 ?_
      rw [show nI s0 + 1 = nI (s0 + 1) from nI_1 _]
      refine gl_st2 dL_keeps_2022 (mw_ix rfl hf5 (by decide)) ?_
      refine mw_aload_n (i := 0) dL_keeps_2023 rfl rfl ?_
      refine mw_iload (i := 15) dL_keeps_2024 rfl ?_
      have hM3 := mR_new (s := s0) hM hf5 hTf hF hR'
      have hI := cS_gl (A' := va_up A' 2 (upd (A' 2) f (nI (s0 + 1)))) (X' := X') hI
      have hw := w_read hI (nI s0) (by rw [hsp]; show ¬ (0 : Int32) = 3; decide)
      rw [hsp] at hw
      refine mw_callSX dL_keeps_2026 mk_L_209 (hw) (by decide) (Nat.le_refl _) (Nat.le_refl _) rfl rfl (Nat.le_of_ble_eq_true rfl) (fun E9 h9 q9 => ?_) (fun v9 h9 q9 => ?_)
      · cases q9.1
      obtain ⟨e9, H1, rfl, hI⟩ := q9
      cases e9
      refine mw_iload (i := 39) dL_keeps_2029 rfl ?_
      refine mw_if_ne (tgt := 2039) dL_keeps_2031 (by decide) (fun c9 => absurd c9 (by first | decide | exact (fun q => q rfl))) (fun _ => ?_)
      refine mw_iload (i := 14) dL_keeps_2034 rfl ?_
      refine mw_goto (tgt := 2041) dL_keeps_2036 (by decide) ?_
      refine mw_icmp_ne (tgt := 2048) dL_keeps_2041 (by decide) (fun c9 => absurd c9 (by first | decide | exact (fun q => q rfl))) (fun _ => ?_)
      refine mw_iconst (v := 1) dL_keeps_2044 (by decide) ?_
      refine mw_goto (tgt := 2049) dL_keeps_2045 (by decide) ?_
      exact mw_ireturn dL_keeps_2049 ⟨_, rfl, rfl⟩ ⟨rfl, _, _, _, _, rfl, hI, hM3⟩
    · cases e9
      have hfl : (prsL g.2.2.2).2.1 = 0 := hfl
      have hw := d_fault hI rfl
      rw [show (sp_fault g).2.1 = 0 by show nI (prsL g.2.2.2).2.1 = 0; rw [hfl]; rfl] at hw
      refine mw_istore_39 dL_keeps_1987 (by decide) ?_
      refine mw_iload (i := 39) dL_keeps_1989 rfl ?_
      refine mw_bipush (v := 9) dL_keeps_1991 (by decide) ?_
      refine mw_icmp_ne (tgt := 2009) dL_keeps_1993 (by decide) (fun c9 => absurd c9 (by first | decide | exact (fun q => q rfl))) (fun _ => ?_)
      refine mw_aload_n (i := 0) dL_keeps_1996 rfl rfl ?_
      refine mw_callV dL_keeps_1997 mk_L_215 (cS_o hI) rfl (hw) (by decide) (Nat.le_refl _) (Nat.le_refl _) rfl rfl (Nat.le_of_ble_eq_true rfl) (fun E9 h9 q9 => ?_) (fun v9 h9 q9 => ?_)
      · cases q9.1
      obtain ⟨e9, H1, rfl, hI⟩ := q9
      cases e9
      refine mw_if_ne (tgt := 2007) dL_keeps_2000 (by decide) (fun c9 => absurd c9 (by first | decide | exact (fun q => q rfl))) (fun _ => ?_)
      refine mw_iconst (v := 1) dL_keeps_2003 (by decide) ?_
      refine mw_goto (tgt := 2008) dL_keeps_2004 (by decide) ?_
      exact mw_ireturn dL_keeps_2008 ⟨_, rfl, rfl⟩ ⟨rfl, _, _, _, _, rfl, hI, hM2⟩
theorem lp_open {a : Nat} (ha : a < 60) {Y : List Nat} (hY : Y.length ≤ 16) (h5 : A 5 a = nI Y.length) (hbt : ∀ j, j < 16 → bt2 X a j = Y.getD j 0) (h19 : lir (Pt g.2.1 s (nI (tg i))) (12 * m) L = nI a) {x41 : Option Value} {x21 x22 x23 x24 x25 x26 x27 x28 x29 x30 x31 x32 x33 x34 x35 x36 x37 x38 x39 : Option Value} (k : ∀ x40, mw_W mm_L_keeps 10 12 560 2147 (some (.ref 1) :: some (.int act) :: some (.int y) :: some (.ref 43) :: some (.ref 44) :: some (.ref 45) :: some (.ref 46) :: some (.ref 47) :: some (.ref 48) :: some (.ref 49) :: some (.ref 50) :: some (.ref 51) :: some (.ref 52) :: some (.ref 54) :: some (.int (lf)) :: some (.int (nI s0)) :: some (.int (nI m)) :: some (.int (nI (tg i))) :: some (.int (zKind g.2.1 s (nI (tg i)))) :: some (.int (nI a)) :: some (.int (nI p)) :: x21 :: x22 :: x23 :: x24 :: x25 :: x26 :: x27 :: x28 :: x29 :: x30 :: x31 :: x32 :: x33 :: x34 :: x35 :: x36 :: x37 :: x38 :: x39 :: x40 :: x41 :: []) [] (gl H (va_up A 9 (rcp (A 9) Y Y.length)) X) (lwP sc)) : ∀ (n j : Nat), j + n = Y.length → mw_W mm_L_keeps 10 12 560 2115 (some (.ref 1) :: some (.int act) :: some (.int y) :: some (.ref 43) :: some (.ref 44) :: some (.ref 45) :: some (.ref 46) :: some (.ref 47) :: some (.ref 48) :: some (.ref 49) :: some (.ref 50) :: some (.ref 51) :: some (.ref 52) :: some (.ref 54) :: some (.int (lf)) :: some (.int (nI s0)) :: some (.int (nI m)) :: some (.int (nI (tg i))) :: some (.int (zKind g.2.1 s (nI (tg i)))) :: some (.int (nI a)) :: some (.int (nI p)) :: x21 :: x22 :: x23 :: x24 :: x25 :: x26 :: x27 :: x28 :: x29 :: x30 :: x31 :: x32 :: x33 :: x34 :: x35 :: x36 :: x37 :: x38 :: x39 :: some (.int (nI j)) :: x41 :: []) [] (gl H (va_up A 9 (rcp (A 9) Y j)) X) (lwP sc) := by
  intro n
  induction n with
  | zero =>
    intro j hj
    have hj : j = Y.length := by omega
    subst hj
    refine mw_iload (i := 40) dL_keeps_2115 rfl ?_
    refine mw_aload (i := 8) dL_keeps_2117 rfl ?_
    refine mw_iload (i := 19) dL_keeps_2119 rfl ?_
    refine mw_iald dL_keeps_2121 gl_5 (mw_ix rfl (by omega) (by decide)) ?_
    refine mw_top (show va_up A 9 (rcp (A 9) Y Y.length) 5 a = nI Y.length by rw [va_up_ne _ _ (by decide)]; exact h5) ?_
    refine mw_icmp_ge (tgt := 2147) dL_keeps_2122 (by decide) (fun _ => ?_) (fun c9 => absurd c9 (by first | decide | exact (fun q => q rfl) | ((try simp only [fa_lit]); first | exact cq_le (by omega) (by omega) | exact cq_nle (by omega) (by omega) | exact cq_lt (by omega) (by omega) | exact cq_nlt (by omega) (by omega) | exact cq_eq (by omega) (by omega) (by omega) | exact cq_neq (by omega))))
    exact k _
  | succ n ih =>
    intro j hj
    refine mw_iload (i := 40) dL_keeps_2115 rfl ?_
    refine mw_aload (i := 8) dL_keeps_2117 rfl ?_
    refine mw_iload (i := 19) dL_keeps_2119 rfl ?_
    refine mw_iald dL_keeps_2121 gl_5 (mw_ix rfl (by omega) (by decide)) ?_
    refine mw_top (show va_up A 9 (rcp (A 9) Y j) 5 a = nI Y.length by rw [va_up_ne _ _ (by decide)]; exact h5) ?_
    refine mw_icmp_ge (tgt := 2147) dL_keeps_2122 (by decide) (fun c9 => absurd c9 (by first | decide | exact (fun q => q rfl) | ((try simp only [fa_lit]); first | exact cq_le (by omega) (by omega) | exact cq_nle (by omega) (by omega) | exact cq_lt (by omega) (by omega) | exact cq_nlt (by omega) (by omega) | exact cq_eq (by omega) (by omega) (by omega) | exact cq_neq (by omega)))) (fun _ => ?_)
    refine mw_aload (i := 12) dL_keeps_2125 rfl ?_
    refine mw_iload (i := 40) dL_keeps_2127 rfl ?_
    refine mw_aload (i := 9) dL_keeps_2129 rfl ?_
    refine mw_aload (i := 10) dL_keeps_2131 rfl ?_
    refine mw_iload (i := 19) dL_keeps_2133 rfl ?_
    refine mw_iload (i := 40) dL_keeps_2135 rfl ?_
    refine mw_callSr dL_keeps_2137 mk_L_103 ((c_byteAt ha (by omega))) (by decide) (Nat.le_refl _) (Nat.le_refl _) rfl rfl (Nat.le_of_ble_eq_true rfl) ?_
    rw [hbt j (by omega)]
    refine gl_st9 dL_keeps_2140 (mw_ix rfl (by omega) (by decide)) ?_
    refine mw_iinc_40 dL_keeps_2141 (by decide) rfl ?_
    refine mw_goto (tgt := 2115) dL_keeps_2144 (by decide) ?_
    rw [va_up_self, up_up, rcp_s, show nI j + Int32.ofInt 1 = nI (j + 1) from nI_1 _]
    exact ih (j + 1) (by omega)
/-- behind the loop: the bytes of the part are in q -/
theorem kp_open_q (hI : cS sc g H A X) (hM : mR g A X) (hfr : frP g lf) (hs0 : s0 < g.1) (hm : m < 5) (hT : g.2.2.1 m = some (s, L)) (hi : i < 6) (hp : p < 5) (hTp : g.2.2.1 p = some (s2, L2)) {x41 : Option Value} {x21 x22 x23 x24 x25 x26 x27 x28 x29 x30 x31 x32 x33 x34 x35 x36 x37 x38 x39 x40 : Option Value} {a : Nat} {x : af} (ha : a < 60) (hz : zKind g.2.1 s (nI (tg i)) = 4) (hlk : lastK g.2.1 s (nI (tg i)) L = some x) (hYb : ∀ z ∈ x.2.2.2, z < 256) (hY : x.2.2.2.length ≤ 16) (h5 : A 5 a = nI x.2.2.2.length) (hq : ∀ j, j < x.2.2.2.length → A 9 j = nI (x.2.2.2.getD j 0)) : mw_W mm_L_keeps 10 12 560 2147 (some (.ref 1) :: some (.int act) :: some (.int y) :: some (.ref 43) :: some (.ref 44) :: some (.ref 45) :: some (.ref 46) :: some (.ref 47) :: some (.ref 48) :: some (.ref 49) :: some (.ref 50) :: some (.ref 51) :: some (.ref 52) :: some (.ref 54) :: some (.int (lf)) :: some (.int (nI s0)) :: some (.int (nI m)) :: some (.int (nI (tg i))) :: some (.int (4)) :: some (.int (nI a)) :: some (.int (nI p)) :: x21 :: x22 :: x23 :: x24 :: x25 :: x26 :: x27 :: x28 :: x29 :: x30 :: x31 :: x32 :: x33 :: x34 :: x35 :: x36 :: x37 :: x38 :: x39 :: x40 :: x41 :: []) [] (gl H A X) (lwP sc) := by
  have hgok := cS_ok hI
  have hns4 := mR_ns hM
  have ht := tg_in hi
  obtain ⟨hk, hg0, hms, hmo, hg1, h64, htp, -⟩ := id hM
  obtain ⟨hs, hok, h120⟩ := hgok.2.2.2.1 m s L (by omega) hT
  obtain ⟨hA, hR⟩ := (hms m hm).2 s L hT
  have h12 := hR.2.1
  have hsM := sM_at (g := g) (by omega) hT
  have hsS := sS_at hgok.1 hs0
  obtain ⟨i', o, i1, i2, i3, i4, i5, -⟩ := kR_at hk hs ht.1 ht.2 (show 4 ≤ 4 by decide) hz
  have i2 := tg_inj i1 hi i2
  subst i2
  obtain ⟨o1, o2⟩ := i5 rfl
  have hpn : pn g.2.1 s (nI (tg i')).toNatClampNeg = o := by
    rw [nI_clamp (by omega)]
    unfold pn
    rw [o2, nI_clamp (by omega)]
  have hsp := spl_open (by omega : m < 12) hT hz hlk
  rw [hpn] at hsp
  have hb9 : bR A 9 x.2.2.2.length (fun j => x.2.2.2.getD j 0) := ⟨Or.inr rfl, by omega, fun j => getD_byte hYb j, hq⟩
  obtain ⟨hokL, hlenL⟩ := prsL_ok hYb
  have hsml := small_16 hokL (by omega)
  have hf4 := prsL_le4 x.2.2.2
  obtain ⟨f12, hf⟩ := frP_12 hfr (hmo 5 (by decide) (by decide))
  rcases hf with ⟨rfl, hf5⟩ | ⟨hlf, hf5, hTf⟩
  · refine mw_iload (i := 14) dL_keeps_2147 rfl ?_
    refine mw_if_ge (tgt := 2197) dL_keeps_2149 (by decide) (fun c9 => absurd c9 (by first | decide | exact (fun q => q rfl))) (fun _ => ?_)
    refine mw_aload (i := 12) dL_keeps_2152 rfl ?_
    refine mw_aload (i := 8) dL_keeps_2154 rfl ?_
    refine mw_iload (i := 19) dL_keeps_2156 rfl ?_
    refine mw_iald dL_keeps_2158 gl_5 (mw_ix rfl (by omega) (by decide)) ?_
    rw [h5]
    refine mw_aload (i := 6) dL_keeps_2159 rfl ?_
    refine mw_aload (i := 7) dL_keeps_2161 rfl ?_
    refine mw_aload (i := 8) dL_keeps_2163 rfl ?_
    refine mw_aload (i := 9) dL_keeps_2165 rfl ?_
    refine mw_aload (i := 10) dL_keeps_2167 rfl ?_
    refine mw_aload (i := 13) dL_keeps_2169 rfl ?_
    refine mw_iconst (v := -1) dL_keeps_2171 (by decide) ?_
    refine mw_callS dL_keeps_2172 mk_L_211 ((c_readsN hb9)) (by decide) (Nat.le_refl _) (Nat.le_refl _) rfl rfl (Nat.le_of_ble_eq_true rfl) (fun E9 h9 q9 => ?_) (fun v9 h9 q9 => ?_)
    · obtain ⟨G', -, -, ⟨-, z, -⟩ | ⟨-, z | ⟨z, -⟩⟩⟩ := q9 <;> cases z
    obtain ⟨G', rfl, hG, hq9⟩ := q9
    have hM2 : mR g (va_up A 11 G') X := mR_scr hM (fun j _ _ z => va_up_ne _ _ z) (by rw [va_up_self]; exact hG 0 (by decide)) (by rw [va_up_self]; exact hG 1 (by decide))
    have hI := cS_gl (A' := va_up A 11 G') (X' := X) hI
    rcases hq9 with ⟨hfl, e9, -⟩ | ⟨hfl, e9 | ⟨e9, z | ⟨z, hz1, hz2, hz3⟩⟩⟩
    · cases e9
      have hfl : (prsL x.2.2.2).2.1 ≠ 0 := hfl
      rw [if_pos hfl] at hsp
      have hw := w_open hI (nI m) (nI (tg i'))
      rw [hsp] at hw
      show mw_W _ _ _ _ _ _ (Option.toList (some (.int (nI (prsL x.2.2.2).2.1))) ++ []) _ _
      refine mw_if_eq (tgt := 2191) dL_keeps_2175 (by decide) (fun c9 => absurd c9 (nI_ne0 (by omega) (by omega))) (fun _ => ?_)
      refine mw_aload_n (i := 0) dL_keeps_2178 rfl rfl ?_
      refine mw_iload (i := 16) dL_keeps_2179 rfl ?_
      refine mw_iload (i := 17) dL_keeps_2181 rfl ?_
      refine mw_callSX dL_keeps_2183 mk_L_218 (hw) (by decide) (Nat.le_refl _) (Nat.le_refl _) rfl rfl (Nat.le_of_ble_eq_true rfl) (fun E9 h9 q9 => ?_) (fun v9 h9 q9 => ?_)
      · cases q9.1
      obtain ⟨e9, H1, rfl, hI⟩ := q9
      cases e9
      refine mw_bipush (v := -73) dL_keeps_2186 (by decide) ?_
      refine mw_icmp_ne (tgt := 2195) dL_keeps_2188 (by decide) (fun c9 => absurd c9 (by first | decide | exact (fun q => q rfl))) (fun _ => ?_)
      refine mw_iconst (v := 1) dL_keeps_2191 (by decide) ?_
      refine mw_goto (tgt := 2196) dL_keeps_2192 (by decide) ?_
      exact mw_ireturn dL_keeps_2196 ⟨_, rfl, rfl⟩ ⟨rfl, _, _, _, _, rfl, hI, hM2⟩
    · cases e9
      refine mw_if_eq (tgt := 2191) dL_keeps_2175 (by decide) (fun _ => ?_) (fun c9 => absurd c9 (by first | decide | exact (fun q => q rfl)))
      refine mw_iconst (v := 1) dL_keeps_2191 (by decide) ?_
      refine mw_goto (tgt := 2196) dL_keeps_2192 (by decide) ?_
      exact mw_ireturn dL_keeps_2196 ⟨_, rfl, rfl⟩ ⟨rfl, _, _, _, _, rfl, hI, hM2⟩
    · exact z.elim
    · have := hsml.2 z hz1 hz2
      omega
  · rw [hlf]
    generalize hfe : fre g.2.2.1 = f at f12 hf5 hTf ⊢
    refine mw_iload (i := 14) dL_keeps_2147 rfl ?_
    refine mw_if_ge (tgt := 2197) dL_keeps_2149 (by decide) (fun _ => ?_) (fun c9 => absurd c9 (cq_nle (a := 0) (Nat.zero_le _) (by omega)))
    refine mw_aload (i := 12) dL_keeps_2197 rfl ?_
    refine mw_aload (i := 8) dL_keeps_2199 rfl ?_
    refine mw_iload (i := 19) dL_keeps_2201 rfl ?_
    refine mw_iald dL_keeps_2203 gl_5 (mw_ix rfl (by omega) (by decide)) ?_
    rw [h5]
    refine mw_aload (i := 6) dL_keeps_2204 rfl ?_
    refine mw_aload (i := 7) dL_keeps_2206 rfl ?_
    refine mw_aload (i := 8) dL_keeps_2208 rfl ?_
    refine mw_aload (i := 9) dL_keeps_2210 rfl ?_
    refine mw_aload (i := 10) dL_keeps_2212 rfl ?_
    refine mw_aload (i := 13) dL_keeps_2214 rfl ?_
    refine mw_iload (i := 14) dL_keeps_2216 rfl ?_
    refine mw_callS dL_keeps_2218 mk_L_211 ((c_readsM hf5 hb9)) (by decide) (Nat.le_refl _) (Nat.le_refl _) rfl rfl (Nat.le_of_ble_eq_true rfl) (fun E9 h9 q9 => ?_) (fun v9 h9 q9 => ?_)
    · obtain ⟨A', X', -, -, ⟨-, z, -⟩ | ⟨-, -, z, -⟩ | ⟨-, -, z⟩⟩ := q9 <;> cases z
    obtain ⟨A', X', rfl, hF, hq9⟩ := q9
    have hM2 := mR_fF hM hTf hF
    have hI := cS_gl (A' := A') (X' := X') hI
    rcases hq9 with ⟨hfl, e9, -⟩ | ⟨hfl, hsm, e9, hR'⟩ | ⟨hfl, hns, e9⟩
    · cases e9
      have hfl : (prsL x.2.2.2).2.1 ≠ 0 := hfl
      rw [if_pos hfl] at hsp
      have hw := w_open hI (nI m) (nI (tg i'))
      rw [hsp] at hw
      show mw_W _ _ _ _ _ _ (Option.toList (some (.int (nI (prsL x.2.2.2).2.1))) ++ []) _ _
      refine mw_istore_40 dL_keeps_2221 (by decide) ?_
      refine mw_iload (i := 40) dL_keeps_2223 rfl ?_
      refine mw_if_le (tgt := 2247) dL_keeps_2225 (by decide) (fun c9 => absurd c9 (cq_le (b := 0) (by omega) (by omega))) (fun _ => ?_)
      refine mw_aload_n (i := 0) dL_keeps_2228 rfl rfl ?_
      refine mw_iload (i := 16) dL_keeps_2229 rfl ?_
      refine mw_iload (i := 17) dL_keeps_2231 rfl ?_
      refine mw_callSX dL_keeps_2233 mk_L_218 (hw) (by decide) (Nat.le_refl _) (Nat.le_refl _) rfl rfl (Nat.le_of_ble_eq_true rfl) (fun E9 h9 q9 => ?_) (fun v9 h9 q9 => ?_)
      · cases q9.1
      obtain ⟨e9, H1, rfl, hI⟩ := q9
      cases e9
      refine mw_bipush (v := -73) dL_keeps_2236 (by decide) ?_
      refine mw_icmp_ne (tgt := 2245) dL_keeps_2238 (by decide) (fun c9 => absurd c9 (by first | decide | exact (fun q => q rfl))) (fun _ => ?_)
      refine mw_iconst (v := 1) dL_keeps_2241 (by decide) ?_
      refine mw_goto (tgt := 2246) dL_keeps_2242 (by decide) ?_
      exact mw_ireturn dL_keeps_2246 ⟨_, rfl, rfl⟩ ⟨rfl, _, _, _, _, rfl, hI, hM2⟩
    · cases e9
      have hfl : (prsL x.2.2.2).2.1 = 0 := hfl
      have hR' : fR A' X' f (prsL x.2.2.2).1 := hR'
      rw [if_neg (fun z => z hfl)] at hsp
      unfold newM at hsp
      rw [hfe, if_neg (show ¬ f = 12 by omega)] at hsp
      have hA' : A' 2 m = nI (s + 1) := by rw [hF.1 2 (by decide) (by decide) (by decide) (by decide)]; exact hA
      have hA0 : A' 0 (6 * s + i') = nI (4 + 1 + 8 * o) := by rw [hF.1 0 (by decide) (by decide) (by decide) (by decide)]; exact i4
      refine mw_istore_40 dL_keeps_2221 (by decide) ?_
      refine mw_iload (i := 40) dL_keeps_2223 rfl ?_
      refine mw_if_le (tgt := 2247) dL_keeps_2225 (by decide) (fun _ => ?_) (fun c9 => absurd c9 (by first | decide | exact (fun q => q rfl)))
      refine mw_aload (i := 5) dL_keeps_2247 rfl ?_
      refine mw_iload (i := 14) dL_keeps_2249 rfl ?_
      refine mw_iconst (v := 1) dL_keeps_2251 (by decide) ?_
      refine mw_aload_n (i := 3) dL_keeps_2252 rfl rfl ?_
      refine mw_aload (i := 5) dL_keeps_2253 rfl ?_
      refine mw_iload (i := 16) dL_keeps_2255 rfl ?_
      refine mw_iald dL_keeps_2257 gl_2 (mw_ix rfl hm (by decide)) ?_
      rw [hA']
      refine mw_iconst (v := 1) dL_keeps_2258 (by decide) ?_
      refine mw_isub dL_keeps_2259 ?_
      rw [nI_pred]
      refine mw_iload (i := 17) dL_keeps_2260 rfl ?_
      refine mw_callSr dL_keeps_2262 mk_L_93 ((c_place hi (by omega))) (by decide) (Nat.le_refl _) (Nat.le_refl _) rfl rfl (Nat.le_of_ble_eq_true rfl) ?_
      refine mw_iald dL_keeps_2265 gl_0 (mw_ix rfl (by omega) (by decide)) ?_
      rw [hA0]
      refine mw_bipush (v := 8) dL_keeps_2266 (by decide) ?_
      refine mw_idiv dL_keeps_2268 (by decide) ?_
      rw [mx_d8' (by decide) i3]
      refine mw_iadd dL_keeps_2269 ?_
      rw [show (1 : Int32) + nI o = nI (o + 1) by rw [show (1 : Int32) = nI 1 from rfl, nI_add, Nat.add_comm]]
      refine gl_st2 dL_keeps_2270 (mw_ix rfl hf5 (by decide)) ?_
      refine mw_aload_n (i := 0) dL_keeps_2271 rfl rfl ?_
      refine mw_iload (i := 16) dL_keeps_2272 rfl ?_
      refine mw_iload (i := 17) dL_keeps_2274 rfl ?_
      have hM3 := mR_new (s := o) hM hf5 hTf hF hR'
      have hI := cS_gl (A' := va_up A' 2 (upd (A' 2) f (nI (o + 1)))) (X' := X') hI
      have hw := w_open hI (nI m) (nI (tg i'))
      rw [hsp] at hw
      refine mw_callSX dL_keeps_2276 mk_L_218 (hw) (by decide) (Nat.le_refl _) (Nat.le_refl _) rfl rfl (Nat.le_of_ble_eq_true rfl) (fun E9 h9 q9 => ?_) (fun v9 h9 q9 => ?_)
      · cases q9.1
      obtain ⟨e9, H1, rfl, hI⟩ := q9
      cases e9
      refine mw_iload (i := 14) dL_keeps_2279 rfl ?_
      refine mw_icmp_ne (tgt := 2288) dL_keeps_2281 (by decide) (fun c9 => absurd c9 (by first | decide | exact (fun q => q rfl))) (fun _ => ?_)
      refine mw_iconst (v := 1) dL_keeps_2284 (by decide) ?_
      refine mw_goto (tgt := 2289) dL_keeps_2285 (by decide) ?_
      exact mw_ireturn dL_keeps_2289 ⟨_, rfl, rfl⟩ ⟨rfl, _, _, _, _, rfl, hI, hM3⟩
    · exact absurd hsml hns
theorem kp_open (hI : cS sc g H A X) (hM : mR g A X) (hfr : frP g lf) (hs0 : s0 < g.1) (hm : m < 5) (hT : g.2.2.1 m = some (s, L)) (hi : i < 6) (hp : p < 5) (hTp : g.2.2.1 p = some (s2, L2)) {x21 x22 x23 x24 x25 x26 x27 x28 x29 x30 x31 x32 x33 x34 x35 x36 x37 x38 x39 x40 x41 : Option Value} : mw_W mm_L_keeps 10 12 560 2050 (some (.ref 1) :: some (.int act) :: some (.int y) :: some (.ref 43) :: some (.ref 44) :: some (.ref 45) :: some (.ref 46) :: some (.ref 47) :: some (.ref 48) :: some (.ref 49) :: some (.ref 50) :: some (.ref 51) :: some (.ref 52) :: some (.ref 54) :: some (.int (lf)) :: some (.int (nI s0)) :: some (.int (nI m)) :: some (.int (nI (tg i))) :: some (.int (zKind g.2.1 s (nI (tg i)))) :: some (.int (lir (Pt g.2.1 s (nI (tg i))) (12 * m) L)) :: some (.int (nI p)) :: x21 :: x22 :: x23 :: x24 :: x25 :: x26 :: x27 :: x28 :: x29 :: x30 :: x31 :: x32 :: x33 :: x34 :: x35 :: x36 :: x37 :: x38 :: x39 :: x40 :: x41 :: []) [] (gl H A X) (lwP sc) := by
  have hgok := cS_ok hI
  have hns4 := mR_ns hM
  have ht := tg_in hi
  obtain ⟨hk, hg0, hms, hmo, hg1, h64, htp, -⟩ := id hM
  obtain ⟨hs, hok, h120⟩ := hgok.2.2.2.1 m s L (by omega) hT
  obtain ⟨hA, hR⟩ := (hms m hm).2 s L hT
  have h12 := hR.2.1
  have hsM := sM_at (g := g) (by omega) hT
  have hsS := sS_at hgok.1 hs0
  by_cases h4 : zKind g.2.1 s (nI (tg i)) = 4
  · rcases last_ways (K := g.2.1) (s := s) (t := tg i) L m with ⟨hl, hlk⟩ | ⟨L1, x, Lx, e, hPx, hl, hlk⟩
    · have hw := w_open hI (nI m) (nI (tg i))
      rw [spl_open3 (by omega) hT h4 hlk] at hw
      rw [hl]
      refine mw_iload (i := 18) dL_keeps_2050 rfl ?_
      refine mw_iconst (v := 4) dL_keeps_2052 (by decide) ?_
      refine mw_icmp_eq (tgt := 2088) dL_keeps_2053 (by decide) (fun _ => ?_) (fun c9 => absurd c9 (fun z => z h4))
      refine mw_iload (i := 19) dL_keeps_2088 rfl ?_
      refine mw_if_ge (tgt := 2112) dL_keeps_2090 (by decide) (fun c9 => absurd c9 (by first | decide | exact (fun q => q rfl))) (fun _ => ?_)
      refine mw_aload_n (i := 0) dL_keeps_2093 rfl rfl ?_
      refine mw_iload (i := 16) dL_keeps_2094 rfl ?_
      refine mw_iload (i := 17) dL_keeps_2096 rfl ?_
      refine mw_callSX dL_keeps_2098 mk_L_218 (hw) (by decide) (Nat.le_refl _) (Nat.le_refl _) rfl rfl (Nat.le_of_ble_eq_true rfl) (fun E9 h9 q9 => ?_) (fun v9 h9 q9 => ?_)
      · cases q9.1
      obtain ⟨e9, H1, rfl, hI⟩ := q9
      cases e9
      refine mw_bipush (v := -74) dL_keeps_2101 (by decide) ?_
      refine mw_icmp_ne (tgt := 2110) dL_keeps_2103 (by decide) (fun c9 => absurd c9 (by first | decide | exact (fun q => q rfl))) (fun _ => ?_)
      refine mw_iconst (v := 1) dL_keeps_2106 (by decide) ?_
      refine mw_goto (tgt := 2111) dL_keeps_2107 (by decide) ?_
      exact mw_ireturn dL_keeps_2111 ⟨_, rfl, rfl⟩ ⟨rfl, _, _, _, _, rfl, hI, hM⟩
    · obtain ⟨hf, l1, l12⟩ := fR_at hR e
      have hx := hok x (by rw [e]; simp)
      have h2 := known_ty hPx (by rw [h4]; decide) hx
      obtain ⟨o1, o2, o3, o4, o5, o6, o7⟩ := id hx
      obtain ⟨f1, f2, f3⟩ := hf
      obtain ⟨f4, f5⟩ := f3 h2
      rw [← o5 h2] at f2 f4
      have hM2 : mR g (va_up A 9 (rcp (A 9) x.2.2.2 x.2.2.2.length)) X := mR_scr hM (fun j z9 _ _ => va_up_ne _ _ z9) (by rw [va_up_ne _ _ (by decide)]) (by rw [va_up_ne _ _ (by decide)])
      have hgo := fun x40 => kp_open_q (lf := lf) (act := act) (y := y) (x21 := x21) (x22 := x22) (x23 := x23) (x24 := x24) (x25 := x25) (x26 := x26) (x27 := x27) (x28 := x28) (x29 := x29) (x30 := x30) (x31 := x31) (x32 := x32) (x33 := x33) (x34 := x34) (x35 := x35) (x36 := x36) (x37 := x37) (x38 := x38) (x39 := x39) (x41 := x41) (x40 := x40) (cS_gl (A' := va_up A 9 (rcp (A 9) x.2.2.2 x.2.2.2.length)) (X' := X) hI) hM2 hfr hs0 hm hT hi hp hTp (a := 12 * m + L1.length) (by omega) h4 hlk o7 f4 (by rw [va_up_ne _ _ (by decide)]; exact f2) (fun j hj => by rw [va_up_self]; exact if_pos hj)
      have hlo := lp_open (sc := sc) (g := g) (H := H) (s := s) (m := m) (i := i) (p := p) (s0 := s0) (L := L) (lf := lf) (act := act) (y := y) (by omega) f4 f2 f5 hl (x41 := x41) (x21 := x21) (x22 := x22) (x23 := x23) (x24 := x24) (x25 := x25) (x26 := x26) (x27 := x27) (x28 := x28) (x29 := x29) (x30 := x30) (x31 := x31) (x32 := x32) (x33 := x33) (x34 := x34) (x35 := x35) (x36 := x36) (x37 := x37) (x38 := x38) (x39 := x39)  (fun x40 => by have h9 := hgo x40; rw [← h4] at h9; exact h9) x.2.2.2.length 0 (by omega)
      rw [rcp_0, up_same] at hlo
      rw [hl]
      refine mw_iload (i := 18) dL_keeps_2050 rfl ?_
      refine mw_iconst (v := 4) dL_keeps_2052 (by decide) ?_
      refine mw_icmp_eq (tgt := 2088) dL_keeps_2053 (by decide) (fun _ => ?_) (fun c9 => absurd c9 (fun z => z h4))
      refine mw_iload (i := 19) dL_keeps_2088 rfl ?_
      refine mw_if_ge (tgt := 2112) dL_keeps_2090 (by decide) (fun _ => ?_) (fun c9 => absurd c9 (cq_nle (a := 0) (Nat.zero_le _) (by omega)))
      refine mw_iconst (v := 0) dL_keeps_2112 (by decide) ?_
      refine mw_istore_40 dL_keeps_2113 (by decide) ?_
      exact hlo
  · have hw := w_open hI (nI m) (nI (tg i))
    rw [spl_open2 (by omega) hT h4] at hw
    refine mw_iload (i := 18) dL_keeps_2050 rfl ?_
    refine mw_iconst (v := 4) dL_keeps_2052 (by decide) ?_
    refine mw_icmp_eq (tgt := 2088) dL_keeps_2053 (by decide) (fun c9 => absurd c9 h4) (fun _ => ?_)
    refine mw_aload_n (i := 0) dL_keeps_2056 rfl rfl ?_
    refine mw_iload (i := 16) dL_keeps_2057 rfl ?_
    refine mw_iload (i := 17) dL_keeps_2059 rfl ?_
    refine mw_callSX dL_keeps_2061 mk_L_218 (hw) (by decide) (Nat.le_refl _) (Nat.le_refl _) rfl rfl (Nat.le_of_ble_eq_true rfl) (fun E9 h9 q9 => ?_) (fun v9 h9 q9 => ?_)
    · cases q9.1
    obtain ⟨e9, H1, rfl, hI⟩ := q9
    cases e9
    have hs1 : sp_open g 12 (nI (tg i)) = (1, 0, g) := by
      unfold sp_open
      rw [sM_out (by decide)]
    have hw := w_open hI 12 (nI (tg i))
    rw [hs1] at hw
    refine mw_bipush (v := -72) dL_keeps_2064 (by decide) ?_
    refine mw_icmp_ne (tgt := 2086) dL_keeps_2066 (by decide) (fun c9 => absurd c9 (by first | decide | exact (fun q => q rfl))) (fun _ => ?_)
    refine mw_aload_n (i := 0) dL_keeps_2069 rfl rfl ?_
    refine mw_bipush (v := 12) dL_keeps_2070 (by decide) ?_
    refine mw_iload (i := 17) dL_keeps_2072 rfl ?_
    refine mw_callSX dL_keeps_2074 mk_L_218 (hw) (by decide) (Nat.le_refl _) (Nat.le_refl _) rfl rfl (Nat.le_of_ble_eq_true rfl) (fun E9 h9 q9 => ?_) (fun v9 h9 q9 => ?_)
    · cases q9.1
    obtain ⟨e9, H2, rfl, hI⟩ := q9
    cases e9
    refine mw_bipush (v := -71) dL_keeps_2077 (by decide) ?_
    refine mw_icmp_ne (tgt := 2086) dL_keeps_2079 (by decide) (fun c9 => absurd c9 (by first | decide | exact (fun q => q rfl))) (fun _ => ?_)
    refine mw_iconst (v := 1) dL_keeps_2082 (by decide) ?_
    refine mw_goto (tgt := 2087) dL_keeps_2083 (by decide) ?_
    exact mw_ireturn dL_keeps_2087 ⟨_, rfl, rfl⟩ ⟨rfl, _, _, _, _, rfl, hI, hM⟩
end K6
