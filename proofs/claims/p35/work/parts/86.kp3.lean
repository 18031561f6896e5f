/-! keeps: a byte is appended: written by gen/86.py (class side) -/
theorem i8_b : ∀ b, b < 256 → (nI b).toInt8.toInt32 &&& 255 = nI b := by decide +kernel
section SPA
variable {g : mS} {m s : Nat} {L : List af} {t v : Int32} {x : af}
theorem spl_app2 (hm : m < 12) (hT : g.2.2.1 m = some (s, L)) (hz : zHas (zKind g.2.1 s t) = 0) : sp_append g (nI m) t v = (2, 0, g) := by
  unfold sp_append
  rw [sM_at hm hT]
  exact if_pos hz
theorem spl_app {b : Nat} (hb : b < 256) (hm : m < 12) (hT : g.2.2.1 m = some (s, L)) (hz : ¬ zHas (zKind g.2.1 s t) = 0) : sp_append g (nI m) t (nI b).toInt8.toInt32 = putM g m s (oth g.2.1 s t L ++ [(t.toNatClampNeg, 2, (lastB g.2.1 s t L ++ [b]).length, lastB g.2.1 s t L ++ [b])]) (nI (lastB g.2.1 s t L ++ [b]).length) := by
  unfold sp_append
  rw [sM_at hm hT]
  show (if zHas (zKind g.2.1 s t) = 0 then _ else putB g m s t L (lastB g.2.1 s t L ++ [uN ((nI b).toInt8.toInt32 &&& 255)])) = _
  rw [if_neg hz, i8_b b hb, uN_nI (by omega)]
  rfl
theorem spl_byt2 {p : Int32} (hm : m < 12) (hT : g.2.2.1 m = some (s, L)) (hz : zHas (zKind g.2.1 s t) = 0) : sp_byteOf g (nI m) t p = (2, 0, g) := by
  unfold sp_byteOf
  rw [sM_at hm hT]
  exact if_pos hz
end SPA
/-- the bytes that a message has for a tag, and how they lie in the longs V, W -/
theorem last_bytes {K : Nat → Nat → Int32} {s t m : Nat} {A : Nat → Nat → Int32} {X : Nat → Nat → Int64} {L : List af} (ht : t ≤ 31) (hz : ¬ zHas (zKind K s (nI t)) = 0) (hok : ∀ x ∈ L, okf x) (hR : fR A X m L) : (lastB K s (nI t) L).length ≤ 16 ∧ (∀ z ∈ lastB K s (nI t) L, z < 256) ∧ ((lir (Pt K s (nI t)) (12 * m) L = -1 ∧ lastB K s (nI t) L = []) ∨ ∃ a, 12 * m ≤ a ∧ a < 12 * m + 12 ∧ lir (Pt K s (nI t)) (12 * m) L = nI a ∧ A 5 a = nI (lastB K s (nI t) L).length ∧ ∀ j, j < 16 → bt2 X a j = (lastB K s (nI t) L).getD j 0) := by
  rcases last_ways (K := K) (s := s) (t := t) L m with ⟨hl, hlk⟩ | ⟨L1, x, L2, e, hPx, hl, hlk⟩
  · have hB : lastB K s (nI t) L = [] := by unfold lastB; rw [hlk]
    rw [hB]
    exact ⟨Nat.zero_le _, fun z hz => (by cases hz), Or.inl ⟨hl, rfl⟩⟩
  · have hB : lastB K s (nI t) L = x.2.2.2 := by unfold lastB; rw [hlk]
    have hx := hok x (by rw [e]; simp)
    obtain ⟨hf, l1, l12⟩ := fR_at hR e
    have h2 := known_ty hPx hz hx
    obtain ⟨o1, o2, o3, o4, o5, o6, o7⟩ := hx
    have h5 := o5 h2
    obtain ⟨f1, f2, f3⟩ := hf
    obtain ⟨f4, f5⟩ := f3 h2
    rw [hB, h5]
    exact ⟨f4, o7, Or.inr ⟨12 * m + L1.length, by omega, by omega, hl, f2, f5⟩⟩
theorem oth_bytes {Y : List Nat} {b j : Nat} : (Y ++ [b]).getD j 0 = if j = Y.length then b else Y.getD j 0 := by
  rw [List.getD_eq_getElem?_getD, List.getD_eq_getElem?_getD]
  by_cases e : j < Y.length
  · rw [List.getElem?_append_left e, if_neg (by omega)]
  · rw [List.getElem?_append_right (by omega)]
    by_cases e2 : j = Y.length
    · rw [if_pos e2, e2, Nat.sub_self]; rfl
    · rw [if_neg e2, List.getElem?_eq_none (by rw [List.length_singleton]; omega), List.getElem?_eq_none (by omega)]
theorem getD_out {Y : List Nat} {j : Nat} (h : Y.length ≤ j) : Y.getD j 0 = 0 := by
  rw [List.getD_eq_getElem?_getD, List.getElem?_eq_none h]; rfl
section K3
variable {sc : mSc} {g : mS} {H : mw_H} {A : Nat → Nat → Int32} {X : Nat → Nat → Int64} {s m i p s0 s2 : Nat} {L L2 : List af} {lf act y : Int32}
theorem kp_app_bad (hI : cS sc g H A X) (hM : mR g A X) (hfr : frP g lf) (hs0 : s0 < g.1) (hm : m < 5) (hT : g.2.2.1 m = some (s, L)) (hi : i < 6) (hp : p < 5) (hTp : g.2.2.1 p = some (s2, L2)) {x21 x22 x23 x24 x25 x26 x27 x28 x29 x30 x31 x32 x33 x34 x35 x36 x37 x38 x39 x40 x41 : Option Value} {b : Nat} (hb : b < 256) (hz : zHas (zKind g.2.1 s (nI (tg i))) = 0) : mw_W mm_L_keeps 10 12 560 905 (some (.ref 1) :: some (.int act) :: some (.int y) :: some (.ref 43) :: some (.ref 44) :: some (.ref 45) :: some (.ref 46) :: some (.ref 47) :: some (.ref 48) :: some (.ref 49) :: some (.ref 50) :: some (.ref 51) :: some (.ref 52) :: some (.ref 54) :: some (.int (lf)) :: some (.int (nI s0)) :: some (.int (nI m)) :: some (.int (nI (tg i))) :: some (.int (zKind g.2.1 s (nI (tg i)))) :: some (.int (lir (Pt g.2.1 s (nI (tg i))) (12 * m) L)) :: some (.int (nI p)) :: x21 :: x22 :: x23 :: x24 :: some (.int (nI b)) :: x26 :: x27 :: x28 :: x29 :: x30 :: x31 :: x32 :: x33 :: x34 :: x35 :: x36 :: x37 :: x38 :: x39 :: x40 :: x41 :: []) [] (gl H A X) (lwP sc) := by
  have hw := w_append hI (nI m) (nI (tg i)) (nI b)
  rw [spl_app2 (by omega) hT hz] at hw
  refine mw_aload_n (i := 0) dL_keeps_905 rfl rfl ?_
  refine mw_iload (i := 16) dL_keeps_906 rfl ?_
  refine mw_iload (i := 17) dL_keeps_908 rfl ?_
  refine mw_iload (i := 25) dL_keeps_910 rfl ?_
  refine mw_callSX dL_keeps_912 mk_L_178 (hw) (by decide) (Nat.le_refl _) (Nat.le_refl _) rfl rfl (Nat.le_of_ble_eq_true rfl) (fun E9 h9 q9 => ?_) (fun v9 h9 q9 => ?_)
  · cases q9.1
  obtain ⟨e9, H1, rfl, hI⟩ := q9
  cases e9
  have hw := w_byteOf hI (nI m) (nI (tg i)) 0
  rw [spl_byt2 (by omega) hT hz] at hw
  refine mw_bipush (v := -72) dL_keeps_915 (by decide) ?_
  refine mw_icmp_ne (tgt := 939) dL_keeps_917 (by decide) (fun c9 => absurd c9 (by first | decide | exact (fun q => q rfl))) (fun _ => ?_)
  refine mw_aload_n (i := 0) dL_keeps_920 rfl rfl ?_
  refine mw_iload (i := 16) dL_keeps_921 rfl ?_
  refine mw_iload (i := 17) dL_keeps_923 rfl ?_
  refine mw_iconst (v := 0) dL_keeps_925 (by decide) ?_
  refine mw_callSX dL_keeps_926 mk_L_180 (hw) (by decide) (Nat.le_refl _) (Nat.le_refl _) rfl rfl (Nat.le_of_ble_eq_true rfl) (fun E9 h9 q9 => ?_) (fun v9 h9 q9 => ?_)
  · cases q9.1
  obtain ⟨e9, H2, rfl, hI⟩ := q9
  cases e9
  refine mw_sipush (v := -1072) dL_keeps_929 (by decide) ?_
  refine mw_icmp_ne (tgt := 939) dL_keeps_932 (by decide) (fun c9 => absurd c9 (by first | decide | exact (fun q => q rfl))) (fun _ => ?_)
  refine mw_iconst (v := 1) dL_keeps_935 (by decide) ?_
  refine mw_goto (tgt := 940) dL_keeps_936 (by decide) ?_
  exact mw_ireturn dL_keeps_940 ⟨_, rfl, rfl⟩ ⟨rfl, _, _, _, _, rfl, hI, hM⟩
/-- the new field goes in -/
theorem kp_app_r (hI : cS sc g H A X) (hM : mR g A X) (hfr : frP g lf) (hs0 : s0 < g.1) (hm : m < 5) (hT : g.2.2.1 m = some (s, L)) (hi : i < 6) (hp : p < 5) (hTp : g.2.2.1 p = some (s2, L2)) {x31 x32 x33 x34 x35 x36 x37 x38 x39 x40 x41 : Option Value} {x21 x22 x23 x24 : Option Value} {b cnt : Nat} {V V' : Int64} {xn : af} {Y : List Nat} (hb : b < 256) (hY : Y.length = cnt) (hc16 : cnt < 16) (hxn : xn = (tg i, 2, cnt + 1, Y ++ [b])) (hsp : sp_append g (nI m) (nI (tg i)) (nI b).toInt8.toInt32 = (0, nI (cnt + 1), gSet g m s (oth g.2.1 s (nI (tg i)) L ++ [xn]))) (hbt : ∀ j, j < 16 → (if j < 8 then lb V j else lb V' (j - 8)) = (Y ++ [b]).getD j 0) (ho : (oth g.2.1 s (nI (tg i)) L).length < 12) : mw_W mm_L_keeps 10 12 560 1143 (some (.ref 1) :: some (.int act) :: some (.int y) :: some (.ref 43) :: some (.ref 44) :: some (.ref 45) :: some (.ref 46) :: some (.ref 47) :: some (.ref 48) :: some (.ref 49) :: some (.ref 50) :: some (.ref 51) :: some (.ref 52) :: some (.ref 54) :: some (.int (lf)) :: some (.int (nI s0)) :: some (.int (nI m)) :: some (.int (nI (tg i))) :: some (.int (zKind g.2.1 s (nI (tg i)))) :: some (.int (lir (Pt g.2.1 s (nI (tg i))) (12 * m) L)) :: some (.int (nI p)) :: x21 :: x22 :: x23 :: x24 :: some (.int (nI b)) :: some (.int (nI cnt)) :: some (.long V) :: none :: some (.long V') :: none :: x31 :: x32 :: x33 :: x34 :: x35 :: x36 :: x37 :: x38 :: x39 :: x40 :: x41 :: []) [] (gl H A X) (lwP sc) := by
  have hgok := cS_ok hI
  have hns4 := mR_ns hM
  have ht := tg_in hi
  obtain ⟨hk, hg0, hms, hmo, hg1, h64, htp, -⟩ := id hM
  obtain ⟨hs, hok, h120⟩ := hgok.2.2.2.1 m s L (by omega) hT
  obtain ⟨hA, hR⟩ := (hms m hm).2 s L hT
  have h12 := hR.2.1
  have hsM := sM_at (g := g) (by omega) hT
  have hsS := sS_at hgok.1 hs0
  have hx1 : xn.1 = tg i := by rw [hxn]
  have hx2 : xn.2.1 = 2 := by rw [hxn]
  have hx3 : xn.2.2.1 = cnt + 1 := by rw [hxn]
  have hx4 : xn.2.2.2 = Y ++ [b] := by rw [hxn]
  refine mw_aload_n (i := 3) dL_keeps_1143 rfl rfl ?_
  refine mw_aload (i := 5) dL_keeps_1144 rfl ?_
  refine mw_aload (i := 6) dL_keeps_1146 rfl ?_
  refine mw_aload (i := 7) dL_keeps_1148 rfl ?_
  refine mw_aload (i := 8) dL_keeps_1150 rfl ?_
  refine mw_aload (i := 9) dL_keeps_1152 rfl ?_
  refine mw_aload (i := 10) dL_keeps_1154 rfl ?_
  refine mw_iload (i := 16) dL_keeps_1156 rfl ?_
  refine mw_bipush (v := 8) dL_keeps_1158 (by decide) ?_
  refine mw_iload (i := 17) dL_keeps_1160 rfl ?_
  refine mw_imul dL_keeps_1162 ?_
  rw [mx_8m]
  refine mw_iconst (v := 2) dL_keeps_1163 (by decide) ?_
  refine mw_iadd dL_keeps_1164 ?_
  rw [show nI (8 * tg i) + 2 = nI (8 * tg i + 2) from nI_add _ 2]
  refine mw_iload (i := 26) dL_keeps_1165 rfl ?_
  refine mw_iconst (v := 1) dL_keeps_1167 (by decide) ?_
  refine mw_iadd dL_keeps_1168 ?_
  rw [show nI cnt + 1 = nI (cnt + 1) from nI_1 _]
  refine mw_lload (i := 27) dL_keeps_1169 rfl rfl ?_
  refine mw_lload (i := 29) dL_keeps_1171 rfl rfl ?_
  refine mw_callS dL_keeps_1173 mk_L_174 ((c_replace hk hs hA ht.2 hm hok hR (field := 8 * tg i + 2) (xn := xn) (by omega) (by omega) (by rw [hx1, hx2]) (by rw [hx3]) (fun _ => ⟨by omega, fun j hj => by rw [hx4]; exact hbt j hj⟩) ho)) (by decide) (Nat.le_refl _) (Nat.le_refl _) rfl rfl (Nat.le_of_ble_eq_true rfl) (fun E9 h9 q9 => ?_) (fun v9 h9 q9 => ?_)
  · cases q9.1
  obtain ⟨e9, A', X', rfl, hR', hF', hG'⟩ := q9
  cases e9
  have hI := cS_gl (A' := A') (X' := X') hI
  have hM' := mR_put hM hm hT hR' hF'
  have hw := w_append hI (nI m) (nI (tg i)) (nI b)
  rw [hsp] at hw
  generalize gSet g m s (oth g.2.1 s (nI (tg i)) L ++ [xn]) = g' at hw hM'
  refine mw_aload_n (i := 0) dL_keeps_1176 rfl rfl ?_
  refine mw_iload (i := 16) dL_keeps_1177 rfl ?_
  refine mw_iload (i := 17) dL_keeps_1179 rfl ?_
  refine mw_iload (i := 25) dL_keeps_1181 rfl ?_
  refine mw_callSX dL_keeps_1183 mk_L_178 (hw) (by decide) (Nat.le_refl _) (Nat.le_refl _) rfl rfl (Nat.le_of_ble_eq_true rfl) (fun E9 h9 q9 => ?_) (fun v9 h9 q9 => ?_)
  · cases q9.1
  obtain ⟨e9, H1, rfl, hI⟩ := q9
  cases e9
  have hI : cS sc g' H1 A' X' := hI
  refine mw_iload (i := 26) dL_keeps_1186 rfl ?_
  refine mw_iconst (v := 1) dL_keeps_1188 (by decide) ?_
  refine mw_iadd dL_keeps_1189 ?_
  rw [show nI cnt + 1 = nI (cnt + 1) from nI_1 _]
  refine mw_icmp_ne (tgt := 1197) dL_keeps_1190 (by decide) (fun c9 => absurd c9 (by first | decide | exact (fun q => q rfl))) (fun _ => ?_)
  refine mw_iconst (v := 1) dL_keeps_1193 (by decide) ?_
  refine mw_goto (tgt := 1198) dL_keeps_1194 (by decide) ?_
  exact mw_ireturn dL_keeps_1198 ⟨_, rfl, rfl⟩ ⟨rfl, _, _, _, _, rfl, hI, hM'⟩
theorem kp_app_c (hI : cS sc g H A X) (hM : mR g A X) (hfr : frP g lf) (hs0 : s0 < g.1) (hm : m < 5) (hT : g.2.2.1 m = some (s, L)) (hi : i < 6) (hp : p < 5) (hTp : g.2.2.1 p = some (s2, L2)) {x27 x28 x29 x30 x31 x32 x33 x34 x35 x36 x37 x38 x39 x40 x41 : Option Value} {x21 x22 x23 x24 : Option Value} {b cnt : Nat} {xn : af} {Y : List Nat} (hb : b < 256) (hzh : ¬ zHas (zKind g.2.1 s (nI (tg i))) = 0) (hY : Y.length = cnt) (hc16 : cnt ≤ 16) (hYb : ∀ z ∈ Y, z < 256) (hxn : xn = (tg i, 2, cnt + 1, Y ++ [b])) (hsp : sp_append g (nI m) (nI (tg i)) (nI b).toInt8.toInt32 = putM g m s (oth g.2.1 s (nI (tg i)) L ++ [xn]) (nI (cnt + 1))) (hat : (lir (Pt g.2.1 s (nI (tg i))) (12 * m) L = -1 ∧ Y = []) ∨ ∃ a, 12 * m ≤ a ∧ a < 12 * m + 12 ∧ lir (Pt g.2.1 s (nI (tg i))) (12 * m) L = nI a ∧ A 5 a = nI cnt ∧ ∀ j, j < 16 → bt2 X a j = Y.getD j 0) : mw_W mm_L_keeps 10 12 560 957 (some (.ref 1) :: some (.int act) :: some (.int y) :: some (.ref 43) :: some (.ref 44) :: some (.ref 45) :: some (.ref 46) :: some (.ref 47) :: some (.ref 48) :: some (.ref 49) :: some (.ref 50) :: some (.ref 51) :: some (.ref 52) :: some (.ref 54) :: some (.int (lf)) :: some (.int (nI s0)) :: some (.int (nI m)) :: some (.int (nI (tg i))) :: some (.int (zKind g.2.1 s (nI (tg i)))) :: some (.int (lir (Pt g.2.1 s (nI (tg i))) (12 * m) L)) :: some (.int (nI p)) :: x21 :: x22 :: x23 :: x24 :: some (.int (nI b)) :: some (.int (nI cnt)) :: x27 :: x28 :: x29 :: x30 :: x31 :: x32 :: x33 :: x34 :: x35 :: x36 :: x37 :: x38 :: x39 :: x40 :: x41 :: []) [] (gl H A X) (lwP sc) := by
  have hgok := cS_ok hI
  have hns4 := mR_ns hM
  have ht := tg_in hi
  obtain ⟨hk, hg0, hms, hmo, hg1, h64, htp, -⟩ := id hM
  obtain ⟨hs, hok, h120⟩ := hgok.2.2.2.1 m s L (by omega) hT
  obtain ⟨hA, hR⟩ := (hms m hm).2 s L hT
  have h12 := hR.2.1
  have hsM := sM_at (g := g) (by omega) hT
  have hsS := sS_at hgok.1 hs0
  have hx1 : xn.1 = tg i := by rw [hxn]
  have hx2 : xn.2.1 = 2 := by rw [hxn]
  have hx3 : xn.2.2.1 = cnt + 1 := by rw [hxn]
  have hx4 : xn.2.2.2 = Y ++ [b] := by rw [hxn]
  have hxok : okf xn := by
    refine ⟨by omega, by omega, by omega, by omega, fun _ => by rw [hx4, hx3, List.length_append, List.length_singleton, hY], fun z => absurd hx2 z, fun z hz => ?_⟩
    rw [hx4] at hz
    rcases List.mem_append.mp hz with hz | hz
    · exact hYb z hz
    · rw [List.mem_singleton] at hz; omega
  have hel : (eL (oth g.2.1 s (nI (tg i)) L)).length ≤ 120 := Nat.le_trans (fil_le _ L) h120
  have hg5 : (egr (8 * tg i + 2)).length ≤ 5 := eg_len5 4 _
  have hg5' : (egr (cnt + 1)).length ≤ 5 := eg_len5 4 _
  have hotho := oth_len (K := g.2.1) (s := s) (L := L) (nI (tg i))
  have hew := eL_put (oth g.2.1 s (nI (tg i)) L) xn
  rw [ef_size hxok, hx1, hx2, hx3, if_neg (by decide), if_neg (by decide)] at hew
  refine mw_aload_n (i := 3) dL_keeps_957 rfl rfl ?_
  refine mw_aload (i := 5) dL_keeps_958 rfl ?_
  refine mw_aload (i := 6) dL_keeps_960 rfl ?_
  refine mw_aload (i := 7) dL_keeps_962 rfl ?_
  refine mw_aload (i := 8) dL_keeps_964 rfl ?_
  refine mw_iload (i := 16) dL_keeps_966 rfl ?_
  refine mw_iload (i := 17) dL_keeps_968 rfl ?_
  refine mw_callSr dL_keeps_970 mk_L_167 ((c_weightO hk hs hA ht.2 hm hok hR)) (by decide) (Nat.le_refl _) (Nat.le_refl _) rfl rfl (Nat.le_of_ble_eq_true rfl) ?_
  refine mw_bipush (v := 8) dL_keeps_973 (by decide) ?_
  refine mw_iload (i := 17) dL_keeps_975 rfl ?_
  refine mw_imul dL_keeps_977 ?_
  rw [mx_8m]
  refine mw_iconst (v := 2) dL_keeps_978 (by decide) ?_
  refine mw_iadd dL_keeps_979 ?_
  rw [show nI (8 * tg i) + 2 = nI (8 * tg i + 2) from nI_add _ 2]
  refine mw_callSr dL_keeps_980 mk_L_73 ((c_groups (by omega))) (by decide) (Nat.le_refl _) (Nat.le_refl _) rfl rfl (Nat.le_of_ble_eq_true rfl) ?_
  refine mw_iadd dL_keeps_983 ?_
  rw [nI_add]
  refine mw_iload (i := 26) dL_keeps_984 rfl ?_
  refine mw_iconst (v := 1) dL_keeps_986 (by decide) ?_
  refine mw_iadd dL_keeps_987 ?_
  rw [show nI cnt + 1 = nI (cnt + 1) from nI_1 _]
  refine mw_callSr dL_keeps_988 mk_L_73 ((c_groups (by omega))) (by decide) (Nat.le_refl _) (Nat.le_refl _) rfl rfl (Nat.le_of_ble_eq_true rfl) ?_
  refine mw_iadd dL_keeps_991 ?_
  rw [nI_add]
  refine mw_iload (i := 26) dL_keeps_992 rfl ?_
  refine mw_iadd dL_keeps_994 ?_
  rw [nI_add]
  refine mw_iconst (v := 1) dL_keeps_995 (by decide) ?_
  refine mw_iadd dL_keeps_996 ?_
  rw [nI_1]
  by_cases hbig : 120 < (eL (oth g.2.1 s (nI (tg i)) L ++ [xn])).length
  · have hw := w_append hI (nI m) (nI (tg i)) (nI b)
    rw [hsp, putM_big hbig] at hw
    refine mw_bipush (v := 120) dL_keeps_997 (by decide) ?_
    refine mw_icmp_le (tgt := 1023) dL_keeps_999 (by decide) (fun c9 => absurd c9 (by first | decide | exact (fun q => q rfl) | ((try simp only [fa_lit]); first | exact cq_le (by omega) (by omega) | exact cq_nle (by omega) (by omega) | exact cq_lt (by omega) (by omega) | exact cq_nlt (by omega) (by omega) | exact cq_eq (by omega) (by omega) (by omega) | exact cq_neq (by omega)))) (fun _ => ?_)
    refine mw_aload_n (i := 0) dL_keeps_1002 rfl rfl ?_
    refine mw_iload (i := 16) dL_keeps_1003 rfl ?_
    refine mw_iload (i := 17) dL_keeps_1005 rfl ?_
    refine mw_iload (i := 25) dL_keeps_1007 rfl ?_
    refine mw_callSX dL_keeps_1009 mk_L_178 (hw) (by decide) (Nat.le_refl _) (Nat.le_refl _) rfl rfl (Nat.le_of_ble_eq_true rfl) (fun E9 h9 q9 => ?_) (fun v9 h9 q9 => ?_)
    · cases q9.1
    obtain ⟨e9, H1, rfl, hI⟩ := q9
    cases e9
    refine mw_bipush (v := -73) dL_keeps_1012 (by decide) ?_
    refine mw_icmp_ne (tgt := 1021) dL_keeps_1014 (by decide) (fun c9 => absurd c9 (by first | decide | exact (fun q => q rfl))) (fun _ => ?_)
    refine mw_iconst (v := 1) dL_keeps_1017 (by decide) ?_
    refine mw_goto (tgt := 1022) dL_keeps_1018 (by decide) ?_
    exact mw_ireturn dL_keeps_1022 ⟨_, rfl, rfl⟩ ⟨rfl, _, _, _, _, rfl, hI, hM⟩
  · rw [putM_ok hbig] at hsp
    have hno : mw_W mm_L_keeps 10 12 560 1049 (some (.ref 1) :: some (.int act) :: some (.int y) :: some (.ref 43) :: some (.ref 44) :: some (.ref 45) :: some (.ref 46) :: some (.ref 47) :: some (.ref 48) :: some (.ref 49) :: some (.ref 50) :: some (.ref 51) :: some (.ref 52) :: some (.ref 54) :: some (.int (lf)) :: some (.int (nI s0)) :: some (.int (nI m)) :: some (.int (nI (tg i))) :: some (.int (zKind g.2.1 s (nI (tg i)))) :: some (.int (lir (Pt g.2.1 s (nI (tg i))) (12 * m) L)) :: some (.int (nI p)) :: x21 :: x22 :: x23 :: x24 :: some (.int (nI b)) :: some (.int (nI cnt)) :: x27 :: x28 :: x29 :: x30 :: x31 :: x32 :: x33 :: x34 :: x35 :: x36 :: x37 :: x38 :: x39 :: x40 :: x41 :: []) [] (gl H A X) (lwP sc) := by
      have hw := w_append hI (nI m) 32 (nI b)
      rw [spl_app2 (by omega) hT (by rw [zK_0 zTag_32]; exact zHas_m1)] at hw
      refine mw_aload_n (i := 0) dL_keeps_1049 rfl rfl ?_
      refine mw_iload (i := 16) dL_keeps_1050 rfl ?_
      refine mw_bipush (v := 32) dL_keeps_1052 (by decide) ?_
      refine mw_iload (i := 25) dL_keeps_1054 rfl ?_
      refine mw_callSX dL_keeps_1056 mk_L_178 (hw) (by decide) (Nat.le_refl _) (Nat.le_refl _) rfl rfl (Nat.le_of_ble_eq_true rfl) (fun E9 h9 q9 => ?_) (fun v9 h9 q9 => ?_)
      · cases q9.1
      obtain ⟨e9, H1, rfl, hI⟩ := q9
      cases e9
      refine mw_bipush (v := -72) dL_keeps_1059 (by decide) ?_
      refine mw_icmp_ne (tgt := 1068) dL_keeps_1061 (by decide) (fun c9 => absurd c9 (by first | decide | exact (fun q => q rfl))) (fun _ => ?_)
      refine mw_iconst (v := 1) dL_keeps_1064 (by decide) ?_
      refine mw_goto (tgt := 1069) dL_keeps_1065 (by decide) ?_
      exact mw_ireturn dL_keeps_1069 ⟨_, rfl, rfl⟩ ⟨rfl, _, _, _, _, rfl, hI, hM⟩
    refine mw_bipush (v := 120) dL_keeps_997 (by decide) ?_
    refine mw_icmp_le (tgt := 1023) dL_keeps_999 (by decide) (fun _ => ?_) (fun c9 => absurd c9 (by first | decide | exact (fun q => q rfl) | ((try simp only [fa_lit]); first | exact cq_le (by omega) (by omega) | exact cq_nle (by omega) (by omega) | exact cq_lt (by omega) (by omega) | exact cq_nlt (by omega) (by omega) | exact cq_eq (by omega) (by omega) (by omega) | exact cq_neq (by omega))))
    by_cases h16 : cnt = 16
    · refine mw_iload (i := 26) dL_keeps_1023 rfl ?_
      refine mw_bipush (v := 16) dL_keeps_1025 (by decide) ?_
      refine mw_icmp_eq (tgt := 1049) dL_keeps_1027 (by decide) (fun _ => ?_) (fun c9 => absurd c9 (by first | decide | exact (fun q => q rfl) | ((try simp only [fa_lit]); first | exact cq_le (by omega) (by omega) | exact cq_nle (by omega) (by omega) | exact cq_lt (by omega) (by omega) | exact cq_nlt (by omega) (by omega) | exact cq_eq (by omega) (by omega) (by omega) | exact cq_neq (by omega))))
      exact hno
    · refine mw_iload (i := 26) dL_keeps_1023 rfl ?_
      refine mw_bipush (v := 16) dL_keeps_1025 (by decide) ?_
      refine mw_icmp_eq (tgt := 1049) dL_keeps_1027 (by decide) (fun c9 => absurd c9 (by first | decide | exact (fun q => q rfl) | ((try simp only [fa_lit]); first | exact cq_le (by omega) (by omega) | exact cq_nle (by omega) (by omega) | exact cq_lt (by omega) (by omega) | exact cq_nlt (by omega) (by omega) | exact cq_eq (by omega) (by omega) (by omega) | exact cq_neq (by omega)))) (fun _ => ?_)
      refine mw_aload_n (i := 3) dL_keeps_1030 rfl rfl ?_
      refine mw_aload (i := 5) dL_keeps_1031 rfl ?_
      refine mw_aload (i := 6) dL_keeps_1033 rfl ?_
      refine mw_aload (i := 7) dL_keeps_1035 rfl ?_
      refine mw_iload (i := 16) dL_keeps_1037 rfl ?_
      refine mw_iload (i := 17) dL_keeps_1039 rfl ?_
      refine mw_callSr dL_keeps_1041 mk_L_171 ((c_others hk hs hA ht.2 hm hok hR)) (by decide) (Nat.le_refl _) (Nat.le_refl _) rfl rfl (Nat.le_of_ble_eq_true rfl) ?_
      by_cases ho : (oth g.2.1 s (nI (tg i)) L).length = 12
      · refine mw_bipush (v := 12) dL_keeps_1044 (by decide) ?_
        refine mw_icmp_ne (tgt := 1070) dL_keeps_1046 (by decide) (fun c9 => absurd c9 (by first | decide | exact (fun q => q rfl) | ((try simp only [fa_lit]); first | exact cq_le (by omega) (by omega) | exact cq_nle (by omega) (by omega) | exact cq_lt (by omega) (by omega) | exact cq_nlt (by omega) (by omega) | exact cq_eq (by omega) (by omega) (by omega) | exact cq_neq (by omega)))) (fun _ => ?_)
        exact hno
      · refine mw_bipush (v := 12) dL_keeps_1044 (by decide) ?_
        refine mw_icmp_ne (tgt := 1070) dL_keeps_1046 (by decide) (fun _ => ?_) (fun c9 => absurd c9 (by first | decide | exact (fun q => q rfl) | ((try simp only [fa_lit]); first | exact cq_le (by omega) (by omega) | exact cq_nle (by omega) (by omega) | exact cq_lt (by omega) (by omega) | exact cq_nlt (by omega) (by omega) | exact cq_eq (by omega) (by omega) (by omega) | exact cq_neq (by omega))))
        have hbl : ∀ (V V' : Int64), (∀ j, j < 16 → (if j < 8 then lb V j else lb V' (j - 8)) = Y.getD j 0) → mw_W mm_L_keeps 10 12 560 1102 (some (.ref 1) :: some (.int act) :: some (.int y) :: some (.ref 43) :: some (.ref 44) :: some (.ref 45) :: some (.ref 46) :: some (.ref 47) :: some (.ref 48) :: some (.ref 49) :: some (.ref 50) :: some (.ref 51) :: some (.ref 52) :: some (.ref 54) :: some (.int (lf)) :: some (.int (nI s0)) :: some (.int (nI m)) :: some (.int (nI (tg i))) :: some (.int (zKind g.2.1 s (nI (tg i)))) :: some (.int (lir (Pt g.2.1 s (nI (tg i))) (12 * m) L)) :: some (.int (nI p)) :: x21 :: x22 :: x23 :: x24 :: some (.int (nI b)) :: some (.int (nI cnt)) :: some (.long V) :: none :: some (.long V') :: none :: x31 :: x32 :: x33 :: x34 :: x35 :: x36 :: x37 :: x38 :: x39 :: x40 :: x41 :: []) [] (gl H A X) (lwP sc) := by
          intro V V' hV
          by_cases h8 : cnt < 8
          · refine mw_iload (i := 26) dL_keeps_1102 rfl ?_
            refine mw_bipush (v := 8) dL_keeps_1104 (by decide) ?_
            refine mw_icmp_ge (tgt := 1126) dL_keeps_1106 (by decide) (fun c9 => absurd c9 (by first | decide | exact (fun q => q rfl) | ((try simp only [fa_lit]); first | exact cq_le (by omega) (by omega) | exact cq_nle (by omega) (by omega) | exact cq_lt (by omega) (by omega) | exact cq_nlt (by omega) (by omega) | exact cq_eq (by omega) (by omega) (by omega) | exact cq_neq (by omega)))) (fun _ => ?_)
            refine mw_lload (i := 27) dL_keeps_1109 rfl rfl ?_
            refine mw_iload (i := 25) dL_keeps_1111 rfl ?_
            refine mw_i2l dL_keeps_1113 rfl ?_
            refine mw_bipush (v := 8) dL_keeps_1114 (by decide) ?_
            refine mw_iload (i := 26) dL_keeps_1116 rfl ?_
            refine mw_imul dL_keeps_1118 ?_
            refine mw_lshl dL_keeps_1119 rfl ?_
            refine mw_lor dL_keeps_1120 ?_
            refine mw_lstore_27 dL_keeps_1121 (by decide) ?_
            refine mw_goto (tgt := 1143) dL_keeps_1123 (by decide) ?_
            refine kp_app_r hI hM hfr hs0 hm hT hi hp hTp hb hY (by omega) hxn hsp (fun j hj => ?_) (by omega)
            rw [oth_bytes, hY]
            have hV0 := hV cnt (by omega)
            rw [if_pos h8, getD_out (by omega)] at hV0
            have hVj := hV j hj
            by_cases hj8 : j < 8
            · rw [if_pos hj8] at hVj ⊢
              rw [lb_or V hb h8 hV0 j hj8, hVj]
            · rw [if_neg hj8] at hVj ⊢
              rw [hVj, if_neg (by omega)]
          · refine mw_iload (i := 26) dL_keeps_1102 rfl ?_
            refine mw_bipush (v := 8) dL_keeps_1104 (by decide) ?_
            refine mw_icmp_ge (tgt := 1126) dL_keeps_1106 (by decide) (fun _ => ?_) (fun c9 => absurd c9 (by first | decide | exact (fun q => q rfl) | ((try simp only [fa_lit]); first | exact cq_le (by omega) (by omega) | exact cq_nle (by omega) (by omega) | exact cq_lt (by omega) (by omega) | exact cq_nlt (by omega) (by omega) | exact cq_eq (by omega) (by omega) (by omega) | exact cq_neq (by omega))))
            refine mw_lload (i := 29) dL_keeps_1126 rfl rfl ?_
            refine mw_iload (i := 25) dL_keeps_1128 rfl ?_
            refine mw_i2l dL_keeps_1130 rfl ?_
            refine mw_bipush (v := 8) dL_keeps_1131 (by decide) ?_
            refine mw_iload (i := 26) dL_keeps_1133 rfl ?_
            refine mw_bipush (v := 8) dL_keeps_1135 (by decide) ?_
            refine mw_isub dL_keeps_1137 ?_
            rw [show nI cnt - 8 = nI (cnt - 8) from pk_sub (b := 8) (by omega)]
            refine mw_imul dL_keeps_1138 ?_
            refine mw_lshl dL_keeps_1139 rfl ?_
            refine mw_lor dL_keeps_1140 ?_
            refine mw_lstore_29 dL_keeps_1141 (by decide) ?_
            refine kp_app_r hI hM hfr hs0 hm hT hi hp hTp hb hY (by omega) hxn hsp (fun j hj => ?_) (by omega)
            rw [oth_bytes, hY]
            have hV0 := hV cnt (by omega)
            rw [if_neg h8, getD_out (by omega)] at hV0
            have hVj := hV j hj
            by_cases hj8 : j < 8
            · rw [if_pos hj8] at hVj ⊢
              rw [hVj, if_neg (by omega)]
            · rw [if_neg hj8] at hVj ⊢
              rw [lb_or V' hb (by omega) hV0 (j - 8) (by omega), hVj]
              by_cases ej : j = cnt
              · rw [if_pos ej, if_pos (by omega)]
              · rw [if_neg ej, if_neg (by omega)]
        rcases hat with ⟨hl, hY0⟩ | ⟨a, a1, a2, hl, -, hbt⟩
        · rw [hl]
          refine mw_iload (i := 19) dL_keeps_1070 rfl ?_
          refine mw_if_ge (tgt := 1079) dL_keeps_1072 (by decide) (fun c9 => absurd c9 (by first | decide | exact (fun q => q rfl))) (fun _ => ?_)
          refine mw_lconst (v := 0) dL_keeps_1075 (by decide) ?_
          refine mw_goto (tgt := 1084) dL_keeps_1076 (by decide) ?_
          refine mw_lstore_27 dL_keeps_1084 (by decide) ?_
          refine mw_iload (i := 19) dL_keeps_1086 rfl ?_
          refine mw_if_ge (tgt := 1095) dL_keeps_1088 (by decide) (fun c9 => absurd c9 (by first | decide | exact (fun q => q rfl))) (fun _ => ?_)
          refine mw_lconst (v := 0) dL_keeps_1091 (by decide) ?_
          refine mw_goto (tgt := 1100) dL_keeps_1092 (by decide) ?_
          refine mw_lstore_29 dL_keeps_1100 (by decide) ?_
          have h9 := hbl 0 0 (fun j hj => by rw [hY0, lb_0, lb_0]; split <;> rfl)
          rw [hl] at h9
          exact h9
        · rw [hl]
          refine mw_iload (i := 19) dL_keeps_1070 rfl ?_
          refine mw_if_ge (tgt := 1079) dL_keeps_1072 (by decide) (fun _ => ?_) (fun c9 => absurd c9 (cq_nle (a := 0) (Nat.zero_le _) (by omega)))
          refine mw_aload (i := 9) dL_keeps_1079 rfl ?_
          refine mw_iload (i := 19) dL_keeps_1081 rfl ?_
          refine mw_lald dL_keeps_1083 gl_6 (mw_ix rfl (by omega) (by decide)) ?_
          refine mw_lstore_27 dL_keeps_1084 (by decide) ?_
          refine mw_iload (i := 19) dL_keeps_1086 rfl ?_
          refine mw_if_ge (tgt := 1095) dL_keeps_1088 (by decide) (fun _ => ?_) (fun c9 => absurd c9 (cq_nle (a := 0) (Nat.zero_le _) (by omega)))
          refine mw_aload (i := 10) dL_keeps_1095 rfl ?_
          refine mw_iload (i := 19) dL_keeps_1097 rfl ?_
          refine mw_lald dL_keeps_1099 gl_7 (mw_ix rfl (by omega) (by decide)) ?_
          refine mw_lstore_29 dL_keeps_1100 (by decide) ?_
          have h9 := hbl (X 6 a) (X 7 a) hbt
          rw [hl] at h9
          exact h9
theorem kp_app_k (hI : cS sc g H A X) (hM : mR g A X) (hfr : frP g lf) (hs0 : s0 < g.1) (hm : m < 5) (hT : g.2.2.1 m = some (s, L)) (hi : i < 6) (hp : p < 5) (hTp : g.2.2.1 p = some (s2, L2)) {x26 x27 x28 x29 x30 x31 x32 x33 x34 x35 x36 x37 x38 x39 x40 x41 : Option Value} {x21 x22 x23 x24 : Option Value} {b : Nat} (hb : b < 256) : mw_W mm_L_keeps 10 12 560 899 (some (.ref 1) :: some (.int act) :: some (.int y) :: some (.ref 43) :: some (.ref 44) :: some (.ref 45) :: some (.ref 46) :: some (.ref 47) :: some (.ref 48) :: some (.ref 49) :: some (.ref 50) :: some (.ref 51) :: some (.ref 52) :: some (.ref 54) :: some (.int (lf)) :: some (.int (nI s0)) :: some (.int (nI m)) :: some (.int (nI (tg i))) :: some (.int (zKind g.2.1 s (nI (tg i)))) :: some (.int (lir (Pt g.2.1 s (nI (tg i))) (12 * m) L)) :: some (.int (nI p)) :: x21 :: x22 :: x23 :: x24 :: some (.int (nI b)) :: x26 :: x27 :: x28 :: x29 :: x30 :: x31 :: x32 :: x33 :: x34 :: x35 :: x36 :: x37 :: x38 :: x39 :: x40 :: x41 :: []) [] (gl H A X) (lwP sc) := by
  have hgok := cS_ok hI
  have hns4 := mR_ns hM
  have ht := tg_in hi
  obtain ⟨hk, hg0, hms, hmo, hg1, h64, htp, -⟩ := id hM
  obtain ⟨hs, hok, h120⟩ := hgok.2.2.2.1 m s L (by omega) hT
  obtain ⟨hA, hR⟩ := (hms m hm).2 s L hT
  have h12 := hR.2.1
  have hsM := sM_at (g := g) (by omega) hT
  have hsS := sS_at hgok.1 hs0
  have hcl : (nI (tg i)).toNatClampNeg = tg i := nI_clamp (by omega)
  have hbad := fun h => kp_app_bad (b := b) (x21 := x21) (x22 := x22) (x23 := x23) (x24 := x24) (x25 := none) (x26 := x26) (x27 := x27) (x28 := x28) (x29 := x29) (x30 := x30) (x31 := x31) (x32 := x32) (x33 := x33) (x34 := x34) (x35 := x35) (x36 := x36) (x37 := x37) (x38 := x38) (x39 := x39) (x40 := x40) (x41 := x41) (act := act) (y := y) hI hM hfr hs0 hm hT hi hp hTp hb h
  rcases kR_cases hk hs ht.1 ht.2 with hz | ⟨κ, hκ, hz, -⟩
  · rw [hz] at hbad ⊢
    refine mw_iload (i := 18) dL_keeps_899 rfl ?_
    refine mw_iconst (v := 3) dL_keeps_901 (by decide) ?_
    refine mw_icmp_ge (tgt := 941) dL_keeps_902 (by decide) (fun c9 => absurd c9 (by first | decide | exact (fun q => q rfl))) (fun _ => ?_)
    exact hbad zHas_m1
  · by_cases h2 : κ ≤ 2
    · rw [hz] at hbad ⊢
      refine mw_iload (i := 18) dL_keeps_899 rfl ?_
      refine mw_iconst (v := 3) dL_keeps_901 (by decide) ?_
      refine mw_icmp_ge (tgt := 941) dL_keeps_902 (by decide) (fun c9 => absurd c9 (by first | decide | exact (fun q => q rfl) | ((try simp only [fa_lit]); first | exact cq_le (by omega) (by omega) | exact cq_nle (by omega) (by omega) | exact cq_lt (by omega) (by omega) | exact cq_nlt (by omega) (by omega) | exact cq_eq (by omega) (by omega) (by omega) | exact cq_neq (by omega)))) (fun _ => ?_)
      exact hbad (by rw [zHas_k hκ, if_pos h2])
    · have hzh : ¬ zHas (zKind g.2.1 s (nI (tg i))) = 0 := by rw [hz, zHas_k hκ, if_neg h2]; decide
      obtain ⟨b1, b2, b3⟩ := last_bytes (m := m) ht.2 hzh hok hR
      have hsp := spl_app (t := nI (tg i)) hb (by omega : m < 12) hT hzh
      rw [hcl] at hsp
      generalize lastB g.2.1 s (nI (tg i)) L = Y at b1 b2 b3 hsp
      have hlen : (Y ++ [b]).length = Y.length + 1 := by rw [List.length_append, List.length_singleton]
      rw [hlen] at hsp
      have hgo := kp_app_c (b := b) (cnt := Y.length) (x21 := x21) (x22 := x22) (x23 := x23) (x24 := x24) (x27 := x27) (x28 := x28) (x29 := x29) (x30 := x30) (x31 := x31) (x32 := x32) (x33 := x33) (x34 := x34) (x35 := x35) (x36 := x36) (x37 := x37) (x38 := x38) (x39 := x39) (x40 := x40) (x41 := x41) (act := act) (y := y) (lf := lf) hI hM hfr hs0 hm hT hi hp hTp hb hzh rfl b1 b2 rfl hsp b3
      rw [hz] at hgo ⊢
      rcases b3 with ⟨hl, hY0⟩ | ⟨a, a1, a2, hl, h5, -⟩
      · rw [hl, hY0] at hgo
        rw [hl]
        refine mw_iload (i := 18) dL_keeps_899 rfl ?_
        refine mw_iconst (v := 3) dL_keeps_901 (by decide) ?_
        refine mw_icmp_ge (tgt := 941) dL_keeps_902 (by decide) (fun _ => ?_) (fun c9 => absurd c9 (by first | decide | exact (fun q => q rfl) | ((try simp only [fa_lit]); first | exact cq_le (by omega) (by omega) | exact cq_nle (by omega) (by omega) | exact cq_lt (by omega) (by omega) | exact cq_nlt (by omega) (by omega) | exact cq_eq (by omega) (by omega) (by omega) | exact cq_neq (by omega))))
        refine mw_iload (i := 19) dL_keeps_941 rfl ?_
        refine mw_if_ge (tgt := 950) dL_keeps_943 (by decide) (fun c9 => absurd c9 (by first | decide | exact (fun q => q rfl))) (fun _ => ?_)
        refine mw_iconst (v := 0) dL_keeps_946 (by decide) ?_
        refine mw_goto (tgt := 955) dL_keeps_947 (by decide) ?_
        refine mw_istore_26 dL_keeps_955 (by decide) ?_
        exact hgo
      · rw [hl] at hgo ⊢
        refine mw_iload (i := 18) dL_keeps_899 rfl ?_
        refine mw_iconst (v := 3) dL_keeps_901 (by decide) ?_
        refine mw_icmp_ge (tgt := 941) dL_keeps_902 (by decide) (fun _ => ?_) (fun c9 => absurd c9 (by first | decide | exact (fun q => q rfl) | ((try simp only [fa_lit]); first | exact cq_le (by omega) (by omega) | exact cq_nle (by omega) (by omega) | exact cq_lt (by omega) (by omega) | exact cq_nlt (by omega) (by omega) | exact cq_eq (by omega) (by omega) (by omega) | exact cq_neq (by omega))))
        refine mw_iload (i := 19) dL_keeps_941 rfl ?_
        refine mw_if_ge (tgt := 950) dL_keeps_943 (by decide) (fun _ => ?_) (fun c9 => absurd c9 (cq_nle (a := 0) (Nat.zero_le _) (by omega)))
        refine mw_aload (i := 8) dL_keeps_950 rfl ?_
        refine mw_iload (i := 19) dL_keeps_952 rfl ?_
        refine mw_iald dL_keeps_954 gl_5 (mw_ix rfl (by omega) (by decide)) ?_
        rw [h5]
        refine mw_istore_26 dL_keeps_955 (by decide) ?_
        exact hgo
theorem kp_append (hI : cS sc g H A X) (hM : mR g A X) (hfr : frP g lf) (hs0 : s0 < g.1) (hm : m < 5) (hT : g.2.2.1 m = some (s, L)) (hi : i < 6) (hp : p < 5) (hTp : g.2.2.1 p = some (s2, L2)) {x21 x22 x23 x24 x25 x26 x27 x28 x29 x30 x31 x32 x33 x34 x35 x36 x37 x38 x39 x40 x41 : Option Value} : mw_W mm_L_keeps 10 12 560 870 (some (.ref 1) :: some (.int act) :: some (.int y) :: some (.ref 43) :: some (.ref 44) :: some (.ref 45) :: some (.ref 46) :: some (.ref 47) :: some (.ref 48) :: some (.ref 49) :: some (.ref 50) :: some (.ref 51) :: some (.ref 52) :: some (.ref 54) :: some (.int (lf)) :: some (.int (nI s0)) :: some (.int (nI m)) :: some (.int (nI (tg i))) :: some (.int (zKind g.2.1 s (nI (tg i)))) :: some (.int (lir (Pt g.2.1 s (nI (tg i))) (12 * m) L)) :: some (.int (nI p)) :: x21 :: x22 :: x23 :: x24 :: x25 :: x26 :: x27 :: x28 :: x29 :: x30 :: x31 :: x32 :: x33 :: x34 :: x35 :: x36 :: x37 :: x38 :: x39 :: x40 :: x41 :: []) [] (gl H A X) (lwP sc) := by
  by_cases e0 : y &&& 49152 = 0
  · refine mw_iload_n (i := 2) dL_keeps_870 rfl rfl ?_
    refine mw_ldc dL_keeps_871 kn_L_162 ?_
    refine mw_iand dL_keeps_873 ?_
    refine mw_if_ne (tgt := 888) dL_keeps_874 (by decide) (fun c9 => absurd c9 (fun z => z e0)) (fun _ => ?_)
    refine mw_iload_n (i := 2) dL_keeps_877 rfl rfl ?_
    refine mw_bipush (v := 16) dL_keeps_878 (by decide) ?_
    refine mw_ishr dL_keeps_880 ?_
    refine mw_sipush (v := 255) dL_keeps_881 (by decide) ?_
    refine mw_iand dL_keeps_884 ?_
    rw [pk_and _ (m := 255) 8 (by decide)]
    refine mw_goto (tgt := 897) dL_keeps_885 (by decide) ?_
    refine mw_istore_25 dL_keeps_897 (by decide) ?_
    exact kp_app_k hI hM hfr hs0 hm hT hi hp hTp (Nat.mod_lt _ (by decide))
  · refine mw_iload_n (i := 2) dL_keeps_870 rfl rfl ?_
    refine mw_ldc dL_keeps_871 kn_L_162 ?_
    refine mw_iand dL_keeps_873 ?_
    refine mw_if_ne (tgt := 888) dL_keeps_874 (by decide) (fun _ => ?_) (fun c9 => absurd c9 e0)
    refine mw_iload_n (i := 2) dL_keeps_888 rfl rfl ?_
    refine mw_bipush (v := 16) dL_keeps_889 (by decide) ?_
    refine mw_ishr dL_keeps_891 ?_
    refine mw_bipush (v := 40) dL_keeps_892 (by decide) ?_
    refine mw_callSr dL_keeps_894 mk_L_129 ((c_low _ (n := 40) (by decide) (by decide))) (by decide) (Nat.le_refl _) (Nat.le_refl _) rfl rfl (Nat.le_of_ble_eq_true rfl) ?_
    refine mw_istore_25 dL_keeps_897 (by decide) ?_
    exact kp_app_k hI hM hfr hs0 hm hT hi hp hTp (Nat.lt_trans (Nat.mod_lt _ (by decide)) (by decide))
end K3
