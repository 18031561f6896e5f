/-! the class's calls: messages changed (class side) -/
/-- the end of a call without an answer -/
def cPv (H : mw_H) (es : List String) (a : mA) : mw_P := fun v H' => yG H H' ∧ (∃ sa ma, cC a.2.2 H' sa ma) ∧ ((a.1 = 0 ∧ v = .inl none) ∨ ∃ k, k < es.length ∧ a.1 = nI (k + 1) ∧ v = .inr (es.getD k ""))
theorem take_ga {L : List af} {n : Nat} (h : n < L.length) : L.take (n + 1) = L.take n ++ [ga L n] := by
  unfold ga
  rw [List.take_succ, List.getD_eq_getElem?_getD, List.getElem?_eq_getElem h]
  rfl
theorem enum_le (t y v : Nat) : (enum t y v).length ≤ 10 := by
  unfold enum
  rw [List.length_append]
  have h1 := eg_len 4 (8 * t + y)
  have h2 := eg_len 4 v
  have h3 : (four v).length = 4 := rfl
  unfold egr
  by_cases e : y = 5
  · rw [if_pos e]; omega
  · rw [if_neg e]; omega
section CE
variable {g : mS} {H H0 : mw_H} {sa ma : Nat → Nat}
theorem cPv_x {H' : mw_H} {es : List String} {r : Int32} {x : va_E} (hC : cC g H' sa ma) (hw : wfH H') (hG : yG H H') (k : Nat) (hk : k < es.length) {E : String} (hE : es.getD k "" = E) : cPv H es (nI (k + 1), r, g) (.inr E) (mw_n H' x) := by
  obtain ⟨h1, h2, h3⟩ := cP_x (r := r) (x := x) hC hw hG k hk hE
  refine ⟨h1, h2, Or.inr ?_⟩
  rcases h3 with ⟨-, z⟩ | z
  · cases z
  · exact z
theorem lp_dk {s src cs ck cy cd cp sc ns n0 : Nat} {X : List Nat} {L : List af} {E : Nat → Nat} {pb pa : Int32} {K : Nat → Nat → Int32} (hK : okK K ns) (hs : s < ns) (hS : isS H K sa s sc ck cy cd cp) (hI : isF H 10 src X L E pb pa) (hB : isB H src cs X) (h1 : mw_g H 1 = some (xV n0)) (hD0 : isB H 41 42 []) (n1 : src ≠ 41) (n2 : cs ≠ 42) (n3 : 42 < sc ∧ 42 < ck ∧ 42 < cy ∧ 42 < cd ∧ 42 < cp) (hl : (eL L).length ≤ 256) (t : Int32) : ∀ (r n : Nat) (H' : mw_H), n + r = L.length → yF [41, 42] H H' → isB H' 41 42 (eL (oth K s t (L.take n))) →
    mw_W mm_X6_draftWithoutKnown 5 0 0 11 [some (.ref 1), some (.ref 10), some (.ref sc), some (.int t), some (.int (nI n))] [] H' (fun v H' => v = .inl none ∧ yF [41, 42] H H' ∧ isB H' 41 42 (eL (oth K s t L))) := by
  intro r
  induction r with
  | zero =>
    intro n H' hn hF hD
    have hn : n = L.length := hn
    have hI' := isF_T hI hD0 hF
    have hI0 := hI'
    obtain ⟨h60, nx, lm, f1, f2, f3, f4, h_p1, -, -⟩ := hI'
    refine mw_iload (i := 4) dX6_draftWithoutKnown_11 rfl ?_
    refine mw_aload_n (i := 1) dX6_draftWithoutKnown_13 rfl rfl ?_
    refine mw_callVr dX6_draftWithoutKnown_14 mk_X6_134 h_p1 rfl (y_fcount hI0) (by decide) (Nat.le_refl _) (Nat.le_refl _) rfl rfl (Nat.le_of_ble_eq_true rfl) ?_
    refine mw_icmp_ge (tgt := 56) dX6_draftWithoutKnown_17 (by decide) (fun _ => ?_) (fun c9 => absurd c9 (fun z => z (nI_le (by omega) (by omega))))
    rw [hn, List.take_length] at hD
    exact mw_return dX6_draftWithoutKnown_56 rfl ⟨rfl, hF, hD⟩
  | succ r ih =>
    intro n H' hn hF hD
    have hnl : n < L.length := by omega
    have hI' := isF_T hI hD0 hF
    have hI0 := hI'
    have hB' := isB_T hB hD0 n1 n2 hF
    have hS' := isS_F hS hF (by simp; omega) (by simp; omega) (by simp; omega) (by simp; omega) (by simp; omega)
    obtain ⟨h60, nx, lm, f1, f2, f3, f4, h_p1, -, -⟩ := hI'
    have h_this := hF.g (b := 1) (by simp) h1
    have h_this_draft := hD.1
    have hle := eL_take L (n + 1)
    have hle2 := fil_le (fun x => !Pt K s t x) (L.take (n + 1))
    have ho : oth K s t (L.take (n + 1)) = oth K s t (L.take n) ++ [ga L n].filter (fun x => !Pt K s t x) := by
      unfold oth
      rw [take_ga hnl, List.filter_append]
    have hw : Pt K s t (ga L n) = false → mw_W mm_X6_draftWithoutKnown 5 0 0 40 [some (.ref 1), some (.ref 10), some (.ref sc), some (.int t), some (.int (nI n))] [] H' (fun v H' => v = .inl none ∧ yF [41, 42] H H' ∧ isB H' 41 42 (eL (oth K s t L))) := by
      intro hP
      have ho2 : eL (oth K s t (L.take (n + 1))) = eL (oth K s t (L.take n)) ++ ef (ga L n) := by
        rw [ho, List.filter_cons, if_pos (by rw [hP]; rfl), eL_app, eL_cons]
        show _ ++ (_ ++ []) = _
        rw [List.append_nil]
      have hle3 : (eL (oth K s t (L.take (n + 1)))).length ≤ (eL (L.take (n + 1))).length := hle2
      rw [ho2, List.length_append] at hle3
      refine mw_aload_n (i := 1) dX6_draftWithoutKnown_40 rfl rfl ?_
      refine mw_aload_n (i := 0) dX6_draftWithoutKnown_41 rfl rfl ?_
      refine mw_get dX6_draftWithoutKnown_42 fk_X6_58 h_this rfl ?_
      refine mw_iload (i := 4) dX6_draftWithoutKnown_45 rfl ?_
      refine mw_callV dX6_draftWithoutKnown_47 mk_X6_215 h_p1 rfl (y_fwriteTo hI0 hB' hD n1 n2 hnl (by omega)) (by decide) (Nat.le_refl _) (Nat.le_refl _) rfl rfl (Nat.le_of_ble_eq_true rfl) (fun E9 h9 q9 => ?_) (fun v9 h9 q9 => ?_)
      · cases q9.1
      obtain ⟨e9, u1, u2⟩ := q9
      cases e9
      refine mw_iinc_4 dX6_draftWithoutKnown_50 (by decide) rfl ?_
      refine mw_goto (tgt := 11) dX6_draftWithoutKnown_53 (by decide) ?_
      rw [show nI n + Int32.ofInt 1 = nI (n + 1) from nI_1 n]
      rw [← ho2] at u1
      exact ih (n + 1) h9 (by omega) (hF.tr u2) u1
    refine mw_iload (i := 4) dX6_draftWithoutKnown_11 rfl ?_
    refine mw_aload_n (i := 1) dX6_draftWithoutKnown_13 rfl rfl ?_
    refine mw_callVr dX6_draftWithoutKnown_14 mk_X6_134 h_p1 rfl (y_fcount hI0) (by decide) (Nat.le_refl _) (Nat.le_refl _) rfl rfl (Nat.le_of_ble_eq_true rfl) ?_
    refine mw_icmp_ge (tgt := 56) dX6_draftWithoutKnown_17 (by decide) (fun c9 => absurd c9 (nI_ge hnl (by omega))) (fun _ => ?_)
    refine mw_aload_n (i := 1) dX6_draftWithoutKnown_20 rfl rfl ?_
    refine mw_iload (i := 4) dX6_draftWithoutKnown_21 rfl ?_
    refine mw_callVr dX6_draftWithoutKnown_23 mk_X6_212 h_p1 rfl (y_tagAt hI0 hnl) (by decide) (Nat.le_refl _) (Nat.le_refl _) rfl rfl (Nat.le_of_ble_eq_true rfl) ?_
    refine mw_iload_n (i := 3) dX6_draftWithoutKnown_26 rfl rfl ?_
    by_cases ht : nI (ga L n).1 = t
    · refine mw_icmp_ne (tgt := 40) dX6_draftWithoutKnown_27 (by decide) (fun c9 => absurd c9 (fun z => z ht)) (fun _ => ?_)
      refine mw_aload_n (i := 1) dX6_draftWithoutKnown_30 rfl rfl ?_
      refine mw_aload_n (i := 2) dX6_draftWithoutKnown_31 rfl rfl ?_
      refine mw_iload (i := 4) dX6_draftWithoutKnown_32 rfl ?_
      refine mw_callVr dX6_draftWithoutKnown_34 mk_X6_253 h_p1 rfl (y_isKnown hK hs hS' hI0 hnl) (by decide) (Nat.le_refl _) (Nat.le_refl _) rfl rfl (Nat.le_of_ble_eq_true rfl) ?_
      cases hkn : knb K s (ga L n) with
      | false =>
        refine mw_if_ne (tgt := 50) dX6_draftWithoutKnown_37 (by decide) (fun c9 => absurd c9 (by first | decide | (rw [pk_us]; decide))) (fun _ => ?_)
        exact hw (by unfold Pt; rw [hkn, Bool.and_false])
      | true =>
        have hP : Pt K s t (ga L n) = true := by unfold Pt; rw [decide_eq_true ht, hkn]; rfl
        refine mw_if_ne (tgt := 50) dX6_draftWithoutKnown_37 (by decide) (fun _ => ?_) (fun c9 => absurd c9 (by first | decide | (rw [pk_us]; decide)))
        refine mw_iinc_4 dX6_draftWithoutKnown_50 (by decide) rfl ?_
        refine mw_goto (tgt := 11) dX6_draftWithoutKnown_53 (by decide) ?_
        rw [show nI n + Int32.ofInt 1 = nI (n + 1) from nI_1 n]
        refine ih (n + 1) H' (by omega) hF ?_
        rw [ho, List.filter_cons, if_neg (by rw [hP]; decide)]
        show isB H' 41 42 (eL (oth K s t (L.take n) ++ []))
        rw [List.append_nil]
        exact hD
    · refine mw_icmp_ne (tgt := 40) dX6_draftWithoutKnown_27 (by decide) (fun _ => ?_) (fun c9 => absurd c9 ht)
      exact hw (by unfold Pt; rw [decide_eq_false ht]; rfl)
theorem y_draftWithoutKnown {s src cs : Nat} {X : List Nat} {L : List af} {E : Nat → Nat} {pb pa : Int32} (hC : cC g H sa ma) (hs : s < g.1) (hI : isF H 10 src X L E pb pa) (hB : isB H src cs X) (n1 : src ≠ 41) (n2 : cs ≠ 42) (hl : (eL L).length ≤ 256) (t : Int32) : mw_Con mm_X6_draftWithoutKnown 5 0 0 [.ref 1, .ref 10, .ref (sa s), .int t] H (fun v H' => v = .inl none ∧ yF [41, 42] H H' ∧ isB H' 41 42 (eL (oth g.2.1 s t L))) := by
  have h_this := cC_x hC
  have h56 := hC.2.1.2.2.2.1 s hs
  obtain ⟨X7, hD⟩ := hC.2.2.2.2.2.2.2.2.2.2
  have h_this_draft := hD.1
  refine gm_con pl_X6 rfl rfl (Nat.le_of_ble_eq_true rfl) rfl ?_
  refine mw_aload_n (i := 0) dX6_draftWithoutKnown_0 rfl rfl ?_
  refine mw_get dX6_draftWithoutKnown_1 fk_X6_58 h_this rfl ?_
  refine mw_iconst (v := 0) dX6_draftWithoutKnown_4 (by decide) ?_
  refine mw_callV dX6_draftWithoutKnown_5 mk_X6_209 h_this_draft rfl (y_keep hD (k := 0) (Nat.zero_le _)) (by decide) (Nat.le_refl _) (Nat.le_refl _) rfl rfl (Nat.le_of_ble_eq_true rfl) (fun E9 h9 q9 => ?_) (fun v9 h9 q9 => ?_)
  · cases q9.1
  obtain ⟨e9, u1, u2⟩ := q9
  cases e9
  have u1 : isB h9 41 42 [] := u1
  refine mw_iconst (v := 0) dX6_draftWithoutKnown_8 (by decide) ?_
  refine mw_istore_4 dX6_draftWithoutKnown_9 (by decide) ?_
  refine mw_post (fun v h' z => ?_) (lp_dk (H := h9) (cC_K hC) hs (isS_F (cC_sc hC hs) u2 (by simp; omega) (by simp; omega) (by simp; omega) (by simp; omega) (by simp; omega)) (isF_T hI hD u2) (isB_T hB hD n1 n2 u2) (u2.g (by simp) h_this) u1 n1 n2 (by omega) hl t L.length 0 h9 (Nat.zero_add _) yF.rf u1)
  exact ⟨z.1, u2.tr z.2.1, z.2.2⟩
/-- the class's state with a draft -/
theorem cC_draft {H' : mw_H} {Y : List Nat} (hC : cC g H sa ma) (hF : yF [41, 42] H H') (hB : isB H' 41 42 Y) : cC g H' sa ma :=
  cC_scr hC hF.M (by decide) (cW_M hC.2.2.2.2 hF.M (Or.inl (by decide)) (Or.inl (by decide)) (Or.inl (by decide)) (Or.inl (by decide)) (Or.inl (by decide)) (Or.inl (by decide)) (Or.inr ⟨_, hB⟩))
/-- a message has other fields -/
theorem cC_row {H' : mw_H} {m s : Nat} {L0 L : List af} (hC : cC g H sa ma) (hm : m < 12) (hT : g.2.2.1 m = some (s, L0)) (hF : yF [ma m + 1, ma m + 2] H H') (hB : isB H' (ma m + 1) (ma m + 2) (eL L)) (hok : ∀ x ∈ L, okf x) (hl : (eL L).length ≤ 120) : cC (gSet g m s L) H' sa ma := by
  have hTm : g.2.2.1 m ≠ none := by rw [hT]; exact fun z => by cases z
  have h56 := hC.2.2.1.2.2.1 m hm hTm
  have hlow : ∀ b ∈ [ma m + 1, ma m + 2], 54 < b := fun b hb => by
    simp only [List.mem_cons, List.not_mem_nil, or_false] at hb
    omega
  have hne : ∀ b, b ≤ 54 → b ∉ [ma m + 1, ma m + 2] := fun b hb z => by have := hlow b z; omega
  obtain ⟨c0, c1, ⟨⟨fM, c2, c2'⟩, c3, c4, c5, c6⟩, d1, d2⟩ := hC
  have hTf : ∀ j, j ≠ m → (gSet g m s L).2.2.1 j = g.2.2.1 j := fun j hj => if_neg hj
  have hTn : (gSet g m s L).2.2.1 m = some (s, L) := if_pos rfl
  have hN : ∀ j, (gSet g m s L).2.2.1 j ≠ none → g.2.2.1 j ≠ none := fun j h => by
    by_cases e : j = m
    · rw [e]; exact hTm
    · rw [hTf j e] at h; exact h
  refine ⟨okS_set c0 (c0.2.2.2.1 m s L0 hm hT).1 hok hl, cSc_M c1 hF.M (fun b hb => ?_), ⟨⟨fM, hF.g (hne 3 (by decide)) c2, fun j hj => ?_⟩, fun m' s' L' hm' hT' => ?_, fun m' hm' hT' => c4 m' hm' (hN _ hT'), fun m1 m2 h1 h2 t1 t2 => c5 m1 m2 h1 h2 (hN _ t1) (hN _ t2), fun s' m' hs' hm' hT' => c6 s' m' hs' hm' (hN _ hT')⟩, isB_F d1 hF (hne 4 (by decide)) (hne 5 (by decide)), ?_⟩
  · have hb2 := hlow b hb
    refine ⟨by omega, by omega, fun s' hs' => ?_⟩
    have := c6 s' m hs' hm hTm
    simp only [List.mem_cons, List.not_mem_nil, or_false] at hb
    omega
  · by_cases e : j = m
    · rw [e, hTn, c2' m hm, hT]; rfl
    · rw [hTf j e]; exact c2' j hj
  · by_cases e : m' = m
    · subst e
      rw [hTn] at hT'
      cases hT'
      exact ⟨hF.g (by simp) (c3 m' s L0 hm' hT).1, hB⟩
    · rw [hTf m' e] at hT'
      refine cMg_M (c3 m' s' L' hm' hT') hF.M (fun b hb => ?_)
      have := c5 m' m hm' hm (by rw [hT']; exact fun z => by cases z) hTm e
      simp only [List.mem_cons, List.not_mem_nil, or_false] at hb
      omega
  · exact cW_M d2 hF.M (Or.inl (fun b hb => by have := hlow b hb; omega)) (Or.inl (fun b hb => by have := hlow b hb; omega)) (Or.inl (fun b hb => by have := hlow b hb; omega)) (Or.inl (fun b hb => by have := hlow b hb; omega)) (Or.inl (fun b hb => by have := hlow b hb; omega)) (Or.inl (fun b hb => by have := hlow b hb; omega)) (Or.inl (fun b hb => by have := hlow b hb; omega))
theorem row_G {H' : mw_H} {m s : Nat} {L0 : List af} (hC : cC g H sa ma) (hm : m < 12) (hT : g.2.2.1 m = some (s, L0)) (hF : yF [ma m + 1, ma m + 2] H H') : yG H H' := by
  have h56 := hC.2.2.1.2.2.1 m hm (by rw [hT]; exact fun z => by cases z)
  exact hF.M.G (fun b hb => by simp only [List.mem_cons, List.not_mem_nil, or_false] at hb; omega)
/-- the draft becomes the message's row, or weighs too much -/
theorem y_takeDraft0 {m s : Nat} {L0 : List af} {Y : List Nat} (hC : cC g H sa ma) (hm : m < 12) (hT : g.2.2.1 m = some (s, L0)) (hD : isB H 41 42 Y) (hl : 120 < Y.length) : mw_Con mm_X6_takeDraft 6 1 6 [.ref 1, .ref (ma m)] H (zX H eIS 8) := by
  have h_this := cC_x hC
  have h_this_draft := hD.1
  have h256 := hD.2.1
  refine gm_con pl_X6 rfl rfl (Nat.le_of_ble_eq_true rfl) rfl ?_
  refine mw_aload_n (i := 0) dX6_takeDraft_0 rfl rfl ?_
  refine mw_get dX6_takeDraft_1 fk_X6_58 h_this rfl ?_
  refine mw_callVr dX6_takeDraft_4 mk_X6_208 h_this_draft rfl (y_count hD) (by decide) (Nat.le_refl _) (Nat.le_refl _) rfl rfl (Nat.le_of_ble_eq_true rfl) ?_
  refine mw_bipush (v := 120) dX6_takeDraft_7 (by decide) ?_
  refine mw_icmp_le (tgt := 23) dX6_takeDraft_9 (by decide) (fun c9 => absurd c9 (nI_ge (a := 120) hl (by omega))) (fun _ => ?_)
  refine mw_throwW th_X6_65_315_69 dX6_takeDraft_12 dX6_takeDraft_15 dX6_takeDraft_16 dX6_takeDraft_19 dX6_takeDraft_22 rfl (by decide) (by decide) (by decide) (Nat.le_of_ble_eq_true rfl) ⟨rfl, rfl⟩
theorem y_takeDraft1 {m s : Nat} {L0 L : List af} (hC : cC g H sa ma) (hm : m < 12) (hT : g.2.2.1 m = some (s, L0)) (hD : isB H 41 42 (eL L)) (hl : (eL L).length ≤ 120) (hok : ∀ x ∈ L, okf x) : mw_Con mm_X6_takeDraft 6 0 0 [.ref 1, .ref (ma m)] H (fun v H' => v = .inl none ∧ yF [ma m + 1, ma m + 2] H H' ∧ cC (gSet g m s L) H' sa ma) := by
  have h_this := cC_x hC
  have h_this_draft := hD.1
  obtain ⟨h_p1, hB⟩ := cC_me hC hm hT
  have h_p1_row := hB.1
  have h56 := hC.2.2.1.2.2.1 m hm (by rw [hT]; exact fun z => by cases z)
  refine gm_con pl_X6 rfl rfl (Nat.le_of_ble_eq_true rfl) rfl ?_
  refine mw_aload_n (i := 0) dX6_takeDraft_0 rfl rfl ?_
  refine mw_get dX6_takeDraft_1 fk_X6_58 h_this rfl ?_
  refine mw_callVr dX6_takeDraft_4 mk_X6_208 h_this_draft rfl (y_count hD) (by decide) (Nat.le_refl _) (Nat.le_refl _) rfl rfl (Nat.le_of_ble_eq_true rfl) ?_
  refine mw_bipush (v := 120) dX6_takeDraft_7 (by decide) ?_
  refine mw_icmp_le (tgt := 23) dX6_takeDraft_9 (by decide) (fun _ => ?_) (fun c9 => absurd c9 (fun z => z (nI_le (b := 120) hl (by decide))))
  refine mw_aload_n (i := 1) dX6_takeDraft_23 rfl rfl ?_
  refine mw_get dX6_takeDraft_24 fk_X6_123 h_p1 rfl ?_
  refine mw_aload_n (i := 0) dX6_takeDraft_27 rfl rfl ?_
  refine mw_get dX6_takeDraft_28 fk_X6_58 h_this rfl ?_
  refine mw_callV dX6_takeDraft_31 mk_X6_126 h_p1_row rfl (y_replaceBy hB hD (by omega) (by omega)) (by decide) (Nat.le_refl _) (Nat.le_refl _) rfl rfl (Nat.le_of_ble_eq_true rfl) (fun E9 h9 q9 => ?_) (fun v9 h9 q9 => ?_)
  · cases q9.1
  obtain ⟨e9, u1, u2⟩ := q9
  cases e9
  exact mw_return dX6_takeDraft_34 rfl ⟨rfl, u2, cC_row hC hm hT u2 u1 hok hl⟩
theorem oth_le (K : Nat → Nat → Int32) (s : Nat) (t : Int32) (L : List af) : (eL (oth K s t L)).length ≤ (eL L).length := fil_le _ L
theorem eL_snoc (L : List af) (x : af) : eL (L ++ [x]) = eL L ++ ef x := by
  rw [eL_app, eL_cons]
  show _ ++ (_ ++ []) = _
  rw [List.append_nil]
theorem ok_snoc {L : List af} {x : af} (h : ∀ z ∈ L, okf z) (hx : okf x) : ∀ z ∈ L ++ [x], okf z := fun z hz => by
  rcases List.mem_append.mp hz with hz | hz
  · exact h z hz
  · rw [List.mem_singleton] at hz
    rw [hz]; exact hx
theorem k_set (hC : cC g H sa ma) (m t v : Int32) : mw_Con mm_X6_set 7 1 6 [.ref 1, .int m, .int t, .int v] H (cPv H [eIO, eIA, eIS] (sp_set g m t v)) := by
  refine gm_con pl_X6 rfl rfl (Nat.le_of_ble_eq_true rfl) rfl ?_
  unfold sp_set
  refine mw_wf (fun hw => ?_)
  have h_this := cC_x hC
  cases hs : sM g m with
  | none =>
    refine mw_aload_n (i := 0) dX6_set_0 rfl rfl ?_
    refine mw_iload_n (i := 1) dX6_set_1 rfl rfl ?_
    refine mw_callV dX6_set_2 mk_X6_119 h_this rfl (y_mA0 hC hs) (by decide) (Nat.le_refl _) (Nat.le_refl _) rfl rfl (Nat.le_of_ble_eq_true rfl) (fun E9 h9 q9 => ?_) (fun v9 h9 q9 => ?_)
    · obtain ⟨e9, rfl⟩ := q9
      cases e9
      exact mw_out rfl (cPv_x hC hw yG.rf 0 (by decide) rfl)
    · cases q9.1
  | some q =>
    obtain ⟨m', s, L⟩ := q
    obtain ⟨hm, rfl, hT⟩ := sM_in hs
    obtain ⟨hsn, o2, o3⟩ := cC_ok hC hm hT
    have h56 := hC.2.2.1.2.2.1 _ hm (by rw [hT]; exact fun z => by cases z)
    have h_r2 := (cC_me hC hm hT).1
    dsimp only
    by_cases hi : zInt (zKind g.2.1 s t) = 0
    · rw [if_pos hi]
      refine mw_aload_n (i := 0) dX6_set_0 rfl rfl ?_
      refine mw_iload_n (i := 1) dX6_set_1 rfl rfl ?_
      refine mw_callVr dX6_set_2 mk_X6_119 h_this rfl (y_mA1 hC hs) (by decide) (Nat.le_refl _) (Nat.le_refl _) rfl rfl (Nat.le_of_ble_eq_true rfl) ?_
      refine mw_astore_4 dX6_set_5 (by decide) ?_
      refine mw_aload (i := 4) dX6_set_7 rfl ?_
      refine mw_get dX6_set_9 fk_X6_141 h_r2 rfl ?_
      refine mw_iload_n (i := 2) dX6_set_12 rfl rfl ?_
      refine mw_callS dX6_set_13 mk_X6_145 (y_cI0 (cC_sc hC hsn) hi) (by decide) (Nat.le_refl _) (Nat.le_refl _) rfl rfl (Nat.le_of_ble_eq_true rfl) (fun E9 h9 q9 => ?_) (fun v9 h9 q9 => ?_)
      · obtain ⟨e9, rfl⟩ := q9
        cases e9
        exact mw_out rfl (cPv_x hC hw yG.rf 1 (by decide) rfl)
      · cases q9.1
    · rw [if_neg hi]
      obtain ⟨tn, t1, t2, rfl⟩ := zK_tag (t := t) rfl (zInt_ne hi)
      rw [nI_clamp (by omega)]
      refine mw_aload_n (i := 0) dX6_set_0 rfl rfl ?_
      refine mw_iload_n (i := 1) dX6_set_1 rfl rfl ?_
      refine mw_callVr dX6_set_2 mk_X6_119 h_this rfl (y_mA1 hC hs) (by decide) (Nat.le_refl _) (Nat.le_refl _) rfl rfl (Nat.le_of_ble_eq_true rfl) ?_
      refine mw_astore_4 dX6_set_5 (by decide) ?_
      refine mw_aload (i := 4) dX6_set_7 rfl ?_
      refine mw_get dX6_set_9 fk_X6_141 h_r2 rfl ?_
      refine mw_iload_n (i := 2) dX6_set_12 rfl rfl ?_
      refine mw_callSv dX6_set_13 mk_X6_145 (y_cI1 (cC_sc hC hsn) hi) (by decide) (Nat.le_refl _) (Nat.le_refl _) rfl rfl (Nat.le_of_ble_eq_true rfl) ?_
      refine mw_aload_n (i := 0) dX6_set_16 rfl rfl ?_
      refine mw_aload_n (i := 0) dX6_set_17 rfl rfl ?_
      refine mw_aload (i := 4) dX6_set_18 rfl ?_
      refine mw_callV dX6_set_20 mk_X6_130 h_this rfl (y_fieldsOf hC hm hT) (by decide) (Nat.le_refl _) (Nat.le_refl _) rfl rfl (Nat.le_of_ble_eq_true rfl) (fun E9 h9 q9 => ?_) (fun v9 h9 q9 => ?_)
      · cases q9.1
      obtain ⟨e9, q1, E, hI⟩ := q9
      cases e9
      have hC9 := cC_scan hC q1 hI.r
      have h_this := cC_x hC9
      have h_r2 := (cC_me hC9 hm hT).1
      have hG9 : yG H h9 := q1.M.G (by decide)
      refine mw_aload (i := 4) dX6_set_23 rfl ?_
      refine mw_get dX6_set_25 fk_X6_141 h_r2 rfl ?_
      refine mw_iload_n (i := 2) dX6_set_28 rfl rfl ?_
      refine mw_callV dX6_set_29 mk_X6_149 h_this rfl (y_draftWithoutKnown hC9 hsn hI (cC_me hC9 hm hT).2 (by omega) (by omega) (by omega) (nI tn)) (by decide) (Nat.le_refl _) (Nat.le_refl _) rfl rfl (Nat.le_of_ble_eq_true rfl) (fun E9 h9 q9 => ?_) (fun v9 h9 q9 => ?_)
      · cases q9.1
      obtain ⟨e9, u1, u2⟩ := q9
      cases e9
      have hC8 := cC_draft hC9 u1 u2
      have hG8 := hG9.tr (u1.M.G (by decide))
      have h_this := cC_x hC8
      have h_r2 := (cC_me hC8 hm hT).1
      have hS8 := cC_sc hC8 hsn
      have h_r2_schema := hS8.1
      have h_this_draft := u2.1
      have hle := oth_le g.2.1 s (nI tn) L
      have hel := enum_le tn (tyN (zKind g.2.1 s (nI tn))) (uN (zStA (zKind g.2.1 s (nI tn)) v))
      have hty : zTyK (zKind g.2.1 s (nI tn)) = nI (tyN (zKind g.2.1 s (nI tn))) := by
        obtain ⟨h1, h2⟩ := zIn_1 hi
        obtain ⟨j, hj, e⟩ := nI_of3 (M := 2) (n := 2) rfl (by decide) h1 h2
        rw [e]
        have hj : j = 0 ∨ j = 1 ∨ j = 2 := by omega
        rcases hj with rfl | rfl | rfl <;> decide
      have hyv : tyN (zKind g.2.1 s (nI tn)) = 0 ∨ tyN (zKind g.2.1 s (nI tn)) = 5 := by
        unfold tyN
        by_cases e : zKind g.2.1 s (nI tn) = 2
        · rw [if_pos e]; exact Or.inr rfl
        · rw [if_neg e]; exact Or.inl rfl
      refine mw_aload_n (i := 0) dX6_set_32 rfl rfl ?_
      refine mw_get dX6_set_33 fk_X6_58 h_this rfl ?_
      refine mw_iload_n (i := 2) dX6_set_36 rfl rfl ?_
      refine mw_aload (i := 4) dX6_set_37 rfl ?_
      refine mw_get dX6_set_39 fk_X6_141 h_r2 rfl ?_
      refine mw_iload_n (i := 2) dX6_set_42 rfl rfl ?_
      refine mw_callVr dX6_set_43 mk_X6_153 h_r2_schema rfl (y_typeAt hS8 (nI tn)) (by decide) (Nat.le_refl _) (Nat.le_refl _) rfl rfl (Nat.le_of_ble_eq_true rfl) ?_
      refine mw_aload (i := 4) dX6_set_46 rfl ?_
      refine mw_get dX6_set_48 fk_X6_141 h_r2 rfl ?_
      refine mw_iload_n (i := 2) dX6_set_51 rfl rfl ?_
      refine mw_iload_n (i := 3) dX6_set_52 rfl rfl ?_
      refine mw_callVr dX6_set_53 mk_X6_156 h_r2_schema rfl (y_numberOf hS8 (nI tn) v) (by decide) (Nat.le_refl _) (Nat.le_refl _) rfl rfl (Nat.le_of_ble_eq_true rfl) ?_
      rw [hty, show zStA (zKind g.2.1 s (nI tn)) v = nI (uN (zStA (zKind g.2.1 s (nI tn)) v)) from (nI_uN _).symm]
      rw [show uN (nI (uN (zStA (zKind g.2.1 s (nI tn)) v))) = uN (zStA (zKind g.2.1 s (nI tn)) v) from congrArg uN (nI_uN _)]
      have hv32 := uN_lt (zStA (zKind g.2.1 s (nI tn)) v)
      generalize uN (zStA (zKind g.2.1 s (nI tn)) v) = w at *
      generalize tyN (zKind g.2.1 s (nI tn)) = y at *
      refine mw_callV dX6_set_56 mk_X6_160 h_this_draft rfl (y_addNumberField u2 (t := tn) (y := y) (v := w) t2 (by omega) hv32 (by omega)) (by decide) (Nat.le_refl _) (Nat.le_refl _) rfl rfl (Nat.le_of_ble_eq_true rfl) (fun E9 h9 q9 => ?_) (fun v9 h9 q9 => ?_)
      · cases q9.1
      obtain ⟨e9, v1, v2⟩ := q9
      cases e9
      have hef : ef (tn, y, w, []) = enum tn y w := by unfold ef; exact List.append_nil _
      rw [← hef, ← eL_snoc] at v1
      have hC7 := cC_draft hC8 v2 v1
      have hG7 := hG8.tr (v2.M.G (by decide))
      have h_this := cC_x hC7
      refine mw_wf (fun hw7 => ?_)
      refine mw_aload_n (i := 0) dX6_set_59 rfl rfl ?_
      refine mw_aload (i := 4) dX6_set_60 rfl ?_
      unfold putM
      by_cases h120 : 120 < (eL (oth g.2.1 s (nI tn) L ++ [(tn, y, w, [])])).length
      · rw [if_pos h120]
        refine mw_callV dX6_set_62 mk_X6_164 h_this rfl (y_takeDraft0 hC7 hm hT v1 h120) (by decide) (Nat.le_refl _) (Nat.le_refl _) rfl rfl (Nat.le_of_ble_eq_true rfl) (fun E9 h9 q9 => ?_) (fun v9 h9 q9 => ?_)
        · obtain ⟨e9, rfl⟩ := q9
          cases e9
          exact mw_out rfl (cPv_x hC7 hw7 hG7 2 (by decide) rfl)
        · cases q9.1
      · rw [if_neg h120]
        refine mw_callV dX6_set_62 mk_X6_164 h_this rfl (y_takeDraft1 hC7 hm hT v1 (by omega) (ok_snoc (oth_ok o2) ⟨t1, t2, by show y = 0 ∨ y = 2 ∨ y = 5; omega, hv32, fun z => by have z : y = 2 := z; omega, fun _ => rfl, fun z hz => absurd hz List.not_mem_nil⟩)) (by decide) (Nat.le_refl _) (Nat.le_refl _) rfl rfl (Nat.le_of_ble_eq_true rfl) (fun E9 h9 q9 => ?_) (fun v9 h9 q9 => ?_)
        · cases q9.1
        obtain ⟨e9, w1, w2⟩ := q9
        cases e9
        exact mw_return dX6_set_65 rfl ⟨hG7.tr (row_G hC7 hm hT w1), ⟨sa, ma, w2⟩, Or.inl ⟨rfl, rfl⟩⟩
/-- the last steps of a call that makes a BYTES field -/
theorem ef_b {tn : Nat} {Y : List Nat} : ef (tn, 2, Y.length, Y) = enum tn 2 Y.length ++ Y := rfl
theorem okf_b {tn : Nat} {Y : List Nat} (t1 : 1 ≤ tn) (t2 : tn ≤ 31) (hl : Y.length ≤ 256) (hY : ∀ z ∈ Y, z < 256) : okf (tn, 2, Y.length, Y) := ⟨t1, t2, Or.inr (Or.inl rfl), by show Y.length < 2 ^ 32; omega, fun _ => rfl, fun z => absurd rfl z, hY⟩
theorem zHas_ne {k : Int32} (h : ¬ zHas k = 0) : k ≠ -1 := by
  intro z
  rw [z] at h
  exact h (by decide)
theorem k_append (hC : cC g H sa ma) (m t b : Int32) : mw_Con mm_X6_append 7 1 6 [.ref 1, .int m, .int t, .int b.toInt8.toInt32] H (cP H [eIO, eIA, eIS] (sp_append g m t b.toInt8.toInt32)) := by
  refine gm_con pl_X6 rfl rfl (Nat.le_of_ble_eq_true rfl) rfl ?_
  unfold sp_append
  refine mw_wf (fun hw => ?_)
  have h_this := cC_x hC
  cases hs : sM g m with
  | none =>
    refine mw_aload_n (i := 0) dX6_append_0 rfl rfl ?_
    refine mw_iload_n (i := 1) dX6_append_1 rfl rfl ?_
    refine mw_callV dX6_append_2 mk_X6_119 h_this rfl (y_mA0 hC hs) (by decide) (Nat.le_refl _) (Nat.le_refl _) rfl rfl (Nat.le_of_ble_eq_true rfl) (fun E9 h9 q9 => ?_) (fun v9 h9 q9 => ?_)
    · obtain ⟨e9, rfl⟩ := q9
      cases e9
      exact mw_out rfl (cP_x hC hw yG.rf 0 (by decide) rfl)
    · cases q9.1
  | some q =>
    obtain ⟨m', s, L⟩ := q
    obtain ⟨hm, rfl, hT⟩ := sM_in hs
    obtain ⟨hsn, o2, o3⟩ := cC_ok hC hm hT
    have h56 := hC.2.2.1.2.2.1 _ hm (by rw [hT]; exact fun z => by cases z)
    have h_r2 := (cC_me hC hm hT).1
    dsimp only
    by_cases hi : zHas (zKind g.2.1 s t) = 0
    · rw [if_pos hi]
      refine mw_aload_n (i := 0) dX6_append_0 rfl rfl ?_
      refine mw_iload_n (i := 1) dX6_append_1 rfl rfl ?_
      refine mw_callVr dX6_append_2 mk_X6_119 h_this rfl (y_mA1 hC hs) (by decide) (Nat.le_refl _) (Nat.le_refl _) rfl rfl (Nat.le_of_ble_eq_true rfl) ?_
      refine mw_astore_4 dX6_append_5 (by decide) ?_
      refine mw_aload (i := 4) dX6_append_7 rfl ?_
      refine mw_get dX6_append_9 fk_X6_141 h_r2 rfl ?_
      refine mw_iload_n (i := 2) dX6_append_12 rfl rfl ?_
      refine mw_callS dX6_append_13 mk_X6_168 (y_cB0 (cC_sc hC hsn) hi) (by decide) (Nat.le_refl _) (Nat.le_refl _) rfl rfl (Nat.le_of_ble_eq_true rfl) (fun E9 h9 q9 => ?_) (fun v9 h9 q9 => ?_)
      · obtain ⟨e9, rfl⟩ := q9
        cases e9
        exact mw_out rfl (cP_x hC hw yG.rf 1 (by decide) rfl)
      · cases q9.1
    · rw [if_neg hi]
      obtain ⟨tn, t1, t2, rfl⟩ := zK_tag (t := t) rfl (zHas_ne hi)
      refine mw_aload_n (i := 0) dX6_append_0 rfl rfl ?_
      refine mw_iload_n (i := 1) dX6_append_1 rfl rfl ?_
      refine mw_callVr dX6_append_2 mk_X6_119 h_this rfl (y_mA1 hC hs) (by decide) (Nat.le_refl _) (Nat.le_refl _) rfl rfl (Nat.le_of_ble_eq_true rfl) ?_
      refine mw_astore_4 dX6_append_5 (by decide) ?_
      refine mw_aload (i := 4) dX6_append_7 rfl ?_
      refine mw_get dX6_append_9 fk_X6_141 h_r2 rfl ?_
      refine mw_iload_n (i := 2) dX6_append_12 rfl rfl ?_
      refine mw_callSv dX6_append_13 mk_X6_168 (y_cB1 (cC_sc hC hsn) hi) (by decide) (Nat.le_refl _) (Nat.le_refl _) rfl rfl (Nat.le_of_ble_eq_true rfl) ?_
      refine mw_aload_n (i := 0) dX6_append_16 rfl rfl ?_
      refine mw_aload (i := 4) dX6_append_17 rfl ?_
      refine mw_callV dX6_append_19 mk_X6_130 h_this rfl (y_fieldsOf hC hm hT) (by decide) (Nat.le_refl _) (Nat.le_refl _) rfl rfl (Nat.le_of_ble_eq_true rfl) (fun E9 h9 q9 => ?_) (fun v9 h9 q9 => ?_)
      · cases q9.1
      obtain ⟨e9, q1, E, hI⟩ := q9
      cases e9
      have hC9 := cC_scan hC q1 hI.r
      have h_r2 := (cC_me hC9 hm hT).1
      have hG9 : yG H h9 := q1.M.G (by decide)
      have hI0 := hI
      have hbv := bV_uN b
      have hx256 : uN (b.toInt8.toInt32 &&& 255) < 256 := uN_255 _
      generalize uN (b.toInt8.toInt32 &&& 255) = x at *
      rw [hbv]
      -- the last known field's bytes lie in the row from p on, n of them
      obtain ⟨h60, nx, lm, f1, f2, f3, f4, h_r19, -, -⟩ := hI
      refine mw_astore_5 dX6_append_22 (by decide) ?_
      refine mw_aload (i := 5) dX6_append_24 rfl ?_
      refine mw_aload (i := 4) dX6_append_26 rfl ?_
      refine mw_get dX6_append_28 fk_X6_141 h_r2 rfl ?_
      refine mw_iload_n (i := 2) dX6_append_31 rfl rfl ?_
      refine mw_callV dX6_append_32 mk_X6_171 h_r19 rfl (y_flastKnown (cC_K hC9) hsn (cC_sc hC9 hsn) hI0 (nI tn)) (by decide) (Nat.le_refl _) (Nat.le_refl _) rfl rfl (Nat.le_of_ble_eq_true rfl) (fun E9 h9 q9 => ?_) (fun v9 h9 q9 => ?_)
      · obtain ⟨-, z | ⟨j, -, z⟩⟩ := q9
        · cases z.1
        · cases z.1
      obtain ⟨rfl, z⟩ := q9
      obtain ⟨la, p, n, hv, hlb, hpn, c1, c2, c3⟩ : ∃ (la : Int32) (p n : Nat), v9 = some (.int la) ∧ lastB g.2.1 s (nI tn) L = ((eL L).drop p).take n ∧ p + n ≤ (eL L).length ∧ (∀ {Hx : mw_H} {pb pa : Int32}, isF Hx 10 (ma m' + 1) (eL L) L E pb pa → mw_Con mm_X2_bytesAt 2 0 0 [.ref 10, .int la] Hx (mw_ret (.int (nI n)) Hx)) ∧ (∀ {Hx : mw_H} {pb pa : Int32}, isF Hx 10 (ma m' + 1) (eL L) L E pb pa → mw_Con mm_X2_bytesBeginAt 3 0 0 [.ref 10, .int la] Hx (mw_ret (.int (nI p)) Hx)) ∧ (∀ {Hx : mw_H} {pb pa : Int32}, isF Hx 10 (ma m' + 1) (eL L) L E pb pa → mw_Con mm_X2_endAt 1 0 0 [.ref 10, .int la] Hx (mw_ret (.int (nI (p + n))) Hx)) := by
        rcases z with ⟨z1, z2⟩ | ⟨j, hj, z1, z2⟩
        · exact ⟨-1, 0, 0, Sum.inl.inj z1, by unfold lastB; rw [z2]; rfl, by omega, fun h => y_bytesAtN h, fun h => y_bytesBeginAtN h, fun h => y_endAtN h⟩
        · obtain ⟨-, w1, w2, w3⟩ := isF_ok hI0 hj
          refine ⟨nI j, E j - (ga L j).2.2.2.length, (ga L j).2.2.2.length, Sum.inl.inj z1, by unfold lastB; rw [z2]; exact w3.symm, by omega, fun h => y_bytesAt h hj, fun h => y_bytesBeginAt h hj, fun h => ?_⟩
          have h9 := y_endAt h hj
          rw [show E j - (ga L j).2.2.2.length + (ga L j).2.2.2.length = E j by omega]
          exact h9
      subst hv
      clear z
      have hYl : (lastB g.2.1 s (nI tn) L).length = n := by rw [hlb, List.length_take, List.length_drop]; omega
      have hYok : ∀ z ∈ lastB g.2.1 s (nI tn) L ++ [x], z < 256 := fun z hz => by
        rcases List.mem_append.mp hz with hz | hz
        · rw [hlb] at hz
          exact (cC_me hC9 hm hT).2.2.2.1 z (List.mem_of_mem_drop (List.mem_of_mem_take hz))
        · rw [List.mem_singleton] at hz; rw [hz]; exact hx256
      have hYl1 : (lastB g.2.1 s (nI tn) L ++ [x]).length = n + 1 := by rw [List.length_append, hYl]; rfl
      refine mw_istore_6 dX6_append_35 (by decide) ?_
      refine mw_aload (i := 5) dX6_append_37 rfl ?_
      refine mw_iload (i := 6) dX6_append_39 rfl ?_
      refine mw_callVr dX6_append_41 mk_X6_175 h_r19 rfl (c1 hI0) (by decide) (Nat.le_refl _) (Nat.le_refl _) rfl rfl (Nat.le_of_ble_eq_true rfl) ?_
      refine mw_iconst (v := 1) dX6_append_44 (by decide) ?_
      refine mw_iadd dX6_append_45 ?_
      refine mw_istore_7 dX6_append_46 (by decide) ?_
      refine mw_aload_n (i := 0) dX6_append_48 rfl rfl ?_
      refine mw_aload (i := 5) dX6_append_49 rfl ?_
      refine mw_aload (i := 4) dX6_append_51 rfl ?_
      refine mw_get dX6_append_53 fk_X6_141 h_r2 rfl ?_
      refine mw_iload_n (i := 2) dX6_append_56 rfl rfl ?_
      rw [nI_1 n]
      have h_this := cC_x hC9
      refine mw_callV dX6_append_57 mk_X6_149 h_this rfl (y_draftWithoutKnown hC9 hsn hI0 (cC_me hC9 hm hT).2 (by omega) (by omega) (by omega) (nI tn)) (by decide) (Nat.le_refl _) (Nat.le_refl _) rfl rfl (Nat.le_of_ble_eq_true rfl) (fun E9 h9 q9 => ?_) (fun v9 h9 q9 => ?_)
      · cases q9.1
      obtain ⟨e9, u1, u2⟩ := q9
      cases e9
      obtain ⟨X7, hD7⟩ := hC9.2.2.2.2.2.2.2.2.2.2
      have hI1 := isF_T hI0 hD7 u1
      have hC8 := cC_draft hC9 u1 u2
      have hG8 := hG9.tr (u1.M.G (by decide))
      have h_this := cC_x hC8
      have h_this_draft := u2.1
      have hle := oth_le g.2.1 s (nI tn) L
      have hel := enum_le tn 2 (n + 1)
      refine mw_aload_n (i := 0) dX6_append_60 rfl rfl ?_
      refine mw_get dX6_append_61 fk_X6_58 h_this rfl ?_
      refine mw_iload_n (i := 2) dX6_append_64 rfl rfl ?_
      refine mw_iload (i := 7) dX6_append_65 rfl ?_
      refine mw_callV dX6_append_67 mk_X6_178 h_this_draft rfl (y_addBytesHead u2 (t := tn) (n := n + 1) t2 (by omega) (by omega)) (by decide) (Nat.le_refl _) (Nat.le_refl _) rfl rfl (Nat.le_of_ble_eq_true rfl) (fun E9 h9 q9 => ?_) (fun v9 h9 q9 => ?_)
      · cases q9.1
      obtain ⟨e9, v1, v2⟩ := q9
      cases e9
      have hI2 := isF_T hI1 u2 v2
      have hI20 := hI2
      have hC7 := cC_draft hC8 v2 v1
      have hG7 := hG8.tr (v2.M.G (by decide))
      have h_this := cC_x hC7
      have h_this_draft := v1.1
      obtain ⟨h_r2, hB7⟩ := cC_me hC7 hm hT
      obtain ⟨-, nx2, lm2, g1, g2, g3, g4, h_r19, -, -⟩ := hI2
      refine mw_aload_n (i := 0) dX6_append_70 rfl rfl ?_
      refine mw_get dX6_append_71 fk_X6_58 h_this rfl ?_
      refine mw_aload (i := 4) dX6_append_74 rfl ?_
      refine mw_get dX6_append_76 fk_X6_123 h_r2 rfl ?_
      refine mw_aload (i := 5) dX6_append_79 rfl ?_
      refine mw_iload (i := 6) dX6_append_81 rfl ?_
      refine mw_callVr dX6_append_83 mk_X6_181 h_r19 rfl (c2 hI20) (by decide) (Nat.le_refl _) (Nat.le_refl _) rfl rfl (Nat.le_of_ble_eq_true rfl) ?_
      refine mw_aload (i := 5) dX6_append_86 rfl ?_
      refine mw_iload (i := 6) dX6_append_88 rfl ?_
      refine mw_callVr dX6_append_90 mk_X6_184 h_r19 rfl (c3 hI20) (by decide) (Nat.le_refl _) (Nat.le_refl _) rfl rfl (Nat.le_of_ble_eq_true rfl) ?_
      refine mw_callV dX6_append_93 mk_X6_187 h_this_draft rfl (y_addRange v1 hB7 (by omega) (by omega) (p := p) (n := n) rfl hpn (by rw [List.length_append]; omega)) (by decide) (Nat.le_refl _) (Nat.le_refl _) rfl rfl (Nat.le_of_ble_eq_true rfl) (fun E9 h9 q9 => ?_) (fun v9 h9 q9 => ?_)
      · cases q9.1
      obtain ⟨e9, w1, w2⟩ := q9
      cases e9
      rw [← hlb] at w1
      have hC6 := cC_draft hC7 w2 w1
      have hG6 := hG7.tr (w2.M.G (by decide))
      have h_this := cC_x hC6
      have h_this_draft := w1.1
      refine mw_aload_n (i := 0) dX6_append_96 rfl rfl ?_
      refine mw_get dX6_append_97 fk_X6_58 h_this rfl ?_
      refine mw_iload_n (i := 3) dX6_append_100 rfl rfl ?_
      refine mw_callV dX6_append_101 mk_X6_191 h_this_draft rfl (y_add w1 (by rw [List.length_append, List.length_append, hYl]; omega) hx256) (by decide) (Nat.le_refl _) (Nat.le_refl _) rfl rfl (Nat.le_of_ble_eq_true rfl) (fun E9 h9 q9 => ?_) (fun v9 h9 q9 => ?_)
      · cases q9.1
      obtain ⟨e9, a1, a2⟩ := q9
      cases e9
      have e5 : eL (oth g.2.1 s (nI tn) L) ++ enum tn 2 (n + 1) ++ lastB g.2.1 s (nI tn) L ++ [x] = eL (oth g.2.1 s (nI tn) L ++ [(tn, 2, (lastB g.2.1 s (nI tn) L ++ [x]).length, lastB g.2.1 s (nI tn) L ++ [x])]) := by
        rw [eL_snoc, ef_b, hYl1, List.append_assoc, List.append_assoc]
      rw [e5] at a1
      have hC5 := cC_draft hC6 a2 a1
      have hG5 := hG6.tr (a2.M.G (by decide))
      have h_this := cC_x hC5
      refine mw_wf (fun hw5 => ?_)
      refine mw_aload_n (i := 0) dX6_append_104 rfl rfl ?_
      refine mw_aload (i := 4) dX6_append_105 rfl ?_
      unfold putB putM
      rw [nI_clamp (show tn < 2 ^ 31 by omega)]
      have hokx := okf_b (tn := tn) t1 t2 (Y := lastB g.2.1 s (nI tn) L ++ [x]) (by omega) hYok
      rw [hYl1] at hokx a1 ⊢
      generalize lastB g.2.1 s (nI tn) L ++ [x] = Y at *
      by_cases h120 : 120 < (eL (oth g.2.1 s (nI tn) L ++ [(tn, 2, n + 1, Y)])).length
      · rw [if_pos h120]
        refine mw_callV dX6_append_107 mk_X6_164 h_this rfl (y_takeDraft0 hC5 hm hT a1 h120) (by decide) (Nat.le_refl _) (Nat.le_refl _) rfl rfl (Nat.le_of_ble_eq_true rfl) (fun E9 h9 q9 => ?_) (fun v9 h9 q9 => ?_)
        · obtain ⟨e9, rfl⟩ := q9
          cases e9
          exact mw_out rfl (cP_x hC5 hw5 hG5 2 (by decide) rfl)
        · cases q9.1
      · rw [if_neg h120]
        refine mw_callV dX6_append_107 mk_X6_164 h_this rfl (y_takeDraft1 hC5 hm hT a1 (by omega) (ok_snoc (oth_ok o2) hokx)) (by decide) (Nat.le_refl _) (Nat.le_refl _) rfl rfl (Nat.le_of_ble_eq_true rfl) (fun E9 h9 q9 => ?_) (fun v9 h9 q9 => ?_)
        · cases q9.1
        obtain ⟨e9, b1, b2⟩ := q9
        cases e9
        refine mw_iload (i := 7) dX6_append_110 rfl ?_
        exact mw_ireturn dX6_append_112 ⟨_, rfl, rfl⟩ (cP_r b2 (hG5.tr (row_G hC5 hm hT b1)))
end CE
