/-! the class side: canonical fields, chosen (class side) -/
theorem pl_X1 : plainName RX1 = true := by decide +kernel
theorem pl_J7 : plainName RJ7 = true := by decide +kernel
theorem lp_fill {H : mw_H} {a n : Nat} {x : Int32} (hn : n ≤ 60000) : ∀ (r k : Nat) (f : Nat → Int32) (H' : mw_H), k + r = n → yF [a] H H' → mw_g H' a = some (.inl (0, (n, .inl f))) → (∀ j, j < k → f j = x) →
    mw_W mm_J7_fill_53178 0 0 0 5 [some (.ref a), some (.int x), some (.int (nI k)), some (.int (nI n))] [] H' (fun v H' => v = .inl none ∧ yF [a] H H' ∧ ∃ f, mw_g H' a = some (.inl (0, (n, .inl f))) ∧ ∀ j, j < n → f j = x) := by
  intro r
  induction r with
  | zero =>
    intro k f H' hk hF h_p0 hf
    have hk : k = n := hk
    subst hk
    refine mw_iload_n (i := 2) dJ7_fill_53178_5 rfl rfl ?_
    refine mw_iload_n (i := 3) dJ7_fill_53178_6 rfl rfl ?_
    refine mw_icmp_ge (tgt := 20) dJ7_fill_53178_7 (by decide) (fun _ => ?_) (fun c9 => absurd c9 (fun z => z (Int32.le_refl _)))
    exact mw_return dJ7_fill_53178_20 rfl ⟨rfl, hF, f, h_p0, hf⟩
  | succ r ih =>
    intro k f H' hk hF h_p0 hf
    refine mw_iload_n (i := 2) dJ7_fill_53178_5 rfl rfl ?_
    refine mw_iload_n (i := 3) dJ7_fill_53178_6 rfl rfl ?_
    refine mw_icmp_ge (tgt := 20) dJ7_fill_53178_7 (by decide) (fun c9 => absurd c9 (nI_ge (show k < n by omega) (by omega))) (fun _ => ?_)
    refine mw_aload_n (i := 0) dJ7_fill_53178_10 rfl rfl ?_
    refine mw_iload_n (i := 2) dJ7_fill_53178_11 rfl rfl ?_
    refine mw_iload_n (i := 1) dJ7_fill_53178_12 rfl rfl ?_
    refine mw_iast dJ7_fill_53178_13 h_p0 (mw_ix rfl (show k < n by omega) (by omega)) ?_
    refine mw_iinc_2 dJ7_fill_53178_14 (by decide) rfl ?_
    refine mw_goto (tgt := 5) dJ7_fill_53178_17 (by decide) ?_
    rw [show nI k + Int32.ofInt 1 = nI (k + 1) from nI_1 k]
    refine ih (k + 1) _ _ (by omega) (hF.s (by simp)) mw_gs (fun j hj => ?_)
    by_cases e : j = k
    · rw [e, pk_us]
    · rw [pk_un e]; exact hf j (by omega)
theorem y_fill {H : mw_H} {a n : Nat} {x : Int32} {f : Nat → Int32} (hn : n ≤ 60000) (h_p0 : mw_g H a = some (.inl (0, (n, .inl f)))) : mw_Con mm_J7_fill_53178 0 0 0 [.ref a, .int x] H (fun v H' => v = .inl none ∧ yF [a] H H' ∧ ∃ f, mw_g H' a = some (.inl (0, (n, .inl f))) ∧ ∀ j, j < n → f j = x) := by
  refine gm_con pl_J7 rfl rfl (Nat.le_of_ble_eq_true rfl) rfl ?_
  refine mw_iconst (v := 0) dJ7_fill_53178_0 (by decide) ?_
  refine mw_istore_2 dJ7_fill_53178_1 (by decide) ?_
  refine mw_aload_n (i := 0) dJ7_fill_53178_2 rfl rfl ?_
  refine mw_alen (fun _ => rfl) dJ7_fill_53178_3 h_p0 ?_
  refine mw_istore_3 dJ7_fill_53178_4 (by decide) ?_
  exact lp_fill hn n 0 f H (by omega) yF.rf h_p0 (fun j hj => absurd hj (Nat.not_lt_zero _))
/-- the object of the canonical fields -/
abbrev cV (q n : Nat) : va_E := .inr (1, [.ref (q + 1), .ref (q + 8), .ref (q + 9), .int (nI n)])
section C15
variable {H : mw_H} {q src cs : Nat} {X : List Nat} {L : List af} {E : Nat → Nat} {pb pa : Int32} {K : Nat → Nat → Int32} {sa : Nat → Nat} {s sc ck cy cd cp ns : Nat}
/-- known, with the tag t -/
def kt (K : Nat → Nat → Int32) (s : Nat) (L : List af) (i t : Nat) : Prop := (ga L i).1 = t ∧ knb K s (ga L i) = true
/-- the last known place of each tag -/
def lsts (K : Nat → Nat → Int32) (s : Nat) (L : List af) (n : Nat) (g : Nat → Int32) : Prop := ∀ t, 1 ≤ t → t ≤ 31 → (g t = -1 ∧ ∀ i, i < n → ¬ kt K s L i t) ∨ ∃ i, i < n ∧ g t = nI i ∧ kt K s L i t ∧ ∀ i', i < i' → i' < n → ¬ kt K s L i' t
theorem lp_nl (hK : okK K ns) (hs : s < ns) (hS : isS H K sa s sc ck cy cd cp) (hq : mw_g H q = some (cV q 0) ∨ ∃ n, mw_g H q = some (cV q n)) (hI : isF H (q + 1) src X L E pb pa) (hne : q + 9 ≠ sc ∧ q + 9 ≠ ck ∧ q + 9 ≠ cy ∧ q + 9 ≠ cd ∧ q + 9 ≠ cp) : ∀ (r n : Nat) (g : Nat → Int32) (H' : mw_H) (x3 : Option Value), n + r = L.length → yF [q + 9] H H' → mw_g H' (q + 9) = some (.inl (0, (32, .inl g))) → lsts K s L n g →
    mw_W mm_X1_noteLasts 3 0 0 10 [some (.ref q), some (.ref sc), some (.int (nI n)), x3] [] H' (fun v H' => v = .inl none ∧ yF [q + 9] H H' ∧ ∃ g, mw_g H' (q + 9) = some (.inl (0, (32, .inl g))) ∧ lsts K s L L.length g) := by
  obtain ⟨c0, hq⟩ : ∃ n, mw_g H q = some (cV q n) := by
    rcases hq with h | h
    · exact ⟨0, h⟩
    · exact h
  intro r
  induction r with
  | zero =>
    intro n g H' x3 hn hF hg hl
    have hn : n = L.length := hn
    have h_this := hF.g (S5_1 (show q ≠ q + 9 by omega)) hq
    have hI' := isF_FS hI hF (by simp) (by simp) (by simp) (by simp) (by simp)
    have hI0 := hI'
    obtain ⟨h60, nx, lm, f1, f2, f3, f4, h_this_fields, -, -⟩ := hI'
    refine mw_iload_n (i := 2) dX1_noteLasts_10 rfl rfl ?_
    refine mw_aload_n (i := 0) dX1_noteLasts_11 rfl rfl ?_
    refine mw_get dX1_noteLasts_12 fk_X1_12 h_this rfl ?_
    refine mw_callVr dX1_noteLasts_15 mk_X1_42 h_this_fields rfl (y_fcount hI0) (by decide) (Nat.le_refl _) (Nat.le_refl _) rfl rfl (Nat.le_of_ble_eq_true rfl) ?_
    refine mw_icmp_ge (tgt := 62) dX1_noteLasts_18 (by decide) (fun _ => ?_) (fun c9 => absurd c9 (fun z => z (nI_le (by omega) (by omega))))
    exact mw_return dX1_noteLasts_62 rfl ⟨rfl, hF, g, hg, by rw [← hn]; exact hl⟩
  | succ r ih =>
    intro n g H' x3 hn hF hg hl
    have h_this := hF.g (S5_1 (show q ≠ q + 9 by omega)) hq
    have hI' := isF_FS hI hF (by simp) (by simp) (by simp) (by simp) (by simp)
    have hI0 := hI'
    have hS' : isS H' K sa s sc ck cy cd cp := by
      obtain ⟨b1, ⟨g1, b2, b3⟩, ⟨g2, b4, b5⟩, ⟨g3, b6, b7⟩, ⟨g4, b8, b9⟩⟩ := hS
      exact ⟨hF.g (S5_1 (by omega)) b1, ⟨g1, hF.g (S5_1 (by omega)) b2, b3⟩, ⟨g2, hF.g (S5_1 (by omega)) b4, b5⟩, ⟨g3, hF.g (S5_1 (by omega)) b6, b7⟩, ⟨g4, hF.g (S5_1 (by omega)) b8, b9⟩⟩
    obtain ⟨h60, nx, lm, f1, f2, f3, f4, h_this_fields, -, -⟩ := hI'
    have hnl : n < L.length := by omega
    obtain ⟨o1, o2, o3, o4, o5, o6, o7⟩ := (isF_ok hI0 hnl).1
    have h_this_lasts := hg
    refine mw_iload_n (i := 2) dX1_noteLasts_10 rfl rfl ?_
    refine mw_aload_n (i := 0) dX1_noteLasts_11 rfl rfl ?_
    refine mw_get dX1_noteLasts_12 fk_X1_12 h_this rfl ?_
    refine mw_callVr dX1_noteLasts_15 mk_X1_42 h_this_fields rfl (y_fcount hI0) (by decide) (Nat.le_refl _) (Nat.le_refl _) rfl rfl (Nat.le_of_ble_eq_true rfl) ?_
    refine mw_icmp_ge (tgt := 62) dX1_noteLasts_18 (by decide) (fun c9 => absurd c9 (nI_ge hnl (by omega))) (fun _ => ?_)
    refine mw_aload_n (i := 0) dX1_noteLasts_21 rfl rfl ?_
    refine mw_get dX1_noteLasts_22 fk_X1_12 h_this rfl ?_
    refine mw_iload_n (i := 2) dX1_noteLasts_25 rfl rfl ?_
    refine mw_callVr dX1_noteLasts_26 mk_X1_75 h_this_fields rfl (y_tagAt hI0 hnl) (by decide) (Nat.le_refl _) (Nat.le_refl _) rfl rfl (Nat.le_of_ble_eq_true rfl) ?_
    refine mw_istore_3 dX1_noteLasts_29 (by decide) ?_
    refine mw_iload_n (i := 3) dX1_noteLasts_30 rfl rfl ?_
    refine mw_callSNr dX1_noteLasts_31 mk_X1_78 (y_isTag (nI (ga L n).1)) (by decide) (Nat.le_refl _) (Nat.le_refl _) rfl rfl (Nat.le_of_ble_eq_true rfl) ?_
    refine mw_if_eq (tgt := 56) dX1_noteLasts_34 (by decide) (fun c9 => absurd c9 (by rw [zTag_of o1 o2]; decide)) (fun _ => ?_)
    refine mw_aload_n (i := 0) dX1_noteLasts_37 rfl rfl ?_
    refine mw_get dX1_noteLasts_38 fk_X1_12 h_this rfl ?_
    refine mw_aload_n (i := 1) dX1_noteLasts_41 rfl rfl ?_
    refine mw_iload_n (i := 2) dX1_noteLasts_42 rfl rfl ?_
    refine mw_callVr dX1_noteLasts_43 mk_X1_43 h_this_fields rfl (y_isKnown hK hs hS' hI0 hnl) (by decide) (Nat.le_refl _) (Nat.le_refl _) rfl rfl (Nat.le_of_ble_eq_true rfl) ?_
    cases hk : knb K s (ga L n) with
    | true =>
      refine mw_if_eq (tgt := 56) dX1_noteLasts_46 (by decide) (fun c9 => absurd c9 (by first | decide | (rw [pk_us]; decide))) (fun _ => ?_)
      refine mw_aload_n (i := 0) dX1_noteLasts_49 rfl rfl ?_
      refine mw_get dX1_noteLasts_50 fk_X1_22 h_this rfl ?_
      refine mw_iload_n (i := 3) dX1_noteLasts_53 rfl rfl ?_
      refine mw_iload_n (i := 2) dX1_noteLasts_54 rfl rfl ?_
      refine mw_iast dX1_noteLasts_55 h_this_lasts (mw_ix rfl (show (ga L n).1 < 32 by omega) (by decide)) ?_
      refine mw_iinc_2 dX1_noteLasts_56 (by decide) rfl ?_
      refine mw_goto (tgt := 10) dX1_noteLasts_59 (by decide) ?_
      rw [show nI n + Int32.ofInt 1 = nI (n + 1) from nI_1 n]
      refine ih (n + 1) _ _ _ (by omega) (hF.s (by simp)) mw_gs (fun t h1 h2 => ?_)
      by_cases e : t = (ga L n).1
      · right
        exact ⟨n, by omega, by rw [e, pk_us], ⟨e.symm, hk⟩, fun i' z1 z2 => absurd z2 (by omega)⟩
      · rw [pk_un e]
        rcases hl t h1 h2 with ⟨z1, z2⟩ | ⟨i, z1, z2, z3, z4⟩
        · left
          refine ⟨z1, fun i hi => ?_⟩
          by_cases ei : i = n
          · rw [ei]; exact fun z => e z.1.symm
          · exact z2 i (by omega)
        · right
          refine ⟨i, by omega, z2, z3, fun i' y1 y2 => ?_⟩
          by_cases ei : i' = n
          · rw [ei]; exact fun z => e z.1.symm
          · exact z4 i' y1 (by omega)
    | false =>
      refine mw_if_eq (tgt := 56) dX1_noteLasts_46 (by decide) (fun _ => ?_) (fun c9 => absurd c9 (by first | decide | (rw [pk_us]; decide)))
      refine mw_iinc_2 dX1_noteLasts_56 (by decide) rfl ?_
      refine mw_goto (tgt := 10) dX1_noteLasts_59 (by decide) ?_
      rw [show nI n + Int32.ofInt 1 = nI (n + 1) from nI_1 n]
      refine ih (n + 1) _ _ _ (by omega) hF hg (fun t h1 h2 => ?_)
      rcases hl t h1 h2 with ⟨z1, z2⟩ | ⟨i, z1, z2, z3, z4⟩
      · left
        refine ⟨z1, fun i hi => ?_⟩
        by_cases ei : i = n
        · rw [ei]; exact fun z => by have := z.2; rw [hk] at this; exact absurd this (by decide)
        · exact z2 i (by omega)
      · right
        refine ⟨i, by omega, z2, z3, fun i' y1 y2 => ?_⟩
        by_cases ei : i' = n
        · rw [ei]; exact fun z => by have := z.2; rw [hk] at this; exact absurd this (by decide)
        · exact z4 i' y1 (by omega)
theorem y_noteLasts {c0 : Nat} {f : Nat → Int32} (hK : okK K ns) (hs : s < ns) (hS : isS H K sa s sc ck cy cd cp) (h_this : mw_g H q = some (cV q c0)) (hI : isF H (q + 1) src X L E pb pa) (h_this_lasts : mw_g H (q + 9) = some (.inl (0, (32, .inl f)))) (hne : q + 9 ≠ sc ∧ q + 9 ≠ ck ∧ q + 9 ≠ cy ∧ q + 9 ≠ cd ∧ q + 9 ≠ cp) : mw_Con mm_X1_noteLasts 3 0 0 [.ref q, .ref sc] H (fun v H' => v = .inl none ∧ yF [q + 9] H H' ∧ ∃ g, mw_g H' (q + 9) = some (.inl (0, (32, .inl g))) ∧ lsts K s L L.length g) := by
  refine gm_con pl_X1 rfl rfl (Nat.le_of_ble_eq_true rfl) rfl ?_
  refine mw_aload_n (i := 0) dX1_noteLasts_0 rfl rfl ?_
  refine mw_get dX1_noteLasts_1 fk_X1_22 h_this rfl ?_
  refine mw_iconst (v := -1) dX1_noteLasts_4 (by decide) ?_
  refine mw_callS dX1_noteLasts_5 mk_X1_69 (y_fill (x := -1) (by decide) h_this_lasts) (by decide) (Nat.le_refl _) (Nat.le_refl _) rfl rfl (Nat.le_of_ble_eq_true rfl) (fun E9 h9 q9 => ?_) (fun v9 h9 q9 => ?_)
  · cases q9.1
  obtain ⟨e9, q1, g, q2, q3⟩ := q9
  cases e9
  refine mw_iconst (v := 0) dX1_noteLasts_8 (by decide) ?_
  refine mw_istore_2 dX1_noteLasts_9 (by decide) ?_
  have hS' : isS h9 K sa s sc ck cy cd cp := by
    obtain ⟨b1, ⟨g1, b2, b3⟩, ⟨g2, b4, b5⟩, ⟨g3, b6, b7⟩, ⟨g4, b8, b9⟩⟩ := hS
    exact ⟨q1.g (S5_1 (by omega)) b1, ⟨g1, q1.g (S5_1 (by omega)) b2, b3⟩, ⟨g2, q1.g (S5_1 (by omega)) b4, b5⟩, ⟨g3, q1.g (S5_1 (by omega)) b6, b7⟩, ⟨g4, q1.g (S5_1 (by omega)) b8, b9⟩⟩
  refine mw_post (fun v h' z => ?_) (lp_nl hK hs hS' (Or.inr ⟨c0, q1.g (S5_1 (show q ≠ q + 9 by omega)) h_this⟩) (isF_FS hI q1 (by simp) (by simp) (by simp) (by simp) (by simp)) hne L.length 0 g h9 none (Nat.zero_add _) yF.rf q2 (fun t h1 h2 => Or.inl ⟨q3 t (by omega), fun i hi => absurd hi (Nat.not_lt_zero _)⟩))
  exact ⟨z.1, q1.tr z.2.1, z.2.2⟩
theorem kp_kt {j : Nat} {g : Nat → Int32} (hj : j < L.length) (h60 : L.length ≤ 60) (hok : ∀ i, i < L.length → okf (ga L i)) (hk : knb K s (ga L j) = true) (hl : lsts K s L L.length g) : (L.drop (j + 1)).all (fun z => !Pt K s (nI (ga L j).1) z) = decide (g (ga L j).1 = nI j) := by
  obtain ⟨o1, o2, -⟩ := hok j hj
  have hPt : ∀ i, i < L.length → (Pt K s (nI (ga L j).1) (ga L i) = true ↔ kt K s L i (ga L j).1) := by
    intro i hi
    constructor
    · intro h
      exact Pt_tag (hok i hi) (by omega) h
    · intro h
      exact Pt_of h.1 h.2
  have hall : (L.drop (j + 1)).all (fun z => !Pt K s (nI (ga L j).1) z) = true ↔ ∀ i, j < i → i < L.length → ¬ kt K s L i (ga L j).1 := by
    rw [List.all_eq_true]
    constructor
    · intro h i h1 h2 h3
      have hm : ga L i ∈ L.drop (j + 1) := by
        have h4 : L.drop (j + 1) = (L.drop (j + 1)).take (i - (j + 1)) ++ (L.drop (j + 1)).drop (i - (j + 1)) := (List.take_append_drop _ _).symm
        rw [h4, List.drop_drop, List.drop_eq_getElem_cons (show j + 1 + (i - (j + 1)) < L.length by omega)]
        refine List.mem_append_right _ ?_
        have e : ga L i = L[j + 1 + (i - (j + 1))]'(by omega) := by
          unfold ga
          rw [List.getD_eq_getElem?_getD, List.getElem?_eq_getElem h2]
          show L[i] = _
          congr 1
          omega
        rw [e]
        exact List.mem_cons_self
      have := h _ hm
      rw [(hPt i h2).mpr h3] at this
      exact absurd this (by decide)
    · intro h z hz
      obtain ⟨i, hi, rfl⟩ := List.getElem_of_mem hz
      rw [List.length_drop] at hi
      rw [List.getElem_drop]
      have hi2 : j + 1 + i < L.length := by omega
      have e : ga L (j + 1 + i) = L[j + 1 + i] := by
        unfold ga
        rw [List.getD_eq_getElem?_getD, List.getElem?_eq_getElem hi2]
        rfl
      rw [← e]
      cases hP : Pt K s (nI (ga L j).1) (ga L (j + 1 + i)) with
      | false => rfl
      | true => exact absurd ((hPt _ hi2).mp hP) (h _ (by omega) hi2)
  rw [Bool.eq_iff_iff, hall, decide_eq_true_eq]
  rcases hl (ga L j).1 o1 o2 with ⟨z1, z2⟩ | ⟨i, z1, z2, z3, z4⟩
  · exact absurd ⟨rfl, hk⟩ (z2 j hj)
  · rw [z2, nI_eq (by omega) (by omega)]
    constructor
    · intro h
      rcases Nat.lt_trichotomy i j with y | y | y
      · exact absurd ⟨rfl, hk⟩ (z4 j y hj)
      · exact y
      · exact absurd z3 (h i y z1)
    · intro h
      rw [h] at z4
      exact z4
theorem y_isToldBy {c0 j : Nat} {g : Nat → Int32} (hS : isS H K sa s sc ck cy cd cp) (h_this : mw_g H q = some (cV q c0)) (hI : isF H (q + 1) src X L E pb pa) (h_this_lasts : mw_g H (q + 9) = some (.inl (0, (32, .inl g)))) (hl : lsts K s L L.length g) (hj : j < L.length) (hk : knb K s (ga L j) = true) : mw_Con mm_X1_isToldBy 4 0 0 [.ref q, .ref sc, .int (nI j)] H (mw_ret (.int (if kp K s L j then 1 else 0)) H) := by
  have hI0 := hI
  have h_p1 := hS.1
  obtain ⟨h60, nx, lm, f1, f2, f3, f4, h_this_fields, -, -⟩ := hI
  have hok : ∀ i, i < L.length → okf (ga L i) := fun i hi => (isF_ok hI0 hi).1
  obtain ⟨o1, o2, -⟩ := hok j hj
  have hkp : kp K s L j = (decide (g (ga L j).1 = nI j) && !dfb K s (ga L j).1 (ga L j)) := by
    unfold kp
    rw [hk, kp_kt hj h60 hok hk hl]
    rfl
  rw [hkp]
  refine gm_con pl_X1 rfl rfl (Nat.le_of_ble_eq_true rfl) rfl ?_
  refine mw_aload_n (i := 0) dX1_isToldBy_0 rfl rfl ?_
  refine mw_get dX1_isToldBy_1 fk_X1_12 h_this rfl ?_
  refine mw_iload_n (i := 2) dX1_isToldBy_4 rfl rfl ?_
  refine mw_callVr dX1_isToldBy_5 mk_X1_75 h_this_fields rfl (y_tagAt hI0 hj) (by decide) (Nat.le_refl _) (Nat.le_refl _) rfl rfl (Nat.le_of_ble_eq_true rfl) ?_
  refine mw_istore_3 dX1_isToldBy_8 (by decide) ?_
  refine mw_iload_n (i := 3) dX1_isToldBy_9 rfl rfl ?_
  refine mw_callSNr dX1_isToldBy_10 mk_X1_78 (y_isTag (nI (ga L j).1)) (by decide) (Nat.le_refl _) (Nat.le_refl _) rfl rfl (Nat.le_of_ble_eq_true rfl) ?_
  refine mw_if_eq (tgt := 46) dX1_isToldBy_13 (by decide) (fun c9 => absurd c9 (by rw [zTag_of o1 o2]; decide)) (fun _ => ?_)
  refine mw_aload_n (i := 0) dX1_isToldBy_16 rfl rfl ?_
  refine mw_get dX1_isToldBy_17 fk_X1_22 h_this rfl ?_
  refine mw_iload_n (i := 3) dX1_isToldBy_20 rfl rfl ?_
  refine mw_iald dX1_isToldBy_21 h_this_lasts (mw_ix rfl (show (ga L j).1 < 32 by omega) (by decide)) ?_
  refine mw_iload_n (i := 2) dX1_isToldBy_22 rfl rfl ?_
  by_cases h1 : g (ga L j).1 = nI j
  · rw [decide_eq_true h1]
    refine mw_icmp_ne (tgt := 46) dX1_isToldBy_23 (by decide) (fun c9 => absurd c9 (fun z => z h1)) (fun _ => ?_)
    refine mw_aload_n (i := 1) dX1_isToldBy_26 rfl rfl ?_
    refine mw_iload_n (i := 3) dX1_isToldBy_27 rfl rfl ?_
    refine mw_aload_n (i := 0) dX1_isToldBy_28 rfl rfl ?_
    refine mw_get dX1_isToldBy_29 fk_X1_12 h_this rfl ?_
    refine mw_iload_n (i := 2) dX1_isToldBy_32 rfl rfl ?_
    refine mw_callVr dX1_isToldBy_33 mk_X1_82 h_this_fields rfl (y_numberAt hI0 hj) (by decide) (Nat.le_refl _) (Nat.le_refl _) rfl rfl (Nat.le_of_ble_eq_true rfl) ?_
    refine mw_callVr dX1_isToldBy_36 mk_X1_85 h_p1 rfl (y_isDefault hS o1 o2 (ga L j)) (by decide) (Nat.le_refl _) (Nat.le_refl _) rfl rfl (Nat.le_of_ble_eq_true rfl) ?_
    cases hd : dfb K s (ga L j).1 (ga L j) with
    | true =>
      refine mw_if_ne (tgt := 46) dX1_isToldBy_39 (by decide) (fun _ => ?_) (fun c9 => absurd c9 (by first | decide | (rw [pk_us]; decide)))
      refine mw_iconst (v := 0) dX1_isToldBy_46 (by decide) ?_
      exact mw_ireturn dX1_isToldBy_47 ⟨_, rfl, rfl⟩ ⟨rfl, rfl⟩
    | false =>
      refine mw_if_ne (tgt := 46) dX1_isToldBy_39 (by decide) (fun c9 => absurd c9 (by first | decide | (rw [pk_us]; decide))) (fun _ => ?_)
      refine mw_iconst (v := 1) dX1_isToldBy_42 (by decide) ?_
      refine mw_goto (tgt := 47) dX1_isToldBy_43 (by decide) ?_
      exact mw_ireturn dX1_isToldBy_47 ⟨_, rfl, rfl⟩ ⟨rfl, rfl⟩
  · rw [decide_eq_false h1]
    refine mw_icmp_ne (tgt := 46) dX1_isToldBy_23 (by decide) (fun _ => ?_) (fun c9 => absurd c9 h1)
    refine mw_iconst (v := 0) dX1_isToldBy_46 (by decide) ?_
    exact mw_ireturn dX1_isToldBy_47 ⟨_, rfl, rfl⟩ ⟨rfl, rfl⟩
theorem holds_at {f : Nat → Int32} {P Q : List Nat} {x : Nat} (h : holds f (P ++ x :: Q)) : f P.length = nI x := by
  have := h P.length (by rw [List.length_append, List.length_cons]; omega)
  rw [this, List.getD_eq_getElem?_getD, List.getElem?_append_right (Nat.le_refl _), Nat.sub_self]
  rfl
theorem holds_put {f : Nat → Int32} {P Q : List Nat} {x y : Nat} (h : holds f (P ++ x :: Q)) : holds (upd f P.length (nI y)) (P ++ y :: Q) := by
  intro j hj
  rw [List.length_append, List.length_cons] at hj
  by_cases e : j = P.length
  · subst e
    rw [pk_us, List.getD_eq_getElem?_getD, List.getElem?_append_right (Nat.le_refl _), Nat.sub_self]
    rfl
  · rw [pk_un e, h j (by rw [List.length_append, List.length_cons]; omega)]
    congr 1
    rw [List.getD_eq_getElem?_getD, List.getD_eq_getElem?_getD]
    by_cases e2 : j < P.length
    · rw [List.getElem?_append_left e2, List.getElem?_append_left e2]
    · rw [List.getElem?_append_right (by omega), List.getElem?_append_right (by omega)]
      obtain ⟨i, hi⟩ : ∃ i, j - P.length = i + 1 := ⟨j - P.length - 1, by omega⟩
      rw [hi]
      rfl
theorem lp_in {A B : List Nat} {j c : Nat} (hc : c = A.length + B.length) (hc60 : c < 60) (hj : j < L.length) (hA : ∀ i ∈ A, i < L.length ∧ (ga L i).1 ≤ (ga L j).1) (hB : ∀ i ∈ B, i < L.length ∧ (ga L j).1 < (ga L i).1) : ∀ (n x : Nat) (B1 B2 : List Nat) (f : Nat → Int32) (H : mw_H), B1.length = n → B = B1 ++ B2 → mw_g H q = some (cV q c) → isF H (q + 1) src X L E pb pa → mw_g H (q + 8) = some (.inl (0, (60, .inl f))) → holds f (A ++ B1 ++ x :: B2) →
    mw_W mm_X1_insert 2 0 0 22 [some (.ref q), some (.int (nI j)), some (.int (nI (A.length + n)))] [] H (fun v H' => v = .inl none ∧ yF [q, q + 8] H H' ∧ mw_g H' q = some (cV q (c + 1)) ∧ ∃ f, mw_g H' (q + 8) = some (.inl (0, (60, .inl f))) ∧ holds f (A ++ j :: B)) := by
  intro n
  induction n with
  | zero =>
    intro x B1 B2 f H hn hBB h_this hI h_this_order hh
    have hB1 : B1 = [] := List.length_eq_zero_iff.mp hn
    subst hB1
    rw [List.append_nil] at hh
    have hBB : B = B2 := hBB
    subst hBB
    rw [Nat.add_zero]
    have hend : mw_W mm_X1_insert 2 0 0 72 [some (.ref q), some (.int (nI j)), some (.int (nI A.length))] [] H (fun v H' => v = .inl none ∧ yF [q, q + 8] H H' ∧ mw_g H' q = some (cV q (c + 1)) ∧ ∃ f, mw_g H' (q + 8) = some (.inl (0, (60, .inl f))) ∧ holds f (A ++ j :: B)) := by
      refine mw_aload_n (i := 0) dX1_insert_72 rfl rfl ?_
      refine mw_get dX1_insert_73 fk_X1_18 h_this rfl ?_
      refine mw_iload_n (i := 2) dX1_insert_76 rfl rfl ?_
      refine mw_iload_n (i := 1) dX1_insert_77 rfl rfl ?_
      refine mw_iast dX1_insert_78 h_this_order (mw_ix rfl (show A.length < 60 by omega) (by decide)) ?_
      refine mw_aload_n (i := 0) dX1_insert_79 rfl rfl ?_
      refine mw_dup dX1_insert_80 rfl ?_
      refine mw_get dX1_insert_81 fk_X1_39 ((mw_go (by omega)).trans h_this) rfl ?_
      refine mw_iconst (v := 1) dX1_insert_84 (by decide) ?_
      refine mw_iadd dX1_insert_85 ?_
      refine mw_put dX1_insert_86 fk_X1_39 ((mw_go (by omega)).trans h_this) (Nat.le_of_ble_eq_true rfl) (fun _ => ⟨rfl, rfl⟩) ?_
      exact mw_return dX1_insert_89 rfl ⟨rfl, (yF.rf.s (by simp)).s (by simp), mw_gs.trans (by rw [nI_1 c]; rfl), _, (mw_go (by omega)).trans mw_gs, holds_put hh⟩
    rcases Nat.eq_zero_or_pos A.length with z | z
    · refine mw_iload_n (i := 2) dX1_insert_22 rfl rfl ?_
      refine mw_if_le (tgt := 72) dX1_insert_23 (by decide) (fun _ => ?_) (fun c9 => absurd c9 (fun y => y (by rw [z]; decide)))
      exact hend
    · obtain ⟨A', a, rfl⟩ : ∃ A' a, A = A' ++ [a] := by
        rcases List.eq_nil_or_concat A with h | ⟨A', a, h⟩
        · rw [h] at z; exact absurd z (by decide)
        · exact ⟨A', a, by rw [h, List.concat_eq_append]⟩
      have hI0 := hI
      obtain ⟨ha1, ha2⟩ := hA a (by simp)
      have hlA : (A' ++ [a]).length = A'.length + 1 := by rw [List.length_append]; rfl
      obtain ⟨h60, nx, lm, f1, f2, f3, f4, h_this_fields, -, -⟩ := hI
      rw [List.append_assoc] at hh
      have hfa : f A'.length = nI a := holds_at hh
      have o1 := (isF_ok hI0 ha1).1.2.1
      have o2 := (isF_ok hI0 hj).1.2.1
      refine mw_iload_n (i := 2) dX1_insert_22 rfl rfl ?_
      refine mw_if_le (tgt := 72) dX1_insert_23 (by decide) (fun c9 => absurd c9 (nI_nle z (by omega))) (fun _ => ?_)
      refine mw_aload_n (i := 0) dX1_insert_26 rfl rfl ?_
      refine mw_get dX1_insert_27 fk_X1_12 h_this rfl ?_
      refine mw_aload_n (i := 0) dX1_insert_30 rfl rfl ?_
      refine mw_get dX1_insert_31 fk_X1_18 h_this rfl ?_
      refine mw_iload_n (i := 2) dX1_insert_34 rfl rfl ?_
      refine mw_iconst (v := 1) dX1_insert_35 (by decide) ?_
      refine mw_isub dX1_insert_36 ?_
      rw [hlA, nI_pred]
      refine mw_iald dX1_insert_37 h_this_order (mw_ix rfl (show A'.length < 60 by omega) (by decide)) ?_
      rw [hfa]
      refine mw_callVr dX1_insert_38 mk_X1_75 h_this_fields rfl (y_tagAt hI0 ha1) (by decide) (Nat.le_refl _) (Nat.le_refl _) rfl rfl (Nat.le_of_ble_eq_true rfl) ?_
      refine mw_aload_n (i := 0) dX1_insert_41 rfl rfl ?_
      refine mw_get dX1_insert_42 fk_X1_12 h_this rfl ?_
      refine mw_iload_n (i := 1) dX1_insert_45 rfl rfl ?_
      refine mw_callVr dX1_insert_46 mk_X1_75 h_this_fields rfl (y_tagAt hI0 hj) (by decide) (Nat.le_refl _) (Nat.le_refl _) rfl rfl (Nat.le_of_ble_eq_true rfl) ?_
      refine mw_icmp_le (tgt := 72) dX1_insert_49 (by decide) (fun _ => ?_) (fun c9 => absurd c9 (fun y => y (nI_le ha2 (by omega))))
      rw [hlA] at hend
      exact hend
  | succ n ih =>
    intro x B1 B2 f H hn hBB h_this hI h_this_order hh
    obtain ⟨B1', b, rfl⟩ : ∃ A' a, B1 = A' ++ [a] := by
      rcases List.eq_nil_or_concat B1 with h | ⟨A', a, h⟩
      · rw [h] at hn; exact absurd hn (by simp)
      · exact ⟨A', a, by rw [h, List.concat_eq_append]⟩
    have hn' : B1'.length = n := by rw [List.length_append] at hn; exact Nat.succ.inj hn
    obtain ⟨hb1, hb2⟩ := hB b (by rw [hBB]; simp)
    have hl2 : B.length = n + 1 + B2.length := by rw [hBB, List.length_append, hn]
    have hI0 := hI
    obtain ⟨h60, nx, lm, f1, f2, f3, f4, h_this_fields, -, -⟩ := hI
    have hh' : holds f ((A ++ B1') ++ b :: (x :: B2)) := by
      rw [← List.append_assoc A B1' [b], List.append_assoc (A ++ B1') [b]] at hh
      exact hh
    have hAB : (A ++ B1').length = A.length + n := by rw [List.length_append, hn']
    have hfb : f (A.length + n) = nI b := by rw [← hAB]; exact holds_at hh'
    have o1 := (isF_ok hI0 hb1).1.2.1
    refine mw_iload_n (i := 2) dX1_insert_22 rfl rfl ?_
    refine mw_if_le (tgt := 72) dX1_insert_23 (by decide) (fun c9 => absurd c9 (nI_nle (show 0 < A.length + (n + 1) by omega) (by omega))) (fun _ => ?_)
    refine mw_aload_n (i := 0) dX1_insert_26 rfl rfl ?_
    refine mw_get dX1_insert_27 fk_X1_12 h_this rfl ?_
    refine mw_aload_n (i := 0) dX1_insert_30 rfl rfl ?_
    refine mw_get dX1_insert_31 fk_X1_18 h_this rfl ?_
    refine mw_iload_n (i := 2) dX1_insert_34 rfl rfl ?_
    refine mw_iconst (v := 1) dX1_insert_35 (by decide) ?_
    refine mw_isub dX1_insert_36 ?_
    rw [← Nat.add_assoc, nI_pred]
    refine mw_iald dX1_insert_37 h_this_order (mw_ix rfl (show A.length + n < 60 by omega) (by decide)) ?_
    rw [hfb]
    refine mw_callVr dX1_insert_38 mk_X1_75 h_this_fields rfl (y_tagAt hI0 hb1) (by decide) (Nat.le_refl _) (Nat.le_refl _) rfl rfl (Nat.le_of_ble_eq_true rfl) ?_
    refine mw_aload_n (i := 0) dX1_insert_41 rfl rfl ?_
    refine mw_get dX1_insert_42 fk_X1_12 h_this rfl ?_
    refine mw_iload_n (i := 1) dX1_insert_45 rfl rfl ?_
    refine mw_callVr dX1_insert_46 mk_X1_75 h_this_fields rfl (y_tagAt hI0 hj) (by decide) (Nat.le_refl _) (Nat.le_refl _) rfl rfl (Nat.le_of_ble_eq_true rfl) ?_
    refine mw_icmp_le (tgt := 72) dX1_insert_49 (by decide) (fun c9 => absurd c9 (nI_ge hb2 (by omega))) (fun _ => ?_)
    refine mw_aload_n (i := 0) dX1_insert_52 rfl rfl ?_
    refine mw_get dX1_insert_53 fk_X1_18 h_this rfl ?_
    refine mw_iload_n (i := 2) dX1_insert_56 rfl rfl ?_
    refine mw_aload_n (i := 0) dX1_insert_57 rfl rfl ?_
    refine mw_get dX1_insert_58 fk_X1_18 h_this rfl ?_
    refine mw_iload_n (i := 2) dX1_insert_61 rfl rfl ?_
    refine mw_iconst (v := 1) dX1_insert_62 (by decide) ?_
    refine mw_isub dX1_insert_63 ?_
    rw [nI_pred]
    refine mw_iald dX1_insert_64 h_this_order (mw_ix rfl (show A.length + n < 60 by omega) (by decide)) ?_
    rw [hfb]
    refine mw_iast dX1_insert_65 h_this_order (mw_ix rfl (show A.length + n + 1 < 60 by omega) (by decide)) ?_
    refine mw_iinc_2 dX1_insert_66 (by decide) rfl ?_
    refine mw_goto (tgt := 22) dX1_insert_69 (by decide) ?_
    rw [show nI (A.length + n + 1) + Int32.ofInt (-1) = nI (A.length + n) from pk_m1 _]
    have hh2 : holds (upd f (A.length + n + 1) (nI b)) ((A ++ B1') ++ b :: (b :: B2)) := by
      have h3 : holds f ((A ++ B1' ++ [b]) ++ x :: B2) := by
        rw [List.append_assoc]
        exact hh'
      have h4 := holds_put (y := b) h3
      rw [List.length_append, hAB, List.append_assoc] at h4
      exact h4
    have hF : yF [q + 8] H (mw_s H (q + 8) (.inl (0, (60, .inl (upd f (A.length + n + 1) (nI b)))))) := yF.rf.s (by simp)
    refine mw_post (fun v h' z => ?_) (ih b B1' (b :: B2) _ _ hn' (by rw [hBB, List.append_assoc]; rfl) (hF.g (S5_1 (by omega)) h_this) (isF_FS hI0 hF (by simp) (by simp) (by simp) (by simp) (by simp)) mw_gs hh2)
    exact ⟨z.1, (hF.mo (by simp)).tr z.2.1, z.2.2⟩
theorem y_insert {A B : List Nat} {j c : Nat} {f : Nat → Int32} (hc : c = A.length + B.length) (hc60 : c < 60) (hj : j < L.length) (hA : ∀ i ∈ A, i < L.length ∧ (ga L i).1 ≤ (ga L j).1) (hB : ∀ i ∈ B, i < L.length ∧ (ga L j).1 < (ga L i).1) (h_this : mw_g H q = some (cV q c)) (hI : isF H (q + 1) src X L E pb pa) (ho : mw_g H (q + 8) = some (.inl (0, (60, .inl f)))) (hh : holds f (A ++ B)) :
    mw_Con mm_X1_insert 2 0 0 [.ref q, .int (nI j)] H (fun v H' => v = .inl none ∧ yF [q, q + 8] H H' ∧ mw_g H' q = some (cV q (c + 1)) ∧ ∃ f, mw_g H' (q + 8) = some (.inl (0, (60, .inl f))) ∧ holds f (A ++ j :: B)) := by
  refine gm_con pl_X1 rfl rfl (Nat.le_of_ble_eq_true rfl) rfl ?_
  refine mw_aload_n (i := 0) dX1_insert_0 rfl rfl ?_
  refine mw_get dX1_insert_1 fk_X1_39 h_this rfl ?_
  refine mw_if_lt (tgt := 16) dX1_insert_4 (by decide) (fun c9 => absurd c9 (nI_pos (by omega))) (fun _ => ?_)
  refine mw_aload_n (i := 0) dX1_insert_7 rfl rfl ?_
  refine mw_get dX1_insert_8 fk_X1_39 h_this rfl ?_
  refine mw_bipush (v := 60) dX1_insert_11 (by decide) ?_
  refine mw_icmp_lt (tgt := 17) dX1_insert_13 (by decide) (fun _ => ?_) (fun c9 => absurd c9 (fun z => z (show nI c < nI 60 from nI_lt hc60 (by decide))))
  refine mw_aload_n (i := 0) dX1_insert_17 rfl rfl ?_
  refine mw_get dX1_insert_18 fk_X1_39 h_this rfl ?_
  refine mw_istore_2 dX1_insert_21 (by decide) ?_
  rw [hc]
  refine lp_in rfl (by omega) hj hA hB B.length (uN (f c)) B [] f H rfl (List.append_nil _).symm (by rw [← hc]; exact h_this) hI ho ?_
  intro i hi
  rw [List.length_append] at hi
  have hi : i < (A ++ B).length + 1 := hi
  by_cases e : i = (A ++ B).length
  · rw [List.getD_eq_getElem?_getD, List.getElem?_append_right (by omega), e, Nat.sub_self]
    show f (A ++ B).length = nI (uN (f c))
    rw [nI_uN, hc, List.length_append]
  · have h9 : (A ++ B ++ [uN (f c)])[i]? = (A ++ B)[i]? := List.getElem?_append_left (by omega)
    rw [hh i (by omega), List.getD_eq_getElem?_getD, List.getD_eq_getElem?_getD, h9]
end C15
