/-! the class side: a row scanned (class side) -/
def ga (L : List af) (j : Nat) : af := L.getD j (0, 0, 0, [])
theorem ga_last {L : List af} {x : af} : ga (L ++ [x]) L.length = x := by
  unfold ga
  rw [List.getD_eq_getElem?_getD, List.getElem?_append_right (Nat.le_refl _), Nat.sub_self]
  rfl
theorem ga_app {L L' : List af} {j : Nat} (h : j < L.length) : ga (L ++ L') j = ga L j := by
  unfold ga
  rw [List.getD_eq_getElem?_getD, List.getD_eq_getElem?_getD, List.getElem?_append_left h]
theorem ga_mem {L : List af} {j : Nat} (h : j < L.length) : ga L j ∈ L := by
  unfold ga
  rw [List.getD_eq_getElem?_getD, List.getElem?_eq_getElem h]
  exact List.getElem_mem h
/-- the arrays hold the fields L, which end at E in the row X -/
def hF (X : List Nat) (f1 f2 f3 f4 : Nat → Int32) (L : List af) (E : Nat → Nat) : Prop := ∀ j, j < L.length → f1 j = nI (ga L j).1 ∧ f2 j = nI (ga L j).2.1 ∧ f3 j = nI (ga L j).2.2.1 ∧ f4 j = nI (E j) ∧ E j ≤ X.length ∧ okf (ga L j) ∧ (ga L j).2.2.2.length ≤ E j ∧ (X.drop (E j - (ga L j).2.2.2.length)).take (ga L j).2.2.2.length = (ga L j).2.2.2
theorem hF_snoc {X : List Nat} {f1 f2 f3 f4 : Nat → Int32} {L : List af} {E : Nat → Nat} {x : af} {q : Nat} (h : hF X f1 f2 f3 f4 L E) (hx : okf x) (hq : q ≤ X.length) (hl : x.2.2.2.length ≤ q) (hb : (X.drop (q - x.2.2.2.length)).take x.2.2.2.length = x.2.2.2) : hF X (upd f1 L.length (nI x.1)) (upd f2 L.length (nI x.2.1)) (upd f3 L.length (nI x.2.2.1)) (upd f4 L.length (nI q)) (L ++ [x]) (fun j => if j = L.length then q else E j) := by
  intro j hj
  rw [List.length_append] at hj
  have hj : j < L.length + 1 := hj
  by_cases e : j = L.length
  · subst e
    rw [ga_last, pk_us, pk_us, pk_us, pk_us]
    dsimp only
    rw [if_pos rfl]
    exact ⟨rfl, rfl, rfl, rfl, hq, hx, hl, hb⟩
  · rw [ga_app (by omega), pk_un e, pk_un e, pk_un e, pk_un e]
    dsimp only
    rw [if_neg e]
    exact h j (by omega)
/-- at a the fields L, which end at E in the row X of the object src -/
def isF (H : mw_H) (a src : Nat) (X : List Nat) (L : List af) (E : Nat → Nat) (pb pa : Int32) : Prop := L.length ≤ 60 ∧ ∃ nx lm f1 f2 f3 f4, mw_g H a = some (fV a L.length src nx lm pb pa) ∧ aF H a f1 f2 f3 f4 ∧ hF X f1 f2 f3 f4 L E
/-- room for fields -/
def isF0 (H : mw_H) (a : Nat) : Prop := ∃ k s nx lm pb pa f1 f2 f3 f4, mw_g H a = some (fV a k s nx lm pb pa) ∧ aF H a f1 f2 f3 f4
theorem isF.r {H : mw_H} {a src : Nat} {X : List Nat} {L : List af} {E : Nat → Nat} {pb pa : Int32} (h : isF H a src X L E pb pa) : isF0 H a := by
  obtain ⟨-, nx, lm, f1, f2, f3, f4, h1, h2, -⟩ := h
  exact ⟨_, _, _, _, _, _, _, _, _, _, h1, h2⟩
theorem isF_FS {S : List Nat} {H H' : mw_H} {a src : Nat} {X : List Nat} {L : List af} {E : Nat → Nat} {pb pa : Int32} (h : isF H a src X L E pb pa) (hF : yF S H H') (h0 : a ∉ S) (h1 : a + 1 ∉ S) (h2 : a + 2 ∉ S) (h3 : a + 3 ∉ S) (h4 : a + 4 ∉ S) : isF H' a src X L E pb pa := by
  obtain ⟨hl, nx, lm, f1, f2, f3, f4, g1, g2, g3⟩ := h
  exact ⟨hl, nx, lm, f1, f2, f3, f4, hF.g h0 g1, aF_F g2 hF h1 h2 h3 h4, g3⟩
theorem isF0_FS {S : List Nat} {H H' : mw_H} {a : Nat} (h : isF0 H a) (hF : yF S H H') (h0 : a ∉ S) (h1 : a + 1 ∉ S) (h2 : a + 2 ∉ S) (h3 : a + 3 ∉ S) (h4 : a + 4 ∉ S) : isF0 H' a := by
  obtain ⟨k, s, nx, lm, pb, pa, f1, f2, f3, f4, g1, g2⟩ := h
  exact ⟨k, s, nx, lm, pb, pa, f1, f2, f3, f4, hF.g h0 g1, aF_F g2 hF h1 h2 h3 h4⟩
theorem bys_dt {X : List Nat} {p n : Nat} (h : p + n ≤ X.length) : bys (bX X) p n = (X.drop p).take n := by
  have hl : ((X.drop p).take n).length = n := by rw [List.length_take, List.length_drop]; omega
  refine eq_getD (by rw [bys_len, hl]) (fun k hk => ?_)
  rw [bys_len] at hk
  rw [← bys_row (bX X) p n k (by rw [bys_len]; exact hk), List.getD_eq_getElem?_getD, List.getElem?_take_of_lt hk, List.getElem?_drop, ← List.getD_eq_getElem?_getD]
section C9
variable {H : mw_H} {a src cs e : Nat} {X : List Nat}
/-- what scanning a row leaves -/
def zC (H : mw_H) (a src : Nat) (X : List Nat) (L : List af) (r : List af × Nat × Nat) : mw_P := fun v H' => v = .inl none ∧ yF (S5 a) H H' ∧ ∃ E, isF H' a src X (L ++ r.1) E (nI r.2.1) (if r.2.1 = 0 then -1 else nI r.2.2)
theorem S5_B {H : mw_H} {a src cs : Nat} {X : List Nat} {v : List Value} {f1 f2 f3 f4 : Nat → Int32} (hB : isB H src cs X) (h : mw_g H a = some (.inr (2, v))) (hA : aF H a f1 f2 f3 f4) : src ∉ S5 a ∧ cs ∉ S5 a := by
  obtain ⟨f0, hf0, -⟩ := hB.2.2.2
  obtain ⟨h1, h2, h3, h4⟩ := hA
  have a0 := g_ne hB.1 h (fun z => by cases z)
  have a1 := g_ne hB.1 h1 (fun z => by cases z)
  have a2 := g_ne hB.1 h2 (fun z => by cases z)
  have a3 := g_ne hB.1 h3 (fun z => by cases z)
  have a4 := g_ne hB.1 h4 (fun z => by cases z)
  have b0 := g_ne hf0 h (fun z => by cases z)
  have b1 := g_ne hf0 h1 (fun z => by cases z)
  have b2 := g_ne hf0 h2 (fun z => by cases z)
  have b3 := g_ne hf0 h3 (fun z => by cases z)
  have b4 := g_ne hf0 h4 (fun z => by cases z)
  unfold S5
  simp only [List.mem_cons, List.not_mem_nil, or_false, not_or]
  exact ⟨⟨a0, a1, a2, a3, a4⟩, ⟨b0, b1, b2, b3, b4⟩⟩
theorem lp_sc (hX : X.length ≤ 256) (he : e ≤ X.length) (x1 x2 x3 : Option Value) : ∀ (N i p : Nat) (L : List af) (E : Nat → Nat) (H : mw_H) (f1 f2 f3 f4 : Nat → Int32) (x5 : Option Value), i + N = 60 → L.length = i → p ≤ e → mw_g H a = some (fV a i src (nI p) (nI e) 0 (-1)) → aF H a f1 f2 f3 f4 → hF X f1 f2 f3 f4 L E → isB H src cs X →
    mw_W mm_X2_scan 3 0 0 33 [some (.ref a), x1, x2, x3, some (.int (nI i)), x5] [] H (zC H a src X L (prs (bX X) e N p)) := by
  intro N
  induction N with
  | zero =>
    intro i p L E H f1 f2 f3 f4 x5 hi hL hp h_this hA hh hB
    have hi : i = 60 := hi
    subst hi
    refine mw_iload (i := 4) dX2_scan_33 rfl ?_
    refine mw_bipush (v := 60) dX2_scan_35 (by decide) ?_
    refine mw_icmp_ge (tgt := 91) dX2_scan_37 (by decide) (fun _ => ?_) (fun c9 => absurd c9 (by first | decide | (rw [pk_us]; decide)))
    refine mw_return dX2_scan_91 rfl ⟨rfl, yF.rf, E, ?_⟩
    show isF H a src X (L ++ []) E 0 (-1)
    rw [List.append_nil]
    exact ⟨by omega, _, _, f1, f2, f3, f4, by rw [hL]; exact h_this, hA, hh⟩
  | succ N ih =>
    intro i p L E H f1 f2 f3 f4 x5 hi hL hp h_this hA hh hB
    have hbX : ∀ i, bX X i < 256 := getD_lt hB.2.2.1
    obtain ⟨s1, s2⟩ := S5_B hB h_this hA
    have hunf : prs (bX X) e (N + 1) p = if e ≤ p then ([], 0, 0) else if (pf (bX X) e p).1 = 0 then (mkf (bX X) (pf (bX X) e p) :: (prs (bX X) e N (pf (bX X) e p).2.1).1, (prs (bX X) e N (pf (bX X) e p).2.1).2) else ([], (pf (bX X) e p).1, p) := rfl
    rw [hunf]
    by_cases hpe : e ≤ p
    · rw [if_pos hpe]
      refine mw_iload (i := 4) dX2_scan_33 rfl ?_
      refine mw_bipush (v := 60) dX2_scan_35 (by decide) ?_
      refine mw_icmp_ge (tgt := 91) dX2_scan_37 (by decide) (fun c9 => absurd c9 (show ¬ nI 60 ≤ nI i from nI_ge (by omega) (by decide))) (fun _ => ?_)
      refine mw_aload_n (i := 0) dX2_scan_40 rfl rfl ?_
      refine mw_get dX2_scan_41 fk_X2_35 h_this rfl ?_
      refine mw_aload_n (i := 0) dX2_scan_44 rfl rfl ?_
      refine mw_get dX2_scan_45 fk_X2_38 h_this rfl ?_
      refine mw_icmp_ge (tgt := 91) dX2_scan_48 (by decide) (fun _ => ?_) (fun c9 => absurd c9 (fun z => z (nI_le hpe (by omega))))
      refine mw_return dX2_scan_91 rfl ⟨rfl, yF.rf, E, ?_⟩
      show isF H a src X (L ++ []) E 0 (-1)
      rw [List.append_nil]
      exact ⟨by omega, _, _, f1, f2, f3, f4, by rw [hL]; exact h_this, hA, hh⟩
    · rw [if_neg hpe]
      refine mw_iload (i := 4) dX2_scan_33 rfl ?_
      refine mw_bipush (v := 60) dX2_scan_35 (by decide) ?_
      refine mw_icmp_ge (tgt := 91) dX2_scan_37 (by decide) (fun c9 => absurd c9 (show ¬ nI 60 ≤ nI i from nI_ge (by omega) (by decide))) (fun _ => ?_)
      refine mw_aload_n (i := 0) dX2_scan_40 rfl rfl ?_
      refine mw_get dX2_scan_41 fk_X2_35 h_this rfl ?_
      refine mw_aload_n (i := 0) dX2_scan_44 rfl rfl ?_
      refine mw_get dX2_scan_45 fk_X2_38 h_this rfl ?_
      refine mw_icmp_ge (tgt := 91) dX2_scan_48 (by decide) (fun c9 => absurd c9 (nI_ge (show p < e by omega) (by omega))) (fun _ => ?_)
      refine mw_aload_n (i := 0) dX2_scan_51 rfl rfl ?_
      refine mw_get dX2_scan_52 fk_X2_44 h_this rfl ?_
      refine mw_if_ne (tgt := 91) dX2_scan_55 (by decide) (fun c9 => absurd c9 (fun z => z rfl)) (fun _ => ?_)
      refine mw_aload_n (i := 0) dX2_scan_58 rfl rfl ?_
      refine mw_get dX2_scan_59 fk_X2_35 h_this rfl ?_
      refine mw_istore_5 dX2_scan_62 (by decide) ?_
      refine mw_aload_n (i := 0) dX2_scan_64 rfl rfl ?_
      refine mw_callV dX2_scan_65 mk_X2_47 h_this rfl (y_scanField hX he hp (show i < 60 by omega) h_this hA hB) (by decide) (Nat.le_refl _) (Nat.le_refl _) rfl rfl (Nat.le_of_ble_eq_true rfl) (fun E9 h9 q9 => ?_) (fun v9 h9 q9 => ?_)
      · cases q9.1
      obtain ⟨e9, q1, q2⟩ := q9
      cases e9
      have hB1 := isB_F hB q1 s1 s2
      have hf4 := pf_f (bX X) e p
      rcases q2 with ⟨h0, q2, q3⟩ | ⟨h0, ⟨nx, q2⟩, q3⟩
      · rw [if_pos h0]
        obtain ⟨o1, o2, o3, o4, o5⟩ := pf_ok hbX hp h0
        generalize hr : pf (bX X) e p = r at *
        have h_this := q2
        refine mw_aload_n (i := 0) dX2_scan_68 rfl rfl ?_
        refine mw_aload_n (i := 0) dX2_scan_69 rfl rfl ?_
        refine mw_get dX2_scan_70 fk_X2_44 h_this rfl ?_
        refine mw_if_ne (tgt := 80) dX2_scan_73 (by decide) (fun c9 => absurd c9 (fun z => z rfl)) (fun _ => ?_)
        refine mw_iconst (v := -1) dX2_scan_76 (by decide) ?_
        refine mw_goto (tgt := 82) dX2_scan_77 (by decide) ?_
        refine mw_put dX2_scan_82 fk_X2_31 h_this (Nat.le_of_ble_eq_true rfl) (fun _ => ⟨rfl, rfl⟩) ?_
        refine mw_iinc_4 dX2_scan_85 (by decide) rfl ?_
        refine mw_goto (tgt := 33) dX2_scan_88 (by decide) ?_
        rw [show nI i + Int32.ofInt 1 = nI (i + 1) from nI_1 i]
        refine mw_heap (fun H' => mw_g H' a = some (fV a (i + 1) src (nI r.2.1) (nI e) 0 (-1)) ∧ yF (S5 a) H H' ∧ aF H' a (upd f1 i (nI r.2.2.1)) (upd f2 i (nI r.2.2.2.1)) (upd f3 i (nI r.2.2.2.2)) (upd f4 i (nI r.2.1)) ∧ isB H' src cs X) ⟨mw_gs, q1.s (by simp [S5]), aF_F q3 (yF.rf.s (S := [a]) (by simp)) (S5_1 (by omega)) (S5_1 (by omega)) (S5_1 (by omega)) (S5_1 (by omega)), isB_F hB1 (yF.rf.s (S := [a]) (by simp)) (S5_1 (fun z => s1 (by rw [z]; simp [S5]))) (S5_1 (fun z => s2 (by rw [z]; simp [S5])))⟩ (fun H2 z2 => ?_)
        obtain ⟨u1, u2, u3, u4⟩ := z2
        have hlen : (mkf (bX X) r).2.2.2.length ≤ r.2.1 ∧ (X.drop (r.2.1 - (mkf (bX X) r).2.2.2.length)).take (mkf (bX X) r).2.2.2.length = (mkf (bX X) r).2.2.2 := by
          show (if r.2.2.2.1 = 2 then bys (bX X) (r.2.1 - r.2.2.2.2) r.2.2.2.2 else []).length ≤ r.2.1 ∧ (X.drop (r.2.1 - (if r.2.2.2.1 = 2 then bys (bX X) (r.2.1 - r.2.2.2.2) r.2.2.2.2 else []).length)).take (if r.2.2.2.1 = 2 then bys (bX X) (r.2.1 - r.2.2.2.2) r.2.2.2.2 else []).length = (if r.2.2.2.1 = 2 then bys (bX X) (r.2.1 - r.2.2.2.2) r.2.2.2.2 else [])
          by_cases h2 : r.2.2.2.1 = 2
          · rw [if_pos h2, bys_len]
            have := o5 h2
            exact ⟨this, (bys_dt (by omega)).symm⟩
          · rw [if_neg h2]
            exact ⟨Nat.zero_le _, rfl⟩
        have hs := hF_snoc hh o1 (show r.2.1 ≤ X.length by omega) hlen.1 hlen.2
        rw [hL] at hs
        refine mw_post (fun v h' z => ?_) (ih (i + 1) r.2.1 (L ++ [mkf (bX X) r]) _ H2 _ _ _ _ _ (by omega) (by rw [List.length_append, hL]; rfl) o4 u1 u3 hs u4)
        obtain ⟨z1, z2, E', z3⟩ := z
        rw [List.append_assoc] at z3
        exact ⟨z1, u2.tr z2, E', z3⟩
      · rw [if_neg h0]
        generalize hr : (pf (bX X) e p).1 = F at *
        have h_this := q2
        have hnz := nb_1 h0 hf4
        have hend : isF (mw_s h9 a (fV a i src nx (nI e) (nI F) (nI p))) a src X L E (nI F) (nI p) := ⟨by omega, _, _, f1, f2, f3, f4, by rw [hL]; exact mw_gs, aF_F q3 (yF.rf.s (S := [a]) (by simp)) (S5_1 (by omega)) (S5_1 (by omega)) (S5_1 (by omega)) (S5_1 (by omega)), hh⟩
        refine mw_aload_n (i := 0) dX2_scan_68 rfl rfl ?_
        refine mw_aload_n (i := 0) dX2_scan_69 rfl rfl ?_
        refine mw_get dX2_scan_70 fk_X2_44 h_this rfl ?_
        refine mw_if_ne (tgt := 80) dX2_scan_73 (by decide) (fun _ => ?_) (fun c9 => absurd c9 hnz)
        refine mw_iload (i := 5) dX2_scan_80 rfl ?_
        refine mw_put dX2_scan_82 fk_X2_31 h_this (Nat.le_of_ble_eq_true rfl) (fun _ => ⟨rfl, rfl⟩) ?_
        refine mw_iinc_4 dX2_scan_85 (by decide) rfl ?_
        refine mw_goto (tgt := 33) dX2_scan_88 (by decide) ?_
        rw [show nI i + Int32.ofInt 1 = nI (i + 1) from nI_1 i]
        have h_this : mw_g (mw_s h9 a (fV a i src nx (nI e) (nI F) (nI p))) a = some (fV a i src nx (nI e) (nI F) (nI p)) := mw_gs
        have hout : zC H a src X L ([], F, p) (.inl none) (mw_s h9 a (fV a i src nx (nI e) (nI F) (nI p))) := by
          refine ⟨rfl, q1.s (by simp [S5]), E, ?_⟩
          show isF _ a src X (L ++ []) E (nI F) (if F = 0 then -1 else nI p)
          rw [if_neg h0, List.append_nil]
          exact hend
        show mw_W mm_X2_scan _ 0 0 33 _ [] (mw_s h9 a (fV a i src nx (nI e) (nI F) (nI p))) _
        by_cases h60 : i + 1 = 60
        · rw [h60]
          refine mw_iload (i := 4) dX2_scan_33 rfl ?_
          refine mw_bipush (v := 60) dX2_scan_35 (by decide) ?_
          refine mw_icmp_ge (tgt := 91) dX2_scan_37 (by decide) (fun _ => ?_) (fun c9 => absurd c9 (by first | decide | (rw [pk_us]; decide)))
          exact mw_return dX2_scan_91 rfl hout
        · by_cases hx : nI e ≤ nx
          · refine mw_iload (i := 4) dX2_scan_33 rfl ?_
            refine mw_bipush (v := 60) dX2_scan_35 (by decide) ?_
            refine mw_icmp_ge (tgt := 91) dX2_scan_37 (by decide) (fun c9 => absurd c9 (show ¬ nI 60 ≤ nI (i + 1) from nI_ge (by omega) (by decide))) (fun _ => ?_)
            refine mw_aload_n (i := 0) dX2_scan_40 rfl rfl ?_
            refine mw_get dX2_scan_41 fk_X2_35 h_this rfl ?_
            refine mw_aload_n (i := 0) dX2_scan_44 rfl rfl ?_
            refine mw_get dX2_scan_45 fk_X2_38 h_this rfl ?_
            refine mw_icmp_ge (tgt := 91) dX2_scan_48 (by decide) (fun _ => ?_) (fun c9 => absurd c9 (fun z => z hx))
            exact mw_return dX2_scan_91 rfl hout
          · refine mw_iload (i := 4) dX2_scan_33 rfl ?_
            refine mw_bipush (v := 60) dX2_scan_35 (by decide) ?_
            refine mw_icmp_ge (tgt := 91) dX2_scan_37 (by decide) (fun c9 => absurd c9 (show ¬ nI 60 ≤ nI (i + 1) from nI_ge (by omega) (by decide))) (fun _ => ?_)
            refine mw_aload_n (i := 0) dX2_scan_40 rfl rfl ?_
            refine mw_get dX2_scan_41 fk_X2_35 h_this rfl ?_
            refine mw_aload_n (i := 0) dX2_scan_44 rfl rfl ?_
            refine mw_get dX2_scan_45 fk_X2_38 h_this rfl ?_
            refine mw_icmp_ge (tgt := 91) dX2_scan_48 (by decide) (fun c9 => absurd c9 hx) (fun _ => ?_)
            refine mw_aload_n (i := 0) dX2_scan_51 rfl rfl ?_
            refine mw_get dX2_scan_52 fk_X2_44 h_this rfl ?_
            refine mw_if_ne (tgt := 91) dX2_scan_55 (by decide) (fun _ => ?_) (fun c9 => absurd c9 hnz)
            exact mw_return dX2_scan_91 rfl hout
theorem y_scan (hR : isF0 H a) (hB : isB H src cs X) {p : Nat} (hp : p ≤ e) (he : e ≤ X.length) : mw_Con mm_X2_scan 3 0 0 [.ref a, .ref src, .int (nI p), .int (nI e)] H (zC H a src X [] (prs (bX X) e 60 p)) := by
  obtain ⟨k, s, nx, lm, pb, pa, f1, f2, f3, f4, h_this, hA⟩ := hR
  obtain ⟨s1, s2⟩ := S5_B hB h_this hA
  refine gm_con pl_X2 rfl rfl (Nat.le_of_ble_eq_true rfl) rfl ?_
  refine mw_aload_n (i := 0) dX2_scan_0 rfl rfl ?_
  refine mw_aload_n (i := 1) dX2_scan_1 rfl rfl ?_
  refine mw_put dX2_scan_2 fk_X2_27 h_this (Nat.le_of_ble_eq_true rfl) (fun _ => ⟨rfl, rfl⟩) ?_
  refine mw_aload_n (i := 0) dX2_scan_5 rfl rfl ?_
  refine mw_iload_n (i := 2) dX2_scan_6 rfl rfl ?_
  refine mw_put dX2_scan_7 fk_X2_35 mw_gs (Nat.le_of_ble_eq_true rfl) (fun _ => ⟨rfl, rfl⟩) ?_
  refine mw_aload_n (i := 0) dX2_scan_10 rfl rfl ?_
  refine mw_iload_n (i := 3) dX2_scan_11 rfl rfl ?_
  refine mw_put dX2_scan_12 fk_X2_38 mw_gs (Nat.le_of_ble_eq_true rfl) (fun _ => ⟨rfl, rfl⟩) ?_
  refine mw_aload_n (i := 0) dX2_scan_15 rfl rfl ?_
  refine mw_iconst (v := 0) dX2_scan_16 (by decide) ?_
  refine mw_put dX2_scan_17 fk_X2_41 mw_gs (Nat.le_of_ble_eq_true rfl) (fun _ => ⟨rfl, rfl⟩) ?_
  refine mw_aload_n (i := 0) dX2_scan_20 rfl rfl ?_
  refine mw_iconst (v := 0) dX2_scan_21 (by decide) ?_
  refine mw_put dX2_scan_22 fk_X2_44 mw_gs (Nat.le_of_ble_eq_true rfl) (fun _ => ⟨rfl, rfl⟩) ?_
  refine mw_aload_n (i := 0) dX2_scan_25 rfl rfl ?_
  refine mw_iconst (v := -1) dX2_scan_26 (by decide) ?_
  refine mw_put dX2_scan_27 fk_X2_31 mw_gs (Nat.le_of_ble_eq_true rfl) (fun _ => ⟨rfl, rfl⟩) ?_
  refine mw_iconst (v := 0) dX2_scan_30 (by decide) ?_
  refine mw_istore_4 dX2_scan_31 (by decide) ?_
  refine mw_heap (fun H' => mw_g H' a = some (fV a 0 src (nI p) (nI e) 0 (-1)) ∧ yF [a] H H') ⟨mw_gs, (((((yF.rf.s (by simp)).s (by simp)).s (by simp)).s (by simp)).s (by simp)).s (by simp)⟩ (fun H2 z2 => ?_)
  obtain ⟨u1, u2⟩ := z2
  refine mw_post (fun v h' z => ?_) (lp_sc hB.2.1 he _ _ _ 60 0 p [] (fun _ => 0) H2 f1 f2 f3 f4 none rfl rfl hp u1 (aF_F hA u2 (S5_1 (by omega)) (S5_1 (by omega)) (S5_1 (by omega)) (S5_1 (by omega))) (fun j hj => absurd hj (Nat.not_lt_zero _)) (isB_F hB u2 (S5_1 (fun z => s1 (by rw [z]; simp [S5]))) (S5_1 (fun z => s2 (by rw [z]; simp [S5])))))
  exact ⟨z.1, u2.S5.tr z.2.1, z.2.2⟩
end C9
