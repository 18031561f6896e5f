/-! the law's wrappers and the class's calls (class side): written by gen/79.py -/
theorem gm_conH {y : mw_M} {d kc ks : Nat} {ls : List (Option Value)} {h : mw_H} {Po : mw_P} {as : List Value} (hy : plainName y.1.cls = true) (hn : y.2.2.2.2 ≠ []) (hcat : as.all (fun v => v.category == 1) = true) (hlen : as.length ≤ y.2.2.1) (hls : as.map some ++ List.replicate (y.2.2.1 - as.length) none = ls) (w : mw_W y d kc ks 0 ls [] h Po) : mw_Con y d kc ks as h Po :=
  mw_conH hy hn (fun v hv => by have h9 := List.all_eq_true.mp hcat v hv; simpa using h9) hlen hls w
abbrev mSc : Type := Nat × (Nat → Int32)
/-- the class holds g behind the law's arrays -/
def cS (sc : mSc) (g : mS) (H : mw_H) (A : Nat → Nat → Int32) (X : Nat → Nat → Int64) : Prop := H.2.2 = sc ∧ 55 ≤ H.1 ∧ ∃ sa ma, cC g (gl H A X) sa ma
/-- a call's end: the answer r, the class holds g' -/
def wP (sc : mSc) (A : Nat → Nat → Int32) (X : Nat → Nat → Int64) (r : Int32) (g' : mS) : mw_P := fun v h' => v = .inl (some (.int r)) ∧ ∃ H', h' = gl H' A X ∧ cS sc g' H' A X
/-- what a wrapper answers -/
def wc (cs : List Int32) (a : mA) : Int32 := if a.1 = 0 then a.2.1 else cs.getD (a.1.toNatClampNeg - 1) 0
def wc0 (cs : List Int32) (a : mA) : Int32 := if a.1 = 0 then 0 else cs.getD (a.1.toNatClampNeg - 1) 0
section LW
variable {sc : mSc} {g : mS} {H : mw_H} {A A' : Nat → Nat → Int32} {X X' : Nat → Nat → Int64}
theorem cS_gl (h : cS sc g H A X) : cS sc g H A' X' := by
  obtain ⟨h1, h2, sa, ma, h3⟩ := h
  exact ⟨h1, h2, sa, ma, cC_gl h3⟩
theorem cS_yG {g' : mS} {H' : mw_H} (h : cS sc g H A X) (hG : yG (gl H A X) H') (hc : ∃ sa ma, cC g' H' sa ma) : cS sc g' H' A X := by
  obtain ⟨sa, ma, hc⟩ := hc
  refine ⟨hG.2.1.trans h.1, Nat.le_trans h.2.1 hG.1, sa, ma, ?_⟩
  rw [← gl_yG hG]
  exact hc
theorem wP_x {H' : mw_H} {a : mA} {k : Nat} {r : Int32} {cs : List Int32} (h : cS sc g H A X) (hG : yG (gl H A X) H') (hc : ∃ sa ma, cC a.2.2 H' sa ma) (e1 : a.1 = nI (k + 1)) (hk : k < 1000) (hr : cs.getD k 0 = r) : wP sc A X (wc cs a) a.2.2 (.inl (some (.int r))) H' := by
  refine ⟨?_, H', gl_yG hG, cS_yG h hG hc⟩
  unfold wc
  rw [e1, if_neg (nI_ne0 (Nat.succ_pos k) (by omega)), nI_clamp (by omega), Nat.add_sub_cancel, hr]
theorem wP_x0 {H' : mw_H} {a : mA} {k : Nat} {r : Int32} {cs : List Int32} (h : cS sc g H A X) (hG : yG (gl H A X) H') (hc : ∃ sa ma, cC a.2.2 H' sa ma) (e1 : a.1 = nI (k + 1)) (hk : k < 1000) (hr : cs.getD k 0 = r) : wP sc A X (wc0 cs a) a.2.2 (.inl (some (.int r))) H' := by
  refine ⟨?_, H', gl_yG hG, cS_yG h hG hc⟩
  unfold wc0
  rw [e1, if_neg (nI_ne0 (Nat.succ_pos k) (by omega)), nI_clamp (by omega), Nat.add_sub_cancel, hr]
theorem wP_r {H' : mw_H} {es : List String} {a : mA} {r : Int32} {cs : List Int32} (h : cS sc g H A X) (q : cP (gl H A X) es a (.inl (some (.int r))) H') : wP sc A X (wc cs a) a.2.2 (.inl (some (.int r))) H' := by
  obtain ⟨hG, hc, ⟨z1, z2⟩ | ⟨k, -, -, z⟩⟩ := q
  · refine ⟨?_, H', gl_yG hG, cS_yG h hG hc⟩
    unfold wc
    rw [if_pos z1]
    exact z2
  · cases z
/-- a call that does not throw -/
theorem wP_d {es : List String} {a : mA} (h : cS sc g H A X) (ha : a.1 = 0) (hes : es.length ≤ 4) (v : Option Value ⊕ String) (H' : mw_H) (q : cP (gl H A X) es a v H') : wP sc A X a.2.1 a.2.2 v H' := by
  obtain ⟨hG, hc, ⟨z1, z2⟩ | ⟨k, hk, z, -⟩⟩ := q
  · exact ⟨z2, H', gl_yG hG, cS_yG h hG hc⟩
  · rw [ha] at z
    exact absurd z.symm (nI_ne0 (Nat.succ_pos k) (by omega))
theorem w_setKind (hI : cS sc g H A X) (p0 p1 p2 p3 : Int32) : mw_Con mm_L_setKind 8 1 6 [.ref 1, .int p0, .int p1, .int p2, .int p3] (gl H A X) (wP sc A X (wc [-71, -72] (sp_setKind g p0 p1 p2 p3)) (sp_setKind g p0 p1 p2 p3).2.2) := by
  refine gm_conH pl_L (by decide) rfl (Nat.le_of_ble_eq_true rfl) rfl ?_
  obtain ⟨sa, ma, hC⟩ := id hI.2.2
  have h_p0 := cC_x hC
  refine mw_aload_n (i := 0) dL_setKind_0 rfl rfl ?_
  refine mw_iload_n (i := 1) dL_setKind_1 rfl rfl ?_
  refine mw_iload_n (i := 2) dL_setKind_2 rfl rfl ?_
  refine mw_iload_n (i := 3) dL_setKind_3 rfl rfl ?_
  refine mw_iload (i := 4) dL_setKind_4 rfl ?_
  refine mw_callV dL_setKind_6 mk_L_8 h_p0 rfl (k_setKind hC p0 p1 p2 p3) (by decide) (Nat.le_refl _) (Nat.le_refl _) rfl rfl (Nat.le_of_ble_eq_true rfl) (fun E9 h9 q9 => ?_) (fun v9 h9 q9 => ?_)
  · obtain ⟨hG, hc, hk⟩ := q9
    rcases hk with ⟨-, z⟩ | ⟨k, hk, e1, e2⟩
    · cases z
    · have hk : k < 2 := hk
      have hk : k = 0 ∨ k = 1 := by omega
      rcases hk with rfl | rfl
      · cases e2
        refine mw_caught (E := eIO) (name := eIO) [] [(0, 11, 19, 16)] (0, 11, 14, 14) rfl (fun z hz => absurd hz List.not_mem_nil) (by decide) (by decide) cl_L_14 ca_10 rfl (i := 6) (Or.inr ⟨rfl, dL_setKind_14⟩) (by decide) ?_
        refine mw_bipush (v := -71) dL_setKind_16 (by decide) ?_
        exact mw_ireturn dL_setKind_18 ⟨_, rfl, rfl⟩ (wP_x hI hG hc e1 (by decide) rfl)
      · cases e2
        refine mw_caught (E := eIA) (name := eIA) [(0, 11, 14, 14)] [] (0, 11, 19, 16) rfl (fun z hz => by
          simp only [List.mem_cons, List.not_mem_nil, or_false] at hz
          subst hz
          exact ⟨by decide, _, cl_L_14, by decide +kernel⟩) (by decide) (by decide) cl_L_16 ca_9 rfl (i := 6) (Or.inr ⟨rfl, dL_setKind_19⟩) (by decide) ?_
        refine mw_bipush (v := -72) dL_setKind_21 (by decide) ?_
        exact mw_ireturn dL_setKind_23 ⟨_, rfl, rfl⟩ (wP_x hI hG hc e1 (by decide) rfl)
  · obtain ⟨r, rfl, q9⟩ := cP_v q9
    refine mw_istore_5 dL_setKind_9 (by decide) ?_
    refine mw_goto (tgt := 24) dL_setKind_11 (by decide) ?_
    refine mw_iload (i := 5) dL_setKind_24 rfl ?_
    exact mw_ireturn dL_setKind_26 ⟨_, rfl, rfl⟩ (wP_r hI q9)
theorem w_setDefault (hI : cS sc g H A X) (p0 p1 p2 : Int32) : mw_Con mm_L_setDefault 8 1 6 [.ref 1, .int p0, .int p1, .int p2] (gl H A X) (wP sc A X (wc0 [-71, -72, -73] (sp_setDefault g p0 p1 p2)) (sp_setDefault g p0 p1 p2).2.2) := by
  refine gm_conH pl_L (by decide) rfl (Nat.le_of_ble_eq_true rfl) rfl ?_
  obtain ⟨sa, ma, hC⟩ := id hI.2.2
  have h_p0 := cC_x hC
  refine mw_aload_n (i := 0) dL_setDefault_0 rfl rfl ?_
  refine mw_iload_n (i := 1) dL_setDefault_1 rfl rfl ?_
  refine mw_iload_n (i := 2) dL_setDefault_2 rfl rfl ?_
  refine mw_iload_n (i := 3) dL_setDefault_3 rfl rfl ?_
  refine mw_callV dL_setDefault_4 mk_L_18 h_p0 rfl (k_setDefault hC p0 p1 p2) (by decide) (Nat.le_refl _) (Nat.le_refl _) rfl rfl (Nat.le_of_ble_eq_true rfl) (fun E9 h9 q9 => ?_) (fun v9 h9 q9 => ?_)
  · obtain ⟨hG, hc, hk⟩ := q9
    rcases hk with ⟨-, z⟩ | ⟨k, hk, e1, e2⟩
    · cases z
    · have hk : k < 3 := hk
      have hk : k = 0 ∨ k = 1 ∨ k = 2 := by omega
      rcases hk with rfl | rfl | rfl
      · cases e2
        refine mw_caught (E := eIO) (name := eIO) [] [(0, 8, 16, 16), (0, 8, 21, 22)] (0, 8, 11, 14) rfl (fun z hz => absurd hz List.not_mem_nil) (by decide) (by decide) cl_L_14 ca_10 rfl (i := 4) (Or.inr ⟨rfl, dL_setDefault_11⟩) (by decide) ?_
        refine mw_bipush (v := -71) dL_setDefault_13 (by decide) ?_
        exact mw_ireturn dL_setDefault_15 ⟨_, rfl, rfl⟩ (wP_x0 hI hG hc e1 (by decide) rfl)
      · cases e2
        refine mw_caught (E := eIA) (name := eIA) [(0, 8, 11, 14)] [(0, 8, 21, 22)] (0, 8, 16, 16) rfl (fun z hz => by
          simp only [List.mem_cons, List.not_mem_nil, or_false] at hz
          subst hz
          exact ⟨by decide, _, cl_L_14, by decide +kernel⟩) (by decide) (by decide) cl_L_16 ca_9 rfl (i := 4) (Or.inr ⟨rfl, dL_setDefault_16⟩) (by decide) ?_
        refine mw_bipush (v := -72) dL_setDefault_18 (by decide) ?_
        exact mw_ireturn dL_setDefault_20 ⟨_, rfl, rfl⟩ (wP_x0 hI hG hc e1 (by decide) rfl)
      · cases e2
        refine mw_caught (E := eIS) (name := eIS) [(0, 8, 11, 14), (0, 8, 16, 16)] [] (0, 8, 21, 22) rfl (fun z hz => by
          simp only [List.mem_cons, List.not_mem_nil, or_false] at hz
          rcases hz with rfl | rfl
          · exact ⟨by decide, _, cl_L_14, by decide +kernel⟩
          · exact ⟨by decide, _, cl_L_16, by decide +kernel⟩) (by decide) (by decide) cl_L_22 ca_8 rfl (i := 4) (Or.inr ⟨rfl, dL_setDefault_21⟩) (by decide) ?_
        refine mw_bipush (v := -73) dL_setDefault_23 (by decide) ?_
        exact mw_ireturn dL_setDefault_25 ⟨_, rfl, rfl⟩ (wP_x0 hI hG hc e1 (by decide) rfl)
  · obtain ⟨r, rfl, q9⟩ := cP_v q9
    refine mw_pop dL_setDefault_7 rfl ?_
    refine mw_goto (tgt := 26) dL_setDefault_8 (by decide) ?_
    refine mw_iconst (v := 0) dL_setDefault_26 (by decide) ?_
    obtain ⟨hG, hc, ⟨z1, z2⟩ | ⟨k, -, -, z⟩⟩ := q9
    · exact mw_ireturn dL_setDefault_27 ⟨_, rfl, rfl⟩ ⟨by unfold wc0; rw [if_pos z1], _, gl_yG hG, cS_yG hI hG hc⟩
    · cases z
theorem w_create (hI : cS sc g H A X) (p0 : Int32) (hno1 : (sp_create g p0).1 ≠ 2) : mw_Con mm_L_create 8 5 270 [.ref 1, .int p0] (gl H A X) (wP sc A X (wc [-71, 0] (sp_create g p0)) (sp_create g p0).2.2) := by
  refine gm_conH pl_L (by decide) rfl (Nat.le_of_ble_eq_true rfl) rfl ?_
  obtain ⟨sa, ma, hC⟩ := id hI.2.2
  have h_p0 := cC_x hC
  refine mw_aload_n (i := 0) dL_create_0 rfl rfl ?_
  refine mw_iload_n (i := 1) dL_create_1 rfl rfl ?_
  refine mw_callV dL_create_2 mk_L_24 h_p0 rfl (k_create hC hI.2.1 p0) (by decide) (Nat.le_refl _) (Nat.le_refl _) rfl rfl (Nat.le_of_ble_eq_true rfl) (fun E9 h9 q9 => ?_) (fun v9 h9 q9 => ?_)
  · obtain ⟨hG, hc, hk⟩ := q9
    rcases hk with ⟨-, z⟩ | ⟨k, hk, e1, e2⟩
    · cases z
    · have hk : k < 2 := hk
      have hk : k = 0 ∨ k = 1 := by omega
      rcases hk with rfl | rfl
      · cases e2
        refine mw_caught (E := eIO) (name := eIO) [] [] (0, 6, 9, 14) rfl (fun z hz => absurd hz List.not_mem_nil) (by decide) (by decide) cl_L_14 ca_10 rfl (i := 3) (Or.inl ⟨3, rfl, rfl, dL_create_9⟩) (by decide) ?_
        refine mw_bipush (v := -71) dL_create_10 (by decide) ?_
        exact mw_ireturn dL_create_12 ⟨_, rfl, rfl⟩ (wP_x hI hG hc e1 (by decide) rfl)
      · exact absurd e1 hno1
  · obtain ⟨r, rfl, q9⟩ := cP_v q9
    refine mw_istore_2 dL_create_5 (by decide) ?_
    refine mw_goto (tgt := 13) dL_create_6 (by decide) ?_
    refine mw_iload_n (i := 2) dL_create_13 rfl rfl ?_
    exact mw_ireturn dL_create_14 ⟨_, rfl, rfl⟩ (wP_r hI q9)
theorem w_set (hI : cS sc g H A X) (p0 p1 p2 : Int32) : mw_Con mm_L_set 8 1 6 [.ref 1, .int p0, .int p1, .int p2] (gl H A X) (wP sc A X (wc0 [-71, -72, -73] (sp_set g p0 p1 p2)) (sp_set g p0 p1 p2).2.2) := by
  refine gm_conH pl_L (by decide) rfl (Nat.le_of_ble_eq_true rfl) rfl ?_
  obtain ⟨sa, ma, hC⟩ := id hI.2.2
  have h_p0 := cC_x hC
  refine mw_aload_n (i := 0) dL_set_0 rfl rfl ?_
  refine mw_iload_n (i := 1) dL_set_1 rfl rfl ?_
  refine mw_iload_n (i := 2) dL_set_2 rfl rfl ?_
  refine mw_iload_n (i := 3) dL_set_3 rfl rfl ?_
  refine mw_callV dL_set_4 mk_L_28 h_p0 rfl (k_set hC p0 p1 p2) (by decide) (Nat.le_refl _) (Nat.le_refl _) rfl rfl (Nat.le_of_ble_eq_true rfl) (fun E9 h9 q9 => ?_) (fun v9 h9 q9 => ?_)
  · obtain ⟨hG, hc, hk⟩ := q9
    rcases hk with ⟨-, z⟩ | ⟨k, hk, e1, e2⟩
    · cases z
    · have hk : k < 3 := hk
      have hk : k = 0 ∨ k = 1 ∨ k = 2 := by omega
      rcases hk with rfl | rfl | rfl
      · cases e2
        refine mw_caught (E := eIO) (name := eIO) [] [(0, 7, 15, 16), (0, 7, 20, 22)] (0, 7, 10, 14) rfl (fun z hz => absurd hz List.not_mem_nil) (by decide) (by decide) cl_L_14 ca_10 rfl (i := 4) (Or.inr ⟨rfl, dL_set_10⟩) (by decide) ?_
        refine mw_bipush (v := -71) dL_set_12 (by decide) ?_
        exact mw_ireturn dL_set_14 ⟨_, rfl, rfl⟩ (wP_x0 hI hG hc e1 (by decide) rfl)
      · cases e2
        refine mw_caught (E := eIA) (name := eIA) [(0, 7, 10, 14)] [(0, 7, 20, 22)] (0, 7, 15, 16) rfl (fun z hz => by
          simp only [List.mem_cons, List.not_mem_nil, or_false] at hz
          subst hz
          exact ⟨by decide, _, cl_L_14, by decide +kernel⟩) (by decide) (by decide) cl_L_16 ca_9 rfl (i := 4) (Or.inr ⟨rfl, dL_set_15⟩) (by decide) ?_
        refine mw_bipush (v := -72) dL_set_17 (by decide) ?_
        exact mw_ireturn dL_set_19 ⟨_, rfl, rfl⟩ (wP_x0 hI hG hc e1 (by decide) rfl)
      · cases e2
        refine mw_caught (E := eIS) (name := eIS) [(0, 7, 10, 14), (0, 7, 15, 16)] [] (0, 7, 20, 22) rfl (fun z hz => by
          simp only [List.mem_cons, List.not_mem_nil, or_false] at hz
          rcases hz with rfl | rfl
          · exact ⟨by decide, _, cl_L_14, by decide +kernel⟩
          · exact ⟨by decide, _, cl_L_16, by decide +kernel⟩) (by decide) (by decide) cl_L_22 ca_8 rfl (i := 4) (Or.inr ⟨rfl, dL_set_20⟩) (by decide) ?_
        refine mw_bipush (v := -73) dL_set_22 (by decide) ?_
        exact mw_ireturn dL_set_24 ⟨_, rfl, rfl⟩ (wP_x0 hI hG hc e1 (by decide) rfl)
  · obtain ⟨hG, hc, ⟨z1, z2⟩ | ⟨k, -, -, z⟩⟩ := q9
    · cases z2
      refine mw_goto (tgt := 25) dL_set_7 (by decide) ?_
      refine mw_iconst (v := 0) dL_set_25 (by decide) ?_
      exact mw_ireturn dL_set_26 ⟨_, rfl, rfl⟩ ⟨by unfold wc0; rw [if_pos z1], _, gl_yG hG, cS_yG hI hG hc⟩
    · cases z
theorem w_append (hI : cS sc g H A X) (p0 p1 p2 : Int32) : mw_Con mm_L_append 8 1 6 [.ref 1, .int p0, .int p1, .int p2] (gl H A X) (wP sc A X (wc [-71, -72, -73] (sp_append g p0 p1 (p2.toInt8.toInt32))) (sp_append g p0 p1 (p2.toInt8.toInt32)).2.2) := by
  refine gm_conH pl_L (by decide) rfl (Nat.le_of_ble_eq_true rfl) rfl ?_
  obtain ⟨sa, ma, hC⟩ := id hI.2.2
  have h_p0 := cC_x hC
  refine mw_aload_n (i := 0) dL_append_0 rfl rfl ?_
  refine mw_iload_n (i := 1) dL_append_1 rfl rfl ?_
  refine mw_iload_n (i := 2) dL_append_2 rfl rfl ?_
  refine mw_iload_n (i := 3) dL_append_3 rfl rfl ?_
  refine mw_i2b dL_append_4 rfl ?_
  refine mw_callV dL_append_5 mk_L_32 h_p0 rfl (k_append hC p0 p1 p2) (by decide) (Nat.le_refl _) (Nat.le_refl _) rfl rfl (Nat.le_of_ble_eq_true rfl) (fun E9 h9 q9 => ?_) (fun v9 h9 q9 => ?_)
  · obtain ⟨hG, hc, hk⟩ := q9
    rcases hk with ⟨-, z⟩ | ⟨k, hk, e1, e2⟩
    · cases z
    · have hk : k < 3 := hk
      have hk : k = 0 ∨ k = 1 ∨ k = 2 := by omega
      rcases hk with rfl | rfl | rfl
      · cases e2
        refine mw_caught (E := eIO) (name := eIO) [] [(0, 10, 18, 16), (0, 10, 23, 22)] (0, 10, 13, 14) rfl (fun z hz => absurd hz List.not_mem_nil) (by decide) (by decide) cl_L_14 ca_10 rfl (i := 5) (Or.inr ⟨rfl, dL_append_13⟩) (by decide) ?_
        refine mw_bipush (v := -71) dL_append_15 (by decide) ?_
        exact mw_ireturn dL_append_17 ⟨_, rfl, rfl⟩ (wP_x hI hG hc e1 (by decide) rfl)
      · cases e2
        refine mw_caught (E := eIA) (name := eIA) [(0, 10, 13, 14)] [(0, 10, 23, 22)] (0, 10, 18, 16) rfl (fun z hz => by
          simp only [List.mem_cons, List.not_mem_nil, or_false] at hz
          subst hz
          exact ⟨by decide, _, cl_L_14, by decide +kernel⟩) (by decide) (by decide) cl_L_16 ca_9 rfl (i := 5) (Or.inr ⟨rfl, dL_append_18⟩) (by decide) ?_
        refine mw_bipush (v := -72) dL_append_20 (by decide) ?_
        exact mw_ireturn dL_append_22 ⟨_, rfl, rfl⟩ (wP_x hI hG hc e1 (by decide) rfl)
      · cases e2
        refine mw_caught (E := eIS) (name := eIS) [(0, 10, 13, 14), (0, 10, 18, 16)] [] (0, 10, 23, 22) rfl (fun z hz => by
          simp only [List.mem_cons, List.not_mem_nil, or_false] at hz
          rcases hz with rfl | rfl
          · exact ⟨by decide, _, cl_L_14, by decide +kernel⟩
          · exact ⟨by decide, _, cl_L_16, by decide +kernel⟩) (by decide) (by decide) cl_L_22 ca_8 rfl (i := 5) (Or.inr ⟨rfl, dL_append_23⟩) (by decide) ?_
        refine mw_bipush (v := -73) dL_append_25 (by decide) ?_
        exact mw_ireturn dL_append_27 ⟨_, rfl, rfl⟩ (wP_x hI hG hc e1 (by decide) rfl)
  · obtain ⟨r, rfl, q9⟩ := cP_v q9
    refine mw_istore_4 dL_append_8 (by decide) ?_
    refine mw_goto (tgt := 28) dL_append_10 (by decide) ?_
    refine mw_iload (i := 4) dL_append_28 rfl ?_
    exact mw_ireturn dL_append_30 ⟨_, rfl, rfl⟩ (wP_r hI q9)
theorem w_setPart (hI : cS sc g H A X) (p0 p1 p2 : Int32) : mw_Con mm_L_setPart 8 1 6 [.ref 1, .int p0, .int p1, .int p2] (gl H A X) (wP sc A X (wc [-71, -72, -73] (sp_setPart g p0 p1 p2)) (sp_setPart g p0 p1 p2).2.2) := by
  refine gm_conH pl_L (by decide) rfl (Nat.le_of_ble_eq_true rfl) rfl ?_
  obtain ⟨sa, ma, hC⟩ := id hI.2.2
  have h_p0 := cC_x hC
  refine mw_aload_n (i := 0) dL_setPart_0 rfl rfl ?_
  refine mw_iload_n (i := 1) dL_setPart_1 rfl rfl ?_
  refine mw_iload_n (i := 2) dL_setPart_2 rfl rfl ?_
  refine mw_iload_n (i := 3) dL_setPart_3 rfl rfl ?_
  refine mw_callV dL_setPart_4 mk_L_36 h_p0 rfl (k_setPart hC p0 p1 p2) (by decide) (Nat.le_refl _) (Nat.le_refl _) rfl rfl (Nat.le_of_ble_eq_true rfl) (fun E9 h9 q9 => ?_) (fun v9 h9 q9 => ?_)
  · obtain ⟨hG, hc, hk⟩ := q9
    rcases hk with ⟨-, z⟩ | ⟨k, hk, e1, e2⟩
    · cases z
    · have hk : k < 3 := hk
      have hk : k = 0 ∨ k = 1 ∨ k = 2 := by omega
      rcases hk with rfl | rfl | rfl
      · cases e2
        refine mw_caught (E := eIO) (name := eIO) [] [(0, 9, 17, 16), (0, 9, 22, 22)] (0, 9, 12, 14) rfl (fun z hz => absurd hz List.not_mem_nil) (by decide) (by decide) cl_L_14 ca_10 rfl (i := 5) (Or.inr ⟨rfl, dL_setPart_12⟩) (by decide) ?_
        refine mw_bipush (v := -71) dL_setPart_14 (by decide) ?_
        exact mw_ireturn dL_setPart_16 ⟨_, rfl, rfl⟩ (wP_x hI hG hc e1 (by decide) rfl)
      · cases e2
        refine mw_caught (E := eIA) (name := eIA) [(0, 9, 12, 14)] [(0, 9, 22, 22)] (0, 9, 17, 16) rfl (fun z hz => by
          simp only [List.mem_cons, List.not_mem_nil, or_false] at hz
          subst hz
          exact ⟨by decide, _, cl_L_14, by decide +kernel⟩) (by decide) (by decide) cl_L_16 ca_9 rfl (i := 5) (Or.inr ⟨rfl, dL_setPart_17⟩) (by decide) ?_
        refine mw_bipush (v := -72) dL_setPart_19 (by decide) ?_
        exact mw_ireturn dL_setPart_21 ⟨_, rfl, rfl⟩ (wP_x hI hG hc e1 (by decide) rfl)
      · cases e2
        refine mw_caught (E := eIS) (name := eIS) [(0, 9, 12, 14), (0, 9, 17, 16)] [] (0, 9, 22, 22) rfl (fun z hz => by
          simp only [List.mem_cons, List.not_mem_nil, or_false] at hz
          rcases hz with rfl | rfl
          · exact ⟨by decide, _, cl_L_14, by decide +kernel⟩
          · exact ⟨by decide, _, cl_L_16, by decide +kernel⟩) (by decide) (by decide) cl_L_22 ca_8 rfl (i := 5) (Or.inr ⟨rfl, dL_setPart_22⟩) (by decide) ?_
        refine mw_bipush (v := -73) dL_setPart_24 (by decide) ?_
        exact mw_ireturn dL_setPart_26 ⟨_, rfl, rfl⟩ (wP_x hI hG hc e1 (by decide) rfl)
  · obtain ⟨r, rfl, q9⟩ := cP_v q9
    refine mw_istore_4 dL_setPart_7 (by decide) ?_
    refine mw_goto (tgt := 27) dL_setPart_9 (by decide) ?_
    refine mw_iload (i := 4) dL_setPart_27 rfl ?_
    exact mw_ireturn dL_setPart_29 ⟨_, rfl, rfl⟩ (wP_r hI q9)
theorem w_open (hI : cS sc g H A X) (p0 p1 : Int32) : mw_Con mm_L_open 8 5 270 [.ref 1, .int p0, .int p1] (gl H A X) (wP sc A X (wc [-71, -72, -74, -73] (sp_open g p0 p1)) (sp_open g p0 p1).2.2) := by
  refine gm_conH pl_L (by decide) rfl (Nat.le_of_ble_eq_true rfl) rfl ?_
  obtain ⟨sa, ma, hC⟩ := id hI.2.2
  have h_p0 := cC_x hC
  refine mw_aload_n (i := 0) dL_open_0 rfl rfl ?_
  refine mw_iload_n (i := 1) dL_open_1 rfl rfl ?_
  refine mw_iload_n (i := 2) dL_open_2 rfl rfl ?_
  refine mw_callV dL_open_3 mk_L_39 h_p0 rfl (k_open hC hI.2.1 p0 p1) (by decide) (Nat.le_refl _) (Nat.le_refl _) rfl rfl (Nat.le_of_ble_eq_true rfl) (fun E9 h9 q9 => ?_) (fun v9 h9 q9 => ?_)
  · obtain ⟨hG, hc, hk⟩ := q9
    rcases hk with ⟨-, z⟩ | ⟨k, hk, e1, e2⟩
    · cases z
    · have hk : k < 4 := hk
      have hk : k = 0 ∨ k = 1 ∨ k = 2 ∨ k = 3 := by omega
      rcases hk with rfl | rfl | rfl | rfl
      · cases e2
        refine mw_caught (E := eIO) (name := eIO) [] [(0, 7, 15, 16), (0, 7, 20, 22), (0, 7, 25, 43)] (0, 7, 10, 14) rfl (fun z hz => absurd hz List.not_mem_nil) (by decide) (by decide) cl_L_14 ca_10 rfl (i := 4) (Or.inr ⟨rfl, dL_open_10⟩) (by decide) ?_
        refine mw_bipush (v := -71) dL_open_12 (by decide) ?_
        exact mw_ireturn dL_open_14 ⟨_, rfl, rfl⟩ (wP_x hI hG hc e1 (by decide) rfl)
      · cases e2
        refine mw_caught (E := eIA) (name := eIA) [(0, 7, 10, 14)] [(0, 7, 20, 22), (0, 7, 25, 43)] (0, 7, 15, 16) rfl (fun z hz => by
          simp only [List.mem_cons, List.not_mem_nil, or_false] at hz
          subst hz
          exact ⟨by decide, _, cl_L_14, by decide +kernel⟩) (by decide) (by decide) cl_L_16 ca_9 rfl (i := 4) (Or.inr ⟨rfl, dL_open_15⟩) (by decide) ?_
        refine mw_bipush (v := -72) dL_open_17 (by decide) ?_
        exact mw_ireturn dL_open_19 ⟨_, rfl, rfl⟩ (wP_x hI hG hc e1 (by decide) rfl)
      · cases e2
        refine mw_caught (E := eNS) (name := eNS) [(0, 7, 10, 14), (0, 7, 15, 16), (0, 7, 20, 22)] [] (0, 7, 25, 43) rfl (fun z hz => by
          simp only [List.mem_cons, List.not_mem_nil, or_false] at hz
          rcases hz with rfl | rfl | rfl
          · exact ⟨by decide, _, cl_L_14, by decide +kernel⟩
          · exact ⟨by decide, _, cl_L_16, by decide +kernel⟩
          · exact ⟨by decide, _, cl_L_22, by decide +kernel⟩) (by decide) (by decide) cl_L_43 ca_11 rfl (i := 4) (Or.inr ⟨rfl, dL_open_25⟩) (by decide) ?_
        refine mw_bipush (v := -74) dL_open_27 (by decide) ?_
        exact mw_ireturn dL_open_29 ⟨_, rfl, rfl⟩ (wP_x hI hG hc e1 (by decide) rfl)
      · cases e2
        refine mw_caught (E := eIS) (name := eIS) [(0, 7, 10, 14), (0, 7, 15, 16)] [(0, 7, 25, 43)] (0, 7, 20, 22) rfl (fun z hz => by
          simp only [List.mem_cons, List.not_mem_nil, or_false] at hz
          rcases hz with rfl | rfl
          · exact ⟨by decide, _, cl_L_14, by decide +kernel⟩
          · exact ⟨by decide, _, cl_L_16, by decide +kernel⟩) (by decide) (by decide) cl_L_22 ca_8 rfl (i := 4) (Or.inr ⟨rfl, dL_open_20⟩) (by decide) ?_
        refine mw_bipush (v := -73) dL_open_22 (by decide) ?_
        exact mw_ireturn dL_open_24 ⟨_, rfl, rfl⟩ (wP_x hI hG hc e1 (by decide) rfl)
  · obtain ⟨r, rfl, q9⟩ := cP_v q9
    refine mw_istore_3 dL_open_6 (by decide) ?_
    refine mw_goto (tgt := 30) dL_open_7 (by decide) ?_
    refine mw_iload_n (i := 3) dL_open_30 rfl rfl ?_
    exact mw_ireturn dL_open_31 ⟨_, rfl, rfl⟩ (wP_r hI q9)
theorem w_byteOf (hI : cS sc g H A X) (p0 p1 p2 : Int32) : mw_Con mm_L_byteOf 8 1 6 [.ref 1, .int p0, .int p1, .int p2] (gl H A X) (wP sc A X (wc [-1071, -1072, -1074] (sp_byteOf g p0 p1 p2)) (sp_byteOf g p0 p1 p2).2.2) := by
  refine gm_conH pl_L (by decide) rfl (Nat.le_of_ble_eq_true rfl) rfl ?_
  obtain ⟨sa, ma, hC⟩ := id hI.2.2
  have h_p0 := cC_x hC
  refine mw_aload_n (i := 0) dL_byteOf_0 rfl rfl ?_
  refine mw_iload_n (i := 1) dL_byteOf_1 rfl rfl ?_
  refine mw_iload_n (i := 2) dL_byteOf_2 rfl rfl ?_
  refine mw_iload_n (i := 3) dL_byteOf_3 rfl rfl ?_
  refine mw_callV dL_byteOf_4 mk_L_45 h_p0 rfl (k_byteOf hC p0 p1 p2) (by decide) (Nat.le_refl _) (Nat.le_refl _) rfl rfl (Nat.le_of_ble_eq_true rfl) (fun E9 h9 q9 => ?_) (fun v9 h9 q9 => ?_)
  · obtain ⟨hG, hc, hk⟩ := q9
    rcases hk with ⟨-, z⟩ | ⟨k, hk, e1, e2⟩
    · cases z
    · have hk : k < 3 := hk
      have hk : k = 0 ∨ k = 1 ∨ k = 2 := by omega
      rcases hk with rfl | rfl | rfl
      · cases e2
        refine mw_caught (E := eIO) (name := eIO) [] [(0, 9, 18, 16), (0, 9, 24, 43)] (0, 9, 12, 14) rfl (fun z hz => absurd hz List.not_mem_nil) (by decide) (by decide) cl_L_14 ca_10 rfl (i := 5) (Or.inr ⟨rfl, dL_byteOf_12⟩) (by decide) ?_
        refine mw_sipush (v := -1071) dL_byteOf_14 (by decide) ?_
        exact mw_ireturn dL_byteOf_17 ⟨_, rfl, rfl⟩ (wP_x hI hG hc e1 (by decide) rfl)
      · cases e2
        refine mw_caught (E := eIA) (name := eIA) [(0, 9, 12, 14)] [(0, 9, 24, 43)] (0, 9, 18, 16) rfl (fun z hz => by
          simp only [List.mem_cons, List.not_mem_nil, or_false] at hz
          subst hz
          exact ⟨by decide, _, cl_L_14, by decide +kernel⟩) (by decide) (by decide) cl_L_16 ca_9 rfl (i := 5) (Or.inr ⟨rfl, dL_byteOf_18⟩) (by decide) ?_
        refine mw_sipush (v := -1072) dL_byteOf_20 (by decide) ?_
        exact mw_ireturn dL_byteOf_23 ⟨_, rfl, rfl⟩ (wP_x hI hG hc e1 (by decide) rfl)
      · cases e2
        refine mw_caught (E := eNS) (name := eNS) [(0, 9, 12, 14), (0, 9, 18, 16)] [] (0, 9, 24, 43) rfl (fun z hz => by
          simp only [List.mem_cons, List.not_mem_nil, or_false] at hz
          rcases hz with rfl | rfl
          · exact ⟨by decide, _, cl_L_14, by decide +kernel⟩
          · exact ⟨by decide, _, cl_L_16, by decide +kernel⟩) (by decide) (by decide) cl_L_43 ca_11 rfl (i := 5) (Or.inr ⟨rfl, dL_byteOf_24⟩) (by decide) ?_
        refine mw_sipush (v := -1074) dL_byteOf_26 (by decide) ?_
        exact mw_ireturn dL_byteOf_29 ⟨_, rfl, rfl⟩ (wP_x hI hG hc e1 (by decide) rfl)
  · obtain ⟨r, rfl, q9⟩ := cP_v q9
    refine mw_istore_4 dL_byteOf_7 (by decide) ?_
    refine mw_goto (tgt := 30) dL_byteOf_9 (by decide) ?_
    refine mw_iload (i := 4) dL_byteOf_30 rfl ?_
    exact mw_ireturn dL_byteOf_32 ⟨_, rfl, rfl⟩ (wP_r hI q9)
theorem w_read (hI : cS sc g H A X) (p0 : Int32) (hno2 : (sp_read g p0).1 ≠ 3) : mw_Con mm_L_read 8 5 270 [.ref 1, .int p0] (gl H A X) (wP sc A X (wc [-71, -72, 0] (sp_read g p0)) (sp_read g p0).2.2) := by
  refine gm_conH pl_L (by decide) rfl (Nat.le_of_ble_eq_true rfl) rfl ?_
  obtain ⟨sa, ma, hC⟩ := id hI.2.2
  have h_p0 := cC_x hC
  refine mw_aload_n (i := 0) dL_read_0 rfl rfl ?_
  refine mw_iload_n (i := 1) dL_read_1 rfl rfl ?_
  refine mw_callV dL_read_2 mk_L_49 h_p0 rfl (k_read hC hI.2.1 p0) (by decide) (Nat.le_refl _) (Nat.le_refl _) rfl rfl (Nat.le_of_ble_eq_true rfl) (fun E9 h9 q9 => ?_) (fun v9 h9 q9 => ?_)
  · obtain ⟨hG, hc, hk⟩ := q9
    rcases hk with ⟨-, z⟩ | ⟨k, hk, e1, e2⟩
    · cases z
    · have hk : k < 3 := hk
      have hk : k = 0 ∨ k = 1 ∨ k = 2 := by omega
      rcases hk with rfl | rfl | rfl
      · cases e2
        refine mw_caught (E := eIO) (name := eIO) [] [(0, 6, 13, 16)] (0, 6, 9, 14) rfl (fun z hz => absurd hz List.not_mem_nil) (by decide) (by decide) cl_L_14 ca_10 rfl (i := 3) (Or.inl ⟨3, rfl, rfl, dL_read_9⟩) (by decide) ?_
        refine mw_bipush (v := -71) dL_read_10 (by decide) ?_
        exact mw_ireturn dL_read_12 ⟨_, rfl, rfl⟩ (wP_x hI hG hc e1 (by decide) rfl)
      · cases e2
        refine mw_caught (E := eIA) (name := eIA) [(0, 6, 9, 14)] [] (0, 6, 13, 16) rfl (fun z hz => by
          simp only [List.mem_cons, List.not_mem_nil, or_false] at hz
          subst hz
          exact ⟨by decide, _, cl_L_14, by decide +kernel⟩) (by decide) (by decide) cl_L_16 ca_9 rfl (i := 3) (Or.inl ⟨3, rfl, rfl, dL_read_13⟩) (by decide) ?_
        refine mw_bipush (v := -72) dL_read_14 (by decide) ?_
        exact mw_ireturn dL_read_16 ⟨_, rfl, rfl⟩ (wP_x hI hG hc e1 (by decide) rfl)
      · exact absurd e1 hno2
  · obtain ⟨r, rfl, q9⟩ := cP_v q9
    refine mw_istore_2 dL_read_5 (by decide) ?_
    refine mw_goto (tgt := 17) dL_read_6 (by decide) ?_
    refine mw_iload_n (i := 2) dL_read_17 rfl rfl ?_
    exact mw_ireturn dL_read_18 ⟨_, rfl, rfl⟩ (wP_r hI q9)
theorem w_weight (hI : cS sc g H A X) (p0 : Int32) : mw_Con mm_L_weight 8 1 6 [.ref 1, .int p0] (gl H A X) (wP sc A X (wc [-71] (sp_weight g p0)) (sp_weight g p0).2.2) := by
  refine gm_conH pl_L (by decide) rfl (Nat.le_of_ble_eq_true rfl) rfl ?_
  obtain ⟨sa, ma, hC⟩ := id hI.2.2
  have h_p0 := cC_x hC
  refine mw_aload_n (i := 0) dL_weight_0 rfl rfl ?_
  refine mw_iload_n (i := 1) dL_weight_1 rfl rfl ?_
  refine mw_callV dL_weight_2 mk_L_55 h_p0 rfl (k_weight hC p0) (by decide) (Nat.le_refl _) (Nat.le_refl _) rfl rfl (Nat.le_of_ble_eq_true rfl) (fun E9 h9 q9 => ?_) (fun v9 h9 q9 => ?_)
  · obtain ⟨hG, hc, hk⟩ := q9
    rcases hk with ⟨-, z⟩ | ⟨k, hk, e1, e2⟩
    · cases z
    · have hk : k < 1 := hk
      have hk : k = 0 := by omega
      subst hk
      cases e2
      refine mw_caught (E := eIO) (name := eIO) [] [] (0, 6, 9, 14) rfl (fun z hz => absurd hz List.not_mem_nil) (by decide) (by decide) cl_L_14 ca_10 rfl (i := 3) (Or.inl ⟨3, rfl, rfl, dL_weight_9⟩) (by decide) ?_
      refine mw_bipush (v := -71) dL_weight_10 (by decide) ?_
      exact mw_ireturn dL_weight_12 ⟨_, rfl, rfl⟩ (wP_x hI hG hc e1 (by decide) rfl)
  · obtain ⟨r, rfl, q9⟩ := cP_v q9
    refine mw_istore_2 dL_weight_5 (by decide) ?_
    refine mw_goto (tgt := 13) dL_weight_6 (by decide) ?_
    refine mw_iload_n (i := 2) dL_weight_13 rfl rfl ?_
    exact mw_ireturn dL_weight_14 ⟨_, rfl, rfl⟩ (wP_r hI q9)
theorem w_unknownTag (hI : cS sc g H A X) (p0 p1 : Int32) : mw_Con mm_L_unknownTag 8 1 6 [.ref 1, .int p0, .int p1] (gl H A X) (wP sc A X (wc [-71] (sp_unknownTag g p0 p1)) (sp_unknownTag g p0 p1).2.2) := by
  refine gm_conH pl_L (by decide) rfl (Nat.le_of_ble_eq_true rfl) rfl ?_
  obtain ⟨sa, ma, hC⟩ := id hI.2.2
  have h_p0 := cC_x hC
  refine mw_aload_n (i := 0) dL_unknownTag_0 rfl rfl ?_
  refine mw_iload_n (i := 1) dL_unknownTag_1 rfl rfl ?_
  refine mw_iload_n (i := 2) dL_unknownTag_2 rfl rfl ?_
  refine mw_callV dL_unknownTag_3 mk_L_58 h_p0 rfl (k_unknownTag hC p0 p1) (by decide) (Nat.le_refl _) (Nat.le_refl _) rfl rfl (Nat.le_of_ble_eq_true rfl) (fun E9 h9 q9 => ?_) (fun v9 h9 q9 => ?_)
  · obtain ⟨hG, hc, hk⟩ := q9
    rcases hk with ⟨-, z⟩ | ⟨k, hk, e1, e2⟩
    · cases z
    · have hk : k < 1 := hk
      have hk : k = 0 := by omega
      subst hk
      cases e2
      refine mw_caught (E := eIO) (name := eIO) [] [] (0, 7, 10, 14) rfl (fun z hz => absurd hz List.not_mem_nil) (by decide) (by decide) cl_L_14 ca_10 rfl (i := 4) (Or.inr ⟨rfl, dL_unknownTag_10⟩) (by decide) ?_
      refine mw_bipush (v := -71) dL_unknownTag_12 (by decide) ?_
      exact mw_ireturn dL_unknownTag_14 ⟨_, rfl, rfl⟩ (wP_x hI hG hc e1 (by decide) rfl)
  · obtain ⟨r, rfl, q9⟩ := cP_v q9
    refine mw_istore_3 dL_unknownTag_6 (by decide) ?_
    refine mw_goto (tgt := 15) dL_unknownTag_7 (by decide) ?_
    refine mw_iload_n (i := 3) dL_unknownTag_15 rfl rfl ?_
    exact mw_ireturn dL_unknownTag_16 ⟨_, rfl, rfl⟩ (wP_r hI q9)
theorem w_cut (hI : cS sc g H A X) (p0 : Int32) : mw_Con mm_L_cut 7 1 6 [.ref 1, .int p0] (gl H A X) (wP sc A X (wc [-71] (sp_cut g p0)) (sp_cut g p0).2.2) := by
  refine gm_conH pl_L (by decide) rfl (Nat.le_of_ble_eq_true rfl) rfl ?_
  obtain ⟨sa, ma, hC⟩ := id hI.2.2
  have h_p0 := cC_x hC
  refine mw_aload_n (i := 0) dL_cut_0 rfl rfl ?_
  refine mw_iload_n (i := 1) dL_cut_1 rfl rfl ?_
  refine mw_callV dL_cut_2 mk_L_61 h_p0 rfl (k_cut hC p0) (by decide) (Nat.le_refl _) (Nat.le_refl _) rfl rfl (Nat.le_of_ble_eq_true rfl) (fun E9 h9 q9 => ?_) (fun v9 h9 q9 => ?_)
  · obtain ⟨hG, hc, hk⟩ := q9
    rcases hk with ⟨-, z⟩ | ⟨k, hk, e1, e2⟩
    · cases z
    · have hk : k < 1 := hk
      have hk : k = 0 := by omega
      subst hk
      cases e2
      refine mw_caught (E := eIO) (name := eIO) [] [] (0, 6, 9, 14) rfl (fun z hz => absurd hz List.not_mem_nil) (by decide) (by decide) cl_L_14 ca_10 rfl (i := 3) (Or.inl ⟨3, rfl, rfl, dL_cut_9⟩) (by decide) ?_
      refine mw_bipush (v := -71) dL_cut_10 (by decide) ?_
      exact mw_ireturn dL_cut_12 ⟨_, rfl, rfl⟩ (wP_x hI hG hc e1 (by decide) rfl)
  · obtain ⟨r, rfl, q9⟩ := cP_v q9
    refine mw_istore_2 dL_cut_5 (by decide) ?_
    refine mw_goto (tgt := 13) dL_cut_6 (by decide) ?_
    refine mw_iload_n (i := 2) dL_cut_13 rfl rfl ?_
    exact mw_ireturn dL_cut_14 ⟨_, rfl, rfl⟩ (wP_r hI q9)
theorem w_hasNone (hI : cS sc g H A X) (p0 p1 : Int32) (h2 : sp_get g p0 p1 = (2, 0, g)) : mw_Con mm_L_hasNone 8 1 6 [.ref 1, .int p0, .int p1] (gl H A X) (wP sc A X 1 g) := by
  refine gm_conH pl_L (by decide) rfl (Nat.le_of_ble_eq_true rfl) rfl ?_
  obtain ⟨sa, ma, hC⟩ := id hI.2.2
  have h_p0 := cC_x hC
  have hk := k_get hC p0 p1
  rw [h2] at hk
  refine mw_aload_n (i := 0) dL_hasNone_0 rfl rfl ?_
  refine mw_iload_n (i := 1) dL_hasNone_1 rfl rfl ?_
  refine mw_iload_n (i := 2) dL_hasNone_2 rfl rfl ?_
  refine mw_callV dL_hasNone_3 mk_L_52 h_p0 rfl (hk) (by decide) (Nat.le_refl _) (Nat.le_refl _) rfl rfl (Nat.le_of_ble_eq_true rfl) (fun E9 h9 q9 => ?_) (fun v9 h9 q9 => ?_)
  · obtain ⟨hG, hc, hk⟩ := q9
    rcases hk with ⟨-, z⟩ | ⟨k, hk, e1, e2⟩
    · cases z
    · have hk : k < 2 := hk
      have hk : k = 0 ∨ k = 1 := by omega
      rcases hk with rfl | rfl
      · exact absurd e1 (show ¬ (2 : Int32) = nI (0 + 1) by decide)
      · cases e2
        refine mw_caught (E := eIA) (name := eIA) [] [] (0, 7, 10, 16) rfl (fun z hz => absurd hz List.not_mem_nil) (by decide) (by decide) cl_L_16 ca_9 rfl (i := 4) (Or.inr ⟨rfl, dL_hasNone_10⟩) (by decide) ?_
        refine mw_iconst (v := 1) dL_hasNone_12 (by decide) ?_
        exact mw_ireturn dL_hasNone_13 ⟨_, rfl, rfl⟩ ⟨rfl, _, gl_yG hG, cS_yG hI hG hc⟩
  · obtain ⟨-, -, ⟨z1, -⟩ | ⟨k, -, -, z⟩⟩ := q9
    · exact absurd z1 (show ¬ (2 : Int32) = 0 by decide)
    · cases z
theorem d_addSchema (hI : cS sc g H A X) (ha : (sp_addSchema g).1 = 0) : mw_Con mm_X6_addSchema 6 5 133 [.ref 1] (gl H A X) (wP sc A X (sp_addSchema g).2.1 (sp_addSchema g).2.2) := by
  obtain ⟨sa, ma, hC⟩ := id hI.2.2
  exact mw_con_post (wP_d hI ha (by decide)) (k_addSchema hC hI.2.1)
theorem d_kindOf (hI : cS sc g H A X) (p0 p1 : Int32) (ha : (sp_kindOf g p0 p1).1 = 0) : mw_Con mm_X6_kindOf 7 1 6 [.ref 1, .int p0, .int p1] (gl H A X) (wP sc A X (sp_kindOf g p0 p1).2.1 (sp_kindOf g p0 p1).2.2) := by
  obtain ⟨sa, ma, hC⟩ := id hI.2.2
  exact mw_con_post (wP_d hI ha (by decide)) (k_kindOf hC p0 p1)
theorem d_dropKind (hI : cS sc g H A X) (p0 p1 : Int32) (ha : (sp_dropKind g p0 p1).1 = 0) : mw_Con mm_X6_dropKind 7 1 6 [.ref 1, .int p0, .int p1] (gl H A X) (wP sc A X (sp_dropKind g p0 p1).2.1 (sp_dropKind g p0 p1).2.2) := by
  obtain ⟨sa, ma, hC⟩ := id hI.2.2
  exact mw_con_post (wP_d hI ha (by decide)) (k_dropKind hC p0 p1)
theorem d_setDefault (hI : cS sc g H A X) (p0 p1 p2 : Int32) (ha : (sp_setDefault g p0 p1 p2).1 = 0) : mw_Con mm_X6_setDefault 7 1 6 [.ref 1, .int p0, .int p1, .int p2] (gl H A X) (wP sc A X (sp_setDefault g p0 p1 p2).2.1 (sp_setDefault g p0 p1 p2).2.2) := by
  obtain ⟨sa, ma, hC⟩ := id hI.2.2
  exact mw_con_post (wP_d hI ha (by decide)) (k_setDefault hC p0 p1 p2)
theorem d_get (hI : cS sc g H A X) (p0 p1 : Int32) (ha : (sp_get g p0 p1).1 = 0) : mw_Con mm_X6_get 7 1 6 [.ref 1, .int p0, .int p1] (gl H A X) (wP sc A X (sp_get g p0 p1).2.1 (sp_get g p0 p1).2.2) := by
  obtain ⟨sa, ma, hC⟩ := id hI.2.2
  exact mw_con_post (wP_d hI ha (by decide)) (k_get hC p0 p1)
theorem d_weight (hI : cS sc g H A X) (p0 : Int32) (ha : (sp_weight g p0).1 = 0) : mw_Con mm_X6_weight 7 1 6 [.ref 1, .int p0] (gl H A X) (wP sc A X (sp_weight g p0).2.1 (sp_weight g p0).2.2) := by
  obtain ⟨sa, ma, hC⟩ := id hI.2.2
  exact mw_con_post (wP_d hI ha (by decide)) (k_weight hC p0)
theorem d_copy (hI : cS sc g H A X) (p0 p1 : Int32) (ha : (sp_copy g p0 p1).1 = 0) : mw_Con mm_X6_copy 7 4 266 [.ref 1, .int p0, .int p1] (gl H A X) (wP sc A X (sp_copy g p0 p1).2.1 (sp_copy g p0 p1).2.2) := by
  obtain ⟨sa, ma, hC⟩ := id hI.2.2
  exact mw_con_post (wP_d hI ha (by decide)) (k_copy hC hI.2.1 p0 p1)
theorem d_discard (hI : cS sc g H A X) (p0 : Int32) (ha : (sp_discard g p0).1 = 0) : mw_Con mm_X6_discard 7 1 6 [.ref 1, .int p0] (gl H A X) (wP sc A X (sp_discard g p0).2.1 (sp_discard g p0).2.2) := by
  obtain ⟨sa, ma, hC⟩ := id hI.2.2
  exact mw_con_post (wP_d hI ha (by decide)) (k_discard hC p0)
theorem d_clear (hI : cS sc g H A X) (p0 p1 : Int32) (ha : (sp_clear g p0 p1).1 = 0) : mw_Con mm_X6_clear 7 1 6 [.ref 1, .int p0, .int p1] (gl H A X) (wP sc A X (sp_clear g p0 p1).2.1 (sp_clear g p0 p1).2.2) := by
  obtain ⟨sa, ma, hC⟩ := id hI.2.2
  exact mw_con_post (wP_d hI ha (by decide)) (k_clear hC p0 p1)
theorem d_has (hI : cS sc g H A X) (p0 p1 : Int32) (ha : (sp_has g p0 p1).1 = 0) : mw_Con mm_X6_has 7 1 6 [.ref 1, .int p0, .int p1] (gl H A X) (wP sc A X (sp_has g p0 p1).2.1 (sp_has g p0 p1).2.2) := by
  obtain ⟨sa, ma, hC⟩ := id hI.2.2
  exact mw_con_post (wP_d hI ha (by decide)) (k_has hC p0 p1)
theorem d_length (hI : cS sc g H A X) (ha : (sp_length g).1 = 0) : mw_Con mm_X6_length 1 0 0 [.ref 1] (gl H A X) (wP sc A X (sp_length g).2.1 (sp_length g).2.2) := by
  obtain ⟨sa, ma, hC⟩ := id hI.2.2
  exact mw_con_post (wP_d hI ha (by decide)) (k_length hC)
theorem d_write (hI : cS sc g H A X) (p0 : Int32) (ha : (sp_write g p0).1 = 0) : mw_Con mm_X6_write 7 1 6 [.ref 1, .int p0] (gl H A X) (wP sc A X (sp_write g p0).2.1 (sp_write g p0).2.2) := by
  obtain ⟨sa, ma, hC⟩ := id hI.2.2
  exact mw_con_post (wP_d hI ha (by decide)) (k_write hC p0)
theorem d_put (hI : cS sc g H A X) (p0 : Int32) (ha : (sp_put g (p0.toInt8.toInt32)).1 = 0) : mw_Con mm_X6_put 6 1 6 [.ref 1, .int p0.toInt8.toInt32] (gl H A X) (wP sc A X (sp_put g (p0.toInt8.toInt32)).2.1 (sp_put g (p0.toInt8.toInt32)).2.2) := by
  obtain ⟨sa, ma, hC⟩ := id hI.2.2
  exact mw_con_post (wP_d hI ha (by decide)) (k_put hC p0)
theorem d_fault (hI : cS sc g H A X) (ha : (sp_fault g).1 = 0) : mw_Con mm_X6_fault 6 0 0 [.ref 1] (gl H A X) (wP sc A X (sp_fault g).2.1 (sp_fault g).2.2) := by
  obtain ⟨sa, ma, hC⟩ := id hI.2.2
  exact mw_con_post (wP_d hI ha (by decide)) (k_fault hC)
theorem d_faultAt (hI : cS sc g H A X) (ha : (sp_faultAt g).1 = 0) : mw_Con mm_X6_faultAt 6 0 0 [.ref 1] (gl H A X) (wP sc A X (sp_faultAt g).2.1 (sp_faultAt g).2.2) := by
  obtain ⟨sa, ma, hC⟩ := id hI.2.2
  exact mw_con_post (wP_d hI ha (by decide)) (k_faultAt hC)
theorem d_areSame (hI : cS sc g H A X) (p0 p1 : Int32) (ha : (sp_areSame g p0 p1).1 = 0) : mw_Con mm_X6_areSame 7 1 6 [.ref 1, .int p0, .int p1] (gl H A X) (wP sc A X (sp_areSame g p0 p1).2.1 (sp_areSame g p0 p1).2.2) := by
  obtain ⟨sa, ma, hC⟩ := id hI.2.2
  exact mw_con_post (wP_d hI ha (by decide)) (k_areSame hC p0 p1)
theorem d_areSameByBytes (hI : cS sc g H A X) (p0 p1 : Int32) (ha : (sp_areSame g p0 p1).1 = 0) : mw_Con mm_X6_areSameByBytes 7 1 6 [.ref 1, .int p0, .int p1] (gl H A X) (wP sc A X (sp_areSame g p0 p1).2.1 (sp_areSame g p0 p1).2.2) := by
  obtain ⟨sa, ma, hC⟩ := id hI.2.2
  exact mw_con_post (wP_d hI ha (by decide)) (k_areSameByBytes hC p0 p1)
theorem d_isCanonical (hI : cS sc g H A X) (p0 : Int32) (ha : (sp_isCanonical g p0).1 = 0) : mw_Con mm_X6_isCanonical 7 1 6 [.ref 1, .int p0] (gl H A X) (wP sc A X (sp_isCanonical g p0).2.1 (sp_isCanonical g p0).2.2) := by
  obtain ⟨sa, ma, hC⟩ := id hI.2.2
  exact mw_con_post (wP_d hI ha (by decide)) (k_isCanonical hC p0)
theorem d_schemaOf (hI : cS sc g H A X) (p0 : Int32) (ha : (sp_schemaOf g p0).1 = 0) : mw_Con mm_X6_schemaOf 7 1 6 [.ref 1, .int p0] (gl H A X) (wP sc A X (sp_schemaOf g p0).2.1 (sp_schemaOf g p0).2.2) := by
  obtain ⟨sa, ma, hC⟩ := id hI.2.2
  exact mw_con_post (wP_d hI ha (by decide)) (k_schemaOf hC p0)
theorem d_unknowns (hI : cS sc g H A X) (p0 : Int32) (ha : (sp_unknowns g p0).1 = 0) : mw_Con mm_X6_unknowns 7 1 6 [.ref 1, .int p0] (gl H A X) (wP sc A X (sp_unknowns g p0).2.1 (sp_unknowns g p0).2.2) := by
  obtain ⟨sa, ma, hC⟩ := id hI.2.2
  exact mw_con_post (wP_d hI ha (by decide)) (k_unknowns hC p0)
theorem d_byteAt (hI : cS sc g H A X) (p0 : Int32) (ha : (sp_byteAt g p0).1 = 0) : mw_Con mm_X6_byteAt 6 1 6 [.ref 1, .int p0] (gl H A X) (wP sc A X (sp_byteAt g p0).2.1 (sp_byteAt g p0).2.2) := by
  obtain ⟨sa, ma, hC⟩ := id hI.2.2
  exact mw_con_post (wP_d hI ha (by decide)) (k_byteAt hC p0)
theorem d_conflict (hI : cS sc g H A X) (s o : Int32) (ha : ∀ a, sp_conflict g s o a → a.1 = 0) : mw_Con mm_X6_conflict 7 1 6 [.ref 1, .int s, .int o] (gl H A X) (fun v h' => ∃ a, sp_conflict g s o a ∧ wP sc A X a.2.1 a.2.2 v h') := by
  obtain ⟨sa, ma, hC⟩ := id hI.2.2
  exact mw_con_post (fun v h' ⟨a, h1, h2⟩ => ⟨a, h1, wP_d hI (ha a h1) (by decide) v h' h2⟩) (k_conflict hC s o)
end LW
