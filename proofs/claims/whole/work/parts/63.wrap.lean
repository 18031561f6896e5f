/-! the law's wrappers (class side): written by tools/wrap.py -/
theorem pl_L : plainName RL = true := by decide +kernel
theorem gm_conH {y : mw_M} {d kc ks : Nat} {ls : List (Option Value)} {h : mw_H} {Po : mw_P} {as : List Value} (hy : plainName y.1.cls = true) (hn : y.2.2.2.2 ≠ []) (hcat : as.all (fun v => v.category == 1) = true) (hlen : as.length ≤ y.2.2.1) (hls : as.map some ++ List.replicate (y.2.2.1 - as.length) none = ls) (w : mw_W y d kc ks 0 ls [] h Po) : mw_Con y d kc ks as h Po :=
  mw_conH hy hn (fun v hv => by have h9 := List.all_eq_true.mp hcat v hv; simpa using h9) hlen hls w
/-- the law's own long[1] -/
abbrev oV (f : Nat → Int64) : va_E := .inl (3, (1, .inr (.inl f)))
/-- what lies between is not touched, but for the long[1] -/
def yG2 (H H' : mw_H) : Prop := H.1 ≤ H'.1 ∧ H'.2.2 = H.2.2 ∧ ∀ b x, 43 ≤ b → b ≤ 54 → mw_g H b = some x → mw_g H' b = some x
def cvI (r : Int32) : Int64 := r.toInt64
def cvZ (r : Int32) : Int64 := if r = 0 then 0 else 1
/-- a wrapper's end -/
def lP (cv : Int32 → Int64) (H : mw_H) (a : mA) : mw_P := fun v H' => yG2 H H' ∧ (∃ sa ma, cC a.2.2 H' sa ma) ∧ (∃ f, mw_g H' 55 = some (oV f) ∧ (a.1 = 0 → f 0 = cv a.2.1)) ∧ v = .inl (some (.int a.1))
/-- .. of a wrapper without an answer -/
def lPv (H : mw_H) (a : mA) : mw_P := fun v H' => yG2 H H' ∧ (∃ sa ma, cC a.2.2 H' sa ma) ∧ (∃ f, mw_g H' 55 = some (oV f)) ∧ v = .inl (some (.int a.1))
section LW
variable {g : mS} {H : mw_H} {sa ma : Nat → Nat} {f : Nat → Int64} {cv : Int32 → Int64}
theorem yG.two {H' : mw_H} (h : yG H H') : yG2 H H' := ⟨h.1, h.2.1, fun b x h1 h2 hx => h.2.2 b x h1 (by omega) hx⟩
theorem lP_x {H' : mw_H} {a : mA} {k : Nat} (hG : yG H H') (hc : ∃ sa ma, cC a.2.2 H' sa ma) (hO : mw_g H 55 = some (oV f)) (e1 : a.1 = nI (k + 1)) (hk : k < 2 ^ 31 - 1) : lP cv H a (.inl (some (.int (nI (k + 1))))) H' :=
  ⟨hG.two, hc, ⟨f, hG.2.2 55 _ (by decide) (by decide) hO, fun z => absurd (e1.symm.trans z) (nI_ne0 (Nat.succ_pos k) (by omega))⟩, by rw [e1]⟩
theorem cC_out {f f' : Nat → Int64} (h : cC g H sa ma) : cC g (mw_s H 55 (oV f')) sa ma :=
  cC_scr (S := [55]) h ((yF.rf.s (by simp)).M) (by decide) (cW_M h.2.2.2.2 (S := [55]) ((yF.rf.s (by simp)).M) (Or.inl (by decide)) (Or.inl (by decide)) (Or.inl (by decide)) (Or.inl (by decide)) (Or.inl (by decide)) (Or.inl (by decide)) (Or.inl (by decide)))
theorem lP_r {H' : mw_H} {es : List String} {a : mA} {r : Int32} {x : Int64} (q : cP H es a (.inl (some (.int r))) H') (f' : Nat → Int64) (hx : x = cv r) : lP cv H a (.inl (some (.int 0))) (mw_s H' 55 (oV (vf_upd f' 0 x))) := by
  obtain ⟨hG, ⟨sa, ma, hc⟩, ⟨z1, z2⟩ | ⟨k, -, -, z⟩⟩ := q
  · have e : r = a.2.1 := by
      have := Sum.inl.inj z2
      injection this with this
      injection this
    refine ⟨⟨hG.1, hG.2.1, fun b y h1 h2 hy => (mw_go (by omega)).trans (hG.2.2 b y h1 (by omega) hy)⟩, ⟨sa, ma, cC_out (f := f') hc⟩, ⟨_, mw_gs, fun _ => ?_⟩, by rw [z1]⟩
    rw [hx, e]
    exact if_pos rfl
  · cases z
theorem lPv_x {H' : mw_H} {a : mA} {k : Nat} (hG : yG H H') (hc : ∃ sa ma, cC a.2.2 H' sa ma) (hO : mw_g H 55 = some (oV f)) (e1 : a.1 = nI (k + 1)) : lPv H a (.inl (some (.int (nI (k + 1))))) H' := ⟨hG.two, hc, ⟨f, hG.2.2 55 _ (by decide) (by decide) hO⟩, by rw [e1]⟩
theorem w_addSchema (hC : cC g H sa ma) (h56 : 56 ≤ H.1) (hO : mw_g H 55 = some (oV f)) : mw_Con mm_L_addSchema 7 5 270 [.ref 1, .ref 55] H (lP cvI H (sp_addSchema g)) := by
  refine gm_conH pl_L (by decide) rfl (Nat.le_of_ble_eq_true rfl) rfl ?_
  have h_p0 := cC_x hC
  refine mw_aload_n (i := 1) dL_addSchema_0 rfl rfl ?_
  refine mw_iconst (v := 0) dL_addSchema_1 (by decide) ?_
  refine mw_aload_n (i := 0) dL_addSchema_2 rfl rfl ?_
  refine mw_callV dL_addSchema_3 mk_L_7 h_p0 rfl (k_addSchema hC h56) (by decide) (Nat.le_refl _) (Nat.le_refl _) rfl rfl (Nat.le_of_ble_eq_true rfl) (fun E9 h9 q9 => ?_) (fun v9 h9 q9 => ?_)
  · obtain ⟨hG, hc, hk⟩ := q9
    rcases hk with ⟨-, z⟩ | ⟨k, hk, e1, e2⟩
    · cases z
    · have hk : k < 1 := hk
      have hk : k = 0 := by omega
      subst hk
      cases e2
      refine mw_caught (E := eIS) (name := eIS) [] [] (0, 8, 11, 13) rfl (fun z hz => absurd hz List.not_mem_nil) (by decide) (by decide) cl_L_13 ca_8 rfl (i := 2) (Or.inl ⟨2, rfl, rfl, dL_addSchema_11⟩) (by decide) ?_
      refine mw_iconst (v := 1) dL_addSchema_12 (by decide) ?_
      exact mw_ireturn dL_addSchema_13 ⟨_, rfl, rfl⟩ (lP_x hG hc hO e1 (by decide))
  · obtain ⟨r, rfl, q9⟩ := cP_v q9
    have h_p1 := q9.1.2.2 55 _ (by decide) (by decide) hO
    refine mw_i2l dL_addSchema_6 rfl ?_
    refine mw_last dL_addSchema_7 h_p1 (mw_ix (j := 0) rfl (by decide) (by decide)) ?_
    refine mw_goto (tgt := 14) dL_addSchema_8 (by decide) ?_
    refine mw_iconst (v := 0) dL_addSchema_14 (by decide) ?_
    exact mw_ireturn dL_addSchema_15 ⟨_, rfl, rfl⟩ (lP_r q9 _ rfl)
theorem w_setKind (hC : cC g H sa ma) (hO : mw_g H 55 = some (oV f)) (p0 p1 p2 p3 : Int32) : mw_Con mm_L_setKind 8 5 270 [.ref 1, .int p0, .int p1, .int p2, .int p3, .ref 55] H (lP cvI H (sp_setKind g p0 p1 p2 p3)) := by
  refine gm_conH pl_L (by decide) rfl (Nat.le_of_ble_eq_true rfl) rfl ?_
  have h_p0 := cC_x hC
  refine mw_aload (i := 5) dL_setKind_0 rfl ?_
  refine mw_iconst (v := 0) dL_setKind_2 (by decide) ?_
  refine mw_aload_n (i := 0) dL_setKind_3 rfl rfl ?_
  refine mw_iload_n (i := 1) dL_setKind_4 rfl rfl ?_
  refine mw_iload_n (i := 2) dL_setKind_5 rfl rfl ?_
  refine mw_iload_n (i := 3) dL_setKind_6 rfl rfl ?_
  refine mw_iload (i := 4) dL_setKind_7 rfl ?_
  refine mw_callV dL_setKind_9 mk_L_15 h_p0 rfl (k_setKind hC p0 p1 p2 p3) (by decide) (Nat.le_refl _) (Nat.le_refl _) rfl rfl (Nat.le_of_ble_eq_true rfl) (fun E9 h9 q9 => ?_) (fun v9 h9 q9 => ?_)
  · obtain ⟨hG, hc, hk⟩ := q9
    rcases hk with ⟨-, z⟩ | ⟨k, hk, e1, e2⟩
    · cases z
    · have hk : k < 2 := hk
      have hk : k = 0 ∨ k = 1 := by omega
      rcases hk with rfl | rfl
      · cases e2
        refine mw_caught (E := eIO) (name := eIO) [] [(0, 14, 21, 21)] (0, 14, 17, 19) rfl (fun z hz => absurd hz List.not_mem_nil) (by decide) (by decide) cl_L_19 ca_10 rfl (i := 6) (Or.inr ⟨rfl, dL_setKind_17⟩) (by decide) ?_
        refine mw_iconst (v := 1) dL_setKind_19 (by decide) ?_
        exact mw_ireturn dL_setKind_20 ⟨_, rfl, rfl⟩ (lP_x hG hc hO e1 (by decide))
      · cases e2
        refine mw_caught (E := eIA) (name := eIA) [(0, 14, 17, 19)] [] (0, 14, 21, 21) rfl (fun z hz => by
          simp only [List.mem_cons, List.not_mem_nil, or_false] at hz
          subst hz
          exact ⟨by decide, _, cl_L_19, by decide +kernel⟩) (by decide) (by decide) cl_L_21 ca_9 rfl (i := 6) (Or.inr ⟨rfl, dL_setKind_21⟩) (by decide) ?_
        refine mw_iconst (v := 2) dL_setKind_23 (by decide) ?_
        exact mw_ireturn dL_setKind_24 ⟨_, rfl, rfl⟩ (lP_x hG hc hO e1 (by decide))
  · obtain ⟨r, rfl, q9⟩ := cP_v q9
    have h_p5 := q9.1.2.2 55 _ (by decide) (by decide) hO
    refine mw_i2l dL_setKind_12 rfl ?_
    refine mw_last dL_setKind_13 h_p5 (mw_ix (j := 0) rfl (by decide) (by decide)) ?_
    refine mw_goto (tgt := 25) dL_setKind_14 (by decide) ?_
    refine mw_iconst (v := 0) dL_setKind_25 (by decide) ?_
    exact mw_ireturn dL_setKind_26 ⟨_, rfl, rfl⟩ (lP_r q9 _ rfl)
theorem w_dropKind (hC : cC g H sa ma) (hO : mw_g H 55 = some (oV f)) (p0 p1 : Int32) : mw_Con mm_L_dropKind 8 5 270 [.ref 1, .int p0, .int p1, .ref 55] H (lP cvI H (sp_dropKind g p0 p1)) := by
  refine gm_conH pl_L (by decide) rfl (Nat.le_of_ble_eq_true rfl) rfl ?_
  have h_p0 := cC_x hC
  refine mw_aload_n (i := 3) dL_dropKind_0 rfl rfl ?_
  refine mw_iconst (v := 0) dL_dropKind_1 (by decide) ?_
  refine mw_aload_n (i := 0) dL_dropKind_2 rfl rfl ?_
  refine mw_iload_n (i := 1) dL_dropKind_3 rfl rfl ?_
  refine mw_iload_n (i := 2) dL_dropKind_4 rfl rfl ?_
  refine mw_callV dL_dropKind_5 mk_L_23 h_p0 rfl (k_dropKind hC p0 p1) (by decide) (Nat.le_refl _) (Nat.le_refl _) rfl rfl (Nat.le_of_ble_eq_true rfl) (fun E9 h9 q9 => ?_) (fun v9 h9 q9 => ?_)
  · obtain ⟨hG, hc, hk⟩ := q9
    rcases hk with ⟨-, z⟩ | ⟨k, hk, e1, e2⟩
    · cases z
    · have hk : k < 2 := hk
      have hk : k = 0 ∨ k = 1 := by omega
      rcases hk with rfl | rfl
      · cases e2
        refine mw_caught (E := eIO) (name := eIO) [] [(0, 10, 17, 21)] (0, 10, 13, 19) rfl (fun z hz => absurd hz List.not_mem_nil) (by decide) (by decide) cl_L_19 ca_10 rfl (i := 4) (Or.inr ⟨rfl, dL_dropKind_13⟩) (by decide) ?_
        refine mw_iconst (v := 1) dL_dropKind_15 (by decide) ?_
        exact mw_ireturn dL_dropKind_16 ⟨_, rfl, rfl⟩ (lP_x hG hc hO e1 (by decide))
      · cases e2
        refine mw_caught (E := eIA) (name := eIA) [(0, 10, 13, 19)] [] (0, 10, 17, 21) rfl (fun z hz => by
          simp only [List.mem_cons, List.not_mem_nil, or_false] at hz
          subst hz
          exact ⟨by decide, _, cl_L_19, by decide +kernel⟩) (by decide) (by decide) cl_L_21 ca_9 rfl (i := 4) (Or.inr ⟨rfl, dL_dropKind_17⟩) (by decide) ?_
        refine mw_iconst (v := 2) dL_dropKind_19 (by decide) ?_
        exact mw_ireturn dL_dropKind_20 ⟨_, rfl, rfl⟩ (lP_x hG hc hO e1 (by decide))
  · obtain ⟨r, rfl, q9⟩ := cP_v q9
    have h_p3 := q9.1.2.2 55 _ (by decide) (by decide) hO
    refine mw_i2l dL_dropKind_8 rfl ?_
    refine mw_last dL_dropKind_9 h_p3 (mw_ix (j := 0) rfl (by decide) (by decide)) ?_
    refine mw_goto (tgt := 21) dL_dropKind_10 (by decide) ?_
    refine mw_iconst (v := 0) dL_dropKind_21 (by decide) ?_
    exact mw_ireturn dL_dropKind_22 ⟨_, rfl, rfl⟩ (lP_r q9 _ rfl)
theorem w_setDefault (hC : cC g H sa ma) (hO : mw_g H 55 = some (oV f)) (p0 p1 p2 : Int32) : mw_Con mm_L_setDefault 8 5 270 [.ref 1, .int p0, .int p1, .int p2, .ref 55] H (lP cvI H (sp_setDefault g p0 p1 p2)) := by
  refine gm_conH pl_L (by decide) rfl (Nat.le_of_ble_eq_true rfl) rfl ?_
  have h_p0 := cC_x hC
  refine mw_aload (i := 4) dL_setDefault_0 rfl ?_
  refine mw_iconst (v := 0) dL_setDefault_2 (by decide) ?_
  refine mw_aload_n (i := 0) dL_setDefault_3 rfl rfl ?_
  refine mw_iload_n (i := 1) dL_setDefault_4 rfl rfl ?_
  refine mw_iload_n (i := 2) dL_setDefault_5 rfl rfl ?_
  refine mw_iload_n (i := 3) dL_setDefault_6 rfl rfl ?_
  refine mw_callV dL_setDefault_7 mk_L_27 h_p0 rfl (k_setDefault hC p0 p1 p2) (by decide) (Nat.le_refl _) (Nat.le_refl _) rfl rfl (Nat.le_of_ble_eq_true rfl) (fun E9 h9 q9 => ?_) (fun v9 h9 q9 => ?_)
  · obtain ⟨hG, hc, hk⟩ := q9
    rcases hk with ⟨-, z⟩ | ⟨k, hk, e1, e2⟩
    · cases z
    · have hk : k < 3 := hk
      have hk : k = 0 ∨ k = 1 ∨ k = 2 := by omega
      rcases hk with rfl | rfl | rfl
      · cases e2
        refine mw_caught (E := eIO) (name := eIO) [] [(0, 12, 19, 21), (0, 12, 23, 13)] (0, 12, 15, 19) rfl (fun z hz => absurd hz List.not_mem_nil) (by decide) (by decide) cl_L_19 ca_10 rfl (i := 5) (Or.inr ⟨rfl, dL_setDefault_15⟩) (by decide) ?_
        refine mw_iconst (v := 1) dL_setDefault_17 (by decide) ?_
        exact mw_ireturn dL_setDefault_18 ⟨_, rfl, rfl⟩ (lP_x hG hc hO e1 (by decide))
      · cases e2
        refine mw_caught (E := eIA) (name := eIA) [(0, 12, 15, 19)] [(0, 12, 23, 13)] (0, 12, 19, 21) rfl (fun z hz => by
          simp only [List.mem_cons, List.not_mem_nil, or_false] at hz
          subst hz
          exact ⟨by decide, _, cl_L_19, by decide +kernel⟩) (by decide) (by decide) cl_L_21 ca_9 rfl (i := 5) (Or.inr ⟨rfl, dL_setDefault_19⟩) (by decide) ?_
        refine mw_iconst (v := 2) dL_setDefault_21 (by decide) ?_
        exact mw_ireturn dL_setDefault_22 ⟨_, rfl, rfl⟩ (lP_x hG hc hO e1 (by decide))
      · cases e2
        refine mw_caught (E := eIS) (name := eIS) [(0, 12, 15, 19), (0, 12, 19, 21)] [] (0, 12, 23, 13) rfl (fun z hz => by
          simp only [List.mem_cons, List.not_mem_nil, or_false] at hz
          rcases hz with rfl | rfl
          · exact ⟨by decide, _, cl_L_19, by decide +kernel⟩
          · exact ⟨by decide, _, cl_L_21, by decide +kernel⟩) (by decide) (by decide) cl_L_13 ca_8 rfl (i := 5) (Or.inr ⟨rfl, dL_setDefault_23⟩) (by decide) ?_
        refine mw_iconst (v := 3) dL_setDefault_25 (by decide) ?_
        exact mw_ireturn dL_setDefault_26 ⟨_, rfl, rfl⟩ (lP_x hG hc hO e1 (by decide))
  · obtain ⟨r, rfl, q9⟩ := cP_v q9
    have h_p4 := q9.1.2.2 55 _ (by decide) (by decide) hO
    refine mw_i2l dL_setDefault_10 rfl ?_
    refine mw_last dL_setDefault_11 h_p4 (mw_ix (j := 0) rfl (by decide) (by decide)) ?_
    refine mw_goto (tgt := 27) dL_setDefault_12 (by decide) ?_
    refine mw_iconst (v := 0) dL_setDefault_27 (by decide) ?_
    exact mw_ireturn dL_setDefault_28 ⟨_, rfl, rfl⟩ (lP_r q9 _ rfl)
theorem w_kindOf (hC : cC g H sa ma) (hO : mw_g H 55 = some (oV f)) (p0 p1 : Int32) : mw_Con mm_L_kindOf 8 5 270 [.ref 1, .int p0, .int p1, .ref 55] H (lP cvI H (sp_kindOf g p0 p1)) := by
  refine gm_conH pl_L (by decide) rfl (Nat.le_of_ble_eq_true rfl) rfl ?_
  have h_p0 := cC_x hC
  refine mw_aload_n (i := 3) dL_kindOf_0 rfl rfl ?_
  refine mw_iconst (v := 0) dL_kindOf_1 (by decide) ?_
  refine mw_aload_n (i := 0) dL_kindOf_2 rfl rfl ?_
  refine mw_iload_n (i := 1) dL_kindOf_3 rfl rfl ?_
  refine mw_iload_n (i := 2) dL_kindOf_4 rfl rfl ?_
  refine mw_callV dL_kindOf_5 mk_L_31 h_p0 rfl (k_kindOf hC p0 p1) (by decide) (Nat.le_refl _) (Nat.le_refl _) rfl rfl (Nat.le_of_ble_eq_true rfl) (fun E9 h9 q9 => ?_) (fun v9 h9 q9 => ?_)
  · obtain ⟨hG, hc, hk⟩ := q9
    rcases hk with ⟨-, z⟩ | ⟨k, hk, e1, e2⟩
    · cases z
    · have hk : k < 2 := hk
      have hk : k = 0 ∨ k = 1 := by omega
      rcases hk with rfl | rfl
      · cases e2
        refine mw_caught (E := eIO) (name := eIO) [] [(0, 10, 17, 21)] (0, 10, 13, 19) rfl (fun z hz => absurd hz List.not_mem_nil) (by decide) (by decide) cl_L_19 ca_10 rfl (i := 4) (Or.inr ⟨rfl, dL_kindOf_13⟩) (by decide) ?_
        refine mw_iconst (v := 1) dL_kindOf_15 (by decide) ?_
        exact mw_ireturn dL_kindOf_16 ⟨_, rfl, rfl⟩ (lP_x hG hc hO e1 (by decide))
      · cases e2
        refine mw_caught (E := eIA) (name := eIA) [(0, 10, 13, 19)] [] (0, 10, 17, 21) rfl (fun z hz => by
          simp only [List.mem_cons, List.not_mem_nil, or_false] at hz
          subst hz
          exact ⟨by decide, _, cl_L_19, by decide +kernel⟩) (by decide) (by decide) cl_L_21 ca_9 rfl (i := 4) (Or.inr ⟨rfl, dL_kindOf_17⟩) (by decide) ?_
        refine mw_iconst (v := 2) dL_kindOf_19 (by decide) ?_
        exact mw_ireturn dL_kindOf_20 ⟨_, rfl, rfl⟩ (lP_x hG hc hO e1 (by decide))
  · obtain ⟨r, rfl, q9⟩ := cP_v q9
    have h_p3 := q9.1.2.2 55 _ (by decide) (by decide) hO
    refine mw_i2l dL_kindOf_8 rfl ?_
    refine mw_last dL_kindOf_9 h_p3 (mw_ix (j := 0) rfl (by decide) (by decide)) ?_
    refine mw_goto (tgt := 21) dL_kindOf_10 (by decide) ?_
    refine mw_iconst (v := 0) dL_kindOf_21 (by decide) ?_
    exact mw_ireturn dL_kindOf_22 ⟨_, rfl, rfl⟩ (lP_r q9 _ rfl)
theorem w_conflict (hC : cC g H sa ma) (hO : mw_g H 55 = some (oV f)) (p0 p1 : Int32) : mw_Con mm_L_conflict 8 5 270 [.ref 1, .int p0, .int p1, .ref 55] H (fun v H' => ∃ a, sp_conflict g p0 p1 a ∧ lP cvI H a v H') := by
  refine gm_conH pl_L (by decide) rfl (Nat.le_of_ble_eq_true rfl) rfl ?_
  have h_p0 := cC_x hC
  refine mw_aload_n (i := 3) dL_conflict_0 rfl rfl ?_
  refine mw_iconst (v := 0) dL_conflict_1 (by decide) ?_
  refine mw_aload_n (i := 0) dL_conflict_2 rfl rfl ?_
  refine mw_iload_n (i := 1) dL_conflict_3 rfl rfl ?_
  refine mw_iload_n (i := 2) dL_conflict_4 rfl rfl ?_
  refine mw_callV dL_conflict_5 mk_L_34 h_p0 rfl (k_conflict hC p0 p1) (by decide) (Nat.le_refl _) (Nat.le_refl _) rfl rfl (Nat.le_of_ble_eq_true rfl) (fun E9 h9 q9 => ?_) (fun v9 h9 q9 => ?_)
  · obtain ⟨a, hsp, hG, hc, hk⟩ := q9
    rcases hk with ⟨-, z⟩ | ⟨k, hk, e1, e2⟩
    · cases z
    · have hk : k < 1 := hk
      have hk : k = 0 := by omega
      subst hk
      cases e2
      refine mw_caught (E := eIO) (name := eIO) [] [] (0, 10, 13, 19) rfl (fun z hz => absurd hz List.not_mem_nil) (by decide) (by decide) cl_L_19 ca_10 rfl (i := 4) (Or.inr ⟨rfl, dL_conflict_13⟩) (by decide) ?_
      refine mw_iconst (v := 1) dL_conflict_15 (by decide) ?_
      exact mw_ireturn dL_conflict_16 ⟨_, rfl, rfl⟩ (⟨a, hsp, lP_x hG hc hO e1 (by decide)⟩)
  · obtain ⟨a, hsp, q9⟩ := q9
    obtain ⟨r, rfl, q9⟩ := cP_v q9
    have h_p3 := q9.1.2.2 55 _ (by decide) (by decide) hO
    refine mw_i2l dL_conflict_8 rfl ?_
    refine mw_last dL_conflict_9 h_p3 (mw_ix (j := 0) rfl (by decide) (by decide)) ?_
    refine mw_goto (tgt := 17) dL_conflict_10 (by decide) ?_
    refine mw_iconst (v := 0) dL_conflict_17 (by decide) ?_
    exact mw_ireturn dL_conflict_18 ⟨_, rfl, rfl⟩ ⟨a, hsp, lP_r q9 _ rfl⟩
theorem w_create (hC : cC g H sa ma) (h56 : 56 ≤ H.1) (hO : mw_g H 55 = some (oV f)) (p0 : Int32) : mw_Con mm_L_create 8 5 270 [.ref 1, .int p0, .ref 55] H (lP cvI H (sp_create g p0)) := by
  refine gm_conH pl_L (by decide) rfl (Nat.le_of_ble_eq_true rfl) rfl ?_
  have h_p0 := cC_x hC
  refine mw_aload_n (i := 2) dL_create_0 rfl rfl ?_
  refine mw_iconst (v := 0) dL_create_1 (by decide) ?_
  refine mw_aload_n (i := 0) dL_create_2 rfl rfl ?_
  refine mw_iload_n (i := 1) dL_create_3 rfl rfl ?_
  refine mw_callV dL_create_4 mk_L_37 h_p0 rfl (k_create hC h56 p0) (by decide) (Nat.le_refl _) (Nat.le_refl _) rfl rfl (Nat.le_of_ble_eq_true rfl) (fun E9 h9 q9 => ?_) (fun v9 h9 q9 => ?_)
  · obtain ⟨hG, hc, hk⟩ := q9
    rcases hk with ⟨-, z⟩ | ⟨k, hk, e1, e2⟩
    · cases z
    · have hk : k < 2 := hk
      have hk : k = 0 ∨ k = 1 := by omega
      rcases hk with rfl | rfl
      · cases e2
        refine mw_caught (E := eIO) (name := eIO) [] [(0, 9, 15, 13)] (0, 9, 12, 19) rfl (fun z hz => absurd hz List.not_mem_nil) (by decide) (by decide) cl_L_19 ca_10 rfl (i := 3) (Or.inl ⟨3, rfl, rfl, dL_create_12⟩) (by decide) ?_
        refine mw_iconst (v := 1) dL_create_13 (by decide) ?_
        exact mw_ireturn dL_create_14 ⟨_, rfl, rfl⟩ (lP_x hG hc hO e1 (by decide))
      · cases e2
        refine mw_caught (E := eIS) (name := eIS) [(0, 9, 12, 19)] [] (0, 9, 15, 13) rfl (fun z hz => by
          simp only [List.mem_cons, List.not_mem_nil, or_false] at hz
          subst hz
          exact ⟨by decide, _, cl_L_19, by decide +kernel⟩) (by decide) (by decide) cl_L_13 ca_8 rfl (i := 3) (Or.inl ⟨3, rfl, rfl, dL_create_15⟩) (by decide) ?_
        refine mw_iconst (v := 2) dL_create_16 (by decide) ?_
        exact mw_ireturn dL_create_17 ⟨_, rfl, rfl⟩ (lP_x hG hc hO e1 (by decide))
  · obtain ⟨r, rfl, q9⟩ := cP_v q9
    have h_p2 := q9.1.2.2 55 _ (by decide) (by decide) hO
    refine mw_i2l dL_create_7 rfl ?_
    refine mw_last dL_create_8 h_p2 (mw_ix (j := 0) rfl (by decide) (by decide)) ?_
    refine mw_goto (tgt := 18) dL_create_9 (by decide) ?_
    refine mw_iconst (v := 0) dL_create_18 (by decide) ?_
    exact mw_ireturn dL_create_19 ⟨_, rfl, rfl⟩ (lP_r q9 _ rfl)
theorem w_copy (hC : cC g H sa ma) (h56 : 56 ≤ H.1) (hO : mw_g H 55 = some (oV f)) (p0 p1 : Int32) : mw_Con mm_L_copy 8 5 270 [.ref 1, .int p0, .int p1, .ref 55] H (lP cvI H (sp_copy g p0 p1)) := by
  refine gm_conH pl_L (by decide) rfl (Nat.le_of_ble_eq_true rfl) rfl ?_
  have h_p0 := cC_x hC
  refine mw_aload_n (i := 3) dL_copy_0 rfl rfl ?_
  refine mw_iconst (v := 0) dL_copy_1 (by decide) ?_
  refine mw_aload_n (i := 0) dL_copy_2 rfl rfl ?_
  refine mw_iload_n (i := 1) dL_copy_3 rfl rfl ?_
  refine mw_iload_n (i := 2) dL_copy_4 rfl rfl ?_
  refine mw_callV dL_copy_5 mk_L_41 h_p0 rfl (k_copy hC h56 p0 p1) (by decide) (Nat.le_refl _) (Nat.le_refl _) rfl rfl (Nat.le_of_ble_eq_true rfl) (fun E9 h9 q9 => ?_) (fun v9 h9 q9 => ?_)
  · obtain ⟨hG, hc, hk⟩ := q9
    rcases hk with ⟨-, z⟩ | ⟨k, hk, e1, e2⟩
    · cases z
    · have hk : k < 2 := hk
      have hk : k = 0 ∨ k = 1 := by omega
      rcases hk with rfl | rfl
      · cases e2
        refine mw_caught (E := eIO) (name := eIO) [] [(0, 10, 17, 13)] (0, 10, 13, 19) rfl (fun z hz => absurd hz List.not_mem_nil) (by decide) (by decide) cl_L_19 ca_10 rfl (i := 4) (Or.inr ⟨rfl, dL_copy_13⟩) (by decide) ?_
        refine mw_iconst (v := 1) dL_copy_15 (by decide) ?_
        exact mw_ireturn dL_copy_16 ⟨_, rfl, rfl⟩ (lP_x hG hc hO e1 (by decide))
      · cases e2
        refine mw_caught (E := eIS) (name := eIS) [(0, 10, 13, 19)] [] (0, 10, 17, 13) rfl (fun z hz => by
          simp only [List.mem_cons, List.not_mem_nil, or_false] at hz
          subst hz
          exact ⟨by decide, _, cl_L_19, by decide +kernel⟩) (by decide) (by decide) cl_L_13 ca_8 rfl (i := 4) (Or.inr ⟨rfl, dL_copy_17⟩) (by decide) ?_
        refine mw_iconst (v := 2) dL_copy_19 (by decide) ?_
        exact mw_ireturn dL_copy_20 ⟨_, rfl, rfl⟩ (lP_x hG hc hO e1 (by decide))
  · obtain ⟨r, rfl, q9⟩ := cP_v q9
    have h_p3 := q9.1.2.2 55 _ (by decide) (by decide) hO
    refine mw_i2l dL_copy_8 rfl ?_
    refine mw_last dL_copy_9 h_p3 (mw_ix (j := 0) rfl (by decide) (by decide)) ?_
    refine mw_goto (tgt := 21) dL_copy_10 (by decide) ?_
    refine mw_iconst (v := 0) dL_copy_21 (by decide) ?_
    exact mw_ireturn dL_copy_22 ⟨_, rfl, rfl⟩ (lP_r q9 _ rfl)
theorem w_discard (hC : cC g H sa ma) (hO : mw_g H 55 = some (oV f)) (p0 : Int32) : mw_Con mm_L_discard 8 5 270 [.ref 1, .int p0, .ref 55] H (lP cvI H (sp_discard g p0)) := by
  refine gm_conH pl_L (by decide) rfl (Nat.le_of_ble_eq_true rfl) rfl ?_
  have h_p0 := cC_x hC
  refine mw_aload_n (i := 2) dL_discard_0 rfl rfl ?_
  refine mw_iconst (v := 0) dL_discard_1 (by decide) ?_
  refine mw_aload_n (i := 0) dL_discard_2 rfl rfl ?_
  refine mw_iload_n (i := 1) dL_discard_3 rfl rfl ?_
  refine mw_callV dL_discard_4 mk_L_44 h_p0 rfl (k_discard hC p0) (by decide) (Nat.le_refl _) (Nat.le_refl _) rfl rfl (Nat.le_of_ble_eq_true rfl) (fun E9 h9 q9 => ?_) (fun v9 h9 q9 => ?_)
  · obtain ⟨hG, hc, hk⟩ := q9
    rcases hk with ⟨-, z⟩ | ⟨k, hk, e1, e2⟩
    · cases z
    · have hk : k < 1 := hk
      have hk : k = 0 := by omega
      subst hk
      cases e2
      refine mw_caught (E := eIO) (name := eIO) [] [] (0, 9, 12, 19) rfl (fun z hz => absurd hz List.not_mem_nil) (by decide) (by decide) cl_L_19 ca_10 rfl (i := 3) (Or.inl ⟨3, rfl, rfl, dL_discard_12⟩) (by decide) ?_
      refine mw_iconst (v := 1) dL_discard_13 (by decide) ?_
      exact mw_ireturn dL_discard_14 ⟨_, rfl, rfl⟩ (lP_x hG hc hO e1 (by decide))
  · obtain ⟨r, rfl, q9⟩ := cP_v q9
    have h_p2 := q9.1.2.2 55 _ (by decide) (by decide) hO
    refine mw_i2l dL_discard_7 rfl ?_
    refine mw_last dL_discard_8 h_p2 (mw_ix (j := 0) rfl (by decide) (by decide)) ?_
    refine mw_goto (tgt := 15) dL_discard_9 (by decide) ?_
    refine mw_iconst (v := 0) dL_discard_15 (by decide) ?_
    exact mw_ireturn dL_discard_16 ⟨_, rfl, rfl⟩ (lP_r q9 _ rfl)
theorem w_set (hC : cC g H sa ma) (hO : mw_g H 55 = some (oV f)) (p0 p1 p2 : Int32) : mw_Con mm_L_set 8 5 270 [.ref 1, .int p0, .int p1, .int p2] H (lPv H (sp_set g p0 p1 p2)) := by
  refine gm_conH pl_L (by decide) rfl (Nat.le_of_ble_eq_true rfl) rfl ?_
  have h_p0 := cC_x hC
  refine mw_aload_n (i := 0) dL_set_0 rfl rfl ?_
  refine mw_iload_n (i := 1) dL_set_1 rfl rfl ?_
  refine mw_iload_n (i := 2) dL_set_2 rfl rfl ?_
  refine mw_iload_n (i := 3) dL_set_3 rfl rfl ?_
  refine mw_callV dL_set_4 mk_L_47 h_p0 rfl (k_set hC p0 p1 p2) (by decide) (Nat.le_refl _) (Nat.le_refl _) rfl rfl (Nat.le_of_ble_eq_true rfl) (fun E9 h9 q9 => ?_) (fun v9 h9 q9 => ?_)
  · obtain ⟨hG, hc, hk⟩ := q9
    rcases hk with ⟨-, z⟩ | ⟨k, hk, e1, e2⟩
    · cases z
    · have hk : k < 3 := hk
      have hk : k = 0 ∨ k = 1 ∨ k = 2 := by omega
      rcases hk with rfl | rfl | rfl
      · cases e2
        refine mw_caught (E := eIO) (name := eIO) [] [(0, 7, 14, 21), (0, 7, 18, 13)] (0, 7, 10, 19) rfl (fun z hz => absurd hz List.not_mem_nil) (by decide) (by decide) cl_L_19 ca_10 rfl (i := 4) (Or.inr ⟨rfl, dL_set_10⟩) (by decide) ?_
        refine mw_iconst (v := 1) dL_set_12 (by decide) ?_
        exact mw_ireturn dL_set_13 ⟨_, rfl, rfl⟩ (lPv_x hG hc hO e1)
      · cases e2
        refine mw_caught (E := eIA) (name := eIA) [(0, 7, 10, 19)] [(0, 7, 18, 13)] (0, 7, 14, 21) rfl (fun z hz => by
          simp only [List.mem_cons, List.not_mem_nil, or_false] at hz
          subst hz
          exact ⟨by decide, _, cl_L_19, by decide +kernel⟩) (by decide) (by decide) cl_L_21 ca_9 rfl (i := 4) (Or.inr ⟨rfl, dL_set_14⟩) (by decide) ?_
        refine mw_iconst (v := 2) dL_set_16 (by decide) ?_
        exact mw_ireturn dL_set_17 ⟨_, rfl, rfl⟩ (lPv_x hG hc hO e1)
      · cases e2
        refine mw_caught (E := eIS) (name := eIS) [(0, 7, 10, 19), (0, 7, 14, 21)] [] (0, 7, 18, 13) rfl (fun z hz => by
          simp only [List.mem_cons, List.not_mem_nil, or_false] at hz
          rcases hz with rfl | rfl
          · exact ⟨by decide, _, cl_L_19, by decide +kernel⟩
          · exact ⟨by decide, _, cl_L_21, by decide +kernel⟩) (by decide) (by decide) cl_L_13 ca_8 rfl (i := 4) (Or.inr ⟨rfl, dL_set_18⟩) (by decide) ?_
        refine mw_iconst (v := 3) dL_set_20 (by decide) ?_
        exact mw_ireturn dL_set_21 ⟨_, rfl, rfl⟩ (lPv_x hG hc hO e1)
  · obtain ⟨hG, hc, ⟨z1, z2⟩ | ⟨k, -, -, z⟩⟩ := q9
    · cases z2
      refine mw_goto (tgt := 22) dL_set_7 (by decide) ?_
      refine mw_iconst (v := 0) dL_set_22 (by decide) ?_
      exact mw_ireturn dL_set_23 ⟨_, rfl, rfl⟩ ⟨hG.two, hc, ⟨f, hG.2.2 55 _ (by decide) (by decide) hO⟩, by rw [z1]⟩
    · cases z
theorem w_append (hC : cC g H sa ma) (hO : mw_g H 55 = some (oV f)) (p0 p1 p2 : Int32) : mw_Con mm_L_append 8 5 270 [.ref 1, .int p0, .int p1, .int p2.toInt8.toInt32, .ref 55] H (lP cvI H (sp_append g p0 p1 p2.toInt8.toInt32)) := by
  refine gm_conH pl_L (by decide) rfl (Nat.le_of_ble_eq_true rfl) rfl ?_
  have h_p0 := cC_x hC
  refine mw_aload (i := 4) dL_append_0 rfl ?_
  refine mw_iconst (v := 0) dL_append_2 (by decide) ?_
  refine mw_aload_n (i := 0) dL_append_3 rfl rfl ?_
  refine mw_iload_n (i := 1) dL_append_4 rfl rfl ?_
  refine mw_iload_n (i := 2) dL_append_5 rfl rfl ?_
  refine mw_iload_n (i := 3) dL_append_6 rfl rfl ?_
  refine mw_callV dL_append_7 mk_L_51 h_p0 rfl (k_append hC p0 p1 p2) (by decide) (Nat.le_refl _) (Nat.le_refl _) rfl rfl (Nat.le_of_ble_eq_true rfl) (fun E9 h9 q9 => ?_) (fun v9 h9 q9 => ?_)
  · obtain ⟨hG, hc, hk⟩ := q9
    rcases hk with ⟨-, z⟩ | ⟨k, hk, e1, e2⟩
    · cases z
    · have hk : k < 3 := hk
      have hk : k = 0 ∨ k = 1 ∨ k = 2 := by omega
      rcases hk with rfl | rfl | rfl
      · cases e2
        refine mw_caught (E := eIO) (name := eIO) [] [(0, 12, 19, 21), (0, 12, 23, 13)] (0, 12, 15, 19) rfl (fun z hz => absurd hz List.not_mem_nil) (by decide) (by decide) cl_L_19 ca_10 rfl (i := 5) (Or.inr ⟨rfl, dL_append_15⟩) (by decide) ?_
        refine mw_iconst (v := 1) dL_append_17 (by decide) ?_
        exact mw_ireturn dL_append_18 ⟨_, rfl, rfl⟩ (lP_x hG hc hO e1 (by decide))
      · cases e2
        refine mw_caught (E := eIA) (name := eIA) [(0, 12, 15, 19)] [(0, 12, 23, 13)] (0, 12, 19, 21) rfl (fun z hz => by
          simp only [List.mem_cons, List.not_mem_nil, or_false] at hz
          subst hz
          exact ⟨by decide, _, cl_L_19, by decide +kernel⟩) (by decide) (by decide) cl_L_21 ca_9 rfl (i := 5) (Or.inr ⟨rfl, dL_append_19⟩) (by decide) ?_
        refine mw_iconst (v := 2) dL_append_21 (by decide) ?_
        exact mw_ireturn dL_append_22 ⟨_, rfl, rfl⟩ (lP_x hG hc hO e1 (by decide))
      · cases e2
        refine mw_caught (E := eIS) (name := eIS) [(0, 12, 15, 19), (0, 12, 19, 21)] [] (0, 12, 23, 13) rfl (fun z hz => by
          simp only [List.mem_cons, List.not_mem_nil, or_false] at hz
          rcases hz with rfl | rfl
          · exact ⟨by decide, _, cl_L_19, by decide +kernel⟩
          · exact ⟨by decide, _, cl_L_21, by decide +kernel⟩) (by decide) (by decide) cl_L_13 ca_8 rfl (i := 5) (Or.inr ⟨rfl, dL_append_23⟩) (by decide) ?_
        refine mw_iconst (v := 3) dL_append_25 (by decide) ?_
        exact mw_ireturn dL_append_26 ⟨_, rfl, rfl⟩ (lP_x hG hc hO e1 (by decide))
  · obtain ⟨r, rfl, q9⟩ := cP_v q9
    have h_p4 := q9.1.2.2 55 _ (by decide) (by decide) hO
    refine mw_i2l dL_append_10 rfl ?_
    refine mw_last dL_append_11 h_p4 (mw_ix (j := 0) rfl (by decide) (by decide)) ?_
    refine mw_goto (tgt := 27) dL_append_12 (by decide) ?_
    refine mw_iconst (v := 0) dL_append_27 (by decide) ?_
    exact mw_ireturn dL_append_28 ⟨_, rfl, rfl⟩ (lP_r q9 _ rfl)
theorem w_setPart (hC : cC g H sa ma) (hO : mw_g H 55 = some (oV f)) (p0 p1 p2 : Int32) : mw_Con mm_L_setPart 8 5 270 [.ref 1, .int p0, .int p1, .int p2, .ref 55] H (lP cvI H (sp_setPart g p0 p1 p2)) := by
  refine gm_conH pl_L (by decide) rfl (Nat.le_of_ble_eq_true rfl) rfl ?_
  have h_p0 := cC_x hC
  refine mw_aload (i := 4) dL_setPart_0 rfl ?_
  refine mw_iconst (v := 0) dL_setPart_2 (by decide) ?_
  refine mw_aload_n (i := 0) dL_setPart_3 rfl rfl ?_
  refine mw_iload_n (i := 1) dL_setPart_4 rfl rfl ?_
  refine mw_iload_n (i := 2) dL_setPart_5 rfl rfl ?_
  refine mw_iload_n (i := 3) dL_setPart_6 rfl rfl ?_
  refine mw_callV dL_setPart_7 mk_L_55 h_p0 rfl (k_setPart hC p0 p1 p2) (by decide) (Nat.le_refl _) (Nat.le_refl _) rfl rfl (Nat.le_of_ble_eq_true rfl) (fun E9 h9 q9 => ?_) (fun v9 h9 q9 => ?_)
  · obtain ⟨hG, hc, hk⟩ := q9
    rcases hk with ⟨-, z⟩ | ⟨k, hk, e1, e2⟩
    · cases z
    · have hk : k < 3 := hk
      have hk : k = 0 ∨ k = 1 ∨ k = 2 := by omega
      rcases hk with rfl | rfl | rfl
      · cases e2
        refine mw_caught (E := eIO) (name := eIO) [] [(0, 12, 19, 21), (0, 12, 23, 13)] (0, 12, 15, 19) rfl (fun z hz => absurd hz List.not_mem_nil) (by decide) (by decide) cl_L_19 ca_10 rfl (i := 5) (Or.inr ⟨rfl, dL_setPart_15⟩) (by decide) ?_
        refine mw_iconst (v := 1) dL_setPart_17 (by decide) ?_
        exact mw_ireturn dL_setPart_18 ⟨_, rfl, rfl⟩ (lP_x hG hc hO e1 (by decide))
      · cases e2
        refine mw_caught (E := eIA) (name := eIA) [(0, 12, 15, 19)] [(0, 12, 23, 13)] (0, 12, 19, 21) rfl (fun z hz => by
          simp only [List.mem_cons, List.not_mem_nil, or_false] at hz
          subst hz
          exact ⟨by decide, _, cl_L_19, by decide +kernel⟩) (by decide) (by decide) cl_L_21 ca_9 rfl (i := 5) (Or.inr ⟨rfl, dL_setPart_19⟩) (by decide) ?_
        refine mw_iconst (v := 2) dL_setPart_21 (by decide) ?_
        exact mw_ireturn dL_setPart_22 ⟨_, rfl, rfl⟩ (lP_x hG hc hO e1 (by decide))
      · cases e2
        refine mw_caught (E := eIS) (name := eIS) [(0, 12, 15, 19), (0, 12, 19, 21)] [] (0, 12, 23, 13) rfl (fun z hz => by
          simp only [List.mem_cons, List.not_mem_nil, or_false] at hz
          rcases hz with rfl | rfl
          · exact ⟨by decide, _, cl_L_19, by decide +kernel⟩
          · exact ⟨by decide, _, cl_L_21, by decide +kernel⟩) (by decide) (by decide) cl_L_13 ca_8 rfl (i := 5) (Or.inr ⟨rfl, dL_setPart_23⟩) (by decide) ?_
        refine mw_iconst (v := 3) dL_setPart_25 (by decide) ?_
        exact mw_ireturn dL_setPart_26 ⟨_, rfl, rfl⟩ (lP_x hG hc hO e1 (by decide))
  · obtain ⟨r, rfl, q9⟩ := cP_v q9
    have h_p4 := q9.1.2.2 55 _ (by decide) (by decide) hO
    refine mw_i2l dL_setPart_10 rfl ?_
    refine mw_last dL_setPart_11 h_p4 (mw_ix (j := 0) rfl (by decide) (by decide)) ?_
    refine mw_goto (tgt := 27) dL_setPart_12 (by decide) ?_
    refine mw_iconst (v := 0) dL_setPart_27 (by decide) ?_
    exact mw_ireturn dL_setPart_28 ⟨_, rfl, rfl⟩ (lP_r q9 _ rfl)
theorem w_clear (hC : cC g H sa ma) (hO : mw_g H 55 = some (oV f)) (p0 p1 : Int32) : mw_Con mm_L_clear 8 5 270 [.ref 1, .int p0, .int p1, .ref 55] H (lP cvI H (sp_clear g p0 p1)) := by
  refine gm_conH pl_L (by decide) rfl (Nat.le_of_ble_eq_true rfl) rfl ?_
  have h_p0 := cC_x hC
  refine mw_aload_n (i := 3) dL_clear_0 rfl rfl ?_
  refine mw_iconst (v := 0) dL_clear_1 (by decide) ?_
  refine mw_aload_n (i := 0) dL_clear_2 rfl rfl ?_
  refine mw_iload_n (i := 1) dL_clear_3 rfl rfl ?_
  refine mw_iload_n (i := 2) dL_clear_4 rfl rfl ?_
  refine mw_callV dL_clear_5 mk_L_58 h_p0 rfl (k_clear hC p0 p1) (by decide) (Nat.le_refl _) (Nat.le_refl _) rfl rfl (Nat.le_of_ble_eq_true rfl) (fun E9 h9 q9 => ?_) (fun v9 h9 q9 => ?_)
  · obtain ⟨hG, hc, hk⟩ := q9
    rcases hk with ⟨-, z⟩ | ⟨k, hk, e1, e2⟩
    · cases z
    · have hk : k < 2 := hk
      have hk : k = 0 ∨ k = 1 := by omega
      rcases hk with rfl | rfl
      · cases e2
        refine mw_caught (E := eIO) (name := eIO) [] [(0, 10, 17, 21)] (0, 10, 13, 19) rfl (fun z hz => absurd hz List.not_mem_nil) (by decide) (by decide) cl_L_19 ca_10 rfl (i := 4) (Or.inr ⟨rfl, dL_clear_13⟩) (by decide) ?_
        refine mw_iconst (v := 1) dL_clear_15 (by decide) ?_
        exact mw_ireturn dL_clear_16 ⟨_, rfl, rfl⟩ (lP_x hG hc hO e1 (by decide))
      · cases e2
        refine mw_caught (E := eIA) (name := eIA) [(0, 10, 13, 19)] [] (0, 10, 17, 21) rfl (fun z hz => by
          simp only [List.mem_cons, List.not_mem_nil, or_false] at hz
          subst hz
          exact ⟨by decide, _, cl_L_19, by decide +kernel⟩) (by decide) (by decide) cl_L_21 ca_9 rfl (i := 4) (Or.inr ⟨rfl, dL_clear_17⟩) (by decide) ?_
        refine mw_iconst (v := 2) dL_clear_19 (by decide) ?_
        exact mw_ireturn dL_clear_20 ⟨_, rfl, rfl⟩ (lP_x hG hc hO e1 (by decide))
  · obtain ⟨r, rfl, q9⟩ := cP_v q9
    have h_p3 := q9.1.2.2 55 _ (by decide) (by decide) hO
    refine mw_i2l dL_clear_8 rfl ?_
    refine mw_last dL_clear_9 h_p3 (mw_ix (j := 0) rfl (by decide) (by decide)) ?_
    refine mw_goto (tgt := 21) dL_clear_10 (by decide) ?_
    refine mw_iconst (v := 0) dL_clear_21 (by decide) ?_
    exact mw_ireturn dL_clear_22 ⟨_, rfl, rfl⟩ (lP_r q9 _ rfl)
theorem w_schemaOf (hC : cC g H sa ma) (hO : mw_g H 55 = some (oV f)) (p0 : Int32) : mw_Con mm_L_schemaOf 8 5 270 [.ref 1, .int p0, .ref 55] H (lP cvI H (sp_schemaOf g p0)) := by
  refine gm_conH pl_L (by decide) rfl (Nat.le_of_ble_eq_true rfl) rfl ?_
  have h_p0 := cC_x hC
  refine mw_aload_n (i := 2) dL_schemaOf_0 rfl rfl ?_
  refine mw_iconst (v := 0) dL_schemaOf_1 (by decide) ?_
  refine mw_aload_n (i := 0) dL_schemaOf_2 rfl rfl ?_
  refine mw_iload_n (i := 1) dL_schemaOf_3 rfl rfl ?_
  refine mw_callV dL_schemaOf_4 mk_L_61 h_p0 rfl (k_schemaOf hC p0) (by decide) (Nat.le_refl _) (Nat.le_refl _) rfl rfl (Nat.le_of_ble_eq_true rfl) (fun E9 h9 q9 => ?_) (fun v9 h9 q9 => ?_)
  · obtain ⟨hG, hc, hk⟩ := q9
    rcases hk with ⟨-, z⟩ | ⟨k, hk, e1, e2⟩
    · cases z
    · have hk : k < 1 := hk
      have hk : k = 0 := by omega
      subst hk
      cases e2
      refine mw_caught (E := eIO) (name := eIO) [] [] (0, 9, 12, 19) rfl (fun z hz => absurd hz List.not_mem_nil) (by decide) (by decide) cl_L_19 ca_10 rfl (i := 3) (Or.inl ⟨3, rfl, rfl, dL_schemaOf_12⟩) (by decide) ?_
      refine mw_iconst (v := 1) dL_schemaOf_13 (by decide) ?_
      exact mw_ireturn dL_schemaOf_14 ⟨_, rfl, rfl⟩ (lP_x hG hc hO e1 (by decide))
  · obtain ⟨r, rfl, q9⟩ := cP_v q9
    have h_p2 := q9.1.2.2 55 _ (by decide) (by decide) hO
    refine mw_i2l dL_schemaOf_7 rfl ?_
    refine mw_last dL_schemaOf_8 h_p2 (mw_ix (j := 0) rfl (by decide) (by decide)) ?_
    refine mw_goto (tgt := 15) dL_schemaOf_9 (by decide) ?_
    refine mw_iconst (v := 0) dL_schemaOf_15 (by decide) ?_
    exact mw_ireturn dL_schemaOf_16 ⟨_, rfl, rfl⟩ (lP_r q9 _ rfl)
theorem w_has (hC : cC g H sa ma) (hO : mw_g H 55 = some (oV f)) (p0 p1 : Int32) : mw_Con mm_L_has 8 5 270 [.ref 1, .int p0, .int p1, .ref 55] H (lP cvZ H (sp_has g p0 p1)) := by
  refine gm_conH pl_L (by decide) rfl (Nat.le_of_ble_eq_true rfl) rfl ?_
  have h_p0 := cC_x hC
  refine mw_aload_n (i := 3) dL_has_0 rfl rfl ?_
  refine mw_iconst (v := 0) dL_has_1 (by decide) ?_
  refine mw_aload_n (i := 0) dL_has_2 rfl rfl ?_
  refine mw_iload_n (i := 1) dL_has_3 rfl rfl ?_
  refine mw_iload_n (i := 2) dL_has_4 rfl rfl ?_
  refine mw_callV dL_has_5 mk_L_64 h_p0 rfl (k_has hC p0 p1) (by decide) (Nat.le_refl _) (Nat.le_refl _) rfl rfl (Nat.le_of_ble_eq_true rfl) (fun E9 h9 q9 => ?_) (fun v9 h9 q9 => ?_)
  · obtain ⟨hG, hc, hk⟩ := q9
    rcases hk with ⟨-, z⟩ | ⟨k, hk, e1, e2⟩
    · cases z
    · have hk : k < 2 := hk
      have hk : k = 0 ∨ k = 1 := by omega
      rcases hk with rfl | rfl
      · cases e2
        refine mw_caught (E := eIO) (name := eIO) [] [(0, 17, 24, 21)] (0, 17, 20, 19) rfl (fun z hz => absurd hz List.not_mem_nil) (by decide) (by decide) cl_L_19 ca_10 rfl (i := 4) (Or.inr ⟨rfl, dL_has_20⟩) (by decide) ?_
        refine mw_iconst (v := 1) dL_has_22 (by decide) ?_
        exact mw_ireturn dL_has_23 ⟨_, rfl, rfl⟩ (lP_x hG hc hO e1 (by decide))
      · cases e2
        refine mw_caught (E := eIA) (name := eIA) [(0, 17, 20, 19)] [] (0, 17, 24, 21) rfl (fun z hz => by
          simp only [List.mem_cons, List.not_mem_nil, or_false] at hz
          subst hz
          exact ⟨by decide, _, cl_L_19, by decide +kernel⟩) (by decide) (by decide) cl_L_21 ca_9 rfl (i := 4) (Or.inr ⟨rfl, dL_has_24⟩) (by decide) ?_
        refine mw_iconst (v := 2) dL_has_26 (by decide) ?_
        exact mw_ireturn dL_has_27 ⟨_, rfl, rfl⟩ (lP_x hG hc hO e1 (by decide))
  · obtain ⟨r, rfl, q9⟩ := cP_v q9
    have h_p3 := q9.1.2.2 55 _ (by decide) (by decide) hO
    by_cases hr : r = 0
    · refine mw_if_eq (tgt := 15) dL_has_8 (by decide) (fun _ => ?_) (fun c9 => absurd c9 (fun z => z hr))
      refine mw_lconst (v := 0) dL_has_15 (by decide) ?_
      refine mw_last dL_has_16 h_p3 (mw_ix (j := 0) rfl (by decide) (by decide)) ?_
      refine mw_goto (tgt := 28) dL_has_17 (by decide) ?_
      refine mw_iconst (v := 0) dL_has_28 (by decide) ?_
      exact mw_ireturn dL_has_29 ⟨_, rfl, rfl⟩ (lP_r q9 _ (by unfold cvZ; rw [if_pos hr]))
    · refine mw_if_eq (tgt := 15) dL_has_8 (by decide) (fun c9 => absurd c9 hr) (fun _ => ?_)
      refine mw_lconst (v := 1) dL_has_11 (by decide) ?_
      refine mw_goto (tgt := 16) dL_has_12 (by decide) ?_
      refine mw_last dL_has_16 h_p3 (mw_ix (j := 0) rfl (by decide) (by decide)) ?_
      refine mw_goto (tgt := 28) dL_has_17 (by decide) ?_
      refine mw_iconst (v := 0) dL_has_28 (by decide) ?_
      exact mw_ireturn dL_has_29 ⟨_, rfl, rfl⟩ (lP_r q9 _ (by unfold cvZ; rw [if_neg hr]))
theorem w_get (hC : cC g H sa ma) (hO : mw_g H 55 = some (oV f)) (p0 p1 : Int32) : mw_Con mm_L_get 8 5 270 [.ref 1, .int p0, .int p1, .ref 55] H (lP cvI H (sp_get g p0 p1)) := by
  refine gm_conH pl_L (by decide) rfl (Nat.le_of_ble_eq_true rfl) rfl ?_
  have h_p0 := cC_x hC
  refine mw_aload_n (i := 3) dL_get_0 rfl rfl ?_
  refine mw_iconst (v := 0) dL_get_1 (by decide) ?_
  refine mw_aload_n (i := 0) dL_get_2 rfl rfl ?_
  refine mw_iload_n (i := 1) dL_get_3 rfl rfl ?_
  refine mw_iload_n (i := 2) dL_get_4 rfl rfl ?_
  refine mw_callV dL_get_5 mk_L_68 h_p0 rfl (k_get hC p0 p1) (by decide) (Nat.le_refl _) (Nat.le_refl _) rfl rfl (Nat.le_of_ble_eq_true rfl) (fun E9 h9 q9 => ?_) (fun v9 h9 q9 => ?_)
  · obtain ⟨hG, hc, hk⟩ := q9
    rcases hk with ⟨-, z⟩ | ⟨k, hk, e1, e2⟩
    · cases z
    · have hk : k < 2 := hk
      have hk : k = 0 ∨ k = 1 := by omega
      rcases hk with rfl | rfl
      · cases e2
        refine mw_caught (E := eIO) (name := eIO) [] [(0, 10, 17, 21)] (0, 10, 13, 19) rfl (fun z hz => absurd hz List.not_mem_nil) (by decide) (by decide) cl_L_19 ca_10 rfl (i := 4) (Or.inr ⟨rfl, dL_get_13⟩) (by decide) ?_
        refine mw_iconst (v := 1) dL_get_15 (by decide) ?_
        exact mw_ireturn dL_get_16 ⟨_, rfl, rfl⟩ (lP_x hG hc hO e1 (by decide))
      · cases e2
        refine mw_caught (E := eIA) (name := eIA) [(0, 10, 13, 19)] [] (0, 10, 17, 21) rfl (fun z hz => by
          simp only [List.mem_cons, List.not_mem_nil, or_false] at hz
          subst hz
          exact ⟨by decide, _, cl_L_19, by decide +kernel⟩) (by decide) (by decide) cl_L_21 ca_9 rfl (i := 4) (Or.inr ⟨rfl, dL_get_17⟩) (by decide) ?_
        refine mw_iconst (v := 2) dL_get_19 (by decide) ?_
        exact mw_ireturn dL_get_20 ⟨_, rfl, rfl⟩ (lP_x hG hc hO e1 (by decide))
  · obtain ⟨r, rfl, q9⟩ := cP_v q9
    have h_p3 := q9.1.2.2 55 _ (by decide) (by decide) hO
    refine mw_i2l dL_get_8 rfl ?_
    refine mw_last dL_get_9 h_p3 (mw_ix (j := 0) rfl (by decide) (by decide)) ?_
    refine mw_goto (tgt := 21) dL_get_10 (by decide) ?_
    refine mw_iconst (v := 0) dL_get_21 (by decide) ?_
    exact mw_ireturn dL_get_22 ⟨_, rfl, rfl⟩ (lP_r q9 _ rfl)
theorem w_byteOf (hC : cC g H sa ma) (hO : mw_g H 55 = some (oV f)) (p0 p1 p2 : Int32) : mw_Con mm_L_byteOf 8 5 270 [.ref 1, .int p0, .int p1, .int p2, .ref 55] H (lP cvI H (sp_byteOf g p0 p1 p2)) := by
  refine gm_conH pl_L (by decide) rfl (Nat.le_of_ble_eq_true rfl) rfl ?_
  have h_p0 := cC_x hC
  refine mw_aload (i := 4) dL_byteOf_0 rfl ?_
  refine mw_iconst (v := 0) dL_byteOf_2 (by decide) ?_
  refine mw_aload_n (i := 0) dL_byteOf_3 rfl rfl ?_
  refine mw_iload_n (i := 1) dL_byteOf_4 rfl rfl ?_
  refine mw_iload_n (i := 2) dL_byteOf_5 rfl rfl ?_
  refine mw_iload_n (i := 3) dL_byteOf_6 rfl rfl ?_
  refine mw_callV dL_byteOf_7 mk_L_71 h_p0 rfl (k_byteOf hC p0 p1 p2) (by decide) (Nat.le_refl _) (Nat.le_refl _) rfl rfl (Nat.le_of_ble_eq_true rfl) (fun E9 h9 q9 => ?_) (fun v9 h9 q9 => ?_)
  · obtain ⟨hG, hc, hk⟩ := q9
    rcases hk with ⟨-, z⟩ | ⟨k, hk, e1, e2⟩
    · cases z
    · have hk : k < 3 := hk
      have hk : k = 0 ∨ k = 1 ∨ k = 2 := by omega
      rcases hk with rfl | rfl | rfl
      · cases e2
        refine mw_caught (E := eIO) (name := eIO) [] [(0, 12, 19, 21), (0, 12, 23, 75)] (0, 12, 15, 19) rfl (fun z hz => absurd hz List.not_mem_nil) (by decide) (by decide) cl_L_19 ca_10 rfl (i := 5) (Or.inr ⟨rfl, dL_byteOf_15⟩) (by decide) ?_
        refine mw_iconst (v := 1) dL_byteOf_17 (by decide) ?_
        exact mw_ireturn dL_byteOf_18 ⟨_, rfl, rfl⟩ (lP_x hG hc hO e1 (by decide))
      · cases e2
        refine mw_caught (E := eIA) (name := eIA) [(0, 12, 15, 19)] [(0, 12, 23, 75)] (0, 12, 19, 21) rfl (fun z hz => by
          simp only [List.mem_cons, List.not_mem_nil, or_false] at hz
          subst hz
          exact ⟨by decide, _, cl_L_19, by decide +kernel⟩) (by decide) (by decide) cl_L_21 ca_9 rfl (i := 5) (Or.inr ⟨rfl, dL_byteOf_19⟩) (by decide) ?_
        refine mw_iconst (v := 2) dL_byteOf_21 (by decide) ?_
        exact mw_ireturn dL_byteOf_22 ⟨_, rfl, rfl⟩ (lP_x hG hc hO e1 (by decide))
      · cases e2
        refine mw_caught (E := eNS) (name := eNS) [(0, 12, 15, 19), (0, 12, 19, 21)] [] (0, 12, 23, 75) rfl (fun z hz => by
          simp only [List.mem_cons, List.not_mem_nil, or_false] at hz
          rcases hz with rfl | rfl
          · exact ⟨by decide, _, cl_L_19, by decide +kernel⟩
          · exact ⟨by decide, _, cl_L_21, by decide +kernel⟩) (by decide) (by decide) cl_L_75 ca_11 rfl (i := 5) (Or.inr ⟨rfl, dL_byteOf_23⟩) (by decide) ?_
        refine mw_iconst (v := 3) dL_byteOf_25 (by decide) ?_
        exact mw_ireturn dL_byteOf_26 ⟨_, rfl, rfl⟩ (lP_x hG hc hO e1 (by decide))
  · obtain ⟨r, rfl, q9⟩ := cP_v q9
    have h_p4 := q9.1.2.2 55 _ (by decide) (by decide) hO
    refine mw_i2l dL_byteOf_10 rfl ?_
    refine mw_last dL_byteOf_11 h_p4 (mw_ix (j := 0) rfl (by decide) (by decide)) ?_
    refine mw_goto (tgt := 27) dL_byteOf_12 (by decide) ?_
    refine mw_iconst (v := 0) dL_byteOf_27 (by decide) ?_
    exact mw_ireturn dL_byteOf_28 ⟨_, rfl, rfl⟩ (lP_r q9 _ rfl)
theorem w_open (hC : cC g H sa ma) (h56 : 56 ≤ H.1) (hO : mw_g H 55 = some (oV f)) (p0 p1 : Int32) : mw_Con mm_L_open 8 5 270 [.ref 1, .int p0, .int p1, .ref 55] H (lP cvI H (sp_open g p0 p1)) := by
  refine gm_conH pl_L (by decide) rfl (Nat.le_of_ble_eq_true rfl) rfl ?_
  have h_p0 := cC_x hC
  refine mw_aload_n (i := 3) dL_open_0 rfl rfl ?_
  refine mw_iconst (v := 0) dL_open_1 (by decide) ?_
  refine mw_aload_n (i := 0) dL_open_2 rfl rfl ?_
  refine mw_iload_n (i := 1) dL_open_3 rfl rfl ?_
  refine mw_iload_n (i := 2) dL_open_4 rfl rfl ?_
  refine mw_callV dL_open_5 mk_L_77 h_p0 rfl (k_open hC h56 p0 p1) (by decide) (Nat.le_refl _) (Nat.le_refl _) rfl rfl (Nat.le_of_ble_eq_true rfl) (fun E9 h9 q9 => ?_) (fun v9 h9 q9 => ?_)
  · obtain ⟨hG, hc, hk⟩ := q9
    rcases hk with ⟨-, z⟩ | ⟨k, hk, e1, e2⟩
    · cases z
    · have hk : k < 4 := hk
      have hk : k = 0 ∨ k = 1 ∨ k = 2 ∨ k = 3 := by omega
      rcases hk with rfl | rfl | rfl | rfl
      · cases e2
        refine mw_caught (E := eIO) (name := eIO) [] [(0, 10, 17, 21), (0, 10, 21, 75), (0, 10, 25, 13)] (0, 10, 13, 19) rfl (fun z hz => absurd hz List.not_mem_nil) (by decide) (by decide) cl_L_19 ca_10 rfl (i := 4) (Or.inr ⟨rfl, dL_open_13⟩) (by decide) ?_
        refine mw_iconst (v := 1) dL_open_15 (by decide) ?_
        exact mw_ireturn dL_open_16 ⟨_, rfl, rfl⟩ (lP_x hG hc hO e1 (by decide))
      · cases e2
        refine mw_caught (E := eIA) (name := eIA) [(0, 10, 13, 19)] [(0, 10, 21, 75), (0, 10, 25, 13)] (0, 10, 17, 21) rfl (fun z hz => by
          simp only [List.mem_cons, List.not_mem_nil, or_false] at hz
          subst hz
          exact ⟨by decide, _, cl_L_19, by decide +kernel⟩) (by decide) (by decide) cl_L_21 ca_9 rfl (i := 4) (Or.inr ⟨rfl, dL_open_17⟩) (by decide) ?_
        refine mw_iconst (v := 2) dL_open_19 (by decide) ?_
        exact mw_ireturn dL_open_20 ⟨_, rfl, rfl⟩ (lP_x hG hc hO e1 (by decide))
      · cases e2
        refine mw_caught (E := eNS) (name := eNS) [(0, 10, 13, 19), (0, 10, 17, 21)] [(0, 10, 25, 13)] (0, 10, 21, 75) rfl (fun z hz => by
          simp only [List.mem_cons, List.not_mem_nil, or_false] at hz
          rcases hz with rfl | rfl
          · exact ⟨by decide, _, cl_L_19, by decide +kernel⟩
          · exact ⟨by decide, _, cl_L_21, by decide +kernel⟩) (by decide) (by decide) cl_L_75 ca_11 rfl (i := 4) (Or.inr ⟨rfl, dL_open_21⟩) (by decide) ?_
        refine mw_iconst (v := 3) dL_open_23 (by decide) ?_
        exact mw_ireturn dL_open_24 ⟨_, rfl, rfl⟩ (lP_x hG hc hO e1 (by decide))
      · cases e2
        refine mw_caught (E := eIS) (name := eIS) [(0, 10, 13, 19), (0, 10, 17, 21), (0, 10, 21, 75)] [] (0, 10, 25, 13) rfl (fun z hz => by
          simp only [List.mem_cons, List.not_mem_nil, or_false] at hz
          rcases hz with rfl | rfl | rfl
          · exact ⟨by decide, _, cl_L_19, by decide +kernel⟩
          · exact ⟨by decide, _, cl_L_21, by decide +kernel⟩
          · exact ⟨by decide, _, cl_L_75, by decide +kernel⟩) (by decide) (by decide) cl_L_13 ca_8 rfl (i := 4) (Or.inr ⟨rfl, dL_open_25⟩) (by decide) ?_
        refine mw_iconst (v := 4) dL_open_27 (by decide) ?_
        exact mw_ireturn dL_open_28 ⟨_, rfl, rfl⟩ (lP_x hG hc hO e1 (by decide))
  · obtain ⟨r, rfl, q9⟩ := cP_v q9
    have h_p3 := q9.1.2.2 55 _ (by decide) (by decide) hO
    refine mw_i2l dL_open_8 rfl ?_
    refine mw_last dL_open_9 h_p3 (mw_ix (j := 0) rfl (by decide) (by decide)) ?_
    refine mw_goto (tgt := 29) dL_open_10 (by decide) ?_
    refine mw_iconst (v := 0) dL_open_29 (by decide) ?_
    exact mw_ireturn dL_open_30 ⟨_, rfl, rfl⟩ (lP_r q9 _ rfl)
theorem w_unknowns (hC : cC g H sa ma) (hO : mw_g H 55 = some (oV f)) (p0 : Int32) : mw_Con mm_L_unknowns 8 5 270 [.ref 1, .int p0, .ref 55] H (lP cvI H (sp_unknowns g p0)) := by
  refine gm_conH pl_L (by decide) rfl (Nat.le_of_ble_eq_true rfl) rfl ?_
  have h_p0 := cC_x hC
  refine mw_aload_n (i := 2) dL_unknowns_0 rfl rfl ?_
  refine mw_iconst (v := 0) dL_unknowns_1 (by decide) ?_
  refine mw_aload_n (i := 0) dL_unknowns_2 rfl rfl ?_
  refine mw_iload_n (i := 1) dL_unknowns_3 rfl rfl ?_
  refine mw_callV dL_unknowns_4 mk_L_80 h_p0 rfl (k_unknowns hC p0) (by decide) (Nat.le_refl _) (Nat.le_refl _) rfl rfl (Nat.le_of_ble_eq_true rfl) (fun E9 h9 q9 => ?_) (fun v9 h9 q9 => ?_)
  · obtain ⟨hG, hc, hk⟩ := q9
    rcases hk with ⟨-, z⟩ | ⟨k, hk, e1, e2⟩
    · cases z
    · have hk : k < 1 := hk
      have hk : k = 0 := by omega
      subst hk
      cases e2
      refine mw_caught (E := eIO) (name := eIO) [] [] (0, 9, 12, 19) rfl (fun z hz => absurd hz List.not_mem_nil) (by decide) (by decide) cl_L_19 ca_10 rfl (i := 3) (Or.inl ⟨3, rfl, rfl, dL_unknowns_12⟩) (by decide) ?_
      refine mw_iconst (v := 1) dL_unknowns_13 (by decide) ?_
      exact mw_ireturn dL_unknowns_14 ⟨_, rfl, rfl⟩ (lP_x hG hc hO e1 (by decide))
  · obtain ⟨r, rfl, q9⟩ := cP_v q9
    have h_p2 := q9.1.2.2 55 _ (by decide) (by decide) hO
    refine mw_i2l dL_unknowns_7 rfl ?_
    refine mw_last dL_unknowns_8 h_p2 (mw_ix (j := 0) rfl (by decide) (by decide)) ?_
    refine mw_goto (tgt := 15) dL_unknowns_9 (by decide) ?_
    refine mw_iconst (v := 0) dL_unknowns_15 (by decide) ?_
    exact mw_ireturn dL_unknowns_16 ⟨_, rfl, rfl⟩ (lP_r q9 _ rfl)
theorem w_unknownTag (hC : cC g H sa ma) (hO : mw_g H 55 = some (oV f)) (p0 p1 : Int32) : mw_Con mm_L_unknownTag 8 5 270 [.ref 1, .int p0, .int p1, .ref 55] H (lP cvI H (sp_unknownTag g p0 p1)) := by
  refine gm_conH pl_L (by decide) rfl (Nat.le_of_ble_eq_true rfl) rfl ?_
  have h_p0 := cC_x hC
  refine mw_aload_n (i := 3) dL_unknownTag_0 rfl rfl ?_
  refine mw_iconst (v := 0) dL_unknownTag_1 (by decide) ?_
  refine mw_aload_n (i := 0) dL_unknownTag_2 rfl rfl ?_
  refine mw_iload_n (i := 1) dL_unknownTag_3 rfl rfl ?_
  refine mw_iload_n (i := 2) dL_unknownTag_4 rfl rfl ?_
  refine mw_callV dL_unknownTag_5 mk_L_83 h_p0 rfl (k_unknownTag hC p0 p1) (by decide) (Nat.le_refl _) (Nat.le_refl _) rfl rfl (Nat.le_of_ble_eq_true rfl) (fun E9 h9 q9 => ?_) (fun v9 h9 q9 => ?_)
  · obtain ⟨hG, hc, hk⟩ := q9
    rcases hk with ⟨-, z⟩ | ⟨k, hk, e1, e2⟩
    · cases z
    · have hk : k < 1 := hk
      have hk : k = 0 := by omega
      subst hk
      cases e2
      refine mw_caught (E := eIO) (name := eIO) [] [] (0, 10, 13, 19) rfl (fun z hz => absurd hz List.not_mem_nil) (by decide) (by decide) cl_L_19 ca_10 rfl (i := 4) (Or.inr ⟨rfl, dL_unknownTag_13⟩) (by decide) ?_
      refine mw_iconst (v := 1) dL_unknownTag_15 (by decide) ?_
      exact mw_ireturn dL_unknownTag_16 ⟨_, rfl, rfl⟩ (lP_x hG hc hO e1 (by decide))
  · obtain ⟨r, rfl, q9⟩ := cP_v q9
    have h_p3 := q9.1.2.2 55 _ (by decide) (by decide) hO
    refine mw_i2l dL_unknownTag_8 rfl ?_
    refine mw_last dL_unknownTag_9 h_p3 (mw_ix (j := 0) rfl (by decide) (by decide)) ?_
    refine mw_goto (tgt := 17) dL_unknownTag_10 (by decide) ?_
    refine mw_iconst (v := 0) dL_unknownTag_17 (by decide) ?_
    exact mw_ireturn dL_unknownTag_18 ⟨_, rfl, rfl⟩ (lP_r q9 _ rfl)
theorem w_weight (hC : cC g H sa ma) (hO : mw_g H 55 = some (oV f)) (p0 : Int32) : mw_Con mm_L_weight 8 5 270 [.ref 1, .int p0, .ref 55] H (lP cvI H (sp_weight g p0)) := by
  refine gm_conH pl_L (by decide) rfl (Nat.le_of_ble_eq_true rfl) rfl ?_
  have h_p0 := cC_x hC
  refine mw_aload_n (i := 2) dL_weight_0 rfl rfl ?_
  refine mw_iconst (v := 0) dL_weight_1 (by decide) ?_
  refine mw_aload_n (i := 0) dL_weight_2 rfl rfl ?_
  refine mw_iload_n (i := 1) dL_weight_3 rfl rfl ?_
  refine mw_callV dL_weight_4 mk_L_86 h_p0 rfl (k_weight hC p0) (by decide) (Nat.le_refl _) (Nat.le_refl _) rfl rfl (Nat.le_of_ble_eq_true rfl) (fun E9 h9 q9 => ?_) (fun v9 h9 q9 => ?_)
  · obtain ⟨hG, hc, hk⟩ := q9
    rcases hk with ⟨-, z⟩ | ⟨k, hk, e1, e2⟩
    · cases z
    · have hk : k < 1 := hk
      have hk : k = 0 := by omega
      subst hk
      cases e2
      refine mw_caught (E := eIO) (name := eIO) [] [] (0, 9, 12, 19) rfl (fun z hz => absurd hz List.not_mem_nil) (by decide) (by decide) cl_L_19 ca_10 rfl (i := 3) (Or.inl ⟨3, rfl, rfl, dL_weight_12⟩) (by decide) ?_
      refine mw_iconst (v := 1) dL_weight_13 (by decide) ?_
      exact mw_ireturn dL_weight_14 ⟨_, rfl, rfl⟩ (lP_x hG hc hO e1 (by decide))
  · obtain ⟨r, rfl, q9⟩ := cP_v q9
    have h_p2 := q9.1.2.2 55 _ (by decide) (by decide) hO
    refine mw_i2l dL_weight_7 rfl ?_
    refine mw_last dL_weight_8 h_p2 (mw_ix (j := 0) rfl (by decide) (by decide)) ?_
    refine mw_goto (tgt := 15) dL_weight_9 (by decide) ?_
    refine mw_iconst (v := 0) dL_weight_15 (by decide) ?_
    exact mw_ireturn dL_weight_16 ⟨_, rfl, rfl⟩ (lP_r q9 _ rfl)
theorem w_areSame (hC : cC g H sa ma) (hO : mw_g H 55 = some (oV f)) (p0 p1 : Int32) : mw_Con mm_L_areSame 8 5 270 [.ref 1, .int p0, .int p1, .ref 55] H (lP cvZ H (sp_areSame g p0 p1)) := by
  refine gm_conH pl_L (by decide) rfl (Nat.le_of_ble_eq_true rfl) rfl ?_
  have h_p0 := cC_x hC
  refine mw_aload_n (i := 3) dL_areSame_0 rfl rfl ?_
  refine mw_iconst (v := 0) dL_areSame_1 (by decide) ?_
  refine mw_aload_n (i := 0) dL_areSame_2 rfl rfl ?_
  refine mw_iload_n (i := 1) dL_areSame_3 rfl rfl ?_
  refine mw_iload_n (i := 2) dL_areSame_4 rfl rfl ?_
  refine mw_callV dL_areSame_5 mk_L_89 h_p0 rfl (k_areSame hC p0 p1) (by decide) (Nat.le_refl _) (Nat.le_refl _) rfl rfl (Nat.le_of_ble_eq_true rfl) (fun E9 h9 q9 => ?_) (fun v9 h9 q9 => ?_)
  · obtain ⟨hG, hc, hk⟩ := q9
    rcases hk with ⟨-, z⟩ | ⟨k, hk, e1, e2⟩
    · cases z
    · have hk : k < 1 := hk
      have hk : k = 0 := by omega
      subst hk
      cases e2
      refine mw_caught (E := eIO) (name := eIO) [] [] (0, 17, 20, 19) rfl (fun z hz => absurd hz List.not_mem_nil) (by decide) (by decide) cl_L_19 ca_10 rfl (i := 4) (Or.inr ⟨rfl, dL_areSame_20⟩) (by decide) ?_
      refine mw_iconst (v := 1) dL_areSame_22 (by decide) ?_
      exact mw_ireturn dL_areSame_23 ⟨_, rfl, rfl⟩ (lP_x hG hc hO e1 (by decide))
  · obtain ⟨r, rfl, q9⟩ := cP_v q9
    have h_p3 := q9.1.2.2 55 _ (by decide) (by decide) hO
    by_cases hr : r = 0
    · refine mw_if_eq (tgt := 15) dL_areSame_8 (by decide) (fun _ => ?_) (fun c9 => absurd c9 (fun z => z hr))
      refine mw_lconst (v := 0) dL_areSame_15 (by decide) ?_
      refine mw_last dL_areSame_16 h_p3 (mw_ix (j := 0) rfl (by decide) (by decide)) ?_
      refine mw_goto (tgt := 24) dL_areSame_17 (by decide) ?_
      refine mw_iconst (v := 0) dL_areSame_24 (by decide) ?_
      exact mw_ireturn dL_areSame_25 ⟨_, rfl, rfl⟩ (lP_r q9 _ (by unfold cvZ; rw [if_pos hr]))
    · refine mw_if_eq (tgt := 15) dL_areSame_8 (by decide) (fun c9 => absurd c9 hr) (fun _ => ?_)
      refine mw_lconst (v := 1) dL_areSame_11 (by decide) ?_
      refine mw_goto (tgt := 16) dL_areSame_12 (by decide) ?_
      refine mw_last dL_areSame_16 h_p3 (mw_ix (j := 0) rfl (by decide) (by decide)) ?_
      refine mw_goto (tgt := 24) dL_areSame_17 (by decide) ?_
      refine mw_iconst (v := 0) dL_areSame_24 (by decide) ?_
      exact mw_ireturn dL_areSame_25 ⟨_, rfl, rfl⟩ (lP_r q9 _ (by unfold cvZ; rw [if_neg hr]))
theorem w_areSameByBytes (hC : cC g H sa ma) (hO : mw_g H 55 = some (oV f)) (p0 p1 : Int32) : mw_Con mm_L_areSameByBytes 8 5 270 [.ref 1, .int p0, .int p1, .ref 55] H (lP cvZ H (sp_areSame g p0 p1)) := by
  refine gm_conH pl_L (by decide) rfl (Nat.le_of_ble_eq_true rfl) rfl ?_
  have h_p0 := cC_x hC
  refine mw_aload_n (i := 3) dL_areSameByBytes_0 rfl rfl ?_
  refine mw_iconst (v := 0) dL_areSameByBytes_1 (by decide) ?_
  refine mw_aload_n (i := 0) dL_areSameByBytes_2 rfl rfl ?_
  refine mw_iload_n (i := 1) dL_areSameByBytes_3 rfl rfl ?_
  refine mw_iload_n (i := 2) dL_areSameByBytes_4 rfl rfl ?_
  refine mw_callV dL_areSameByBytes_5 mk_L_92 h_p0 rfl (k_areSameByBytes hC p0 p1) (by decide) (Nat.le_refl _) (Nat.le_refl _) rfl rfl (Nat.le_of_ble_eq_true rfl) (fun E9 h9 q9 => ?_) (fun v9 h9 q9 => ?_)
  · obtain ⟨hG, hc, hk⟩ := q9
    rcases hk with ⟨-, z⟩ | ⟨k, hk, e1, e2⟩
    · cases z
    · have hk : k < 1 := hk
      have hk : k = 0 := by omega
      subst hk
      cases e2
      refine mw_caught (E := eIO) (name := eIO) [] [] (0, 17, 20, 19) rfl (fun z hz => absurd hz List.not_mem_nil) (by decide) (by decide) cl_L_19 ca_10 rfl (i := 4) (Or.inr ⟨rfl, dL_areSameByBytes_20⟩) (by decide) ?_
      refine mw_iconst (v := 1) dL_areSameByBytes_22 (by decide) ?_
      exact mw_ireturn dL_areSameByBytes_23 ⟨_, rfl, rfl⟩ (lP_x hG hc hO e1 (by decide))
  · obtain ⟨r, rfl, q9⟩ := cP_v q9
    have h_p3 := q9.1.2.2 55 _ (by decide) (by decide) hO
    by_cases hr : r = 0
    · refine mw_if_eq (tgt := 15) dL_areSameByBytes_8 (by decide) (fun _ => ?_) (fun c9 => absurd c9 (fun z => z hr))
      refine mw_lconst (v := 0) dL_areSameByBytes_15 (by decide) ?_
      refine mw_last dL_areSameByBytes_16 h_p3 (mw_ix (j := 0) rfl (by decide) (by decide)) ?_
      refine mw_goto (tgt := 24) dL_areSameByBytes_17 (by decide) ?_
      refine mw_iconst (v := 0) dL_areSameByBytes_24 (by decide) ?_
      exact mw_ireturn dL_areSameByBytes_25 ⟨_, rfl, rfl⟩ (lP_r q9 _ (by unfold cvZ; rw [if_pos hr]))
    · refine mw_if_eq (tgt := 15) dL_areSameByBytes_8 (by decide) (fun c9 => absurd c9 hr) (fun _ => ?_)
      refine mw_lconst (v := 1) dL_areSameByBytes_11 (by decide) ?_
      refine mw_goto (tgt := 16) dL_areSameByBytes_12 (by decide) ?_
      refine mw_last dL_areSameByBytes_16 h_p3 (mw_ix (j := 0) rfl (by decide) (by decide)) ?_
      refine mw_goto (tgt := 24) dL_areSameByBytes_17 (by decide) ?_
      refine mw_iconst (v := 0) dL_areSameByBytes_24 (by decide) ?_
      exact mw_ireturn dL_areSameByBytes_25 ⟨_, rfl, rfl⟩ (lP_r q9 _ (by unfold cvZ; rw [if_neg hr]))
theorem w_write (hC : cC g H sa ma) (hO : mw_g H 55 = some (oV f)) (p0 : Int32) : mw_Con mm_L_write 8 5 270 [.ref 1, .int p0, .ref 55] H (lP cvI H (sp_write g p0)) := by
  refine gm_conH pl_L (by decide) rfl (Nat.le_of_ble_eq_true rfl) rfl ?_
  have h_p0 := cC_x hC
  refine mw_aload_n (i := 2) dL_write_0 rfl rfl ?_
  refine mw_iconst (v := 0) dL_write_1 (by decide) ?_
  refine mw_aload_n (i := 0) dL_write_2 rfl rfl ?_
  refine mw_iload_n (i := 1) dL_write_3 rfl rfl ?_
  refine mw_callV dL_write_4 mk_L_95 h_p0 rfl (k_write hC p0) (by decide) (Nat.le_refl _) (Nat.le_refl _) rfl rfl (Nat.le_of_ble_eq_true rfl) (fun E9 h9 q9 => ?_) (fun v9 h9 q9 => ?_)
  · obtain ⟨hG, hc, hk⟩ := q9
    rcases hk with ⟨-, z⟩ | ⟨k, hk, e1, e2⟩
    · cases z
    · have hk : k < 1 := hk
      have hk : k = 0 := by omega
      subst hk
      cases e2
      refine mw_caught (E := eIO) (name := eIO) [] [] (0, 9, 12, 19) rfl (fun z hz => absurd hz List.not_mem_nil) (by decide) (by decide) cl_L_19 ca_10 rfl (i := 3) (Or.inl ⟨3, rfl, rfl, dL_write_12⟩) (by decide) ?_
      refine mw_iconst (v := 1) dL_write_13 (by decide) ?_
      exact mw_ireturn dL_write_14 ⟨_, rfl, rfl⟩ (lP_x hG hc hO e1 (by decide))
  · obtain ⟨r, rfl, q9⟩ := cP_v q9
    have h_p2 := q9.1.2.2 55 _ (by decide) (by decide) hO
    refine mw_i2l dL_write_7 rfl ?_
    refine mw_last dL_write_8 h_p2 (mw_ix (j := 0) rfl (by decide) (by decide)) ?_
    refine mw_goto (tgt := 15) dL_write_9 (by decide) ?_
    refine mw_iconst (v := 0) dL_write_15 (by decide) ?_
    exact mw_ireturn dL_write_16 ⟨_, rfl, rfl⟩ (lP_r q9 _ rfl)
theorem w_put (hC : cC g H sa ma) (hO : mw_g H 55 = some (oV f)) (p0 : Int32) : mw_Con mm_L_put 7 5 270 [.ref 1, .int p0.toInt8.toInt32, .ref 55] H (lP cvI H (sp_put g p0.toInt8.toInt32)) := by
  refine gm_conH pl_L (by decide) rfl (Nat.le_of_ble_eq_true rfl) rfl ?_
  have h_p0 := cC_x hC
  refine mw_aload_n (i := 2) dL_put_0 rfl rfl ?_
  refine mw_iconst (v := 0) dL_put_1 (by decide) ?_
  refine mw_aload_n (i := 0) dL_put_2 rfl rfl ?_
  refine mw_iload_n (i := 1) dL_put_3 rfl rfl ?_
  refine mw_callV dL_put_4 mk_L_98 h_p0 rfl (k_put hC p0) (by decide) (Nat.le_refl _) (Nat.le_refl _) rfl rfl (Nat.le_of_ble_eq_true rfl) (fun E9 h9 q9 => ?_) (fun v9 h9 q9 => ?_)
  · obtain ⟨hG, hc, hk⟩ := q9
    rcases hk with ⟨-, z⟩ | ⟨k, hk, e1, e2⟩
    · cases z
    · have hk : k < 1 := hk
      have hk : k = 0 := by omega
      subst hk
      cases e2
      refine mw_caught (E := eIS) (name := eIS) [] [] (0, 9, 12, 13) rfl (fun z hz => absurd hz List.not_mem_nil) (by decide) (by decide) cl_L_13 ca_8 rfl (i := 3) (Or.inl ⟨3, rfl, rfl, dL_put_12⟩) (by decide) ?_
      refine mw_iconst (v := 1) dL_put_13 (by decide) ?_
      exact mw_ireturn dL_put_14 ⟨_, rfl, rfl⟩ (lP_x hG hc hO e1 (by decide))
  · obtain ⟨r, rfl, q9⟩ := cP_v q9
    have h_p2 := q9.1.2.2 55 _ (by decide) (by decide) hO
    refine mw_i2l dL_put_7 rfl ?_
    refine mw_last dL_put_8 h_p2 (mw_ix (j := 0) rfl (by decide) (by decide)) ?_
    refine mw_goto (tgt := 15) dL_put_9 (by decide) ?_
    refine mw_iconst (v := 0) dL_put_15 (by decide) ?_
    exact mw_ireturn dL_put_16 ⟨_, rfl, rfl⟩ (lP_r q9 _ rfl)
theorem w_cut (hC : cC g H sa ma) (hO : mw_g H 55 = some (oV f)) (p0 : Int32) : mw_Con mm_L_cut 7 5 270 [.ref 1, .int p0, .ref 55] H (lP cvI H (sp_cut g p0)) := by
  refine gm_conH pl_L (by decide) rfl (Nat.le_of_ble_eq_true rfl) rfl ?_
  have h_p0 := cC_x hC
  refine mw_aload_n (i := 2) dL_cut_0 rfl rfl ?_
  refine mw_iconst (v := 0) dL_cut_1 (by decide) ?_
  refine mw_aload_n (i := 0) dL_cut_2 rfl rfl ?_
  refine mw_iload_n (i := 1) dL_cut_3 rfl rfl ?_
  refine mw_callV dL_cut_4 mk_L_102 h_p0 rfl (k_cut hC p0) (by decide) (Nat.le_refl _) (Nat.le_refl _) rfl rfl (Nat.le_of_ble_eq_true rfl) (fun E9 h9 q9 => ?_) (fun v9 h9 q9 => ?_)
  · obtain ⟨hG, hc, hk⟩ := q9
    rcases hk with ⟨-, z⟩ | ⟨k, hk, e1, e2⟩
    · cases z
    · have hk : k < 1 := hk
      have hk : k = 0 := by omega
      subst hk
      cases e2
      refine mw_caught (E := eIO) (name := eIO) [] [] (0, 9, 12, 19) rfl (fun z hz => absurd hz List.not_mem_nil) (by decide) (by decide) cl_L_19 ca_10 rfl (i := 3) (Or.inl ⟨3, rfl, rfl, dL_cut_12⟩) (by decide) ?_
      refine mw_iconst (v := 1) dL_cut_13 (by decide) ?_
      exact mw_ireturn dL_cut_14 ⟨_, rfl, rfl⟩ (lP_x hG hc hO e1 (by decide))
  · obtain ⟨r, rfl, q9⟩ := cP_v q9
    have h_p2 := q9.1.2.2 55 _ (by decide) (by decide) hO
    refine mw_i2l dL_cut_7 rfl ?_
    refine mw_last dL_cut_8 h_p2 (mw_ix (j := 0) rfl (by decide) (by decide)) ?_
    refine mw_goto (tgt := 15) dL_cut_9 (by decide) ?_
    refine mw_iconst (v := 0) dL_cut_15 (by decide) ?_
    exact mw_ireturn dL_cut_16 ⟨_, rfl, rfl⟩ (lP_r q9 _ rfl)
theorem w_byteAt (hC : cC g H sa ma) (hO : mw_g H 55 = some (oV f)) (p0 : Int32) : mw_Con mm_L_byteAt 7 5 270 [.ref 1, .int p0, .ref 55] H (lP cvI H (sp_byteAt g p0)) := by
  refine gm_conH pl_L (by decide) rfl (Nat.le_of_ble_eq_true rfl) rfl ?_
  have h_p0 := cC_x hC
  refine mw_aload_n (i := 2) dL_byteAt_0 rfl rfl ?_
  refine mw_iconst (v := 0) dL_byteAt_1 (by decide) ?_
  refine mw_aload_n (i := 0) dL_byteAt_2 rfl rfl ?_
  refine mw_iload_n (i := 1) dL_byteAt_3 rfl rfl ?_
  refine mw_callV dL_byteAt_4 mk_L_105 h_p0 rfl (k_byteAt hC p0) (by decide) (Nat.le_refl _) (Nat.le_refl _) rfl rfl (Nat.le_of_ble_eq_true rfl) (fun E9 h9 q9 => ?_) (fun v9 h9 q9 => ?_)
  · obtain ⟨hG, hc, hk⟩ := q9
    rcases hk with ⟨-, z⟩ | ⟨k, hk, e1, e2⟩
    · cases z
    · have hk : k < 1 := hk
      have hk : k = 0 := by omega
      subst hk
      cases e2
      refine mw_caught (E := eIO) (name := eIO) [] [] (0, 9, 12, 19) rfl (fun z hz => absurd hz List.not_mem_nil) (by decide) (by decide) cl_L_19 ca_10 rfl (i := 3) (Or.inl ⟨3, rfl, rfl, dL_byteAt_12⟩) (by decide) ?_
      refine mw_iconst (v := 1) dL_byteAt_13 (by decide) ?_
      exact mw_ireturn dL_byteAt_14 ⟨_, rfl, rfl⟩ (lP_x hG hc hO e1 (by decide))
  · obtain ⟨r, rfl, q9⟩ := cP_v q9
    have h_p2 := q9.1.2.2 55 _ (by decide) (by decide) hO
    refine mw_i2l dL_byteAt_7 rfl ?_
    refine mw_last dL_byteAt_8 h_p2 (mw_ix (j := 0) rfl (by decide) (by decide)) ?_
    refine mw_goto (tgt := 15) dL_byteAt_9 (by decide) ?_
    refine mw_iconst (v := 0) dL_byteAt_15 (by decide) ?_
    exact mw_ireturn dL_byteAt_16 ⟨_, rfl, rfl⟩ (lP_r q9 _ rfl)
theorem w_read (hC : cC g H sa ma) (h56 : 56 ≤ H.1) (hO : mw_g H 55 = some (oV f)) (p0 : Int32) : mw_Con mm_L_read 8 5 270 [.ref 1, .int p0, .ref 55] H (lP cvI H (sp_read g p0)) := by
  refine gm_conH pl_L (by decide) rfl (Nat.le_of_ble_eq_true rfl) rfl ?_
  have h_p0 := cC_x hC
  refine mw_aload_n (i := 2) dL_read_0 rfl rfl ?_
  refine mw_iconst (v := 0) dL_read_1 (by decide) ?_
  refine mw_aload_n (i := 0) dL_read_2 rfl rfl ?_
  refine mw_iload_n (i := 1) dL_read_3 rfl rfl ?_
  refine mw_callV dL_read_4 mk_L_109 h_p0 rfl (k_read hC h56 p0) (by decide) (Nat.le_refl _) (Nat.le_refl _) rfl rfl (Nat.le_of_ble_eq_true rfl) (fun E9 h9 q9 => ?_) (fun v9 h9 q9 => ?_)
  · obtain ⟨hG, hc, hk⟩ := q9
    rcases hk with ⟨-, z⟩ | ⟨k, hk, e1, e2⟩
    · cases z
    · have hk : k < 3 := hk
      have hk : k = 0 ∨ k = 1 ∨ k = 2 := by omega
      rcases hk with rfl | rfl | rfl
      · cases e2
        refine mw_caught (E := eIO) (name := eIO) [] [(0, 9, 15, 21), (0, 9, 18, 13)] (0, 9, 12, 19) rfl (fun z hz => absurd hz List.not_mem_nil) (by decide) (by decide) cl_L_19 ca_10 rfl (i := 3) (Or.inl ⟨3, rfl, rfl, dL_read_12⟩) (by decide) ?_
        refine mw_iconst (v := 1) dL_read_13 (by decide) ?_
        exact mw_ireturn dL_read_14 ⟨_, rfl, rfl⟩ (lP_x hG hc hO e1 (by decide))
      · cases e2
        refine mw_caught (E := eIA) (name := eIA) [(0, 9, 12, 19)] [(0, 9, 18, 13)] (0, 9, 15, 21) rfl (fun z hz => by
          simp only [List.mem_cons, List.not_mem_nil, or_false] at hz
          subst hz
          exact ⟨by decide, _, cl_L_19, by decide +kernel⟩) (by decide) (by decide) cl_L_21 ca_9 rfl (i := 3) (Or.inl ⟨3, rfl, rfl, dL_read_15⟩) (by decide) ?_
        refine mw_iconst (v := 2) dL_read_16 (by decide) ?_
        exact mw_ireturn dL_read_17 ⟨_, rfl, rfl⟩ (lP_x hG hc hO e1 (by decide))
      · cases e2
        refine mw_caught (E := eIS) (name := eIS) [(0, 9, 12, 19), (0, 9, 15, 21)] [] (0, 9, 18, 13) rfl (fun z hz => by
          simp only [List.mem_cons, List.not_mem_nil, or_false] at hz
          rcases hz with rfl | rfl
          · exact ⟨by decide, _, cl_L_19, by decide +kernel⟩
          · exact ⟨by decide, _, cl_L_21, by decide +kernel⟩) (by decide) (by decide) cl_L_13 ca_8 rfl (i := 3) (Or.inl ⟨3, rfl, rfl, dL_read_18⟩) (by decide) ?_
        refine mw_iconst (v := 3) dL_read_19 (by decide) ?_
        exact mw_ireturn dL_read_20 ⟨_, rfl, rfl⟩ (lP_x hG hc hO e1 (by decide))
  · obtain ⟨r, rfl, q9⟩ := cP_v q9
    have h_p2 := q9.1.2.2 55 _ (by decide) (by decide) hO
    refine mw_i2l dL_read_7 rfl ?_
    refine mw_last dL_read_8 h_p2 (mw_ix (j := 0) rfl (by decide) (by decide)) ?_
    refine mw_goto (tgt := 21) dL_read_9 (by decide) ?_
    refine mw_iconst (v := 0) dL_read_21 (by decide) ?_
    exact mw_ireturn dL_read_22 ⟨_, rfl, rfl⟩ (lP_r q9 _ rfl)
theorem w_isCanonical (hC : cC g H sa ma) (hO : mw_g H 55 = some (oV f)) (p0 : Int32) : mw_Con mm_L_isCanonical 8 5 270 [.ref 1, .int p0, .ref 55] H (lP cvZ H (sp_isCanonical g p0)) := by
  refine gm_conH pl_L (by decide) rfl (Nat.le_of_ble_eq_true rfl) rfl ?_
  have h_p0 := cC_x hC
  refine mw_aload_n (i := 2) dL_isCanonical_0 rfl rfl ?_
  refine mw_iconst (v := 0) dL_isCanonical_1 (by decide) ?_
  refine mw_aload_n (i := 0) dL_isCanonical_2 rfl rfl ?_
  refine mw_iload_n (i := 1) dL_isCanonical_3 rfl rfl ?_
  refine mw_callV dL_isCanonical_4 mk_L_112 h_p0 rfl (k_isCanonical hC p0) (by decide) (Nat.le_refl _) (Nat.le_refl _) rfl rfl (Nat.le_of_ble_eq_true rfl) (fun E9 h9 q9 => ?_) (fun v9 h9 q9 => ?_)
  · obtain ⟨hG, hc, hk⟩ := q9
    rcases hk with ⟨-, z⟩ | ⟨k, hk, e1, e2⟩
    · cases z
    · have hk : k < 1 := hk
      have hk : k = 0 := by omega
      subst hk
      cases e2
      refine mw_caught (E := eIO) (name := eIO) [] [] (0, 16, 19, 19) rfl (fun z hz => absurd hz List.not_mem_nil) (by decide) (by decide) cl_L_19 ca_10 rfl (i := 3) (Or.inl ⟨3, rfl, rfl, dL_isCanonical_19⟩) (by decide) ?_
      refine mw_iconst (v := 1) dL_isCanonical_20 (by decide) ?_
      exact mw_ireturn dL_isCanonical_21 ⟨_, rfl, rfl⟩ (lP_x hG hc hO e1 (by decide))
  · obtain ⟨r, rfl, q9⟩ := cP_v q9
    have h_p2 := q9.1.2.2 55 _ (by decide) (by decide) hO
    by_cases hr : r = 0
    · refine mw_if_eq (tgt := 14) dL_isCanonical_7 (by decide) (fun _ => ?_) (fun c9 => absurd c9 (fun z => z hr))
      refine mw_lconst (v := 0) dL_isCanonical_14 (by decide) ?_
      refine mw_last dL_isCanonical_15 h_p2 (mw_ix (j := 0) rfl (by decide) (by decide)) ?_
      refine mw_goto (tgt := 22) dL_isCanonical_16 (by decide) ?_
      refine mw_iconst (v := 0) dL_isCanonical_22 (by decide) ?_
      exact mw_ireturn dL_isCanonical_23 ⟨_, rfl, rfl⟩ (lP_r q9 _ (by unfold cvZ; rw [if_pos hr]))
    · refine mw_if_eq (tgt := 14) dL_isCanonical_7 (by decide) (fun c9 => absurd c9 hr) (fun _ => ?_)
      refine mw_lconst (v := 1) dL_isCanonical_10 (by decide) ?_
      refine mw_goto (tgt := 15) dL_isCanonical_11 (by decide) ?_
      refine mw_last dL_isCanonical_15 h_p2 (mw_ix (j := 0) rfl (by decide) (by decide)) ?_
      refine mw_goto (tgt := 22) dL_isCanonical_16 (by decide) ?_
      refine mw_iconst (v := 0) dL_isCanonical_22 (by decide) ?_
      exact mw_ireturn dL_isCanonical_23 ⟨_, rfl, rfl⟩ (lP_r q9 _ (by unfold cvZ; rw [if_neg hr]))
end LW
