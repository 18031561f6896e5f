/-! the law's cases: written by tools/wrap.py (class side) -/
abbrev mm_L_law : mw_M := (yL_law, cL_law, 7, some .boolean, [])
abbrev mSc : Type := Nat × (Nat → Int32)
theorem mw_sldx {y : mw_M} {d kc ks pc : Nat} {ls : List (Option Value)} {st : List Value} {h : mw_H} {Po : mw_P} {sc : mSc} {j : Nat} {i : Int32} (dg : decode y.2.1 pc = .ok (.iaload, 1)) (hs : h.2.2 = sc) (hi : vp_in i sc.1 ∧ i.toNatClampNeg = j) (k : mw_W y d kc ks (pc + 1) ls (.int (sc.2 j) :: st) h Po) : mw_W y d kc ks pc ls (.int i :: .ref 0 :: st) h Po := by
  subst hs
  exact mw_sld dg hi k
theorem mw_slenx {y : mw_M} {d kc ks pc : Nat} {ls : List (Option Value)} {st : List Value} {h : mw_H} {Po : mw_P} {sc : mSc} (dg : decode y.2.1 pc = .ok (.arraylength, 1)) (hs : h.2.2 = sc) (k : mw_W y d kc ks (pc + 1) ls (.int (nI sc.1) :: st) h Po) : mw_W y d kc ks pc ls (.ref 0 :: st) h Po := by
  subst hs
  exact mw_slen dg k
theorem lx_0 {n i : Nat} (hL : n ≤ 2560) (hi : i + 5 ≤ n) : vp_in (nI i) n ∧ (nI i).toNatClampNeg = i := mw_ix rfl (by omega) (by omega)
theorem lx_1 {n i : Nat} (hL : n ≤ 2560) (hi : i + 5 ≤ n) : vp_in (nI i + 1) n ∧ (nI i + 1).toNatClampNeg = i + 1 := mw_ix (nI_add i 1) (by omega) (by omega)
theorem lx_2 {n i : Nat} (hL : n ≤ 2560) (hi : i + 5 ≤ n) : vp_in (nI i + 2) n ∧ (nI i + 2).toNatClampNeg = i + 2 := mw_ix (nI_add i 2) (by omega) (by omega)
theorem lx_3 {n i : Nat} (hL : n ≤ 2560) (hi : i + 5 ≤ n) : vp_in (nI i + 3) n ∧ (nI i + 3).toNatClampNeg = i + 3 := mw_ix (nI_add i 3) (by omega) (by omega)
theorem lx_4 {n i : Nat} (hL : n ≤ 2560) (hi : i + 5 ≤ n) : vp_in (nI i + 4) n ∧ (nI i + 4).toNatClampNeg = i + 4 := mw_ix (nI_add i 4) (by omega) (by omega)
theorem gm_self {M : Nat} {H : mw_H} {I : Nat → Int32} {A : Nat → Nat → Int32} (h : ∀ j, j < 12 → mw_g H (M + j) = some (gm_c M I A j)) : gm M H I A = H := by
  unfold gm
  have e : (fun a => if M ≤ a ∧ a < M + 12 then some (gm_c M I A (a - M)) else H.2.1 a) = H.2.1 := by
    funext a
    by_cases c : M ≤ a ∧ a < M + 12
    · rw [if_pos c]
      have h1 := h (a - M) (by omega)
      rw [show M + (a - M) = a by omega] at h1
      exact h1.symm
    · rw [if_neg c]
  rw [e]
/-- what the law's loop keeps -/
def LI (sc : mSc) (g : mS) (H : mw_H) : Prop := H.2.2 = sc ∧ 56 ≤ H.1 ∧ (∃ sa ma, cC g H sa ma) ∧ (∃ I A, rR g I A ∧ ∀ j, j < 12 → mw_g H (43 + j) = some (gm_c 43 I A j)) ∧ ∃ f, mw_g H 55 = some (oV f)
section LC
variable {sc : mSc} {g : mS} {H : mw_H} {i kc ks : Nat} {Po : mw_P}
theorem yM_gm {I : Nat → Int32} {A : Nat → Nat → Int32} : yM [43, 44, 45, 46, 47, 48, 49, 50, 51, 52, 53, 54] H (gm 43 H I A) := ⟨Nat.le_refl _, rfl, fun b x hb hx => by
  simp only [List.mem_cons, List.not_mem_nil, or_false, not_or] at hb
  exact (gm_out (by omega)).trans hx⟩
theorem LI_mk {sa ma : Nat → Nat} {I : Nat → Int32} {A : Nat → Nat → Int32} {f : Nat → Int64} (hs : H.2.2 = sc) (h56 : 56 ≤ H.1) (hC : cC g H sa ma) (hr : rR g I A) (hO : mw_g H 55 = some (oV f)) : LI sc g (gm 43 H I A) := by
  refine ⟨hs, h56, ⟨sa, ma, ?_⟩, ⟨I, A, hr, fun j hj => gm_in hj⟩, f, (gm_out (by omega)).trans hO⟩
  exact cC_scr hC yM_gm (by decide) (cW_M hC.2.2.2.2 yM_gm (Or.inl (by decide)) (Or.inl (by decide)) (Or.inl (by decide)) (Or.inl (by decide)) (Or.inl (by decide)) (Or.inl (by decide)) (Or.inl (by decide)))
theorem conf_one {s o : Int32} {a a' : mA} (h : sp_conflict g s o a) (h' : sp_conflict g s o a') : a = a' := by
  unfold sp_conflict at h h'
  cases e1 : sS g s with
  | none => rw [e1] at h h'; rw [h, h']
  | some s' =>
    cases e2 : sS g o with
    | none => rw [e1, e2] at h h'; rw [h, h']
    | some o' =>
      rw [e1, e2] at h h'
      obtain ⟨h1, h2, h3⟩ := h
      obtain ⟨k1, k2, k3⟩ := h'
      exact Prod.ext (h1.trans k1.symm) (Prod.ext (isConf_one h2 k2) (h3.trans k3.symm))
theorem lg_same (x : Int64) : lg_cmp x x = 0 := by
  unfold lg_cmp
  simp
theorem lc_addSchema (hL : sc.1 ≤ 2560) (hI : LI sc g H) (hi : i + 5 ≤ sc.1) (x5 x6 : Option Value) (K : ∀ (g' : mS) (H' : mw_H) (x5 x6 : Option Value), LI sc g' H' → mw_W mm_L_law 9 kc ks 2131 [some (.ref 0), some (.ref 1), some (.ref 43), some (.ref 55), some (.int (nI i)), x5, x6] [] H' Po) : mw_W mm_L_law 9 (kc + 5) (ks + 270) 180 [some (.ref 0), some (.ref 1), some (.ref 43), some (.ref 55), some (.int (nI i)), x5, x6] [] H Po := by
  obtain ⟨hs, h56, ⟨sa, ma, hC⟩, ⟨I, A, hr, hM⟩, f, hO⟩ := hI
  have hscr := hs
  have hw := w_addSchema hC h56 hO 
  have hr1 := fun h => r_addSchema (M := 43) (h := h) hr 
  generalize sp_addSchema g  = a at hw hr1
  refine mw_aload_n (i := 1) dL_law_180 rfl rfl ?_
  refine mw_aload_n (i := 3) dL_law_181 rfl rfl ?_
  refine mw_callSX dL_law_182 mk_L_120 (hw) (by decide) (Nat.le_refl _) (Nat.le_refl _) rfl rfl (Nat.le_of_ble_eq_true rfl) (fun E9 h9 q9 => ?_) (fun v9 h9 q9 => ?_)
  · cases q9.2.2.2
  obtain ⟨hG, ⟨sa', ma', hC'⟩, ⟨f', hO', hf⟩, e9⟩ := q9
  cases e9
  have hM' : gm 43 h9 I A = h9 := gm_self (fun j hj => hG.2.2 _ _ (by omega) (by omega) (hM j hj))
  have hs' : h9.2.2 = sc := hG.2.1.trans hs
  have hle : 56 ≤ h9.1 := Nat.le_trans h56 hG.1
  rw [← hM']
  clear hscr
  have hscr : (gm 43 h9 I A).2.2 = sc := hs'
  have h_new8 : mw_g (gm 43 h9 I A) 43 = _ := gm_0
  refine mw_istore_5 dL_law_185 (by decide) ?_
  refine mw_aload_n (i := 2) dL_law_187 rfl rfl ?_
  refine mw_callV dL_law_188 mk_L_125 h_new8 rfl (hr1 h9) (by decide) (Nat.le_refl _) (Nat.le_refl _) rfl rfl (Nat.le_of_ble_eq_true rfl) (fun E8 h8 q8 => ?_) (fun v8 h8 q8 => ?_)
  · cases q8.1
  obtain ⟨e7, I', A', rfl, h0, hr'⟩ := q8
  cases e7
  have h_new8 : mw_g (gm 43 h9 I' A') 43 = _ := gm_0
  have h_new17 := (gm_out (M := 43) (h := h9) (I := I') (A := A') (by decide)).trans hO'
  refine mw_istore_6 dL_law_191 (by decide) ?_
  refine mw_aload_n (i := 2) dL_law_193 rfl rfl ?_
  refine mw_callVr dL_law_194 mk_L_126 h_new8 rfl (c_thrown) (by decide) (Nat.le_refl _) (Nat.le_refl _) rfl rfl (Nat.le_of_ble_eq_true rfl) ?_
  rw [h0]
  by_cases e0 : a.1 = 0
  · have hf := hf e0
    refine mw_iload (i := 5) dL_law_197 rfl ?_
    refine mw_icmp_eq (tgt := 204) dL_law_199 (by decide) (fun _ => ?_) (fun c9 => absurd c9 (fun z => z rfl))
    refine mw_iload (i := 5) dL_law_204 rfl ?_
    refine mw_if_ne (tgt := 221) dL_law_206 (by decide) (fun c9 => absurd c9 (fun z => z e0)) (fun _ => ?_)
    refine mw_aload_n (i := 3) dL_law_209 rfl rfl ?_
    refine mw_iconst (v := 0) dL_law_210 (by decide) ?_
    refine mw_lald dL_law_211 h_new17 (mw_ix (j := 0) rfl (by decide) (by decide)) ?_
    rw [hf]
    refine mw_iload (i := 6) dL_law_212 rfl ?_
    refine mw_i2l dL_law_214 rfl ?_
    refine mw_lcmp dL_law_215 ?_
    rw [show a.2.1.toInt64 = cvI a.2.1 from rfl, lg_same]
    refine mw_if_eq (tgt := 221) dL_law_216 (by decide) (fun _ => ?_) (fun c9 => absurd c9 (by first | decide | (rw [pk_us]; decide)))
    refine mw_goto (tgt := 2131) dL_law_221 (by decide) ?_
    exact K _ _ _ _ (LI_mk hs' hle hC' hr' hO')
  · refine mw_iload (i := 5) dL_law_197 rfl ?_
    refine mw_icmp_eq (tgt := 204) dL_law_199 (by decide) (fun _ => ?_) (fun c9 => absurd c9 (fun z => z rfl))
    refine mw_iload (i := 5) dL_law_204 rfl ?_
    refine mw_if_ne (tgt := 221) dL_law_206 (by decide) (fun _ => ?_) (fun c9 => absurd c9 e0)
    refine mw_goto (tgt := 2131) dL_law_221 (by decide) ?_
    exact K _ _ _ _ (LI_mk hs' hle hC' hr' hO')
theorem lc_setKind (hL : sc.1 ≤ 2560) (hI : LI sc g H) (hi : i + 5 ≤ sc.1) (x5 x6 : Option Value) (K : ∀ (g' : mS) (H' : mw_H) (x5 x6 : Option Value), LI sc g' H' → mw_W mm_L_law 9 kc ks 2131 [some (.ref 0), some (.ref 1), some (.ref 43), some (.ref 55), some (.int (nI i)), x5, x6] [] H' Po) : mw_W mm_L_law 9 (kc + 5) (ks + 270) 224 [some (.ref 0), some (.ref 1), some (.ref 43), some (.ref 55), some (.int (nI i)), x5, x6] [] H Po := by
  obtain ⟨hs, h56, ⟨sa, ma, hC⟩, ⟨I, A, hr, hM⟩, f, hO⟩ := hI
  have hscr := hs
  have hw := w_setKind hC hO (sc.2 (i + 1)) (sc.2 (i + 2)) (sc.2 (i + 3)) (sc.2 (i + 4))
  have hr1 := fun h => r_setKind (M := 43) (h := h) hr (sc.2 (i + 1)) (sc.2 (i + 2)) (sc.2 (i + 3)) (sc.2 (i + 4))
  generalize sp_setKind g (sc.2 (i + 1)) (sc.2 (i + 2)) (sc.2 (i + 3)) (sc.2 (i + 4)) = a at hw hr1
  refine mw_aload_n (i := 1) dL_law_224 rfl rfl ?_
  refine mw_aload_n (i := 0) dL_law_225 rfl rfl ?_
  refine mw_iload (i := 4) dL_law_226 rfl ?_
  refine mw_iconst (v := 1) dL_law_228 (by decide) ?_
  refine mw_iadd dL_law_229 ?_
  refine mw_sldx dL_law_230 hscr (lx_1 hL hi) ?_
  refine mw_aload_n (i := 0) dL_law_231 rfl rfl ?_
  refine mw_iload (i := 4) dL_law_232 rfl ?_
  refine mw_iconst (v := 2) dL_law_234 (by decide) ?_
  refine mw_iadd dL_law_235 ?_
  refine mw_sldx dL_law_236 hscr (lx_2 hL hi) ?_
  refine mw_aload_n (i := 0) dL_law_237 rfl rfl ?_
  refine mw_iload (i := 4) dL_law_238 rfl ?_
  refine mw_iconst (v := 3) dL_law_240 (by decide) ?_
  refine mw_iadd dL_law_241 ?_
  refine mw_sldx dL_law_242 hscr (lx_3 hL hi) ?_
  refine mw_aload_n (i := 0) dL_law_243 rfl rfl ?_
  refine mw_iload (i := 4) dL_law_244 rfl ?_
  refine mw_iconst (v := 4) dL_law_246 (by decide) ?_
  refine mw_iadd dL_law_247 ?_
  refine mw_sldx dL_law_248 hscr (lx_4 hL hi) ?_
  refine mw_aload_n (i := 3) dL_law_249 rfl rfl ?_
  refine mw_callSX dL_law_250 mk_L_129 (hw) (by decide) (Nat.le_refl _) (Nat.le_refl _) rfl rfl (Nat.le_of_ble_eq_true rfl) (fun E9 h9 q9 => ?_) (fun v9 h9 q9 => ?_)
  · cases q9.2.2.2
  obtain ⟨hG, ⟨sa', ma', hC'⟩, ⟨f', hO', hf⟩, e9⟩ := q9
  cases e9
  have hM' : gm 43 h9 I A = h9 := gm_self (fun j hj => hG.2.2 _ _ (by omega) (by omega) (hM j hj))
  have hs' : h9.2.2 = sc := hG.2.1.trans hs
  have hle : 56 ≤ h9.1 := Nat.le_trans h56 hG.1
  rw [← hM']
  clear hscr
  have hscr : (gm 43 h9 I A).2.2 = sc := hs'
  have h_new8 : mw_g (gm 43 h9 I A) 43 = _ := gm_0
  refine mw_istore_5 dL_law_253 (by decide) ?_
  refine mw_aload_n (i := 2) dL_law_255 rfl rfl ?_
  refine mw_aload_n (i := 0) dL_law_256 rfl rfl ?_
  refine mw_iload (i := 4) dL_law_257 rfl ?_
  refine mw_iconst (v := 1) dL_law_259 (by decide) ?_
  refine mw_iadd dL_law_260 ?_
  refine mw_sldx dL_law_261 hscr (lx_1 hL hi) ?_
  refine mw_aload_n (i := 0) dL_law_262 rfl rfl ?_
  refine mw_iload (i := 4) dL_law_263 rfl ?_
  refine mw_iconst (v := 2) dL_law_265 (by decide) ?_
  refine mw_iadd dL_law_266 ?_
  refine mw_sldx dL_law_267 hscr (lx_2 hL hi) ?_
  refine mw_aload_n (i := 0) dL_law_268 rfl rfl ?_
  refine mw_iload (i := 4) dL_law_269 rfl ?_
  refine mw_iconst (v := 3) dL_law_271 (by decide) ?_
  refine mw_iadd dL_law_272 ?_
  refine mw_sldx dL_law_273 hscr (lx_3 hL hi) ?_
  refine mw_aload_n (i := 0) dL_law_274 rfl rfl ?_
  refine mw_iload (i := 4) dL_law_275 rfl ?_
  refine mw_iconst (v := 4) dL_law_277 (by decide) ?_
  refine mw_iadd dL_law_278 ?_
  refine mw_sldx dL_law_279 hscr (lx_4 hL hi) ?_
  refine mw_callV dL_law_280 mk_L_132 h_new8 rfl (hr1 h9) (by decide) (Nat.le_refl _) (Nat.le_refl _) rfl rfl (Nat.le_of_ble_eq_true rfl) (fun E8 h8 q8 => ?_) (fun v8 h8 q8 => ?_)
  · cases q8.1
  obtain ⟨e7, I', A', rfl, h0, hr'⟩ := q8
  cases e7
  have h_new8 : mw_g (gm 43 h9 I' A') 43 = _ := gm_0
  have h_new17 := (gm_out (M := 43) (h := h9) (I := I') (A := A') (by decide)).trans hO'
  refine mw_istore_6 dL_law_283 (by decide) ?_
  refine mw_aload_n (i := 2) dL_law_285 rfl rfl ?_
  refine mw_callVr dL_law_286 mk_L_126 h_new8 rfl (c_thrown) (by decide) (Nat.le_refl _) (Nat.le_refl _) rfl rfl (Nat.le_of_ble_eq_true rfl) ?_
  rw [h0]
  by_cases e0 : a.1 = 0
  · have hf := hf e0
    refine mw_iload (i := 5) dL_law_289 rfl ?_
    refine mw_icmp_eq (tgt := 296) dL_law_291 (by decide) (fun _ => ?_) (fun c9 => absurd c9 (fun z => z rfl))
    refine mw_iload (i := 5) dL_law_296 rfl ?_
    refine mw_if_ne (tgt := 313) dL_law_298 (by decide) (fun c9 => absurd c9 (fun z => z e0)) (fun _ => ?_)
    refine mw_aload_n (i := 3) dL_law_301 rfl rfl ?_
    refine mw_iconst (v := 0) dL_law_302 (by decide) ?_
    refine mw_lald dL_law_303 h_new17 (mw_ix (j := 0) rfl (by decide) (by decide)) ?_
    rw [hf]
    refine mw_iload (i := 6) dL_law_304 rfl ?_
    refine mw_i2l dL_law_306 rfl ?_
    refine mw_lcmp dL_law_307 ?_
    rw [show a.2.1.toInt64 = cvI a.2.1 from rfl, lg_same]
    refine mw_if_eq (tgt := 313) dL_law_308 (by decide) (fun _ => ?_) (fun c9 => absurd c9 (by first | decide | (rw [pk_us]; decide)))
    refine mw_goto (tgt := 2131) dL_law_313 (by decide) ?_
    exact K _ _ _ _ (LI_mk hs' hle hC' hr' hO')
  · refine mw_iload (i := 5) dL_law_289 rfl ?_
    refine mw_icmp_eq (tgt := 296) dL_law_291 (by decide) (fun _ => ?_) (fun c9 => absurd c9 (fun z => z rfl))
    refine mw_iload (i := 5) dL_law_296 rfl ?_
    refine mw_if_ne (tgt := 313) dL_law_298 (by decide) (fun _ => ?_) (fun c9 => absurd c9 e0)
    refine mw_goto (tgt := 2131) dL_law_313 (by decide) ?_
    exact K _ _ _ _ (LI_mk hs' hle hC' hr' hO')
theorem lc_dropKind (hL : sc.1 ≤ 2560) (hI : LI sc g H) (hi : i + 5 ≤ sc.1) (x5 x6 : Option Value) (K : ∀ (g' : mS) (H' : mw_H) (x5 x6 : Option Value), LI sc g' H' → mw_W mm_L_law 9 kc ks 2131 [some (.ref 0), some (.ref 1), some (.ref 43), some (.ref 55), some (.int (nI i)), x5, x6] [] H' Po) : mw_W mm_L_law 9 (kc + 5) (ks + 270) 316 [some (.ref 0), some (.ref 1), some (.ref 43), some (.ref 55), some (.int (nI i)), x5, x6] [] H Po := by
  obtain ⟨hs, h56, ⟨sa, ma, hC⟩, ⟨I, A, hr, hM⟩, f, hO⟩ := hI
  have hscr := hs
  have hw := w_dropKind hC hO (sc.2 (i + 1)) (sc.2 (i + 2))
  have hr1 := fun h => r_dropKind (M := 43) (h := h) hr (sc.2 (i + 1)) (sc.2 (i + 2))
  generalize sp_dropKind g (sc.2 (i + 1)) (sc.2 (i + 2)) = a at hw hr1
  refine mw_aload_n (i := 1) dL_law_316 rfl rfl ?_
  refine mw_aload_n (i := 0) dL_law_317 rfl rfl ?_
  refine mw_iload (i := 4) dL_law_318 rfl ?_
  refine mw_iconst (v := 1) dL_law_320 (by decide) ?_
  refine mw_iadd dL_law_321 ?_
  refine mw_sldx dL_law_322 hscr (lx_1 hL hi) ?_
  refine mw_aload_n (i := 0) dL_law_323 rfl rfl ?_
  refine mw_iload (i := 4) dL_law_324 rfl ?_
  refine mw_iconst (v := 2) dL_law_326 (by decide) ?_
  refine mw_iadd dL_law_327 ?_
  refine mw_sldx dL_law_328 hscr (lx_2 hL hi) ?_
  refine mw_aload_n (i := 3) dL_law_329 rfl rfl ?_
  refine mw_callSX dL_law_330 mk_L_133 (hw) (by decide) (Nat.le_refl _) (Nat.le_refl _) rfl rfl (Nat.le_of_ble_eq_true rfl) (fun E9 h9 q9 => ?_) (fun v9 h9 q9 => ?_)
  · cases q9.2.2.2
  obtain ⟨hG, ⟨sa', ma', hC'⟩, ⟨f', hO', hf⟩, e9⟩ := q9
  cases e9
  have hM' : gm 43 h9 I A = h9 := gm_self (fun j hj => hG.2.2 _ _ (by omega) (by omega) (hM j hj))
  have hs' : h9.2.2 = sc := hG.2.1.trans hs
  have hle : 56 ≤ h9.1 := Nat.le_trans h56 hG.1
  rw [← hM']
  clear hscr
  have hscr : (gm 43 h9 I A).2.2 = sc := hs'
  have h_new8 : mw_g (gm 43 h9 I A) 43 = _ := gm_0
  refine mw_istore_5 dL_law_333 (by decide) ?_
  refine mw_aload_n (i := 2) dL_law_335 rfl rfl ?_
  refine mw_aload_n (i := 0) dL_law_336 rfl rfl ?_
  refine mw_iload (i := 4) dL_law_337 rfl ?_
  refine mw_iconst (v := 1) dL_law_339 (by decide) ?_
  refine mw_iadd dL_law_340 ?_
  refine mw_sldx dL_law_341 hscr (lx_1 hL hi) ?_
  refine mw_aload_n (i := 0) dL_law_342 rfl rfl ?_
  refine mw_iload (i := 4) dL_law_343 rfl ?_
  refine mw_iconst (v := 2) dL_law_345 (by decide) ?_
  refine mw_iadd dL_law_346 ?_
  refine mw_sldx dL_law_347 hscr (lx_2 hL hi) ?_
  refine mw_callV dL_law_348 mk_L_136 h_new8 rfl (hr1 h9) (by decide) (Nat.le_refl _) (Nat.le_refl _) rfl rfl (Nat.le_of_ble_eq_true rfl) (fun E8 h8 q8 => ?_) (fun v8 h8 q8 => ?_)
  · cases q8.1
  obtain ⟨e7, I', A', rfl, h0, hr'⟩ := q8
  cases e7
  have h_new8 : mw_g (gm 43 h9 I' A') 43 = _ := gm_0
  have h_new17 := (gm_out (M := 43) (h := h9) (I := I') (A := A') (by decide)).trans hO'
  refine mw_istore_6 dL_law_351 (by decide) ?_
  refine mw_aload_n (i := 2) dL_law_353 rfl rfl ?_
  refine mw_callVr dL_law_354 mk_L_126 h_new8 rfl (c_thrown) (by decide) (Nat.le_refl _) (Nat.le_refl _) rfl rfl (Nat.le_of_ble_eq_true rfl) ?_
  rw [h0]
  by_cases e0 : a.1 = 0
  · have hf := hf e0
    refine mw_iload (i := 5) dL_law_357 rfl ?_
    refine mw_icmp_eq (tgt := 364) dL_law_359 (by decide) (fun _ => ?_) (fun c9 => absurd c9 (fun z => z rfl))
    refine mw_iload (i := 5) dL_law_364 rfl ?_
    refine mw_if_ne (tgt := 381) dL_law_366 (by decide) (fun c9 => absurd c9 (fun z => z e0)) (fun _ => ?_)
    refine mw_aload_n (i := 3) dL_law_369 rfl rfl ?_
    refine mw_iconst (v := 0) dL_law_370 (by decide) ?_
    refine mw_lald dL_law_371 h_new17 (mw_ix (j := 0) rfl (by decide) (by decide)) ?_
    rw [hf]
    refine mw_iload (i := 6) dL_law_372 rfl ?_
    refine mw_i2l dL_law_374 rfl ?_
    refine mw_lcmp dL_law_375 ?_
    rw [show a.2.1.toInt64 = cvI a.2.1 from rfl, lg_same]
    refine mw_if_eq (tgt := 381) dL_law_376 (by decide) (fun _ => ?_) (fun c9 => absurd c9 (by first | decide | (rw [pk_us]; decide)))
    refine mw_goto (tgt := 2131) dL_law_381 (by decide) ?_
    exact K _ _ _ _ (LI_mk hs' hle hC' hr' hO')
  · refine mw_iload (i := 5) dL_law_357 rfl ?_
    refine mw_icmp_eq (tgt := 364) dL_law_359 (by decide) (fun _ => ?_) (fun c9 => absurd c9 (fun z => z rfl))
    refine mw_iload (i := 5) dL_law_364 rfl ?_
    refine mw_if_ne (tgt := 381) dL_law_366 (by decide) (fun _ => ?_) (fun c9 => absurd c9 e0)
    refine mw_goto (tgt := 2131) dL_law_381 (by decide) ?_
    exact K _ _ _ _ (LI_mk hs' hle hC' hr' hO')
theorem lc_setDefault (hL : sc.1 ≤ 2560) (hI : LI sc g H) (hi : i + 5 ≤ sc.1) (x5 x6 : Option Value) (K : ∀ (g' : mS) (H' : mw_H) (x5 x6 : Option Value), LI sc g' H' → mw_W mm_L_law 9 kc ks 2131 [some (.ref 0), some (.ref 1), some (.ref 43), some (.ref 55), some (.int (nI i)), x5, x6] [] H' Po) : mw_W mm_L_law 9 (kc + 5) (ks + 270) 384 [some (.ref 0), some (.ref 1), some (.ref 43), some (.ref 55), some (.int (nI i)), x5, x6] [] H Po := by
  obtain ⟨hs, h56, ⟨sa, ma, hC⟩, ⟨I, A, hr, hM⟩, f, hO⟩ := hI
  have hscr := hs
  have hw := w_setDefault hC hO (sc.2 (i + 1)) (sc.2 (i + 2)) (sc.2 (i + 3))
  have hr1 := fun h => r_setDefault (M := 43) (h := h) hr (sc.2 (i + 1)) (sc.2 (i + 2)) (sc.2 (i + 3))
  generalize sp_setDefault g (sc.2 (i + 1)) (sc.2 (i + 2)) (sc.2 (i + 3)) = a at hw hr1
  refine mw_aload_n (i := 1) dL_law_384 rfl rfl ?_
  refine mw_aload_n (i := 0) dL_law_385 rfl rfl ?_
  refine mw_iload (i := 4) dL_law_386 rfl ?_
  refine mw_iconst (v := 1) dL_law_388 (by decide) ?_
  refine mw_iadd dL_law_389 ?_
  refine mw_sldx dL_law_390 hscr (lx_1 hL hi) ?_
  refine mw_aload_n (i := 0) dL_law_391 rfl rfl ?_
  refine mw_iload (i := 4) dL_law_392 rfl ?_
  refine mw_iconst (v := 2) dL_law_394 (by decide) ?_
  refine mw_iadd dL_law_395 ?_
  refine mw_sldx dL_law_396 hscr (lx_2 hL hi) ?_
  refine mw_aload_n (i := 0) dL_law_397 rfl rfl ?_
  refine mw_iload (i := 4) dL_law_398 rfl ?_
  refine mw_iconst (v := 3) dL_law_400 (by decide) ?_
  refine mw_iadd dL_law_401 ?_
  refine mw_sldx dL_law_402 hscr (lx_3 hL hi) ?_
  refine mw_aload_n (i := 3) dL_law_403 rfl rfl ?_
  refine mw_callSX dL_law_404 mk_L_137 (hw) (by decide) (Nat.le_refl _) (Nat.le_refl _) rfl rfl (Nat.le_of_ble_eq_true rfl) (fun E9 h9 q9 => ?_) (fun v9 h9 q9 => ?_)
  · cases q9.2.2.2
  obtain ⟨hG, ⟨sa', ma', hC'⟩, ⟨f', hO', hf⟩, e9⟩ := q9
  cases e9
  have hM' : gm 43 h9 I A = h9 := gm_self (fun j hj => hG.2.2 _ _ (by omega) (by omega) (hM j hj))
  have hs' : h9.2.2 = sc := hG.2.1.trans hs
  have hle : 56 ≤ h9.1 := Nat.le_trans h56 hG.1
  rw [← hM']
  clear hscr
  have hscr : (gm 43 h9 I A).2.2 = sc := hs'
  have h_new8 : mw_g (gm 43 h9 I A) 43 = _ := gm_0
  refine mw_istore_5 dL_law_407 (by decide) ?_
  refine mw_aload_n (i := 2) dL_law_409 rfl rfl ?_
  refine mw_aload_n (i := 0) dL_law_410 rfl rfl ?_
  refine mw_iload (i := 4) dL_law_411 rfl ?_
  refine mw_iconst (v := 1) dL_law_413 (by decide) ?_
  refine mw_iadd dL_law_414 ?_
  refine mw_sldx dL_law_415 hscr (lx_1 hL hi) ?_
  refine mw_aload_n (i := 0) dL_law_416 rfl rfl ?_
  refine mw_iload (i := 4) dL_law_417 rfl ?_
  refine mw_iconst (v := 2) dL_law_419 (by decide) ?_
  refine mw_iadd dL_law_420 ?_
  refine mw_sldx dL_law_421 hscr (lx_2 hL hi) ?_
  refine mw_aload_n (i := 0) dL_law_422 rfl rfl ?_
  refine mw_iload (i := 4) dL_law_423 rfl ?_
  refine mw_iconst (v := 3) dL_law_425 (by decide) ?_
  refine mw_iadd dL_law_426 ?_
  refine mw_sldx dL_law_427 hscr (lx_3 hL hi) ?_
  refine mw_callV dL_law_428 mk_L_140 h_new8 rfl (hr1 h9) (by decide) (Nat.le_refl _) (Nat.le_refl _) rfl rfl (Nat.le_of_ble_eq_true rfl) (fun E8 h8 q8 => ?_) (fun v8 h8 q8 => ?_)
  · cases q8.1
  obtain ⟨e7, I', A', rfl, h0, hr'⟩ := q8
  cases e7
  have h_new8 : mw_g (gm 43 h9 I' A') 43 = _ := gm_0
  have h_new17 := (gm_out (M := 43) (h := h9) (I := I') (A := A') (by decide)).trans hO'
  refine mw_istore_6 dL_law_431 (by decide) ?_
  refine mw_aload_n (i := 2) dL_law_433 rfl rfl ?_
  refine mw_callVr dL_law_434 mk_L_126 h_new8 rfl (c_thrown) (by decide) (Nat.le_refl _) (Nat.le_refl _) rfl rfl (Nat.le_of_ble_eq_true rfl) ?_
  rw [h0]
  by_cases e0 : a.1 = 0
  · have hf := hf e0
    refine mw_iload (i := 5) dL_law_437 rfl ?_
    refine mw_icmp_eq (tgt := 444) dL_law_439 (by decide) (fun _ => ?_) (fun c9 => absurd c9 (fun z => z rfl))
    refine mw_iload (i := 5) dL_law_444 rfl ?_
    refine mw_if_ne (tgt := 461) dL_law_446 (by decide) (fun c9 => absurd c9 (fun z => z e0)) (fun _ => ?_)
    refine mw_aload_n (i := 3) dL_law_449 rfl rfl ?_
    refine mw_iconst (v := 0) dL_law_450 (by decide) ?_
    refine mw_lald dL_law_451 h_new17 (mw_ix (j := 0) rfl (by decide) (by decide)) ?_
    rw [hf]
    refine mw_iload (i := 6) dL_law_452 rfl ?_
    refine mw_i2l dL_law_454 rfl ?_
    refine mw_lcmp dL_law_455 ?_
    rw [show a.2.1.toInt64 = cvI a.2.1 from rfl, lg_same]
    refine mw_if_eq (tgt := 461) dL_law_456 (by decide) (fun _ => ?_) (fun c9 => absurd c9 (by first | decide | (rw [pk_us]; decide)))
    refine mw_goto (tgt := 2131) dL_law_461 (by decide) ?_
    exact K _ _ _ _ (LI_mk hs' hle hC' hr' hO')
  · refine mw_iload (i := 5) dL_law_437 rfl ?_
    refine mw_icmp_eq (tgt := 444) dL_law_439 (by decide) (fun _ => ?_) (fun c9 => absurd c9 (fun z => z rfl))
    refine mw_iload (i := 5) dL_law_444 rfl ?_
    refine mw_if_ne (tgt := 461) dL_law_446 (by decide) (fun _ => ?_) (fun c9 => absurd c9 e0)
    refine mw_goto (tgt := 2131) dL_law_461 (by decide) ?_
    exact K _ _ _ _ (LI_mk hs' hle hC' hr' hO')
theorem lc_kindOf (hL : sc.1 ≤ 2560) (hI : LI sc g H) (hi : i + 5 ≤ sc.1) (x5 x6 : Option Value) (K : ∀ (g' : mS) (H' : mw_H) (x5 x6 : Option Value), LI sc g' H' → mw_W mm_L_law 9 kc ks 2131 [some (.ref 0), some (.ref 1), some (.ref 43), some (.ref 55), some (.int (nI i)), x5, x6] [] H' Po) : mw_W mm_L_law 9 (kc + 5) (ks + 270) 464 [some (.ref 0), some (.ref 1), some (.ref 43), some (.ref 55), some (.int (nI i)), x5, x6] [] H Po := by
  obtain ⟨hs, h56, ⟨sa, ma, hC⟩, ⟨I, A, hr, hM⟩, f, hO⟩ := hI
  have hscr := hs
  have hw := w_kindOf hC hO (sc.2 (i + 1)) (sc.2 (i + 2))
  have hr1 := fun h => r_kindOf (M := 43) (h := h) hr (sc.2 (i + 1)) (sc.2 (i + 2))
  generalize sp_kindOf g (sc.2 (i + 1)) (sc.2 (i + 2)) = a at hw hr1
  refine mw_aload_n (i := 1) dL_law_464 rfl rfl ?_
  refine mw_aload_n (i := 0) dL_law_465 rfl rfl ?_
  refine mw_iload (i := 4) dL_law_466 rfl ?_
  refine mw_iconst (v := 1) dL_law_468 (by decide) ?_
  refine mw_iadd dL_law_469 ?_
  refine mw_sldx dL_law_470 hscr (lx_1 hL hi) ?_
  refine mw_aload_n (i := 0) dL_law_471 rfl rfl ?_
  refine mw_iload (i := 4) dL_law_472 rfl ?_
  refine mw_iconst (v := 2) dL_law_474 (by decide) ?_
  refine mw_iadd dL_law_475 ?_
  refine mw_sldx dL_law_476 hscr (lx_2 hL hi) ?_
  refine mw_aload_n (i := 3) dL_law_477 rfl rfl ?_
  refine mw_callSX dL_law_478 mk_L_141 (hw) (by decide) (Nat.le_refl _) (Nat.le_refl _) rfl rfl (Nat.le_of_ble_eq_true rfl) (fun E9 h9 q9 => ?_) (fun v9 h9 q9 => ?_)
  · cases q9.2.2.2
  obtain ⟨hG, ⟨sa', ma', hC'⟩, ⟨f', hO', hf⟩, e9⟩ := q9
  cases e9
  have hM' : gm 43 h9 I A = h9 := gm_self (fun j hj => hG.2.2 _ _ (by omega) (by omega) (hM j hj))
  have hs' : h9.2.2 = sc := hG.2.1.trans hs
  have hle : 56 ≤ h9.1 := Nat.le_trans h56 hG.1
  rw [← hM']
  clear hscr
  have hscr : (gm 43 h9 I A).2.2 = sc := hs'
  have h_new8 : mw_g (gm 43 h9 I A) 43 = _ := gm_0
  refine mw_istore_5 dL_law_481 (by decide) ?_
  refine mw_aload_n (i := 2) dL_law_483 rfl rfl ?_
  refine mw_aload_n (i := 0) dL_law_484 rfl rfl ?_
  refine mw_iload (i := 4) dL_law_485 rfl ?_
  refine mw_iconst (v := 1) dL_law_487 (by decide) ?_
  refine mw_iadd dL_law_488 ?_
  refine mw_sldx dL_law_489 hscr (lx_1 hL hi) ?_
  refine mw_aload_n (i := 0) dL_law_490 rfl rfl ?_
  refine mw_iload (i := 4) dL_law_491 rfl ?_
  refine mw_iconst (v := 2) dL_law_493 (by decide) ?_
  refine mw_iadd dL_law_494 ?_
  refine mw_sldx dL_law_495 hscr (lx_2 hL hi) ?_
  refine mw_callV dL_law_496 mk_L_143 h_new8 rfl (hr1 h9) (by decide) (Nat.le_refl _) (Nat.le_refl _) rfl rfl (Nat.le_of_ble_eq_true rfl) (fun E8 h8 q8 => ?_) (fun v8 h8 q8 => ?_)
  · cases q8.1
  obtain ⟨e7, I', A', rfl, h0, hr'⟩ := q8
  cases e7
  have h_new8 : mw_g (gm 43 h9 I' A') 43 = _ := gm_0
  have h_new17 := (gm_out (M := 43) (h := h9) (I := I') (A := A') (by decide)).trans hO'
  refine mw_istore_6 dL_law_499 (by decide) ?_
  refine mw_aload_n (i := 2) dL_law_501 rfl rfl ?_
  refine mw_callVr dL_law_502 mk_L_126 h_new8 rfl (c_thrown) (by decide) (Nat.le_refl _) (Nat.le_refl _) rfl rfl (Nat.le_of_ble_eq_true rfl) ?_
  rw [h0]
  by_cases e0 : a.1 = 0
  · have hf := hf e0
    refine mw_iload (i := 5) dL_law_505 rfl ?_
    refine mw_icmp_eq (tgt := 512) dL_law_507 (by decide) (fun _ => ?_) (fun c9 => absurd c9 (fun z => z rfl))
    refine mw_iload (i := 5) dL_law_512 rfl ?_
    refine mw_if_ne (tgt := 529) dL_law_514 (by decide) (fun c9 => absurd c9 (fun z => z e0)) (fun _ => ?_)
    refine mw_aload_n (i := 3) dL_law_517 rfl rfl ?_
    refine mw_iconst (v := 0) dL_law_518 (by decide) ?_
    refine mw_lald dL_law_519 h_new17 (mw_ix (j := 0) rfl (by decide) (by decide)) ?_
    rw [hf]
    refine mw_iload (i := 6) dL_law_520 rfl ?_
    refine mw_i2l dL_law_522 rfl ?_
    refine mw_lcmp dL_law_523 ?_
    rw [show a.2.1.toInt64 = cvI a.2.1 from rfl, lg_same]
    refine mw_if_eq (tgt := 529) dL_law_524 (by decide) (fun _ => ?_) (fun c9 => absurd c9 (by first | decide | (rw [pk_us]; decide)))
    refine mw_goto (tgt := 2131) dL_law_529 (by decide) ?_
    exact K _ _ _ _ (LI_mk hs' hle hC' hr' hO')
  · refine mw_iload (i := 5) dL_law_505 rfl ?_
    refine mw_icmp_eq (tgt := 512) dL_law_507 (by decide) (fun _ => ?_) (fun c9 => absurd c9 (fun z => z rfl))
    refine mw_iload (i := 5) dL_law_512 rfl ?_
    refine mw_if_ne (tgt := 529) dL_law_514 (by decide) (fun _ => ?_) (fun c9 => absurd c9 e0)
    refine mw_goto (tgt := 2131) dL_law_529 (by decide) ?_
    exact K _ _ _ _ (LI_mk hs' hle hC' hr' hO')
theorem lc_conflict (hL : sc.1 ≤ 2560) (hI : LI sc g H) (hi : i + 5 ≤ sc.1) (x5 x6 : Option Value) (K : ∀ (g' : mS) (H' : mw_H) (x5 x6 : Option Value), LI sc g' H' → mw_W mm_L_law 9 kc ks 2131 [some (.ref 0), some (.ref 1), some (.ref 43), some (.ref 55), some (.int (nI i)), x5, x6] [] H' Po) : mw_W mm_L_law 9 (kc + 5) (ks + 270) 532 [some (.ref 0), some (.ref 1), some (.ref 43), some (.ref 55), some (.int (nI i)), x5, x6] [] H Po := by
  obtain ⟨hs, h56, ⟨sa, ma, hC⟩, ⟨I, A, hr, hM⟩, f, hO⟩ := hI
  have hscr := hs
  have hw := w_conflict hC hO (sc.2 (i + 1)) (sc.2 (i + 2))
  have hr1 := fun h => r_conflict (M := 43) (h := h) hr (sc.2 (i + 1)) (sc.2 (i + 2))
  refine mw_aload_n (i := 1) dL_law_532 rfl rfl ?_
  refine mw_aload_n (i := 0) dL_law_533 rfl rfl ?_
  refine mw_iload (i := 4) dL_law_534 rfl ?_
  refine mw_iconst (v := 1) dL_law_536 (by decide) ?_
  refine mw_iadd dL_law_537 ?_
  refine mw_sldx dL_law_538 hscr (lx_1 hL hi) ?_
  refine mw_aload_n (i := 0) dL_law_539 rfl rfl ?_
  refine mw_iload (i := 4) dL_law_540 rfl ?_
  refine mw_iconst (v := 2) dL_law_542 (by decide) ?_
  refine mw_iadd dL_law_543 ?_
  refine mw_sldx dL_law_544 hscr (lx_2 hL hi) ?_
  refine mw_aload_n (i := 3) dL_law_545 rfl rfl ?_
  refine mw_callSX dL_law_546 mk_L_144 (hw) (by decide) (Nat.le_refl _) (Nat.le_refl _) rfl rfl (Nat.le_of_ble_eq_true rfl) (fun E9 h9 q9 => ?_) (fun v9 h9 q9 => ?_)
  · obtain ⟨a, -, -, -, -, z⟩ := q9
    cases z
  obtain ⟨a, hsp, q9⟩ := q9
  obtain ⟨hG, ⟨sa', ma', hC'⟩, ⟨f', hO', hf⟩, e9⟩ := q9
  cases e9
  have hM' : gm 43 h9 I A = h9 := gm_self (fun j hj => hG.2.2 _ _ (by omega) (by omega) (hM j hj))
  have hs' : h9.2.2 = sc := hG.2.1.trans hs
  have hle : 56 ≤ h9.1 := Nat.le_trans h56 hG.1
  rw [← hM']
  clear hscr
  have hscr : (gm 43 h9 I A).2.2 = sc := hs'
  have h_new8 : mw_g (gm 43 h9 I A) 43 = _ := gm_0
  refine mw_istore_5 dL_law_549 (by decide) ?_
  refine mw_aload_n (i := 2) dL_law_551 rfl rfl ?_
  refine mw_aload_n (i := 0) dL_law_552 rfl rfl ?_
  refine mw_iload (i := 4) dL_law_553 rfl ?_
  refine mw_iconst (v := 1) dL_law_555 (by decide) ?_
  refine mw_iadd dL_law_556 ?_
  refine mw_sldx dL_law_557 hscr (lx_1 hL hi) ?_
  refine mw_aload_n (i := 0) dL_law_558 rfl rfl ?_
  refine mw_iload (i := 4) dL_law_559 rfl ?_
  refine mw_iconst (v := 2) dL_law_561 (by decide) ?_
  refine mw_iadd dL_law_562 ?_
  refine mw_sldx dL_law_563 hscr (lx_2 hL hi) ?_
  refine mw_callV dL_law_564 mk_L_146 h_new8 rfl (hr1 h9) (by decide) (Nat.le_refl _) (Nat.le_refl _) rfl rfl (Nat.le_of_ble_eq_true rfl) (fun E8 h8 q8 => ?_) (fun v8 h8 q8 => ?_)
  · obtain ⟨a', -, z, -⟩ := q8
    cases z
  obtain ⟨a', hsp', q8⟩ := q8
  cases conf_one hsp hsp'
  obtain ⟨e7, I', A', rfl, h0, hr'⟩ := q8
  cases e7
  have h_new8 : mw_g (gm 43 h9 I' A') 43 = _ := gm_0
  have h_new17 := (gm_out (M := 43) (h := h9) (I := I') (A := A') (by decide)).trans hO'
  refine mw_istore_6 dL_law_567 (by decide) ?_
  refine mw_aload_n (i := 2) dL_law_569 rfl rfl ?_
  refine mw_callVr dL_law_570 mk_L_126 h_new8 rfl (c_thrown) (by decide) (Nat.le_refl _) (Nat.le_refl _) rfl rfl (Nat.le_of_ble_eq_true rfl) ?_
  rw [h0]
  by_cases e0 : a.1 = 0
  · have hf := hf e0
    refine mw_iload (i := 5) dL_law_573 rfl ?_
    refine mw_icmp_eq (tgt := 580) dL_law_575 (by decide) (fun _ => ?_) (fun c9 => absurd c9 (fun z => z rfl))
    refine mw_iload (i := 5) dL_law_580 rfl ?_
    refine mw_if_ne (tgt := 597) dL_law_582 (by decide) (fun c9 => absurd c9 (fun z => z e0)) (fun _ => ?_)
    refine mw_aload_n (i := 3) dL_law_585 rfl rfl ?_
    refine mw_iconst (v := 0) dL_law_586 (by decide) ?_
    refine mw_lald dL_law_587 h_new17 (mw_ix (j := 0) rfl (by decide) (by decide)) ?_
    rw [hf]
    refine mw_iload (i := 6) dL_law_588 rfl ?_
    refine mw_i2l dL_law_590 rfl ?_
    refine mw_lcmp dL_law_591 ?_
    rw [show a.2.1.toInt64 = cvI a.2.1 from rfl, lg_same]
    refine mw_if_eq (tgt := 597) dL_law_592 (by decide) (fun _ => ?_) (fun c9 => absurd c9 (by first | decide | (rw [pk_us]; decide)))
    refine mw_goto (tgt := 2131) dL_law_597 (by decide) ?_
    exact K _ _ _ _ (LI_mk hs' hle hC' hr' hO')
  · refine mw_iload (i := 5) dL_law_573 rfl ?_
    refine mw_icmp_eq (tgt := 580) dL_law_575 (by decide) (fun _ => ?_) (fun c9 => absurd c9 (fun z => z rfl))
    refine mw_iload (i := 5) dL_law_580 rfl ?_
    refine mw_if_ne (tgt := 597) dL_law_582 (by decide) (fun _ => ?_) (fun c9 => absurd c9 e0)
    refine mw_goto (tgt := 2131) dL_law_597 (by decide) ?_
    exact K _ _ _ _ (LI_mk hs' hle hC' hr' hO')
theorem lc_create (hL : sc.1 ≤ 2560) (hI : LI sc g H) (hi : i + 5 ≤ sc.1) (x5 x6 : Option Value) (K : ∀ (g' : mS) (H' : mw_H) (x5 x6 : Option Value), LI sc g' H' → mw_W mm_L_law 9 kc ks 2131 [some (.ref 0), some (.ref 1), some (.ref 43), some (.ref 55), some (.int (nI i)), x5, x6] [] H' Po) : mw_W mm_L_law 9 (kc + 5) (ks + 270) 600 [some (.ref 0), some (.ref 1), some (.ref 43), some (.ref 55), some (.int (nI i)), x5, x6] [] H Po := by
  obtain ⟨hs, h56, ⟨sa, ma, hC⟩, ⟨I, A, hr, hM⟩, f, hO⟩ := hI
  have hscr := hs
  have hw := w_create hC h56 hO (sc.2 (i + 1))
  have hr1 := fun h => r_create (M := 43) (h := h) hr (sc.2 (i + 1))
  generalize sp_create g (sc.2 (i + 1)) = a at hw hr1
  refine mw_aload_n (i := 1) dL_law_600 rfl rfl ?_
  refine mw_aload_n (i := 0) dL_law_601 rfl rfl ?_
  refine mw_iload (i := 4) dL_law_602 rfl ?_
  refine mw_iconst (v := 1) dL_law_604 (by decide) ?_
  refine mw_iadd dL_law_605 ?_
  refine mw_sldx dL_law_606 hscr (lx_1 hL hi) ?_
  refine mw_aload_n (i := 3) dL_law_607 rfl rfl ?_
  refine mw_callSX dL_law_608 mk_L_147 (hw) (by decide) (Nat.le_refl _) (Nat.le_refl _) rfl rfl (Nat.le_of_ble_eq_true rfl) (fun E9 h9 q9 => ?_) (fun v9 h9 q9 => ?_)
  · cases q9.2.2.2
  obtain ⟨hG, ⟨sa', ma', hC'⟩, ⟨f', hO', hf⟩, e9⟩ := q9
  cases e9
  have hM' : gm 43 h9 I A = h9 := gm_self (fun j hj => hG.2.2 _ _ (by omega) (by omega) (hM j hj))
  have hs' : h9.2.2 = sc := hG.2.1.trans hs
  have hle : 56 ≤ h9.1 := Nat.le_trans h56 hG.1
  rw [← hM']
  clear hscr
  have hscr : (gm 43 h9 I A).2.2 = sc := hs'
  have h_new8 : mw_g (gm 43 h9 I A) 43 = _ := gm_0
  refine mw_istore_5 dL_law_611 (by decide) ?_
  refine mw_aload_n (i := 2) dL_law_613 rfl rfl ?_
  refine mw_aload_n (i := 0) dL_law_614 rfl rfl ?_
  refine mw_iload (i := 4) dL_law_615 rfl ?_
  refine mw_iconst (v := 1) dL_law_617 (by decide) ?_
  refine mw_iadd dL_law_618 ?_
  refine mw_sldx dL_law_619 hscr (lx_1 hL hi) ?_
  refine mw_callV dL_law_620 mk_L_150 h_new8 rfl (hr1 h9) (by decide) (Nat.le_refl _) (Nat.le_refl _) rfl rfl (Nat.le_of_ble_eq_true rfl) (fun E8 h8 q8 => ?_) (fun v8 h8 q8 => ?_)
  · cases q8.1
  obtain ⟨e7, I', A', rfl, h0, hr'⟩ := q8
  cases e7
  have h_new8 : mw_g (gm 43 h9 I' A') 43 = _ := gm_0
  have h_new17 := (gm_out (M := 43) (h := h9) (I := I') (A := A') (by decide)).trans hO'
  refine mw_istore_6 dL_law_623 (by decide) ?_
  refine mw_aload_n (i := 2) dL_law_625 rfl rfl ?_
  refine mw_callVr dL_law_626 mk_L_126 h_new8 rfl (c_thrown) (by decide) (Nat.le_refl _) (Nat.le_refl _) rfl rfl (Nat.le_of_ble_eq_true rfl) ?_
  rw [h0]
  by_cases e0 : a.1 = 0
  · have hf := hf e0
    refine mw_iload (i := 5) dL_law_629 rfl ?_
    refine mw_icmp_eq (tgt := 636) dL_law_631 (by decide) (fun _ => ?_) (fun c9 => absurd c9 (fun z => z rfl))
    refine mw_iload (i := 5) dL_law_636 rfl ?_
    refine mw_if_ne (tgt := 653) dL_law_638 (by decide) (fun c9 => absurd c9 (fun z => z e0)) (fun _ => ?_)
    refine mw_aload_n (i := 3) dL_law_641 rfl rfl ?_
    refine mw_iconst (v := 0) dL_law_642 (by decide) ?_
    refine mw_lald dL_law_643 h_new17 (mw_ix (j := 0) rfl (by decide) (by decide)) ?_
    rw [hf]
    refine mw_iload (i := 6) dL_law_644 rfl ?_
    refine mw_i2l dL_law_646 rfl ?_
    refine mw_lcmp dL_law_647 ?_
    rw [show a.2.1.toInt64 = cvI a.2.1 from rfl, lg_same]
    refine mw_if_eq (tgt := 653) dL_law_648 (by decide) (fun _ => ?_) (fun c9 => absurd c9 (by first | decide | (rw [pk_us]; decide)))
    refine mw_goto (tgt := 2131) dL_law_653 (by decide) ?_
    exact K _ _ _ _ (LI_mk hs' hle hC' hr' hO')
  · refine mw_iload (i := 5) dL_law_629 rfl ?_
    refine mw_icmp_eq (tgt := 636) dL_law_631 (by decide) (fun _ => ?_) (fun c9 => absurd c9 (fun z => z rfl))
    refine mw_iload (i := 5) dL_law_636 rfl ?_
    refine mw_if_ne (tgt := 653) dL_law_638 (by decide) (fun _ => ?_) (fun c9 => absurd c9 e0)
    refine mw_goto (tgt := 2131) dL_law_653 (by decide) ?_
    exact K _ _ _ _ (LI_mk hs' hle hC' hr' hO')
theorem lc_copy (hL : sc.1 ≤ 2560) (hI : LI sc g H) (hi : i + 5 ≤ sc.1) (x5 x6 : Option Value) (K : ∀ (g' : mS) (H' : mw_H) (x5 x6 : Option Value), LI sc g' H' → mw_W mm_L_law 9 kc ks 2131 [some (.ref 0), some (.ref 1), some (.ref 43), some (.ref 55), some (.int (nI i)), x5, x6] [] H' Po) : mw_W mm_L_law 9 (kc + 5) (ks + 270) 656 [some (.ref 0), some (.ref 1), some (.ref 43), some (.ref 55), some (.int (nI i)), x5, x6] [] H Po := by
  obtain ⟨hs, h56, ⟨sa, ma, hC⟩, ⟨I, A, hr, hM⟩, f, hO⟩ := hI
  have hscr := hs
  have hw := w_copy hC h56 hO (sc.2 (i + 1)) (sc.2 (i + 2))
  have hr1 := fun h => r_copy (M := 43) (h := h) hr (sc.2 (i + 1)) (sc.2 (i + 2))
  generalize sp_copy g (sc.2 (i + 1)) (sc.2 (i + 2)) = a at hw hr1
  refine mw_aload_n (i := 1) dL_law_656 rfl rfl ?_
  refine mw_aload_n (i := 0) dL_law_657 rfl rfl ?_
  refine mw_iload (i := 4) dL_law_658 rfl ?_
  refine mw_iconst (v := 1) dL_law_660 (by decide) ?_
  refine mw_iadd dL_law_661 ?_
  refine mw_sldx dL_law_662 hscr (lx_1 hL hi) ?_
  refine mw_aload_n (i := 0) dL_law_663 rfl rfl ?_
  refine mw_iload (i := 4) dL_law_664 rfl ?_
  refine mw_iconst (v := 2) dL_law_666 (by decide) ?_
  refine mw_iadd dL_law_667 ?_
  refine mw_sldx dL_law_668 hscr (lx_2 hL hi) ?_
  refine mw_aload_n (i := 3) dL_law_669 rfl rfl ?_
  refine mw_callSX dL_law_670 mk_L_151 (hw) (by decide) (Nat.le_refl _) (Nat.le_refl _) rfl rfl (Nat.le_of_ble_eq_true rfl) (fun E9 h9 q9 => ?_) (fun v9 h9 q9 => ?_)
  · cases q9.2.2.2
  obtain ⟨hG, ⟨sa', ma', hC'⟩, ⟨f', hO', hf⟩, e9⟩ := q9
  cases e9
  have hM' : gm 43 h9 I A = h9 := gm_self (fun j hj => hG.2.2 _ _ (by omega) (by omega) (hM j hj))
  have hs' : h9.2.2 = sc := hG.2.1.trans hs
  have hle : 56 ≤ h9.1 := Nat.le_trans h56 hG.1
  rw [← hM']
  clear hscr
  have hscr : (gm 43 h9 I A).2.2 = sc := hs'
  have h_new8 : mw_g (gm 43 h9 I A) 43 = _ := gm_0
  refine mw_istore_5 dL_law_673 (by decide) ?_
  refine mw_aload_n (i := 2) dL_law_675 rfl rfl ?_
  refine mw_aload_n (i := 0) dL_law_676 rfl rfl ?_
  refine mw_iload (i := 4) dL_law_677 rfl ?_
  refine mw_iconst (v := 1) dL_law_679 (by decide) ?_
  refine mw_iadd dL_law_680 ?_
  refine mw_sldx dL_law_681 hscr (lx_1 hL hi) ?_
  refine mw_aload_n (i := 0) dL_law_682 rfl rfl ?_
  refine mw_iload (i := 4) dL_law_683 rfl ?_
  refine mw_iconst (v := 2) dL_law_685 (by decide) ?_
  refine mw_iadd dL_law_686 ?_
  refine mw_sldx dL_law_687 hscr (lx_2 hL hi) ?_
  refine mw_callV dL_law_688 mk_L_153 h_new8 rfl (hr1 h9) (by decide) (Nat.le_refl _) (Nat.le_refl _) rfl rfl (Nat.le_of_ble_eq_true rfl) (fun E8 h8 q8 => ?_) (fun v8 h8 q8 => ?_)
  · cases q8.1
  obtain ⟨e7, I', A', rfl, h0, hr'⟩ := q8
  cases e7
  have h_new8 : mw_g (gm 43 h9 I' A') 43 = _ := gm_0
  have h_new17 := (gm_out (M := 43) (h := h9) (I := I') (A := A') (by decide)).trans hO'
  refine mw_istore_6 dL_law_691 (by decide) ?_
  refine mw_aload_n (i := 2) dL_law_693 rfl rfl ?_
  refine mw_callVr dL_law_694 mk_L_126 h_new8 rfl (c_thrown) (by decide) (Nat.le_refl _) (Nat.le_refl _) rfl rfl (Nat.le_of_ble_eq_true rfl) ?_
  rw [h0]
  by_cases e0 : a.1 = 0
  · have hf := hf e0
    refine mw_iload (i := 5) dL_law_697 rfl ?_
    refine mw_icmp_eq (tgt := 704) dL_law_699 (by decide) (fun _ => ?_) (fun c9 => absurd c9 (fun z => z rfl))
    refine mw_iload (i := 5) dL_law_704 rfl ?_
    refine mw_if_ne (tgt := 721) dL_law_706 (by decide) (fun c9 => absurd c9 (fun z => z e0)) (fun _ => ?_)
    refine mw_aload_n (i := 3) dL_law_709 rfl rfl ?_
    refine mw_iconst (v := 0) dL_law_710 (by decide) ?_
    refine mw_lald dL_law_711 h_new17 (mw_ix (j := 0) rfl (by decide) (by decide)) ?_
    rw [hf]
    refine mw_iload (i := 6) dL_law_712 rfl ?_
    refine mw_i2l dL_law_714 rfl ?_
    refine mw_lcmp dL_law_715 ?_
    rw [show a.2.1.toInt64 = cvI a.2.1 from rfl, lg_same]
    refine mw_if_eq (tgt := 721) dL_law_716 (by decide) (fun _ => ?_) (fun c9 => absurd c9 (by first | decide | (rw [pk_us]; decide)))
    refine mw_goto (tgt := 2131) dL_law_721 (by decide) ?_
    exact K _ _ _ _ (LI_mk hs' hle hC' hr' hO')
  · refine mw_iload (i := 5) dL_law_697 rfl ?_
    refine mw_icmp_eq (tgt := 704) dL_law_699 (by decide) (fun _ => ?_) (fun c9 => absurd c9 (fun z => z rfl))
    refine mw_iload (i := 5) dL_law_704 rfl ?_
    refine mw_if_ne (tgt := 721) dL_law_706 (by decide) (fun _ => ?_) (fun c9 => absurd c9 e0)
    refine mw_goto (tgt := 2131) dL_law_721 (by decide) ?_
    exact K _ _ _ _ (LI_mk hs' hle hC' hr' hO')
theorem lc_discard (hL : sc.1 ≤ 2560) (hI : LI sc g H) (hi : i + 5 ≤ sc.1) (x5 x6 : Option Value) (K : ∀ (g' : mS) (H' : mw_H) (x5 x6 : Option Value), LI sc g' H' → mw_W mm_L_law 9 kc ks 2131 [some (.ref 0), some (.ref 1), some (.ref 43), some (.ref 55), some (.int (nI i)), x5, x6] [] H' Po) : mw_W mm_L_law 9 (kc + 5) (ks + 270) 724 [some (.ref 0), some (.ref 1), some (.ref 43), some (.ref 55), some (.int (nI i)), x5, x6] [] H Po := by
  obtain ⟨hs, h56, ⟨sa, ma, hC⟩, ⟨I, A, hr, hM⟩, f, hO⟩ := hI
  have hscr := hs
  have hw := w_discard hC hO (sc.2 (i + 1))
  have hr1 := fun h => r_discard (M := 43) (h := h) hr (sc.2 (i + 1))
  generalize sp_discard g (sc.2 (i + 1)) = a at hw hr1
  refine mw_aload_n (i := 1) dL_law_724 rfl rfl ?_
  refine mw_aload_n (i := 0) dL_law_725 rfl rfl ?_
  refine mw_iload (i := 4) dL_law_726 rfl ?_
  refine mw_iconst (v := 1) dL_law_728 (by decide) ?_
  refine mw_iadd dL_law_729 ?_
  refine mw_sldx dL_law_730 hscr (lx_1 hL hi) ?_
  refine mw_aload_n (i := 3) dL_law_731 rfl rfl ?_
  refine mw_callSX dL_law_732 mk_L_154 (hw) (by decide) (Nat.le_refl _) (Nat.le_refl _) rfl rfl (Nat.le_of_ble_eq_true rfl) (fun E9 h9 q9 => ?_) (fun v9 h9 q9 => ?_)
  · cases q9.2.2.2
  obtain ⟨hG, ⟨sa', ma', hC'⟩, ⟨f', hO', hf⟩, e9⟩ := q9
  cases e9
  have hM' : gm 43 h9 I A = h9 := gm_self (fun j hj => hG.2.2 _ _ (by omega) (by omega) (hM j hj))
  have hs' : h9.2.2 = sc := hG.2.1.trans hs
  have hle : 56 ≤ h9.1 := Nat.le_trans h56 hG.1
  rw [← hM']
  clear hscr
  have hscr : (gm 43 h9 I A).2.2 = sc := hs'
  have h_new8 : mw_g (gm 43 h9 I A) 43 = _ := gm_0
  refine mw_istore_5 dL_law_735 (by decide) ?_
  refine mw_aload_n (i := 2) dL_law_737 rfl rfl ?_
  refine mw_aload_n (i := 0) dL_law_738 rfl rfl ?_
  refine mw_iload (i := 4) dL_law_739 rfl ?_
  refine mw_iconst (v := 1) dL_law_741 (by decide) ?_
  refine mw_iadd dL_law_742 ?_
  refine mw_sldx dL_law_743 hscr (lx_1 hL hi) ?_
  refine mw_callV dL_law_744 mk_L_156 h_new8 rfl (hr1 h9) (by decide) (Nat.le_refl _) (Nat.le_refl _) rfl rfl (Nat.le_of_ble_eq_true rfl) (fun E8 h8 q8 => ?_) (fun v8 h8 q8 => ?_)
  · cases q8.1
  obtain ⟨e7, I', A', rfl, h0, hr'⟩ := q8
  cases e7
  have h_new8 : mw_g (gm 43 h9 I' A') 43 = _ := gm_0
  have h_new17 := (gm_out (M := 43) (h := h9) (I := I') (A := A') (by decide)).trans hO'
  refine mw_istore_6 dL_law_747 (by decide) ?_
  refine mw_aload_n (i := 2) dL_law_749 rfl rfl ?_
  refine mw_callVr dL_law_750 mk_L_126 h_new8 rfl (c_thrown) (by decide) (Nat.le_refl _) (Nat.le_refl _) rfl rfl (Nat.le_of_ble_eq_true rfl) ?_
  rw [h0]
  by_cases e0 : a.1 = 0
  · have hf := hf e0
    refine mw_iload (i := 5) dL_law_753 rfl ?_
    refine mw_icmp_eq (tgt := 760) dL_law_755 (by decide) (fun _ => ?_) (fun c9 => absurd c9 (fun z => z rfl))
    refine mw_iload (i := 5) dL_law_760 rfl ?_
    refine mw_if_ne (tgt := 777) dL_law_762 (by decide) (fun c9 => absurd c9 (fun z => z e0)) (fun _ => ?_)
    refine mw_aload_n (i := 3) dL_law_765 rfl rfl ?_
    refine mw_iconst (v := 0) dL_law_766 (by decide) ?_
    refine mw_lald dL_law_767 h_new17 (mw_ix (j := 0) rfl (by decide) (by decide)) ?_
    rw [hf]
    refine mw_iload (i := 6) dL_law_768 rfl ?_
    refine mw_i2l dL_law_770 rfl ?_
    refine mw_lcmp dL_law_771 ?_
    rw [show a.2.1.toInt64 = cvI a.2.1 from rfl, lg_same]
    refine mw_if_eq (tgt := 777) dL_law_772 (by decide) (fun _ => ?_) (fun c9 => absurd c9 (by first | decide | (rw [pk_us]; decide)))
    refine mw_goto (tgt := 2131) dL_law_777 (by decide) ?_
    exact K _ _ _ _ (LI_mk hs' hle hC' hr' hO')
  · refine mw_iload (i := 5) dL_law_753 rfl ?_
    refine mw_icmp_eq (tgt := 760) dL_law_755 (by decide) (fun _ => ?_) (fun c9 => absurd c9 (fun z => z rfl))
    refine mw_iload (i := 5) dL_law_760 rfl ?_
    refine mw_if_ne (tgt := 777) dL_law_762 (by decide) (fun _ => ?_) (fun c9 => absurd c9 e0)
    refine mw_goto (tgt := 2131) dL_law_777 (by decide) ?_
    exact K _ _ _ _ (LI_mk hs' hle hC' hr' hO')
theorem lc_set (hL : sc.1 ≤ 2560) (hI : LI sc g H) (hi : i + 5 ≤ sc.1) (x5 x6 : Option Value) (K : ∀ (g' : mS) (H' : mw_H) (x5 x6 : Option Value), LI sc g' H' → mw_W mm_L_law 9 kc ks 2131 [some (.ref 0), some (.ref 1), some (.ref 43), some (.ref 55), some (.int (nI i)), x5, x6] [] H' Po) : mw_W mm_L_law 9 (kc + 5) (ks + 270) 780 [some (.ref 0), some (.ref 1), some (.ref 43), some (.ref 55), some (.int (nI i)), x5, x6] [] H Po := by
  obtain ⟨hs, h56, ⟨sa, ma, hC⟩, ⟨I, A, hr, hM⟩, f, hO⟩ := hI
  have hscr := hs
  have hw := w_set hC hO (sc.2 (i + 1)) (sc.2 (i + 2)) (sc.2 (i + 3))
  have hr1 := fun h => r_set (M := 43) (h := h) hr (sc.2 (i + 1)) (sc.2 (i + 2)) (sc.2 (i + 3))
  generalize sp_set g (sc.2 (i + 1)) (sc.2 (i + 2)) (sc.2 (i + 3)) = a at hw hr1
  refine mw_aload_n (i := 1) dL_law_780 rfl rfl ?_
  refine mw_aload_n (i := 0) dL_law_781 rfl rfl ?_
  refine mw_iload (i := 4) dL_law_782 rfl ?_
  refine mw_iconst (v := 1) dL_law_784 (by decide) ?_
  refine mw_iadd dL_law_785 ?_
  refine mw_sldx dL_law_786 hscr (lx_1 hL hi) ?_
  refine mw_aload_n (i := 0) dL_law_787 rfl rfl ?_
  refine mw_iload (i := 4) dL_law_788 rfl ?_
  refine mw_iconst (v := 2) dL_law_790 (by decide) ?_
  refine mw_iadd dL_law_791 ?_
  refine mw_sldx dL_law_792 hscr (lx_2 hL hi) ?_
  refine mw_aload_n (i := 0) dL_law_793 rfl rfl ?_
  refine mw_iload (i := 4) dL_law_794 rfl ?_
  refine mw_iconst (v := 3) dL_law_796 (by decide) ?_
  refine mw_iadd dL_law_797 ?_
  refine mw_sldx dL_law_798 hscr (lx_3 hL hi) ?_
  refine mw_callSX dL_law_799 mk_L_157 (hw) (by decide) (Nat.le_refl _) (Nat.le_refl _) rfl rfl (Nat.le_of_ble_eq_true rfl) (fun E9 h9 q9 => ?_) (fun v9 h9 q9 => ?_)
  · cases q9.2.2.2
  obtain ⟨hG, ⟨sa', ma', hC'⟩, ⟨f', hO'⟩, e9⟩ := q9
  cases e9
  have hM' : gm 43 h9 I A = h9 := gm_self (fun j hj => hG.2.2 _ _ (by omega) (by omega) (hM j hj))
  have hs' : h9.2.2 = sc := hG.2.1.trans hs
  have hle : 56 ≤ h9.1 := Nat.le_trans h56 hG.1
  rw [← hM']
  clear hscr
  have hscr : (gm 43 h9 I A).2.2 = sc := hs'
  have h_new8 : mw_g (gm 43 h9 I A) 43 = _ := gm_0
  refine mw_istore_5 dL_law_802 (by decide) ?_
  refine mw_aload_n (i := 2) dL_law_804 rfl rfl ?_
  refine mw_aload_n (i := 0) dL_law_805 rfl rfl ?_
  refine mw_iload (i := 4) dL_law_806 rfl ?_
  refine mw_iconst (v := 1) dL_law_808 (by decide) ?_
  refine mw_iadd dL_law_809 ?_
  refine mw_sldx dL_law_810 hscr (lx_1 hL hi) ?_
  refine mw_aload_n (i := 0) dL_law_811 rfl rfl ?_
  refine mw_iload (i := 4) dL_law_812 rfl ?_
  refine mw_iconst (v := 2) dL_law_814 (by decide) ?_
  refine mw_iadd dL_law_815 ?_
  refine mw_sldx dL_law_816 hscr (lx_2 hL hi) ?_
  refine mw_aload_n (i := 0) dL_law_817 rfl rfl ?_
  refine mw_iload (i := 4) dL_law_818 rfl ?_
  refine mw_iconst (v := 3) dL_law_820 (by decide) ?_
  refine mw_iadd dL_law_821 ?_
  refine mw_sldx dL_law_822 hscr (lx_3 hL hi) ?_
  refine mw_callV dL_law_823 mk_L_160 h_new8 rfl (hr1 h9) (by decide) (Nat.le_refl _) (Nat.le_refl _) rfl rfl (Nat.le_of_ble_eq_true rfl) (fun E8 h8 q8 => ?_) (fun v8 h8 q8 => ?_)
  · cases q8.1
  obtain ⟨e7, I', A', rfl, h0, hr'⟩ := q8
  cases e7
  have h_new8 : mw_g (gm 43 h9 I' A') 43 = _ := gm_0
  have h_new17 := (gm_out (M := 43) (h := h9) (I := I') (A := A') (by decide)).trans hO'
  refine mw_aload_n (i := 2) dL_law_826 rfl rfl ?_
  refine mw_callVr dL_law_827 mk_L_126 h_new8 rfl (c_thrown) (by decide) (Nat.le_refl _) (Nat.le_refl _) rfl rfl (Nat.le_of_ble_eq_true rfl) ?_
  rw [h0]
  refine mw_iload (i := 5) dL_law_830 rfl ?_
  refine mw_icmp_eq (tgt := 837) dL_law_832 (by decide) (fun _ => ?_) (fun c9 => absurd c9 (fun z => z rfl))
  refine mw_goto (tgt := 2131) dL_law_837 (by decide) ?_
  exact K _ _ _ _ (LI_mk hs' hle hC' hr' hO')
theorem lc_append (hL : sc.1 ≤ 2560) (hI : LI sc g H) (hi : i + 5 ≤ sc.1) (x5 x6 : Option Value) (K : ∀ (g' : mS) (H' : mw_H) (x5 x6 : Option Value), LI sc g' H' → mw_W mm_L_law 9 kc ks 2131 [some (.ref 0), some (.ref 1), some (.ref 43), some (.ref 55), some (.int (nI i)), x5, x6] [] H' Po) : mw_W mm_L_law 9 (kc + 5) (ks + 270) 840 [some (.ref 0), some (.ref 1), some (.ref 43), some (.ref 55), some (.int (nI i)), x5, x6] [] H Po := by
  obtain ⟨hs, h56, ⟨sa, ma, hC⟩, ⟨I, A, hr, hM⟩, f, hO⟩ := hI
  have hscr := hs
  have hw := w_append hC hO (sc.2 (i + 1)) (sc.2 (i + 2)) (sc.2 (i + 3))
  have hr1 := fun h => r_append (M := 43) (h := h) hr (sc.2 (i + 1)) (sc.2 (i + 2)) ((sc.2 (i + 3)).toInt8.toInt32)
  generalize sp_append g (sc.2 (i + 1)) (sc.2 (i + 2)) ((sc.2 (i + 3)).toInt8.toInt32) = a at hw hr1
  refine mw_aload_n (i := 1) dL_law_840 rfl rfl ?_
  refine mw_aload_n (i := 0) dL_law_841 rfl rfl ?_
  refine mw_iload (i := 4) dL_law_842 rfl ?_
  refine mw_iconst (v := 1) dL_law_844 (by decide) ?_
  refine mw_iadd dL_law_845 ?_
  refine mw_sldx dL_law_846 hscr (lx_1 hL hi) ?_
  refine mw_aload_n (i := 0) dL_law_847 rfl rfl ?_
  refine mw_iload (i := 4) dL_law_848 rfl ?_
  refine mw_iconst (v := 2) dL_law_850 (by decide) ?_
  refine mw_iadd dL_law_851 ?_
  refine mw_sldx dL_law_852 hscr (lx_2 hL hi) ?_
  refine mw_aload_n (i := 0) dL_law_853 rfl rfl ?_
  refine mw_iload (i := 4) dL_law_854 rfl ?_
  refine mw_iconst (v := 3) dL_law_856 (by decide) ?_
  refine mw_iadd dL_law_857 ?_
  refine mw_sldx dL_law_858 hscr (lx_3 hL hi) ?_
  refine mw_i2b dL_law_859 rfl ?_
  refine mw_aload_n (i := 3) dL_law_860 rfl rfl ?_
  refine mw_callSX dL_law_861 mk_L_161 (hw) (by decide) (Nat.le_refl _) (Nat.le_refl _) rfl rfl (Nat.le_of_ble_eq_true rfl) (fun E9 h9 q9 => ?_) (fun v9 h9 q9 => ?_)
  · cases q9.2.2.2
  obtain ⟨hG, ⟨sa', ma', hC'⟩, ⟨f', hO', hf⟩, e9⟩ := q9
  cases e9
  have hM' : gm 43 h9 I A = h9 := gm_self (fun j hj => hG.2.2 _ _ (by omega) (by omega) (hM j hj))
  have hs' : h9.2.2 = sc := hG.2.1.trans hs
  have hle : 56 ≤ h9.1 := Nat.le_trans h56 hG.1
  rw [← hM']
  clear hscr
  have hscr : (gm 43 h9 I A).2.2 = sc := hs'
  have h_new8 : mw_g (gm 43 h9 I A) 43 = _ := gm_0
  refine mw_istore_5 dL_law_864 (by decide) ?_
  refine mw_aload_n (i := 2) dL_law_866 rfl rfl ?_
  refine mw_aload_n (i := 0) dL_law_867 rfl rfl ?_
  refine mw_iload (i := 4) dL_law_868 rfl ?_
  refine mw_iconst (v := 1) dL_law_870 (by decide) ?_
  refine mw_iadd dL_law_871 ?_
  refine mw_sldx dL_law_872 hscr (lx_1 hL hi) ?_
  refine mw_aload_n (i := 0) dL_law_873 rfl rfl ?_
  refine mw_iload (i := 4) dL_law_874 rfl ?_
  refine mw_iconst (v := 2) dL_law_876 (by decide) ?_
  refine mw_iadd dL_law_877 ?_
  refine mw_sldx dL_law_878 hscr (lx_2 hL hi) ?_
  refine mw_aload_n (i := 0) dL_law_879 rfl rfl ?_
  refine mw_iload (i := 4) dL_law_880 rfl ?_
  refine mw_iconst (v := 3) dL_law_882 (by decide) ?_
  refine mw_iadd dL_law_883 ?_
  refine mw_sldx dL_law_884 hscr (lx_3 hL hi) ?_
  refine mw_i2b dL_law_885 rfl ?_
  refine mw_callV dL_law_886 mk_L_164 h_new8 rfl (hr1 h9) (by decide) (Nat.le_refl _) (Nat.le_refl _) rfl rfl (Nat.le_of_ble_eq_true rfl) (fun E8 h8 q8 => ?_) (fun v8 h8 q8 => ?_)
  · cases q8.1
  obtain ⟨e7, I', A', rfl, h0, hr'⟩ := q8
  cases e7
  have h_new8 : mw_g (gm 43 h9 I' A') 43 = _ := gm_0
  have h_new17 := (gm_out (M := 43) (h := h9) (I := I') (A := A') (by decide)).trans hO'
  refine mw_istore_6 dL_law_889 (by decide) ?_
  refine mw_aload_n (i := 2) dL_law_891 rfl rfl ?_
  refine mw_callVr dL_law_892 mk_L_126 h_new8 rfl (c_thrown) (by decide) (Nat.le_refl _) (Nat.le_refl _) rfl rfl (Nat.le_of_ble_eq_true rfl) ?_
  rw [h0]
  by_cases e0 : a.1 = 0
  · have hf := hf e0
    refine mw_iload (i := 5) dL_law_895 rfl ?_
    refine mw_icmp_eq (tgt := 902) dL_law_897 (by decide) (fun _ => ?_) (fun c9 => absurd c9 (fun z => z rfl))
    refine mw_iload (i := 5) dL_law_902 rfl ?_
    refine mw_if_ne (tgt := 919) dL_law_904 (by decide) (fun c9 => absurd c9 (fun z => z e0)) (fun _ => ?_)
    refine mw_aload_n (i := 3) dL_law_907 rfl rfl ?_
    refine mw_iconst (v := 0) dL_law_908 (by decide) ?_
    refine mw_lald dL_law_909 h_new17 (mw_ix (j := 0) rfl (by decide) (by decide)) ?_
    rw [hf]
    refine mw_iload (i := 6) dL_law_910 rfl ?_
    refine mw_i2l dL_law_912 rfl ?_
    refine mw_lcmp dL_law_913 ?_
    rw [show a.2.1.toInt64 = cvI a.2.1 from rfl, lg_same]
    refine mw_if_eq (tgt := 919) dL_law_914 (by decide) (fun _ => ?_) (fun c9 => absurd c9 (by first | decide | (rw [pk_us]; decide)))
    refine mw_goto (tgt := 2131) dL_law_919 (by decide) ?_
    exact K _ _ _ _ (LI_mk hs' hle hC' hr' hO')
  · refine mw_iload (i := 5) dL_law_895 rfl ?_
    refine mw_icmp_eq (tgt := 902) dL_law_897 (by decide) (fun _ => ?_) (fun c9 => absurd c9 (fun z => z rfl))
    refine mw_iload (i := 5) dL_law_902 rfl ?_
    refine mw_if_ne (tgt := 919) dL_law_904 (by decide) (fun _ => ?_) (fun c9 => absurd c9 e0)
    refine mw_goto (tgt := 2131) dL_law_919 (by decide) ?_
    exact K _ _ _ _ (LI_mk hs' hle hC' hr' hO')
theorem lc_setPart (hL : sc.1 ≤ 2560) (hI : LI sc g H) (hi : i + 5 ≤ sc.1) (x5 x6 : Option Value) (K : ∀ (g' : mS) (H' : mw_H) (x5 x6 : Option Value), LI sc g' H' → mw_W mm_L_law 9 kc ks 2131 [some (.ref 0), some (.ref 1), some (.ref 43), some (.ref 55), some (.int (nI i)), x5, x6] [] H' Po) : mw_W mm_L_law 9 (kc + 5) (ks + 270) 922 [some (.ref 0), some (.ref 1), some (.ref 43), some (.ref 55), some (.int (nI i)), x5, x6] [] H Po := by
  obtain ⟨hs, h56, ⟨sa, ma, hC⟩, ⟨I, A, hr, hM⟩, f, hO⟩ := hI
  have hscr := hs
  have hw := w_setPart hC hO (sc.2 (i + 1)) (sc.2 (i + 2)) (sc.2 (i + 3))
  have hr1 := fun h => r_setPart (M := 43) (h := h) hr (sc.2 (i + 1)) (sc.2 (i + 2)) (sc.2 (i + 3))
  generalize sp_setPart g (sc.2 (i + 1)) (sc.2 (i + 2)) (sc.2 (i + 3)) = a at hw hr1
  refine mw_aload_n (i := 1) dL_law_922 rfl rfl ?_
  refine mw_aload_n (i := 0) dL_law_923 rfl rfl ?_
  refine mw_iload (i := 4) dL_law_924 rfl ?_
  refine mw_iconst (v := 1) dL_law_926 (by decide) ?_
  refine mw_iadd dL_law_927 ?_
  refine mw_sldx dL_law_928 hscr (lx_1 hL hi) ?_
  refine mw_aload_n (i := 0) dL_law_929 rfl rfl ?_
  refine mw_iload (i := 4) dL_law_930 rfl ?_
  refine mw_iconst (v := 2) dL_law_932 (by decide) ?_
  refine mw_iadd dL_law_933 ?_
  refine mw_sldx dL_law_934 hscr (lx_2 hL hi) ?_
  refine mw_aload_n (i := 0) dL_law_935 rfl rfl ?_
  refine mw_iload (i := 4) dL_law_936 rfl ?_
  refine mw_iconst (v := 3) dL_law_938 (by decide) ?_
  refine mw_iadd dL_law_939 ?_
  refine mw_sldx dL_law_940 hscr (lx_3 hL hi) ?_
  refine mw_aload_n (i := 3) dL_law_941 rfl rfl ?_
  refine mw_callSX dL_law_942 mk_L_165 (hw) (by decide) (Nat.le_refl _) (Nat.le_refl _) rfl rfl (Nat.le_of_ble_eq_true rfl) (fun E9 h9 q9 => ?_) (fun v9 h9 q9 => ?_)
  · cases q9.2.2.2
  obtain ⟨hG, ⟨sa', ma', hC'⟩, ⟨f', hO', hf⟩, e9⟩ := q9
  cases e9
  have hM' : gm 43 h9 I A = h9 := gm_self (fun j hj => hG.2.2 _ _ (by omega) (by omega) (hM j hj))
  have hs' : h9.2.2 = sc := hG.2.1.trans hs
  have hle : 56 ≤ h9.1 := Nat.le_trans h56 hG.1
  rw [← hM']
  clear hscr
  have hscr : (gm 43 h9 I A).2.2 = sc := hs'
  have h_new8 : mw_g (gm 43 h9 I A) 43 = _ := gm_0
  refine mw_istore_5 dL_law_945 (by decide) ?_
  refine mw_aload_n (i := 2) dL_law_947 rfl rfl ?_
  refine mw_aload_n (i := 0) dL_law_948 rfl rfl ?_
  refine mw_iload (i := 4) dL_law_949 rfl ?_
  refine mw_iconst (v := 1) dL_law_951 (by decide) ?_
  refine mw_iadd dL_law_952 ?_
  refine mw_sldx dL_law_953 hscr (lx_1 hL hi) ?_
  refine mw_aload_n (i := 0) dL_law_954 rfl rfl ?_
  refine mw_iload (i := 4) dL_law_955 rfl ?_
  refine mw_iconst (v := 2) dL_law_957 (by decide) ?_
  refine mw_iadd dL_law_958 ?_
  refine mw_sldx dL_law_959 hscr (lx_2 hL hi) ?_
  refine mw_aload_n (i := 0) dL_law_960 rfl rfl ?_
  refine mw_iload (i := 4) dL_law_961 rfl ?_
  refine mw_iconst (v := 3) dL_law_963 (by decide) ?_
  refine mw_iadd dL_law_964 ?_
  refine mw_sldx dL_law_965 hscr (lx_3 hL hi) ?_
  refine mw_callV dL_law_966 mk_L_167 h_new8 rfl (hr1 h9) (by decide) (Nat.le_refl _) (Nat.le_refl _) rfl rfl (Nat.le_of_ble_eq_true rfl) (fun E8 h8 q8 => ?_) (fun v8 h8 q8 => ?_)
  · cases q8.1
  obtain ⟨e7, I', A', rfl, h0, hr'⟩ := q8
  cases e7
  have h_new8 : mw_g (gm 43 h9 I' A') 43 = _ := gm_0
  have h_new17 := (gm_out (M := 43) (h := h9) (I := I') (A := A') (by decide)).trans hO'
  refine mw_istore_6 dL_law_969 (by decide) ?_
  refine mw_aload_n (i := 2) dL_law_971 rfl rfl ?_
  refine mw_callVr dL_law_972 mk_L_126 h_new8 rfl (c_thrown) (by decide) (Nat.le_refl _) (Nat.le_refl _) rfl rfl (Nat.le_of_ble_eq_true rfl) ?_
  rw [h0]
  by_cases e0 : a.1 = 0
  · have hf := hf e0
    refine mw_iload (i := 5) dL_law_975 rfl ?_
    refine mw_icmp_eq (tgt := 982) dL_law_977 (by decide) (fun _ => ?_) (fun c9 => absurd c9 (fun z => z rfl))
    refine mw_iload (i := 5) dL_law_982 rfl ?_
    refine mw_if_ne (tgt := 999) dL_law_984 (by decide) (fun c9 => absurd c9 (fun z => z e0)) (fun _ => ?_)
    refine mw_aload_n (i := 3) dL_law_987 rfl rfl ?_
    refine mw_iconst (v := 0) dL_law_988 (by decide) ?_
    refine mw_lald dL_law_989 h_new17 (mw_ix (j := 0) rfl (by decide) (by decide)) ?_
    rw [hf]
    refine mw_iload (i := 6) dL_law_990 rfl ?_
    refine mw_i2l dL_law_992 rfl ?_
    refine mw_lcmp dL_law_993 ?_
    rw [show a.2.1.toInt64 = cvI a.2.1 from rfl, lg_same]
    refine mw_if_eq (tgt := 999) dL_law_994 (by decide) (fun _ => ?_) (fun c9 => absurd c9 (by first | decide | (rw [pk_us]; decide)))
    refine mw_goto (tgt := 2131) dL_law_999 (by decide) ?_
    exact K _ _ _ _ (LI_mk hs' hle hC' hr' hO')
  · refine mw_iload (i := 5) dL_law_975 rfl ?_
    refine mw_icmp_eq (tgt := 982) dL_law_977 (by decide) (fun _ => ?_) (fun c9 => absurd c9 (fun z => z rfl))
    refine mw_iload (i := 5) dL_law_982 rfl ?_
    refine mw_if_ne (tgt := 999) dL_law_984 (by decide) (fun _ => ?_) (fun c9 => absurd c9 e0)
    refine mw_goto (tgt := 2131) dL_law_999 (by decide) ?_
    exact K _ _ _ _ (LI_mk hs' hle hC' hr' hO')
theorem lc_clear (hL : sc.1 ≤ 2560) (hI : LI sc g H) (hi : i + 5 ≤ sc.1) (x5 x6 : Option Value) (K : ∀ (g' : mS) (H' : mw_H) (x5 x6 : Option Value), LI sc g' H' → mw_W mm_L_law 9 kc ks 2131 [some (.ref 0), some (.ref 1), some (.ref 43), some (.ref 55), some (.int (nI i)), x5, x6] [] H' Po) : mw_W mm_L_law 9 (kc + 5) (ks + 270) 1002 [some (.ref 0), some (.ref 1), some (.ref 43), some (.ref 55), some (.int (nI i)), x5, x6] [] H Po := by
  obtain ⟨hs, h56, ⟨sa, ma, hC⟩, ⟨I, A, hr, hM⟩, f, hO⟩ := hI
  have hscr := hs
  have hw := w_clear hC hO (sc.2 (i + 1)) (sc.2 (i + 2))
  have hr1 := fun h => r_clear (M := 43) (h := h) hr (sc.2 (i + 1)) (sc.2 (i + 2))
  generalize sp_clear g (sc.2 (i + 1)) (sc.2 (i + 2)) = a at hw hr1
  refine mw_aload_n (i := 1) dL_law_1002 rfl rfl ?_
  refine mw_aload_n (i := 0) dL_law_1003 rfl rfl ?_
  refine mw_iload (i := 4) dL_law_1004 rfl ?_
  refine mw_iconst (v := 1) dL_law_1006 (by decide) ?_
  refine mw_iadd dL_law_1007 ?_
  refine mw_sldx dL_law_1008 hscr (lx_1 hL hi) ?_
  refine mw_aload_n (i := 0) dL_law_1009 rfl rfl ?_
  refine mw_iload (i := 4) dL_law_1010 rfl ?_
  refine mw_iconst (v := 2) dL_law_1012 (by decide) ?_
  refine mw_iadd dL_law_1013 ?_
  refine mw_sldx dL_law_1014 hscr (lx_2 hL hi) ?_
  refine mw_aload_n (i := 3) dL_law_1015 rfl rfl ?_
  refine mw_callSX dL_law_1016 mk_L_168 (hw) (by decide) (Nat.le_refl _) (Nat.le_refl _) rfl rfl (Nat.le_of_ble_eq_true rfl) (fun E9 h9 q9 => ?_) (fun v9 h9 q9 => ?_)
  · cases q9.2.2.2
  obtain ⟨hG, ⟨sa', ma', hC'⟩, ⟨f', hO', hf⟩, e9⟩ := q9
  cases e9
  have hM' : gm 43 h9 I A = h9 := gm_self (fun j hj => hG.2.2 _ _ (by omega) (by omega) (hM j hj))
  have hs' : h9.2.2 = sc := hG.2.1.trans hs
  have hle : 56 ≤ h9.1 := Nat.le_trans h56 hG.1
  rw [← hM']
  clear hscr
  have hscr : (gm 43 h9 I A).2.2 = sc := hs'
  have h_new8 : mw_g (gm 43 h9 I A) 43 = _ := gm_0
  refine mw_istore_5 dL_law_1019 (by decide) ?_
  refine mw_aload_n (i := 2) dL_law_1021 rfl rfl ?_
  refine mw_aload_n (i := 0) dL_law_1022 rfl rfl ?_
  refine mw_iload (i := 4) dL_law_1023 rfl ?_
  refine mw_iconst (v := 1) dL_law_1025 (by decide) ?_
  refine mw_iadd dL_law_1026 ?_
  refine mw_sldx dL_law_1027 hscr (lx_1 hL hi) ?_
  refine mw_aload_n (i := 0) dL_law_1028 rfl rfl ?_
  refine mw_iload (i := 4) dL_law_1029 rfl ?_
  refine mw_iconst (v := 2) dL_law_1031 (by decide) ?_
  refine mw_iadd dL_law_1032 ?_
  refine mw_sldx dL_law_1033 hscr (lx_2 hL hi) ?_
  refine mw_callV dL_law_1034 mk_L_170 h_new8 rfl (hr1 h9) (by decide) (Nat.le_refl _) (Nat.le_refl _) rfl rfl (Nat.le_of_ble_eq_true rfl) (fun E8 h8 q8 => ?_) (fun v8 h8 q8 => ?_)
  · cases q8.1
  obtain ⟨e7, I', A', rfl, h0, hr'⟩ := q8
  cases e7
  have h_new8 : mw_g (gm 43 h9 I' A') 43 = _ := gm_0
  have h_new17 := (gm_out (M := 43) (h := h9) (I := I') (A := A') (by decide)).trans hO'
  refine mw_istore_6 dL_law_1037 (by decide) ?_
  refine mw_aload_n (i := 2) dL_law_1039 rfl rfl ?_
  refine mw_callVr dL_law_1040 mk_L_126 h_new8 rfl (c_thrown) (by decide) (Nat.le_refl _) (Nat.le_refl _) rfl rfl (Nat.le_of_ble_eq_true rfl) ?_
  rw [h0]
  by_cases e0 : a.1 = 0
  · have hf := hf e0
    refine mw_iload (i := 5) dL_law_1043 rfl ?_
    refine mw_icmp_eq (tgt := 1050) dL_law_1045 (by decide) (fun _ => ?_) (fun c9 => absurd c9 (fun z => z rfl))
    refine mw_iload (i := 5) dL_law_1050 rfl ?_
    refine mw_if_ne (tgt := 1067) dL_law_1052 (by decide) (fun c9 => absurd c9 (fun z => z e0)) (fun _ => ?_)
    refine mw_aload_n (i := 3) dL_law_1055 rfl rfl ?_
    refine mw_iconst (v := 0) dL_law_1056 (by decide) ?_
    refine mw_lald dL_law_1057 h_new17 (mw_ix (j := 0) rfl (by decide) (by decide)) ?_
    rw [hf]
    refine mw_iload (i := 6) dL_law_1058 rfl ?_
    refine mw_i2l dL_law_1060 rfl ?_
    refine mw_lcmp dL_law_1061 ?_
    rw [show a.2.1.toInt64 = cvI a.2.1 from rfl, lg_same]
    refine mw_if_eq (tgt := 1067) dL_law_1062 (by decide) (fun _ => ?_) (fun c9 => absurd c9 (by first | decide | (rw [pk_us]; decide)))
    refine mw_goto (tgt := 2131) dL_law_1067 (by decide) ?_
    exact K _ _ _ _ (LI_mk hs' hle hC' hr' hO')
  · refine mw_iload (i := 5) dL_law_1043 rfl ?_
    refine mw_icmp_eq (tgt := 1050) dL_law_1045 (by decide) (fun _ => ?_) (fun c9 => absurd c9 (fun z => z rfl))
    refine mw_iload (i := 5) dL_law_1050 rfl ?_
    refine mw_if_ne (tgt := 1067) dL_law_1052 (by decide) (fun _ => ?_) (fun c9 => absurd c9 e0)
    refine mw_goto (tgt := 2131) dL_law_1067 (by decide) ?_
    exact K _ _ _ _ (LI_mk hs' hle hC' hr' hO')
theorem lc_schemaOf (hL : sc.1 ≤ 2560) (hI : LI sc g H) (hi : i + 5 ≤ sc.1) (x5 x6 : Option Value) (K : ∀ (g' : mS) (H' : mw_H) (x5 x6 : Option Value), LI sc g' H' → mw_W mm_L_law 9 kc ks 2131 [some (.ref 0), some (.ref 1), some (.ref 43), some (.ref 55), some (.int (nI i)), x5, x6] [] H' Po) : mw_W mm_L_law 9 (kc + 5) (ks + 270) 1070 [some (.ref 0), some (.ref 1), some (.ref 43), some (.ref 55), some (.int (nI i)), x5, x6] [] H Po := by
  obtain ⟨hs, h56, ⟨sa, ma, hC⟩, ⟨I, A, hr, hM⟩, f, hO⟩ := hI
  have hscr := hs
  have hw := w_schemaOf hC hO (sc.2 (i + 1))
  have hr1 := fun h => r_schemaOf (M := 43) (h := h) hr (sc.2 (i + 1))
  generalize sp_schemaOf g (sc.2 (i + 1)) = a at hw hr1
  refine mw_aload_n (i := 1) dL_law_1070 rfl rfl ?_
  refine mw_aload_n (i := 0) dL_law_1071 rfl rfl ?_
  refine mw_iload (i := 4) dL_law_1072 rfl ?_
  refine mw_iconst (v := 1) dL_law_1074 (by decide) ?_
  refine mw_iadd dL_law_1075 ?_
  refine mw_sldx dL_law_1076 hscr (lx_1 hL hi) ?_
  refine mw_aload_n (i := 3) dL_law_1077 rfl rfl ?_
  refine mw_callSX dL_law_1078 mk_L_171 (hw) (by decide) (Nat.le_refl _) (Nat.le_refl _) rfl rfl (Nat.le_of_ble_eq_true rfl) (fun E9 h9 q9 => ?_) (fun v9 h9 q9 => ?_)
  · cases q9.2.2.2
  obtain ⟨hG, ⟨sa', ma', hC'⟩, ⟨f', hO', hf⟩, e9⟩ := q9
  cases e9
  have hM' : gm 43 h9 I A = h9 := gm_self (fun j hj => hG.2.2 _ _ (by omega) (by omega) (hM j hj))
  have hs' : h9.2.2 = sc := hG.2.1.trans hs
  have hle : 56 ≤ h9.1 := Nat.le_trans h56 hG.1
  rw [← hM']
  clear hscr
  have hscr : (gm 43 h9 I A).2.2 = sc := hs'
  have h_new8 : mw_g (gm 43 h9 I A) 43 = _ := gm_0
  refine mw_istore_5 dL_law_1081 (by decide) ?_
  refine mw_aload_n (i := 2) dL_law_1083 rfl rfl ?_
  refine mw_aload_n (i := 0) dL_law_1084 rfl rfl ?_
  refine mw_iload (i := 4) dL_law_1085 rfl ?_
  refine mw_iconst (v := 1) dL_law_1087 (by decide) ?_
  refine mw_iadd dL_law_1088 ?_
  refine mw_sldx dL_law_1089 hscr (lx_1 hL hi) ?_
  refine mw_callV dL_law_1090 mk_L_173 h_new8 rfl (hr1 h9) (by decide) (Nat.le_refl _) (Nat.le_refl _) rfl rfl (Nat.le_of_ble_eq_true rfl) (fun E8 h8 q8 => ?_) (fun v8 h8 q8 => ?_)
  · cases q8.1
  obtain ⟨e7, I', A', rfl, h0, hr'⟩ := q8
  cases e7
  have h_new8 : mw_g (gm 43 h9 I' A') 43 = _ := gm_0
  have h_new17 := (gm_out (M := 43) (h := h9) (I := I') (A := A') (by decide)).trans hO'
  refine mw_istore_6 dL_law_1093 (by decide) ?_
  refine mw_aload_n (i := 2) dL_law_1095 rfl rfl ?_
  refine mw_callVr dL_law_1096 mk_L_126 h_new8 rfl (c_thrown) (by decide) (Nat.le_refl _) (Nat.le_refl _) rfl rfl (Nat.le_of_ble_eq_true rfl) ?_
  rw [h0]
  by_cases e0 : a.1 = 0
  · have hf := hf e0
    refine mw_iload (i := 5) dL_law_1099 rfl ?_
    refine mw_icmp_eq (tgt := 1106) dL_law_1101 (by decide) (fun _ => ?_) (fun c9 => absurd c9 (fun z => z rfl))
    refine mw_iload (i := 5) dL_law_1106 rfl ?_
    refine mw_if_ne (tgt := 1123) dL_law_1108 (by decide) (fun c9 => absurd c9 (fun z => z e0)) (fun _ => ?_)
    refine mw_aload_n (i := 3) dL_law_1111 rfl rfl ?_
    refine mw_iconst (v := 0) dL_law_1112 (by decide) ?_
    refine mw_lald dL_law_1113 h_new17 (mw_ix (j := 0) rfl (by decide) (by decide)) ?_
    rw [hf]
    refine mw_iload (i := 6) dL_law_1114 rfl ?_
    refine mw_i2l dL_law_1116 rfl ?_
    refine mw_lcmp dL_law_1117 ?_
    rw [show a.2.1.toInt64 = cvI a.2.1 from rfl, lg_same]
    refine mw_if_eq (tgt := 1123) dL_law_1118 (by decide) (fun _ => ?_) (fun c9 => absurd c9 (by first | decide | (rw [pk_us]; decide)))
    refine mw_goto (tgt := 2131) dL_law_1123 (by decide) ?_
    exact K _ _ _ _ (LI_mk hs' hle hC' hr' hO')
  · refine mw_iload (i := 5) dL_law_1099 rfl ?_
    refine mw_icmp_eq (tgt := 1106) dL_law_1101 (by decide) (fun _ => ?_) (fun c9 => absurd c9 (fun z => z rfl))
    refine mw_iload (i := 5) dL_law_1106 rfl ?_
    refine mw_if_ne (tgt := 1123) dL_law_1108 (by decide) (fun _ => ?_) (fun c9 => absurd c9 e0)
    refine mw_goto (tgt := 2131) dL_law_1123 (by decide) ?_
    exact K _ _ _ _ (LI_mk hs' hle hC' hr' hO')
theorem lc_has (hL : sc.1 ≤ 2560) (hI : LI sc g H) (hi : i + 5 ≤ sc.1) (x5 x6 : Option Value) (K : ∀ (g' : mS) (H' : mw_H) (x5 x6 : Option Value), LI sc g' H' → mw_W mm_L_law 9 kc ks 2131 [some (.ref 0), some (.ref 1), some (.ref 43), some (.ref 55), some (.int (nI i)), x5, x6] [] H' Po) : mw_W mm_L_law 9 (kc + 5) (ks + 270) 1126 [some (.ref 0), some (.ref 1), some (.ref 43), some (.ref 55), some (.int (nI i)), x5, x6] [] H Po := by
  obtain ⟨hs, h56, ⟨sa, ma, hC⟩, ⟨I, A, hr, hM⟩, f, hO⟩ := hI
  have hscr := hs
  have hw := w_has hC hO (sc.2 (i + 1)) (sc.2 (i + 2))
  have hr1 := fun h => r_has (M := 43) (h := h) hr (sc.2 (i + 1)) (sc.2 (i + 2))
  generalize sp_has g (sc.2 (i + 1)) (sc.2 (i + 2)) = a at hw hr1
  refine mw_aload_n (i := 1) dL_law_1126 rfl rfl ?_
  refine mw_aload_n (i := 0) dL_law_1127 rfl rfl ?_
  refine mw_iload (i := 4) dL_law_1128 rfl ?_
  refine mw_iconst (v := 1) dL_law_1130 (by decide) ?_
  refine mw_iadd dL_law_1131 ?_
  refine mw_sldx dL_law_1132 hscr (lx_1 hL hi) ?_
  refine mw_aload_n (i := 0) dL_law_1133 rfl rfl ?_
  refine mw_iload (i := 4) dL_law_1134 rfl ?_
  refine mw_iconst (v := 2) dL_law_1136 (by decide) ?_
  refine mw_iadd dL_law_1137 ?_
  refine mw_sldx dL_law_1138 hscr (lx_2 hL hi) ?_
  refine mw_aload_n (i := 3) dL_law_1139 rfl rfl ?_
  refine mw_callSX dL_law_1140 mk_L_174 (hw) (by decide) (Nat.le_refl _) (Nat.le_refl _) rfl rfl (Nat.le_of_ble_eq_true rfl) (fun E9 h9 q9 => ?_) (fun v9 h9 q9 => ?_)
  · cases q9.2.2.2
  obtain ⟨hG, ⟨sa', ma', hC'⟩, ⟨f', hO', hf⟩, e9⟩ := q9
  cases e9
  have hM' : gm 43 h9 I A = h9 := gm_self (fun j hj => hG.2.2 _ _ (by omega) (by omega) (hM j hj))
  have hs' : h9.2.2 = sc := hG.2.1.trans hs
  have hle : 56 ≤ h9.1 := Nat.le_trans h56 hG.1
  rw [← hM']
  clear hscr
  have hscr : (gm 43 h9 I A).2.2 = sc := hs'
  have h_new8 : mw_g (gm 43 h9 I A) 43 = _ := gm_0
  refine mw_istore_5 dL_law_1143 (by decide) ?_
  refine mw_aload_n (i := 2) dL_law_1145 rfl rfl ?_
  refine mw_aload_n (i := 0) dL_law_1146 rfl rfl ?_
  refine mw_iload (i := 4) dL_law_1147 rfl ?_
  refine mw_iconst (v := 1) dL_law_1149 (by decide) ?_
  refine mw_iadd dL_law_1150 ?_
  refine mw_sldx dL_law_1151 hscr (lx_1 hL hi) ?_
  refine mw_aload_n (i := 0) dL_law_1152 rfl rfl ?_
  refine mw_iload (i := 4) dL_law_1153 rfl ?_
  refine mw_iconst (v := 2) dL_law_1155 (by decide) ?_
  refine mw_iadd dL_law_1156 ?_
  refine mw_sldx dL_law_1157 hscr (lx_2 hL hi) ?_
  refine mw_callV dL_law_1158 mk_L_176 h_new8 rfl (hr1 h9) (by decide) (Nat.le_refl _) (Nat.le_refl _) rfl rfl (Nat.le_of_ble_eq_true rfl) (fun E8 h8 q8 => ?_) (fun v8 h8 q8 => ?_)
  · cases q8.1
  obtain ⟨e7, I', A', rfl, h0, hr'⟩ := q8
  cases e7
  have h_new8 : mw_g (gm 43 h9 I' A') 43 = _ := gm_0
  have h_new17 := (gm_out (M := 43) (h := h9) (I := I') (A := A') (by decide)).trans hO'
  refine mw_istore_6 dL_law_1161 (by decide) ?_
  refine mw_aload_n (i := 2) dL_law_1163 rfl rfl ?_
  refine mw_callVr dL_law_1164 mk_L_126 h_new8 rfl (c_thrown) (by decide) (Nat.le_refl _) (Nat.le_refl _) rfl rfl (Nat.le_of_ble_eq_true rfl) ?_
  rw [h0]
  by_cases e0 : a.1 = 0
  · have hf := hf e0
    refine mw_iload (i := 5) dL_law_1167 rfl ?_
    refine mw_icmp_eq (tgt := 1174) dL_law_1169 (by decide) (fun _ => ?_) (fun c9 => absurd c9 (fun z => z rfl))
    refine mw_iload (i := 5) dL_law_1174 rfl ?_
    refine mw_if_ne (tgt := 1198) dL_law_1176 (by decide) (fun c9 => absurd c9 (fun z => z e0)) (fun _ => ?_)
    refine mw_aload_n (i := 3) dL_law_1179 rfl rfl ?_
    refine mw_iconst (v := 0) dL_law_1180 (by decide) ?_
    refine mw_lald dL_law_1181 h_new17 (mw_ix (j := 0) rfl (by decide) (by decide)) ?_
    rw [hf]
    unfold cvZ
    by_cases ez : a.2.1 = 0
    · rw [if_pos ez]
      refine mw_iload (i := 6) dL_law_1182 rfl ?_
      refine mw_if_eq (tgt := 1191) dL_law_1184 (by decide) (fun _ => ?_) (fun c9 => absurd c9 (fun z => z ez))
      refine mw_lconst (v := 0) dL_law_1191 (by decide) ?_
      refine mw_lcmp dL_law_1192 ?_
      rw [lg_same]
      refine mw_if_eq (tgt := 1198) dL_law_1193 (by decide) (fun _ => ?_) (fun c9 => absurd c9 (by first | decide | (rw [pk_us]; decide)))
      refine mw_goto (tgt := 2131) dL_law_1198 (by decide) ?_
      exact K _ _ _ _ (LI_mk hs' hle hC' hr' hO')
    · rw [if_neg ez]
      refine mw_iload (i := 6) dL_law_1182 rfl ?_
      refine mw_if_eq (tgt := 1191) dL_law_1184 (by decide) (fun c9 => absurd c9 ez) (fun _ => ?_)
      refine mw_lconst (v := 1) dL_law_1187 (by decide) ?_
      refine mw_goto (tgt := 1192) dL_law_1188 (by decide) ?_
      refine mw_lcmp dL_law_1192 ?_
      rw [lg_same]
      refine mw_if_eq (tgt := 1198) dL_law_1193 (by decide) (fun _ => ?_) (fun c9 => absurd c9 (by first | decide | (rw [pk_us]; decide)))
      refine mw_goto (tgt := 2131) dL_law_1198 (by decide) ?_
      exact K _ _ _ _ (LI_mk hs' hle hC' hr' hO')
  · refine mw_iload (i := 5) dL_law_1167 rfl ?_
    refine mw_icmp_eq (tgt := 1174) dL_law_1169 (by decide) (fun _ => ?_) (fun c9 => absurd c9 (fun z => z rfl))
    refine mw_iload (i := 5) dL_law_1174 rfl ?_
    refine mw_if_ne (tgt := 1198) dL_law_1176 (by decide) (fun _ => ?_) (fun c9 => absurd c9 e0)
    refine mw_goto (tgt := 2131) dL_law_1198 (by decide) ?_
    exact K _ _ _ _ (LI_mk hs' hle hC' hr' hO')
theorem lc_get (hL : sc.1 ≤ 2560) (hI : LI sc g H) (hi : i + 5 ≤ sc.1) (x5 x6 : Option Value) (K : ∀ (g' : mS) (H' : mw_H) (x5 x6 : Option Value), LI sc g' H' → mw_W mm_L_law 9 kc ks 2131 [some (.ref 0), some (.ref 1), some (.ref 43), some (.ref 55), some (.int (nI i)), x5, x6] [] H' Po) : mw_W mm_L_law 9 (kc + 5) (ks + 270) 1201 [some (.ref 0), some (.ref 1), some (.ref 43), some (.ref 55), some (.int (nI i)), x5, x6] [] H Po := by
  obtain ⟨hs, h56, ⟨sa, ma, hC⟩, ⟨I, A, hr, hM⟩, f, hO⟩ := hI
  have hscr := hs
  have hw := w_get hC hO (sc.2 (i + 1)) (sc.2 (i + 2))
  have hr1 := fun h => r_get (M := 43) (h := h) hr (sc.2 (i + 1)) (sc.2 (i + 2))
  generalize sp_get g (sc.2 (i + 1)) (sc.2 (i + 2)) = a at hw hr1
  refine mw_aload_n (i := 1) dL_law_1201 rfl rfl ?_
  refine mw_aload_n (i := 0) dL_law_1202 rfl rfl ?_
  refine mw_iload (i := 4) dL_law_1203 rfl ?_
  refine mw_iconst (v := 1) dL_law_1205 (by decide) ?_
  refine mw_iadd dL_law_1206 ?_
  refine mw_sldx dL_law_1207 hscr (lx_1 hL hi) ?_
  refine mw_aload_n (i := 0) dL_law_1208 rfl rfl ?_
  refine mw_iload (i := 4) dL_law_1209 rfl ?_
  refine mw_iconst (v := 2) dL_law_1211 (by decide) ?_
  refine mw_iadd dL_law_1212 ?_
  refine mw_sldx dL_law_1213 hscr (lx_2 hL hi) ?_
  refine mw_aload_n (i := 3) dL_law_1214 rfl rfl ?_
  refine mw_callSX dL_law_1215 mk_L_177 (hw) (by decide) (Nat.le_refl _) (Nat.le_refl _) rfl rfl (Nat.le_of_ble_eq_true rfl) (fun E9 h9 q9 => ?_) (fun v9 h9 q9 => ?_)
  · cases q9.2.2.2
  obtain ⟨hG, ⟨sa', ma', hC'⟩, ⟨f', hO', hf⟩, e9⟩ := q9
  cases e9
  have hM' : gm 43 h9 I A = h9 := gm_self (fun j hj => hG.2.2 _ _ (by omega) (by omega) (hM j hj))
  have hs' : h9.2.2 = sc := hG.2.1.trans hs
  have hle : 56 ≤ h9.1 := Nat.le_trans h56 hG.1
  rw [← hM']
  clear hscr
  have hscr : (gm 43 h9 I A).2.2 = sc := hs'
  have h_new8 : mw_g (gm 43 h9 I A) 43 = _ := gm_0
  refine mw_istore_5 dL_law_1218 (by decide) ?_
  refine mw_aload_n (i := 2) dL_law_1220 rfl rfl ?_
  refine mw_aload_n (i := 0) dL_law_1221 rfl rfl ?_
  refine mw_iload (i := 4) dL_law_1222 rfl ?_
  refine mw_iconst (v := 1) dL_law_1224 (by decide) ?_
  refine mw_iadd dL_law_1225 ?_
  refine mw_sldx dL_law_1226 hscr (lx_1 hL hi) ?_
  refine mw_aload_n (i := 0) dL_law_1227 rfl rfl ?_
  refine mw_iload (i := 4) dL_law_1228 rfl ?_
  refine mw_iconst (v := 2) dL_law_1230 (by decide) ?_
  refine mw_iadd dL_law_1231 ?_
  refine mw_sldx dL_law_1232 hscr (lx_2 hL hi) ?_
  refine mw_callV dL_law_1233 mk_L_179 h_new8 rfl (hr1 h9) (by decide) (Nat.le_refl _) (Nat.le_refl _) rfl rfl (Nat.le_of_ble_eq_true rfl) (fun E8 h8 q8 => ?_) (fun v8 h8 q8 => ?_)
  · cases q8.1
  obtain ⟨e7, I', A', rfl, h0, hr'⟩ := q8
  cases e7
  have h_new8 : mw_g (gm 43 h9 I' A') 43 = _ := gm_0
  have h_new17 := (gm_out (M := 43) (h := h9) (I := I') (A := A') (by decide)).trans hO'
  refine mw_istore_6 dL_law_1236 (by decide) ?_
  refine mw_aload_n (i := 2) dL_law_1238 rfl rfl ?_
  refine mw_callVr dL_law_1239 mk_L_126 h_new8 rfl (c_thrown) (by decide) (Nat.le_refl _) (Nat.le_refl _) rfl rfl (Nat.le_of_ble_eq_true rfl) ?_
  rw [h0]
  by_cases e0 : a.1 = 0
  · have hf := hf e0
    refine mw_iload (i := 5) dL_law_1242 rfl ?_
    refine mw_icmp_eq (tgt := 1249) dL_law_1244 (by decide) (fun _ => ?_) (fun c9 => absurd c9 (fun z => z rfl))
    refine mw_iload (i := 5) dL_law_1249 rfl ?_
    refine mw_if_ne (tgt := 1266) dL_law_1251 (by decide) (fun c9 => absurd c9 (fun z => z e0)) (fun _ => ?_)
    refine mw_aload_n (i := 3) dL_law_1254 rfl rfl ?_
    refine mw_iconst (v := 0) dL_law_1255 (by decide) ?_
    refine mw_lald dL_law_1256 h_new17 (mw_ix (j := 0) rfl (by decide) (by decide)) ?_
    rw [hf]
    refine mw_iload (i := 6) dL_law_1257 rfl ?_
    refine mw_i2l dL_law_1259 rfl ?_
    refine mw_lcmp dL_law_1260 ?_
    rw [show a.2.1.toInt64 = cvI a.2.1 from rfl, lg_same]
    refine mw_if_eq (tgt := 1266) dL_law_1261 (by decide) (fun _ => ?_) (fun c9 => absurd c9 (by first | decide | (rw [pk_us]; decide)))
    refine mw_goto (tgt := 2131) dL_law_1266 (by decide) ?_
    exact K _ _ _ _ (LI_mk hs' hle hC' hr' hO')
  · refine mw_iload (i := 5) dL_law_1242 rfl ?_
    refine mw_icmp_eq (tgt := 1249) dL_law_1244 (by decide) (fun _ => ?_) (fun c9 => absurd c9 (fun z => z rfl))
    refine mw_iload (i := 5) dL_law_1249 rfl ?_
    refine mw_if_ne (tgt := 1266) dL_law_1251 (by decide) (fun _ => ?_) (fun c9 => absurd c9 e0)
    refine mw_goto (tgt := 2131) dL_law_1266 (by decide) ?_
    exact K _ _ _ _ (LI_mk hs' hle hC' hr' hO')
theorem lc_byteOf (hL : sc.1 ≤ 2560) (hI : LI sc g H) (hi : i + 5 ≤ sc.1) (x5 x6 : Option Value) (K : ∀ (g' : mS) (H' : mw_H) (x5 x6 : Option Value), LI sc g' H' → mw_W mm_L_law 9 kc ks 2131 [some (.ref 0), some (.ref 1), some (.ref 43), some (.ref 55), some (.int (nI i)), x5, x6] [] H' Po) : mw_W mm_L_law 9 (kc + 5) (ks + 270) 1269 [some (.ref 0), some (.ref 1), some (.ref 43), some (.ref 55), some (.int (nI i)), x5, x6] [] H Po := by
  obtain ⟨hs, h56, ⟨sa, ma, hC⟩, ⟨I, A, hr, hM⟩, f, hO⟩ := hI
  have hscr := hs
  have hw := w_byteOf hC hO (sc.2 (i + 1)) (sc.2 (i + 2)) (sc.2 (i + 3))
  have hr1 := fun h => r_byteOf (M := 43) (h := h) hr (sc.2 (i + 1)) (sc.2 (i + 2)) (sc.2 (i + 3))
  generalize sp_byteOf g (sc.2 (i + 1)) (sc.2 (i + 2)) (sc.2 (i + 3)) = a at hw hr1
  refine mw_aload_n (i := 1) dL_law_1269 rfl rfl ?_
  refine mw_aload_n (i := 0) dL_law_1270 rfl rfl ?_
  refine mw_iload (i := 4) dL_law_1271 rfl ?_
  refine mw_iconst (v := 1) dL_law_1273 (by decide) ?_
  refine mw_iadd dL_law_1274 ?_
  refine mw_sldx dL_law_1275 hscr (lx_1 hL hi) ?_
  refine mw_aload_n (i := 0) dL_law_1276 rfl rfl ?_
  refine mw_iload (i := 4) dL_law_1277 rfl ?_
  refine mw_iconst (v := 2) dL_law_1279 (by decide) ?_
  refine mw_iadd dL_law_1280 ?_
  refine mw_sldx dL_law_1281 hscr (lx_2 hL hi) ?_
  refine mw_aload_n (i := 0) dL_law_1282 rfl rfl ?_
  refine mw_iload (i := 4) dL_law_1283 rfl ?_
  refine mw_iconst (v := 3) dL_law_1285 (by decide) ?_
  refine mw_iadd dL_law_1286 ?_
  refine mw_sldx dL_law_1287 hscr (lx_3 hL hi) ?_
  refine mw_aload_n (i := 3) dL_law_1288 rfl rfl ?_
  refine mw_callSX dL_law_1289 mk_L_180 (hw) (by decide) (Nat.le_refl _) (Nat.le_refl _) rfl rfl (Nat.le_of_ble_eq_true rfl) (fun E9 h9 q9 => ?_) (fun v9 h9 q9 => ?_)
  · cases q9.2.2.2
  obtain ⟨hG, ⟨sa', ma', hC'⟩, ⟨f', hO', hf⟩, e9⟩ := q9
  cases e9
  have hM' : gm 43 h9 I A = h9 := gm_self (fun j hj => hG.2.2 _ _ (by omega) (by omega) (hM j hj))
  have hs' : h9.2.2 = sc := hG.2.1.trans hs
  have hle : 56 ≤ h9.1 := Nat.le_trans h56 hG.1
  rw [← hM']
  clear hscr
  have hscr : (gm 43 h9 I A).2.2 = sc := hs'
  have h_new8 : mw_g (gm 43 h9 I A) 43 = _ := gm_0
  refine mw_istore_5 dL_law_1292 (by decide) ?_
  refine mw_aload_n (i := 2) dL_law_1294 rfl rfl ?_
  refine mw_aload_n (i := 0) dL_law_1295 rfl rfl ?_
  refine mw_iload (i := 4) dL_law_1296 rfl ?_
  refine mw_iconst (v := 1) dL_law_1298 (by decide) ?_
  refine mw_iadd dL_law_1299 ?_
  refine mw_sldx dL_law_1300 hscr (lx_1 hL hi) ?_
  refine mw_aload_n (i := 0) dL_law_1301 rfl rfl ?_
  refine mw_iload (i := 4) dL_law_1302 rfl ?_
  refine mw_iconst (v := 2) dL_law_1304 (by decide) ?_
  refine mw_iadd dL_law_1305 ?_
  refine mw_sldx dL_law_1306 hscr (lx_2 hL hi) ?_
  refine mw_aload_n (i := 0) dL_law_1307 rfl rfl ?_
  refine mw_iload (i := 4) dL_law_1308 rfl ?_
  refine mw_iconst (v := 3) dL_law_1310 (by decide) ?_
  refine mw_iadd dL_law_1311 ?_
  refine mw_sldx dL_law_1312 hscr (lx_3 hL hi) ?_
  refine mw_callV dL_law_1313 mk_L_182 h_new8 rfl (hr1 h9) (by decide) (Nat.le_refl _) (Nat.le_refl _) rfl rfl (Nat.le_of_ble_eq_true rfl) (fun E8 h8 q8 => ?_) (fun v8 h8 q8 => ?_)
  · cases q8.1
  obtain ⟨e7, I', A', rfl, h0, hr'⟩ := q8
  cases e7
  have h_new8 : mw_g (gm 43 h9 I' A') 43 = _ := gm_0
  have h_new17 := (gm_out (M := 43) (h := h9) (I := I') (A := A') (by decide)).trans hO'
  refine mw_istore_6 dL_law_1316 (by decide) ?_
  refine mw_aload_n (i := 2) dL_law_1318 rfl rfl ?_
  refine mw_callVr dL_law_1319 mk_L_126 h_new8 rfl (c_thrown) (by decide) (Nat.le_refl _) (Nat.le_refl _) rfl rfl (Nat.le_of_ble_eq_true rfl) ?_
  rw [h0]
  by_cases e0 : a.1 = 0
  · have hf := hf e0
    refine mw_iload (i := 5) dL_law_1322 rfl ?_
    refine mw_icmp_eq (tgt := 1329) dL_law_1324 (by decide) (fun _ => ?_) (fun c9 => absurd c9 (fun z => z rfl))
    refine mw_iload (i := 5) dL_law_1329 rfl ?_
    refine mw_if_ne (tgt := 1346) dL_law_1331 (by decide) (fun c9 => absurd c9 (fun z => z e0)) (fun _ => ?_)
    refine mw_aload_n (i := 3) dL_law_1334 rfl rfl ?_
    refine mw_iconst (v := 0) dL_law_1335 (by decide) ?_
    refine mw_lald dL_law_1336 h_new17 (mw_ix (j := 0) rfl (by decide) (by decide)) ?_
    rw [hf]
    refine mw_iload (i := 6) dL_law_1337 rfl ?_
    refine mw_i2l dL_law_1339 rfl ?_
    refine mw_lcmp dL_law_1340 ?_
    rw [show a.2.1.toInt64 = cvI a.2.1 from rfl, lg_same]
    refine mw_if_eq (tgt := 1346) dL_law_1341 (by decide) (fun _ => ?_) (fun c9 => absurd c9 (by first | decide | (rw [pk_us]; decide)))
    refine mw_goto (tgt := 2131) dL_law_1346 (by decide) ?_
    exact K _ _ _ _ (LI_mk hs' hle hC' hr' hO')
  · refine mw_iload (i := 5) dL_law_1322 rfl ?_
    refine mw_icmp_eq (tgt := 1329) dL_law_1324 (by decide) (fun _ => ?_) (fun c9 => absurd c9 (fun z => z rfl))
    refine mw_iload (i := 5) dL_law_1329 rfl ?_
    refine mw_if_ne (tgt := 1346) dL_law_1331 (by decide) (fun _ => ?_) (fun c9 => absurd c9 e0)
    refine mw_goto (tgt := 2131) dL_law_1346 (by decide) ?_
    exact K _ _ _ _ (LI_mk hs' hle hC' hr' hO')
theorem lc_open (hL : sc.1 ≤ 2560) (hI : LI sc g H) (hi : i + 5 ≤ sc.1) (x5 x6 : Option Value) (K : ∀ (g' : mS) (H' : mw_H) (x5 x6 : Option Value), LI sc g' H' → mw_W mm_L_law 9 kc ks 2131 [some (.ref 0), some (.ref 1), some (.ref 43), some (.ref 55), some (.int (nI i)), x5, x6] [] H' Po) : mw_W mm_L_law 9 (kc + 5) (ks + 270) 1349 [some (.ref 0), some (.ref 1), some (.ref 43), some (.ref 55), some (.int (nI i)), x5, x6] [] H Po := by
  obtain ⟨hs, h56, ⟨sa, ma, hC⟩, ⟨I, A, hr, hM⟩, f, hO⟩ := hI
  have hscr := hs
  have hw := w_open hC h56 hO (sc.2 (i + 1)) (sc.2 (i + 2))
  have hr1 := fun h => r_open (M := 43) (h := h) hr (sc.2 (i + 1)) (sc.2 (i + 2))
  generalize sp_open g (sc.2 (i + 1)) (sc.2 (i + 2)) = a at hw hr1
  refine mw_aload_n (i := 1) dL_law_1349 rfl rfl ?_
  refine mw_aload_n (i := 0) dL_law_1350 rfl rfl ?_
  refine mw_iload (i := 4) dL_law_1351 rfl ?_
  refine mw_iconst (v := 1) dL_law_1353 (by decide) ?_
  refine mw_iadd dL_law_1354 ?_
  refine mw_sldx dL_law_1355 hscr (lx_1 hL hi) ?_
  refine mw_aload_n (i := 0) dL_law_1356 rfl rfl ?_
  refine mw_iload (i := 4) dL_law_1357 rfl ?_
  refine mw_iconst (v := 2) dL_law_1359 (by decide) ?_
  refine mw_iadd dL_law_1360 ?_
  refine mw_sldx dL_law_1361 hscr (lx_2 hL hi) ?_
  refine mw_aload_n (i := 3) dL_law_1362 rfl rfl ?_
  refine mw_callSX dL_law_1363 mk_L_183 (hw) (by decide) (Nat.le_refl _) (Nat.le_refl _) rfl rfl (Nat.le_of_ble_eq_true rfl) (fun E9 h9 q9 => ?_) (fun v9 h9 q9 => ?_)
  · cases q9.2.2.2
  obtain ⟨hG, ⟨sa', ma', hC'⟩, ⟨f', hO', hf⟩, e9⟩ := q9
  cases e9
  have hM' : gm 43 h9 I A = h9 := gm_self (fun j hj => hG.2.2 _ _ (by omega) (by omega) (hM j hj))
  have hs' : h9.2.2 = sc := hG.2.1.trans hs
  have hle : 56 ≤ h9.1 := Nat.le_trans h56 hG.1
  rw [← hM']
  clear hscr
  have hscr : (gm 43 h9 I A).2.2 = sc := hs'
  have h_new8 : mw_g (gm 43 h9 I A) 43 = _ := gm_0
  refine mw_istore_5 dL_law_1366 (by decide) ?_
  refine mw_aload_n (i := 2) dL_law_1368 rfl rfl ?_
  refine mw_aload_n (i := 0) dL_law_1369 rfl rfl ?_
  refine mw_iload (i := 4) dL_law_1370 rfl ?_
  refine mw_iconst (v := 1) dL_law_1372 (by decide) ?_
  refine mw_iadd dL_law_1373 ?_
  refine mw_sldx dL_law_1374 hscr (lx_1 hL hi) ?_
  refine mw_aload_n (i := 0) dL_law_1375 rfl rfl ?_
  refine mw_iload (i := 4) dL_law_1376 rfl ?_
  refine mw_iconst (v := 2) dL_law_1378 (by decide) ?_
  refine mw_iadd dL_law_1379 ?_
  refine mw_sldx dL_law_1380 hscr (lx_2 hL hi) ?_
  refine mw_callV dL_law_1381 mk_L_185 h_new8 rfl (hr1 h9) (by decide) (Nat.le_refl _) (Nat.le_refl _) rfl rfl (Nat.le_of_ble_eq_true rfl) (fun E8 h8 q8 => ?_) (fun v8 h8 q8 => ?_)
  · cases q8.1
  obtain ⟨e7, I', A', rfl, h0, hr'⟩ := q8
  cases e7
  have h_new8 : mw_g (gm 43 h9 I' A') 43 = _ := gm_0
  have h_new17 := (gm_out (M := 43) (h := h9) (I := I') (A := A') (by decide)).trans hO'
  refine mw_istore_6 dL_law_1384 (by decide) ?_
  refine mw_aload_n (i := 2) dL_law_1386 rfl rfl ?_
  refine mw_callVr dL_law_1387 mk_L_126 h_new8 rfl (c_thrown) (by decide) (Nat.le_refl _) (Nat.le_refl _) rfl rfl (Nat.le_of_ble_eq_true rfl) ?_
  rw [h0]
  by_cases e0 : a.1 = 0
  · have hf := hf e0
    refine mw_iload (i := 5) dL_law_1390 rfl ?_
    refine mw_icmp_eq (tgt := 1397) dL_law_1392 (by decide) (fun _ => ?_) (fun c9 => absurd c9 (fun z => z rfl))
    refine mw_iload (i := 5) dL_law_1397 rfl ?_
    refine mw_if_ne (tgt := 1414) dL_law_1399 (by decide) (fun c9 => absurd c9 (fun z => z e0)) (fun _ => ?_)
    refine mw_aload_n (i := 3) dL_law_1402 rfl rfl ?_
    refine mw_iconst (v := 0) dL_law_1403 (by decide) ?_
    refine mw_lald dL_law_1404 h_new17 (mw_ix (j := 0) rfl (by decide) (by decide)) ?_
    rw [hf]
    refine mw_iload (i := 6) dL_law_1405 rfl ?_
    refine mw_i2l dL_law_1407 rfl ?_
    refine mw_lcmp dL_law_1408 ?_
    rw [show a.2.1.toInt64 = cvI a.2.1 from rfl, lg_same]
    refine mw_if_eq (tgt := 1414) dL_law_1409 (by decide) (fun _ => ?_) (fun c9 => absurd c9 (by first | decide | (rw [pk_us]; decide)))
    refine mw_goto (tgt := 2131) dL_law_1414 (by decide) ?_
    exact K _ _ _ _ (LI_mk hs' hle hC' hr' hO')
  · refine mw_iload (i := 5) dL_law_1390 rfl ?_
    refine mw_icmp_eq (tgt := 1397) dL_law_1392 (by decide) (fun _ => ?_) (fun c9 => absurd c9 (fun z => z rfl))
    refine mw_iload (i := 5) dL_law_1397 rfl ?_
    refine mw_if_ne (tgt := 1414) dL_law_1399 (by decide) (fun _ => ?_) (fun c9 => absurd c9 e0)
    refine mw_goto (tgt := 2131) dL_law_1414 (by decide) ?_
    exact K _ _ _ _ (LI_mk hs' hle hC' hr' hO')
theorem lc_unknowns (hL : sc.1 ≤ 2560) (hI : LI sc g H) (hi : i + 5 ≤ sc.1) (x5 x6 : Option Value) (K : ∀ (g' : mS) (H' : mw_H) (x5 x6 : Option Value), LI sc g' H' → mw_W mm_L_law 9 kc ks 2131 [some (.ref 0), some (.ref 1), some (.ref 43), some (.ref 55), some (.int (nI i)), x5, x6] [] H' Po) : mw_W mm_L_law 9 (kc + 5) (ks + 270) 1417 [some (.ref 0), some (.ref 1), some (.ref 43), some (.ref 55), some (.int (nI i)), x5, x6] [] H Po := by
  obtain ⟨hs, h56, ⟨sa, ma, hC⟩, ⟨I, A, hr, hM⟩, f, hO⟩ := hI
  have hscr := hs
  have hw := w_unknowns hC hO (sc.2 (i + 1))
  have hr1 := fun h => r_unknowns (M := 43) (h := h) hr (sc.2 (i + 1))
  generalize sp_unknowns g (sc.2 (i + 1)) = a at hw hr1
  refine mw_aload_n (i := 1) dL_law_1417 rfl rfl ?_
  refine mw_aload_n (i := 0) dL_law_1418 rfl rfl ?_
  refine mw_iload (i := 4) dL_law_1419 rfl ?_
  refine mw_iconst (v := 1) dL_law_1421 (by decide) ?_
  refine mw_iadd dL_law_1422 ?_
  refine mw_sldx dL_law_1423 hscr (lx_1 hL hi) ?_
  refine mw_aload_n (i := 3) dL_law_1424 rfl rfl ?_
  refine mw_callSX dL_law_1425 mk_L_186 (hw) (by decide) (Nat.le_refl _) (Nat.le_refl _) rfl rfl (Nat.le_of_ble_eq_true rfl) (fun E9 h9 q9 => ?_) (fun v9 h9 q9 => ?_)
  · cases q9.2.2.2
  obtain ⟨hG, ⟨sa', ma', hC'⟩, ⟨f', hO', hf⟩, e9⟩ := q9
  cases e9
  have hM' : gm 43 h9 I A = h9 := gm_self (fun j hj => hG.2.2 _ _ (by omega) (by omega) (hM j hj))
  have hs' : h9.2.2 = sc := hG.2.1.trans hs
  have hle : 56 ≤ h9.1 := Nat.le_trans h56 hG.1
  rw [← hM']
  clear hscr
  have hscr : (gm 43 h9 I A).2.2 = sc := hs'
  have h_new8 : mw_g (gm 43 h9 I A) 43 = _ := gm_0
  refine mw_istore_5 dL_law_1428 (by decide) ?_
  refine mw_aload_n (i := 2) dL_law_1430 rfl rfl ?_
  refine mw_aload_n (i := 0) dL_law_1431 rfl rfl ?_
  refine mw_iload (i := 4) dL_law_1432 rfl ?_
  refine mw_iconst (v := 1) dL_law_1434 (by decide) ?_
  refine mw_iadd dL_law_1435 ?_
  refine mw_sldx dL_law_1436 hscr (lx_1 hL hi) ?_
  refine mw_callV dL_law_1437 mk_L_188 h_new8 rfl (hr1 h9) (by decide) (Nat.le_refl _) (Nat.le_refl _) rfl rfl (Nat.le_of_ble_eq_true rfl) (fun E8 h8 q8 => ?_) (fun v8 h8 q8 => ?_)
  · cases q8.1
  obtain ⟨e7, I', A', rfl, h0, hr'⟩ := q8
  cases e7
  have h_new8 : mw_g (gm 43 h9 I' A') 43 = _ := gm_0
  have h_new17 := (gm_out (M := 43) (h := h9) (I := I') (A := A') (by decide)).trans hO'
  refine mw_istore_6 dL_law_1440 (by decide) ?_
  refine mw_aload_n (i := 2) dL_law_1442 rfl rfl ?_
  refine mw_callVr dL_law_1443 mk_L_126 h_new8 rfl (c_thrown) (by decide) (Nat.le_refl _) (Nat.le_refl _) rfl rfl (Nat.le_of_ble_eq_true rfl) ?_
  rw [h0]
  by_cases e0 : a.1 = 0
  · have hf := hf e0
    refine mw_iload (i := 5) dL_law_1446 rfl ?_
    refine mw_icmp_eq (tgt := 1453) dL_law_1448 (by decide) (fun _ => ?_) (fun c9 => absurd c9 (fun z => z rfl))
    refine mw_iload (i := 5) dL_law_1453 rfl ?_
    refine mw_if_ne (tgt := 1470) dL_law_1455 (by decide) (fun c9 => absurd c9 (fun z => z e0)) (fun _ => ?_)
    refine mw_aload_n (i := 3) dL_law_1458 rfl rfl ?_
    refine mw_iconst (v := 0) dL_law_1459 (by decide) ?_
    refine mw_lald dL_law_1460 h_new17 (mw_ix (j := 0) rfl (by decide) (by decide)) ?_
    rw [hf]
    refine mw_iload (i := 6) dL_law_1461 rfl ?_
    refine mw_i2l dL_law_1463 rfl ?_
    refine mw_lcmp dL_law_1464 ?_
    rw [show a.2.1.toInt64 = cvI a.2.1 from rfl, lg_same]
    refine mw_if_eq (tgt := 1470) dL_law_1465 (by decide) (fun _ => ?_) (fun c9 => absurd c9 (by first | decide | (rw [pk_us]; decide)))
    refine mw_goto (tgt := 2131) dL_law_1470 (by decide) ?_
    exact K _ _ _ _ (LI_mk hs' hle hC' hr' hO')
  · refine mw_iload (i := 5) dL_law_1446 rfl ?_
    refine mw_icmp_eq (tgt := 1453) dL_law_1448 (by decide) (fun _ => ?_) (fun c9 => absurd c9 (fun z => z rfl))
    refine mw_iload (i := 5) dL_law_1453 rfl ?_
    refine mw_if_ne (tgt := 1470) dL_law_1455 (by decide) (fun _ => ?_) (fun c9 => absurd c9 e0)
    refine mw_goto (tgt := 2131) dL_law_1470 (by decide) ?_
    exact K _ _ _ _ (LI_mk hs' hle hC' hr' hO')
theorem lc_unknownTag (hL : sc.1 ≤ 2560) (hI : LI sc g H) (hi : i + 5 ≤ sc.1) (x5 x6 : Option Value) (K : ∀ (g' : mS) (H' : mw_H) (x5 x6 : Option Value), LI sc g' H' → mw_W mm_L_law 9 kc ks 2131 [some (.ref 0), some (.ref 1), some (.ref 43), some (.ref 55), some (.int (nI i)), x5, x6] [] H' Po) : mw_W mm_L_law 9 (kc + 5) (ks + 270) 1473 [some (.ref 0), some (.ref 1), some (.ref 43), some (.ref 55), some (.int (nI i)), x5, x6] [] H Po := by
  obtain ⟨hs, h56, ⟨sa, ma, hC⟩, ⟨I, A, hr, hM⟩, f, hO⟩ := hI
  have hscr := hs
  have hw := w_unknownTag hC hO (sc.2 (i + 1)) (sc.2 (i + 2))
  have hr1 := fun h => r_unknownTag (M := 43) (h := h) hr (sc.2 (i + 1)) (sc.2 (i + 2))
  generalize sp_unknownTag g (sc.2 (i + 1)) (sc.2 (i + 2)) = a at hw hr1
  refine mw_aload_n (i := 1) dL_law_1473 rfl rfl ?_
  refine mw_aload_n (i := 0) dL_law_1474 rfl rfl ?_
  refine mw_iload (i := 4) dL_law_1475 rfl ?_
  refine mw_iconst (v := 1) dL_law_1477 (by decide) ?_
  refine mw_iadd dL_law_1478 ?_
  refine mw_sldx dL_law_1479 hscr (lx_1 hL hi) ?_
  refine mw_aload_n (i := 0) dL_law_1480 rfl rfl ?_
  refine mw_iload (i := 4) dL_law_1481 rfl ?_
  refine mw_iconst (v := 2) dL_law_1483 (by decide) ?_
  refine mw_iadd dL_law_1484 ?_
  refine mw_sldx dL_law_1485 hscr (lx_2 hL hi) ?_
  refine mw_aload_n (i := 3) dL_law_1486 rfl rfl ?_
  refine mw_callSX dL_law_1487 mk_L_189 (hw) (by decide) (Nat.le_refl _) (Nat.le_refl _) rfl rfl (Nat.le_of_ble_eq_true rfl) (fun E9 h9 q9 => ?_) (fun v9 h9 q9 => ?_)
  · cases q9.2.2.2
  obtain ⟨hG, ⟨sa', ma', hC'⟩, ⟨f', hO', hf⟩, e9⟩ := q9
  cases e9
  have hM' : gm 43 h9 I A = h9 := gm_self (fun j hj => hG.2.2 _ _ (by omega) (by omega) (hM j hj))
  have hs' : h9.2.2 = sc := hG.2.1.trans hs
  have hle : 56 ≤ h9.1 := Nat.le_trans h56 hG.1
  rw [← hM']
  clear hscr
  have hscr : (gm 43 h9 I A).2.2 = sc := hs'
  have h_new8 : mw_g (gm 43 h9 I A) 43 = _ := gm_0
  refine mw_istore_5 dL_law_1490 (by decide) ?_
  refine mw_aload_n (i := 2) dL_law_1492 rfl rfl ?_
  refine mw_aload_n (i := 0) dL_law_1493 rfl rfl ?_
  refine mw_iload (i := 4) dL_law_1494 rfl ?_
  refine mw_iconst (v := 1) dL_law_1496 (by decide) ?_
  refine mw_iadd dL_law_1497 ?_
  refine mw_sldx dL_law_1498 hscr (lx_1 hL hi) ?_
  refine mw_aload_n (i := 0) dL_law_1499 rfl rfl ?_
  refine mw_iload (i := 4) dL_law_1500 rfl ?_
  refine mw_iconst (v := 2) dL_law_1502 (by decide) ?_
  refine mw_iadd dL_law_1503 ?_
  refine mw_sldx dL_law_1504 hscr (lx_2 hL hi) ?_
  refine mw_callV dL_law_1505 mk_L_191 h_new8 rfl (hr1 h9) (by decide) (Nat.le_refl _) (Nat.le_refl _) rfl rfl (Nat.le_of_ble_eq_true rfl) (fun E8 h8 q8 => ?_) (fun v8 h8 q8 => ?_)
  · cases q8.1
  obtain ⟨e7, I', A', rfl, h0, hr'⟩ := q8
  cases e7
  have h_new8 : mw_g (gm 43 h9 I' A') 43 = _ := gm_0
  have h_new17 := (gm_out (M := 43) (h := h9) (I := I') (A := A') (by decide)).trans hO'
  refine mw_istore_6 dL_law_1508 (by decide) ?_
  refine mw_aload_n (i := 2) dL_law_1510 rfl rfl ?_
  refine mw_callVr dL_law_1511 mk_L_126 h_new8 rfl (c_thrown) (by decide) (Nat.le_refl _) (Nat.le_refl _) rfl rfl (Nat.le_of_ble_eq_true rfl) ?_
  rw [h0]
  by_cases e0 : a.1 = 0
  · have hf := hf e0
    refine mw_iload (i := 5) dL_law_1514 rfl ?_
    refine mw_icmp_eq (tgt := 1521) dL_law_1516 (by decide) (fun _ => ?_) (fun c9 => absurd c9 (fun z => z rfl))
    refine mw_iload (i := 5) dL_law_1521 rfl ?_
    refine mw_if_ne (tgt := 1538) dL_law_1523 (by decide) (fun c9 => absurd c9 (fun z => z e0)) (fun _ => ?_)
    refine mw_aload_n (i := 3) dL_law_1526 rfl rfl ?_
    refine mw_iconst (v := 0) dL_law_1527 (by decide) ?_
    refine mw_lald dL_law_1528 h_new17 (mw_ix (j := 0) rfl (by decide) (by decide)) ?_
    rw [hf]
    refine mw_iload (i := 6) dL_law_1529 rfl ?_
    refine mw_i2l dL_law_1531 rfl ?_
    refine mw_lcmp dL_law_1532 ?_
    rw [show a.2.1.toInt64 = cvI a.2.1 from rfl, lg_same]
    refine mw_if_eq (tgt := 1538) dL_law_1533 (by decide) (fun _ => ?_) (fun c9 => absurd c9 (by first | decide | (rw [pk_us]; decide)))
    refine mw_goto (tgt := 2131) dL_law_1538 (by decide) ?_
    exact K _ _ _ _ (LI_mk hs' hle hC' hr' hO')
  · refine mw_iload (i := 5) dL_law_1514 rfl ?_
    refine mw_icmp_eq (tgt := 1521) dL_law_1516 (by decide) (fun _ => ?_) (fun c9 => absurd c9 (fun z => z rfl))
    refine mw_iload (i := 5) dL_law_1521 rfl ?_
    refine mw_if_ne (tgt := 1538) dL_law_1523 (by decide) (fun _ => ?_) (fun c9 => absurd c9 e0)
    refine mw_goto (tgt := 2131) dL_law_1538 (by decide) ?_
    exact K _ _ _ _ (LI_mk hs' hle hC' hr' hO')
theorem lc_weight (hL : sc.1 ≤ 2560) (hI : LI sc g H) (hi : i + 5 ≤ sc.1) (x5 x6 : Option Value) (K : ∀ (g' : mS) (H' : mw_H) (x5 x6 : Option Value), LI sc g' H' → mw_W mm_L_law 9 kc ks 2131 [some (.ref 0), some (.ref 1), some (.ref 43), some (.ref 55), some (.int (nI i)), x5, x6] [] H' Po) : mw_W mm_L_law 9 (kc + 5) (ks + 270) 1541 [some (.ref 0), some (.ref 1), some (.ref 43), some (.ref 55), some (.int (nI i)), x5, x6] [] H Po := by
  obtain ⟨hs, h56, ⟨sa, ma, hC⟩, ⟨I, A, hr, hM⟩, f, hO⟩ := hI
  have hscr := hs
  have hw := w_weight hC hO (sc.2 (i + 1))
  have hr1 := fun h => r_weight (M := 43) (h := h) hr (sc.2 (i + 1))
  generalize sp_weight g (sc.2 (i + 1)) = a at hw hr1
  refine mw_aload_n (i := 1) dL_law_1541 rfl rfl ?_
  refine mw_aload_n (i := 0) dL_law_1542 rfl rfl ?_
  refine mw_iload (i := 4) dL_law_1543 rfl ?_
  refine mw_iconst (v := 1) dL_law_1545 (by decide) ?_
  refine mw_iadd dL_law_1546 ?_
  refine mw_sldx dL_law_1547 hscr (lx_1 hL hi) ?_
  refine mw_aload_n (i := 3) dL_law_1548 rfl rfl ?_
  refine mw_callSX dL_law_1549 mk_L_192 (hw) (by decide) (Nat.le_refl _) (Nat.le_refl _) rfl rfl (Nat.le_of_ble_eq_true rfl) (fun E9 h9 q9 => ?_) (fun v9 h9 q9 => ?_)
  · cases q9.2.2.2
  obtain ⟨hG, ⟨sa', ma', hC'⟩, ⟨f', hO', hf⟩, e9⟩ := q9
  cases e9
  have hM' : gm 43 h9 I A = h9 := gm_self (fun j hj => hG.2.2 _ _ (by omega) (by omega) (hM j hj))
  have hs' : h9.2.2 = sc := hG.2.1.trans hs
  have hle : 56 ≤ h9.1 := Nat.le_trans h56 hG.1
  rw [← hM']
  clear hscr
  have hscr : (gm 43 h9 I A).2.2 = sc := hs'
  have h_new8 : mw_g (gm 43 h9 I A) 43 = _ := gm_0
  refine mw_istore_5 dL_law_1552 (by decide) ?_
  refine mw_aload_n (i := 2) dL_law_1554 rfl rfl ?_
  refine mw_aload_n (i := 0) dL_law_1555 rfl rfl ?_
  refine mw_iload (i := 4) dL_law_1556 rfl ?_
  refine mw_iconst (v := 1) dL_law_1558 (by decide) ?_
  refine mw_iadd dL_law_1559 ?_
  refine mw_sldx dL_law_1560 hscr (lx_1 hL hi) ?_
  refine mw_callV dL_law_1561 mk_L_194 h_new8 rfl (hr1 h9) (by decide) (Nat.le_refl _) (Nat.le_refl _) rfl rfl (Nat.le_of_ble_eq_true rfl) (fun E8 h8 q8 => ?_) (fun v8 h8 q8 => ?_)
  · cases q8.1
  obtain ⟨e7, I', A', rfl, h0, hr'⟩ := q8
  cases e7
  have h_new8 : mw_g (gm 43 h9 I' A') 43 = _ := gm_0
  have h_new17 := (gm_out (M := 43) (h := h9) (I := I') (A := A') (by decide)).trans hO'
  refine mw_istore_6 dL_law_1564 (by decide) ?_
  refine mw_aload_n (i := 2) dL_law_1566 rfl rfl ?_
  refine mw_callVr dL_law_1567 mk_L_126 h_new8 rfl (c_thrown) (by decide) (Nat.le_refl _) (Nat.le_refl _) rfl rfl (Nat.le_of_ble_eq_true rfl) ?_
  rw [h0]
  by_cases e0 : a.1 = 0
  · have hf := hf e0
    refine mw_iload (i := 5) dL_law_1570 rfl ?_
    refine mw_icmp_eq (tgt := 1577) dL_law_1572 (by decide) (fun _ => ?_) (fun c9 => absurd c9 (fun z => z rfl))
    refine mw_iload (i := 5) dL_law_1577 rfl ?_
    refine mw_if_ne (tgt := 1594) dL_law_1579 (by decide) (fun c9 => absurd c9 (fun z => z e0)) (fun _ => ?_)
    refine mw_aload_n (i := 3) dL_law_1582 rfl rfl ?_
    refine mw_iconst (v := 0) dL_law_1583 (by decide) ?_
    refine mw_lald dL_law_1584 h_new17 (mw_ix (j := 0) rfl (by decide) (by decide)) ?_
    rw [hf]
    refine mw_iload (i := 6) dL_law_1585 rfl ?_
    refine mw_i2l dL_law_1587 rfl ?_
    refine mw_lcmp dL_law_1588 ?_
    rw [show a.2.1.toInt64 = cvI a.2.1 from rfl, lg_same]
    refine mw_if_eq (tgt := 1594) dL_law_1589 (by decide) (fun _ => ?_) (fun c9 => absurd c9 (by first | decide | (rw [pk_us]; decide)))
    refine mw_goto (tgt := 2131) dL_law_1594 (by decide) ?_
    exact K _ _ _ _ (LI_mk hs' hle hC' hr' hO')
  · refine mw_iload (i := 5) dL_law_1570 rfl ?_
    refine mw_icmp_eq (tgt := 1577) dL_law_1572 (by decide) (fun _ => ?_) (fun c9 => absurd c9 (fun z => z rfl))
    refine mw_iload (i := 5) dL_law_1577 rfl ?_
    refine mw_if_ne (tgt := 1594) dL_law_1579 (by decide) (fun _ => ?_) (fun c9 => absurd c9 e0)
    refine mw_goto (tgt := 2131) dL_law_1594 (by decide) ?_
    exact K _ _ _ _ (LI_mk hs' hle hC' hr' hO')
theorem lc_areSame (hL : sc.1 ≤ 2560) (hI : LI sc g H) (hi : i + 5 ≤ sc.1) (x5 x6 : Option Value) (K : ∀ (g' : mS) (H' : mw_H) (x5 x6 : Option Value), LI sc g' H' → mw_W mm_L_law 9 kc ks 2131 [some (.ref 0), some (.ref 1), some (.ref 43), some (.ref 55), some (.int (nI i)), x5, x6] [] H' Po) : mw_W mm_L_law 9 (kc + 5) (ks + 270) 1597 [some (.ref 0), some (.ref 1), some (.ref 43), some (.ref 55), some (.int (nI i)), x5, x6] [] H Po := by
  obtain ⟨hs, h56, ⟨sa, ma, hC⟩, ⟨I, A, hr, hM⟩, f, hO⟩ := hI
  have hscr := hs
  have hw := w_areSame hC hO (sc.2 (i + 1)) (sc.2 (i + 2))
  have hr1 := fun h => r_areSame (M := 43) (h := h) hr (sc.2 (i + 1)) (sc.2 (i + 2))
  generalize sp_areSame g (sc.2 (i + 1)) (sc.2 (i + 2)) = a at hw hr1
  refine mw_aload_n (i := 1) dL_law_1597 rfl rfl ?_
  refine mw_aload_n (i := 0) dL_law_1598 rfl rfl ?_
  refine mw_iload (i := 4) dL_law_1599 rfl ?_
  refine mw_iconst (v := 1) dL_law_1601 (by decide) ?_
  refine mw_iadd dL_law_1602 ?_
  refine mw_sldx dL_law_1603 hscr (lx_1 hL hi) ?_
  refine mw_aload_n (i := 0) dL_law_1604 rfl rfl ?_
  refine mw_iload (i := 4) dL_law_1605 rfl ?_
  refine mw_iconst (v := 2) dL_law_1607 (by decide) ?_
  refine mw_iadd dL_law_1608 ?_
  refine mw_sldx dL_law_1609 hscr (lx_2 hL hi) ?_
  refine mw_aload_n (i := 3) dL_law_1610 rfl rfl ?_
  refine mw_callSX dL_law_1611 mk_L_195 (hw) (by decide) (Nat.le_refl _) (Nat.le_refl _) rfl rfl (Nat.le_of_ble_eq_true rfl) (fun E9 h9 q9 => ?_) (fun v9 h9 q9 => ?_)
  · cases q9.2.2.2
  obtain ⟨hG, ⟨sa', ma', hC'⟩, ⟨f', hO', hf⟩, e9⟩ := q9
  cases e9
  have hM' : gm 43 h9 I A = h9 := gm_self (fun j hj => hG.2.2 _ _ (by omega) (by omega) (hM j hj))
  have hs' : h9.2.2 = sc := hG.2.1.trans hs
  have hle : 56 ≤ h9.1 := Nat.le_trans h56 hG.1
  rw [← hM']
  clear hscr
  have hscr : (gm 43 h9 I A).2.2 = sc := hs'
  have h_new8 : mw_g (gm 43 h9 I A) 43 = _ := gm_0
  refine mw_istore_5 dL_law_1614 (by decide) ?_
  refine mw_aload_n (i := 2) dL_law_1616 rfl rfl ?_
  refine mw_aload_n (i := 0) dL_law_1617 rfl rfl ?_
  refine mw_iload (i := 4) dL_law_1618 rfl ?_
  refine mw_iconst (v := 1) dL_law_1620 (by decide) ?_
  refine mw_iadd dL_law_1621 ?_
  refine mw_sldx dL_law_1622 hscr (lx_1 hL hi) ?_
  refine mw_aload_n (i := 0) dL_law_1623 rfl rfl ?_
  refine mw_iload (i := 4) dL_law_1624 rfl ?_
  refine mw_iconst (v := 2) dL_law_1626 (by decide) ?_
  refine mw_iadd dL_law_1627 ?_
  refine mw_sldx dL_law_1628 hscr (lx_2 hL hi) ?_
  refine mw_callV dL_law_1629 mk_L_197 h_new8 rfl (hr1 h9) (by decide) (Nat.le_refl _) (Nat.le_refl _) rfl rfl (Nat.le_of_ble_eq_true rfl) (fun E8 h8 q8 => ?_) (fun v8 h8 q8 => ?_)
  · cases q8.1
  obtain ⟨e7, I', A', rfl, h0, hr'⟩ := q8
  cases e7
  have h_new8 : mw_g (gm 43 h9 I' A') 43 = _ := gm_0
  have h_new17 := (gm_out (M := 43) (h := h9) (I := I') (A := A') (by decide)).trans hO'
  refine mw_istore_6 dL_law_1632 (by decide) ?_
  refine mw_aload_n (i := 2) dL_law_1634 rfl rfl ?_
  refine mw_callVr dL_law_1635 mk_L_126 h_new8 rfl (c_thrown) (by decide) (Nat.le_refl _) (Nat.le_refl _) rfl rfl (Nat.le_of_ble_eq_true rfl) ?_
  rw [h0]
  by_cases e0 : a.1 = 0
  · have hf := hf e0
    refine mw_iload (i := 5) dL_law_1638 rfl ?_
    refine mw_icmp_eq (tgt := 1645) dL_law_1640 (by decide) (fun _ => ?_) (fun c9 => absurd c9 (fun z => z rfl))
    refine mw_iload (i := 5) dL_law_1645 rfl ?_
    refine mw_if_ne (tgt := 1669) dL_law_1647 (by decide) (fun c9 => absurd c9 (fun z => z e0)) (fun _ => ?_)
    refine mw_aload_n (i := 3) dL_law_1650 rfl rfl ?_
    refine mw_iconst (v := 0) dL_law_1651 (by decide) ?_
    refine mw_lald dL_law_1652 h_new17 (mw_ix (j := 0) rfl (by decide) (by decide)) ?_
    rw [hf]
    unfold cvZ
    by_cases ez : a.2.1 = 0
    · rw [if_pos ez]
      refine mw_iload (i := 6) dL_law_1653 rfl ?_
      refine mw_if_eq (tgt := 1662) dL_law_1655 (by decide) (fun _ => ?_) (fun c9 => absurd c9 (fun z => z ez))
      refine mw_lconst (v := 0) dL_law_1662 (by decide) ?_
      refine mw_lcmp dL_law_1663 ?_
      rw [lg_same]
      refine mw_if_eq (tgt := 1669) dL_law_1664 (by decide) (fun _ => ?_) (fun c9 => absurd c9 (by first | decide | (rw [pk_us]; decide)))
      refine mw_goto (tgt := 2131) dL_law_1669 (by decide) ?_
      exact K _ _ _ _ (LI_mk hs' hle hC' hr' hO')
    · rw [if_neg ez]
      refine mw_iload (i := 6) dL_law_1653 rfl ?_
      refine mw_if_eq (tgt := 1662) dL_law_1655 (by decide) (fun c9 => absurd c9 ez) (fun _ => ?_)
      refine mw_lconst (v := 1) dL_law_1658 (by decide) ?_
      refine mw_goto (tgt := 1663) dL_law_1659 (by decide) ?_
      refine mw_lcmp dL_law_1663 ?_
      rw [lg_same]
      refine mw_if_eq (tgt := 1669) dL_law_1664 (by decide) (fun _ => ?_) (fun c9 => absurd c9 (by first | decide | (rw [pk_us]; decide)))
      refine mw_goto (tgt := 2131) dL_law_1669 (by decide) ?_
      exact K _ _ _ _ (LI_mk hs' hle hC' hr' hO')
  · refine mw_iload (i := 5) dL_law_1638 rfl ?_
    refine mw_icmp_eq (tgt := 1645) dL_law_1640 (by decide) (fun _ => ?_) (fun c9 => absurd c9 (fun z => z rfl))
    refine mw_iload (i := 5) dL_law_1645 rfl ?_
    refine mw_if_ne (tgt := 1669) dL_law_1647 (by decide) (fun _ => ?_) (fun c9 => absurd c9 e0)
    refine mw_goto (tgt := 2131) dL_law_1669 (by decide) ?_
    exact K _ _ _ _ (LI_mk hs' hle hC' hr' hO')
theorem lc_areSameByBytes (hL : sc.1 ≤ 2560) (hI : LI sc g H) (hi : i + 5 ≤ sc.1) (x5 x6 : Option Value) (K : ∀ (g' : mS) (H' : mw_H) (x5 x6 : Option Value), LI sc g' H' → mw_W mm_L_law 9 kc ks 2131 [some (.ref 0), some (.ref 1), some (.ref 43), some (.ref 55), some (.int (nI i)), x5, x6] [] H' Po) : mw_W mm_L_law 9 (kc + 5) (ks + 270) 1672 [some (.ref 0), some (.ref 1), some (.ref 43), some (.ref 55), some (.int (nI i)), x5, x6] [] H Po := by
  obtain ⟨hs, h56, ⟨sa, ma, hC⟩, ⟨I, A, hr, hM⟩, f, hO⟩ := hI
  have hscr := hs
  have hw := w_areSameByBytes hC hO (sc.2 (i + 1)) (sc.2 (i + 2))
  have hr1 := fun h => r_areSameByBytes (M := 43) (h := h) hr (sc.2 (i + 1)) (sc.2 (i + 2))
  generalize sp_areSame g (sc.2 (i + 1)) (sc.2 (i + 2)) = a at hw hr1
  refine mw_aload_n (i := 1) dL_law_1672 rfl rfl ?_
  refine mw_aload_n (i := 0) dL_law_1673 rfl rfl ?_
  refine mw_iload (i := 4) dL_law_1674 rfl ?_
  refine mw_iconst (v := 1) dL_law_1676 (by decide) ?_
  refine mw_iadd dL_law_1677 ?_
  refine mw_sldx dL_law_1678 hscr (lx_1 hL hi) ?_
  refine mw_aload_n (i := 0) dL_law_1679 rfl rfl ?_
  refine mw_iload (i := 4) dL_law_1680 rfl ?_
  refine mw_iconst (v := 2) dL_law_1682 (by decide) ?_
  refine mw_iadd dL_law_1683 ?_
  refine mw_sldx dL_law_1684 hscr (lx_2 hL hi) ?_
  refine mw_aload_n (i := 3) dL_law_1685 rfl rfl ?_
  refine mw_callSX dL_law_1686 mk_L_198 (hw) (by decide) (Nat.le_refl _) (Nat.le_refl _) rfl rfl (Nat.le_of_ble_eq_true rfl) (fun E9 h9 q9 => ?_) (fun v9 h9 q9 => ?_)
  · cases q9.2.2.2
  obtain ⟨hG, ⟨sa', ma', hC'⟩, ⟨f', hO', hf⟩, e9⟩ := q9
  cases e9
  have hM' : gm 43 h9 I A = h9 := gm_self (fun j hj => hG.2.2 _ _ (by omega) (by omega) (hM j hj))
  have hs' : h9.2.2 = sc := hG.2.1.trans hs
  have hle : 56 ≤ h9.1 := Nat.le_trans h56 hG.1
  rw [← hM']
  clear hscr
  have hscr : (gm 43 h9 I A).2.2 = sc := hs'
  have h_new8 : mw_g (gm 43 h9 I A) 43 = _ := gm_0
  refine mw_istore_5 dL_law_1689 (by decide) ?_
  refine mw_aload_n (i := 2) dL_law_1691 rfl rfl ?_
  refine mw_aload_n (i := 0) dL_law_1692 rfl rfl ?_
  refine mw_iload (i := 4) dL_law_1693 rfl ?_
  refine mw_iconst (v := 1) dL_law_1695 (by decide) ?_
  refine mw_iadd dL_law_1696 ?_
  refine mw_sldx dL_law_1697 hscr (lx_1 hL hi) ?_
  refine mw_aload_n (i := 0) dL_law_1698 rfl rfl ?_
  refine mw_iload (i := 4) dL_law_1699 rfl ?_
  refine mw_iconst (v := 2) dL_law_1701 (by decide) ?_
  refine mw_iadd dL_law_1702 ?_
  refine mw_sldx dL_law_1703 hscr (lx_2 hL hi) ?_
  refine mw_callV dL_law_1704 mk_L_200 h_new8 rfl (hr1 h9) (by decide) (Nat.le_refl _) (Nat.le_refl _) rfl rfl (Nat.le_of_ble_eq_true rfl) (fun E8 h8 q8 => ?_) (fun v8 h8 q8 => ?_)
  · cases q8.1
  obtain ⟨e7, I', A', rfl, h0, hr'⟩ := q8
  cases e7
  have h_new8 : mw_g (gm 43 h9 I' A') 43 = _ := gm_0
  have h_new17 := (gm_out (M := 43) (h := h9) (I := I') (A := A') (by decide)).trans hO'
  refine mw_istore_6 dL_law_1707 (by decide) ?_
  refine mw_aload_n (i := 2) dL_law_1709 rfl rfl ?_
  refine mw_callVr dL_law_1710 mk_L_126 h_new8 rfl (c_thrown) (by decide) (Nat.le_refl _) (Nat.le_refl _) rfl rfl (Nat.le_of_ble_eq_true rfl) ?_
  rw [h0]
  by_cases e0 : a.1 = 0
  · have hf := hf e0
    refine mw_iload (i := 5) dL_law_1713 rfl ?_
    refine mw_icmp_eq (tgt := 1720) dL_law_1715 (by decide) (fun _ => ?_) (fun c9 => absurd c9 (fun z => z rfl))
    refine mw_iload (i := 5) dL_law_1720 rfl ?_
    refine mw_if_ne (tgt := 1744) dL_law_1722 (by decide) (fun c9 => absurd c9 (fun z => z e0)) (fun _ => ?_)
    refine mw_aload_n (i := 3) dL_law_1725 rfl rfl ?_
    refine mw_iconst (v := 0) dL_law_1726 (by decide) ?_
    refine mw_lald dL_law_1727 h_new17 (mw_ix (j := 0) rfl (by decide) (by decide)) ?_
    rw [hf]
    unfold cvZ
    by_cases ez : a.2.1 = 0
    · rw [if_pos ez]
      refine mw_iload (i := 6) dL_law_1728 rfl ?_
      refine mw_if_eq (tgt := 1737) dL_law_1730 (by decide) (fun _ => ?_) (fun c9 => absurd c9 (fun z => z ez))
      refine mw_lconst (v := 0) dL_law_1737 (by decide) ?_
      refine mw_lcmp dL_law_1738 ?_
      rw [lg_same]
      refine mw_if_eq (tgt := 1744) dL_law_1739 (by decide) (fun _ => ?_) (fun c9 => absurd c9 (by first | decide | (rw [pk_us]; decide)))
      refine mw_goto (tgt := 2131) dL_law_1744 (by decide) ?_
      exact K _ _ _ _ (LI_mk hs' hle hC' hr' hO')
    · rw [if_neg ez]
      refine mw_iload (i := 6) dL_law_1728 rfl ?_
      refine mw_if_eq (tgt := 1737) dL_law_1730 (by decide) (fun c9 => absurd c9 ez) (fun _ => ?_)
      refine mw_lconst (v := 1) dL_law_1733 (by decide) ?_
      refine mw_goto (tgt := 1738) dL_law_1734 (by decide) ?_
      refine mw_lcmp dL_law_1738 ?_
      rw [lg_same]
      refine mw_if_eq (tgt := 1744) dL_law_1739 (by decide) (fun _ => ?_) (fun c9 => absurd c9 (by first | decide | (rw [pk_us]; decide)))
      refine mw_goto (tgt := 2131) dL_law_1744 (by decide) ?_
      exact K _ _ _ _ (LI_mk hs' hle hC' hr' hO')
  · refine mw_iload (i := 5) dL_law_1713 rfl ?_
    refine mw_icmp_eq (tgt := 1720) dL_law_1715 (by decide) (fun _ => ?_) (fun c9 => absurd c9 (fun z => z rfl))
    refine mw_iload (i := 5) dL_law_1720 rfl ?_
    refine mw_if_ne (tgt := 1744) dL_law_1722 (by decide) (fun _ => ?_) (fun c9 => absurd c9 e0)
    refine mw_goto (tgt := 2131) dL_law_1744 (by decide) ?_
    exact K _ _ _ _ (LI_mk hs' hle hC' hr' hO')
theorem lc_write (hL : sc.1 ≤ 2560) (hI : LI sc g H) (hi : i + 5 ≤ sc.1) (x5 x6 : Option Value) (K : ∀ (g' : mS) (H' : mw_H) (x5 x6 : Option Value), LI sc g' H' → mw_W mm_L_law 9 kc ks 2131 [some (.ref 0), some (.ref 1), some (.ref 43), some (.ref 55), some (.int (nI i)), x5, x6] [] H' Po) : mw_W mm_L_law 9 (kc + 5) (ks + 270) 1747 [some (.ref 0), some (.ref 1), some (.ref 43), some (.ref 55), some (.int (nI i)), x5, x6] [] H Po := by
  obtain ⟨hs, h56, ⟨sa, ma, hC⟩, ⟨I, A, hr, hM⟩, f, hO⟩ := hI
  have hscr := hs
  have hw := w_write hC hO (sc.2 (i + 1))
  have hr1 := fun h => r_write (M := 43) (h := h) hr (sc.2 (i + 1))
  generalize sp_write g (sc.2 (i + 1)) = a at hw hr1
  refine mw_aload_n (i := 1) dL_law_1747 rfl rfl ?_
  refine mw_aload_n (i := 0) dL_law_1748 rfl rfl ?_
  refine mw_iload (i := 4) dL_law_1749 rfl ?_
  refine mw_iconst (v := 1) dL_law_1751 (by decide) ?_
  refine mw_iadd dL_law_1752 ?_
  refine mw_sldx dL_law_1753 hscr (lx_1 hL hi) ?_
  refine mw_aload_n (i := 3) dL_law_1754 rfl rfl ?_
  refine mw_callSX dL_law_1755 mk_L_201 (hw) (by decide) (Nat.le_refl _) (Nat.le_refl _) rfl rfl (Nat.le_of_ble_eq_true rfl) (fun E9 h9 q9 => ?_) (fun v9 h9 q9 => ?_)
  · cases q9.2.2.2
  obtain ⟨hG, ⟨sa', ma', hC'⟩, ⟨f', hO', hf⟩, e9⟩ := q9
  cases e9
  have hM' : gm 43 h9 I A = h9 := gm_self (fun j hj => hG.2.2 _ _ (by omega) (by omega) (hM j hj))
  have hs' : h9.2.2 = sc := hG.2.1.trans hs
  have hle : 56 ≤ h9.1 := Nat.le_trans h56 hG.1
  rw [← hM']
  clear hscr
  have hscr : (gm 43 h9 I A).2.2 = sc := hs'
  have h_new8 : mw_g (gm 43 h9 I A) 43 = _ := gm_0
  refine mw_istore_5 dL_law_1758 (by decide) ?_
  refine mw_aload_n (i := 2) dL_law_1760 rfl rfl ?_
  refine mw_aload_n (i := 0) dL_law_1761 rfl rfl ?_
  refine mw_iload (i := 4) dL_law_1762 rfl ?_
  refine mw_iconst (v := 1) dL_law_1764 (by decide) ?_
  refine mw_iadd dL_law_1765 ?_
  refine mw_sldx dL_law_1766 hscr (lx_1 hL hi) ?_
  refine mw_callV dL_law_1767 mk_L_203 h_new8 rfl (hr1 h9) (by decide) (Nat.le_refl _) (Nat.le_refl _) rfl rfl (Nat.le_of_ble_eq_true rfl) (fun E8 h8 q8 => ?_) (fun v8 h8 q8 => ?_)
  · cases q8.1
  obtain ⟨e7, I', A', rfl, h0, hr'⟩ := q8
  cases e7
  have h_new8 : mw_g (gm 43 h9 I' A') 43 = _ := gm_0
  have h_new17 := (gm_out (M := 43) (h := h9) (I := I') (A := A') (by decide)).trans hO'
  refine mw_istore_6 dL_law_1770 (by decide) ?_
  refine mw_aload_n (i := 2) dL_law_1772 rfl rfl ?_
  refine mw_callVr dL_law_1773 mk_L_126 h_new8 rfl (c_thrown) (by decide) (Nat.le_refl _) (Nat.le_refl _) rfl rfl (Nat.le_of_ble_eq_true rfl) ?_
  rw [h0]
  by_cases e0 : a.1 = 0
  · have hf := hf e0
    refine mw_iload (i := 5) dL_law_1776 rfl ?_
    refine mw_icmp_eq (tgt := 1783) dL_law_1778 (by decide) (fun _ => ?_) (fun c9 => absurd c9 (fun z => z rfl))
    refine mw_iload (i := 5) dL_law_1783 rfl ?_
    refine mw_if_ne (tgt := 1800) dL_law_1785 (by decide) (fun c9 => absurd c9 (fun z => z e0)) (fun _ => ?_)
    refine mw_aload_n (i := 3) dL_law_1788 rfl rfl ?_
    refine mw_iconst (v := 0) dL_law_1789 (by decide) ?_
    refine mw_lald dL_law_1790 h_new17 (mw_ix (j := 0) rfl (by decide) (by decide)) ?_
    rw [hf]
    refine mw_iload (i := 6) dL_law_1791 rfl ?_
    refine mw_i2l dL_law_1793 rfl ?_
    refine mw_lcmp dL_law_1794 ?_
    rw [show a.2.1.toInt64 = cvI a.2.1 from rfl, lg_same]
    refine mw_if_eq (tgt := 1800) dL_law_1795 (by decide) (fun _ => ?_) (fun c9 => absurd c9 (by first | decide | (rw [pk_us]; decide)))
    refine mw_goto (tgt := 2131) dL_law_1800 (by decide) ?_
    exact K _ _ _ _ (LI_mk hs' hle hC' hr' hO')
  · refine mw_iload (i := 5) dL_law_1776 rfl ?_
    refine mw_icmp_eq (tgt := 1783) dL_law_1778 (by decide) (fun _ => ?_) (fun c9 => absurd c9 (fun z => z rfl))
    refine mw_iload (i := 5) dL_law_1783 rfl ?_
    refine mw_if_ne (tgt := 1800) dL_law_1785 (by decide) (fun _ => ?_) (fun c9 => absurd c9 e0)
    refine mw_goto (tgt := 2131) dL_law_1800 (by decide) ?_
    exact K _ _ _ _ (LI_mk hs' hle hC' hr' hO')
theorem lc_put (hL : sc.1 ≤ 2560) (hI : LI sc g H) (hi : i + 5 ≤ sc.1) (x5 x6 : Option Value) (K : ∀ (g' : mS) (H' : mw_H) (x5 x6 : Option Value), LI sc g' H' → mw_W mm_L_law 9 kc ks 2131 [some (.ref 0), some (.ref 1), some (.ref 43), some (.ref 55), some (.int (nI i)), x5, x6] [] H' Po) : mw_W mm_L_law 9 (kc + 5) (ks + 270) 1803 [some (.ref 0), some (.ref 1), some (.ref 43), some (.ref 55), some (.int (nI i)), x5, x6] [] H Po := by
  obtain ⟨hs, h56, ⟨sa, ma, hC⟩, ⟨I, A, hr, hM⟩, f, hO⟩ := hI
  have hscr := hs
  have hw := w_put hC hO (sc.2 (i + 1))
  have hr1 := fun h => r_put (M := 43) (h := h) hr ((sc.2 (i + 1)).toInt8.toInt32)
  generalize sp_put g ((sc.2 (i + 1)).toInt8.toInt32) = a at hw hr1
  refine mw_aload_n (i := 1) dL_law_1803 rfl rfl ?_
  refine mw_aload_n (i := 0) dL_law_1804 rfl rfl ?_
  refine mw_iload (i := 4) dL_law_1805 rfl ?_
  refine mw_iconst (v := 1) dL_law_1807 (by decide) ?_
  refine mw_iadd dL_law_1808 ?_
  refine mw_sldx dL_law_1809 hscr (lx_1 hL hi) ?_
  refine mw_i2b dL_law_1810 rfl ?_
  refine mw_aload_n (i := 3) dL_law_1811 rfl rfl ?_
  refine mw_callSX dL_law_1812 mk_L_204 (hw) (by decide) (Nat.le_refl _) (Nat.le_refl _) rfl rfl (Nat.le_of_ble_eq_true rfl) (fun E9 h9 q9 => ?_) (fun v9 h9 q9 => ?_)
  · cases q9.2.2.2
  obtain ⟨hG, ⟨sa', ma', hC'⟩, ⟨f', hO', hf⟩, e9⟩ := q9
  cases e9
  have hM' : gm 43 h9 I A = h9 := gm_self (fun j hj => hG.2.2 _ _ (by omega) (by omega) (hM j hj))
  have hs' : h9.2.2 = sc := hG.2.1.trans hs
  have hle : 56 ≤ h9.1 := Nat.le_trans h56 hG.1
  rw [← hM']
  clear hscr
  have hscr : (gm 43 h9 I A).2.2 = sc := hs'
  have h_new8 : mw_g (gm 43 h9 I A) 43 = _ := gm_0
  refine mw_istore_5 dL_law_1815 (by decide) ?_
  refine mw_aload_n (i := 2) dL_law_1817 rfl rfl ?_
  refine mw_aload_n (i := 0) dL_law_1818 rfl rfl ?_
  refine mw_iload (i := 4) dL_law_1819 rfl ?_
  refine mw_iconst (v := 1) dL_law_1821 (by decide) ?_
  refine mw_iadd dL_law_1822 ?_
  refine mw_sldx dL_law_1823 hscr (lx_1 hL hi) ?_
  refine mw_i2b dL_law_1824 rfl ?_
  refine mw_callV dL_law_1825 mk_L_207 h_new8 rfl (hr1 h9) (by decide) (Nat.le_refl _) (Nat.le_refl _) rfl rfl (Nat.le_of_ble_eq_true rfl) (fun E8 h8 q8 => ?_) (fun v8 h8 q8 => ?_)
  · cases q8.1
  obtain ⟨e7, I', A', rfl, h0, hr'⟩ := q8
  cases e7
  have h_new8 : mw_g (gm 43 h9 I' A') 43 = _ := gm_0
  have h_new17 := (gm_out (M := 43) (h := h9) (I := I') (A := A') (by decide)).trans hO'
  refine mw_istore_6 dL_law_1828 (by decide) ?_
  refine mw_aload_n (i := 2) dL_law_1830 rfl rfl ?_
  refine mw_callVr dL_law_1831 mk_L_126 h_new8 rfl (c_thrown) (by decide) (Nat.le_refl _) (Nat.le_refl _) rfl rfl (Nat.le_of_ble_eq_true rfl) ?_
  rw [h0]
  by_cases e0 : a.1 = 0
  · have hf := hf e0
    refine mw_iload (i := 5) dL_law_1834 rfl ?_
    refine mw_icmp_eq (tgt := 1841) dL_law_1836 (by decide) (fun _ => ?_) (fun c9 => absurd c9 (fun z => z rfl))
    refine mw_iload (i := 5) dL_law_1841 rfl ?_
    refine mw_if_ne (tgt := 1858) dL_law_1843 (by decide) (fun c9 => absurd c9 (fun z => z e0)) (fun _ => ?_)
    refine mw_aload_n (i := 3) dL_law_1846 rfl rfl ?_
    refine mw_iconst (v := 0) dL_law_1847 (by decide) ?_
    refine mw_lald dL_law_1848 h_new17 (mw_ix (j := 0) rfl (by decide) (by decide)) ?_
    rw [hf]
    refine mw_iload (i := 6) dL_law_1849 rfl ?_
    refine mw_i2l dL_law_1851 rfl ?_
    refine mw_lcmp dL_law_1852 ?_
    rw [show a.2.1.toInt64 = cvI a.2.1 from rfl, lg_same]
    refine mw_if_eq (tgt := 1858) dL_law_1853 (by decide) (fun _ => ?_) (fun c9 => absurd c9 (by first | decide | (rw [pk_us]; decide)))
    refine mw_goto (tgt := 2131) dL_law_1858 (by decide) ?_
    exact K _ _ _ _ (LI_mk hs' hle hC' hr' hO')
  · refine mw_iload (i := 5) dL_law_1834 rfl ?_
    refine mw_icmp_eq (tgt := 1841) dL_law_1836 (by decide) (fun _ => ?_) (fun c9 => absurd c9 (fun z => z rfl))
    refine mw_iload (i := 5) dL_law_1841 rfl ?_
    refine mw_if_ne (tgt := 1858) dL_law_1843 (by decide) (fun _ => ?_) (fun c9 => absurd c9 e0)
    refine mw_goto (tgt := 2131) dL_law_1858 (by decide) ?_
    exact K _ _ _ _ (LI_mk hs' hle hC' hr' hO')
theorem lc_cut (hL : sc.1 ≤ 2560) (hI : LI sc g H) (hi : i + 5 ≤ sc.1) (x5 x6 : Option Value) (K : ∀ (g' : mS) (H' : mw_H) (x5 x6 : Option Value), LI sc g' H' → mw_W mm_L_law 9 kc ks 2131 [some (.ref 0), some (.ref 1), some (.ref 43), some (.ref 55), some (.int (nI i)), x5, x6] [] H' Po) : mw_W mm_L_law 9 (kc + 5) (ks + 270) 1861 [some (.ref 0), some (.ref 1), some (.ref 43), some (.ref 55), some (.int (nI i)), x5, x6] [] H Po := by
  obtain ⟨hs, h56, ⟨sa, ma, hC⟩, ⟨I, A, hr, hM⟩, f, hO⟩ := hI
  have hscr := hs
  have hw := w_cut hC hO (sc.2 (i + 1))
  have hr1 := fun h => r_cut (M := 43) (h := h) hr (sc.2 (i + 1))
  generalize sp_cut g (sc.2 (i + 1)) = a at hw hr1
  refine mw_aload_n (i := 1) dL_law_1861 rfl rfl ?_
  refine mw_aload_n (i := 0) dL_law_1862 rfl rfl ?_
  refine mw_iload (i := 4) dL_law_1863 rfl ?_
  refine mw_iconst (v := 1) dL_law_1865 (by decide) ?_
  refine mw_iadd dL_law_1866 ?_
  refine mw_sldx dL_law_1867 hscr (lx_1 hL hi) ?_
  refine mw_aload_n (i := 3) dL_law_1868 rfl rfl ?_
  refine mw_callSX dL_law_1869 mk_L_208 (hw) (by decide) (Nat.le_refl _) (Nat.le_refl _) rfl rfl (Nat.le_of_ble_eq_true rfl) (fun E9 h9 q9 => ?_) (fun v9 h9 q9 => ?_)
  · cases q9.2.2.2
  obtain ⟨hG, ⟨sa', ma', hC'⟩, ⟨f', hO', hf⟩, e9⟩ := q9
  cases e9
  have hM' : gm 43 h9 I A = h9 := gm_self (fun j hj => hG.2.2 _ _ (by omega) (by omega) (hM j hj))
  have hs' : h9.2.2 = sc := hG.2.1.trans hs
  have hle : 56 ≤ h9.1 := Nat.le_trans h56 hG.1
  rw [← hM']
  clear hscr
  have hscr : (gm 43 h9 I A).2.2 = sc := hs'
  have h_new8 : mw_g (gm 43 h9 I A) 43 = _ := gm_0
  refine mw_istore_5 dL_law_1872 (by decide) ?_
  refine mw_aload_n (i := 2) dL_law_1874 rfl rfl ?_
  refine mw_aload_n (i := 0) dL_law_1875 rfl rfl ?_
  refine mw_iload (i := 4) dL_law_1876 rfl ?_
  refine mw_iconst (v := 1) dL_law_1878 (by decide) ?_
  refine mw_iadd dL_law_1879 ?_
  refine mw_sldx dL_law_1880 hscr (lx_1 hL hi) ?_
  refine mw_callV dL_law_1881 mk_L_210 h_new8 rfl (hr1 h9) (by decide) (Nat.le_refl _) (Nat.le_refl _) rfl rfl (Nat.le_of_ble_eq_true rfl) (fun E8 h8 q8 => ?_) (fun v8 h8 q8 => ?_)
  · cases q8.1
  obtain ⟨e7, I', A', rfl, h0, hr'⟩ := q8
  cases e7
  have h_new8 : mw_g (gm 43 h9 I' A') 43 = _ := gm_0
  have h_new17 := (gm_out (M := 43) (h := h9) (I := I') (A := A') (by decide)).trans hO'
  refine mw_istore_6 dL_law_1884 (by decide) ?_
  refine mw_aload_n (i := 2) dL_law_1886 rfl rfl ?_
  refine mw_callVr dL_law_1887 mk_L_126 h_new8 rfl (c_thrown) (by decide) (Nat.le_refl _) (Nat.le_refl _) rfl rfl (Nat.le_of_ble_eq_true rfl) ?_
  rw [h0]
  by_cases e0 : a.1 = 0
  · have hf := hf e0
    refine mw_iload (i := 5) dL_law_1890 rfl ?_
    refine mw_icmp_eq (tgt := 1897) dL_law_1892 (by decide) (fun _ => ?_) (fun c9 => absurd c9 (fun z => z rfl))
    refine mw_iload (i := 5) dL_law_1897 rfl ?_
    refine mw_if_ne (tgt := 1914) dL_law_1899 (by decide) (fun c9 => absurd c9 (fun z => z e0)) (fun _ => ?_)
    refine mw_aload_n (i := 3) dL_law_1902 rfl rfl ?_
    refine mw_iconst (v := 0) dL_law_1903 (by decide) ?_
    refine mw_lald dL_law_1904 h_new17 (mw_ix (j := 0) rfl (by decide) (by decide)) ?_
    rw [hf]
    refine mw_iload (i := 6) dL_law_1905 rfl ?_
    refine mw_i2l dL_law_1907 rfl ?_
    refine mw_lcmp dL_law_1908 ?_
    rw [show a.2.1.toInt64 = cvI a.2.1 from rfl, lg_same]
    refine mw_if_eq (tgt := 1914) dL_law_1909 (by decide) (fun _ => ?_) (fun c9 => absurd c9 (by first | decide | (rw [pk_us]; decide)))
    refine mw_goto (tgt := 2131) dL_law_1914 (by decide) ?_
    exact K _ _ _ _ (LI_mk hs' hle hC' hr' hO')
  · refine mw_iload (i := 5) dL_law_1890 rfl ?_
    refine mw_icmp_eq (tgt := 1897) dL_law_1892 (by decide) (fun _ => ?_) (fun c9 => absurd c9 (fun z => z rfl))
    refine mw_iload (i := 5) dL_law_1897 rfl ?_
    refine mw_if_ne (tgt := 1914) dL_law_1899 (by decide) (fun _ => ?_) (fun c9 => absurd c9 e0)
    refine mw_goto (tgt := 2131) dL_law_1914 (by decide) ?_
    exact K _ _ _ _ (LI_mk hs' hle hC' hr' hO')
theorem lc_length (hL : sc.1 ≤ 2560) (hI : LI sc g H) (hi : i + 5 ≤ sc.1) (x5 x6 : Option Value) (K : ∀ (g' : mS) (H' : mw_H) (x5 x6 : Option Value), LI sc g' H' → mw_W mm_L_law 9 kc ks 2131 [some (.ref 0), some (.ref 1), some (.ref 43), some (.ref 55), some (.int (nI i)), x5, x6] [] H' Po) : mw_W mm_L_law 9 (kc + 5) (ks + 270) 1917 [some (.ref 0), some (.ref 1), some (.ref 43), some (.ref 55), some (.int (nI i)), x5, x6] [] H Po := by
  obtain ⟨hs, h56, ⟨sa, ma, hC⟩, ⟨I, A, hr, hM⟩, f, hO⟩ := hI
  have hscr := hs
  have h_new0 := cC_x hC
  have hw := k_length hC
  have hr1 := fun h => r_length (M := 43) (h := h) hr
  generalize sp_length g = a at hw hr1
  refine mw_aload_n (i := 1) dL_law_1917 rfl rfl ?_
  refine mw_callV dL_law_1918 mk_L_211 h_new0 rfl (hw) (by decide) (Nat.le_refl _) (Nat.le_refl _) rfl rfl (Nat.le_of_ble_eq_true rfl) (fun E9 h9 q9 => ?_) (fun v9 h9 q9 => ?_)
  · obtain ⟨-, -, ⟨-, z⟩ | ⟨k, hk, -⟩⟩ := q9
    · cases z
    · exact absurd hk (Nat.not_lt_zero _)
  obtain ⟨hG, ⟨sa', ma', hC'⟩, ⟨z1, z2⟩ | ⟨k, hk, -⟩⟩ := q9
  case inr => exact absurd hk (Nat.not_lt_zero _)
  cases z2
  have hO' := hG.2.2 55 _ (by decide) (by decide) hO
  have hM' : gm 43 h9 I A = h9 := gm_self (fun j hj => hG.2.2 _ _ (by omega) (by omega) (hM j hj))
  have hs' : h9.2.2 = sc := hG.2.1.trans hs
  have hle : 56 ≤ h9.1 := Nat.le_trans h56 hG.1
  rw [← hM']
  have h_new8 : mw_g (gm 43 h9 I A) 43 = _ := gm_0
  refine mw_aload_n (i := 2) dL_law_1921 rfl rfl ?_
  refine mw_callV dL_law_1922 mk_L_214 h_new8 rfl (hr1 h9) (by decide) (Nat.le_refl _) (Nat.le_refl _) rfl rfl (Nat.le_of_ble_eq_true rfl) (fun E8 h8 q8 => ?_) (fun v8 h8 q8 => ?_)
  · cases q8.1
  obtain ⟨e7, I', A', rfl, h0, hr'⟩ := q8
  cases e7
  refine mw_icmp_eq (tgt := 2131) dL_law_1925 (by decide) (fun _ => ?_) (fun c9 => absurd c9 (fun z => z rfl))
  exact mw_less (Nat.le_add_right _ _) (Nat.le_add_right _ _) (K _ _ _ _ (LI_mk hs' hle hC' hr' hO'))
theorem lc_byteAt (hL : sc.1 ≤ 2560) (hI : LI sc g H) (hi : i + 5 ≤ sc.1) (x5 x6 : Option Value) (K : ∀ (g' : mS) (H' : mw_H) (x5 x6 : Option Value), LI sc g' H' → mw_W mm_L_law 9 kc ks 2131 [some (.ref 0), some (.ref 1), some (.ref 43), some (.ref 55), some (.int (nI i)), x5, x6] [] H' Po) : mw_W mm_L_law 9 (kc + 5) (ks + 270) 1930 [some (.ref 0), some (.ref 1), some (.ref 43), some (.ref 55), some (.int (nI i)), x5, x6] [] H Po := by
  obtain ⟨hs, h56, ⟨sa, ma, hC⟩, ⟨I, A, hr, hM⟩, f, hO⟩ := hI
  have hscr := hs
  have hw := w_byteAt hC hO (sc.2 (i + 1))
  have hr1 := fun h => r_byteAt (M := 43) (h := h) hr (sc.2 (i + 1))
  generalize sp_byteAt g (sc.2 (i + 1)) = a at hw hr1
  refine mw_aload_n (i := 1) dL_law_1930 rfl rfl ?_
  refine mw_aload_n (i := 0) dL_law_1931 rfl rfl ?_
  refine mw_iload (i := 4) dL_law_1932 rfl ?_
  refine mw_iconst (v := 1) dL_law_1934 (by decide) ?_
  refine mw_iadd dL_law_1935 ?_
  refine mw_sldx dL_law_1936 hscr (lx_1 hL hi) ?_
  refine mw_aload_n (i := 3) dL_law_1937 rfl rfl ?_
  refine mw_callSX dL_law_1938 mk_L_215 (hw) (by decide) (Nat.le_refl _) (Nat.le_refl _) rfl rfl (Nat.le_of_ble_eq_true rfl) (fun E9 h9 q9 => ?_) (fun v9 h9 q9 => ?_)
  · cases q9.2.2.2
  obtain ⟨hG, ⟨sa', ma', hC'⟩, ⟨f', hO', hf⟩, e9⟩ := q9
  cases e9
  have hM' : gm 43 h9 I A = h9 := gm_self (fun j hj => hG.2.2 _ _ (by omega) (by omega) (hM j hj))
  have hs' : h9.2.2 = sc := hG.2.1.trans hs
  have hle : 56 ≤ h9.1 := Nat.le_trans h56 hG.1
  rw [← hM']
  clear hscr
  have hscr : (gm 43 h9 I A).2.2 = sc := hs'
  have h_new8 : mw_g (gm 43 h9 I A) 43 = _ := gm_0
  refine mw_istore_5 dL_law_1941 (by decide) ?_
  refine mw_aload_n (i := 2) dL_law_1943 rfl rfl ?_
  refine mw_aload_n (i := 0) dL_law_1944 rfl rfl ?_
  refine mw_iload (i := 4) dL_law_1945 rfl ?_
  refine mw_iconst (v := 1) dL_law_1947 (by decide) ?_
  refine mw_iadd dL_law_1948 ?_
  refine mw_sldx dL_law_1949 hscr (lx_1 hL hi) ?_
  refine mw_callV dL_law_1950 mk_L_217 h_new8 rfl (hr1 h9) (by decide) (Nat.le_refl _) (Nat.le_refl _) rfl rfl (Nat.le_of_ble_eq_true rfl) (fun E8 h8 q8 => ?_) (fun v8 h8 q8 => ?_)
  · cases q8.1
  obtain ⟨e7, I', A', rfl, h0, hr'⟩ := q8
  cases e7
  have h_new8 : mw_g (gm 43 h9 I' A') 43 = _ := gm_0
  have h_new17 := (gm_out (M := 43) (h := h9) (I := I') (A := A') (by decide)).trans hO'
  refine mw_istore_6 dL_law_1953 (by decide) ?_
  refine mw_aload_n (i := 2) dL_law_1955 rfl rfl ?_
  refine mw_callVr dL_law_1956 mk_L_126 h_new8 rfl (c_thrown) (by decide) (Nat.le_refl _) (Nat.le_refl _) rfl rfl (Nat.le_of_ble_eq_true rfl) ?_
  rw [h0]
  by_cases e0 : a.1 = 0
  · have hf := hf e0
    refine mw_iload (i := 5) dL_law_1959 rfl ?_
    refine mw_icmp_eq (tgt := 1966) dL_law_1961 (by decide) (fun _ => ?_) (fun c9 => absurd c9 (fun z => z rfl))
    refine mw_iload (i := 5) dL_law_1966 rfl ?_
    refine mw_if_ne (tgt := 1983) dL_law_1968 (by decide) (fun c9 => absurd c9 (fun z => z e0)) (fun _ => ?_)
    refine mw_aload_n (i := 3) dL_law_1971 rfl rfl ?_
    refine mw_iconst (v := 0) dL_law_1972 (by decide) ?_
    refine mw_lald dL_law_1973 h_new17 (mw_ix (j := 0) rfl (by decide) (by decide)) ?_
    rw [hf]
    refine mw_iload (i := 6) dL_law_1974 rfl ?_
    refine mw_i2l dL_law_1976 rfl ?_
    refine mw_lcmp dL_law_1977 ?_
    rw [show a.2.1.toInt64 = cvI a.2.1 from rfl, lg_same]
    refine mw_if_eq (tgt := 1983) dL_law_1978 (by decide) (fun _ => ?_) (fun c9 => absurd c9 (by first | decide | (rw [pk_us]; decide)))
    refine mw_goto (tgt := 2131) dL_law_1983 (by decide) ?_
    exact K _ _ _ _ (LI_mk hs' hle hC' hr' hO')
  · refine mw_iload (i := 5) dL_law_1959 rfl ?_
    refine mw_icmp_eq (tgt := 1966) dL_law_1961 (by decide) (fun _ => ?_) (fun c9 => absurd c9 (fun z => z rfl))
    refine mw_iload (i := 5) dL_law_1966 rfl ?_
    refine mw_if_ne (tgt := 1983) dL_law_1968 (by decide) (fun _ => ?_) (fun c9 => absurd c9 e0)
    refine mw_goto (tgt := 2131) dL_law_1983 (by decide) ?_
    exact K _ _ _ _ (LI_mk hs' hle hC' hr' hO')
theorem lc_fault (hL : sc.1 ≤ 2560) (hI : LI sc g H) (hi : i + 5 ≤ sc.1) (x5 x6 : Option Value) (K : ∀ (g' : mS) (H' : mw_H) (x5 x6 : Option Value), LI sc g' H' → mw_W mm_L_law 9 kc ks 2131 [some (.ref 0), some (.ref 1), some (.ref 43), some (.ref 55), some (.int (nI i)), x5, x6] [] H' Po) : mw_W mm_L_law 9 (kc + 5) (ks + 270) 1986 [some (.ref 0), some (.ref 1), some (.ref 43), some (.ref 55), some (.int (nI i)), x5, x6] [] H Po := by
  obtain ⟨hs, h56, ⟨sa, ma, hC⟩, ⟨I, A, hr, hM⟩, f, hO⟩ := hI
  have hscr := hs
  have h_new0 := cC_x hC
  have hw := k_fault hC
  have hr1 := fun h => r_fault (M := 43) (h := h) hr
  generalize sp_fault g = a at hw hr1
  refine mw_aload_n (i := 1) dL_law_1986 rfl rfl ?_
  refine mw_callV dL_law_1987 mk_L_218 h_new0 rfl (hw) (by decide) (Nat.le_refl _) (Nat.le_refl _) rfl rfl (Nat.le_of_ble_eq_true rfl) (fun E9 h9 q9 => ?_) (fun v9 h9 q9 => ?_)
  · obtain ⟨-, -, ⟨-, z⟩ | ⟨k, hk, -⟩⟩ := q9
    · cases z
    · exact absurd hk (Nat.not_lt_zero _)
  obtain ⟨hG, ⟨sa', ma', hC'⟩, ⟨z1, z2⟩ | ⟨k, hk, -⟩⟩ := q9
  case inr => exact absurd hk (Nat.not_lt_zero _)
  cases z2
  have hO' := hG.2.2 55 _ (by decide) (by decide) hO
  have hM' : gm 43 h9 I A = h9 := gm_self (fun j hj => hG.2.2 _ _ (by omega) (by omega) (hM j hj))
  have hs' : h9.2.2 = sc := hG.2.1.trans hs
  have hle : 56 ≤ h9.1 := Nat.le_trans h56 hG.1
  rw [← hM']
  have h_new8 : mw_g (gm 43 h9 I A) 43 = _ := gm_0
  refine mw_aload_n (i := 2) dL_law_1990 rfl rfl ?_
  refine mw_callV dL_law_1991 mk_L_221 h_new8 rfl (hr1 h9) (by decide) (Nat.le_refl _) (Nat.le_refl _) rfl rfl (Nat.le_of_ble_eq_true rfl) (fun E8 h8 q8 => ?_) (fun v8 h8 q8 => ?_)
  · cases q8.1
  obtain ⟨e7, I', A', rfl, h0, hr'⟩ := q8
  cases e7
  refine mw_icmp_eq (tgt := 2131) dL_law_1994 (by decide) (fun _ => ?_) (fun c9 => absurd c9 (fun z => z rfl))
  exact mw_less (Nat.le_add_right _ _) (Nat.le_add_right _ _) (K _ _ _ _ (LI_mk hs' hle hC' hr' hO'))
theorem lc_faultAt (hL : sc.1 ≤ 2560) (hI : LI sc g H) (hi : i + 5 ≤ sc.1) (x5 x6 : Option Value) (K : ∀ (g' : mS) (H' : mw_H) (x5 x6 : Option Value), LI sc g' H' → mw_W mm_L_law 9 kc ks 2131 [some (.ref 0), some (.ref 1), some (.ref 43), some (.ref 55), some (.int (nI i)), x5, x6] [] H' Po) : mw_W mm_L_law 9 (kc + 5) (ks + 270) 1999 [some (.ref 0), some (.ref 1), some (.ref 43), some (.ref 55), some (.int (nI i)), x5, x6] [] H Po := by
  obtain ⟨hs, h56, ⟨sa, ma, hC⟩, ⟨I, A, hr, hM⟩, f, hO⟩ := hI
  have hscr := hs
  have h_new0 := cC_x hC
  have hw := k_faultAt hC
  have hr1 := fun h => r_faultAt (M := 43) (h := h) hr
  generalize sp_faultAt g = a at hw hr1
  refine mw_aload_n (i := 1) dL_law_1999 rfl rfl ?_
  refine mw_callV dL_law_2000 mk_L_222 h_new0 rfl (hw) (by decide) (Nat.le_refl _) (Nat.le_refl _) rfl rfl (Nat.le_of_ble_eq_true rfl) (fun E9 h9 q9 => ?_) (fun v9 h9 q9 => ?_)
  · obtain ⟨-, -, ⟨-, z⟩ | ⟨k, hk, -⟩⟩ := q9
    · cases z
    · exact absurd hk (Nat.not_lt_zero _)
  obtain ⟨hG, ⟨sa', ma', hC'⟩, ⟨z1, z2⟩ | ⟨k, hk, -⟩⟩ := q9
  case inr => exact absurd hk (Nat.not_lt_zero _)
  cases z2
  have hO' := hG.2.2 55 _ (by decide) (by decide) hO
  have hM' : gm 43 h9 I A = h9 := gm_self (fun j hj => hG.2.2 _ _ (by omega) (by omega) (hM j hj))
  have hs' : h9.2.2 = sc := hG.2.1.trans hs
  have hle : 56 ≤ h9.1 := Nat.le_trans h56 hG.1
  rw [← hM']
  have h_new8 : mw_g (gm 43 h9 I A) 43 = _ := gm_0
  refine mw_aload_n (i := 2) dL_law_2003 rfl rfl ?_
  refine mw_callV dL_law_2004 mk_L_225 h_new8 rfl (hr1 h9) (by decide) (Nat.le_refl _) (Nat.le_refl _) rfl rfl (Nat.le_of_ble_eq_true rfl) (fun E8 h8 q8 => ?_) (fun v8 h8 q8 => ?_)
  · cases q8.1
  obtain ⟨e7, I', A', rfl, h0, hr'⟩ := q8
  cases e7
  refine mw_icmp_eq (tgt := 2131) dL_law_2007 (by decide) (fun _ => ?_) (fun c9 => absurd c9 (fun z => z rfl))
  exact mw_less (Nat.le_add_right _ _) (Nat.le_add_right _ _) (K _ _ _ _ (LI_mk hs' hle hC' hr' hO'))
theorem lc_read (hL : sc.1 ≤ 2560) (hI : LI sc g H) (hi : i + 5 ≤ sc.1) (x5 x6 : Option Value) (K : ∀ (g' : mS) (H' : mw_H) (x5 x6 : Option Value), LI sc g' H' → mw_W mm_L_law 9 kc ks 2131 [some (.ref 0), some (.ref 1), some (.ref 43), some (.ref 55), some (.int (nI i)), x5, x6] [] H' Po) : mw_W mm_L_law 9 (kc + 5) (ks + 270) 2012 [some (.ref 0), some (.ref 1), some (.ref 43), some (.ref 55), some (.int (nI i)), x5, x6] [] H Po := by
  obtain ⟨hs, h56, ⟨sa, ma, hC⟩, ⟨I, A, hr, hM⟩, f, hO⟩ := hI
  have hscr := hs
  have hw := w_read hC h56 hO (sc.2 (i + 1))
  have hr1 := fun h => r_read (M := 43) (h := h) hr (sc.2 (i + 1))
  generalize sp_read g (sc.2 (i + 1)) = a at hw hr1
  refine mw_aload_n (i := 1) dL_law_2012 rfl rfl ?_
  refine mw_aload_n (i := 0) dL_law_2013 rfl rfl ?_
  refine mw_iload (i := 4) dL_law_2014 rfl ?_
  refine mw_iconst (v := 1) dL_law_2016 (by decide) ?_
  refine mw_iadd dL_law_2017 ?_
  refine mw_sldx dL_law_2018 hscr (lx_1 hL hi) ?_
  refine mw_aload_n (i := 3) dL_law_2019 rfl rfl ?_
  refine mw_callSX dL_law_2020 mk_L_226 (hw) (by decide) (Nat.le_refl _) (Nat.le_refl _) rfl rfl (Nat.le_of_ble_eq_true rfl) (fun E9 h9 q9 => ?_) (fun v9 h9 q9 => ?_)
  · cases q9.2.2.2
  obtain ⟨hG, ⟨sa', ma', hC'⟩, ⟨f', hO', hf⟩, e9⟩ := q9
  cases e9
  have hM' : gm 43 h9 I A = h9 := gm_self (fun j hj => hG.2.2 _ _ (by omega) (by omega) (hM j hj))
  have hs' : h9.2.2 = sc := hG.2.1.trans hs
  have hle : 56 ≤ h9.1 := Nat.le_trans h56 hG.1
  rw [← hM']
  clear hscr
  have hscr : (gm 43 h9 I A).2.2 = sc := hs'
  have h_new8 : mw_g (gm 43 h9 I A) 43 = _ := gm_0
  refine mw_istore_5 dL_law_2023 (by decide) ?_
  refine mw_aload_n (i := 2) dL_law_2025 rfl rfl ?_
  refine mw_aload_n (i := 0) dL_law_2026 rfl rfl ?_
  refine mw_iload (i := 4) dL_law_2027 rfl ?_
  refine mw_iconst (v := 1) dL_law_2029 (by decide) ?_
  refine mw_iadd dL_law_2030 ?_
  refine mw_sldx dL_law_2031 hscr (lx_1 hL hi) ?_
  refine mw_callV dL_law_2032 mk_L_228 h_new8 rfl (hr1 h9) (by decide) (Nat.le_refl _) (Nat.le_refl _) rfl rfl (Nat.le_of_ble_eq_true rfl) (fun E8 h8 q8 => ?_) (fun v8 h8 q8 => ?_)
  · cases q8.1
  obtain ⟨e7, I', A', rfl, h0, hr'⟩ := q8
  cases e7
  have h_new8 : mw_g (gm 43 h9 I' A') 43 = _ := gm_0
  have h_new17 := (gm_out (M := 43) (h := h9) (I := I') (A := A') (by decide)).trans hO'
  refine mw_istore_6 dL_law_2035 (by decide) ?_
  refine mw_aload_n (i := 2) dL_law_2037 rfl rfl ?_
  refine mw_callVr dL_law_2038 mk_L_126 h_new8 rfl (c_thrown) (by decide) (Nat.le_refl _) (Nat.le_refl _) rfl rfl (Nat.le_of_ble_eq_true rfl) ?_
  rw [h0]
  by_cases e0 : a.1 = 0
  · have hf := hf e0
    refine mw_iload (i := 5) dL_law_2041 rfl ?_
    refine mw_icmp_eq (tgt := 2048) dL_law_2043 (by decide) (fun _ => ?_) (fun c9 => absurd c9 (fun z => z rfl))
    refine mw_iload (i := 5) dL_law_2048 rfl ?_
    refine mw_if_ne (tgt := 2065) dL_law_2050 (by decide) (fun c9 => absurd c9 (fun z => z e0)) (fun _ => ?_)
    refine mw_aload_n (i := 3) dL_law_2053 rfl rfl ?_
    refine mw_iconst (v := 0) dL_law_2054 (by decide) ?_
    refine mw_lald dL_law_2055 h_new17 (mw_ix (j := 0) rfl (by decide) (by decide)) ?_
    rw [hf]
    refine mw_iload (i := 6) dL_law_2056 rfl ?_
    refine mw_i2l dL_law_2058 rfl ?_
    refine mw_lcmp dL_law_2059 ?_
    rw [show a.2.1.toInt64 = cvI a.2.1 from rfl, lg_same]
    refine mw_if_eq (tgt := 2065) dL_law_2060 (by decide) (fun _ => ?_) (fun c9 => absurd c9 (by first | decide | (rw [pk_us]; decide)))
    refine mw_goto (tgt := 2131) dL_law_2065 (by decide) ?_
    exact K _ _ _ _ (LI_mk hs' hle hC' hr' hO')
  · refine mw_iload (i := 5) dL_law_2041 rfl ?_
    refine mw_icmp_eq (tgt := 2048) dL_law_2043 (by decide) (fun _ => ?_) (fun c9 => absurd c9 (fun z => z rfl))
    refine mw_iload (i := 5) dL_law_2048 rfl ?_
    refine mw_if_ne (tgt := 2065) dL_law_2050 (by decide) (fun _ => ?_) (fun c9 => absurd c9 e0)
    refine mw_goto (tgt := 2131) dL_law_2065 (by decide) ?_
    exact K _ _ _ _ (LI_mk hs' hle hC' hr' hO')
theorem lc_isCanonical (hL : sc.1 ≤ 2560) (hI : LI sc g H) (hi : i + 5 ≤ sc.1) (x5 x6 : Option Value) (K : ∀ (g' : mS) (H' : mw_H) (x5 x6 : Option Value), LI sc g' H' → mw_W mm_L_law 9 kc ks 2131 [some (.ref 0), some (.ref 1), some (.ref 43), some (.ref 55), some (.int (nI i)), x5, x6] [] H' Po) : mw_W mm_L_law 9 (kc + 5) (ks + 270) 2068 [some (.ref 0), some (.ref 1), some (.ref 43), some (.ref 55), some (.int (nI i)), x5, x6] [] H Po := by
  obtain ⟨hs, h56, ⟨sa, ma, hC⟩, ⟨I, A, hr, hM⟩, f, hO⟩ := hI
  have hscr := hs
  have hw := w_isCanonical hC hO (sc.2 (i + 1))
  have hr1 := fun h => r_isCanonical (M := 43) (h := h) hr (sc.2 (i + 1))
  generalize sp_isCanonical g (sc.2 (i + 1)) = a at hw hr1
  refine mw_aload_n (i := 1) dL_law_2068 rfl rfl ?_
  refine mw_aload_n (i := 0) dL_law_2069 rfl rfl ?_
  refine mw_iload (i := 4) dL_law_2070 rfl ?_
  refine mw_iconst (v := 1) dL_law_2072 (by decide) ?_
  refine mw_iadd dL_law_2073 ?_
  refine mw_sldx dL_law_2074 hscr (lx_1 hL hi) ?_
  refine mw_aload_n (i := 3) dL_law_2075 rfl rfl ?_
  refine mw_callSX dL_law_2076 mk_L_229 (hw) (by decide) (Nat.le_refl _) (Nat.le_refl _) rfl rfl (Nat.le_of_ble_eq_true rfl) (fun E9 h9 q9 => ?_) (fun v9 h9 q9 => ?_)
  · cases q9.2.2.2
  obtain ⟨hG, ⟨sa', ma', hC'⟩, ⟨f', hO', hf⟩, e9⟩ := q9
  cases e9
  have hM' : gm 43 h9 I A = h9 := gm_self (fun j hj => hG.2.2 _ _ (by omega) (by omega) (hM j hj))
  have hs' : h9.2.2 = sc := hG.2.1.trans hs
  have hle : 56 ≤ h9.1 := Nat.le_trans h56 hG.1
  rw [← hM']
  clear hscr
  have hscr : (gm 43 h9 I A).2.2 = sc := hs'
  have h_new8 : mw_g (gm 43 h9 I A) 43 = _ := gm_0
  refine mw_istore_5 dL_law_2079 (by decide) ?_
  refine mw_aload_n (i := 2) dL_law_2081 rfl rfl ?_
  refine mw_aload_n (i := 0) dL_law_2082 rfl rfl ?_
  refine mw_iload (i := 4) dL_law_2083 rfl ?_
  refine mw_iconst (v := 1) dL_law_2085 (by decide) ?_
  refine mw_iadd dL_law_2086 ?_
  refine mw_sldx dL_law_2087 hscr (lx_1 hL hi) ?_
  refine mw_callV dL_law_2088 mk_L_231 h_new8 rfl (hr1 h9) (by decide) (Nat.le_refl _) (Nat.le_refl _) rfl rfl (Nat.le_of_ble_eq_true rfl) (fun E8 h8 q8 => ?_) (fun v8 h8 q8 => ?_)
  · cases q8.1
  obtain ⟨e7, I', A', rfl, h0, hr'⟩ := q8
  cases e7
  have h_new8 : mw_g (gm 43 h9 I' A') 43 = _ := gm_0
  have h_new17 := (gm_out (M := 43) (h := h9) (I := I') (A := A') (by decide)).trans hO'
  refine mw_istore_6 dL_law_2091 (by decide) ?_
  refine mw_aload_n (i := 2) dL_law_2093 rfl rfl ?_
  refine mw_callVr dL_law_2094 mk_L_126 h_new8 rfl (c_thrown) (by decide) (Nat.le_refl _) (Nat.le_refl _) rfl rfl (Nat.le_of_ble_eq_true rfl) ?_
  rw [h0]
  by_cases e0 : a.1 = 0
  · have hf := hf e0
    refine mw_iload (i := 5) dL_law_2097 rfl ?_
    refine mw_icmp_eq (tgt := 2104) dL_law_2099 (by decide) (fun _ => ?_) (fun c9 => absurd c9 (fun z => z rfl))
    refine mw_iload (i := 5) dL_law_2104 rfl ?_
    refine mw_if_ne (tgt := 2128) dL_law_2106 (by decide) (fun c9 => absurd c9 (fun z => z e0)) (fun _ => ?_)
    refine mw_aload_n (i := 3) dL_law_2109 rfl rfl ?_
    refine mw_iconst (v := 0) dL_law_2110 (by decide) ?_
    refine mw_lald dL_law_2111 h_new17 (mw_ix (j := 0) rfl (by decide) (by decide)) ?_
    rw [hf]
    unfold cvZ
    by_cases ez : a.2.1 = 0
    · rw [if_pos ez]
      refine mw_iload (i := 6) dL_law_2112 rfl ?_
      refine mw_if_eq (tgt := 2121) dL_law_2114 (by decide) (fun _ => ?_) (fun c9 => absurd c9 (fun z => z ez))
      refine mw_lconst (v := 0) dL_law_2121 (by decide) ?_
      refine mw_lcmp dL_law_2122 ?_
      rw [lg_same]
      refine mw_if_eq (tgt := 2128) dL_law_2123 (by decide) (fun _ => ?_) (fun c9 => absurd c9 (by first | decide | (rw [pk_us]; decide)))
      refine mw_goto (tgt := 2131) dL_law_2128 (by decide) ?_
      exact K _ _ _ _ (LI_mk hs' hle hC' hr' hO')
    · rw [if_neg ez]
      refine mw_iload (i := 6) dL_law_2112 rfl ?_
      refine mw_if_eq (tgt := 2121) dL_law_2114 (by decide) (fun c9 => absurd c9 ez) (fun _ => ?_)
      refine mw_lconst (v := 1) dL_law_2117 (by decide) ?_
      refine mw_goto (tgt := 2122) dL_law_2118 (by decide) ?_
      refine mw_lcmp dL_law_2122 ?_
      rw [lg_same]
      refine mw_if_eq (tgt := 2128) dL_law_2123 (by decide) (fun _ => ?_) (fun c9 => absurd c9 (by first | decide | (rw [pk_us]; decide)))
      refine mw_goto (tgt := 2131) dL_law_2128 (by decide) ?_
      exact K _ _ _ _ (LI_mk hs' hle hC' hr' hO')
  · refine mw_iload (i := 5) dL_law_2097 rfl ?_
    refine mw_icmp_eq (tgt := 2104) dL_law_2099 (by decide) (fun _ => ?_) (fun c9 => absurd c9 (fun z => z rfl))
    refine mw_iload (i := 5) dL_law_2104 rfl ?_
    refine mw_if_ne (tgt := 2128) dL_law_2106 (by decide) (fun _ => ?_) (fun c9 => absurd c9 e0)
    refine mw_goto (tgt := 2131) dL_law_2128 (by decide) ?_
    exact K _ _ _ _ (LI_mk hs' hle hC' hr' hO')
end LC
