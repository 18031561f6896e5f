/-! keeps: a copy, a message that goes: written by gen/84.py (class side) -/
/-- the least place of 0 .. 4 without a message, as free() tells it -/
def frP (g : mS) (lf : Int32) : Prop := (lf = -1 ∧ ∀ j, j < 5 → g.2.2.1 j ≠ none) ∨ ∃ f, f < 5 ∧ lf = nI f ∧ g.2.2.1 f = none ∧ ∀ j, j < f → g.2.2.1 j ≠ none
theorem fre_is {T : Nat → Option (Nat × List af)} {f : Nat} (hf : f < 12) (h0 : T f = none) (h : ∀ j, j < f → T j ≠ none) : fre T = f := by
  rcases Nat.lt_or_ge (fre T) f with z | z
  · exact absurd (of_decide_eq_true (fa_first_yes (fun m => decide (T m = none)) 12 (show fre T < 12 by omega))) (h _ z)
  · rcases Nat.lt_or_ge f (fre T) with z2 | z2
    · have h9 := fa_first_no (fun m => decide (T m = none)) 12 f z2
      rw [h0] at h9
      exact absurd h9 (by decide)
    · omega
theorem frP_12 {g : mS} {lf : Int32} (hfr : frP g lf) (h5 : g.2.2.1 5 = none) : fre g.2.2.1 < 12 ∧ ((lf = -1 ∧ fre g.2.2.1 = 5) ∨ (lf = nI (fre g.2.2.1) ∧ fre g.2.2.1 < 5 ∧ g.2.2.1 (fre g.2.2.1) = none)) := by
  rcases hfr with ⟨h1, h2⟩ | ⟨f, h1, h2, h3, h4⟩
  · have e := fre_is (f := 5) (by decide) h5 h2
    exact ⟨by rw [e]; decide, Or.inl ⟨h1, e⟩⟩
  · have e := fre_is (f := f) (by omega) h3 h4
    rw [e]
    exact ⟨by omega, Or.inr ⟨h2, h1, h3⟩⟩
theorem mR_set {g : mS} {A A' : Nat → Nat → Int32} {X X' : Nat → Nat → Int64} {m s : Nat} {L : List af} (hM : mR g A X) (hm : m < 5) (h0 : A' 0 = A 0) (h1 : A' 1 = A 1) (h8 : A' 8 = A 8) (g0 : A' 11 0 = A 11 0) (g1 : A' 11 1 = A 11 1) (h2 : A' 2 m = nI (s + 1)) (h2' : ∀ j, j ≠ m → A' 2 j = A 2 j) (hR : fR A' X' m L) (hR' : ∀ m' L, m' ≠ m → m' < 5 → fR A X m' L → fR A' X' m' L) : mR (gSet g m s L) A' X' := by
  obtain ⟨a1, a2, a3, a4, a5, a6, a7, a8⟩ := hM
  refine ⟨kR_cong a1 h0 h1, g0.trans a2, fun m' hm' => ?_, fun m' h5 h12 => ?_, g1.trans a5, a6, fun j hj => by rw [h8]; exact a7 j hj, fun j hj => by rw [h0]; exact a8 j hj⟩
  · by_cases e : m' = m
    · subst e
      have hT : (gSet g m' s L).2.2.1 m' = some (s, L) := if_pos rfl
      rw [hT]
      exact ⟨fun z => (by cases z), fun s' L' z => (by cases z; exact ⟨h2, hR⟩)⟩
    · have hT : (gSet g m s L).2.2.1 m' = g.2.2.1 m' := if_neg e
      rw [hT, h2' m' e]
      exact ⟨(a3 m' hm').1, fun s' L' z => ⟨((a3 m' hm').2 s' L' z).1, hR' m' L' e hm' ((a3 m' hm').2 s' L' z).2⟩⟩
  · have hT : (gSet g m s L).2.2.1 m' = g.2.2.1 m' := if_neg (by omega)
    rw [hT]
    exact a4 m' h5 h12
/-- a row is copied: the first j places -/
def cp {β : Type} (F : Nat → β) (a b j : Nat) : Nat → β := fun q => if a ≤ q ∧ q < a + j then F (b + (q - a)) else F q
theorem cp_0 {β : Type} (F : Nat → β) (a b : Nat) : cp F a b 0 = F := by
  funext q
  exact if_neg (by omega)
theorem cp_s (F : Nat → Int32) {a b j : Nat} (h : b + 12 ≤ a ∨ a + 12 ≤ b) (hj : j < 12) : upd (cp F a b j) (a + j) (cp F a b j (b + j)) = cp F a b (j + 1) := by
  funext q
  unfold upd cp
  by_cases e : q = a + j
  · subst e
    rw [if_pos rfl, if_neg (by omega), if_pos ⟨by omega, by omega⟩]
    congr 2
    omega
  · rw [if_neg e]
    by_cases c : a ≤ q ∧ q < a + j
    · rw [if_pos c, if_pos ⟨c.1, by omega⟩]
    · rw [if_neg c, if_neg (by omega)]
theorem cp_sL (F : Nat → Int64) {a b j : Nat} (h : b + 12 ≤ a ∨ a + 12 ≤ b) (hj : j < 12) : vf_upd (cp F a b j) (a + j) (cp F a b j (b + j)) = cp F a b (j + 1) := by
  funext q
  unfold vf_upd cp
  by_cases e : q = a + j
  · subst e
    rw [if_pos rfl, if_neg (by omega), if_pos ⟨by omega, by omega⟩]
    congr 2
    omega
  · rw [if_neg e]
    by_cases c : a ≤ q ∧ q < a + j
    · rw [if_pos c, if_pos ⟨c.1, by omega⟩]
    · rw [if_neg c, if_neg (by omega)]
def cpA (A : Nat → Nat → Int32) (a b j : Nat) : Nat → Nat → Int32 := va_up (va_up A 4 (cp (A 4) a b j)) 5 (cp (A 5) a b j)
def cpX (X : Nat → Nat → Int64) (a b j : Nat) : Nat → Nat → Int64 := va_up (va_up X 6 (cp (X 6) a b j)) 7 (cp (X 7) a b j)
theorem cpA_4 (A : Nat → Nat → Int32) (a b j : Nat) : cpA A a b j 4 = cp (A 4) a b j := rfl
theorem cpA_5 (A : Nat → Nat → Int32) (a b j : Nat) : cpA A a b j 5 = cp (A 5) a b j := rfl
theorem cpX_6 (X : Nat → Nat → Int64) (a b j : Nat) : cpX X a b j 6 = cp (X 6) a b j := rfl
theorem cpX_7 (X : Nat → Nat → Int64) (a b j : Nat) : cpX X a b j 7 = cp (X 7) a b j := rfl
theorem cpA_n (A : Nat → Nat → Int32) (a b j : Nat) {k : Nat} (h4 : k ≠ 4) (h5 : k ≠ 5) : cpA A a b j k = A k := by
  unfold cpA
  rw [va_up_ne _ _ h5, va_up_ne _ _ h4]
theorem cpA_0 (A : Nat → Nat → Int32) (a b : Nat) : cpA A a b 0 = A := by
  unfold cpA
  rw [cp_0, cp_0, up_same, up_same]
theorem cpX_0 (X : Nat → Nat → Int64) (a b : Nat) : cpX X a b 0 = X := by
  unfold cpX
  rw [cp_0, cp_0]
  funext j
  unfold va_up
  by_cases e : j = 7
  · rw [if_pos e, e]
  · rw [if_neg e]
    by_cases e2 : j = 6
    · rw [if_pos e2, e2]
    · rw [if_neg e2]
theorem cpA_s (A : Nat → Nat → Int32) {a b j : Nat} (h : b + 12 ≤ a ∨ a + 12 ≤ b) (hj : j < 12) : va_up (va_up (cpA A a b j) 4 (upd (cpA A a b j 4) (a + j) (cpA A a b j 4 (b + j)))) 5 (upd (va_up (cpA A a b j) 4 (upd (cpA A a b j 4) (a + j) (cpA A a b j 4 (b + j))) 5) (a + j) (va_up (cpA A a b j) 4 (upd (cpA A a b j 4) (a + j) (cpA A a b j 4 (b + j))) 5 (b + j))) = cpA A a b (j + 1) := by
  rw [va_up_ne _ _ (show 5 ≠ 4 by decide), cpA_4, cpA_5, cp_s _ h hj, cp_s _ h hj]
  unfold cpA
  rw [up2 A (by decide)]
theorem cpX_s (X : Nat → Nat → Int64) {a b j : Nat} (h : b + 12 ≤ a ∨ a + 12 ≤ b) (hj : j < 12) : va_up (va_up (cpX X a b j) 6 (vf_upd (cpX X a b j 6) (a + j) (cpX X a b j 6 (b + j)))) 7 (vf_upd (va_up (cpX X a b j) 6 (vf_upd (cpX X a b j 6) (a + j) (cpX X a b j 6 (b + j))) 7) (a + j) (va_up (cpX X a b j) 6 (vf_upd (cpX X a b j 6) (a + j) (cpX X a b j 6 (b + j))) 7 (b + j))) = cpX X a b (j + 1) := by
  rw [va_up_ne _ _ (show 7 ≠ 6 by decide), cpX_6, cpX_7, cp_sL _ h hj, cp_sL _ h hj]
  unfold cpX
  rw [up2 X (by decide)]
section K1
variable {sc : mSc} {g : mS} {H : mw_H} {A : Nat → Nat → Int32} {X : Nat → Nat → Int64} {s m i p s0 s2 : Nat} {L L2 : List af} {lf act y : Int32}
theorem lp_copy (hm : m < 5) {f n : Nat} (hf : f < 5) (hfm : f ≠ m) {B : Nat → Nat → Int32} (hn : B 3 m = nI n) (hn12 : n ≤ 12) {x22 x23 x24 x25 x26 x27 x28 x29 x30 x31 x32 x33 x34 x35 x36 x37 x38 x39 x40 x41 : Option Value} (k : mw_W mm_L_keeps 10 12 560 475 (some (.ref 1) :: some (.int act) :: some (.int y) :: some (.ref 43) :: some (.ref 44) :: some (.ref 45) :: some (.ref 46) :: some (.ref 47) :: some (.ref 48) :: some (.ref 49) :: some (.ref 50) :: some (.ref 51) :: some (.ref 52) :: some (.ref 54) :: some (.int (nI f)) :: some (.int (nI s0)) :: some (.int (nI m)) :: some (.int (nI (tg i))) :: some (.int (zKind g.2.1 s (nI (tg i)))) :: some (.int (lir (Pt g.2.1 s (nI (tg i))) (12 * m) L)) :: some (.int (nI p)) :: some (.int (nI n)) :: x22 :: x23 :: x24 :: x25 :: x26 :: x27 :: x28 :: x29 :: x30 :: x31 :: x32 :: x33 :: x34 :: x35 :: x36 :: x37 :: x38 :: x39 :: x40 :: x41 :: []) [] (gl H (cpA B (12 * f) (12 * m) (n)) (cpX X (12 * f) (12 * m) (n))) (lwP sc)) : ∀ (q j : Nat), j + q = n → mw_W mm_L_keeps 10 12 560 371 (some (.ref 1) :: some (.int act) :: some (.int y) :: some (.ref 43) :: some (.ref 44) :: some (.ref 45) :: some (.ref 46) :: some (.ref 47) :: some (.ref 48) :: some (.ref 49) :: some (.ref 50) :: some (.ref 51) :: some (.ref 52) :: some (.ref 54) :: some (.int (nI f)) :: some (.int (nI s0)) :: some (.int (nI m)) :: some (.int (nI (tg i))) :: some (.int (zKind g.2.1 s (nI (tg i)))) :: some (.int (lir (Pt g.2.1 s (nI (tg i))) (12 * m) L)) :: some (.int (nI p)) :: some (.int (nI j)) :: x22 :: x23 :: x24 :: x25 :: x26 :: x27 :: x28 :: x29 :: x30 :: x31 :: x32 :: x33 :: x34 :: x35 :: x36 :: x37 :: x38 :: x39 :: x40 :: x41 :: []) [] (gl H (cpA B (12 * f) (12 * m) (j)) (cpX X (12 * f) (12 * m) (j))) (lwP sc) := by
  intro q
  have hdis : 12 * m + 12 ≤ 12 * f ∨ 12 * f + 12 ≤ 12 * m := by omega
  induction q with
  | zero =>
    intro j hj
    have hj : j = n := by omega
    subst hj
    refine mw_iload (i := 21) dL_keeps_371 rfl ?_
    refine mw_aload (i := 6) dL_keeps_373 rfl ?_
    refine mw_iload (i := 16) dL_keeps_375 rfl ?_
    refine mw_iald dL_keeps_377 gl_3 (mw_ix rfl hm (by decide)) ?_
    refine mw_top ((congrFun (cpA_n B _ _ _ (by decide) (by decide)) m).trans hn) ?_
    refine mw_icmp_ge (tgt := 475) dL_keeps_378 (by decide) (fun _ => ?_) (fun c9 => absurd c9 (by first | decide | exact (fun q => q rfl) | ((try simp only [fa_lit]); first | exact cq_le (by omega) (by omega) | exact cq_nle (by omega) (by omega) | exact cq_lt (by omega) (by omega) | exact cq_nlt (by omega) (by omega) | exact cq_eq (by omega) (by omega) (by omega) | exact cq_neq (by omega))))
    exact k
  | succ q ih =>
    intro j hj
    have ih := ih (j + 1) (by omega)
    refine mw_iload (i := 21) dL_keeps_371 rfl ?_
    refine mw_aload (i := 6) dL_keeps_373 rfl ?_
    refine mw_iload (i := 16) dL_keeps_375 rfl ?_
    refine mw_iald dL_keeps_377 gl_3 (mw_ix rfl hm (by decide)) ?_
    refine mw_top ((congrFun (cpA_n B _ _ _ (by decide) (by decide)) m).trans hn) ?_
    refine mw_icmp_ge (tgt := 475) dL_keeps_378 (by decide) (fun c9 => absurd c9 (by first | decide | exact (fun q => q rfl) | ((try simp only [fa_lit]); first | exact cq_le (by omega) (by omega) | exact cq_nle (by omega) (by omega) | exact cq_lt (by omega) (by omega) | exact cq_nlt (by omega) (by omega) | exact cq_eq (by omega) (by omega) (by omega) | exact cq_neq (by omega)))) (fun _ => ?_)
    refine mw_aload (i := 7) dL_keeps_381 rfl ?_
    refine mw_bipush (v := 12) dL_keeps_383 (by decide) ?_
    refine mw_iload (i := 14) dL_keeps_385 rfl ?_
    refine mw_imul dL_keeps_387 ?_
    refine mw_iload (i := 21) dL_keeps_388 rfl ?_
    refine mw_iadd dL_keeps_390 ?_
    refine mw_aload (i := 7) dL_keeps_391 rfl ?_
    refine mw_bipush (v := 12) dL_keeps_393 (by decide) ?_
    refine mw_iload (i := 16) dL_keeps_395 rfl ?_
    refine mw_imul dL_keeps_397 ?_
    refine mw_iload (i := 21) dL_keeps_398 rfl ?_
    refine mw_iadd dL_keeps_400 ?_
    refine mw_iald dL_keeps_401 gl_4 (mw_ix (mx_12 m j) (by omega) (by decide)) ?_
    refine gl_st4 dL_keeps_402 (mw_ix (mx_12 f j) (by omega) (by decide)) ?_
    refine mw_aload (i := 8) dL_keeps_403 rfl ?_
    refine mw_bipush (v := 12) dL_keeps_405 (by decide) ?_
    refine mw_iload (i := 14) dL_keeps_407 rfl ?_
    refine mw_imul dL_keeps_409 ?_
    refine mw_iload (i := 21) dL_keeps_410 rfl ?_
    refine mw_iadd dL_keeps_412 ?_
    refine mw_aload (i := 8) dL_keeps_413 rfl ?_
    refine mw_bipush (v := 12) dL_keeps_415 (by decide) ?_
    refine mw_iload (i := 16) dL_keeps_417 rfl ?_
    refine mw_imul dL_keeps_419 ?_
    refine mw_iload (i := 21) dL_keeps_420 rfl ?_
    refine mw_iadd dL_keeps_422 ?_
    refine mw_iald dL_keeps_423 gl_5 (mw_ix (mx_12 m j) (by omega) (by decide)) ?_
    refine gl_st5 dL_keeps_424 (mw_ix (mx_12 f j) (by omega) (by decide)) ?_
    refine mw_aload (i := 9) dL_keeps_425 rfl ?_
    refine mw_bipush (v := 12) dL_keeps_427 (by decide) ?_
    refine mw_iload (i := 14) dL_keeps_429 rfl ?_
    refine mw_imul dL_keeps_431 ?_
    refine mw_iload (i := 21) dL_keeps_432 rfl ?_
    refine mw_iadd dL_keeps_434 ?_
    refine mw_aload (i := 9) dL_keeps_435 rfl ?_
    refine mw_bipush (v := 12) dL_keeps_437 (by decide) ?_
    refine mw_iload (i := 16) dL_keeps_439 rfl ?_
    refine mw_imul dL_keeps_441 ?_
    refine mw_iload (i := 21) dL_keeps_442 rfl ?_
    refine mw_iadd dL_keeps_444 ?_
    refine mw_lald dL_keeps_445 gl_6 (mw_ix (mx_12 m j) (by omega) (by decide)) ?_
    refine gl_st6 dL_keeps_446 (mw_ix (mx_12 f j) (by omega) (by decide)) ?_
    refine mw_aload (i := 10) dL_keeps_447 rfl ?_
    refine mw_bipush (v := 12) dL_keeps_449 (by decide) ?_
    refine mw_iload (i := 14) dL_keeps_451 rfl ?_
    refine mw_imul dL_keeps_453 ?_
    refine mw_iload (i := 21) dL_keeps_454 rfl ?_
    refine mw_iadd dL_keeps_456 ?_
    refine mw_aload (i := 10) dL_keeps_457 rfl ?_
    refine mw_bipush (v := 12) dL_keeps_459 (by decide) ?_
    refine mw_iload (i := 16) dL_keeps_461 rfl ?_
    refine mw_imul dL_keeps_463 ?_
    refine mw_iload (i := 21) dL_keeps_464 rfl ?_
    refine mw_iadd dL_keeps_466 ?_
    refine mw_lald dL_keeps_467 gl_7 (mw_ix (mx_12 m j) (by omega) (by decide)) ?_
    refine gl_st7 dL_keeps_468 (mw_ix (mx_12 f j) (by omega) (by decide)) ?_
    refine mw_iinc_21 dL_keeps_469 (by decide) rfl ?_
    refine mw_goto (tgt := 371) dL_keeps_472 (by decide) ?_
    refine mw_hp (gl_cong (cpA_s B hdis (by omega)) (cpX_s X hdis (by omega))) ?_
    rw [show nI j + Int32.ofInt 1 = nI (j + 1) from nI_1 _]
    exact ih
theorem kp_copy (hI : cS sc g H A X) (hM : mR g A X) (hfr : frP g lf) (hs0 : s0 < g.1) (hm : m < 5) (hT : g.2.2.1 m = some (s, L)) (hi : i < 6) (hp : p < 5) (hTp : g.2.2.1 p = some (s2, L2)) {x21 x22 x23 x24 x25 x26 x27 x28 x29 x30 x31 x32 x33 x34 x35 x36 x37 x38 x39 x40 x41 : Option Value} : mw_W mm_L_keeps 10 12 560 328 (some (.ref 1) :: some (.int act) :: some (.int y) :: some (.ref 43) :: some (.ref 44) :: some (.ref 45) :: some (.ref 46) :: some (.ref 47) :: some (.ref 48) :: some (.ref 49) :: some (.ref 50) :: some (.ref 51) :: some (.ref 52) :: some (.ref 54) :: some (.int (lf)) :: some (.int (nI s0)) :: some (.int (nI m)) :: some (.int (nI (tg i))) :: some (.int (zKind g.2.1 s (nI (tg i)))) :: some (.int (lir (Pt g.2.1 s (nI (tg i))) (12 * m) L)) :: some (.int (nI p)) :: x21 :: x22 :: x23 :: x24 :: x25 :: x26 :: x27 :: x28 :: x29 :: x30 :: x31 :: x32 :: x33 :: x34 :: x35 :: x36 :: x37 :: x38 :: x39 :: x40 :: x41 :: []) [] (gl H A X) (lwP sc) := by
  have hgok := cS_ok hI
  have hns4 := mR_ns hM
  have ht := tg_in hi
  obtain ⟨hk, hg0, hms, hmo, hg1, h64, htp, -⟩ := id hM
  obtain ⟨hs, hok, h120⟩ := hgok.2.2.2.1 m s L (by omega) hT
  obtain ⟨hA, hR⟩ := (hms m hm).2 s L hT
  have h12 := hR.2.1
  have hsM := sM_at (g := g) (by omega) hT
  have hsS := sS_at hgok.1 hs0
  obtain ⟨f12, hf⟩ := frP_12 hfr (hmo 5 (by decide) (by decide))
  rcases hf with ⟨rfl, hf5⟩ | ⟨hlf, hf5, hTf⟩
  · have hsp : sp_weight g 5 = (1, 0, g) := by
      unfold sp_weight
      rw [show sM g 5 = none from sM_no (m := 5) (by decide) (hmo 5 (by decide) (by decide))]
    have hw := w_weight hI 5
    rw [hsp] at hw
    refine mw_iload (i := 14) dL_keeps_328 rfl ?_
    refine mw_if_ge (tgt := 349) dL_keeps_330 (by decide) (fun c9 => absurd c9 (by first | decide | exact (fun q => q rfl))) (fun _ => ?_)
    refine mw_aload_n (i := 0) dL_keeps_333 rfl rfl ?_
    refine mw_iconst (v := 5) dL_keeps_334 (by decide) ?_
    refine mw_callSX dL_keeps_335 mk_L_152 (hw) (by decide) (Nat.le_refl _) (Nat.le_refl _) rfl rfl (Nat.le_of_ble_eq_true rfl) (fun E9 h9 q9 => ?_) (fun v9 h9 q9 => ?_)
    · cases q9.1
    obtain ⟨e9, H1, rfl, hI⟩ := q9
    cases e9
    refine mw_bipush (v := -71) dL_keeps_338 (by decide) ?_
    refine mw_icmp_ne (tgt := 347) dL_keeps_340 (by decide) (fun c9 => absurd c9 (by first | decide | exact (fun q => q rfl))) (fun _ => ?_)
    refine mw_iconst (v := 1) dL_keeps_343 (by decide) ?_
    refine mw_goto (tgt := 348) dL_keeps_344 (by decide) ?_
    exact mw_ireturn dL_keeps_348 ⟨_, rfl, rfl⟩ ⟨rfl, _, _, _, _, rfl, hI, hM⟩
  · have hsp : sp_copy g (nI m) (nI s0) = (0, nI (fre g.2.2.1), gSet g (fre g.2.2.1) s0 L) := by
      unfold sp_copy
      rw [hsM, hsS]
      exact if_neg (by omega)
    rw [hlf]
    generalize fre g.2.2.1 = f at f12 hf5 hTf hsp ⊢
    have hfm : f ≠ m := fun z => by rw [z, hT] at hTf; cases hTf
    refine mw_iload (i := 14) dL_keeps_328 rfl ?_
    refine mw_if_ge (tgt := 349) dL_keeps_330 (by decide) (fun _ => ?_) (fun c9 => absurd c9 (cq_nle (a := 0) (Nat.zero_le _) (by omega)))
    refine mw_aload (i := 5) dL_keeps_349 rfl ?_
    refine mw_iload (i := 14) dL_keeps_351 rfl ?_
    refine mw_iload (i := 15) dL_keeps_353 rfl ?_
    refine mw_iconst (v := 1) dL_keeps_355 (by decide) ?_
    refine mw_iadd dL_keeps_356 ?_
    rw [show nI s0 + 1 = nI (s0 + 1) from nI_1 _]
    refine gl_st2 dL_keeps_357 (mw_ix rfl (by omega) (by decide)) ?_
    refine mw_aload (i := 6) dL_keeps_358 rfl ?_
    refine mw_iload (i := 14) dL_keeps_360 rfl ?_
    refine mw_aload (i := 6) dL_keeps_362 rfl ?_
    refine mw_iload (i := 16) dL_keeps_364 rfl ?_
    refine mw_iald dL_keeps_366 gl_3 (mw_ix rfl hm (by decide)) ?_
    refine mw_top (show va_up A 2 (upd (A 2) f (nI (s0 + 1))) 3 m = nI L.length by rw [va_up_ne _ _ (by decide)]; exact hR.1) ?_
    refine gl_st3 dL_keeps_367 (mw_ix rfl (by omega) (by decide)) ?_
    refine mw_iconst (v := 0) dL_keeps_368 (by decide) ?_
    refine mw_istore_21 dL_keeps_369 (by decide) ?_
    generalize hB : va_up (va_up A 2 (upd (A 2) f (nI (s0 + 1)))) 3 (upd (va_up A 2 (upd (A 2) f (nI (s0 + 1))) 3) f (nI L.length)) = B
    have b2 : B 2 = upd (A 2) f (nI (s0 + 1)) := by rw [← hB, va_up_ne _ _ (by decide), va_up_self]
    have b3 : B 3 = upd (A 3) f (nI L.length) := by rw [← hB, va_up_self, va_up_ne _ _ (by decide)]
    have bn : ∀ j, j ≠ 2 → j ≠ 3 → B j = A j := fun j z2 z3 => by rw [← hB, va_up_ne _ _ z3, va_up_ne _ _ z2]
    have hcp := fun k => lp_copy (g := g) (H := H) (X := X) (sc := sc) (s := s) (i := i) (p := p) (s0 := s0) (L := L) (act := act) (y := y) hm (f := f) (n := L.length) hf5 hfm (B := B) (by rw [b3, pk_un hfm.symm]; exact hR.1) h12 (x22 := x22) (x23 := x23) (x24 := x24) (x25 := x25) (x26 := x26) (x27 := x27) (x28 := x28) (x29 := x29) (x30 := x30) (x31 := x31) (x32 := x32) (x33 := x33) (x34 := x34) (x35 := x35) (x36 := x36) (x37 := x37) (x38 := x38) (x39 := x39) (x40 := x40) (x41 := x41) k L.length 0 (Nat.zero_add _)
    rw [cpA_0, cpX_0] at hcp
    refine hcp ?_
    have hI := cS_gl (A' := cpA B (12 * f) (12 * m) L.length) (X' := cpX X (12 * f) (12 * m) L.length) hI
    have hw := d_copy hI (nI m) (nI s0) (by rw [hsp])
    rw [hsp] at hw
    refine mw_aload_n (i := 0) dL_keeps_475 rfl rfl ?_
    refine mw_iload (i := 16) dL_keeps_476 rfl ?_
    refine mw_iload (i := 15) dL_keeps_478 rfl ?_
    refine mw_callV dL_keeps_480 mk_L_154 (cS_o hI) rfl (hw) (by decide) (Nat.le_refl _) (Nat.le_refl _) rfl rfl (Nat.le_of_ble_eq_true rfl) (fun E9 h9 q9 => ?_) (fun v9 h9 q9 => ?_)
    · cases q9.1
    obtain ⟨e9, H1, rfl, hI⟩ := q9
    cases e9
    refine mw_iload (i := 14) dL_keeps_483 rfl ?_
    refine mw_icmp_ne (tgt := 492) dL_keeps_485 (by decide) (fun c9 => absurd c9 (by first | decide | exact (fun q => q rfl))) (fun _ => ?_)
    refine mw_iconst (v := 1) dL_keeps_488 (by decide) ?_
    refine mw_goto (tgt := 493) dL_keeps_489 (by decide) ?_
    refine mw_ireturn dL_keeps_493 ⟨_, rfl, rfl⟩ ⟨rfl, _, _, _, _, rfl, hI, ?_⟩
    have cn : ∀ j, j ≠ 2 → j ≠ 3 → j ≠ 4 → j ≠ 5 → cpA B (12 * f) (12 * m) L.length j = A j := fun j z2 z3 z4 z5 => by rw [cpA_n _ _ _ _ z4 z5, bn j z2 z3]
    refine mR_set hM hf5 (cn 0 (by decide) (by decide) (by decide) (by decide)) (cn 1 (by decide) (by decide) (by decide) (by decide)) (cn 8 (by decide) (by decide) (by decide) (by decide)) (by rw [cn 11 (by decide) (by decide) (by decide) (by decide)]) (by rw [cn 11 (by decide) (by decide) (by decide) (by decide)]) ?_ (fun j hj => ?_) ⟨?_, h12, fun j x hj => ?_⟩ (fun m' L' hm' hm5 hR' => ?_)
    · rw [cpA_n _ _ _ _ (by decide) (by decide), b2, pk_us]
    · rw [cpA_n _ _ _ _ (by decide) (by decide), b2, pk_un hj]
    · rw [cpA_n _ _ _ _ (by decide) (by decide), b3, pk_us]
    · have hjl := (List.getElem?_eq_some_iff.mp hj).1
      have h9 := hR.2.2 j x hj
      unfold fC bt2 at h9 ⊢
      have e : ∀ {β : Type} (F : Nat → β), cp F (12 * f) (12 * m) L.length (12 * f + j) = F (12 * m + j) := fun F => by
        unfold cp
        rw [if_pos ⟨by omega, by omega⟩]
        congr 1
        omega
      rw [cpA_4, cpA_5, cpX_6, cpX_7, e, e, e, e, bn 4 (by decide) (by decide), bn 5 (by decide) (by decide)]
      exact h9
    · have e : ∀ {β : Type} (F : Nat → β) (q : Nat), 12 * m' ≤ q → q < 12 * m' + 12 → cp F (12 * f) (12 * m) L.length q = F q := fun F q h1 h2 => by
        unfold cp
        rw [if_neg (by omega)]
      refine fR_cong hR' (by rw [cpA_n _ _ _ _ (by decide) (by decide), b3, pk_un hm']) (fun q h1 h2 => ?_)
      rw [cpA_4, cpA_5, cpX_6, cpX_7, e _ q h1 h2, e _ q h1 h2, e _ q h1 h2, e _ q h1 h2, bn 4 (by decide) (by decide), bn 5 (by decide) (by decide)]
      exact ⟨rfl, rfl, rfl, rfl⟩
theorem kp_discard (hI : cS sc g H A X) (hM : mR g A X) (hfr : frP g lf) (hs0 : s0 < g.1) (hm : m < 5) (hT : g.2.2.1 m = some (s, L)) (hi : i < 6) (hp : p < 5) (hTp : g.2.2.1 p = some (s2, L2)) {x21 x22 x23 x24 x25 x26 x27 x28 x29 x30 x31 x32 x33 x34 x35 x36 x37 x38 x39 x40 x41 : Option Value} : mw_W mm_L_keeps 10 12 560 494 (some (.ref 1) :: some (.int act) :: some (.int y) :: some (.ref 43) :: some (.ref 44) :: some (.ref 45) :: some (.ref 46) :: some (.ref 47) :: some (.ref 48) :: some (.ref 49) :: some (.ref 50) :: some (.ref 51) :: some (.ref 52) :: some (.ref 54) :: some (.int (lf)) :: some (.int (nI s0)) :: some (.int (nI m)) :: some (.int (nI (tg i))) :: some (.int (zKind g.2.1 s (nI (tg i)))) :: some (.int (lir (Pt g.2.1 s (nI (tg i))) (12 * m) L)) :: some (.int (nI p)) :: x21 :: x22 :: x23 :: x24 :: x25 :: x26 :: x27 :: x28 :: x29 :: x30 :: x31 :: x32 :: x33 :: x34 :: x35 :: x36 :: x37 :: x38 :: x39 :: x40 :: x41 :: []) [] (gl H A X) (lwP sc) := by
  have hgok := cS_ok hI
  have hns4 := mR_ns hM
  have ht := tg_in hi
  obtain ⟨hk, hg0, hms, hmo, hg1, h64, htp, -⟩ := id hM
  obtain ⟨hs, hok, h120⟩ := hgok.2.2.2.1 m s L (by omega) hT
  obtain ⟨hA, hR⟩ := (hms m hm).2 s L hT
  have h12 := hR.2.1
  have hsM := sM_at (g := g) (by omega) hT
  have hsS := sS_at hgok.1 hs0
  obtain ⟨j, hj, ej⟩ := and_nn y 12288
  have ej : y &&& 12288 = nI j := ej
  have hsp1 : sp_weight g (-1) = (1, 0, g) := by
    unfold sp_weight
    rw [sM_out (zi_neg (by decide))]
  have hdis : mw_W mm_L_keeps 10 12 560 523 (some (.ref 1) :: some (.int act) :: some (.int y) :: some (.ref 43) :: some (.ref 44) :: some (.ref 45) :: some (.ref 46) :: some (.ref 47) :: some (.ref 48) :: some (.ref 49) :: some (.ref 50) :: some (.ref 51) :: some (.ref 52) :: some (.ref 54) :: some (.int (lf)) :: some (.int (nI s0)) :: some (.int (nI m)) :: some (.int (nI (tg i))) :: some (.int (zKind g.2.1 s (nI (tg i)))) :: some (.int (lir (Pt g.2.1 s (nI (tg i))) (12 * m) L)) :: some (.int (nI p)) :: x21 :: x22 :: x23 :: x24 :: x25 :: x26 :: x27 :: x28 :: x29 :: x30 :: x31 :: x32 :: x33 :: x34 :: x35 :: x36 :: x37 :: x38 :: x39 :: x40 :: x41 :: []) [] (gl H A X) (lwP sc) := by
    have hsp : sp_discard g (nI m) = (0, nI L.length, (g.1, g.2.1, fun j => if j = m then none else g.2.2.1 j, g.2.2.2)) := by
      unfold sp_discard
      rw [hsM]
    have hI := cS_gl (A' := va_up A 2 (upd (A 2) m 0)) (X' := X) hI
    have hw := d_discard hI (nI m) (by rw [hsp])
    rw [hsp] at hw
    refine mw_aload (i := 5) dL_keeps_523 rfl ?_
    refine mw_iload (i := 16) dL_keeps_525 rfl ?_
    refine mw_iconst (v := 0) dL_keeps_527 (by decide) ?_
    refine gl_st2 dL_keeps_528 (mw_ix rfl hm (by decide)) ?_
    refine mw_aload_n (i := 0) dL_keeps_529 rfl rfl ?_
    refine mw_iload (i := 16) dL_keeps_530 rfl ?_
    refine mw_callV dL_keeps_532 mk_L_157 (cS_o hI) rfl (hw) (by decide) (Nat.le_refl _) (Nat.le_refl _) rfl rfl (Nat.le_of_ble_eq_true rfl) (fun E9 h9 q9 => ?_) (fun v9 h9 q9 => ?_)
    · cases q9.1
    obtain ⟨e9, H1, rfl, hI⟩ := q9
    cases e9
    have hsM2 : sM (g.1, g.2.1, fun j => if j = m then none else g.2.2.1 j, g.2.2.2) (nI m) = none := sM_no (by omega) (if_pos rfl)
    have hs2 : sp_weight (g.1, g.2.1, fun j => if j = m then none else g.2.2.1 j, g.2.2.2) (nI m) = (1, 0, (g.1, g.2.1, fun j => if j = m then none else g.2.2.1 j, g.2.2.2)) := by
      unfold sp_weight
      rw [hsM2]
    have hs3 : sp_set (g.1, g.2.1, fun j => if j = m then none else g.2.2.1 j, g.2.2.2) (nI m) 1 1 = (1, 0, (g.1, g.2.1, fun j => if j = m then none else g.2.2.1 j, g.2.2.2)) := by
      unfold sp_set
      rw [hsM2]
    have hw := w_weight hI (nI m)
    rw [hs2] at hw
    refine mw_aload (i := 6) dL_keeps_535 rfl ?_
    refine mw_iload (i := 16) dL_keeps_537 rfl ?_
    refine mw_iald dL_keeps_539 gl_3 (mw_ix rfl hm (by decide)) ?_
    refine mw_top (show va_up A 2 (upd (A 2) m 0) 3 m = nI L.length by rw [va_up_ne _ _ (by decide)]; exact hR.1) ?_
    refine mw_icmp_ne (tgt := 571) dL_keeps_540 (by decide) (fun c9 => absurd c9 (by first | decide | exact (fun q => q rfl))) (fun _ => ?_)
    refine mw_aload_n (i := 0) dL_keeps_543 rfl rfl ?_
    refine mw_iload (i := 16) dL_keeps_544 rfl ?_
    refine mw_callSX dL_keeps_546 mk_L_152 (hw) (by decide) (Nat.le_refl _) (Nat.le_refl _) rfl rfl (Nat.le_of_ble_eq_true rfl) (fun E9 h9 q9 => ?_) (fun v9 h9 q9 => ?_)
    · cases q9.1
    obtain ⟨e9, H2, rfl, hI⟩ := q9
    cases e9
    have hw := w_set hI (nI m) 1 1
    rw [hs3] at hw
    refine mw_bipush (v := -71) dL_keeps_549 (by decide) ?_
    refine mw_icmp_ne (tgt := 571) dL_keeps_551 (by decide) (fun c9 => absurd c9 (by first | decide | exact (fun q => q rfl))) (fun _ => ?_)
    refine mw_aload_n (i := 0) dL_keeps_554 rfl rfl ?_
    refine mw_iload (i := 16) dL_keeps_555 rfl ?_
    refine mw_iconst (v := 1) dL_keeps_557 (by decide) ?_
    refine mw_iconst (v := 1) dL_keeps_558 (by decide) ?_
    refine mw_callSX dL_keeps_559 mk_L_160 (hw) (by decide) (Nat.le_refl _) (Nat.le_refl _) rfl rfl (Nat.le_of_ble_eq_true rfl) (fun E9 h9 q9 => ?_) (fun v9 h9 q9 => ?_)
    · cases q9.1
    obtain ⟨e9, H3, rfl, hI⟩ := q9
    cases e9
    refine mw_bipush (v := -71) dL_keeps_562 (by decide) ?_
    refine mw_icmp_ne (tgt := 571) dL_keeps_564 (by decide) (fun c9 => absurd c9 (by first | decide | exact (fun q => q rfl))) (fun _ => ?_)
    refine mw_iconst (v := 1) dL_keeps_567 (by decide) ?_
    refine mw_goto (tgt := 572) dL_keeps_568 (by decide) ?_
    refine mw_ireturn dL_keeps_572 ⟨_, rfl, rfl⟩ ⟨rfl, _, _, _, _, rfl, hI, ?_⟩
    obtain ⟨a1, a2, a3, a4, a5, a6, a7, a8⟩ := hM
    refine ⟨kR_cong a1 (va_up_ne _ _ (by decide)) (va_up_ne _ _ (by decide)), by rw [va_up_ne _ _ (by decide)]; exact a2, fun m' hm' => ?_, fun m' h5 h12 => ?_, by rw [va_up_ne _ _ (by decide)]; exact a5, a6, fun j hj => by rw [va_up_ne _ _ (by decide)]; exact a7 j hj, fun j hj => by rw [va_up_ne _ _ (by decide)]; exact a8 j hj⟩
    · rw [va_up_self]
      show ((if m' = m then none else g.2.2.1 m') = none → upd (A 2) m 0 m' = 0) ∧ ∀ s L, (if m' = m then none else g.2.2.1 m') = some (s, L) → upd (A 2) m 0 m' = nI (s + 1) ∧ fR (va_up A 2 (upd (A 2) m 0)) X m' L
      by_cases e : m' = m
      · rw [if_pos e, e]
        exact ⟨fun _ => pk_us, fun s L z => by cases z⟩
      · rw [if_neg e, pk_un e]
        exact ⟨(a3 m' hm').1, fun s L z => ⟨((a3 m' hm').2 s L z).1, fR_cong ((a3 m' hm').2 s L z).2 (by rw [va_up_ne _ _ (by decide)]) (fun q _ _ => ⟨by rw [va_up_ne _ _ (by decide)], by rw [va_up_ne _ _ (by decide)], rfl, rfl⟩)⟩⟩
    · show (if m' = m then none else g.2.2.1 m') = none
      rw [if_neg (by omega)]
      exact a4 m' h5 h12
  by_cases j0 : j = 0
  · refine mw_iload_n (i := 2) dL_keeps_494 rfl rfl ?_
    refine mw_sipush (v := 12288) dL_keeps_495 (by decide) ?_
    refine mw_iand dL_keeps_498 ?_
    rw [ej]
    refine mw_if_le (tgt := 523) dL_keeps_499 (by decide) (fun _ => ?_) (fun c9 => absurd c9 (by first | decide | exact (fun q => q rfl) | ((try simp only [fa_lit]); first | exact cq_le (by omega) (by omega) | exact cq_nle (by omega) (by omega) | exact cq_lt (by omega) (by omega) | exact cq_nlt (by omega) (by omega) | exact cq_eq (by omega) (by omega) (by omega) | exact cq_neq (by omega))))
    exact hdis
  · refine mw_iload_n (i := 2) dL_keeps_494 rfl rfl ?_
    refine mw_sipush (v := 12288) dL_keeps_495 (by decide) ?_
    refine mw_iand dL_keeps_498 ?_
    rw [ej]
    rcases hfr with ⟨rfl, -⟩ | ⟨f, hf5, rfl, -, -⟩
    · refine mw_if_le (tgt := 523) dL_keeps_499 (by decide) (fun c9 => absurd c9 (cq_le (b := 0) (by omega) (by omega))) (fun _ => ?_)
      refine mw_iload (i := 14) dL_keeps_502 rfl ?_
      refine mw_if_lt (tgt := 523) dL_keeps_504 (by decide) (fun _ => ?_) (fun c9 => absurd c9 (by first | decide | exact (fun q => q rfl)))
      exact hdis
    · have hw := w_weight hI (-1)
      rw [hsp1] at hw
      refine mw_if_le (tgt := 523) dL_keeps_499 (by decide) (fun c9 => absurd c9 (cq_le (b := 0) (by omega) (by omega))) (fun _ => ?_)
      refine mw_iload (i := 14) dL_keeps_502 rfl ?_
      refine mw_if_lt (tgt := 523) dL_keeps_504 (by decide) (fun c9 => absurd c9 (cq_lt (b := 0) (Nat.zero_le _) (by omega))) (fun _ => ?_)
      refine mw_aload_n (i := 0) dL_keeps_507 rfl rfl ?_
      refine mw_iconst (v := -1) dL_keeps_508 (by decide) ?_
      refine mw_callSX dL_keeps_509 mk_L_152 (hw) (by decide) (Nat.le_refl _) (Nat.le_refl _) rfl rfl (Nat.le_of_ble_eq_true rfl) (fun E9 h9 q9 => ?_) (fun v9 h9 q9 => ?_)
      · cases q9.1
      obtain ⟨e9, H1, rfl, hI⟩ := q9
      cases e9
      refine mw_bipush (v := -71) dL_keeps_512 (by decide) ?_
      refine mw_icmp_ne (tgt := 521) dL_keeps_514 (by decide) (fun c9 => absurd c9 (by first | decide | exact (fun q => q rfl))) (fun _ => ?_)
      refine mw_iconst (v := 1) dL_keeps_517 (by decide) ?_
      refine mw_goto (tgt := 522) dL_keeps_518 (by decide) ?_
      exact mw_ireturn dL_keeps_522 ⟨_, rfl, rfl⟩ ⟨rfl, _, _, _, _, rfl, hI, hM⟩
end K1
