/-! isTold: written by gen/83.py (class side) -/
/-- the code of a read: a fault, or none (0, or 9 where it is too much) -/
def rcO (f : Nat) (rc : Int32) : Prop := (f ≠ 0 ∧ rc = nI f) ∨ (f = 0 ∧ (rc = 0 ∨ rc = 9))
theorem b_and (c d : Prop) [Decidable c] [Decidable d] : (if c then (1 : Int32) else 0) &&& (if d then 1 else 0) = if c ∧ d then 1 else 0 := by
  by_cases h1 : c
  · by_cases h2 : d
    · rw [if_pos h1, if_pos h2, if_pos ⟨h1, h2⟩]; rfl
    · rw [if_pos h1, if_neg h2, if_neg (fun z => h2 z.2)]; rfl
  · by_cases h2 : d
    · rw [if_neg h1, if_pos h2, if_neg (fun z => h1 z.1)]; rfl
    · rw [if_neg h1, if_neg h2, if_neg (fun z => h1 z.1)]; rfl
/-- two rows of bytes, of one length, that are the same place by place -/
theorem row_eq {Y Z : List Nat} (h : Y.length = Z.length) (hj : ∀ j, j < Y.length → Y.getD j 0 = Z.getD j 0) : Y = Z := by
  apply List.ext_getElem h
  intro i h1 h2
  have := hj i h1
  rw [List.getD_eq_getElem?_getD, List.getD_eq_getElem?_getD, List.getElem?_eq_getElem h1, List.getElem?_eq_getElem h2] at this
  exact this
theorem getD_byte {Y : List Nat} (h : ∀ z ∈ Y, z < 256) (j : Nat) : Y.getD j 0 < 256 := by
  rw [List.getD_eq_getElem?_getD]
  by_cases hj : j < Y.length
  · rw [List.getElem?_eq_getElem hj]; exact h _ (List.getElem_mem hj)
  · rw [List.getElem?_eq_none (by omega)]; exact Nat.zero_lt_succ _
theorem eL_bytes {L : List af} (h : ∀ x ∈ L, okf x) : ∀ z ∈ eL L, z < 256 := eL_lt h
section TL
variable {sc : mSc} {g : mS} {A : Nat → Nat → Int32} {X : Nat → Nat → Int64} {y : Int32}
theorem ite_iff {P Q : Prop} [Decidable P] [Decidable Q] (h : P ↔ Q) : (if P then (1 : Int32) else 0) = if Q then 1 else 0 := by
  by_cases p : P
  · rw [if_pos p, if_pos (h.mp p)]
  · rw [if_neg p, if_neg (fun z => p (h.mpr z))]
theorem and_step {P Q : Prop} {f f' : Nat → Int32} [Decidable P] (i : Nat) : (if P ∧ ∀ j, j < i → f j = f' j then (1 : Int32) else 0) &&& (if f i = f' i then 1 else 0) = if P ∧ ∀ j, j < i + 1 → f j = f' j then 1 else 0 := by
  rw [b_and]
  refine ite_iff ⟨fun z => ⟨z.1.1, fun j hj => ?_⟩, fun z => ⟨⟨z.1, fun j hj => z.2 j (by omega)⟩, z.2 i (Nat.lt_succ_self i)⟩⟩
  rcases Nat.lt_or_ge j i with h | h
  · exact z.1.2 j h
  · rw [show j = i by omega]; exact z.2
/-- the last loop: is q the tape -/
theorem lp_is {lc ly : Nat} (hl : ly ≤ 64) (hg1 : A 11 1 = nI ly) {H : mw_H} {kc ks : Nat} {Po : mw_P} {l14 l15 l16 l17 l18 l19 l20 : Option Value} (k : ∀ x22, mw_W mm_L_isTold 10 kc ks 603 [some (.ref 1), some (.int y), some (.ref 43), some (.ref 44), some (.ref 45), some (.ref 46), some (.ref 47), some (.ref 48), some (.ref 49), some (.ref 50), some (.ref 51), some (.ref 52), some (.ref 53), some (.ref 54), l14, l15, l16, l17, l18, l19, l20, some (.int (if lc = ly ∧ ∀ j, j < ly → A 9 j = A 8 j then 1 else 0)), x22] [] (gl H A X) Po) : ∀ (n i : Nat), i + n = ly →
    mw_W mm_L_isTold 10 kc ks 565 [some (.ref 1), some (.int y), some (.ref 43), some (.ref 44), some (.ref 45), some (.ref 46), some (.ref 47), some (.ref 48), some (.ref 49), some (.ref 50), some (.ref 51), some (.ref 52), some (.ref 53), some (.ref 54), l14, l15, l16, l17, l18, l19, l20, some (.int (if lc = ly ∧ ∀ j, j < i → A 9 j = A 8 j then 1 else 0)), some (.int (nI i))] [] (gl H A X) Po := by
  intro n
  induction n with
  | zero =>
    intro i hi
    have hi : i = ly := by omega
    subst hi
    refine mw_iload (i := 22) dL_isTold_565 rfl ?_
    refine mw_aload (i := 13) dL_isTold_567 rfl ?_
    refine mw_iconst (v := 1) dL_isTold_569 (by decide) ?_
    refine mw_iald dL_isTold_570 gl_11 (mw_ix (j := 1) rfl (by decide) (by decide)) ?_
    rw [hg1]
    refine mw_icmp_ge (tgt := 603) dL_isTold_571 (by decide) (fun _ => ?_) (fun c9 => absurd c9 (by first | decide | exact (fun q => q rfl) | ((try simp only [fa_lit]); first | exact cq_le (by omega) (by omega) | exact cq_nle (by omega) (by omega) | exact cq_lt (by omega) (by omega) | exact cq_nlt (by omega) (by omega) | exact cq_eq (by omega) (by omega) (by omega) | exact cq_neq (by omega))))
    exact k _
  | succ n ih =>
    intro i hi
    have ih := ih (i + 1) (by omega)
    have hst := and_step (P := lc = ly) (Q := True) (f := A 9) (f' := A 8) i
    refine mw_iload (i := 22) dL_isTold_565 rfl ?_
    refine mw_aload (i := 13) dL_isTold_567 rfl ?_
    refine mw_iconst (v := 1) dL_isTold_569 (by decide) ?_
    refine mw_iald dL_isTold_570 gl_11 (mw_ix (j := 1) rfl (by decide) (by decide)) ?_
    rw [hg1]
    by_cases e : A 9 i = A 8 i
    · rw [if_pos e] at hst
      refine mw_icmp_ge (tgt := 603) dL_isTold_571 (by decide) (fun c9 => absurd c9 (by first | decide | exact (fun q => q rfl) | ((try simp only [fa_lit]); first | exact cq_le (by omega) (by omega) | exact cq_nle (by omega) (by omega) | exact cq_lt (by omega) (by omega) | exact cq_nlt (by omega) (by omega) | exact cq_eq (by omega) (by omega) (by omega) | exact cq_neq (by omega)))) (fun _ => ?_)
      refine mw_iload (i := 21) dL_isTold_574 rfl ?_
      refine mw_aload (i := 11) dL_isTold_576 rfl ?_
      refine mw_iload (i := 22) dL_isTold_578 rfl ?_
      refine mw_iald dL_isTold_580 gl_9 (mw_ix rfl (by omega) (by decide)) ?_
      refine mw_aload (i := 10) dL_isTold_581 rfl ?_
      refine mw_iload (i := 22) dL_isTold_583 rfl ?_
      refine mw_iald dL_isTold_585 gl_8 (mw_ix rfl (by omega) (by decide)) ?_
      refine mw_icmp_ne (tgt := 593) dL_isTold_586 (by decide) (fun c9 => absurd c9 (fun z => z e)) (fun _ => ?_)
      refine mw_iconst (v := 1) dL_isTold_589 (by decide) ?_
      refine mw_goto (tgt := 594) dL_isTold_590 (by decide) ?_
      refine mw_iand dL_isTold_594 ?_
      rw [hst]
      refine mw_istore_21 dL_isTold_595 (by decide) ?_
      refine mw_iinc_22 dL_isTold_597 (by decide) rfl ?_
      refine mw_goto (tgt := 565) dL_isTold_600 (by decide) ?_
      rw [show nI i + Int32.ofInt 1 = nI (i + 1) from nI_1 _]
      exact ih
    · rw [if_neg e] at hst
      refine mw_icmp_ge (tgt := 603) dL_isTold_571 (by decide) (fun c9 => absurd c9 (by first | decide | exact (fun q => q rfl) | ((try simp only [fa_lit]); first | exact cq_le (by omega) (by omega) | exact cq_nle (by omega) (by omega) | exact cq_lt (by omega) (by omega) | exact cq_nlt (by omega) (by omega) | exact cq_eq (by omega) (by omega) (by omega) | exact cq_neq (by omega)))) (fun _ => ?_)
      refine mw_iload (i := 21) dL_isTold_574 rfl ?_
      refine mw_aload (i := 11) dL_isTold_576 rfl ?_
      refine mw_iload (i := 22) dL_isTold_578 rfl ?_
      refine mw_iald dL_isTold_580 gl_9 (mw_ix rfl (by omega) (by decide)) ?_
      refine mw_aload (i := 10) dL_isTold_581 rfl ?_
      refine mw_iload (i := 22) dL_isTold_583 rfl ?_
      refine mw_iald dL_isTold_585 gl_8 (mw_ix rfl (by omega) (by decide)) ?_
      refine mw_icmp_ne (tgt := 593) dL_isTold_586 (by decide) (fun _ => ?_) (fun c9 => absurd c9 e)
      refine mw_iconst (v := 0) dL_isTold_593 (by decide) ?_
      refine mw_iand dL_isTold_594 ?_
      rw [hst]
      refine mw_istore_21 dL_isTold_595 (by decide) ?_
      refine mw_iinc_22 dL_isTold_597 (by decide) rfl ?_
      refine mw_goto (tgt := 565) dL_isTold_600 (by decide) ?_
      rw [show nI i + Int32.ofInt 1 = nI (i + 1) from nI_1 _]
      exact ih
theorem lp_is0 {lc ly : Nat} (hl : ly ≤ 64) (hg1 : A 11 1 = nI ly) {H : mw_H} {kc ks : Nat} {Po : mw_P} {l14 l15 l16 l17 l18 l19 l20 : Option Value} (k : ∀ x22, mw_W mm_L_isTold 10 kc ks 603 [some (.ref 1), some (.int y), some (.ref 43), some (.ref 44), some (.ref 45), some (.ref 46), some (.ref 47), some (.ref 48), some (.ref 49), some (.ref 50), some (.ref 51), some (.ref 52), some (.ref 53), some (.ref 54), l14, l15, l16, l17, l18, l19, l20, some (.int (if lc = ly ∧ ∀ j, j < ly → A 9 j = A 8 j then 1 else 0)), x22] [] (gl H A X) Po) : mw_W mm_L_isTold 10 kc ks 565 [some (.ref 1), some (.int y), some (.ref 43), some (.ref 44), some (.ref 45), some (.ref 46), some (.ref 47), some (.ref 48), some (.ref 49), some (.ref 50), some (.ref 51), some (.ref 52), some (.ref 53), some (.ref 54), l14, l15, l16, l17, l18, l19, l20, some (.int (if lc = ly then 1 else 0)), some (.int (0))] [] (gl H A X) Po := by
  have h := lp_is (lc := lc) hl hg1 k ly 0 (by omega)
  by_cases e : lc = ly
  · rw [if_pos ⟨e, fun j hj => absurd hj (Nat.not_lt_zero j)⟩] at h
    rw [if_pos e]
    exact h
  · rw [if_neg (fun z => e z.1)] at h
    rw [if_neg e]
    exact h
theorem q_is {C Y : List Nat} {f f' : Nat → Int32} (hq : ∀ j, j < C.length → j < 64 → f j = nI (C.getD j 0)) (hY : ∀ j, j < Y.length → f' j = nI (Y.getD j 0)) (hl : Y.length ≤ 64) (hCb : ∀ z ∈ C, z < 256) (hYb : ∀ z ∈ Y, z < 256) : (C.length = Y.length ∧ ∀ j, j < Y.length → f j = f' j) ↔ C = Y := by
  constructor
  · rintro ⟨e, h⟩
    refine row_eq e (fun j hj => ?_)
    have h9 := h j (by omega)
    rw [hq j hj (by omega), hY j (by omega)] at h9
    have b1 := getD_byte hCb j
    have b2 := getD_byte hYb j
    exact (nI_eq (by omega) (by omega)).mp h9
  · rintro rfl
    exact ⟨rfl, fun j hj => by rw [hq j hj (by omega), hY j hj]⟩
theorem wq_get {f : Nat → Int32} {C : List Nat} {j : Nat} (hj : j < C.length) (h64 : j < 64) : wq f 0 C j = nI (C.getD j 0) := by
  unfold wq
  rw [if_pos ⟨Nat.zero_le _, by omega, h64⟩, Nat.sub_zero]
/-- the end: what read would make of the tape -/
theorem tl_D {H : mw_H} (hI : cS sc g H A X) (hM : mR g A X) {one : Nat} (ho : one < g.1) {rc : Int32} (hrc : rcO (prsL g.2.2.2).2.1 rc) {x16 x17 x18 x19 x20 x21 x22 : Option Value} : mw_W mm_L_isTold 10 1 6 444 [some (.ref 1), some (.int y), some (.ref 43), some (.ref 44), some (.ref 45), some (.ref 46), some (.ref 47), some (.ref 48), some (.ref 49), some (.ref 50), some (.ref 51), some (.ref 52), some (.ref 53), some (.ref 54), some (.int (rc)), some (.int (nI one)), x16, x17, x18, x19, x20, x21, x22] [] (gl H A X) (lwP sc) := by
  have hok := cS_ok hI
  have hns := mR_ns hM
  have hf4 := prsL_le4 g.2.2.2
  have hbT := mR_tape hM hok
  have hsS := sS_at hok.1 ho
  obtain ⟨hk, hg0, hms, -, hg1, h64, htp, -⟩ := id hM
  have hYb := hok.2.2.2.2.2
  have hic : sp_isCanonical g (nI one) = (0, (if (prsL g.2.2.2).2.1 = 0 ∧ eL (can g.2.1 one (prsL g.2.2.2).1) = g.2.2.2 then 1 else 0), g) := by
    unfold sp_isCanonical
    rw [hsS]
  have hw : ∀ H' A' X', cS sc g H' A' X' → mw_Con mm_X6_isCanonical 7 1 6 [.ref 1, .int (nI one)] (gl H' A' X') (wP sc A' X' (if (prsL g.2.2.2).2.1 = 0 ∧ eL (can g.2.1 one (prsL g.2.2.2).1) = g.2.2.2 then 1 else 0) g) := by
    intro H' A' X' hI'
    have h := d_isCanonical hI' (nI one) (by rw [hic])
    rw [hic] at h
    exact h
  -- nothing to be read
  have hno : ∀ x20, mw_W mm_L_isTold 10 1 6 461 [some (.ref 1), some (.int y), some (.ref 43), some (.ref 44), some (.ref 45), some (.ref 46), some (.ref 47), some (.ref 48), some (.ref 49), some (.ref 50), some (.ref 51), some (.ref 52), some (.ref 53), some (.ref 54), some (.int (rc)), some (.int (nI one)), x16, x17, x18, x19, x20, x21, x22] [] (gl H A X) (lwP sc) := by
    intro x20
    rcases hrc with ⟨hf, rfl⟩ | ⟨hf, rfl | rfl⟩
    · have hw := hw _ _ _ hI
      rw [if_neg (fun z => hf z.1)] at hw
      refine mw_iload (i := 14) dL_isTold_461 rfl ?_
      refine mw_if_eq (tgt := 482) dL_isTold_463 (by decide) (fun c9 => absurd c9 (nI_ne0 (by omega) (by omega))) (fun _ => ?_)
      refine mw_iload (i := 14) dL_isTold_466 rfl ?_
      refine mw_bipush (v := 9) dL_isTold_468 (by decide) ?_
      refine mw_icmp_eq (tgt := 482) dL_isTold_470 (by decide) (fun c9 => absurd c9 (by first | decide | exact (fun q => q rfl) | ((try simp only [fa_lit]); first | exact cq_le (by omega) (by omega) | exact cq_nle (by omega) (by omega) | exact cq_lt (by omega) (by omega) | exact cq_nlt (by omega) (by omega) | exact cq_eq (by omega) (by omega) (by omega) | exact cq_neq (by omega)))) (fun _ => ?_)
      refine mw_aload_n (i := 0) dL_isTold_473 rfl rfl ?_
      refine mw_iload (i := 15) dL_isTold_474 rfl ?_
      refine mw_callV dL_isTold_476 mk_L_258 (cS_o hI) rfl (hw) (by decide) (Nat.le_refl _) (Nat.le_refl _) rfl rfl (Nat.le_of_ble_eq_true rfl) (fun E9 h9 q9 => ?_) (fun v9 h9 q9 => ?_)
      · cases q9.1
      obtain ⟨e9, H1, rfl, hI⟩ := q9
      cases e9
      refine mw_if_ne (tgt := 486) dL_isTold_479 (by decide) (fun c9 => absurd c9 (by first | decide | exact (fun q => q rfl))) (fun _ => ?_)
      refine mw_iconst (v := 1) dL_isTold_482 (by decide) ?_
      refine mw_goto (tgt := 487) dL_isTold_483 (by decide) ?_
      exact mw_ireturn dL_isTold_487 ⟨_, rfl, rfl⟩ ⟨rfl, _, _, _, _, rfl, hI, hM⟩
    · refine mw_iload (i := 14) dL_isTold_461 rfl ?_
      refine mw_if_eq (tgt := 482) dL_isTold_463 (by decide) (fun _ => ?_) (fun c9 => absurd c9 (by first | decide | exact (fun q => q rfl)))
      refine mw_iconst (v := 1) dL_isTold_482 (by decide) ?_
      refine mw_goto (tgt := 487) dL_isTold_483 (by decide) ?_
      exact mw_ireturn dL_isTold_487 ⟨_, rfl, rfl⟩ ⟨rfl, _, _, _, _, rfl, hI, hM⟩
    · refine mw_iload (i := 14) dL_isTold_461 rfl ?_
      refine mw_if_eq (tgt := 482) dL_isTold_463 (by decide) (fun c9 => absurd c9 (by first | decide | exact (fun q => q rfl))) (fun _ => ?_)
      refine mw_iload (i := 14) dL_isTold_466 rfl ?_
      refine mw_bipush (v := 9) dL_isTold_468 (by decide) ?_
      refine mw_icmp_eq (tgt := 482) dL_isTold_470 (by decide) (fun _ => ?_) (fun c9 => absurd c9 (by first | decide | exact (fun q => q rfl)))
      refine mw_iconst (v := 1) dL_isTold_482 (by decide) ?_
      refine mw_goto (tgt := 487) dL_isTold_483 (by decide) ?_
      exact mw_ireturn dL_isTold_487 ⟨_, rfl, rfl⟩ ⟨rfl, _, _, _, _, rfl, hI, hM⟩
  refine mw_aload (i := 4) dL_isTold_444 rfl ?_
  refine mw_callS dL_isTold_446 mk_L_145 (c_free) (by decide) (Nat.le_refl _) (Nat.le_refl _) rfl rfl (Nat.le_of_ble_eq_true rfl) (fun E9 h9 q9 => ?_) (fun v9 h9 q9 => ?_)
  · obtain ⟨-, z | ⟨f, -, z, -⟩⟩ := q9
    · cases z.1
    · cases z
  obtain ⟨rfl, ⟨z, -⟩ | ⟨fr, hfr, z, hfr0, -⟩⟩ := q9
  · cases z
    refine mw_istore_20 dL_isTold_449 (by decide) ?_
    refine mw_iload (i := 20) dL_isTold_451 rfl ?_
    refine mw_if_lt (tgt := 461) dL_isTold_453 (by decide) (fun _ => ?_) (fun c9 => absurd c9 (by first | decide | exact (fun q => q rfl)))
    exact hno _
  · cases z
    have hTf : g.2.2.1 fr = none := by
      rcases mR_m hM hok hfr with ⟨h, -⟩ | ⟨s, L, -, hs, h, -⟩
      · exact h
      · rw [hfr0] at h
        exact absurd h.symm (nI_ne0 (Nat.succ_pos s) (by omega))
    rcases hrc with ⟨hf, rfl⟩ | ⟨hf, rfl | rfl⟩
    · refine mw_istore_20 dL_isTold_449 (by decide) ?_
      refine mw_iload (i := 20) dL_isTold_451 rfl ?_
      refine mw_if_lt (tgt := 461) dL_isTold_453 (by decide) (fun c9 => absurd c9 (cq_lt (b := 0) (Nat.zero_le _) (by omega))) (fun _ => ?_)
      refine mw_iload (i := 14) dL_isTold_456 rfl ?_
      refine mw_if_le (tgt := 488) dL_isTold_458 (by decide) (fun c9 => absurd c9 (cq_le (b := 0) (by omega) (by omega))) (fun _ => ?_)
      exact hno _
    · refine mw_istore_20 dL_isTold_449 (by decide) ?_
      refine mw_iload (i := 20) dL_isTold_451 rfl ?_
      refine mw_if_lt (tgt := 461) dL_isTold_453 (by decide) (fun c9 => absurd c9 (cq_lt (b := 0) (Nat.zero_le _) (by omega))) (fun _ => ?_)
      refine mw_iload (i := 14) dL_isTold_456 rfl ?_
      refine mw_if_le (tgt := 488) dL_isTold_458 (by decide) (fun _ => ?_) (fun c9 => absurd c9 (by first | decide | exact (fun q => q rfl)))
      refine mw_aload (i := 10) dL_isTold_488 rfl ?_
      refine mw_aload (i := 13) dL_isTold_490 rfl ?_
      refine mw_iconst (v := 1) dL_isTold_492 (by decide) ?_
      refine mw_iald dL_isTold_493 gl_11 (mw_ix (j := 1) rfl (by decide) (by decide)) ?_
      rw [hg1]
      refine mw_aload (i := 5) dL_isTold_494 rfl ?_
      refine mw_aload (i := 6) dL_isTold_496 rfl ?_
      refine mw_aload (i := 7) dL_isTold_498 rfl ?_
      refine mw_aload (i := 8) dL_isTold_500 rfl ?_
      refine mw_aload (i := 9) dL_isTold_502 rfl ?_
      refine mw_aload (i := 13) dL_isTold_504 rfl ?_
      refine mw_iload (i := 20) dL_isTold_506 rfl ?_
      refine mw_callS dL_isTold_508 mk_L_211 ((c_readsM hfr hbT)) (by decide) (Nat.le_refl _) (Nat.le_refl _) rfl rfl (Nat.le_of_ble_eq_true rfl) (fun E9 h9 q9 => ?_) (fun v9 h9 q9 => ?_)
      · obtain ⟨A', X', -, -, ⟨-, z, -⟩ | ⟨-, -, z, -⟩ | ⟨-, -, z⟩⟩ := q9 <;> cases z
      obtain ⟨A', X', rfl, hF, hq⟩ := q9
      rcases hq with ⟨z, -, -⟩ | ⟨-, hsm, e9, hR⟩ | ⟨-, -, e9⟩
      · exact absurd hf z
      · cases e9
        have hR : fR A' X' fr (prsL g.2.2.2).1 := hR
        obtain ⟨hokL, hlenL⟩ := prsL_ok hYb
        refine mw_if_eq (tgt := 516) dL_isTold_511 (by decide) (fun _ => ?_) (fun c9 => absurd c9 (by first | decide | exact (fun q => q rfl)))
        refine mw_aload (i := 4) dL_isTold_516 rfl ?_
        refine mw_iload (i := 20) dL_isTold_518 rfl ?_
        refine mw_iload (i := 15) dL_isTold_520 rfl ?_
        refine mw_iconst (v := 1) dL_isTold_522 (by decide) ?_
        refine mw_iadd dL_isTold_523 ?_
        rw [show nI one + 1 = nI (one + 1) from nI_1 _]
        refine gl_st2 dL_isTold_524 (mw_ix rfl hfr (by decide)) ?_
        refine mw_aload_n (i := 2) dL_isTold_525 rfl rfl ?_
        refine mw_aload_n (i := 3) dL_isTold_526 rfl rfl ?_
        refine mw_aload (i := 4) dL_isTold_527 rfl ?_
        refine mw_aload (i := 5) dL_isTold_529 rfl ?_
        refine mw_aload (i := 6) dL_isTold_531 rfl ?_
        refine mw_aload (i := 7) dL_isTold_533 rfl ?_
        refine mw_aload (i := 8) dL_isTold_535 rfl ?_
        refine mw_aload (i := 9) dL_isTold_537 rfl ?_
        refine mw_aload (i := 11) dL_isTold_539 rfl ?_
        refine mw_aload (i := 13) dL_isTold_541 rfl ?_
        refine mw_iload (i := 20) dL_isTold_543 rfl ?_
        generalize hA2 : va_up A' 2 (upd (A' 2) fr (nI (one + 1))) = A2
        have an : ∀ j, j ≠ 2 → A2 j = A' j := fun j z => by rw [← hA2, va_up_ne _ _ z]
        have a2 : A2 2 = upd (A' 2) fr (nI (one + 1)) := by rw [← hA2, va_up_self]
        have aF : ∀ j, j ≠ 2 → j ≠ 3 → j ≠ 4 → j ≠ 5 → j ≠ 11 → A2 j = A j := fun j z2 z3 z4 z5 z11 => (an j z2).trans (hF.1 j z3 z4 z5 z11)
        have hk2 : kR g.2.1 g.1 A2 := kR_cong hk (aF 0 (by decide) (by decide) (by decide) (by decide) (by decide)) (aF 1 (by decide) (by decide) (by decide) (by decide) (by decide))
        have hR2 : fR A2 X' fr (prsL g.2.2.2).1 := fR_cong hR (by rw [an 3 (by decide)]) (fun p _ _ => ⟨by rw [an 4 (by decide)], by rw [an 5 (by decide)], rfl, rfl⟩)
        have hca := c_canonical (H := H) hk2 ho (by rw [a2, pk_us]) hfr hokL hR2 (by omega)
        generalize hC : eL (can g.2.1 one (prsL g.2.2.2).1) = C at hca hw hic
        have hCb : ∀ z ∈ C, z < 256 := by rw [← hC]; exact eL_lt (can_ok hokL)
        have hC120 : C.length ≤ 120 := by
          have h1 := canU_le g.2.1 one (prsL g.2.2.2).1 31
          rw [← hC]
          unfold can
          omega
        refine mw_callSr dL_isTold_545 mk_L_184 (hca) (by decide) (Nat.le_refl _) (Nat.le_refl _) rfl rfl (Nat.le_of_ble_eq_true rfl) ?_
        refine mw_aload (i := 13) dL_isTold_548 rfl ?_
        refine mw_iconst (v := 1) dL_isTold_550 (by decide) ?_
        refine mw_iald dL_isTold_551 gl_11 (mw_ix (j := 1) rfl (by decide) (by decide)) ?_
        have hg1' : AW A2 0 C 11 1 = nI g.2.2.2.length := by
          rw [AW_g', pk_un (by decide), an 11 (by decide), hF.2.1 1 (by decide)]
          exact hg1
        rw [hg1']
        have hgo : ∀ b : Int32, b = (if C.length = g.2.2.2.length then 1 else 0) → mw_W mm_L_isTold 10 1 6 560 [some (.ref 1), some (.int y), some (.ref 43), some (.ref 44), some (.ref 45), some (.ref 46), some (.ref 47), some (.ref 48), some (.ref 49), some (.ref 50), some (.ref 51), some (.ref 52), some (.ref 53), some (.ref 54), some (.int (0)), some (.int (nI one)), x16, x17, x18, x19, some (.int (nI fr)), x21, x22] [.int b] (gl H (AW A2 0 C) X') (lwP sc) := by
          intro b hb
          rw [hb]
          refine mw_istore_21 dL_isTold_560 (by decide) ?_
          refine mw_iconst (v := 0) dL_isTold_562 (by decide) ?_
          refine mw_istore_22 dL_isTold_563 (by decide) ?_
          refine lp_is0 h64 hg1' (fun x22 => ?_)
          refine mw_aload (i := 4) dL_isTold_603 rfl ?_
          refine mw_iload (i := 20) dL_isTold_605 rfl ?_
          refine mw_iconst (v := 0) dL_isTold_607 (by decide) ?_
          refine gl_st2 dL_isTold_608 (mw_ix rfl hfr (by decide)) ?_
          have hI := cS_gl (A' := va_up (AW A2 0 C) 2 (upd (AW A2 0 C 2) fr 0)) (X' := X') hI
          have hw := hw _ _ _ hI
          have hqi := q_is (C := C) (Y := g.2.2.2) (f := AW A2 0 C 9) (f' := AW A2 0 C 8) (fun j hj h64 => by rw [AW_q]; exact wq_get hj h64) (fun j hj => by rw [AW_n _ _ _ (by decide) (by decide), aF 8 (by decide) (by decide) (by decide) (by decide) (by decide)]; exact htp j hj) h64 hCb hYb
          refine mw_aload_n (i := 0) dL_isTold_609 rfl rfl ?_
          refine mw_iload (i := 15) dL_isTold_610 rfl ?_
          refine mw_callV dL_isTold_612 mk_L_258 (cS_o hI) rfl (hw) (by decide) (Nat.le_refl _) (Nat.le_refl _) rfl rfl (Nat.le_of_ble_eq_true rfl) (fun E9 h9 q9 => ?_) (fun v9 h9 q9 => ?_)
          · cases q9.1
          obtain ⟨e9, H1, rfl, hI⟩ := q9
          cases e9
          refine mw_iload (i := 21) dL_isTold_615 rfl ?_
          refine mw_icmp_ne (tgt := 624) dL_isTold_617 (by decide) (fun c9 => absurd c9 (fun z => z (ite_iff ⟨fun z => hqi.mpr z.2, fun z => ⟨hf, hqi.mp z⟩⟩))) (fun _ => ?_)
          refine mw_iconst (v := 1) dL_isTold_620 (by decide) ?_
          refine mw_goto (tgt := 625) dL_isTold_621 (by decide) ?_
          refine mw_ireturn dL_isTold_625 ⟨_, rfl, rfl⟩ ⟨rfl, _, _, _, _, rfl, hI, ?_⟩
          have b2 : va_up (AW A2 0 C) 2 (upd (AW A2 0 C 2) fr 0) 2 = A 2 := by
            rw [va_up_self, AW_n _ _ _ (by decide) (by decide), a2, fa_upd_twice, hF.1 2 (by decide) (by decide) (by decide) (by decide)]
            exact fa_upd_same hfr0
          have bn : ∀ j, j ≠ 2 → j ≠ 9 → j ≠ 11 → va_up (AW A2 0 C) 2 (upd (AW A2 0 C 2) fr 0) j = A' j := fun j z2 z9 z11 => by rw [va_up_ne _ _ z2, AW_n _ _ _ z9 z11, an j z2]
          have b11 : ∀ j, j < 2 → va_up (AW A2 0 C) 2 (upd (AW A2 0 C 2) fr 0) 11 j = A 11 j := fun j hj => by rw [va_up_ne _ _ (by decide), AW_g', pk_un (by omega), an 11 (by decide), hF.2.1 j (by omega)]
          refine mR_cong hM ?_ ?_ b2 ?_ (b11 0 (by decide)) (b11 1 (by decide)) (fun m s L hm hT => ?_)
          · rw [bn 0 (by decide) (by decide) (by decide)]; exact hF.1 0 (by decide) (by decide) (by decide) (by decide)
          · rw [bn 1 (by decide) (by decide) (by decide)]; exact hF.1 1 (by decide) (by decide) (by decide) (by decide)
          · rw [bn 8 (by decide) (by decide) (by decide)]; exact hF.1 8 (by decide) (by decide) (by decide) (by decide)
          · have h9 := hF.fR (m' := m) (fun z => by rw [z, hTf] at hT; cases hT) ((hms m hm).2 s L hT).2
            exact fR_cong h9 (by rw [bn 3 (by decide) (by decide) (by decide)]) (fun p _ _ => ⟨by rw [bn 4 (by decide) (by decide) (by decide)], by rw [bn 5 (by decide) (by decide) (by decide)], rfl, rfl⟩)
        by_cases ec : C.length = g.2.2.2.length
        · refine mw_icmp_ne (tgt := 559) dL_isTold_552 (by decide) (fun c9 => absurd c9 (by first | decide | exact (fun q => q rfl) | ((try simp only [fa_lit]); first | exact cq_le (by omega) (by omega) | exact cq_nle (by omega) (by omega) | exact cq_lt (by omega) (by omega) | exact cq_nlt (by omega) (by omega) | exact cq_eq (by omega) (by omega) (by omega) | exact cq_neq (by omega)))) (fun _ => ?_)
          refine mw_iconst (v := 1) dL_isTold_555 (by decide) ?_
          refine mw_goto (tgt := 560) dL_isTold_556 (by decide) ?_
          exact hgo 1 (by rw [if_pos ec])
        · refine mw_icmp_ne (tgt := 559) dL_isTold_552 (by decide) (fun _ => ?_) (fun c9 => absurd c9 (by first | decide | exact (fun q => q rfl) | ((try simp only [fa_lit]); first | exact cq_le (by omega) (by omega) | exact cq_nle (by omega) (by omega) | exact cq_lt (by omega) (by omega) | exact cq_nlt (by omega) (by omega) | exact cq_eq (by omega) (by omega) (by omega) | exact cq_neq (by omega))))
          refine mw_iconst (v := 0) dL_isTold_559 (by decide) ?_
          exact hgo 0 (by rw [if_neg ec])
      · cases e9
        refine mw_if_eq (tgt := 516) dL_isTold_511 (by decide) (fun c9 => absurd c9 (by first | decide | exact (fun q => q rfl))) (fun _ => ?_)
        refine mw_iconst (v := 1) dL_isTold_514 (by decide) ?_
        exact mw_ireturn dL_isTold_515 ⟨_, rfl, rfl⟩ ⟨rfl, _, _, _, _, rfl, cS_gl hI, mR_fF hM hTf hF⟩
    · refine mw_istore_20 dL_isTold_449 (by decide) ?_
      refine mw_iload (i := 20) dL_isTold_451 rfl ?_
      refine mw_if_lt (tgt := 461) dL_isTold_453 (by decide) (fun c9 => absurd c9 (cq_lt (b := 0) (Nat.zero_le _) (by omega))) (fun _ => ?_)
      refine mw_iload (i := 14) dL_isTold_456 rfl ?_
      refine mw_if_le (tgt := 488) dL_isTold_458 (by decide) (fun c9 => absurd c9 (by first | decide | exact (fun q => q rfl))) (fun _ => ?_)
      exact hno _
end TL
