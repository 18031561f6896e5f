/-! isTold: written by gen/83.py (class side) -/
/-- the code of a read: a fault, or none (0, or 9 where it is too much) -/
def rcO (f : Nat) (rc : Int32) : Prop := (f ≠ 0 ∧ rc = nI f) ∨ (f = 0 ∧ (rc = 0 ∨ rc = 9))
theorem b_and (c d : Prop) [Decidable c] [Decidable d] : (if c then (1 : Int32) else 0) &&& (if d then 1 else 0) = if c ∧ d then 1 else 0 := by
  by_cases h1 : c
  · by_cases h2 : d
    · rw [if_pos h1, if_pos h2, if_pos ⟨h1, h2⟩]; rfl
    · rw [if_pos h1, if_neg h2, if_neg (fun z => h2 z.2)]; rfl
  · by_cases h2 : d
    · rw [if_neg h1, if_pos h2, if_neg (fun z => h1 z.1)]; rfl
    · rw [if_neg h1, if_neg h2, if_neg (fun z => h1 z.1)]; rfl
/-- two rows of bytes, of one length, that are the same place by place -/
theorem row_eq {Y Z : List Nat} (h : Y.length = Z.length) (hj : ∀ j, j < Y.length → Y.getD j 0 = Z.getD j 0) : Y = Z := by
  apply List.ext_getElem h
  intro i h1 h2
  have := hj i h1
  rw [List.getD_eq_getElem?_getD, List.getD_eq_getElem?_getD, List.getElem?_eq_getElem h1, List.getElem?_eq_getElem h2] at this
  exact this
theorem getD_byte {Y : List Nat} (h : ∀ z ∈ Y, z < 256) (j : Nat) : Y.getD j 0 < 256 := by
  rw [List.getD_eq_getElem?_getD]
  by_cases hj : j < Y.length
  · rw [List.getElem?_eq_getElem hj]; exact h _ (List.getElem_mem hj)
  · rw [List.getElem?_eq_none (by omega)]; exact Nat.zero_lt_succ _
theorem eL_bytes {L : List af} (h : ∀ x ∈ L, okf x) : ∀ z ∈ eL L, z < 256 := eL_lt h
section TL
variable {sc : mSc} {g : mS} {A : Nat → Nat → Int32} {X : Nat → Nat → Int64} {y : Int32}
theorem ite_iff {P Q : Prop} [Decidable P] [Decidable Q] (h : P ↔ Q) : (if P then (1 : Int32) else 0) = if Q then 1 else 0 := by
  by_cases p : P
  · rw [if_pos p, if_pos (h.mp p)]
  · rw [if_neg p, if_neg (fun z => p (h.mpr z))]
theorem and_step {P Q : Prop} {f f' : Nat → Int32} [Decidable P] (i : Nat) : (if P ∧ ∀ j, j < i → f j = f' j then (1 : Int32) else 0) &&& (if f i = f' i then 1 else 0) = if P ∧ ∀ j, j < i + 1 → f j = f' j then 1 else 0 := by
  rw [b_and]
  refine ite_iff ⟨fun z => ⟨z.1.1, fun j hj => ?_⟩, fun z => ⟨⟨z.1, fun j hj => z.2 j (by omega)⟩, z.2 i (Nat.lt_succ_self i)⟩⟩
  rcases Nat.lt_or_ge j i with h | h
  · exact z.1.2 j h
  · rw [show j = i by omega]; exact z.2
/-- the last loop: is q the tape -/
theorem lp_is {lc ly : Nat} (hl : ly ≤ 64) (hg1 : A 11 1 = nI ly) {H : mw_H} {kc ks : Nat} {Po : mw_P} {l14 l15 l16 l17 l18 l19 l20 : Option Value} (k : ∀ x22, mw_W mm_L_isTold 10 kc ks 603 [some (.ref 1), some (.int y), some (.ref 43), some (.ref 44), some (.ref 45), some (.ref 46), some (.ref 47), some (.ref 48), some (.ref 49), some (.ref 50), some (.ref 51), some (.ref 52), some (.ref 53), some (.ref 54), l14, l15, l16, l17, l18, l19, l20, some (.int (if lc = ly ∧ ∀ j, j < ly → A 9 j = A 8 j then 1 else 0)), x22] [] (gl H A X) Po) : ∀ (n i : Nat), i + n = ly →
    mw_W mm_L_isTold 10 kc ks 565 [some (.ref 1), some (.int y), some (.ref 43), some (.ref 44), some (.ref 45), some (.ref 46), some (.ref 47), some (.ref 48), some (.ref 49), some (.ref 50), some (.ref 51), some (.ref 52), some (.ref 53), some (.ref 54), l14, l15, l16, l17, l18, l19, l20, some (.int (if lc = ly ∧ ∀ j, j < i → A 9 j = A 8 j then 1 else 0)), some (.int (nI i))] [] (gl H A X) Po := by
  intro n
  induction n with
  | zero =>
    intro i hi
    have hi : i = ly := by omega
    subst hi
    refine mw_iload (i := 22) dL_isTold_565 rfl ?_
    refine mw_aload (i := 13) dL_isTold_567 rfl ?_
    refine mw_iconst (v := 1) dL_isTold_569 (by decide) ?_
    refine mw_iald dL_isTold_570 gl_11 (mw_ix (j := 1) rfl (by decide) (by decide)) ?_
    rw [hg1]
    refine mw_icmp_ge (tgt := 603) dL_isTold_571 (by decide) (fun _ => ?_) (fun c9 => absurd c9 (by first | decide | exact (fun q => q rfl) | ((try simp only [fa_lit]); first | exact cq_le (by omega) (by omega) | exact cq_nle (by omega) (by omega) | exact cq_lt (by omega) (by omega) | exact cq_nlt (by omega) (by omega) | exact cq_eq (by omega) (by omega) (by omega) | exact cq_neq (by omega))))
    exact k _
  | succ n ih =>
    intro i hi
    have ih := ih (i + 1) (by omega)
    have hst := and_step (P := lc = ly) (Q := True) (f := A 9) (f' := A 8) i
    refine mw_iload (i := 22) dL_isTold_565 rfl ?_
    refine mw_aload (i := 13) dL_isTold_567 rfl ?_
    refine mw_iconst (v := 1) dL_isTold_569 (by decide) ?_
    refine mw_iald dL_isTold_570 gl_11 (mw_ix (j := 1) rfl (by decide) (by decide)) ?_
    rw [hg1]
    by_cases e : A 9 i = A 8 i
    · rw [if_pos e] at hst
      refine mw_icmp_ge (tgt := 603) dL_isTold_571 (by decide) (fun c9 => absurd c9 (by first | decide | exact (fun q => q rfl) | ((try simp only [fa_lit]); first | exact cq_le (by omega) (by omega) | exact cq_nle (by omega) (by omega) | exact cq_lt (by omega) (by omega) | exact cq_nlt (by omega) (by omega) | exact cq_eq (by omega) (by omega) (by omega) | exact cq_neq (by omega)))) (fun _ => ?_)
      refine mw_iload (i := 21) dL_isTold_574 rfl ?_
      refine mw_aload (i := 11) dL_isTold_576 rfl ?_
      refine mw_iload (i := 22) dL_isTold_578 rfl ?_
      refine mw_iald dL_isTold_580 gl_9 (mw_ix rfl (by omega) (by decide)) ?_
      refine mw_aload (i := 10) dL_isTold_581 rfl ?_
      refine mw_iload (i := 22) dL_isTold_583 rfl ?_
      refine mw_iald dL_isTold_585 gl_8 (mw_ix rfl (by omega) (by decide)) ?_
      refine mw_icmp_ne (tgt := 593) dL_isTold_586 (by decide) (fun c9 => absurd c9 (fun z => z e)) (fun _ => ?_)
      refine mw_iconst (v := 1) dL_isTold_589 (by decide) ?_
      refine mw_goto (tgt := 594) dL_isTold_590 (by decide) ?_
      refine mw_iand dL_isTold_594 ?_
      rw [hst]
      refine mw_istore_21 dL_isTold_595 (by decide) ?_
      refine mw_iinc_22 dL_isTold_597 (by decide) rfl ?_
      refine mw_goto (tgt := 565) dL_isTold_600 (by decide) ?_
      rw [show nI i + Int32.ofInt 1 = nI (i + 1) from nI_1 _]
      exact ih
    · rw [if_neg e] at hst
      refine mw_icmp_ge (tgt := 603) dL_isTold_571 (by decide) (fun c9 => absurd c9 (by first | decide | exact (fun q => q rfl) | ((try simp only [fa_lit]); first | exact cq_le (by omega) (by omega) | exact cq_nle (by omega) (by omega) | exact cq_lt (by omega) (by omega) | exact cq_nlt (by omega) (by omega) | exact cq_eq (by omega) (by omega) (by omega) | exact cq_neq (by omega)))) (fun _ => ?_)
      refine mw_iload (i := 21) dL_isTold_574 rfl ?_
      refine mw_aload (i := 11) dL_isTold_576 rfl ?_
      refine mw_iload (i := 22) dL_isTold_578 rfl ?_
      refine mw_iald dL_isTold_580 gl_9 (mw_ix rfl (by omega) (by decide)) ?_
      refine mw_aload (i := 10) dL_isTold_581 rfl ?_
      refine mw_iload (i := 22) dL_isTold_583 rfl ?_
      refine mw_iald dL_isTold_585 gl_8 (mw_ix rfl (by omega) (by decide)) ?_
      refine mw_icmp_ne (tgt := 593) dL_isTold_586 (by decide) (fun _ => ?_) (fun c9 => absurd c9 e)
      refine mw_iconst (v := 0) dL_isTold_593 (by decide) ?_
      refine mw_iand dL_isTold_594 ?_
      rw [hst]
      refine mw_istore_21 dL_isTold_595 (by decide) ?_
      refine mw_iinc_22 dL_isTold_597 (by decide) rfl ?_
      refine mw_goto (tgt := 565) dL_isTold_600 (by decide) ?_
      rw [show nI i + Int32.ofInt 1 = nI (i + 1) from nI_1 _]
      exact ih
theorem lp_is0 {lc ly : Nat} (hl : ly ≤ 64) (hg1 : A 11 1 = nI ly) {H : mw_H} {kc ks : Nat} {Po : mw_P} {l14 l15 l16 l17 l18 l19 l20 : Option Value} (k : ∀ x22, mw_W mm_L_isTold 10 kc ks 603 [some (.ref 1), some (.int y), some (.ref 43), some (.ref 44), some (.ref 45), some (.ref 46), some (.ref 47), some (.ref 48), some (.ref 49), some (.ref 50), some (.ref 51), some (.ref 52), some (.ref 53), some (.ref 54), l14, l15, l16, l17, l18, l19, l20, some (.int (if lc = ly ∧ ∀ j, j < ly → A 9 j = A 8 j then 1 else 0)), x22] [] (gl H A X) Po) : mw_W mm_L_isTold 10 kc ks 565 [some (.ref 1), some (.int y), some (.ref 43), some (.ref 44), some (.ref 45), some (.ref 46), some (.ref 47), some (.ref 48), some (.ref 49), some (.ref 50), some (.ref 51), some (.ref 52), some (.ref 53), some (.ref 54), l14, l15, l16, l17, l18, l19, l20, some (.int (if lc = ly then 1 else 0)), some (.int (0))] [] (gl H A X) Po := by
  have h := lp_is (lc := lc) hl hg1 k ly 0 (by omega)
  by_cases e : lc = ly
  · rw [if_pos ⟨e, fun j hj => absurd hj (Nat.not_lt_zero j)⟩] at h
    rw [if_pos e]
    exact h
  · rw [if_neg (fun z => e z.1)] at h
    rw [if_neg e]
    exact h
theorem q_is {C Y : List Nat} {f f' : Nat → Int32} (hq : ∀ j, j < C.length → j < 64 → f j = nI (C.getD j 0)) (hY : ∀ j, j < Y.length → f' j = nI (Y.getD j 0)) (hl : Y.length ≤ 64) (hCb : ∀ z ∈ C, z < 256) (hYb : ∀ z ∈ Y, z < 256) : (C.length = Y.length ∧ ∀ j, j < Y.length → f j = f' j) ↔ C = Y := by
  constructor
  · rintro ⟨e, h⟩
    refine row_eq e (fun j hj => ?_)
    have h9 := h j (by omega)
    rw [hq j hj (by omega), hY j (by omega)] at h9
    have b1 := getD_byte hCb j
    have b2 := getD_byte hYb j
    exact (nI_eq (by omega) (by omega)).mp h9
  · rintro rfl
    exact ⟨rfl, fun j hj => by rw [hq j hj (by omega), hY j hj]⟩
theorem wq_get {f : Nat → Int32} {C : List Nat} {j : Nat} (hj : j < C.length) (h64 : j < 64) : wq f 0 C j = nI (C.getD j 0) := by
  unfold wq
  rw [if_pos ⟨Nat.zero_le _, by omega, h64⟩, Nat.sub_zero]
/-- the end: what read would make of the tape -/
theorem tl_D {H : mw_H} (hI : cS sc g H A X) (hM : mR g A X) {one : Nat} (ho : one < g.1) {rc : Int32} (hrc : rcO (prsL g.2.2.2).2.1 rc) {x16 x17 x18 x19 x20 x21 x22 : Option Value} : mw_W mm_L_isTold 10 1 6 444 [some (.ref 1), some (.int y), some (.ref 43), some (.ref 44), some (.ref 45), some (.ref 46), some (.ref 47), some (.ref 48), some (.ref 49), some (.ref 50), some (.ref 51), some (.ref 52), some (.ref 53), some (.ref 54), some (.int (rc)), some (.int (nI one)), x16, x17, x18, x19, x20, x21, x22] [] (gl H A X) (lwP sc) := by
  have hok := cS_ok hI
  have hns := mR_ns hM
  have hf4 := prsL_le4 g.2.2.2
  have hbT := mR_tape hM hok
  have hsS := sS_at hok.1 ho
  obtain ⟨hk, hg0, hms, -, hg1, h64, htp, -⟩ := id hM
  have hYb := hok.2.2.2.2.2
  have hic : sp_isCanonical g (nI one) = (0, (if (prsL g.2.2.2).2.1 = 0 ∧ eL (can g.2.1 one (prsL g.2.2.2).1) = g.2.2.2 then 1 else 0), g) := by
    unfold sp_isCanonical
    rw [hsS]
  have hw : ∀ H' A' X', cS sc g H' A' X' → mw_Con mm_X6_isCanonical 7 1 6 [.ref 1, .int (nI one)] (gl H' A' X') (wP sc A' X' (if (prsL g.2.2.2).2.1 = 0 ∧ eL (can g.2.1 one (prsL g.2.2.2).1) = g.2.2.2 then 1 else 0) g) := by
    intro H' A' X' hI'
    have h := d_isCanonical hI' (nI one) (by rw [hic])
    rw [hic] at h
    exact h
  -- nothing to be read
  have hno : ∀ x20, mw_W mm_L_isTold 10 1 6 461 [some (.ref 1), some (.int y), some (.ref 43), some (.ref 44), some (.ref 45), some (.ref 46), some (.ref 47), some (.ref 48), some (.ref 49), some (.ref 50), some (.ref 51), some (.ref 52), some (.ref 53), some (.ref 54), some (.int (rc)), some (.int (nI one)), x16, x17, x18, x19, x20, x21, x22] [] (gl H A X) (lwP sc) := by
    intro x20
    rcases hrc with ⟨hf, rfl⟩ | ⟨hf, rfl | rfl⟩
    · have hw := hw _ _ _ hI
      rw [if_neg (fun z => hf z.1)] at hw
      refine mw_iload (i := 14) dL_isTold_461 rfl ?_
      refine mw_if_eq (tgt := 482) dL_isTold_463 (by decide) (fun c9 => absurd c9 (nI_ne0 (by omega) (by omega))) (fun _ => ?_)
      refine mw_iload (i := 14) dL_isTold_466 rfl ?_
      refine mw_bipush (v := 9) dL_isTold_468 (by decide) ?_
      refine mw_icmp_eq (tgt := 482) dL_isTold_470 (by decide) (fun c9 => absurd c9 (by first | decide | exact (fun q => q rfl) | ((try simp only [fa_lit]); first | exact cq_le (by omega) (by omega) | exact cq_nle (by omega) (by omega) | exact cq_lt (by omega) (by omega) | exact cq_nlt (by omega) (by omega) | exact cq_eq (by omega) (by omega) (by omega) | exact cq_neq (by omega)))) (fun _ => ?_)
      refine mw_aload_n (i := 0) dL_isTold_473 rfl rfl ?_
      refine mw_iload (i := 15) dL_isTold_474 rfl ?_
      refine mw_callV dL_isTold_476 mk_L_258 (cS_o hI) rfl (hw) (by decide) (Nat.le_refl _) (Nat.le_refl _) rfl rfl (Nat.le_of_ble_eq_true rfl) (fun E9 h9 q9 => ?_) (fun v9 h9 q9 => ?_)
      · cases q9.1
      obtain ⟨e9, H1, rfl, hI⟩ := q9
      cases e9
      refine mw_if_ne (tgt := 486) dL_isTold_479 (by decide) (fun c9 => absurd c9 (by first | decide | exact (fun q => q rfl))) (fun _ => ?_)
      refine mw_iconst (v := 1) dL_isTold_482 (by decide) ?_
      refine mw_goto (tgt := 487) dL_isTold_483 (by decide) ?_
      exact mw_ireturn dL_isTold_487 ⟨_, rfl, rfl⟩ ⟨rfl, _, _, _, _, rfl, hI, hM⟩
    · refine mw_iload (i := 14) dL_isTold_461 rfl ?_
      refine mw_if_eq (tgt := 482) dL_isTold_463 (by decide) (fun _ => ?_) (fun c9 => absurd c9 (by first | decide | exact (fun q => q rfl)))
      refine mw_iconst (v := 1) dL_isTold_482 (by decide) ?_
      refine mw_goto (tgt := 487) dL_isTold_483 (by decide) ?_
      exact mw_ireturn dL_isTold_487 ⟨_, rfl, rfl⟩ ⟨rfl, _, _, _, _, rfl, hI, hM⟩
    · refine mw_iload (i := 14) dL_isTold_461 rfl ?_
      refine mw_if_eq (tgt := 482) dL_isTold_463 (by decide) (fun c9 => absurd c9 (by first | decide | exact (fun q => q rfl))) (fun _ => ?_)
      refine mw_iload (i := 14) dL_isTold_466 rfl ?_
      refine mw_bipush (v := 9) dL_isTold_468 (by decide) ?_
      refine mw_icmp_eq (tgt := 482) dL_isTold_470 (by decide) (fun _ => ?_) (fun c9 => absurd c9 (by first | decide | exact (fun q => q rfl)))
      refine mw_iconst (v := 1) dL_isTold_482 (by decide) ?_
      refine mw_goto (tgt := 487) dL_isTold_483 (by decide) ?_
      exact mw_ireturn dL_isTold_487 ⟨_, rfl, rfl⟩ ⟨rfl, _, _, _, _, rfl, hI, hM⟩
  refine mw_aload (i := 4) dL_isTold_444 rfl ?_
  refine mw_callS dL_isTold_446 mk_L_145 (c_free) (by decide) (Nat.le_refl _) (Nat.le_refl _) rfl rfl (Nat.le_of_ble_eq_true rfl) (fun E9 h9 q9 => ?_) (fun v9 h9 q9 => ?_)
  · obtain ⟨-, z | ⟨f, -, z, -⟩⟩ := q9
    · cases z.1
    · cases z
  obtain ⟨rfl, ⟨z, -⟩ | ⟨fr, hfr, z, hfr0, -⟩⟩ := q9
  · cases z
    refine mw_istore_20 dL_isTold_449 (by decide) ?_
    refine mw_iload (i := 20) dL_isTold_451 rfl ?_
    refine mw_if_lt (tgt := 461) dL_isTold_453 (by decide) (fun _ => ?_) (fun c9 => absurd c9 (by first | decide | exact (fun q => q rfl)))
    exact hno _
  · cases z
    have hTf : g.2.2.1 fr = none := by
      rcases mR_m hM hok hfr with ⟨h, -⟩ | ⟨s, L, -, hs, h, -⟩
      · exact h
      · rw [hfr0] at h
        exact absurd h.symm (nI_ne0 (Nat.succ_pos s) (by omega))
    rcases hrc with ⟨hf, rfl⟩ | ⟨hf, rfl | rfl⟩
    · refine mw_istore_20 dL_isTold_449 (by decide) ?_
      refine mw_iload (i := 20) dL_isTold_451 rfl ?_
      refine mw_if_lt (tgt := 461) dL_isTold_453 (by decide) (fun c9 => absurd c9 (cq_lt (b := 0) (Nat.zero_le _) (by omega))) (fun _ => ?_)
      refine mw_iload (i := 14) dL_isTold_456 rfl ?_
      refine mw_if_le (tgt := 488) dL_isTold_458 (by decide) (fun c9 => absurd c9 (cq_le (b := 0) (by omega) (by omega))) (fun _ => ?_)
      exact hno _
    · refine mw_istore_20 dL_isTold_449 (by decide) ?_
      refine mw_iload (i := 20) dL_isTold_451 rfl ?_
      refine mw_if_lt (tgt := 461) dL_isTold_453 (by decide) (fun c9 => absurd c9 (cq_lt (b := 0) (Nat.zero_le _) (by omega))) (fun _ => ?_)
      refine mw_iload (i := 14) dL_isTold_456 rfl ?_
      refine mw_if_le (tgt := 488) dL_isTold_458 (by decide) (fun _ => ?_) (fun c9 => absurd c9 (by first | decide | exact (fun q => q rfl)))
      refine mw_aload (i := 10) dL_isTold_488 rfl ?_
      refine mw_aload (i := 13) dL_isTold_490 rfl ?_
      refine mw_iconst (v := 1) dL_isTold_492 (by decide) ?_
      refine mw_iald dL_isTold_493 gl_11 (mw_ix (j := 1) rfl (by decide) (by decide)) ?_
      rw [hg1]
      refine mw_aload (i := 5) dL_isTold_494 rfl ?_
      refine mw_aload (i := 6) dL_isTold_496 rfl ?_
      refine mw_aload (i := 7) dL_isTold_498 rfl ?_
      refine mw_aload (i := 8) dL_isTold_500 rfl ?_
      refine mw_aload (i := 9) dL_isTold_502 rfl ?_
      refine mw_aload (i := 13) dL_isTold_504 rfl ?_
      refine mw_iload (i := 20) dL_isTold_506 rfl ?_
      refine mw_callS dL_isTold_508 mk_L_211 ((c_readsM hfr hbT)) (by decide) (Nat.le_refl _) (Nat.le_refl _) rfl rfl (Nat.le_of_ble_eq_true rfl) (fun E9 h9 q9 => ?_) (fun v9 h9 q9 => ?_)
      · obtain ⟨A', X', -, -, ⟨-, z, -⟩ | ⟨-, -, z, -⟩ | ⟨-, -, z⟩⟩ := q9 <;> cases z
      obtain ⟨A', X', rfl, hF, hq⟩ := q9
      rcases hq with ⟨z, -, -⟩ | ⟨-, hsm, e9, hR⟩ | ⟨-, -, e9⟩
      · exact absurd hf z
      · cases e9
        have hR : fR A' X' fr (prsL g.2.2.2).1 := hR
        obtain ⟨hokL, hlenL⟩ := prsL_ok hYb
        refine mw_if_eq (tgt := 516) dL_isTold_511 (by decide) (fun _ => ?_) (fun c9 => absurd c9 (by first | decide | exact (fun q => q rfl)))
        refine mw_aload (i := 4) dL_isTold_516 rfl ?_
        refine mw_iload (i := 20) dL_isTold_518 rfl ?_
        refine mw_iload (i := 15) dL_isTold_520 rfl ?_
        refine mw_iconst (v := 1) dL_isTold_522 (by decide) ?_
        refine mw_iadd dL_isTold_523 ?_
        rw [show nI one + 1 = nI (one + 1) from nI_1 _]
        refine gl_st2 dL_isTold_524 (mw_ix rfl hfr (by decide)) ?_
        refine mw_aload_n (i := 2) dL_isTold_525 rfl rfl ?_
        refine mw_aload_n (i := 3) dL_isTold_526 rfl rfl ?_
        refine mw_aload (i := 4) dL_isTold_527 rfl ?_
        refine mw_aload (i := 5) dL_isTold_529 rfl ?_
        refine mw_aload (i := 6) dL_isTold_531 rfl ?_
        refine mw_aload (i := 7) dL_isTold_533 rfl ?_
        refine mw_aload (i := 8) dL_isTold_535 rfl ?_
        refine mw_aload (i := 9) dL_isTold_537 rfl ?_
        refine mw_aload (i := 11) dL_isTold_539 rfl ?_
        refine mw_aload (i := 13) dL_isTold_541 rfl ?_
        refine mw_iload (i := 20) dL_isTold_543 rfl ?_
        generalize hA2 : va_up A' 2 (upd (A' 2) fr (nI (one + 1))) = A2
        have an : ∀ j, j ≠ 2 → A2 j = A' j := fun j z => by rw [← hA2, va_up_ne _ _ z]
        have a2 : A2 2 = upd (A' 2) fr (nI (one + 1)) := by rw [← hA2, va_up_self]
        have aF : ∀ j, j ≠ 2 → j ≠ 3 → j ≠ 4 → j ≠ 5 → j ≠ 11 → A2 j = A j := fun j z2 z3 z4 z5 z11 => (an j z2).trans (hF.1 j z3 z4 z5 z11)
        have hk2 : kR g.2.1 g.1 A2 := kR_cong hk (aF 0 (by decide) (by decide) (by decide) (by decide) (by decide)) (aF 1 (by decide) (by decide) (by decide) (by decide) (by decide))
        have hR2 : fR A2 X' fr (prsL g.2.2.2).1 := fR_cong hR (by rw [an 3 (by decide)]) (fun p _ _ => ⟨by rw [an 4 (by decide)], by rw [an 5 (by decide)], rfl, rfl⟩)
        have hca := c_canonical (H := H) hk2 ho (by rw [a2, pk_us]) hfr hokL hR2 (by omega)
        generalize hC : eL (can g.2.1 one (prsL g.2.2.2).1) = C at hca hw hic
        have hCb : ∀ z ∈ C, z < 256 := by rw [← hC]; exact eL_lt (can_ok hokL)
        have hC120 : C.length ≤ 120 := by
          have h1 := canU_le g.2.1 one (prsL g.2.2.2).1 31
          rw [← hC]
          unfold can
          omega
        refine mw_callSr dL_isTold_545 mk_L_184 (hca) (by decide) (Nat.le_refl _) (Nat.le_refl _) rfl rfl (Nat.le_of_ble_eq_true rfl) ?_
        refine mw_aload (i := 13) dL_isTold_548 rfl ?_
        refine mw_iconst (v := 1) dL_isTold_550 (by decide) ?_
        refine mw_iald dL_isTold_551 gl_11 (mw_ix (j := 1) rfl (by decide) (by decide)) ?_
        have hg1' : AW A2 0 C 11 1 = nI g.2.2.2.length := by
          rw [AW_g', pk_un (by decide), an 11 (by decide), hF.2.1 1 (by decide)]
          exact hg1
        rw [hg1']
        have hgo : ∀ b : Int32, b = (if C.length = g.2.2.2.length then 1 else 0) → mw_W mm_L_isTold 10 1 6 560 [some (.ref 1), some (.int y), some (.ref 43), some (.ref 44), some (.ref 45), some (.ref 46), some (.ref 47), some (.ref 48), some (.ref 49), some (.ref 50), some (.ref 51), some (.ref 52), some (.ref 53), some (.ref 54), some (.int (0)), some (.int (nI one)), x16, x17, x18, x19, some (.int (nI fr)), x21, x22] [.int b] (gl H (AW A2 0 C) X') (lwP sc) := by
          intro b hb
          rw [hb]
          refine mw_istore_21 dL_isTold_560 (by decide) ?_
          refine mw_iconst (v := 0) dL_isTold_562 (by decide) ?_
          refine mw_istore_22 dL_isTold_563 (by decide) ?_
          refine lp_is0 h64 hg1' (fun x22 => ?_)
          refine mw_aload (i := 4) dL_isTold_603 rfl ?_
          refine mw_iload (i := 20) dL_isTold_605 rfl ?_
          refine mw_iconst (v := 0) dL_isTold_607 (by decide) ?_
          refine gl_st2 dL_isTold_608 (mw_ix rfl hfr (by decide)) ?_
          have hI := cS_gl (A' := va_up (AW A2 0 C) 2 (upd (AW A2 0 C 2) fr 0)) (X' := X') hI
          have hw := hw _ _ _ hI
          have hqi := q_is (C := C) (Y := g.2.2.2) (f := AW A2 0 C 9) (f' := AW A2 0 C 8) (fun j hj h64 => by rw [AW_q]; exact wq_get hj h64) (fun j hj => by rw [AW_n _ _ _ (by decide) (by decide), aF 8 (by decide) (by decide) (by decide) (by decide) (by decide)]; exact htp j hj) h64 hCb hYb
          refine mw_aload_n (i := 0) dL_isTold_609 rfl rfl ?_
          refine mw_iload (i := 15) dL_isTold_610 rfl ?_
          refine mw_callV dL_isTold_612 mk_L_258 (cS_o hI) rfl (hw) (by decide) (Nat.le_refl _) (Nat.le_refl _) rfl rfl (Nat.le_of_ble_eq_true rfl) (fun E9 h9 q9 => ?_) (fun v9 h9 q9 => ?_)
          · cases q9.1
          obtain ⟨e9, H1, rfl, hI⟩ := q9
          cases e9
          refine mw_iload (i := 21) dL_isTold_615 rfl ?_
          refine mw_icmp_ne (tgt := 624) dL_isTold_617 (by decide) (fun c9 => absurd c9 (fun z => z (ite_iff ⟨fun z => hqi.mpr z.2, fun z => ⟨hf, hqi.mp z⟩⟩))) (fun _ => ?_)
          refine mw_iconst (v := 1) dL_isTold_620 (by decide) ?_
          refine mw_goto (tgt := 625) dL_isTold_621 (by decide) ?_
          refine mw_ireturn dL_isTold_625 ⟨_, rfl, rfl⟩ ⟨rfl, _, _, _, _, rfl, hI, ?_⟩
          have b2 : va_up (AW A2 0 C) 2 (upd (AW A2 0 C 2) fr 0) 2 = A 2 := by
            rw [va_up_self, AW_n _ _ _ (by decide) (by decide), a2, fa_upd_twice, hF.1 2 (by decide) (by decide) (by decide) (by decide)]
            exact fa_upd_same hfr0
          have bn : ∀ j, j ≠ 2 → j ≠ 9 → j ≠ 11 → va_up (AW A2 0 C) 2 (upd (AW A2 0 C 2) fr 0) j = A' j := fun j z2 z9 z11 => by rw [va_up_ne _ _ z2, AW_n _ _ _ z9 z11, an j z2]
          have b11 : ∀ j, j < 2 → va_up (AW A2 0 C) 2 (upd (AW A2 0 C 2) fr 0) 11 j = A 11 j := fun j hj => by rw [va_up_ne _ _ (by decide), AW_g', pk_un (by omega), an 11 (by decide), hF.2.1 j (by omega)]
          refine mR_cong hM ?_ ?_ b2 ?_ (b11 0 (by decide)) (b11 1 (by decide)) (fun m s L hm hT => ?_)
          · rw [bn 0 (by decide) (by decide) (by decide)]; exact hF.1 0 (by decide) (by decide) (by decide) (by decide)
          · rw [bn 1 (by decide) (by decide) (by decide)]; exact hF.1 1 (by decide) (by decide) (by decide) (by decide)
          · rw [bn 8 (by decide) (by decide) (by decide)]; exact hF.1 8 (by decide) (by decide) (by decide) (by decide)
          · have h9 := hF.fR (m' := m) (fun z => by rw [z, hTf] at hT; cases hT) ((hms m hm).2 s L hT).2
            exact fR_cong h9 (by rw [bn 3 (by decide) (by decide) (by decide)]) (fun p _ _ => ⟨by rw [bn 4 (by decide) (by decide) (by decide)], by rw [bn 5 (by decide) (by decide) (by decide)], rfl, rfl⟩)
        by_cases ec : C.length = g.2.2.2.length
        · refine mw_icmp_ne (tgt := 559) dL_isTold_552 (by decide) (fun c9 => absurd c9 (by first | decide | exact (fun q => q rfl) | ((try simp only [fa_lit]); first | exact cq_le (by omega) (by omega) | exact cq_nle (by omega) (by omega) | exact cq_lt (by omega) (by omega) | exact cq_nlt (by omega) (by omega) | exact cq_eq (by omega) (by omega) (by omega) | exact cq_neq (by omega)))) (fun _ => ?_)
          refine mw_iconst (v := 1) dL_isTold_555 (by decide) ?_
          refine mw_goto (tgt := 560) dL_isTold_556 (by decide) ?_
          exact hgo 1 (by rw [if_pos ec])
        · refine mw_icmp_ne (tgt := 559) dL_isTold_552 (by decide) (fun _ => ?_) (fun c9 => absurd c9 (by first | decide | exact (fun q => q rfl) | ((try simp only [fa_lit]); first | exact cq_le (by omega) (by omega) | exact cq_nle (by omega) (by omega) | exact cq_lt (by omega) (by omega) | exact cq_nlt (by omega) (by omega) | exact cq_eq (by omega) (by omega) (by omega) | exact cq_neq (by omega))))
          refine mw_iconst (v := 0) dL_isTold_559 (by decide) ?_
          exact hgo 0 (by rw [if_neg ec])
      · cases e9
        refine mw_if_eq (tgt := 516) dL_isTold_511 (by decide) (fun c9 => absurd c9 (by first | decide | exact (fun q => q rfl))) (fun _ => ?_)
        refine mw_iconst (v := 1) dL_isTold_514 (by decide) ?_
        exact mw_ireturn dL_isTold_515 ⟨_, rfl, rfl⟩ ⟨rfl, _, _, _, _, rfl, cS_gl hI, mR_fF hM hTf hF⟩
    · refine mw_istore_20 dL_isTold_449 (by decide) ?_
      refine mw_iload (i := 20) dL_isTold_451 rfl ?_
      refine mw_if_lt (tgt := 461) dL_isTold_453 (by decide) (fun c9 => absurd c9 (cq_lt (b := 0) (Nat.zero_le _) (by omega))) (fun _ => ?_)
      refine mw_iload (i := 14) dL_isTold_456 rfl ?_
      refine mw_if_le (tgt := 488) dL_isTold_458 (by decide) (fun c9 => absurd c9 (by first | decide | exact (fun q => q rfl))) (fun _ => ?_)
      exact hno _
theorem mR_scr (hM : mR g A X) {A' : Nat → Nat → Int32} (h : ∀ j, j ≠ 9 → j ≠ 10 → j ≠ 11 → A' j = A j) (g0 : A' 11 0 = A 11 0) (g1 : A' 11 1 = A 11 1) : mR g A' X := by
  refine mR_cong hM (h 0 (by decide) (by decide) (by decide)) (h 1 (by decide) (by decide) (by decide)) (h 2 (by decide) (by decide) (by decide)) (h 8 (by decide) (by decide) (by decide)) g0 g1 (fun m s L hm hT => ?_)
  exact fR_cong ((hM.2.2.1 m hm).2 s L hT).2 (by rw [h 3 (by decide) (by decide) (by decide)]) (fun p _ _ => ⟨by rw [h 4 (by decide) (by decide) (by decide)], by rw [h 5 (by decide) (by decide) (by decide)], rfl, rfl⟩)
/-- the first i places of C -/
def rcp (f : Nat → Int32) (C : List Nat) (i : Nat) : Nat → Int32 := fun j => if j < i then nI (C.getD j 0) else f j
theorem rcp_0 (f : Nat → Int32) (C : List Nat) : rcp f C 0 = f := by
  funext j
  exact if_neg (Nat.not_lt_zero _)
theorem rcp_s (f : Nat → Int32) (C : List Nat) (i : Nat) : upd (rcp f C i) i (nI (C.getD i 0)) = rcp f C (i + 1) := by
  funext j
  unfold upd rcp
  by_cases e : j = i
  · subst e
    rw [if_pos rfl, if_pos (Nat.lt_succ_self _)]
  · rw [if_neg e]
    by_cases c : j < i
    · rw [if_pos c, if_pos (by omega)]
    · rw [if_neg c, if_neg (by omega)]
theorem lp_cp {C : List Nat} (hC : C.length ≤ 120) {B : Nat → Nat → Int32} (hq : ∀ j, j < C.length → j < 64 → B 9 j = nI (C.getD j 0)) {H : mw_H} {kc ks : Nat} {Po : mw_P} {l14 l15 l16 l17 l18 l19 : Option Value} {x22 : Option Value} (k : ∀ x21, mw_W mm_L_isTold 10 kc ks 328 [some (.ref 1), some (.int y), some (.ref 43), some (.ref 44), some (.ref 45), some (.ref 46), some (.ref 47), some (.ref 48), some (.ref 49), some (.ref 50), some (.ref 51), some (.ref 52), some (.ref 53), some (.ref 54), l14, l15, l16, l17, l18, l19, some (.int (nI C.length)), x21, x22] [] (gl H (va_up B 10 (rcp (B 10) C (min C.length 64))) X) Po) : ∀ (n i : Nat), i + n = min C.length 64 →
    mw_W mm_L_isTold 10 kc ks 298 [some (.ref 1), some (.int y), some (.ref 43), some (.ref 44), some (.ref 45), some (.ref 46), some (.ref 47), some (.ref 48), some (.ref 49), some (.ref 50), some (.ref 51), some (.ref 52), some (.ref 53), some (.ref 54), l14, l15, l16, l17, l18, l19, some (.int (nI C.length)), some (.int (nI i)), x22] [] (gl H (va_up B 10 (rcp (B 10) C i)) X) Po := by
  intro n
  induction n with
  | zero =>
    intro i hi
    have hi : i = min C.length 64 := by omega
    by_cases e : C.length ≤ i
    · refine mw_iload (i := 21) dL_isTold_298 rfl ?_
      refine mw_iload (i := 20) dL_isTold_300 rfl ?_
      refine mw_icmp_ge (tgt := 328) dL_isTold_302 (by decide) (fun _ => ?_) (fun c9 => absurd c9 (by first | decide | exact (fun q => q rfl) | ((try simp only [fa_lit]); first | exact cq_le (by omega) (by omega) | exact cq_nle (by omega) (by omega) | exact cq_lt (by omega) (by omega) | exact cq_nlt (by omega) (by omega) | exact cq_eq (by omega) (by omega) (by omega) | exact cq_neq (by omega))))
      rw [hi]
      exact k _
    · refine mw_iload (i := 21) dL_isTold_298 rfl ?_
      refine mw_iload (i := 20) dL_isTold_300 rfl ?_
      refine mw_icmp_ge (tgt := 328) dL_isTold_302 (by decide) (fun c9 => absurd c9 (by first | decide | exact (fun q => q rfl) | ((try simp only [fa_lit]); first | exact cq_le (by omega) (by omega) | exact cq_nle (by omega) (by omega) | exact cq_lt (by omega) (by omega) | exact cq_nlt (by omega) (by omega) | exact cq_eq (by omega) (by omega) (by omega) | exact cq_neq (by omega)))) (fun _ => ?_)
      refine mw_iload (i := 21) dL_isTold_305 rfl ?_
      refine mw_bipush (v := 64) dL_isTold_307 (by decide) ?_
      refine mw_icmp_ge (tgt := 328) dL_isTold_309 (by decide) (fun _ => ?_) (fun c9 => absurd c9 (by first | decide | exact (fun q => q rfl) | ((try simp only [fa_lit]); first | exact cq_le (by omega) (by omega) | exact cq_nle (by omega) (by omega) | exact cq_lt (by omega) (by omega) | exact cq_nlt (by omega) (by omega) | exact cq_eq (by omega) (by omega) (by omega) | exact cq_neq (by omega))))
      rw [hi]
      exact k _
  | succ n ih =>
    intro i hi
    have hi1 : i < C.length := by omega
    have hi2 : i < 64 := by omega
    refine mw_iload (i := 21) dL_isTold_298 rfl ?_
    refine mw_iload (i := 20) dL_isTold_300 rfl ?_
    refine mw_icmp_ge (tgt := 328) dL_isTold_302 (by decide) (fun c9 => absurd c9 (by first | decide | exact (fun q => q rfl) | ((try simp only [fa_lit]); first | exact cq_le (by omega) (by omega) | exact cq_nle (by omega) (by omega) | exact cq_lt (by omega) (by omega) | exact cq_nlt (by omega) (by omega) | exact cq_eq (by omega) (by omega) (by omega) | exact cq_neq (by omega)))) (fun _ => ?_)
    refine mw_iload (i := 21) dL_isTold_305 rfl ?_
    refine mw_bipush (v := 64) dL_isTold_307 (by decide) ?_
    refine mw_icmp_ge (tgt := 328) dL_isTold_309 (by decide) (fun c9 => absurd c9 (by first | decide | exact (fun q => q rfl) | ((try simp only [fa_lit]); first | exact cq_le (by omega) (by omega) | exact cq_nle (by omega) (by omega) | exact cq_lt (by omega) (by omega) | exact cq_nlt (by omega) (by omega) | exact cq_eq (by omega) (by omega) (by omega) | exact cq_neq (by omega)))) (fun _ => ?_)
    refine mw_aload (i := 12) dL_isTold_312 rfl ?_
    refine mw_iload (i := 21) dL_isTold_314 rfl ?_
    refine mw_aload (i := 11) dL_isTold_316 rfl ?_
    refine mw_iload (i := 21) dL_isTold_318 rfl ?_
    refine mw_iald dL_isTold_320 gl_9 (mw_ix rfl (by omega) (by decide)) ?_
    refine mw_top (show va_up B 10 (rcp (B 10) C i) 9 i = nI (C.getD i 0) by rw [va_up_ne _ _ (by decide)]; exact hq i hi1 hi2) ?_
    refine gl_st10 dL_isTold_321 (mw_ix rfl (by omega) (by decide)) ?_
    refine mw_iinc_21 dL_isTold_322 (by decide) rfl ?_
    refine mw_goto (tgt := 298) dL_isTold_325 (by decide) ?_
    rw [va_up_self, up_up, rcp_s, show nI i + Int32.ofInt 1 = nI (i + 1) from nI_1 _]
    exact ih (i + 1) (by omega)
theorem lp_sm {lc ly : Nat} (hl : ly ≤ 120) {H : mw_H} {kc ks : Nat} {Po : mw_P} {l14 l15 l16 l17 l18 l19 : Option Value} (k : ∀ x22, mw_W mm_L_isTold 10 kc ks 409 [some (.ref 1), some (.int y), some (.ref 43), some (.ref 44), some (.ref 45), some (.ref 46), some (.ref 47), some (.ref 48), some (.ref 49), some (.ref 50), some (.ref 51), some (.ref 52), some (.ref 53), some (.ref 54), l14, l15, l16, l17, l18, l19, some (.int (nI ly)), some (.int (if lc = ly ∧ ∀ j, j < min ly 64 → A 10 j = A 9 j then 1 else 0)), x22] [] (gl H A X) Po) : ∀ (n i : Nat), i + n = min ly 64 →
    mw_W mm_L_isTold 10 kc ks 366 [some (.ref 1), some (.int y), some (.ref 43), some (.ref 44), some (.ref 45), some (.ref 46), some (.ref 47), some (.ref 48), some (.ref 49), some (.ref 50), some (.ref 51), some (.ref 52), some (.ref 53), some (.ref 54), l14, l15, l16, l17, l18, l19, some (.int (nI ly)), some (.int (if lc = ly ∧ ∀ j, j < i → A 10 j = A 9 j then 1 else 0)), some (.int (nI i))] [] (gl H A X) Po := by
  intro n
  induction n with
  | zero =>
    intro i hi
    have hi : i = min ly 64 := by omega
    rw [hi]
    by_cases e : ly ≤ 64
    · refine mw_iload (i := 22) dL_isTold_366 rfl ?_
      refine mw_iload (i := 20) dL_isTold_368 rfl ?_
      refine mw_icmp_ge (tgt := 409) dL_isTold_370 (by decide) (fun _ => ?_) (fun c9 => absurd c9 (by first | decide | exact (fun q => q rfl) | ((try simp only [fa_lit]); first | exact cq_le (by omega) (by omega) | exact cq_nle (by omega) (by omega) | exact cq_lt (by omega) (by omega) | exact cq_nlt (by omega) (by omega) | exact cq_eq (by omega) (by omega) (by omega) | exact cq_neq (by omega))))
      exact k _
    · refine mw_iload (i := 22) dL_isTold_366 rfl ?_
      refine mw_iload (i := 20) dL_isTold_368 rfl ?_
      refine mw_icmp_ge (tgt := 409) dL_isTold_370 (by decide) (fun c9 => absurd c9 (by first | decide | exact (fun q => q rfl) | ((try simp only [fa_lit]); first | exact cq_le (by omega) (by omega) | exact cq_nle (by omega) (by omega) | exact cq_lt (by omega) (by omega) | exact cq_nlt (by omega) (by omega) | exact cq_eq (by omega) (by omega) (by omega) | exact cq_neq (by omega)))) (fun _ => ?_)
      refine mw_iload (i := 22) dL_isTold_373 rfl ?_
      refine mw_bipush (v := 64) dL_isTold_375 (by decide) ?_
      refine mw_icmp_ge (tgt := 409) dL_isTold_377 (by decide) (fun _ => ?_) (fun c9 => absurd c9 (by first | decide | exact (fun q => q rfl) | ((try simp only [fa_lit]); first | exact cq_le (by omega) (by omega) | exact cq_nle (by omega) (by omega) | exact cq_lt (by omega) (by omega) | exact cq_nlt (by omega) (by omega) | exact cq_eq (by omega) (by omega) (by omega) | exact cq_neq (by omega))))
      exact k _
  | succ n ih =>
    intro i hi
    have ih := ih (i + 1) (by omega)
    have hst := and_step (P := lc = ly) (Q := True) (f := A 10) (f' := A 9) i
    by_cases e : A 10 i = A 9 i
    · rw [if_pos e] at hst
      refine mw_iload (i := 22) dL_isTold_366 rfl ?_
      refine mw_iload (i := 20) dL_isTold_368 rfl ?_
      refine mw_icmp_ge (tgt := 409) dL_isTold_370 (by decide) (fun c9 => absurd c9 (by first | decide | exact (fun q => q rfl) | ((try simp only [fa_lit]); first | exact cq_le (by omega) (by omega) | exact cq_nle (by omega) (by omega) | exact cq_lt (by omega) (by omega) | exact cq_nlt (by omega) (by omega) | exact cq_eq (by omega) (by omega) (by omega) | exact cq_neq (by omega)))) (fun _ => ?_)
      refine mw_iload (i := 22) dL_isTold_373 rfl ?_
      refine mw_bipush (v := 64) dL_isTold_375 (by decide) ?_
      refine mw_icmp_ge (tgt := 409) dL_isTold_377 (by decide) (fun c9 => absurd c9 (by first | decide | exact (fun q => q rfl) | ((try simp only [fa_lit]); first | exact cq_le (by omega) (by omega) | exact cq_nle (by omega) (by omega) | exact cq_lt (by omega) (by omega) | exact cq_nlt (by omega) (by omega) | exact cq_eq (by omega) (by omega) (by omega) | exact cq_neq (by omega)))) (fun _ => ?_)
      refine mw_iload (i := 21) dL_isTold_380 rfl ?_
      refine mw_aload (i := 12) dL_isTold_382 rfl ?_
      refine mw_iload (i := 22) dL_isTold_384 rfl ?_
      refine mw_iald dL_isTold_386 gl_10 (mw_ix rfl (by omega) (by decide)) ?_
      refine mw_aload (i := 11) dL_isTold_387 rfl ?_
      refine mw_iload (i := 22) dL_isTold_389 rfl ?_
      refine mw_iald dL_isTold_391 gl_9 (mw_ix rfl (by omega) (by decide)) ?_
      refine mw_icmp_ne (tgt := 399) dL_isTold_392 (by decide) (fun c9 => absurd c9 (fun z => z e)) (fun _ => ?_)
      refine mw_iconst (v := 1) dL_isTold_395 (by decide) ?_
      refine mw_goto (tgt := 400) dL_isTold_396 (by decide) ?_
      refine mw_iand dL_isTold_400 ?_
      rw [hst]
      refine mw_istore_21 dL_isTold_401 (by decide) ?_
      refine mw_iinc_22 dL_isTold_403 (by decide) rfl ?_
      refine mw_goto (tgt := 366) dL_isTold_406 (by decide) ?_
      rw [show nI i + Int32.ofInt 1 = nI (i + 1) from nI_1 _]
      exact ih
    · rw [if_neg e] at hst
      refine mw_iload (i := 22) dL_isTold_366 rfl ?_
      refine mw_iload (i := 20) dL_isTold_368 rfl ?_
      refine mw_icmp_ge (tgt := 409) dL_isTold_370 (by decide) (fun c9 => absurd c9 (by first | decide | exact (fun q => q rfl) | ((try simp only [fa_lit]); first | exact cq_le (by omega) (by omega) | exact cq_nle (by omega) (by omega) | exact cq_lt (by omega) (by omega) | exact cq_nlt (by omega) (by omega) | exact cq_eq (by omega) (by omega) (by omega) | exact cq_neq (by omega)))) (fun _ => ?_)
      refine mw_iload (i := 22) dL_isTold_373 rfl ?_
      refine mw_bipush (v := 64) dL_isTold_375 (by decide) ?_
      refine mw_icmp_ge (tgt := 409) dL_isTold_377 (by decide) (fun c9 => absurd c9 (by first | decide | exact (fun q => q rfl) | ((try simp only [fa_lit]); first | exact cq_le (by omega) (by omega) | exact cq_nle (by omega) (by omega) | exact cq_lt (by omega) (by omega) | exact cq_nlt (by omega) (by omega) | exact cq_eq (by omega) (by omega) (by omega) | exact cq_neq (by omega)))) (fun _ => ?_)
      refine mw_iload (i := 21) dL_isTold_380 rfl ?_
      refine mw_aload (i := 12) dL_isTold_382 rfl ?_
      refine mw_iload (i := 22) dL_isTold_384 rfl ?_
      refine mw_iald dL_isTold_386 gl_10 (mw_ix rfl (by omega) (by decide)) ?_
      refine mw_aload (i := 11) dL_isTold_387 rfl ?_
      refine mw_iload (i := 22) dL_isTold_389 rfl ?_
      refine mw_iald dL_isTold_391 gl_9 (mw_ix rfl (by omega) (by decide)) ?_
      refine mw_icmp_ne (tgt := 399) dL_isTold_392 (by decide) (fun _ => ?_) (fun c9 => absurd c9 e)
      refine mw_iconst (v := 0) dL_isTold_399 (by decide) ?_
      refine mw_iand dL_isTold_400 ?_
      rw [hst]
      refine mw_istore_21 dL_isTold_401 (by decide) ?_
      refine mw_iinc_22 dL_isTold_403 (by decide) rfl ?_
      refine mw_goto (tgt := 366) dL_isTold_406 (by decide) ?_
      rw [show nI i + Int32.ofInt 1 = nI (i + 1) from nI_1 _]
      exact ih
theorem lp_sm0 {lc ly : Nat} (hl : ly ≤ 120) {H : mw_H} {kc ks : Nat} {Po : mw_P} {l14 l15 l16 l17 l18 l19 : Option Value} (k : ∀ x22, mw_W mm_L_isTold 10 kc ks 409 [some (.ref 1), some (.int y), some (.ref 43), some (.ref 44), some (.ref 45), some (.ref 46), some (.ref 47), some (.ref 48), some (.ref 49), some (.ref 50), some (.ref 51), some (.ref 52), some (.ref 53), some (.ref 54), l14, l15, l16, l17, l18, l19, some (.int (nI ly)), some (.int (if lc = ly ∧ ∀ j, j < min ly 64 → A 10 j = A 9 j then 1 else 0)), x22] [] (gl H A X) Po) : mw_W mm_L_isTold 10 kc ks 366 [some (.ref 1), some (.int y), some (.ref 43), some (.ref 44), some (.ref 45), some (.ref 46), some (.ref 47), some (.ref 48), some (.ref 49), some (.ref 50), some (.ref 51), some (.ref 52), some (.ref 53), some (.ref 54), l14, l15, l16, l17, l18, l19, some (.int (nI ly)), some (.int (if lc = ly then 1 else 0)), some (.int (0))] [] (gl H A X) Po := by
  have h := lp_sm (lc := lc) hl k (min ly 64) 0 (by omega)
  by_cases e : lc = ly
  · rw [if_pos ⟨e, fun j hj => absurd hj (Nat.not_lt_zero j)⟩] at h
    rw [if_pos e]
    exact h
  · rw [if_neg (fun z => e z.1)] at h
    rw [if_neg e]
    exact h
theorem tl_C {H : mw_H} (hI : cS sc g H A X) (hM : mR g A X) {one m p : Nat} (ho : one < g.1) (hm : m < 5) (hp : p < 5) {rc : Int32} (hrc : rcO (prsL g.2.2.2).2.1 rc) {x16 x17 x20 x21 x22 : Option Value} : mw_W mm_L_isTold 10 3 18 254 [some (.ref 1), some (.int y), some (.ref 43), some (.ref 44), some (.ref 45), some (.ref 46), some (.ref 47), some (.ref 48), some (.ref 49), some (.ref 50), some (.ref 51), some (.ref 52), some (.ref 53), some (.ref 54), some (.int (rc)), some (.int (nI one)), x16, x17, some (.int (nI m)), some (.int (nI p)), x20, x21, x22] [] (gl H A X) (lwP sc) := by
  have hok := cS_ok hI
  have hns := mR_ns hM
  obtain ⟨hk, hg0, hms, -, hg1, h64, htp, -⟩ := id hM
  rcases mR_m hM hok hm with ⟨-, hA⟩ | ⟨s, L, hT, hs, hA, hR, hokL, h120⟩
  · refine mw_aload (i := 4) dL_isTold_254 rfl ?_
    refine mw_iload (i := 18) dL_isTold_256 rfl ?_
    refine mw_iald dL_isTold_258 gl_2 (mw_ix rfl hm (by decide)) ?_
    rw [hA]
    refine mw_if_le (tgt := 444) dL_isTold_259 (by decide) (fun _ => ?_) (fun c9 => absurd c9 (by first | decide | exact (fun q => q rfl)))
    exact mw_less (by decide) (by decide) (tl_D hI hM ho hrc)
  · refine mw_aload (i := 4) dL_isTold_254 rfl ?_
    refine mw_iload (i := 18) dL_isTold_256 rfl ?_
    refine mw_iald dL_isTold_258 gl_2 (mw_ix rfl hm (by decide)) ?_
    rw [hA]
    have hpos : ¬ nI (s + 1) ≤ 0 := cq_le (b := 0) (Nat.succ_pos _) (by omega)
    rcases mR_m hM hok hp with ⟨-, hA2⟩ | ⟨s2, L2, hT2, hs2, hA2, hR2, hokL2, h1202⟩
    · refine mw_if_le (tgt := 444) dL_isTold_259 (by decide) (fun c9 => absurd c9 hpos) (fun _ => ?_)
      refine mw_aload (i := 4) dL_isTold_262 rfl ?_
      refine mw_iload (i := 19) dL_isTold_264 rfl ?_
      refine mw_iald dL_isTold_266 gl_2 (mw_ix rfl hp (by decide)) ?_
      rw [hA2]
      refine mw_if_le (tgt := 444) dL_isTold_267 (by decide) (fun _ => ?_) (fun c9 => absurd c9 (by first | decide | exact (fun q => q rfl)))
      exact mw_less (by decide) (by decide) (tl_D hI hM ho hrc)
    · have hpos2 : ¬ nI (s2 + 1) ≤ 0 := cq_le (b := 0) (Nat.succ_pos _) (by omega)
      have hca := c_canonical (H := H) hk hs hA hm hokL hR h120
      have hsame : (sM g (nI m) = some (m, s, L)) ∧ (sM g (nI p) = some (p, s2, L2)) := ⟨sM_at (by omega) hT, sM_at (by omega) hT2⟩
      have hspS : sp_areSame g (nI m) (nI p) = (0, (if eL (can g.2.1 s L) = eL (can g.2.1 s2 L2) then 1 else 0), g) := by
        unfold sp_areSame
        rw [hsame.1, hsame.2]
      have hC1b : ∀ z ∈ eL (can g.2.1 s L), z < 256 := eL_lt (can_ok hokL)
      have hC2b : ∀ z ∈ eL (can g.2.1 s2 L2), z < 256 := eL_lt (can_ok hokL2)
      have hC1l : (eL (can g.2.1 s L)).length ≤ 120 := Nat.le_trans (canU_le g.2.1 s L 31) h120
      have hC2l : (eL (can g.2.1 s2 L2)).length ≤ 120 := Nat.le_trans (canU_le g.2.1 s2 L2 31) h1202
      have hca2 := fun B hkB hcB hRB => c_canonical (H := H) (A := B) (X := X) (K := g.2.1) (ns := g.1) (s := s2) (m := p) (L := L2) hkB hs2 hcB hp hokL2 hRB h1202
      generalize eL (can g.2.1 s L) = C1 at hca hspS hC1b hC1l
      generalize eL (can g.2.1 s2 L2) = C2 at hca2 hspS hC2b hC2l
      refine mw_if_le (tgt := 444) dL_isTold_259 (by decide) (fun c9 => absurd c9 hpos) (fun _ => ?_)
      refine mw_aload (i := 4) dL_isTold_262 rfl ?_
      refine mw_iload (i := 19) dL_isTold_264 rfl ?_
      refine mw_iald dL_isTold_266 gl_2 (mw_ix rfl hp (by decide)) ?_
      rw [hA2]
      refine mw_if_le (tgt := 444) dL_isTold_267 (by decide) (fun c9 => absurd c9 hpos2) (fun _ => ?_)
      refine mw_aload_n (i := 2) dL_isTold_270 rfl rfl ?_
      refine mw_aload_n (i := 3) dL_isTold_271 rfl rfl ?_
      refine mw_aload (i := 4) dL_isTold_272 rfl ?_
      refine mw_aload (i := 5) dL_isTold_274 rfl ?_
      refine mw_aload (i := 6) dL_isTold_276 rfl ?_
      refine mw_aload (i := 7) dL_isTold_278 rfl ?_
      refine mw_aload (i := 8) dL_isTold_280 rfl ?_
      refine mw_aload (i := 9) dL_isTold_282 rfl ?_
      refine mw_aload (i := 11) dL_isTold_284 rfl ?_
      refine mw_aload (i := 13) dL_isTold_286 rfl ?_
      refine mw_iload (i := 18) dL_isTold_288 rfl ?_
      refine mw_callSr dL_isTold_290 mk_L_184 (hca) (by decide) (Nat.le_refl _) (Nat.le_refl _) rfl rfl (Nat.le_of_ble_eq_true rfl) ?_
      refine mw_istore_20 dL_isTold_293 (by decide) ?_
      refine mw_iconst (v := 0) dL_isTold_295 (by decide) ?_
      refine mw_istore_21 dL_isTold_296 (by decide) ?_
      have hcp := fun k => lp_cp (X := X) (y := y) (C := C1) hC1l (B := AW A 0 C1) (fun j hj h64 => by rw [AW_q]; exact wq_get hj h64) (H := H) (kc := 3) (ks := 18) (Po := lwP sc) (l14 := some (.int rc)) (l15 := some (.int (nI one))) (l16 := x16) (l17 := x17) (l18 := some (.int (nI m))) (l19 := some (.int (nI p))) (x22 := x22) k (min C1.length 64) 0 (by omega)
      rw [rcp_0, up_same] at hcp
      refine hcp (fun x21 => ?_)
      generalize hB : va_up (AW A 0 C1) 10 (rcp (AW A 0 C1 10) C1 (min C1.length 64)) = B
      have bn : ∀ j, j ≠ 9 → j ≠ 10 → j ≠ 11 → B j = A j := fun j z9 z10 z11 => by rw [← hB, va_up_ne _ _ z10, AW_n _ _ _ z9 z11]
      have b11 : ∀ j, j < 2 → B 11 j = A 11 j := fun j hj => by rw [← hB, va_up_ne _ _ (by decide), AW_g', pk_un (by omega)]
      have b10 : ∀ j, j < C1.length → j < 64 → B 10 j = nI (C1.getD j 0) := fun j h1 h2 => by
        rw [← hB, va_up_self]
        exact if_pos (by omega)
      have hMB := mR_scr hM bn (b11 0 (by decide)) (b11 1 (by decide))
      have hca2 := hca2 B hMB.1 (by rw [bn 2 (by decide) (by decide) (by decide)]; exact hA2) ((hMB.2.2.1 p hp).2 s2 L2 hT2).2
      have hMD : mR g (AW B 0 C2) X := mR_scr hMB (fun j z9 z10 z11 => AW_n _ _ _ z9 z11) (by rw [AW_g', pk_un (by decide)]) (by rw [AW_g', pk_un (by decide)])
      have hd10 : ∀ j, j < C1.length → j < 64 → AW B 0 C2 10 j = nI (C1.getD j 0) := fun j h1 h2 => by rw [AW_n _ _ _ (by decide) (by decide)]; exact b10 j h1 h2
      have hd9 : ∀ j, j < C2.length → j < 64 → AW B 0 C2 9 j = nI (C2.getD j 0) := fun j h1 h2 => by rw [AW_q]; exact wq_get h1 h2
      have hgo : ∀ b : Int32, b = (if C2.length = C1.length then 1 else 0) → mw_W mm_L_isTold 10 3 18 361 [some (.ref 1), some (.int y), some (.ref 43), some (.ref 44), some (.ref 45), some (.ref 46), some (.ref 47), some (.ref 48), some (.ref 49), some (.ref 50), some (.ref 51), some (.ref 52), some (.ref 53), some (.ref 54), some (.int (rc)), some (.int (nI one)), x16, x17, some (.int (nI m)), some (.int (nI p)), some (.int (nI C1.length)), x21, x22] [.int b] (gl H (AW B 0 C2) X) (lwP sc) := by
        intro b hb
        rw [hb]
        refine mw_istore_21 dL_isTold_361 (by decide) ?_
        refine mw_iconst (v := 0) dL_isTold_363 (by decide) ?_
        refine mw_istore_22 dL_isTold_364 (by decide) ?_
        refine lp_sm0 hC1l (fun x22 => ?_)
        have hI := cS_gl (A' := AW B 0 C2) (X' := X) hI
        by_cases h65 : C1.length < 65
        · have hiff : (C2.length = C1.length ∧ ∀ j, j < min C1.length 64 → AW B 0 C2 10 j = AW B 0 C2 9 j) ↔ C1 = C2 := by
            constructor
            · rintro ⟨e, h⟩
              refine row_eq e.symm (fun j hj => ?_)
              have h9 := h j (by omega)
              rw [hd10 j hj (by omega), hd9 j (by omega) (by omega)] at h9
              have b1 := getD_byte hC1b j
              have b2 := getD_byte hC2b j
              exact (nI_eq (by omega) (by omega)).mp h9
            · rintro rfl
              exact ⟨rfl, fun j hj => by rw [hd10 j (by omega) (by omega), hd9 j (by omega) (by omega)]⟩
          have hw := d_areSame hI (nI m) (nI p) (by rw [hspS])
          rw [hspS] at hw
          refine mw_iload (i := 20) dL_isTold_409 rfl ?_
          refine mw_bipush (v := 65) dL_isTold_411 (by decide) ?_
          refine mw_icmp_ge (tgt := 444) dL_isTold_413 (by decide) (fun c9 => absurd c9 (by first | decide | exact (fun q => q rfl) | ((try simp only [fa_lit]); first | exact cq_le (by omega) (by omega) | exact cq_nle (by omega) (by omega) | exact cq_lt (by omega) (by omega) | exact cq_nlt (by omega) (by omega) | exact cq_eq (by omega) (by omega) (by omega) | exact cq_neq (by omega)))) (fun _ => ?_)
          refine mw_aload_n (i := 0) dL_isTold_416 rfl rfl ?_
          refine mw_iload (i := 18) dL_isTold_417 rfl ?_
          refine mw_iload (i := 19) dL_isTold_419 rfl ?_
          refine mw_callV dL_isTold_421 mk_L_252 (cS_o hI) rfl (hw) (by decide) (Nat.le_refl _) (Nat.le_refl _) rfl rfl (Nat.le_of_ble_eq_true rfl) (fun E9 h9 q9 => ?_) (fun v9 h9 q9 => ?_)
          · cases q9.1
          obtain ⟨e9, H1, rfl, hI⟩ := q9
          cases e9
          have hw := d_areSameByBytes hI (nI m) (nI p) (by rw [hspS])
          rw [hspS] at hw
          refine mw_iload (i := 21) dL_isTold_424 rfl ?_
          refine mw_icmp_ne (tgt := 442) dL_isTold_426 (by decide) (fun c9 => absurd c9 (fun z => z (ite_iff hiff.symm))) (fun _ => ?_)
          refine mw_aload_n (i := 0) dL_isTold_429 rfl rfl ?_
          refine mw_iload (i := 18) dL_isTold_430 rfl ?_
          refine mw_iload (i := 19) dL_isTold_432 rfl ?_
          refine mw_callV dL_isTold_434 mk_L_255 (cS_o hI) rfl (hw) (by decide) (Nat.le_refl _) (Nat.le_refl _) rfl rfl (Nat.le_of_ble_eq_true rfl) (fun E9 h9 q9 => ?_) (fun v9 h9 q9 => ?_)
          · cases q9.1
          obtain ⟨e9, H2, rfl, hI⟩ := q9
          cases e9
          refine mw_iload (i := 21) dL_isTold_437 rfl ?_
          refine mw_icmp_eq (tgt := 444) dL_isTold_439 (by decide) (fun _ => ?_) (fun c9 => absurd c9 (fun z => z (ite_iff hiff.symm)))
          exact mw_less (by decide) (by decide) (tl_D hI hMD ho hrc)
        · refine mw_iload (i := 20) dL_isTold_409 rfl ?_
          refine mw_bipush (v := 65) dL_isTold_411 (by decide) ?_
          refine mw_icmp_ge (tgt := 444) dL_isTold_413 (by decide) (fun _ => ?_) (fun c9 => absurd c9 (by first | decide | exact (fun q => q rfl) | ((try simp only [fa_lit]); first | exact cq_le (by omega) (by omega) | exact cq_nle (by omega) (by omega) | exact cq_lt (by omega) (by omega) | exact cq_nlt (by omega) (by omega) | exact cq_eq (by omega) (by omega) (by omega) | exact cq_neq (by omega))))
          exact mw_less (by decide) (by decide) (tl_D hI hMD ho hrc)
      by_cases ec : C2.length = C1.length
      · refine mw_aload_n (i := 2) dL_isTold_328 rfl rfl ?_
        refine mw_aload_n (i := 3) dL_isTold_329 rfl rfl ?_
        refine mw_aload (i := 4) dL_isTold_330 rfl ?_
        refine mw_aload (i := 5) dL_isTold_332 rfl ?_
        refine mw_aload (i := 6) dL_isTold_334 rfl ?_
        refine mw_aload (i := 7) dL_isTold_336 rfl ?_
        refine mw_aload (i := 8) dL_isTold_338 rfl ?_
        refine mw_aload (i := 9) dL_isTold_340 rfl ?_
        refine mw_aload (i := 11) dL_isTold_342 rfl ?_
        refine mw_aload (i := 13) dL_isTold_344 rfl ?_
        refine mw_iload (i := 19) dL_isTold_346 rfl ?_
        refine mw_callSr dL_isTold_348 mk_L_184 (hca2) (by decide) (Nat.le_refl _) (Nat.le_refl _) rfl rfl (Nat.le_of_ble_eq_true rfl) ?_
        refine mw_iload (i := 20) dL_isTold_351 rfl ?_
        refine mw_icmp_ne (tgt := 360) dL_isTold_353 (by decide) (fun c9 => absurd c9 (by first | decide | exact (fun q => q rfl) | ((try simp only [fa_lit]); first | exact cq_le (by omega) (by omega) | exact cq_nle (by omega) (by omega) | exact cq_lt (by omega) (by omega) | exact cq_nlt (by omega) (by omega) | exact cq_eq (by omega) (by omega) (by omega) | exact cq_neq (by omega)))) (fun _ => ?_)
        refine mw_iconst (v := 1) dL_isTold_356 (by decide) ?_
        refine mw_goto (tgt := 361) dL_isTold_357 (by decide) ?_
        exact hgo 1 (by rw [if_pos ec])
      · refine mw_aload_n (i := 2) dL_isTold_328 rfl rfl ?_
        refine mw_aload_n (i := 3) dL_isTold_329 rfl rfl ?_
        refine mw_aload (i := 4) dL_isTold_330 rfl ?_
        refine mw_aload (i := 5) dL_isTold_332 rfl ?_
        refine mw_aload (i := 6) dL_isTold_334 rfl ?_
        refine mw_aload (i := 7) dL_isTold_336 rfl ?_
        refine mw_aload (i := 8) dL_isTold_338 rfl ?_
        refine mw_aload (i := 9) dL_isTold_340 rfl ?_
        refine mw_aload (i := 11) dL_isTold_342 rfl ?_
        refine mw_aload (i := 13) dL_isTold_344 rfl ?_
        refine mw_iload (i := 19) dL_isTold_346 rfl ?_
        refine mw_callSr dL_isTold_348 mk_L_184 (hca2) (by decide) (Nat.le_refl _) (Nat.le_refl _) rfl rfl (Nat.le_of_ble_eq_true rfl) ?_
        refine mw_iload (i := 20) dL_isTold_351 rfl ?_
        refine mw_icmp_ne (tgt := 360) dL_isTold_353 (by decide) (fun _ => ?_) (fun c9 => absurd c9 (by first | decide | exact (fun q => q rfl) | ((try simp only [fa_lit]); first | exact cq_le (by omega) (by omega) | exact cq_nle (by omega) (by omega) | exact cq_lt (by omega) (by omega) | exact cq_nlt (by omega) (by omega) | exact cq_eq (by omega) (by omega) (by omega) | exact cq_neq (by omega))))
        refine mw_iconst (v := 0) dL_isTold_360 (by decide) ?_
        exact hgo 0 (by rw [if_neg ec])
theorem tg_lt {i j : Nat} (hi : i < 6) (hj : j < 6) (h : tg i < tg j) : i < j := by
  rcases six hi with rfl | rfl | rfl | rfl | rfl | rfl <;> rcases six hj with rfl | rfl | rfl | rfl | rfl | rfl <;> first | decide | exact absurd h (by decide)
theorem tg_le {i j : Nat} (hi : i < 6) (hj : j < 6) (h : i < j) : tg i < tg j := by
  rcases six hi with rfl | rfl | rfl | rfl | rfl | rfl <;> rcases six hj with rfl | rfl | rfl | rfl | rfl | rfl <;> first | decide | exact absurd h (by decide)
/-- the least reason among the places n .. 5 -/
def cfP (K : Nat → Nat → Int32) (one other n : Nat) (lc : Int32) : Prop := (lc = -1 ∧ ∀ j, n ≤ j → j < 6 → ¬ rsnD K one other (tg j)) ∨ (∃ j, n ≤ j ∧ j < 6 ∧ lc = nI (tg j) ∧ rsnD K one other (tg j) ∧ ∀ j', n ≤ j' → j' < j → ¬ rsnD K one other (tg j'))
theorem cfP_conf {K : Nat → Nat → Int32} {ns one other : Nat} {lc : Int32} (hk : kR K ns A) (h1 : one < ns) (h : cfP K one other 0 lc) : isConf K one other lc := by
  have hoth : ∀ t, 1 ≤ t → t ≤ 31 → (∃ i, i < 6 ∧ tg i = t) ∨ ¬ rsnD K one other t := by
    intro t ht1 ht2
    rcases tg_all hk h1 ht1 ht2 with h | h
    · exact Or.inl h
    · right
      obtain ⟨e1, e2⟩ := dif_none (o := other) h
      rintro (z | ⟨z, -⟩)
      · rw [e1] at z; cases z
      · rw [e2] at z; cases z
  rcases h with ⟨h1, h2⟩ | ⟨j, -, h2, h3, h4, h5⟩
  · refine Or.inl ⟨h1, fun t ht1 ht2 => ?_⟩
    rcases hoth t ht1 ht2 with ⟨i, hi, rfl⟩ | h
    · exact h2 i (Nat.zero_le _) hi
    · exact h
  · refine Or.inr ⟨tg j, (tg_in h2).1, (tg_in h2).2, h3, h4, fun t' ht1 ht2 => ?_⟩
    rcases hoth t' ht1 (by have := (tg_in h2).2; omega) with ⟨i, hi, rfl⟩ | h
    · exact h5 i (Nat.zero_le _) (tg_lt hi h2 ht2)
    · exact h
theorem lp_conf (hM : mR g A X) {one other : Nat} (ho : one < g.1) (hot : other < g.1) {H : mw_H} {kc ks : Nat} {Po : mw_P} {l14 : Option Value} {x19 x20 x21 x22 : Option Value} (k : ∀ lc, cfP g.2.1 one other 0 lc → mw_W mm_L_isTold 10 kc ks 219 [some (.ref 1), some (.int y), some (.ref 43), some (.ref 44), some (.ref 45), some (.ref 46), some (.ref 47), some (.ref 48), some (.ref 49), some (.ref 50), some (.ref 51), some (.ref 52), some (.ref 53), some (.ref 54), l14, some (.int (nI one)), some (.int (nI other)), some (.int (lc)), some (.int (nI 0 - 1)), x19, x20, x21, x22] [] (gl H A X) Po) : ∀ (n : Nat) (lc : Int32), n ≤ 6 → cfP g.2.1 one other n lc →
    mw_W mm_L_isTold 10 kc ks 186 [some (.ref 1), some (.int y), some (.ref 43), some (.ref 44), some (.ref 45), some (.ref 46), some (.ref 47), some (.ref 48), some (.ref 49), some (.ref 50), some (.ref 51), some (.ref 52), some (.ref 53), some (.ref 54), l14, some (.int (nI one)), some (.int (nI other)), some (.int (lc)), some (.int (nI n - 1)), x19, x20, x21, x22] [] (gl H A X) Po := by
  intro n
  induction n with
  | zero =>
    intro lc hn hc
    refine mw_iload (i := 18) dL_isTold_186 rfl ?_
    refine mw_if_lt (tgt := 219) dL_isTold_188 (by decide) (fun _ => ?_) (fun c9 => absurd c9 (by first | decide | exact (fun q => q rfl)))
    exact k lc hc
  | succ n ih =>
    intro lc hn hc
    rw [nI_pred]
    refine mw_iload (i := 18) dL_isTold_186 rfl ?_
    refine mw_if_lt (tgt := 219) dL_isTold_188 (by decide) (fun c9 => absurd c9 (cq_lt (b := 0) (Nat.zero_le _) (by omega))) (fun _ => ?_)
    refine mw_aload_n (i := 2) dL_isTold_191 rfl rfl ?_
    refine mw_aload (i := 13) dL_isTold_192 rfl ?_
    refine mw_iload (i := 15) dL_isTold_194 rfl ?_
    refine mw_iload (i := 16) dL_isTold_196 rfl ?_
    refine mw_iload (i := 18) dL_isTold_198 rfl ?_
    refine mw_callS dL_isTold_200 mk_L_245 ((c_isReason hM.1 ho hot (show n < 6 by omega))) (by decide) (Nat.le_refl _) (Nat.le_refl _) rfl rfl (Nat.le_of_ble_eq_true rfl) (fun E9 h9 q9 => ?_) (fun v9 h9 q9 => ?_)
    · obtain ⟨-, ⟨z, -⟩ | ⟨z, -⟩⟩ := q9 <;> cases z
    obtain ⟨rfl, ⟨z, hr⟩ | ⟨z, hr⟩⟩ := q9
    · cases z
      refine mw_if_eq (tgt := 213) dL_isTold_203 (by decide) (fun c9 => absurd c9 (by first | decide | exact (fun q => q rfl))) (fun _ => ?_)
      refine mw_iload (i := 18) dL_isTold_206 rfl ?_
      refine mw_callSr dL_isTold_208 mk_L_64 ((c_tagAt (show n < 6 by omega))) (by decide) (Nat.le_refl _) (Nat.le_refl _) rfl rfl (Nat.le_of_ble_eq_true rfl) ?_
      refine mw_istore_17 dL_isTold_211 (by decide) ?_
      refine mw_iinc_18 dL_isTold_213 (by decide) rfl ?_
      refine mw_goto (tgt := 186) dL_isTold_216 (by decide) ?_
      rw [nI_dec]
      exact ih (nI (tg n)) (by omega) (Or.inr ⟨n, Nat.le_refl _, by omega, rfl, hr, fun j' h1 h2 => absurd h1 (by omega)⟩)
    · cases z
      refine mw_if_eq (tgt := 213) dL_isTold_203 (by decide) (fun _ => ?_) (fun c9 => absurd c9 (by first | decide | exact (fun q => q rfl)))
      refine mw_iinc_18 dL_isTold_213 (by decide) rfl ?_
      refine mw_goto (tgt := 186) dL_isTold_216 (by decide) ?_
      rw [nI_dec]
      refine ih lc (by omega) ?_
      rcases hc with ⟨h1, h2⟩ | ⟨j, h1, h2, h3, h4, h5⟩
      · refine Or.inl ⟨h1, fun j hj hj6 => ?_⟩
        rcases Nat.lt_or_ge n j with z | z
        · exact h2 j z hj6
        · rw [show j = n by omega]; exact hr
      · refine Or.inr ⟨j, by omega, h2, h3, h4, fun j' hj1 hj2 => ?_⟩
        rcases Nat.lt_or_ge n j' with z | z
        · exact h5 j' z hj2
        · rw [show j' = n by omega]; exact hr
theorem tl_B {H : mw_H} (hI : cS sc g H A X) (hM : mR g A X) (hns : g.1 ≠ 0) {rc : Int32} (hrc : rcO (prsL g.2.2.2).2.1 rc) {x15 x16 x17 x18 x19 x20 x21 x22 : Option Value} : mw_W mm_L_isTold 10 4 24 158 [some (.ref 1), some (.int y), some (.ref 43), some (.ref 44), some (.ref 45), some (.ref 46), some (.ref 47), some (.ref 48), some (.ref 49), some (.ref 50), some (.ref 51), some (.ref 52), some (.ref 53), some (.ref 54), some (.int (rc)), x15, x16, x17, x18, x19, x20, x21, x22] [] (gl H A X) (lwP sc) := by
  have hok := cS_ok hI
  have hns4 := mR_ns hM
  have hg0 := hM.2.1
  refine mw_iload_n (i := 1) dL_isTold_158 rfl rfl ?_
  refine mw_aload (i := 13) dL_isTold_159 rfl ?_
  refine mw_iconst (v := 0) dL_isTold_161 (by decide) ?_
  refine mw_iald dL_isTold_162 gl_11 (mw_ix (j := 0) rfl (by decide) (by decide)) ?_
  rw [hg0]
  have ho : uN y / 2 % g.1 < g.1 := Nat.mod_lt _ (by omega)
  refine mw_callSr dL_isTold_163 mk_L_129 ((c_low y (by omega) (by omega))) (by decide) (Nat.le_refl _) (Nat.le_refl _) rfl rfl (Nat.le_of_ble_eq_true rfl) ?_
  generalize uN y / 2 % g.1 = one at ho ⊢
  refine mw_istore_15 dL_isTold_166 (by decide) ?_
  refine mw_iload_n (i := 1) dL_isTold_168 rfl rfl ?_
  refine mw_iconst (v := 3) dL_isTold_169 (by decide) ?_
  refine mw_ishr dL_isTold_170 ?_
  refine mw_aload (i := 13) dL_isTold_171 rfl ?_
  refine mw_iconst (v := 0) dL_isTold_173 (by decide) ?_
  refine mw_iald dL_isTold_174 gl_11 (mw_ix (j := 0) rfl (by decide) (by decide)) ?_
  rw [hg0]
  have hot : uN (y >>> (3 &&& 31)) / 2 % g.1 < g.1 := Nat.mod_lt _ (by omega)
  refine mw_callSr dL_isTold_175 mk_L_129 ((c_low _ (by omega) (by omega))) (by decide) (Nat.le_refl _) (Nat.le_refl _) rfl rfl (Nat.le_of_ble_eq_true rfl) ?_
  generalize uN (y >>> (3 &&& 31)) / 2 % g.1 = other at hot ⊢
  refine mw_istore_16 dL_isTold_178 (by decide) ?_
  refine mw_iconst (v := -1) dL_isTold_180 (by decide) ?_
  refine mw_istore_17 dL_isTold_181 (by decide) ?_
  refine mw_iconst (v := 5) dL_isTold_183 (by decide) ?_
  refine mw_istore_18 dL_isTold_184 (by decide) ?_
  refine lp_conf hM ho hot (fun lc hlc => ?_) 6 (-1) (Nat.le_refl _) (Or.inl ⟨rfl, fun j h1 h2 => absurd h1 (by omega)⟩)
  have hcf := cfP_conf hM.1 ho hlc
  have hs1 := sS_at hok.1 ho
  have hs2 := sS_at hok.1 hot
  have hsp : ∀ a, sp_conflict g (nI one) (nI other) a → a.1 = 0 ∧ isConf g.2.1 one other a.2.1 ∧ a.2.2 = g := by
    intro a ha
    unfold sp_conflict at ha
    rw [hs1, hs2] at ha
    exact ha
  refine mw_aload_n (i := 0) dL_isTold_219 rfl rfl ?_
  refine mw_iload (i := 15) dL_isTold_220 rfl ?_
  refine mw_iload (i := 16) dL_isTold_222 rfl ?_
  refine mw_callV dL_isTold_224 mk_L_249 (cS_o hI) rfl ((d_conflict hI (nI one) (nI other) (fun a ha => (hsp a ha).1))) (by decide) (Nat.le_refl _) (Nat.le_refl _) rfl rfl (Nat.le_of_ble_eq_true rfl) (fun E9 h9 q9 => ?_) (fun v9 h9 q9 => ?_)
  · obtain ⟨a, -, z, -⟩ := q9
    cases z
  obtain ⟨a, ha, e9, H1, rfl, hI⟩ := q9
  cases e9
  obtain ⟨-, h1, h2⟩ := hsp a ha
  rw [h2] at hI
  rw [isConf_one h1 hcf]
  refine mw_iload (i := 17) dL_isTold_227 rfl ?_
  refine mw_icmp_eq (tgt := 234) dL_isTold_229 (by decide) (fun _ => ?_) (fun c9 => absurd c9 (by first | decide | exact (fun q => q rfl)))
  refine mw_iload_n (i := 1) dL_isTold_234 rfl rfl ?_
  refine mw_bipush (v := 6) dL_isTold_235 (by decide) ?_
  refine mw_ishr dL_isTold_237 ?_
  refine mw_iconst (v := 5) dL_isTold_238 (by decide) ?_
  have hm : uN (y >>> (6 &&& 31)) / 2 % 5 < 5 := Nat.mod_lt _ (by decide)
  have hp : uN (y >>> (9 &&& 31)) / 2 % 5 < 5 := Nat.mod_lt _ (by decide)
  refine mw_callSr dL_isTold_239 mk_L_129 ((c_low _ (n := 5) (by decide) (by decide))) (by decide) (Nat.le_refl _) (Nat.le_refl _) rfl rfl (Nat.le_of_ble_eq_true rfl) ?_
  refine mw_istore_18 dL_isTold_242 (by decide) ?_
  refine mw_iload_n (i := 1) dL_isTold_244 rfl rfl ?_
  refine mw_bipush (v := 9) dL_isTold_245 (by decide) ?_
  refine mw_ishr dL_isTold_247 ?_
  refine mw_iconst (v := 5) dL_isTold_248 (by decide) ?_
  refine mw_callSr dL_isTold_249 mk_L_129 ((c_low _ (n := 5) (by decide) (by decide))) (by decide) (Nat.le_refl _) (Nat.le_refl _) rfl rfl (Nat.le_of_ble_eq_true rfl) ?_
  refine mw_istore_19 dL_isTold_252 (by decide) ?_
  exact mw_less (by decide) (by decide) (tl_C hI hM ho hm hp hrc)
theorem lp_ms (hM : mR g A X) {kc ks : Nat} {x15 x16 x17 x18 x19 x20 x21 x22 : Option Value} (k : ∀ H, cS sc g H A X → mw_W mm_L_isTold 10 kc ks 40 [some (.ref 1), some (.int y), some (.ref 43), some (.ref 44), some (.ref 45), some (.ref 46), some (.ref 47), some (.ref 48), some (.ref 49), some (.ref 50), some (.ref 51), some (.ref 52), some (.ref 53), some (.ref 54), some (.int (5)), x15, x16, x17, x18, x19, x20, x21, x22] [] (gl H A X) (lwP sc)) : ∀ (n m : Nat) (H : mw_H) (kc' ks' : Nat), m + n = 5 → cS sc g H A X → kc' = kc + 130 * n → ks' = ks + 780 * n → mw_W mm_L_isTold 10 kc' ks' 3 [some (.ref 1), some (.int y), some (.ref 43), some (.ref 44), some (.ref 45), some (.ref 46), some (.ref 47), some (.ref 48), some (.ref 49), some (.ref 50), some (.ref 51), some (.ref 52), some (.ref 53), some (.ref 54), some (.int (nI m)), x15, x16, x17, x18, x19, x20, x21, x22] [] (gl H A X) (lwP sc) := by
  intro n
  induction n with
  | zero =>
    intro m H kc' ks' hm hI hkc hks
    have hm : m = 5 := by omega
    subst hm
    refine mw_iload (i := 14) dL_isTold_3 rfl ?_
    refine mw_iconst (v := 5) dL_isTold_5 (by decide) ?_
    refine mw_icmp_ge (tgt := 40) dL_isTold_6 (by decide) (fun _ => ?_) (fun c9 => absurd c9 (by first | decide | exact (fun q => q rfl)))
    exact mw_less (by omega) (by omega) (k H hI)
  | succ n ih =>
    intro m H kc' ks' hm hI hkc hks
    obtain ⟨kq, hkq⟩ : ∃ z, z = kc + 130 * n := ⟨_, rfl⟩
    obtain ⟨kr, hkr⟩ : ∃ z, z = ks + 780 * n := ⟨_, rfl⟩
    refine mw_less (kc' := kq + 130) (ks' := kr + 780) (by omega) (by omega) ?_
    refine mw_iload (i := 14) dL_isTold_3 rfl ?_
    refine mw_iconst (v := 5) dL_isTold_5 (by decide) ?_
    refine mw_icmp_ge (tgt := 40) dL_isTold_6 (by decide) (fun c9 => absurd c9 (by first | decide | exact (fun q => q rfl) | ((try simp only [fa_lit]); first | exact cq_le (by omega) (by omega) | exact cq_nle (by omega) (by omega) | exact cq_lt (by omega) (by omega) | exact cq_nlt (by omega) (by omega) | exact cq_eq (by omega) (by omega) (by omega) | exact cq_neq (by omega)))) (fun _ => ?_)
    refine mw_aload_n (i := 0) dL_isTold_9 rfl rfl ?_
    refine mw_iload (i := 14) dL_isTold_10 rfl ?_
    refine mw_aload_n (i := 2) dL_isTold_12 rfl rfl ?_
    refine mw_aload_n (i := 3) dL_isTold_13 rfl rfl ?_
    refine mw_aload (i := 4) dL_isTold_14 rfl ?_
    refine mw_aload (i := 5) dL_isTold_16 rfl ?_
    refine mw_aload (i := 6) dL_isTold_18 rfl ?_
    refine mw_aload (i := 7) dL_isTold_20 rfl ?_
    refine mw_aload (i := 8) dL_isTold_22 rfl ?_
    refine mw_aload (i := 9) dL_isTold_24 rfl ?_
    refine mw_callS dL_isTold_26 mk_L_235 ((c_isMessage hI hM (show m < 5 by omega))) (by decide) (Nat.le_refl _) (Nat.le_refl _) rfl rfl (Nat.le_of_ble_eq_true rfl) (fun E9 h9 q9 => ?_) (fun v9 h9 q9 => ?_)
    · cases q9.1
    obtain ⟨e9, H1, rfl, hI⟩ := q9
    cases e9
    refine mw_if_ne (tgt := 34) dL_isTold_29 (by decide) (fun _ => ?_) (fun c9 => absurd c9 (by first | decide | exact (fun q => q rfl)))
    refine mw_iinc_14 dL_isTold_34 (by decide) rfl ?_
    refine mw_goto (tgt := 3) dL_isTold_37 (by decide) ?_
    rw [show nI m + Int32.ofInt 1 = nI (m + 1) from nI_1 _]
    exact mw_less (by omega) (by omega) (ih (m + 1) H1 _ _ (by omega) hI rfl rfl)
theorem lp_tp (hM : mR g A X) {kc ks : Nat} {x15 x16 x17 x18 x19 x20 x21 x22 : Option Value} (k : ∀ H x14, cS sc g H A X → mw_W mm_L_isTold 10 kc ks 88 [some (.ref 1), some (.int y), some (.ref 43), some (.ref 44), some (.ref 45), some (.ref 46), some (.ref 47), some (.ref 48), some (.ref 49), some (.ref 50), some (.ref 51), some (.ref 52), some (.ref 53), some (.ref 54), x14, x15, x16, x17, x18, x19, x20, x21, x22] [] (gl H A X) (lwP sc)) : ∀ (n i : Nat) (H : mw_H) (kc' ks' : Nat), i + n = g.2.2.2.length → cS sc g H A X → kc' = kc + n → ks' = ks + 6 * n → mw_W mm_L_isTold 10 kc' ks' 56 [some (.ref 1), some (.int y), some (.ref 43), some (.ref 44), some (.ref 45), some (.ref 46), some (.ref 47), some (.ref 48), some (.ref 49), some (.ref 50), some (.ref 51), some (.ref 52), some (.ref 53), some (.ref 54), some (.int (nI i)), x15, x16, x17, x18, x19, x20, x21, x22] [] (gl H A X) (lwP sc) := by
  obtain ⟨-, -, -, -, hg1, h64, htp, -⟩ := id hM
  intro n
  induction n with
  | zero =>
    intro i H kc' ks' hi hI hkc hks
    refine mw_iload (i := 14) dL_isTold_56 rfl ?_
    refine mw_aload (i := 13) dL_isTold_58 rfl ?_
    refine mw_iconst (v := 1) dL_isTold_60 (by decide) ?_
    refine mw_iald dL_isTold_61 gl_11 (mw_ix (j := 1) rfl (by decide) (by decide)) ?_
    rw [hg1]
    refine mw_icmp_ge (tgt := 88) dL_isTold_62 (by decide) (fun _ => ?_) (fun c9 => absurd c9 (by first | decide | exact (fun q => q rfl) | ((try simp only [fa_lit]); first | exact cq_le (by omega) (by omega) | exact cq_nle (by omega) (by omega) | exact cq_lt (by omega) (by omega) | exact cq_nlt (by omega) (by omega) | exact cq_eq (by omega) (by omega) (by omega) | exact cq_neq (by omega))))
    exact mw_less (by omega) (by omega) (k H _ hI)
  | succ n ih =>
    intro i H kc' ks' hi hI hkc hks
    obtain ⟨kq, hkq⟩ : ∃ z, z = kc + n := ⟨_, rfl⟩
    obtain ⟨kr, hkr⟩ : ∃ z, z = ks + 6 * n := ⟨_, rfl⟩
    have hsp : sp_byteAt g (nI i) = (0, bV (g.2.2.2.getD i 0), g) := by
      unfold sp_byteAt
      rw [zi_in (by omega) (by omega), if_neg (by decide), nI_clamp (by omega)]
    have hw := d_byteAt hI (nI i) (by rw [hsp])
    rw [hsp] at hw
    refine mw_less (kc' := kq + 1) (ks' := kr + 6) (by omega) (by omega) ?_
    refine mw_iload (i := 14) dL_isTold_56 rfl ?_
    refine mw_aload (i := 13) dL_isTold_58 rfl ?_
    refine mw_iconst (v := 1) dL_isTold_60 (by decide) ?_
    refine mw_iald dL_isTold_61 gl_11 (mw_ix (j := 1) rfl (by decide) (by decide)) ?_
    rw [hg1]
    refine mw_icmp_ge (tgt := 88) dL_isTold_62 (by decide) (fun c9 => absurd c9 (by first | decide | exact (fun q => q rfl) | ((try simp only [fa_lit]); first | exact cq_le (by omega) (by omega) | exact cq_nle (by omega) (by omega) | exact cq_lt (by omega) (by omega) | exact cq_nlt (by omega) (by omega) | exact cq_eq (by omega) (by omega) (by omega) | exact cq_neq (by omega)))) (fun _ => ?_)
    refine mw_aload_n (i := 0) dL_isTold_65 rfl rfl ?_
    refine mw_iload (i := 14) dL_isTold_66 rfl ?_
    refine mw_callV dL_isTold_68 mk_L_239 (cS_o hI) rfl (hw) (by decide) (Nat.le_refl _) (Nat.le_refl _) rfl rfl (Nat.le_of_ble_eq_true rfl) (fun E9 h9 q9 => ?_) (fun v9 h9 q9 => ?_)
    · cases q9.1
    obtain ⟨e9, H1, rfl, hI⟩ := q9
    cases e9
    refine mw_aload (i := 10) dL_isTold_71 rfl ?_
    refine mw_iload (i := 14) dL_isTold_73 rfl ?_
    refine mw_iald dL_isTold_75 gl_8 (mw_ix rfl (by omega) (by decide)) ?_
    refine mw_i2b dL_isTold_76 rfl ?_
    refine mw_icmp_eq (tgt := 82) dL_isTold_77 (by decide) (fun _ => ?_) (fun c9 => absurd c9 (fun q => q (by rw [htp i (by omega)]; rfl)))
    refine mw_iinc_14 dL_isTold_82 (by decide) rfl ?_
    refine mw_goto (tgt := 56) dL_isTold_85 (by decide) ?_
    rw [show nI i + Int32.ofInt 1 = nI (i + 1) from nI_1 _]
    exact mw_less (by omega) (by omega) (ih (i + 1) H1 _ _ (by omega) hI rfl rfl)
theorem c_isTold {H : mw_H} (hI : cS sc g H A X) (hM : mR g A X) (y : Int32) : mw_Con mm_L_isTold 10 720 4320 [.ref 1, .int y, .ref 43, .ref 44, .ref 45, .ref 46, .ref 47, .ref 48, .ref 49, .ref 50, .ref 51, .ref 52, .ref 53, .ref 54] (gl H A X) (lwP sc) := by
  obtain ⟨-, hg0, -, -, hg1, h64, htp, -⟩ := id hM
  have hok := cS_ok hI
  have hf4 := prsL_le4 g.2.2.2
  refine gm_con pl_L rfl rfl (Nat.le_of_ble_eq_true rfl) rfl ?_
  refine mw_iconst (v := 0) dL_isTold_0 (by decide) ?_
  refine mw_istore_14 dL_isTold_1 (by decide) ?_
  refine mw_less (kc' := 68 + 130 * 5) (ks' := 408 + 780 * 5) (by decide) (by decide) ?_
  refine lp_ms hM (fun H hI => ?_) 5 0 H _ _ rfl hI rfl rfl
  refine mw_aload_n (i := 0) dL_isTold_40 rfl rfl ?_
  have hw := d_length hI rfl
  refine mw_callV dL_isTold_41 mk_L_195 (cS_o hI) rfl (hw) (by decide) (Nat.le_refl _) (Nat.le_refl _) rfl rfl (Nat.le_of_ble_eq_true rfl) (fun E9 h9 q9 => ?_) (fun v9 h9 q9 => ?_)
  · cases q9.1
  obtain ⟨e9, H1, rfl, hI⟩ := q9
  cases e9
  refine mw_aload (i := 13) dL_isTold_44 rfl ?_
  refine mw_iconst (v := 1) dL_isTold_46 (by decide) ?_
  refine mw_iald dL_isTold_47 gl_11 (mw_ix (j := 1) rfl (by decide) (by decide)) ?_
  rw [hg1]
  refine mw_icmp_eq (tgt := 53) dL_isTold_48 (by decide) (fun _ => ?_) (fun c9 => absurd c9 (by first | decide | exact (fun q => q rfl)))
  refine mw_iconst (v := 0) dL_isTold_53 (by decide) ?_
  refine mw_istore_14 dL_isTold_54 (by decide) ?_
  refine mw_less (kc' := 4 + g.2.2.2.length) (ks' := 24 + 6 * g.2.2.2.length) (by omega) (by omega) ?_
  have hI : cS sc g H1 A X := hI
  refine lp_tp hM (fun H x14 hI => ?_) g.2.2.2.length 0 H1 _ _ (by omega) hI rfl rfl
  refine mw_aload (i := 10) dL_isTold_88 rfl ?_
  refine mw_aload (i := 13) dL_isTold_90 rfl ?_
  refine mw_iconst (v := 1) dL_isTold_92 (by decide) ?_
  refine mw_iald dL_isTold_93 gl_11 (mw_ix (j := 1) rfl (by decide) (by decide)) ?_
  rw [hg1]
  refine mw_aload (i := 5) dL_isTold_94 rfl ?_
  refine mw_aload (i := 6) dL_isTold_96 rfl ?_
  refine mw_aload (i := 7) dL_isTold_98 rfl ?_
  refine mw_aload (i := 8) dL_isTold_100 rfl ?_
  refine mw_aload (i := 9) dL_isTold_102 rfl ?_
  refine mw_aload (i := 13) dL_isTold_104 rfl ?_
  refine mw_iconst (v := -1) dL_isTold_106 (by decide) ?_
  refine mw_callS dL_isTold_107 mk_L_211 ((c_readsN (mR_tape hM hok))) (by decide) (Nat.le_refl _) (Nat.le_refl _) rfl rfl (Nat.le_of_ble_eq_true rfl) (fun E9 h9 q9 => ?_) (fun v9 h9 q9 => ?_)
  · obtain ⟨G', -, -, ⟨-, z, -⟩ | ⟨-, z | ⟨z, -⟩⟩⟩ := q9 <;> cases z
  obtain ⟨G', rfl, hG, hq⟩ := q9
  have hM2 : mR g (va_up A 11 G') X := mR_scr hM (fun j _ _ z => va_up_ne _ _ z) (by rw [va_up_self]; exact hG 0 (by decide)) (by rw [va_up_self]; exact hG 1 (by decide))
  have hq2 : ∃ rc : Int32, v9 = some (.int rc) ∧ rcO (prsL g.2.2.2).2.1 rc ∧ ((prsL g.2.2.2).2.1 ≠ 0 → G' 3 = nI (prsL g.2.2.2).2.2) := by
    rcases hq with ⟨h1, h2, h3⟩ | ⟨h1, h2⟩
    · cases h2
      exact ⟨_, rfl, Or.inl ⟨h1, rfl⟩, fun _ => h3⟩
    · rcases h2 with h2 | ⟨h2, -⟩
      · cases h2
        exact ⟨_, rfl, Or.inr ⟨h1, Or.inl rfl⟩, fun z => absurd h1 z⟩
      · cases h2
        exact ⟨_, rfl, Or.inr ⟨h1, Or.inr rfl⟩, fun z => absurd h1 z⟩
  obtain ⟨rc, rfl, hrc, hpl⟩ := hq2
  have hI := cS_gl (A' := va_up A 11 G') (X' := X) hI
  have hr9 : rc - rc / 9 * 9 = nI (prsL g.2.2.2).2.1 := by
    rcases hrc with ⟨-, h2⟩ | ⟨h1, h2 | h2⟩
    · rw [h2]
      exact (pk_rem (d := 9) (by omega) (by decide) (by decide)).trans (by rw [Nat.mod_eq_of_lt (by omega)])
    · rw [h1, h2]; rfl
    · rw [h1, h2]; rfl
  have hw := d_fault hI rfl
  refine mw_istore_14 dL_isTold_110 (by decide) ?_
  refine mw_aload_n (i := 0) dL_isTold_112 rfl rfl ?_
  refine mw_callV dL_isTold_113 mk_L_215 (cS_o hI) rfl (hw) (by decide) (Nat.le_refl _) (Nat.le_refl _) rfl rfl (Nat.le_of_ble_eq_true rfl) (fun E9 h9 q9 => ?_) (fun v9 h9 q9 => ?_)
  · cases q9.1
  obtain ⟨e9, H2, rfl, hI⟩ := q9
  cases e9
  have hI : cS sc g H2 (va_up A 11 G') X := hI
  refine mw_iload (i := 14) dL_isTold_116 rfl ?_
  refine mw_bipush (v := 9) dL_isTold_118 (by decide) ?_
  refine mw_irem dL_isTold_120 (by decide) ?_
  rw [hr9]
  have hw := d_faultAt hI rfl
  refine mw_icmp_ne (tgt := 147) dL_isTold_121 (by decide) (fun c9 => absurd c9 (by first | decide | exact (fun q => q rfl))) (fun _ => ?_)
  refine mw_aload_n (i := 0) dL_isTold_124 rfl rfl ?_
  refine mw_callV dL_isTold_125 mk_L_242 (cS_o hI) rfl (hw) (by decide) (Nat.le_refl _) (Nat.le_refl _) rfl rfl (Nat.le_of_ble_eq_true rfl) (fun E9 h9 q9 => ?_) (fun v9 h9 q9 => ?_)
  · cases q9.1
  obtain ⟨e9, H3, rfl, hI⟩ := q9
  cases e9
  have hI : cS sc g H3 (va_up A 11 G') X := hI
  refine mw_iload (i := 14) dL_isTold_128 rfl ?_
  refine mw_bipush (v := 9) dL_isTold_130 (by decide) ?_
  refine mw_irem dL_isTold_132 (by decide) ?_
  rw [hr9]
  have hfin : ∀ b : Int32, b = (if (prsL g.2.2.2).2.1 = 0 then -1 else nI (prsL g.2.2.2).2.2) → mw_W mm_L_isTold 10 4 24 144 [some (.ref 1), some (.int y), some (.ref 43), some (.ref 44), some (.ref 45), some (.ref 46), some (.ref 47), some (.ref 48), some (.ref 49), some (.ref 50), some (.ref 51), some (.ref 52), some (.ref 53), some (.ref 54), some (.int (rc)), none, none, none, none, none, none, none, none] [.int b, .int (sp_faultAt g).2.1] (gl H3 (va_up A 11 G') X) (lwP sc) := by
    intro b hb
    rw [hb]
    refine mw_icmp_eq (tgt := 149) dL_isTold_144 (by decide) (fun _ => ?_) (fun c9 => absurd c9 (by first | decide | exact (fun q => q rfl)))
    refine mw_aload (i := 13) dL_isTold_149 rfl ?_
    refine mw_iconst (v := 0) dL_isTold_151 (by decide) ?_
    refine mw_iald dL_isTold_152 gl_11 (mw_ix (j := 0) rfl (by decide) (by decide)) ?_
    refine mw_top (show va_up A 11 G' 11 0 = nI g.1 by rw [va_up_self, hG 0 (by decide)]; exact hg0) ?_
    by_cases hns : g.1 = 0
    · refine mw_if_ne (tgt := 158) dL_isTold_153 (by decide) (fun c9 => absurd c9 (fun z => z (by rw [hns]; rfl))) (fun _ => ?_)
      refine mw_iconst (v := 1) dL_isTold_156 (by decide) ?_
      exact mw_ireturn dL_isTold_157 ⟨_, rfl, rfl⟩ ⟨rfl, _, _, _, _, rfl, hI, hM2⟩
    · refine mw_if_ne (tgt := 158) dL_isTold_153 (by decide) (fun _ => ?_) (fun c9 => absurd c9 (nI_ne0 (by omega) (by have := mR_ns hM; omega)))
      exact tl_B hI hM2 hns hrc
  by_cases hf : (prsL g.2.2.2).2.1 = 0
  · refine mw_if_ne (tgt := 140) dL_isTold_133 (by decide) (fun c9 => absurd c9 (fun z => z (by rw [hf]; rfl))) (fun _ => ?_)
    refine mw_iconst (v := -1) dL_isTold_136 (by decide) ?_
    refine mw_goto (tgt := 144) dL_isTold_137 (by decide) ?_
    exact hfin _ (by rw [if_pos hf])
  · refine mw_if_ne (tgt := 140) dL_isTold_133 (by decide) (fun _ => ?_) (fun c9 => absurd c9 (nI_ne0 (by omega) (by omega)))
    refine mw_aload (i := 13) dL_isTold_140 rfl ?_
    refine mw_iconst (v := 3) dL_isTold_142 (by decide) ?_
    refine mw_iald dL_isTold_143 gl_11 (mw_ix (j := 3) rfl (by decide) (by decide)) ?_
    exact hfin _ (by rw [if_neg hf, va_up_self]; exact hpl hf)
end TL
