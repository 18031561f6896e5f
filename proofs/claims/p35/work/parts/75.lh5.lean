/-! a field goes, a field comes -/
/-- from the place a on up to e the row moves down by one -/
def sf {β : Type} (f : Nat → β) (a e : Nat) : Nat → β := fun j => if a ≤ j ∧ j < e then f (j + 1) else f j
theorem sf_nil {β : Type} (f : Nat → β) (a : Nat) : sf f a a = f := by
  funext j
  unfold sf
  rw [if_neg (by omega)]
theorem sf_step (f : Nat → Int32) {a i : Nat} (h : a ≤ i) : upd (sf f a i) i (sf f a i (i + 1)) = sf f a (i + 1) := by
  funext j
  unfold upd sf
  by_cases e : j = i
  · subst e
    rw [if_pos rfl, if_neg (by omega), if_pos ⟨h, by omega⟩]
  · rw [if_neg e]
    by_cases c : a ≤ j ∧ j < i
    · rw [if_pos c, if_pos ⟨c.1, by omega⟩]
    · rw [if_neg c, if_neg (by omega)]
theorem sf_stepL (f : Nat → Int64) {a i : Nat} (h : a ≤ i) : vf_upd (sf f a i) i (sf f a i (i + 1)) = sf f a (i + 1) := by
  funext j
  unfold vf_upd sf
  by_cases e : j = i
  · subst e
    rw [if_pos rfl, if_neg (by omega), if_pos ⟨h, by omega⟩]
  · rw [if_neg e]
    by_cases c : a ≤ j ∧ j < i
    · rw [if_pos c, if_pos ⟨c.1, by omega⟩]
    · rw [if_neg c, if_neg (by omega)]
def rmA (A : Nat → Nat → Int32) (a e : Nat) : Nat → Nat → Int32 := va_up (va_up A 4 (sf (A 4) a e)) 5 (sf (A 5) a e)
def rmX (X : Nat → Nat → Int64) (a e : Nat) : Nat → Nat → Int64 := va_up (va_up X 6 (sf (X 6) a e)) 7 (sf (X 7) a e)
theorem rmA_n (A : Nat → Nat → Int32) (a e : Nat) {j : Nat} (h4 : j ≠ 4) (h5 : j ≠ 5) : rmA A a e j = A j := by
  unfold rmA
  rw [va_up_ne _ _ h5, va_up_ne _ _ h4]
theorem rmA_4 (A : Nat → Nat → Int32) (a e : Nat) : rmA A a e 4 = sf (A 4) a e := by
  unfold rmA
  rw [va_up_ne _ _ (by decide), va_up_self]
theorem rmA_5 (A : Nat → Nat → Int32) (a e : Nat) : rmA A a e 5 = sf (A 5) a e := by
  unfold rmA
  rw [va_up_self]
theorem rmX_6 (X : Nat → Nat → Int64) (a e : Nat) : rmX X a e 6 = sf (X 6) a e := by
  unfold rmX
  rw [va_up_ne _ _ (by decide), va_up_self]
theorem rmX_7 (X : Nat → Nat → Int64) (a e : Nat) : rmX X a e 7 = sf (X 7) a e := by
  unfold rmX
  rw [va_up_self]
theorem rmA_nil (A : Nat → Nat → Int32) (a : Nat) : rmA A a a = A := by
  unfold rmA
  rw [sf_nil, sf_nil, up_same, up_same]
theorem rmX_nil (X : Nat → Nat → Int64) (a : Nat) : rmX X a a = X := by
  unfold rmX
  rw [sf_nil, sf_nil]
  funext j
  unfold va_up
  by_cases e : j = 7
  · rw [if_pos e, e]
  · rw [if_neg e]
    by_cases e2 : j = 6
    · rw [if_pos e2, e2]
    · rw [if_neg e2]
/-- what lies elsewhere than in the row of the message m is untouched -/
def fF (m : Nat) (A : Nat → Nat → Int32) (X : Nat → Nat → Int64) (A' : Nat → Nat → Int32) (X' : Nat → Nat → Int64) : Prop := (∀ j, j ≠ 3 → j ≠ 4 → j ≠ 5 → j ≠ 11 → A' j = A j) ∧ (∀ j, j < 3 → A' 11 j = A 11 j) ∧ (∀ m', m' ≠ m → A' 3 m' = A 3 m') ∧ ∀ p, (p < 12 * m ∨ 12 * m + 12 ≤ p) → A' 4 p = A 4 p ∧ A' 5 p = A 5 p ∧ X' 6 p = X 6 p ∧ X' 7 p = X 7 p
theorem fF.rf {m : Nat} {A : Nat → Nat → Int32} {X : Nat → Nat → Int64} : fF m A X A X := ⟨fun _ _ _ _ _ => rfl, fun _ _ => rfl, fun _ _ => rfl, fun _ _ => ⟨rfl, rfl, rfl, rfl⟩⟩
theorem fF.tr {m : Nat} {A A1 A2 : Nat → Nat → Int32} {X X1 X2 : Nat → Nat → Int64} (h : fF m A X A1 X1) (k : fF m A1 X1 A2 X2) : fF m A X A2 X2 :=
  ⟨fun j a b c d => (k.1 j a b c d).trans (h.1 j a b c d), fun j a => (k.2.1 j a).trans (h.2.1 j a), fun j a => (k.2.2.1 j a).trans (h.2.2.1 j a), fun p hp => by
    obtain ⟨a1, a2, a3, a4⟩ := h.2.2.2 p hp
    obtain ⟨b1, b2, b3, b4⟩ := k.2.2.2 p hp
    exact ⟨b1.trans a1, b2.trans a2, b3.trans a3, b4.trans a4⟩⟩
theorem fF.fR {m m' : Nat} {A A' : Nat → Nat → Int32} {X X' : Nat → Nat → Int64} {L : List af} (h : fF m A X A' X') (hm : m' ≠ m) (hR : fR A X m' L) : fR A' X' m' L :=
  fR_cong hR (h.2.2.1 m' hm) (fun p h1 h2 => h.2.2.2 p (by omega))
theorem mw_hp {y : mw_M} {d kc ks pc : Nat} {ls : List (Option Value)} {st : List Value} {h h' : mw_H} {Po : mw_P} (e : h = h') (k : mw_W y d kc ks pc ls st h' Po) : mw_W y d kc ks pc ls st h Po := by
  subst e
  exact k
theorem gl_cong {H : mw_H} {A A' : Nat → Nat → Int32} {X X' : Nat → Nat → Int64} (hA : A = A') (hX : X = X') : gl H A X = gl H A' X' := by rw [hA, hX]
theorem rmA_step (A : Nat → Nat → Int32) {a i : Nat} (h : a ≤ i) : va_up (va_up (rmA A a i) 4 (upd (rmA A a i 4) i (rmA A a i 4 (i + 1)))) 5 (upd (va_up (rmA A a i) 4 (upd (rmA A a i 4) i (rmA A a i 4 (i + 1))) 5) i (va_up (rmA A a i) 4 (upd (rmA A a i 4) i (rmA A a i 4 (i + 1))) 5 (i + 1))) = rmA A a (i + 1) := by
  rw [va_up_ne _ _ (show 5 ≠ 4 by decide), rmA_4, rmA_5, sf_step _ h, sf_step _ h]
  unfold rmA
  rw [up2 A (by decide)]
theorem rmX_step (X : Nat → Nat → Int64) {a i : Nat} (h : a ≤ i) : va_up (va_up (rmX X a i) 6 (vf_upd (rmX X a i 6) i (rmX X a i 6 (i + 1)))) 7 (vf_upd (va_up (rmX X a i) 6 (vf_upd (rmX X a i 6) i (rmX X a i 6 (i + 1))) 7) i (va_up (rmX X a i) 6 (vf_upd (rmX X a i 6) i (rmX X a i 6 (i + 1))) 7 (i + 1))) = rmX X a (i + 1) := by
  rw [va_up_ne _ _ (show 7 ≠ 6 by decide), rmX_6, rmX_7, sf_stepL _ h, sf_stepL _ h]
  unfold rmX
  rw [up2 X (by decide)]
section LH5
variable {H : mw_H} {A : Nat → Nat → Int32} {X : Nat → Nat → Int64} {K : Nat → Nat → Int32} {ns s t m p w : Nat} {x : af} {L L1 L2 : List af}
theorem lp_remove (hm : m < 5) {a e : Nat} (he : e < 12 * m + 12) (hn : 12 * nI m + A 3 m = nI e) : ∀ (n i : Nat), i + n = e → a ≤ i → mw_W mm_L_remove 0 0 0 12 [some (.ref 46), some (.ref 47), some (.ref 48), some (.ref 49), some (.ref 50), some (.int (nI m)), some (.int (nI a)), some (.int (nI i))] [] (gl H (rmA A a i) (rmX X a i)) (mw_void (gl H (rmA A a e) (rmX X a e))) := by
  intro n
  induction n with
  | zero =>
    intro i hi ha
    have hi : i = e := by omega
    subst hi
    refine mw_iload (i := 7) dL_remove_12 rfl ?_
    refine mw_bipush (v := 12) dL_remove_14 (by decide) ?_
    refine mw_iload (i := 5) dL_remove_16 rfl ?_
    refine mw_imul dL_remove_18 ?_
    refine mw_aload_n (i := 0) dL_remove_19 rfl rfl ?_
    refine mw_iload (i := 5) dL_remove_20 rfl ?_
    refine mw_iald dL_remove_22 gl_3 (mw_ix rfl hm (by decide)) ?_
    refine mw_top (congrFun (rmA_n A a i (by decide) (by decide)) m) ?_
    refine mw_iadd dL_remove_23 ?_
    rw [hn]
    refine mw_icmp_ge (tgt := 75) dL_remove_24 (by decide) (fun _ => ?_) (fun c9 => absurd c9 (by first | decide | exact (fun q => q rfl) | ((try simp only [fa_lit]); first | exact cq_le (by omega) (by omega) | exact cq_nle (by omega) (by omega) | exact cq_lt (by omega) (by omega) | exact cq_nlt (by omega) (by omega) | exact cq_eq (by omega) (by omega) (by omega) | exact cq_neq (by omega))))
    exact mw_return dL_remove_75 rfl ⟨rfl, rfl⟩
  | succ n ih =>
    intro i hi ha
    have ih := ih (i + 1) (by omega) (by omega)
    refine mw_iload (i := 7) dL_remove_12 rfl ?_
    refine mw_bipush (v := 12) dL_remove_14 (by decide) ?_
    refine mw_iload (i := 5) dL_remove_16 rfl ?_
    refine mw_imul dL_remove_18 ?_
    refine mw_aload_n (i := 0) dL_remove_19 rfl rfl ?_
    refine mw_iload (i := 5) dL_remove_20 rfl ?_
    refine mw_iald dL_remove_22 gl_3 (mw_ix rfl hm (by decide)) ?_
    refine mw_top (congrFun (rmA_n A a i (by decide) (by decide)) m) ?_
    refine mw_iadd dL_remove_23 ?_
    rw [hn]
    refine mw_icmp_ge (tgt := 75) dL_remove_24 (by decide) (fun c9 => absurd c9 (by first | decide | exact (fun q => q rfl) | ((try simp only [fa_lit]); first | exact cq_le (by omega) (by omega) | exact cq_nle (by omega) (by omega) | exact cq_lt (by omega) (by omega) | exact cq_nlt (by omega) (by omega) | exact cq_eq (by omega) (by omega) (by omega) | exact cq_neq (by omega)))) (fun _ => ?_)
    refine mw_aload_n (i := 1) dL_remove_27 rfl rfl ?_
    refine mw_iload (i := 7) dL_remove_28 rfl ?_
    refine mw_aload_n (i := 1) dL_remove_30 rfl rfl ?_
    refine mw_iload (i := 7) dL_remove_31 rfl ?_
    refine mw_iconst (v := 1) dL_remove_33 (by decide) ?_
    refine mw_iadd dL_remove_34 ?_
    refine mw_iald dL_remove_35 gl_4 (mw_ix (nI_1 i) (by omega) (by decide)) ?_
    refine gl_st4 dL_remove_36 (mw_ix rfl (by omega) (by decide)) ?_
    refine mw_aload_n (i := 2) dL_remove_37 rfl rfl ?_
    refine mw_iload (i := 7) dL_remove_38 rfl ?_
    refine mw_aload_n (i := 2) dL_remove_40 rfl rfl ?_
    refine mw_iload (i := 7) dL_remove_41 rfl ?_
    refine mw_iconst (v := 1) dL_remove_43 (by decide) ?_
    refine mw_iadd dL_remove_44 ?_
    refine mw_iald dL_remove_45 gl_5 (mw_ix (nI_1 i) (by omega) (by decide)) ?_
    refine gl_st5 dL_remove_46 (mw_ix rfl (by omega) (by decide)) ?_
    refine mw_aload_n (i := 3) dL_remove_47 rfl rfl ?_
    refine mw_iload (i := 7) dL_remove_48 rfl ?_
    refine mw_aload_n (i := 3) dL_remove_50 rfl rfl ?_
    refine mw_iload (i := 7) dL_remove_51 rfl ?_
    refine mw_iconst (v := 1) dL_remove_53 (by decide) ?_
    refine mw_iadd dL_remove_54 ?_
    refine mw_lald dL_remove_55 gl_6 (mw_ix (nI_1 i) (by omega) (by decide)) ?_
    refine gl_st6 dL_remove_56 (mw_ix rfl (by omega) (by decide)) ?_
    refine mw_aload (i := 4) dL_remove_57 rfl ?_
    refine mw_iload (i := 7) dL_remove_59 rfl ?_
    refine mw_aload (i := 4) dL_remove_61 rfl ?_
    refine mw_iload (i := 7) dL_remove_63 rfl ?_
    refine mw_iconst (v := 1) dL_remove_65 (by decide) ?_
    refine mw_iadd dL_remove_66 ?_
    refine mw_lald dL_remove_67 gl_7 (mw_ix (nI_1 i) (by omega) (by decide)) ?_
    refine gl_st7 dL_remove_68 (mw_ix rfl (by omega) (by decide)) ?_
    refine mw_iinc_7 dL_remove_69 (by decide) rfl ?_
    refine mw_goto (tgt := 12) dL_remove_72 (by decide) ?_
    refine mw_hp (gl_cong (rmA_step A ha) (rmX_step X ha)) ?_
    rw [show nI i + Int32.ofInt 1 = nI (i + 1) from nI_1 _]
    exact ih
theorem c_remove (hm : m < 5) {N i : Nat} (hi : i < N) (hN : N ≤ 12) (hn : A 3 m = nI N) : mw_Con mm_L_remove 0 0 0 [.ref 46, .ref 47, .ref 48, .ref 49, .ref 50, .int (nI m), .int (nI (12 * m + i))] (gl H A X) (mw_void (gl H (rmA (va_up A 3 (upd (A 3) m (nI (N - 1)))) (12 * m + i) (12 * m + (N - 1))) (rmX X (12 * m + i) (12 * m + (N - 1))))) := by
  refine gm_con pl_L rfl rfl (Nat.le_of_ble_eq_true rfl) rfl ?_
  refine mw_aload_n (i := 0) dL_remove_0 rfl rfl ?_
  refine mw_iload (i := 5) dL_remove_1 rfl ?_
  refine mw_dup2 dL_remove_3 rfl rfl ?_
  refine mw_iald dL_remove_4 gl_3 (mw_ix rfl hm (by decide)) ?_
  refine mw_iconst (v := 1) dL_remove_5 (by decide) ?_
  rw [hn]
  refine mw_isub dL_remove_6 ?_
  rw [show nI N - 1 = nI (N - 1) from pk_sub (b := 1) (by omega)]
  refine gl_st3 dL_remove_7 (mw_ix rfl hm (by decide)) ?_
  refine mw_iload (i := 6) dL_remove_8 rfl ?_
  refine mw_istore_7 dL_remove_10 (by decide) ?_
  have h9 := lp_remove (H := H) (A := va_up A 3 (upd (A 3) m (nI (N - 1)))) (X := X) hm (a := 12 * m + i) (e := 12 * m + (N - 1)) (by omega) (by rw [va_up_self, pk_us, mx_12]) (N - 1 - i) (12 * m + i) (by omega) (Nat.le_refl _)
  rw [rmA_nil, rmX_nil] at h9
  exact h9
/-- the row behind it -/
theorem fR_remove (hR : fR A X m L) (e : L = L1 ++ x :: L2) : fR (rmA (va_up A 3 (upd (A 3) m (nI (L.length - 1)))) (12 * m + L1.length) (12 * m + (L.length - 1))) (rmX X (12 * m + L1.length) (12 * m + (L.length - 1))) m (L1 ++ L2) := by
  have hl : (L1 ++ L2).length = L.length - 1 := by rw [e, List.length_append, List.length_append, List.length_cons]; omega
  have h12 := hR.2.1
  refine ⟨?_, by omega, fun j y hj => ?_⟩
  · rw [rmA_n _ _ _ (by decide) (by decide), va_up_self, pk_us, hl]
  · have hjl := (List.getElem?_eq_some_iff.mp hj).1
    by_cases c : j < L1.length
    · rw [List.getElem?_append_left c] at hj
      have h9 := hR.2.2 j y (by rw [e, List.getElem?_append_left c]; exact hj)
      refine fC_cong h9 ?_ ?_ ?_ ?_
      · rw [rmA_4]; exact if_neg (by omega)
      · rw [rmA_5]; exact if_neg (by omega)
      · rw [rmX_6]; exact if_neg (by omega)
      · rw [rmX_7]; exact if_neg (by omega)
    · rw [List.getElem?_append_right (by omega)] at hj
      have h9 := hR.2.2 (j + 1) y (by rw [e, List.getElem?_append_right (by omega), show j + 1 - L1.length = (j - L1.length) + 1 by omega]; exact hj)
      unfold fC bt2 at h9 ⊢
      rw [rmA_4, rmA_5, rmX_6, rmX_7]
      have c2 : 12 * m + L1.length ≤ 12 * m + j ∧ 12 * m + j < 12 * m + (L.length - 1) := by omega
      unfold sf
      rw [if_pos c2, if_pos c2, if_pos c2, if_pos c2]
      exact h9
theorem fF_remove {N i : Nat} (hi : i < N) (hN : N ≤ 12) : fF m A X (rmA (va_up A 3 (upd (A 3) m (nI (N - 1)))) (12 * m + i) (12 * m + (N - 1))) (rmX X (12 * m + i) (12 * m + (N - 1))) := by
  refine ⟨fun j h3 h4 h5 _ => by rw [rmA_n _ _ _ h4 h5, va_up_ne _ _ h3], fun j _ => by rw [rmA_n _ _ _ (by decide) (by decide), va_up_ne _ _ (by decide)], fun m' hm' => by rw [rmA_n _ _ _ (by decide) (by decide), va_up_self, pk_un hm'], fun p hp => ?_⟩
  rw [rmA_4, rmA_5, rmX_6, rmX_7]
  have c : ¬ (12 * m + i ≤ p ∧ p < 12 * m + (N - 1)) := by omega
  exact ⟨if_neg c, if_neg c, if_neg c, if_neg c⟩
/-- the end of a change of the message m's row: its fields are L' now -/
def fP (H : mw_H) (A : Nat → Nat → Int32) (X : Nat → Nat → Int64) (m : Nat) (L' : List af) : mw_P := fun v H' => v = .inl none ∧ ∃ A' X', H' = gl H A' X' ∧ fR A' X' m L' ∧ fF m A X A' X' ∧ ∀ j, A' 11 j = A 11 j
/-- a field more, at the place a -/
def adA (A : Nat → Nat → Int32) (m a : Nat) (n f v : Int32) : Nat → Nat → Int32 := va_up (va_up (va_up A 3 (upd (A 3) m n)) 4 (upd (A 4) a f)) 5 (upd (A 5) a v)
def adX (X : Nat → Nat → Int64) (a : Nat) (V W : Int64) : Nat → Nat → Int64 := va_up (va_up X 6 (vf_upd (X 6) a V)) 7 (vf_upd (X 7) a W)
theorem adA_3 (A : Nat → Nat → Int32) (m a : Nat) (n f v : Int32) : adA A m a n f v 3 = upd (A 3) m n := rfl
theorem adA_4 (A : Nat → Nat → Int32) (m a : Nat) (n f v : Int32) : adA A m a n f v 4 = upd (A 4) a f := rfl
theorem adA_5 (A : Nat → Nat → Int32) (m a : Nat) (n f v : Int32) : adA A m a n f v 5 = upd (A 5) a v := rfl
theorem adA_n (A : Nat → Nat → Int32) (m a : Nat) (n f v : Int32) {j : Nat} (h3 : j ≠ 3) (h4 : j ≠ 4) (h5 : j ≠ 5) : adA A m a n f v j = A j := by
  unfold adA
  rw [va_up_ne _ _ h5, va_up_ne _ _ h4, va_up_ne _ _ h3]
theorem adX_6 (X : Nat → Nat → Int64) (a : Nat) (V W : Int64) : adX X a V W 6 = vf_upd (X 6) a V := rfl
theorem adX_7 (X : Nat → Nat → Int64) (a : Nat) (V W : Int64) : adX X a V W 7 = vf_upd (X 7) a W := rfl
theorem vf_s {f : Nat → Int64} {k : Nat} {x : Int64} : vf_upd f k x k = x := if_pos rfl
theorem vf_n {f : Nat → Int64} {k j : Nat} {x : Int64} (h : j ≠ k) : vf_upd f k x j = f j := if_neg h
theorem fR_add (hR : fR A X m L) {V W : Int64} {n fd v : Int32} {xn : af} (hl : L.length < 12) (hn : n = nI (L.length + 1)) (hfd : fd = nI (8 * xn.1 + xn.2.1)) (hv : v = nI xn.2.2.1) (hb : xn.2.1 = 2 → xn.2.2.1 ≤ 16 ∧ ∀ j, j < 16 → (if j < 8 then lb V j else lb W (j - 8)) = xn.2.2.2.getD j 0) : fR (adA A m (12 * m + L.length) n fd v) (adX X (12 * m + L.length) V W) m (L ++ [xn]) := by
  refine ⟨?_, by rw [List.length_append, List.length_singleton]; omega, fun j y hj => ?_⟩
  · rw [adA_3, pk_us, List.length_append, List.length_singleton, hn]
  · by_cases c : j < L.length
    · rw [List.getElem?_append_left c] at hj
      refine fC_cong (hR.2.2 j y hj) ?_ ?_ ?_ ?_
      · rw [adA_4]; exact pk_un (by omega)
      · rw [adA_5]; exact pk_un (by omega)
      · rw [adX_6]; exact vf_n (by omega)
      · rw [adX_7]; exact vf_n (by omega)
    · rw [List.getElem?_append_right (by omega)] at hj
      have hj0 := (List.getElem?_eq_some_iff.mp hj).1
      rw [List.length_singleton] at hj0
      have e : j = L.length := by omega
      subst e
      rw [Nat.sub_self] at hj
      cases hj
      unfold fC bt2
      rw [adA_4, adA_5, adX_6, adX_7, pk_us, pk_us, vf_s, vf_s]
      exact ⟨hfd, hv, hb⟩
theorem fF_add {V W : Int64} {n fd v : Int32} {i : Nat} (hi : i < 12) : fF m A X (adA A m (12 * m + i) n fd v) (adX X (12 * m + i) V W) := by
  refine ⟨fun j h3 h4 h5 _ => adA_n _ _ _ _ _ _ h3 h4 h5, fun j _ => by rw [adA_n _ _ _ _ _ _ (by decide) (by decide) (by decide)], fun m' hm' => by rw [adA_3, pk_un hm'], fun p hp => ?_⟩
  rw [adA_4, adA_5, adX_6, adX_7]
  exact ⟨pk_un (by omega), pk_un (by omega), vf_n (by omega), vf_n (by omega)⟩
theorem oth_none {P : af → Bool} (h : lix P L = none) : L.filter (fun x => !P x) = L := List.filter_eq_self.mpr (fun z hz => by rw [lix_no h z hz]; rfl)
theorem lp_replace {A0 : Nat → Nat → Int32} {X0 : Nat → Nat → Int64} (hs : s < ns) (ht2 : t ≤ 31) (hm : m < 5) {field : Nat} (hfd : field / 8 = t) (hfb : field < 256) {v1 : Int32} {V W : Int64} {xn : af} (hxn : field = 8 * xn.1 + xn.2.1) (hv1 : v1 = nI xn.2.2.1) (hb : xn.2.1 = 2 → xn.2.2.1 ≤ 16 ∧ ∀ j, j < 16 → (if j < 8 then lb V j else lb W (j - 8)) = xn.2.2.2.getD j 0) : ∀ (N : Nat) (L : List af) (A : Nat → Nat → Int32) (X : Nat → Nat → Int64), L.length = N → kR K ns A → A 2 m = nI (s + 1) → (∀ x ∈ L, okf x) → fR A X m L → fF m A0 X0 A X → (∀ j, A 11 j = A0 11 j) → (oth K s (nI t) L).length < 12 →
    mw_W mm_L_replace 4 0 0 16 [some (.ref 43), some (.ref 45), some (.ref 46), some (.ref 47), some (.ref 48), some (.ref 49), some (.ref 50), some (.int (nI m)), some (.int (nI field)), some (.int v1), some (.long V), none, some (.long W), none, some (.int (lir (Pt K s (nI t)) (12 * m) L))] [] (gl H A X) (fP H A0 X0 m (oth K s (nI t) L ++ [xn])) := by
  intro N
  have hend : ∀ (L : List af) (A : Nat → Nat → Int32) (X : Nat → Nat → Int64), lix (Pt K s (nI t)) L = none → fR A X m L → fF m A0 X0 A X → (∀ j, A 11 j = A0 11 j) → (oth K s (nI t) L).length < 12 →
      mw_W mm_L_replace 4 0 0 16 [some (.ref 43), some (.ref 45), some (.ref 46), some (.ref 47), some (.ref 48), some (.ref 49), some (.ref 50), some (.int (nI m)), some (.int (nI field)), some (.int v1), some (.long V), none, some (.long W), none, some (.int (lir (Pt K s (nI t)) (12 * m) L))] [] (gl H A X) (fP H A0 X0 m (oth K s (nI t) L ++ [xn])) := by
    intro L A X hno hR hF hG hlen
    have hoth : oth K s (nI t) L = L := oth_none hno
    rw [hoth] at hlen ⊢
    rw [show lir (Pt K s (nI t)) (12 * m) L = -1 by unfold lir; rw [hno]]
    refine mw_iload (i := 14) dL_replace_16 rfl ?_
    refine mw_if_lt (tgt := 55) dL_replace_18 (by decide) (fun _ => ?_) (fun c9 => absurd c9 (by first | decide | exact (fun q => q rfl)))
    refine mw_bipush (v := 12) dL_replace_55 (by decide) ?_
    refine mw_iload (i := 7) dL_replace_57 rfl ?_
    refine mw_imul dL_replace_59 ?_
    refine mw_aload_n (i := 2) dL_replace_60 rfl rfl ?_
    refine mw_iload (i := 7) dL_replace_61 rfl ?_
    refine mw_iald dL_replace_63 gl_3 (mw_ix rfl hm (by decide)) ?_
    rw [hR.1]
    refine mw_iadd dL_replace_64 ?_
    rw [mx_12]
    refine mw_istore_14 dL_replace_65 (by decide) ?_
    refine mw_aload_n (i := 2) dL_replace_67 rfl rfl ?_
    refine mw_iload (i := 7) dL_replace_68 rfl ?_
    refine mw_dup2 dL_replace_70 rfl rfl ?_
    refine mw_iald dL_replace_71 gl_3 (mw_ix rfl hm (by decide)) ?_
    rw [hR.1]
    refine mw_iconst (v := 1) dL_replace_72 (by decide) ?_
    refine mw_iadd dL_replace_73 ?_
    refine gl_st3 dL_replace_74 (mw_ix rfl hm (by decide)) ?_
    refine mw_aload_n (i := 3) dL_replace_75 rfl rfl ?_
    refine mw_iload (i := 14) dL_replace_76 rfl ?_
    refine mw_iload (i := 8) dL_replace_78 rfl ?_
    refine gl_st4 dL_replace_80 (mw_ix rfl (by omega) (by decide)) ?_
    refine mw_aload (i := 4) dL_replace_81 rfl ?_
    refine mw_iload (i := 14) dL_replace_83 rfl ?_
    refine mw_iload (i := 9) dL_replace_85 rfl ?_
    refine gl_st5 dL_replace_87 (mw_ix rfl (by omega) (by decide)) ?_
    refine mw_aload (i := 5) dL_replace_88 rfl ?_
    refine mw_iload (i := 14) dL_replace_90 rfl ?_
    refine mw_lload (i := 10) dL_replace_92 rfl rfl ?_
    refine gl_st6 dL_replace_94 (mw_ix rfl (by omega) (by decide)) ?_
    refine mw_aload (i := 6) dL_replace_95 rfl ?_
    refine mw_iload (i := 14) dL_replace_97 rfl ?_
    refine mw_lload (i := 12) dL_replace_99 rfl rfl ?_
    refine gl_st7 dL_replace_101 (mw_ix rfl (by omega) (by decide)) ?_
    refine mw_hp (h' := gl H (adA A m (12 * m + L.length) (nI L.length + 1) (nI field) v1) (adX X (12 * m + L.length) V W)) (gl_cong rfl rfl) ?_
    refine mw_return dL_replace_102 rfl ⟨rfl, _, _, rfl, ?_, hF.tr (fF_add hlen), fun j => ?_⟩
    · exact fR_add hR hlen (nI_1 _) (by rw [hxn]) hv1 hb
    · rw [adA_n _ _ _ _ _ _ (by decide) (by decide) (by decide)]; exact hG j
  induction N with
  | zero =>
    intro L A X hN hk hc hok hR hF hG hlen
    have hN : L = [] := List.length_eq_zero_iff.mp hN
    subst hN
    exact hend [] A X rfl hR hF hG hlen
  | succ N ih =>
    intro L A X hN hk hc hok hR hF hG hlen
    cases e : lix (Pt K s (nI t)) L with
    | none => exact hend L A X e hR hF hG hlen
    | some i =>
      obtain ⟨L1, x, L2, e1, e2, e3, -⟩ := lix_yes e
      have h12 := hR.2.1
      have hi : i < L.length := by rw [e1, ← e2, List.length_append, List.length_cons]; omega
      have hoth : oth K s (nI t) L = oth K s (nI t) (L1 ++ L2) := by
        unfold oth
        rw [e1, List.filter_append, List.filter_append, List.filter_cons, if_neg (by rw [e3]; decide)]
      have hrm := c_remove (H := H) (X := X) hm hi h12 hR.1
      have hR' := fR_remove hR e1
      rw [e2] at hR'
      have hF' := hF.tr (fF_remove (m := m) (A := A) (X := X) hi h12)
      have h9 := ih (L1 ++ L2) _ _ (by rw [e1, List.length_append, List.length_cons] at hN; rw [List.length_append]; omega) (kR_cong hk (by rw [rmA_n _ _ _ (by decide) (by decide), va_up_ne _ _ (by decide)]) (by rw [rmA_n _ _ _ (by decide) (by decide), va_up_ne _ _ (by decide)])) (by rw [rmA_n _ _ _ (by decide) (by decide), va_up_ne _ _ (by decide)]; exact hc) (fun z hz => hok z (by
        rw [e1]
        rcases List.mem_append.mp hz with h | h
        · simp [h]
        · simp [h])) hR' hF' (fun j => by rw [rmA_n _ _ _ (by decide) (by decide), va_up_ne _ _ (by decide)]; exact hG j) (by rw [← hoth]; exact hlen)
      have hla := c_last (H := H) (kR_cong hk (by rw [rmA_n _ _ _ (by decide) (by decide), va_up_ne _ _ (by decide)]) (by rw [rmA_n _ _ _ (by decide) (by decide), va_up_ne _ _ (by decide)])) hs (show rmA (va_up A 3 (upd (A 3) m (nI (L.length - 1)))) (12 * m + i) (12 * m + (L.length - 1)) 2 m = nI (s + 1) by rw [rmA_n _ _ _ (by decide) (by decide), va_up_ne _ _ (by decide)]; exact hc) ht2 hm (fun z hz => hok z (by
        rw [e1]
        rcases List.mem_append.mp hz with h | h
        · simp [h]
        · simp [h])) hR'
      rw [hoth]
      rw [show lir (Pt K s (nI t)) (12 * m) L = nI (12 * m + i) by unfold lir; rw [e]]
      refine mw_iload (i := 14) dL_replace_16 rfl ?_
      refine mw_if_lt (tgt := 55) dL_replace_18 (by decide) (fun c9 => absurd c9 (cq_lt (b := 0) (Nat.zero_le _) (by omega))) (fun _ => ?_)
      refine mw_aload_n (i := 2) dL_replace_21 rfl rfl ?_
      refine mw_aload_n (i := 3) dL_replace_22 rfl rfl ?_
      refine mw_aload (i := 4) dL_replace_23 rfl ?_
      refine mw_aload (i := 5) dL_replace_25 rfl ?_
      refine mw_aload (i := 6) dL_replace_27 rfl ?_
      refine mw_iload (i := 7) dL_replace_29 rfl ?_
      refine mw_iload (i := 14) dL_replace_31 rfl ?_
      refine mw_callSv dL_replace_33 mk_L_115 (hrm) (by decide) (Nat.le_refl _) (Nat.le_refl _) rfl rfl (Nat.le_of_ble_eq_true rfl) ?_
      refine mw_aload_n (i := 0) dL_replace_36 rfl rfl ?_
      refine mw_aload_n (i := 1) dL_replace_37 rfl rfl ?_
      refine mw_aload_n (i := 2) dL_replace_38 rfl rfl ?_
      refine mw_aload_n (i := 3) dL_replace_39 rfl rfl ?_
      refine mw_iload (i := 7) dL_replace_40 rfl ?_
      refine mw_iload (i := 8) dL_replace_42 rfl ?_
      refine mw_bipush (v := 8) dL_replace_44 (by decide) ?_
      refine mw_idiv dL_replace_46 (by decide) ?_
      rw [mx_d8 (by omega), hfd]
      refine mw_callSr dL_replace_47 mk_L_86 (hla) (by decide) (Nat.le_refl _) (Nat.le_refl _) rfl rfl (Nat.le_of_ble_eq_true rfl) ?_
      refine mw_istore_14 dL_replace_50 (by decide) ?_
      refine mw_goto (tgt := 16) dL_replace_52 (by decide) ?_
      exact h9
theorem c_replace (hk : kR K ns A) (hs : s < ns) (hc : A 2 m = nI (s + 1)) (ht2 : t ≤ 31) (hm : m < 5) (hok : ∀ x ∈ L, okf x) (hR : fR A X m L) {field : Nat} (hfd : field / 8 = t) (hfb : field < 256) {v1 : Int32} {V W : Int64} {xn : af} (hxn : field = 8 * xn.1 + xn.2.1) (hv1 : v1 = nI xn.2.2.1) (hb : xn.2.1 = 2 → xn.2.2.1 ≤ 16 ∧ ∀ j, j < 16 → (if j < 8 then lb V j else lb W (j - 8)) = xn.2.2.2.getD j 0) (hlen : (oth K s (nI t) L).length < 12) : mw_Con mm_L_replace 4 0 0 [.ref 43, .ref 45, .ref 46, .ref 47, .ref 48, .ref 49, .ref 50, .int (nI m), .int (nI field), .int v1, .long V, .long W] (gl H A X) (fP H A X m (oth K s (nI t) L ++ [xn])) := by
  refine mw_conJ pl_L rfl (Nat.le_of_ble_eq_true rfl) rfl ?_
  refine mw_aload_n (i := 0) dL_replace_0 rfl rfl ?_
  refine mw_aload_n (i := 1) dL_replace_1 rfl rfl ?_
  refine mw_aload_n (i := 2) dL_replace_2 rfl rfl ?_
  refine mw_aload_n (i := 3) dL_replace_3 rfl rfl ?_
  refine mw_iload (i := 7) dL_replace_4 rfl ?_
  refine mw_iload (i := 8) dL_replace_6 rfl ?_
  refine mw_bipush (v := 8) dL_replace_8 (by decide) ?_
  refine mw_idiv dL_replace_10 (by decide) ?_
  rw [mx_d8 (by omega), hfd]
  refine mw_callSr dL_replace_11 mk_L_86 ((c_last hk hs hc ht2 hm hok hR)) (by decide) (Nat.le_refl _) (Nat.le_refl _) rfl rfl (Nat.le_of_ble_eq_true rfl) ?_
  refine mw_istore_14 dL_replace_14 (by decide) ?_
  exact lp_replace hs ht2 hm hfd hfb hxn hv1 hb L.length L A X rfl hk hc hok hR fF.rf (fun _ => rfl) hlen
end LH5
