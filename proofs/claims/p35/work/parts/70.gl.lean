/-! the law's own arrays: written by tools/gl.py -/
def gl_c (A : Nat → Nat → Int32) (X : Nat → Nat → Int64) (j : Nat) : va_E := match j with
  | 0 => .inl (0, (36, .inl (A 0)))
  | 1 => .inl (0, (36, .inl (A 1)))
  | 2 => .inl (0, (5, .inl (A 2)))
  | 3 => .inl (0, (5, .inl (A 3)))
  | 4 => .inl (0, (60, .inl (A 4)))
  | 5 => .inl (0, (60, .inl (A 5)))
  | 6 => .inl (3, (60, .inr (.inl (X 6))))
  | 7 => .inl (3, (60, .inr (.inl (X 7))))
  | 8 => .inl (0, (64, .inl (A 8)))
  | 9 => .inl (0, (64, .inl (A 9)))
  | 10 => .inl (0, (64, .inl (A 10)))
  | _ => .inl (0, (6, .inl (A 11)))
/-- the mini heap H with the law's arrays at 43 .. 54: ints A, longs X (by their distance from 43) -/
def gl (H : mw_H) (A : Nat → Nat → Int32) (X : Nat → Nat → Int64) : mw_H := (H.1, fun a => if 43 ≤ a ∧ a < 55 then some (gl_c A X (a - 43)) else H.2.1 a, H.2.2)
section GLS
variable {H : mw_H} {A A' : Nat → Nat → Int32} {X X' : Nat → Nat → Int64}
theorem gl_in {j : Nat} (hj : j < 12) : mw_g (gl H A X) (43 + j) = some (gl_c A X j) := by
  show (if 43 ≤ 43 + j ∧ 43 + j < 55 then some (gl_c A X (43 + j - 43)) else H.2.1 (43 + j)) = _
  rw [if_pos ⟨by omega, by omega⟩, Nat.add_sub_cancel_left]
theorem gl_out {a : Nat} (ha : a < 43 ∨ 55 ≤ a) : mw_g (gl H A X) a = mw_g H a := by
  show (if 43 ≤ a ∧ a < 55 then some (gl_c A X (a - 43)) else H.2.1 a) = _
  rw [if_neg (by omega)]
  rfl
theorem gl_0 : mw_g (gl H A X) 43 = some (.inl (0, (36, .inl (A 0)))) := gl_in (j := 0) (by decide)
theorem gl_1 : mw_g (gl H A X) 44 = some (.inl (0, (36, .inl (A 1)))) := gl_in (j := 1) (by decide)
theorem gl_2 : mw_g (gl H A X) 45 = some (.inl (0, (5, .inl (A 2)))) := gl_in (j := 2) (by decide)
theorem gl_3 : mw_g (gl H A X) 46 = some (.inl (0, (5, .inl (A 3)))) := gl_in (j := 3) (by decide)
theorem gl_4 : mw_g (gl H A X) 47 = some (.inl (0, (60, .inl (A 4)))) := gl_in (j := 4) (by decide)
theorem gl_5 : mw_g (gl H A X) 48 = some (.inl (0, (60, .inl (A 5)))) := gl_in (j := 5) (by decide)
theorem gl_6 : mw_g (gl H A X) 49 = some (.inl (3, (60, .inr (.inl (X 6))))) := gl_in (j := 6) (by decide)
theorem gl_7 : mw_g (gl H A X) 50 = some (.inl (3, (60, .inr (.inl (X 7))))) := gl_in (j := 7) (by decide)
theorem gl_8 : mw_g (gl H A X) 51 = some (.inl (0, (64, .inl (A 8)))) := gl_in (j := 8) (by decide)
theorem gl_9 : mw_g (gl H A X) 52 = some (.inl (0, (64, .inl (A 9)))) := gl_in (j := 9) (by decide)
theorem gl_10 : mw_g (gl H A X) 53 = some (.inl (0, (64, .inl (A 10)))) := gl_in (j := 10) (by decide)
theorem gl_11 : mw_g (gl H A X) 54 = some (.inl (0, (6, .inl (A 11)))) := gl_in (j := 11) (by decide)
/-- a row of bytes that is read: the tape or q -/
theorem gl_row {r : Nat} (hr : r = 8 ∨ r = 9) : mw_g (gl H A X) (43 + r) = some (.inl (0, (64, .inl (A r)))) := by
  rcases hr with rfl | rfl
  · exact gl_8
  · exact gl_9
theorem gl_set {j : Nat} {x : va_E} (hj : j < 12) (hx : x = gl_c A' X' j) (hs : ∀ i, i < 12 → i ≠ j → gl_c A X i = gl_c A' X' i) : mw_s (gl H A X) (43 + j) x = gl H A' X' := by
  subst hx
  show (H.1, va_up _ (43 + j) (some (gl_c A' X' j)), H.2.2) = (H.1, _, H.2.2)
  congr 2
  funext a
  show (if a = 43 + j then some (gl_c A' X' j) else if 43 ≤ a ∧ a < 55 then some (gl_c A X (a - 43)) else H.2.1 a) = if 43 ≤ a ∧ a < 55 then some (gl_c A' X' (a - 43)) else H.2.1 a
  by_cases e : a = 43 + j
  · subst e
    rw [if_pos rfl, if_pos ⟨by omega, by omega⟩, Nat.add_sub_cancel_left]
  · rw [if_neg e]
    by_cases e2 : 43 ≤ a ∧ a < 55
    · rw [if_pos e2, if_pos e2, hs (a - 43) (by omega) (by omega)]
    · rw [if_neg e2, if_neg e2]
theorem gl_c_A {i j : Nat} {f : Nat → Int32} (hi : i ≠ j) (h12 : i < 12) : gl_c A X i = gl_c (va_up A j f) X i := by
  have e : i = 0 ∨ i = 1 ∨ i = 2 ∨ i = 3 ∨ i = 4 ∨ i = 5 ∨ i = 6 ∨ i = 7 ∨ i = 8 ∨ i = 9 ∨ i = 10 ∨ i = 11 := by omega
  rcases e with rfl | rfl | rfl | rfl | rfl | rfl | rfl | rfl | rfl | rfl | rfl | rfl <;> first | rfl | simp only [gl_c, va_up_ne A f hi]
theorem gl_c_X {i j : Nat} {f : Nat → Int64} (hi : i ≠ j) (h12 : i < 12) : gl_c A X i = gl_c A (va_up X j f) i := by
  have e : i = 0 ∨ i = 1 ∨ i = 2 ∨ i = 3 ∨ i = 4 ∨ i = 5 ∨ i = 6 ∨ i = 7 ∨ i = 8 ∨ i = 9 ∨ i = 10 ∨ i = 11 := by omega
  rcases e with rfl | rfl | rfl | rfl | rfl | rfl | rfl | rfl | rfl | rfl | rfl | rfl <;> first | rfl | simp only [gl_c, va_up_ne X f hi]
/-- a heap that holds the arrays -/
theorem gl_self (h : ∀ j, j < 12 → mw_g H (43 + j) = some (gl_c A X j)) : gl H A X = H := by
  unfold gl
  have e : (fun a => if 43 ≤ a ∧ a < 55 then some (gl_c A X (a - 43)) else H.2.1 a) = H.2.1 := by
    funext a
    by_cases c : 43 ≤ a ∧ a < 55
    · rw [if_pos c]
      have h1 := h (a - 43) (by omega)
      rw [show 43 + (a - 43) = a by omega] at h1
      exact h1.symm
    · rw [if_neg c]
  rw [e]
theorem gl_gl : gl (gl H A X) A' X' = gl H A' X' := by
  unfold gl
  congr 2
  funext a
  show (if 43 ≤ a ∧ a < 55 then some (gl_c A' X' (a - 43)) else (if 43 ≤ a ∧ a < 55 then some (gl_c A X (a - 43)) else H.2.1 a)) = _
  by_cases c : 43 ≤ a ∧ a < 55
  · rw [if_pos c, if_pos c]
  · rw [if_neg c, if_neg c, if_neg c]
/-- a call of the class leaves the arrays alone -/
theorem gl_yG {H' : mw_H} (h : yG (gl H A X) H') : H' = gl H' A X := (gl_self (fun j hj => h.2.2 _ _ (by omega) (by omega) (gl_in hj))).symm
theorem gl_M : yM [43, 44, 45, 46, 47, 48, 49, 50, 51, 52, 53, 54] (gl H A X) (gl H A' X') := ⟨Nat.le_refl _, rfl, fun b x hb hx => by
  simp only [List.mem_cons, List.not_mem_nil, or_false, not_or] at hb
  have ho : b < 43 ∨ 55 ≤ b := by omega
  rw [gl_out ho] at hx ⊢
  exact hx⟩
/-- what the law writes into its arrays is nothing to the class -/
theorem cC_gl {g : mS} {sa ma : Nat → Nat} (h : cC g (gl H A X) sa ma) : cC g (gl H A' X') sa ma :=
  cC_scr h gl_M (by decide) (cW_M h.2.2.2.2 gl_M (Or.inl (by decide)) (Or.inl (by decide)) (Or.inl (by decide)) (Or.inl (by decide)) (Or.inl (by decide)) (Or.inl (by decide)) (Or.inl (by decide)))
def gl_id (x : va_E) : va_E := x
end GLS
section GLR
variable {y : mw_M} {d kc ks pc : Nat} {ls : List (Option Value)} {st : List Value} {H : mw_H} {Po : mw_P} {A : Nat → Nat → Int32} {X : Nat → Nat → Int64}
theorem gl_st0 {q : Nat} {i x : Int32} (dg : decode y.2.1 pc = .ok (.iastore, 1)) (hi : vp_in i 36 ∧ i.toNatClampNeg = q) (k : mw_W y d kc ks (pc + 1) ls st (gl H (va_up A 0 (upd (A 0) q x)) X) Po) : mw_W y d kc ks pc ls (.int x :: .int i :: .ref 43 :: st) (gl H A X) Po := by
  refine mw_iast dg gl_0 hi ?_
  rw [show mw_s (gl H A X) 43 (.inl (0, (36, .inl (upd (A 0) q x)))) = gl H (va_up A 0 (upd (A 0) q x)) X from gl_set (j := 0) (by decide) (by show _ = gl_id (.inl (0, (36, .inl (va_up A 0 (upd (A 0) q x) 0)))); rw [va_up_self]; rfl) (fun i h9 hi => gl_c_A hi h9)]
  exact k
theorem gl_st1 {q : Nat} {i x : Int32} (dg : decode y.2.1 pc = .ok (.iastore, 1)) (hi : vp_in i 36 ∧ i.toNatClampNeg = q) (k : mw_W y d kc ks (pc + 1) ls st (gl H (va_up A 1 (upd (A 1) q x)) X) Po) : mw_W y d kc ks pc ls (.int x :: .int i :: .ref 44 :: st) (gl H A X) Po := by
  refine mw_iast dg gl_1 hi ?_
  rw [show mw_s (gl H A X) 44 (.inl (0, (36, .inl (upd (A 1) q x)))) = gl H (va_up A 1 (upd (A 1) q x)) X from gl_set (j := 1) (by decide) (by show _ = gl_id (.inl (0, (36, .inl (va_up A 1 (upd (A 1) q x) 1)))); rw [va_up_self]; rfl) (fun i h9 hi => gl_c_A hi h9)]
  exact k
theorem gl_st2 {q : Nat} {i x : Int32} (dg : decode y.2.1 pc = .ok (.iastore, 1)) (hi : vp_in i 5 ∧ i.toNatClampNeg = q) (k : mw_W y d kc ks (pc + 1) ls st (gl H (va_up A 2 (upd (A 2) q x)) X) Po) : mw_W y d kc ks pc ls (.int x :: .int i :: .ref 45 :: st) (gl H A X) Po := by
  refine mw_iast dg gl_2 hi ?_
  rw [show mw_s (gl H A X) 45 (.inl (0, (5, .inl (upd (A 2) q x)))) = gl H (va_up A 2 (upd (A 2) q x)) X from gl_set (j := 2) (by decide) (by show _ = gl_id (.inl (0, (5, .inl (va_up A 2 (upd (A 2) q x) 2)))); rw [va_up_self]; rfl) (fun i h9 hi => gl_c_A hi h9)]
  exact k
theorem gl_st3 {q : Nat} {i x : Int32} (dg : decode y.2.1 pc = .ok (.iastore, 1)) (hi : vp_in i 5 ∧ i.toNatClampNeg = q) (k : mw_W y d kc ks (pc + 1) ls st (gl H (va_up A 3 (upd (A 3) q x)) X) Po) : mw_W y d kc ks pc ls (.int x :: .int i :: .ref 46 :: st) (gl H A X) Po := by
  refine mw_iast dg gl_3 hi ?_
  rw [show mw_s (gl H A X) 46 (.inl (0, (5, .inl (upd (A 3) q x)))) = gl H (va_up A 3 (upd (A 3) q x)) X from gl_set (j := 3) (by decide) (by show _ = gl_id (.inl (0, (5, .inl (va_up A 3 (upd (A 3) q x) 3)))); rw [va_up_self]; rfl) (fun i h9 hi => gl_c_A hi h9)]
  exact k
theorem gl_st4 {q : Nat} {i x : Int32} (dg : decode y.2.1 pc = .ok (.iastore, 1)) (hi : vp_in i 60 ∧ i.toNatClampNeg = q) (k : mw_W y d kc ks (pc + 1) ls st (gl H (va_up A 4 (upd (A 4) q x)) X) Po) : mw_W y d kc ks pc ls (.int x :: .int i :: .ref 47 :: st) (gl H A X) Po := by
  refine mw_iast dg gl_4 hi ?_
  rw [show mw_s (gl H A X) 47 (.inl (0, (60, .inl (upd (A 4) q x)))) = gl H (va_up A 4 (upd (A 4) q x)) X from gl_set (j := 4) (by decide) (by show _ = gl_id (.inl (0, (60, .inl (va_up A 4 (upd (A 4) q x) 4)))); rw [va_up_self]; rfl) (fun i h9 hi => gl_c_A hi h9)]
  exact k
theorem gl_st5 {q : Nat} {i x : Int32} (dg : decode y.2.1 pc = .ok (.iastore, 1)) (hi : vp_in i 60 ∧ i.toNatClampNeg = q) (k : mw_W y d kc ks (pc + 1) ls st (gl H (va_up A 5 (upd (A 5) q x)) X) Po) : mw_W y d kc ks pc ls (.int x :: .int i :: .ref 48 :: st) (gl H A X) Po := by
  refine mw_iast dg gl_5 hi ?_
  rw [show mw_s (gl H A X) 48 (.inl (0, (60, .inl (upd (A 5) q x)))) = gl H (va_up A 5 (upd (A 5) q x)) X from gl_set (j := 5) (by decide) (by show _ = gl_id (.inl (0, (60, .inl (va_up A 5 (upd (A 5) q x) 5)))); rw [va_up_self]; rfl) (fun i h9 hi => gl_c_A hi h9)]
  exact k
theorem gl_st6 {q : Nat} {i : Int32} {x : Int64} (dg : decode y.2.1 pc = .ok (.lastore, 1)) (hi : vp_in i 60 ∧ i.toNatClampNeg = q) (k : mw_W y d kc ks (pc + 1) ls st (gl H A (va_up X 6 (vf_upd (X 6) q x))) Po) : mw_W y d kc ks pc ls (.long x :: .int i :: .ref 49 :: st) (gl H A X) Po := by
  refine mw_last dg gl_6 hi ?_
  rw [show mw_s (gl H A X) 49 (.inl (3, (60, .inr (.inl (vf_upd (X 6) q x))))) = gl H A (va_up X 6 (vf_upd (X 6) q x)) from gl_set (j := 6) (by decide) (by show _ = gl_id (.inl (3, (60, .inr (.inl (va_up X 6 (vf_upd (X 6) q x) 6))))); rw [va_up_self]; rfl) (fun i h9 hi => gl_c_X hi h9)]
  exact k
theorem gl_st7 {q : Nat} {i : Int32} {x : Int64} (dg : decode y.2.1 pc = .ok (.lastore, 1)) (hi : vp_in i 60 ∧ i.toNatClampNeg = q) (k : mw_W y d kc ks (pc + 1) ls st (gl H A (va_up X 7 (vf_upd (X 7) q x))) Po) : mw_W y d kc ks pc ls (.long x :: .int i :: .ref 50 :: st) (gl H A X) Po := by
  refine mw_last dg gl_7 hi ?_
  rw [show mw_s (gl H A X) 50 (.inl (3, (60, .inr (.inl (vf_upd (X 7) q x))))) = gl H A (va_up X 7 (vf_upd (X 7) q x)) from gl_set (j := 7) (by decide) (by show _ = gl_id (.inl (3, (60, .inr (.inl (va_up X 7 (vf_upd (X 7) q x) 7))))); rw [va_up_self]; rfl) (fun i h9 hi => gl_c_X hi h9)]
  exact k
theorem gl_st8 {q : Nat} {i x : Int32} (dg : decode y.2.1 pc = .ok (.iastore, 1)) (hi : vp_in i 64 ∧ i.toNatClampNeg = q) (k : mw_W y d kc ks (pc + 1) ls st (gl H (va_up A 8 (upd (A 8) q x)) X) Po) : mw_W y d kc ks pc ls (.int x :: .int i :: .ref 51 :: st) (gl H A X) Po := by
  refine mw_iast dg gl_8 hi ?_
  rw [show mw_s (gl H A X) 51 (.inl (0, (64, .inl (upd (A 8) q x)))) = gl H (va_up A 8 (upd (A 8) q x)) X from gl_set (j := 8) (by decide) (by show _ = gl_id (.inl (0, (64, .inl (va_up A 8 (upd (A 8) q x) 8)))); rw [va_up_self]; rfl) (fun i h9 hi => gl_c_A hi h9)]
  exact k
theorem gl_st9 {q : Nat} {i x : Int32} (dg : decode y.2.1 pc = .ok (.iastore, 1)) (hi : vp_in i 64 ∧ i.toNatClampNeg = q) (k : mw_W y d kc ks (pc + 1) ls st (gl H (va_up A 9 (upd (A 9) q x)) X) Po) : mw_W y d kc ks pc ls (.int x :: .int i :: .ref 52 :: st) (gl H A X) Po := by
  refine mw_iast dg gl_9 hi ?_
  rw [show mw_s (gl H A X) 52 (.inl (0, (64, .inl (upd (A 9) q x)))) = gl H (va_up A 9 (upd (A 9) q x)) X from gl_set (j := 9) (by decide) (by show _ = gl_id (.inl (0, (64, .inl (va_up A 9 (upd (A 9) q x) 9)))); rw [va_up_self]; rfl) (fun i h9 hi => gl_c_A hi h9)]
  exact k
theorem gl_st10 {q : Nat} {i x : Int32} (dg : decode y.2.1 pc = .ok (.iastore, 1)) (hi : vp_in i 64 ∧ i.toNatClampNeg = q) (k : mw_W y d kc ks (pc + 1) ls st (gl H (va_up A 10 (upd (A 10) q x)) X) Po) : mw_W y d kc ks pc ls (.int x :: .int i :: .ref 53 :: st) (gl H A X) Po := by
  refine mw_iast dg gl_10 hi ?_
  rw [show mw_s (gl H A X) 53 (.inl (0, (64, .inl (upd (A 10) q x)))) = gl H (va_up A 10 (upd (A 10) q x)) X from gl_set (j := 10) (by decide) (by show _ = gl_id (.inl (0, (64, .inl (va_up A 10 (upd (A 10) q x) 10)))); rw [va_up_self]; rfl) (fun i h9 hi => gl_c_A hi h9)]
  exact k
theorem gl_st11 {q : Nat} {i x : Int32} (dg : decode y.2.1 pc = .ok (.iastore, 1)) (hi : vp_in i 6 ∧ i.toNatClampNeg = q) (k : mw_W y d kc ks (pc + 1) ls st (gl H (va_up A 11 (upd (A 11) q x)) X) Po) : mw_W y d kc ks pc ls (.int x :: .int i :: .ref 54 :: st) (gl H A X) Po := by
  refine mw_iast dg gl_11 hi ?_
  rw [show mw_s (gl H A X) 54 (.inl (0, (6, .inl (upd (A 11) q x)))) = gl H (va_up A 11 (upd (A 11) q x)) X from gl_set (j := 11) (by decide) (by show _ = gl_id (.inl (0, (6, .inl (va_up A 11 (upd (A 11) q x) 11)))); rw [va_up_self]; rfl) (fun i h9 hi => gl_c_A hi h9)]
  exact k
end GLR
