def gm_L (M : Nat) (I : Nat → Int32) : List Value := [.int (I 0), .int (I 1), .ref (M + 1), .ref (M + 2), .ref (M + 3), .ref (M + 4), .ref (M + 5), .ref (M + 6), .ref (M + 7), .int (I 9), .ref (M + 8), .int (I 11), .int (I 12), .int (I 13), .int (I 14), .int (I 15), .int (I 16), .int (I 17), .int (I 18), .ref (M + 9), .int (I 20), .ref (M + 10), .ref (M + 11)]
def gm_c (M : Nat) (I : Nat → Int32) (A : Nat → Nat → Int32) (j : Nat) : va_E := match j with
  | 0 => .inr (7, gm_L M I)
  | 1 => .inl (0, (192, .inl (A 1)))
  | 2 => .inl (0, (192, .inl (A 2)))
  | 3 => .inl (0, (192, .inl (A 3)))
  | 4 => .inl (2, (12, .inl (A 4)))
  | 5 => .inl (0, (12, .inl (A 5)))
  | 6 => .inl (0, (12, .inl (A 6)))
  | 7 => .inl (0, (1440, .inl (A 7)))
  | 8 => .inl (0, (120, .inl (A 8)))
  | 9 => .inl (0, (300, .inl (A 9)))
  | 10 => .inl (0, (300, .inl (A 10)))
  | _ => .inl (2, (36, .inl (A 11)))
/-- the mini heap h with the reference at M .. M + 11: int fields I (by the fields' places), arrays A (by their distance from M) -/
def gm (M : Nat) (h : mw_H) (I : Nat → Int32) (A : Nat → Nat → Int32) : mw_H := (h.1, fun a => if M ≤ a ∧ a < M + 12 then some (gm_c M I A (a - M)) else h.2.1 a, h.2.2)
theorem gm_in {M j : Nat} {h : mw_H} {I : Nat → Int32} {A : Nat → Nat → Int32} (hj : j < 12) : mw_g (gm M h I A) (M + j) = some (gm_c M I A j) := by
  show (if M ≤ M + j ∧ M + j < M + 12 then some (gm_c M I A (M + j - M)) else h.2.1 (M + j)) = _
  rw [if_pos ⟨by omega, by omega⟩, Nat.add_sub_cancel_left]
theorem gm_out {M a : Nat} {h : mw_H} {I : Nat → Int32} {A : Nat → Nat → Int32} (ha : a < M ∨ M + 12 ≤ a) : mw_g (gm M h I A) a = mw_g h a := by
  show (if M ≤ a ∧ a < M + 12 then some (gm_c M I A (a - M)) else h.2.1 a) = _
  rw [if_neg (by omega)]
  rfl
theorem gm_0 {M : Nat} {h : mw_H} {I : Nat → Int32} {A : Nat → Nat → Int32} : mw_g (gm M h I A) M = some (.inr (7, gm_L M I)) := gm_in (j := 0) (by decide)
theorem gm_1 {M : Nat} {h : mw_H} {I : Nat → Int32} {A : Nat → Nat → Int32} : mw_g (gm M h I A) (M + 1) = some (.inl (0, (192, .inl (A 1)))) := gm_in (j := 1) (by decide)
theorem gm_2 {M : Nat} {h : mw_H} {I : Nat → Int32} {A : Nat → Nat → Int32} : mw_g (gm M h I A) (M + 2) = some (.inl (0, (192, .inl (A 2)))) := gm_in (j := 2) (by decide)
theorem gm_3 {M : Nat} {h : mw_H} {I : Nat → Int32} {A : Nat → Nat → Int32} : mw_g (gm M h I A) (M + 3) = some (.inl (0, (192, .inl (A 3)))) := gm_in (j := 3) (by decide)
theorem gm_4 {M : Nat} {h : mw_H} {I : Nat → Int32} {A : Nat → Nat → Int32} : mw_g (gm M h I A) (M + 4) = some (.inl (2, (12, .inl (A 4)))) := gm_in (j := 4) (by decide)
theorem gm_5 {M : Nat} {h : mw_H} {I : Nat → Int32} {A : Nat → Nat → Int32} : mw_g (gm M h I A) (M + 5) = some (.inl (0, (12, .inl (A 5)))) := gm_in (j := 5) (by decide)
theorem gm_6 {M : Nat} {h : mw_H} {I : Nat → Int32} {A : Nat → Nat → Int32} : mw_g (gm M h I A) (M + 6) = some (.inl (0, (12, .inl (A 6)))) := gm_in (j := 6) (by decide)
theorem gm_7 {M : Nat} {h : mw_H} {I : Nat → Int32} {A : Nat → Nat → Int32} : mw_g (gm M h I A) (M + 7) = some (.inl (0, (1440, .inl (A 7)))) := gm_in (j := 7) (by decide)
theorem gm_8 {M : Nat} {h : mw_H} {I : Nat → Int32} {A : Nat → Nat → Int32} : mw_g (gm M h I A) (M + 8) = some (.inl (0, (120, .inl (A 8)))) := gm_in (j := 8) (by decide)
theorem gm_9 {M : Nat} {h : mw_H} {I : Nat → Int32} {A : Nat → Nat → Int32} : mw_g (gm M h I A) (M + 9) = some (.inl (0, (300, .inl (A 9)))) := gm_in (j := 9) (by decide)
theorem gm_10 {M : Nat} {h : mw_H} {I : Nat → Int32} {A : Nat → Nat → Int32} : mw_g (gm M h I A) (M + 10) = some (.inl (0, (300, .inl (A 10)))) := gm_in (j := 10) (by decide)
theorem gm_11 {M : Nat} {h : mw_H} {I : Nat → Int32} {A : Nat → Nat → Int32} : mw_g (gm M h I A) (M + 11) = some (.inl (2, (36, .inl (A 11)))) := gm_in (j := 11) (by decide)
theorem gm_set {M j : Nat} {h : mw_H} {I I' : Nat → Int32} {A A' : Nat → Nat → Int32} {x : va_E} (hj : j < 12) (hx : x = gm_c M I' A' j) (hs : ∀ i, i < 12 → i ≠ j → gm_c M I A i = gm_c M I' A' i) : mw_s (gm M h I A) (M + j) x = gm M h I' A' := by
  subst hx
  show (h.1, va_up _ (M + j) (some (gm_c M I' A' j)), h.2.2) = (h.1, _, h.2.2)
  congr 2
  funext a
  show (if a = M + j then some (gm_c M I' A' j) else if M ≤ a ∧ a < M + 12 then some (gm_c M I A (a - M)) else h.2.1 a) = if M ≤ a ∧ a < M + 12 then some (gm_c M I' A' (a - M)) else h.2.1 a
  by_cases e : a = M + j
  · subst e
    rw [if_pos rfl, if_pos ⟨by omega, by omega⟩, Nat.add_sub_cancel_left]
  · rw [if_neg e]
    by_cases e2 : M ≤ a ∧ a < M + 12
    · rw [if_pos e2, if_pos e2, hs (a - M) (by omega) (by omega)]
    · rw [if_neg e2, if_neg e2]
theorem gm_c_I {M i : Nat} {I I' : Nat → Int32} {A : Nat → Nat → Int32} (hi : i ≠ 0) : gm_c M I A i = gm_c M I' A i := by
  unfold gm_c
  split <;> first | (exact absurd rfl hi) | rfl
theorem gm_c_A {M i j : Nat} {I : Nat → Int32} {A : Nat → Nat → Int32} {f : Nat → Int32} (hi : i ≠ j) (h12 : i < 12) (hj : j < 12) (h0 : 0 < j) : gm_c M I A i = gm_c M I (va_up A j f) i := by
  have e : i = 0 ∨ i = 1 ∨ i = 2 ∨ i = 3 ∨ i = 4 ∨ i = 5 ∨ i = 6 ∨ i = 7 ∨ i = 8 ∨ i = 9 ∨ i = 10 ∨ i = 11 := by omega
  rcases e with rfl | rfl | rfl | rfl | rfl | rfl | rfl | rfl | rfl | rfl | rfl | rfl <;> first | rfl | simp only [gm_c, va_up_ne A f hi]
def va_E_id (x : va_E) : va_E := x
section GMR
variable {y : mw_M} {d kc ks pc : Nat} {ls : List (Option Value)} {st : List Value} {h : mw_H} {Po : mw_P} {M : Nat} {I : Nat → Int32} {A : Nat → Nat → Int32}
theorem gm_put {kf idx : Nat} {x : Int32} (dg : decode y.2.1 pc = .ok (.putfield idx, 3)) (hf : mw_F y.1.cls idx 7 kf .int false) (hl : kf < 23) (he : (gm_L M I).set kf (.int x) = gm_L M (upd I kf x)) (k : mw_W y d kc ks (pc + 3) ls st (gm M h (upd I kf x) A) Po) : mw_W y d kc ks pc ls (.int x :: .ref M :: st) (gm M h I A) Po := by
  refine mw_put dg hf gm_0 hl (fun _ => ⟨rfl, rfl⟩) ?_
  rw [show mw_s (gm M h I A) M (.inr (7, (gm_L M I).set kf (.int x))) = gm M h (upd I kf x) A from gm_set (j := 0) (by decide) (by rw [he]; rfl) (fun i _ hi => gm_c_I hi)]
  exact k
theorem gm_st1 {q : Nat} {i x : Int32} (dg : decode y.2.1 pc = .ok (.iastore, 1)) (hi : vp_in i 192 ∧ i.toNatClampNeg = q) (k : mw_W y d kc ks (pc + 1) ls st (gm M h I (va_up A 1 (upd (A 1) q x))) Po) : mw_W y d kc ks pc ls (.int x :: .int i :: .ref (M + 1) :: st) (gm M h I A) Po := by
  refine mw_iast dg gm_1 hi ?_
  rw [show mw_s (gm M h I A) (M + 1) (.inl (0, (192, .inl (upd (A 1) q x)))) = gm M h I (va_up A 1 (upd (A 1) q x)) from gm_set (j := 1) (by decide) (by show _ = va_E_id (.inl (0, (192, .inl (va_up A 1 (upd (A 1) q x) 1)))); rw [va_up_self]; rfl) (fun i h9 hi => gm_c_A hi h9 (by decide) (by decide))]
  exact k
theorem gm_st2 {q : Nat} {i x : Int32} (dg : decode y.2.1 pc = .ok (.iastore, 1)) (hi : vp_in i 192 ∧ i.toNatClampNeg = q) (k : mw_W y d kc ks (pc + 1) ls st (gm M h I (va_up A 2 (upd (A 2) q x))) Po) : mw_W y d kc ks pc ls (.int x :: .int i :: .ref (M + 2) :: st) (gm M h I A) Po := by
  refine mw_iast dg gm_2 hi ?_
  rw [show mw_s (gm M h I A) (M + 2) (.inl (0, (192, .inl (upd (A 2) q x)))) = gm M h I (va_up A 2 (upd (A 2) q x)) from gm_set (j := 2) (by decide) (by show _ = va_E_id (.inl (0, (192, .inl (va_up A 2 (upd (A 2) q x) 2)))); rw [va_up_self]; rfl) (fun i h9 hi => gm_c_A hi h9 (by decide) (by decide))]
  exact k
theorem gm_st3 {q : Nat} {i x : Int32} (dg : decode y.2.1 pc = .ok (.iastore, 1)) (hi : vp_in i 192 ∧ i.toNatClampNeg = q) (k : mw_W y d kc ks (pc + 1) ls st (gm M h I (va_up A 3 (upd (A 3) q x))) Po) : mw_W y d kc ks pc ls (.int x :: .int i :: .ref (M + 3) :: st) (gm M h I A) Po := by
  refine mw_iast dg gm_3 hi ?_
  rw [show mw_s (gm M h I A) (M + 3) (.inl (0, (192, .inl (upd (A 3) q x)))) = gm M h I (va_up A 3 (upd (A 3) q x)) from gm_set (j := 3) (by decide) (by show _ = va_E_id (.inl (0, (192, .inl (va_up A 3 (upd (A 3) q x) 3)))); rw [va_up_self]; rfl) (fun i h9 hi => gm_c_A hi h9 (by decide) (by decide))]
  exact k
theorem gm_st4 {q : Nat} {i x v : Int32} (dg : decode y.2.1 pc = .ok (.bastore, 1)) (hi : vp_in i 12 ∧ i.toNatClampNeg = q) (hv : vp_nar .boolean x = v) (k : mw_W y d kc ks (pc + 1) ls st (gm M h I (va_up A 4 (upd (A 4) q v))) Po) : mw_W y d kc ks pc ls (.int x :: .int i :: .ref (M + 4) :: st) (gm M h I A) Po := by
  subst hv
  refine mw_zast dg gm_4 hi ?_
  rw [show mw_s (gm M h I A) (M + 4) (.inl (2, (12, .inl (upd (A 4) q (vp_nar .boolean x))))) = gm M h I (va_up A 4 (upd (A 4) q (vp_nar .boolean x))) from gm_set (j := 4) (by decide) (by show _ = va_E_id (.inl (2, (12, .inl (va_up A 4 (upd (A 4) q (vp_nar .boolean x)) 4)))); rw [va_up_self]; rfl) (fun i h9 hi => gm_c_A hi h9 (by decide) (by decide))]
  exact k
theorem gm_st5 {q : Nat} {i x : Int32} (dg : decode y.2.1 pc = .ok (.iastore, 1)) (hi : vp_in i 12 ∧ i.toNatClampNeg = q) (k : mw_W y d kc ks (pc + 1) ls st (gm M h I (va_up A 5 (upd (A 5) q x))) Po) : mw_W y d kc ks pc ls (.int x :: .int i :: .ref (M + 5) :: st) (gm M h I A) Po := by
  refine mw_iast dg gm_5 hi ?_
  rw [show mw_s (gm M h I A) (M + 5) (.inl (0, (12, .inl (upd (A 5) q x)))) = gm M h I (va_up A 5 (upd (A 5) q x)) from gm_set (j := 5) (by decide) (by show _ = va_E_id (.inl (0, (12, .inl (va_up A 5 (upd (A 5) q x) 5)))); rw [va_up_self]; rfl) (fun i h9 hi => gm_c_A hi h9 (by decide) (by decide))]
  exact k
theorem gm_st6 {q : Nat} {i x : Int32} (dg : decode y.2.1 pc = .ok (.iastore, 1)) (hi : vp_in i 12 ∧ i.toNatClampNeg = q) (k : mw_W y d kc ks (pc + 1) ls st (gm M h I (va_up A 6 (upd (A 6) q x))) Po) : mw_W y d kc ks pc ls (.int x :: .int i :: .ref (M + 6) :: st) (gm M h I A) Po := by
  refine mw_iast dg gm_6 hi ?_
  rw [show mw_s (gm M h I A) (M + 6) (.inl (0, (12, .inl (upd (A 6) q x)))) = gm M h I (va_up A 6 (upd (A 6) q x)) from gm_set (j := 6) (by decide) (by show _ = va_E_id (.inl (0, (12, .inl (va_up A 6 (upd (A 6) q x) 6)))); rw [va_up_self]; rfl) (fun i h9 hi => gm_c_A hi h9 (by decide) (by decide))]
  exact k
theorem gm_st7 {q : Nat} {i x : Int32} (dg : decode y.2.1 pc = .ok (.iastore, 1)) (hi : vp_in i 1440 ∧ i.toNatClampNeg = q) (k : mw_W y d kc ks (pc + 1) ls st (gm M h I (va_up A 7 (upd (A 7) q x))) Po) : mw_W y d kc ks pc ls (.int x :: .int i :: .ref (M + 7) :: st) (gm M h I A) Po := by
  refine mw_iast dg gm_7 hi ?_
  rw [show mw_s (gm M h I A) (M + 7) (.inl (0, (1440, .inl (upd (A 7) q x)))) = gm M h I (va_up A 7 (upd (A 7) q x)) from gm_set (j := 7) (by decide) (by show _ = va_E_id (.inl (0, (1440, .inl (va_up A 7 (upd (A 7) q x) 7)))); rw [va_up_self]; rfl) (fun i h9 hi => gm_c_A hi h9 (by decide) (by decide))]
  exact k
theorem gm_st8 {q : Nat} {i x : Int32} (dg : decode y.2.1 pc = .ok (.iastore, 1)) (hi : vp_in i 120 ∧ i.toNatClampNeg = q) (k : mw_W y d kc ks (pc + 1) ls st (gm M h I (va_up A 8 (upd (A 8) q x))) Po) : mw_W y d kc ks pc ls (.int x :: .int i :: .ref (M + 8) :: st) (gm M h I A) Po := by
  refine mw_iast dg gm_8 hi ?_
  rw [show mw_s (gm M h I A) (M + 8) (.inl (0, (120, .inl (upd (A 8) q x)))) = gm M h I (va_up A 8 (upd (A 8) q x)) from gm_set (j := 8) (by decide) (by show _ = va_E_id (.inl (0, (120, .inl (va_up A 8 (upd (A 8) q x) 8)))); rw [va_up_self]; rfl) (fun i h9 hi => gm_c_A hi h9 (by decide) (by decide))]
  exact k
theorem gm_st9 {q : Nat} {i x : Int32} (dg : decode y.2.1 pc = .ok (.iastore, 1)) (hi : vp_in i 300 ∧ i.toNatClampNeg = q) (k : mw_W y d kc ks (pc + 1) ls st (gm M h I (va_up A 9 (upd (A 9) q x))) Po) : mw_W y d kc ks pc ls (.int x :: .int i :: .ref (M + 9) :: st) (gm M h I A) Po := by
  refine mw_iast dg gm_9 hi ?_
  rw [show mw_s (gm M h I A) (M + 9) (.inl (0, (300, .inl (upd (A 9) q x)))) = gm M h I (va_up A 9 (upd (A 9) q x)) from gm_set (j := 9) (by decide) (by show _ = va_E_id (.inl (0, (300, .inl (va_up A 9 (upd (A 9) q x) 9)))); rw [va_up_self]; rfl) (fun i h9 hi => gm_c_A hi h9 (by decide) (by decide))]
  exact k
theorem gm_st10 {q : Nat} {i x : Int32} (dg : decode y.2.1 pc = .ok (.iastore, 1)) (hi : vp_in i 300 ∧ i.toNatClampNeg = q) (k : mw_W y d kc ks (pc + 1) ls st (gm M h I (va_up A 10 (upd (A 10) q x))) Po) : mw_W y d kc ks pc ls (.int x :: .int i :: .ref (M + 10) :: st) (gm M h I A) Po := by
  refine mw_iast dg gm_10 hi ?_
  rw [show mw_s (gm M h I A) (M + 10) (.inl (0, (300, .inl (upd (A 10) q x)))) = gm M h I (va_up A 10 (upd (A 10) q x)) from gm_set (j := 10) (by decide) (by show _ = va_E_id (.inl (0, (300, .inl (va_up A 10 (upd (A 10) q x) 10)))); rw [va_up_self]; rfl) (fun i h9 hi => gm_c_A hi h9 (by decide) (by decide))]
  exact k
theorem gm_st11 {q : Nat} {i x v : Int32} (dg : decode y.2.1 pc = .ok (.bastore, 1)) (hi : vp_in i 36 ∧ i.toNatClampNeg = q) (hv : vp_nar .boolean x = v) (k : mw_W y d kc ks (pc + 1) ls st (gm M h I (va_up A 11 (upd (A 11) q v))) Po) : mw_W y d kc ks pc ls (.int x :: .int i :: .ref (M + 11) :: st) (gm M h I A) Po := by
  subst hv
  refine mw_zast dg gm_11 hi ?_
  rw [show mw_s (gm M h I A) (M + 11) (.inl (2, (36, .inl (upd (A 11) q (vp_nar .boolean x))))) = gm M h I (va_up A 11 (upd (A 11) q (vp_nar .boolean x))) from gm_set (j := 11) (by decide) (by show _ = va_E_id (.inl (2, (36, .inl (va_up A 11 (upd (A 11) q (vp_nar .boolean x)) 11)))); rw [va_up_self]; rfl) (fun i h9 hi => gm_c_A hi h9 (by decide) (by decide))]
  exact k
end GMR
theorem gm_h0 {M : Nat} {I : Nat → Int32} (x : Int32) : (gm_L M I).set 0 (.int x) = gm_L M (upd I 0 x) := rfl
theorem gm_h1 {M : Nat} {I : Nat → Int32} (x : Int32) : (gm_L M I).set 1 (.int x) = gm_L M (upd I 1 x) := rfl
theorem gm_h9 {M : Nat} {I : Nat → Int32} (x : Int32) : (gm_L M I).set 9 (.int x) = gm_L M (upd I 9 x) := rfl
theorem gm_h11 {M : Nat} {I : Nat → Int32} (x : Int32) : (gm_L M I).set 11 (.int x) = gm_L M (upd I 11 x) := rfl
theorem gm_h12 {M : Nat} {I : Nat → Int32} (x : Int32) : (gm_L M I).set 12 (.int x) = gm_L M (upd I 12 x) := rfl
theorem gm_h13 {M : Nat} {I : Nat → Int32} (x : Int32) : (gm_L M I).set 13 (.int x) = gm_L M (upd I 13 x) := rfl
theorem gm_h14 {M : Nat} {I : Nat → Int32} (x : Int32) : (gm_L M I).set 14 (.int x) = gm_L M (upd I 14 x) := rfl
theorem gm_h15 {M : Nat} {I : Nat → Int32} (x : Int32) : (gm_L M I).set 15 (.int x) = gm_L M (upd I 15 x) := rfl
theorem gm_h16 {M : Nat} {I : Nat → Int32} (x : Int32) : (gm_L M I).set 16 (.int x) = gm_L M (upd I 16 x) := rfl
theorem gm_h17 {M : Nat} {I : Nat → Int32} (x : Int32) : (gm_L M I).set 17 (.int x) = gm_L M (upd I 17 x) := rfl
theorem gm_h18 {M : Nat} {I : Nat → Int32} (x : Int32) : (gm_L M I).set 18 (.int x) = gm_L M (upd I 18 x) := rfl
theorem gm_h20 {M : Nat} {I : Nat → Int32} (x : Int32) : (gm_L M I).set 20 (.int x) = gm_L M (upd I 20 x) := rfl
