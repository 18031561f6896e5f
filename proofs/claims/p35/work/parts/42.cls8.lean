/-! the class side: a field, scanned (class side) -/
section C7
variable {H : mw_H} {a k src cs e : Nat} {X : List Nat} {pb pa : Int32}
/-- the first k of four bytes -/
def vk (b : Nat → Nat) (p : Nat) : Nat → Nat
  | 0 => 0
  | k + 1 => vk b p k + b (p + k) * 2 ^ (8 * k)
theorem vk_lt {b : Nat → Nat} (hb : ∀ j, b j < 256) (p : Nat) : ∀ k, vk b p k < 2 ^ (8 * k)
  | 0 => Nat.zero_lt_one
  | k + 1 => by
    have h1 := vk_lt hb p k
    have h2 := hb (p + k)
    show vk b p k + b (p + k) * 2 ^ (8 * k) < _
    rw [show 8 * (k + 1) = 8 * k + 8 by omega, Nat.pow_add]
    have h3 : b (p + k) * 2 ^ (8 * k) ≤ 255 * 2 ^ (8 * k) := Nat.mul_le_mul_right _ (by omega)
    omega
theorem vk_4 (b : Nat → Nat) (p : Nat) : vk b p 4 = v4 b p := by
  show 0 + b (p + 0) * 1 + b (p + 1) * 256 + b (p + 2) * 65536 + b (p + 3) * 16777216 = _
  rw [Nat.zero_add, Nat.mul_one]
  rfl
theorem mb_oct {v c k : Nat} (hk : k < 4) (hc : c < 256) (hv : v < 2 ^ (8 * k)) : nI v ||| (nI c <<< (nI (8 * k) &&& 31)) = nI (v + c * 2 ^ (8 * k)) := by
  rw [Int32.or_comm]
  have hk' : k = 0 ∨ k = 1 ∨ k = 2 ∨ k = 3 := by omega
  rcases hk' with rfl | rfl | rfl | rfl
  · rw [pk_shlN _ 0 (by decide) (by omega), Nat.mul_comm, fa_or_sum (k := 0) _ hv]
    congr 1; omega
  · rw [pk_shlN _ 8 (by decide) (by omega), Nat.mul_comm, fa_or_sum (k := 8) _ hv]
    congr 1; omega
  · rw [pk_shlN _ 16 (by decide) (by omega), Nat.mul_comm, fa_or_sum (k := 16) _ hv]
    congr 1; omega
  · rw [pk_shlN _ 24 (by decide) (by omega), Nat.mul_comm, fa_or_sum (k := 24) _ hv]
    congr 1; omega
theorem lp_s4 (hX : X.length ≤ 256) (he : e ≤ X.length) {p : Nat} (hp : p + 4 ≤ e) : ∀ (n j : Nat) (H : mw_H), j + n = 4 → mw_g H a = some (fV a k src (nI (p + j)) (nI e) pb pa) → isB H src cs X →
    mw_W mm_X2_scanFour 1 0 0 24 [some (.ref a), some (.int (nI (vk (bX X) p j))), some (.int (nI (8 * j)))] [] H (zN H a k src e pb pa (0, p + 4, v4 (bX X) p)) := by
  intro n
  induction n with
  | zero =>
    intro j H hj h_this hB
    have hj : j = 4 := hj
    subst hj
    refine mw_iload_n (i := 2) dX2_scanFour_24 rfl rfl ?_
    refine mw_bipush (v := 32) dX2_scanFour_25 (by decide) ?_
    refine mw_icmp_ge (tgt := 66) dX2_scanFour_27 (by decide) (fun _ => ?_) (fun c9 => absurd c9 (by first | decide | (rw [pk_us]; decide)))
    refine mw_iload_n (i := 1) dX2_scanFour_66 rfl rfl ?_
    exact mw_ireturn dX2_scanFour_67 ⟨_, rfl, rfl⟩ ⟨by rw [vk_4], h_this, yF.rf⟩
  | succ n ih =>
    intro j H hj h_this hB
    have h_this_source := hB.1
    have n1 : src ≠ a := g_ne hB.1 h_this (fun z => by cases z)
    obtain ⟨f0, hf0, -⟩ := hB.2.2.2
    have n2 : cs ≠ a := g_ne hf0 h_this (fun z => by cases z)
    have hb2 := hB.2.2.1 _ (getD_mem (X := X) (k := p + j) (by omega))
    have hbX : ∀ i, bX X i < 256 := getD_lt hB.2.2.1
    refine mw_iload_n (i := 2) dX2_scanFour_24 rfl rfl ?_
    refine mw_bipush (v := 32) dX2_scanFour_25 (by decide) ?_
    refine mw_icmp_ge (tgt := 66) dX2_scanFour_27 (by decide) (fun c9 => absurd c9 (show ¬ nI 32 ≤ nI (8 * j) from nI_ge (by omega) (by omega))) (fun _ => ?_)
    refine mw_iload_n (i := 1) dX2_scanFour_30 rfl rfl ?_
    refine mw_aload_n (i := 0) dX2_scanFour_31 rfl rfl ?_
    refine mw_get dX2_scanFour_32 fk_X2_27 h_this rfl ?_
    refine mw_aload_n (i := 0) dX2_scanFour_35 rfl rfl ?_
    refine mw_get dX2_scanFour_36 fk_X2_35 h_this rfl ?_
    refine mw_callVr dX2_scanFour_39 mk_X2_117 h_this_source rfl (y_at hB (show p + j < X.length by omega)) (by decide) (Nat.le_refl _) (Nat.le_refl _) rfl rfl (Nat.le_of_ble_eq_true rfl) ?_
    refine mw_sipush (v := 255) dX2_scanFour_42 (by decide) ?_
    refine mw_iand dX2_scanFour_45 ?_
    rw [bV_255 hb2]
    refine mw_iload_n (i := 2) dX2_scanFour_46 rfl rfl ?_
    refine mw_ishl dX2_scanFour_47 ?_
    refine mw_ior dX2_scanFour_48 ?_
    have hor := mb_oct (v := vk (bX X) p j) (c := X.getD (p + j) 0) (k := j) (by omega) hb2 (vk_lt hbX p j)
    rw [hor]
    refine mw_istore_1 dX2_scanFour_49 (by decide) ?_
    refine mw_aload_n (i := 0) dX2_scanFour_50 rfl rfl ?_
    refine mw_dup dX2_scanFour_51 rfl ?_
    refine mw_get dX2_scanFour_52 fk_X2_35 h_this rfl ?_
    refine mw_iconst (v := 1) dX2_scanFour_55 (by decide) ?_
    refine mw_iadd dX2_scanFour_56 ?_
    refine mw_put dX2_scanFour_57 fk_X2_35 h_this (Nat.le_of_ble_eq_true rfl) (fun _ => ⟨rfl, rfl⟩) ?_
    refine mw_iinc_2 dX2_scanFour_60 (by decide) rfl ?_
    refine mw_goto (tgt := 24) dX2_scanFour_63 (by decide) ?_
    rw [show nI (8 * j) + Int32.ofInt 8 = nI (8 * (j + 1)) from nI_add (8 * j) 8]
    refine mw_heap (fun H' => mw_g H' a = some (fV a k src (nI (p + (j + 1))) (nI e) pb pa) ∧ yF [a] H H') ⟨mw_gs.trans (by rw [← Nat.add_assoc, ← nI_1 (p + j)]; rfl), yF.rf.s (by simp)⟩ (fun H1 q1 => ?_)
    obtain ⟨q1, q2⟩ := q1
    refine mw_post (fun v' h' z => ?_) (ih (j + 1) H1 (by omega) q1 (isB_F hB q2 (by simpa using n1) (by simpa using n2)))
    exact ⟨z.1, z.2.1, q2.tr z.2.2⟩
theorem y_scanFour (hX : X.length ≤ 256) (he : e ≤ X.length) {p : Nat} (hp : p ≤ e) (h_this : mw_g H a = some (fV a k src (nI p) (nI e) pb pa)) (hB : isB H src cs X) : mw_Con mm_X2_scanFour 1 0 0 [.ref a] H (zN H a k src e pb pa (if e < p + 4 then (1, p, 0) else (0, p + 4, v4 (bX X) p))) := by
  refine gm_con pl_X2 rfl rfl (Nat.le_of_ble_eq_true rfl) rfl ?_
  refine mw_aload_n (i := 0) dX2_scanFour_0 rfl rfl ?_
  refine mw_get dX2_scanFour_1 fk_X2_38 h_this rfl ?_
  refine mw_aload_n (i := 0) dX2_scanFour_4 rfl rfl ?_
  refine mw_get dX2_scanFour_5 fk_X2_35 h_this rfl ?_
  refine mw_isub dX2_scanFour_8 ?_
  rw [pk_sub hp]
  by_cases h4 : e < p + 4
  · rw [if_pos h4]
    refine mw_iconst (v := 4) dX2_scanFour_9 (by decide) ?_
    refine mw_icmp_ge (tgt := 20) dX2_scanFour_10 (by decide) (fun c9 => absurd c9 (show ¬ nI 4 ≤ nI (e - p) from nI_ge (by omega) (by omega))) (fun _ => ?_)
    refine mw_aload_n (i := 0) dX2_scanFour_13 rfl rfl ?_
    refine mw_iconst (v := 1) dX2_scanFour_14 (by decide) ?_
    refine mw_put dX2_scanFour_15 fk_X2_44 h_this (Nat.le_of_ble_eq_true rfl) (fun _ => ⟨rfl, rfl⟩) ?_
    refine mw_iconst (v := 0) dX2_scanFour_18 (by decide) ?_
    exact mw_ireturn dX2_scanFour_19 ⟨_, rfl, rfl⟩ ⟨rfl, mw_gs, yF.rf.s (by simp)⟩
  · rw [if_neg h4]
    refine mw_iconst (v := 4) dX2_scanFour_9 (by decide) ?_
    refine mw_icmp_ge (tgt := 20) dX2_scanFour_10 (by decide) (fun _ => ?_) (fun c9 => absurd c9 (fun z => z (show nI 4 ≤ nI (e - p) from nI_le (by omega) (by omega))))
    refine mw_iconst (v := 0) dX2_scanFour_20 (by decide) ?_
    refine mw_istore_1 dX2_scanFour_21 (by decide) ?_
    refine mw_iconst (v := 0) dX2_scanFour_22 (by decide) ?_
    refine mw_istore_2 dX2_scanFour_23 (by decide) ?_
    exact lp_s4 hX he (show p + 4 ≤ e by omega) 4 0 H rfl h_this hB
theorem y_skipBytes {p v : Nat} (hv : v < 2 ^ 32) (he : e ≤ 256) (hp : p ≤ e) (h_this : mw_g H a = some (fV a k src (nI p) (nI e) 0 pa)) : mw_Con mm_X2_skipBytes 0 0 0 [.ref a, .int (nI v)] H (fun r H' => r = .inl none ∧ yF [a] H H' ∧ mw_g H' a = some (if e < p + v then fV a k src (nI p) (nI e) 1 pa else fV a k src (nI (p + v)) (nI e) 0 pa)) := by
  refine gm_con pl_X2 rfl rfl (Nat.le_of_ble_eq_true rfl) rfl ?_
  by_cases h31 : v < 2 ^ 31
  · refine mw_iload_n (i := 1) dX2_skipBytes_0 rfl rfl ?_
    refine mw_if_lt (tgt := 17) dX2_skipBytes_1 (by decide) (fun c9 => absurd c9 (nI_pos h31)) (fun _ => ?_)
    refine mw_iload_n (i := 1) dX2_skipBytes_4 rfl rfl ?_
    refine mw_aload_n (i := 0) dX2_skipBytes_5 rfl rfl ?_
    refine mw_get dX2_skipBytes_6 fk_X2_38 h_this rfl ?_
    refine mw_aload_n (i := 0) dX2_skipBytes_9 rfl rfl ?_
    refine mw_get dX2_skipBytes_10 fk_X2_35 h_this rfl ?_
    refine mw_isub dX2_skipBytes_13 ?_
    rw [pk_sub hp]
    by_cases h : e < p + v
    · rw [if_pos h]
      refine mw_icmp_le (tgt := 25) dX2_skipBytes_14 (by decide) (fun c9 => absurd c9 (nI_ge (show e - p < v by omega) h31)) (fun _ => ?_)
      refine mw_aload_n (i := 0) dX2_skipBytes_17 rfl rfl ?_
      refine mw_iconst (v := 1) dX2_skipBytes_18 (by decide) ?_
      refine mw_put dX2_skipBytes_19 fk_X2_44 h_this (Nat.le_of_ble_eq_true rfl) (fun _ => ⟨rfl, rfl⟩) ?_
      refine mw_goto (tgt := 35) dX2_skipBytes_22 (by decide) ?_
      exact mw_return dX2_skipBytes_35 rfl ⟨rfl, yF.rf.s (by simp), mw_gs⟩
    · rw [if_neg h]
      refine mw_icmp_le (tgt := 25) dX2_skipBytes_14 (by decide) (fun _ => ?_) (fun c9 => absurd c9 (fun z => z (nI_le (show v ≤ e - p by omega) (by omega))))
      refine mw_aload_n (i := 0) dX2_skipBytes_25 rfl rfl ?_
      refine mw_dup dX2_skipBytes_26 rfl ?_
      refine mw_get dX2_skipBytes_27 fk_X2_35 h_this rfl ?_
      refine mw_iload_n (i := 1) dX2_skipBytes_30 rfl rfl ?_
      refine mw_iadd dX2_skipBytes_31 ?_
      refine mw_put dX2_skipBytes_32 fk_X2_35 h_this (Nat.le_of_ble_eq_true rfl) (fun _ => ⟨rfl, rfl⟩) ?_
      exact mw_return dX2_skipBytes_35 rfl ⟨rfl, yF.rf.s (by simp), mw_gs.trans (by rw [← nI_add p v]; rfl)⟩
  · have h : e < p + v := by omega
    rw [if_pos h]
    refine mw_iload_n (i := 1) dX2_skipBytes_0 rfl rfl ?_
    refine mw_if_lt (tgt := 17) dX2_skipBytes_1 (by decide) (fun _ => ?_) (fun c9 => absurd c9 (fun z => z (nI_big (by omega) hv)))
    refine mw_aload_n (i := 0) dX2_skipBytes_17 rfl rfl ?_
    refine mw_iconst (v := 1) dX2_skipBytes_18 (by decide) ?_
    refine mw_put dX2_skipBytes_19 fk_X2_44 h_this (Nat.le_of_ble_eq_true rfl) (fun _ => ⟨rfl, rfl⟩) ?_
    refine mw_goto (tgt := 35) dX2_skipBytes_22 (by decide) ?_
    exact mw_return dX2_skipBytes_35 rfl ⟨rfl, yF.rf.s (by simp), mw_gs⟩
theorem y_keyProblem {t y : Nat} (ht : t < 2 ^ 31) (hy : y < 8) : mw_Con mm_X2_keyProblem 1 0 0 [.int (nI t), .int (nI y)] H (mw_ret (.int (nI (if ¬ (1 ≤ t ∧ t ≤ 31) then 3 else if ¬ (y = 0 ∨ y = 2 ∨ y = 5) then 4 else 0))) H) := by
  refine gm_con pl_X2 rfl rfl (Nat.le_of_ble_eq_true rfl) rfl ?_
  refine mw_iload_n (i := 0) dX2_keyProblem_0 rfl rfl ?_
  refine mw_callSNr dX2_keyProblem_1 mk_X2_114 (y_isTag (nI t)) (by decide) (Nat.le_refl _) (Nat.le_refl _) rfl rfl (Nat.le_of_ble_eq_true rfl) ?_
  by_cases h : 1 ≤ t ∧ t ≤ 31
  · rw [if_neg (fun z => z h)]
    refine mw_if_ne (tgt := 9) dX2_keyProblem_4 (by decide) (fun _ => ?_) (fun c9 => absurd c9 (by rw [zTag_of h.1 h.2]; decide))
    refine mw_iload_n (i := 1) dX2_keyProblem_9 rfl rfl ?_
    have hy' : y = 0 ∨ y = 1 ∨ y = 2 ∨ y = 3 ∨ y = 4 ∨ y = 5 ∨ y = 6 ∨ y = 7 := by omega
    rcases hy' with rfl | rfl | rfl | rfl | rfl | rfl | rfl | rfl
    · refine mw_if_eq (tgt := 23) dX2_keyProblem_10 (by decide) (fun _ => ?_) (fun c9 => absurd c9 (by first | decide | (rw [pk_us]; decide)))
      refine mw_iconst (v := 0) dX2_keyProblem_23 (by decide) ?_
      refine mw_goto (tgt := 28) dX2_keyProblem_24 (by decide) ?_
      exact mw_ireturn dX2_keyProblem_28 ⟨_, rfl, rfl⟩ ⟨rfl, rfl⟩
    · refine mw_if_eq (tgt := 23) dX2_keyProblem_10 (by decide) (fun c9 => absurd c9 (by first | decide | (rw [pk_us]; decide))) (fun _ => ?_)
      refine mw_iload_n (i := 1) dX2_keyProblem_13 rfl rfl ?_
      refine mw_iconst (v := 2) dX2_keyProblem_14 (by decide) ?_
      refine mw_icmp_eq (tgt := 23) dX2_keyProblem_15 (by decide) (fun c9 => absurd c9 (by first | decide | (rw [pk_us]; decide))) (fun _ => ?_)
      refine mw_iload_n (i := 1) dX2_keyProblem_18 rfl rfl ?_
      refine mw_iconst (v := 5) dX2_keyProblem_19 (by decide) ?_
      refine mw_icmp_ne (tgt := 27) dX2_keyProblem_20 (by decide) (fun _ => ?_) (fun c9 => absurd c9 (by first | decide | (rw [pk_us]; decide)))
      refine mw_iconst (v := 4) dX2_keyProblem_27 (by decide) ?_
      exact mw_ireturn dX2_keyProblem_28 ⟨_, rfl, rfl⟩ ⟨rfl, rfl⟩
    · refine mw_if_eq (tgt := 23) dX2_keyProblem_10 (by decide) (fun c9 => absurd c9 (by first | decide | (rw [pk_us]; decide))) (fun _ => ?_)
      refine mw_iload_n (i := 1) dX2_keyProblem_13 rfl rfl ?_
      refine mw_iconst (v := 2) dX2_keyProblem_14 (by decide) ?_
      refine mw_icmp_eq (tgt := 23) dX2_keyProblem_15 (by decide) (fun _ => ?_) (fun c9 => absurd c9 (by first | decide | (rw [pk_us]; decide)))
      refine mw_iconst (v := 0) dX2_keyProblem_23 (by decide) ?_
      refine mw_goto (tgt := 28) dX2_keyProblem_24 (by decide) ?_
      exact mw_ireturn dX2_keyProblem_28 ⟨_, rfl, rfl⟩ ⟨rfl, rfl⟩
    · refine mw_if_eq (tgt := 23) dX2_keyProblem_10 (by decide) (fun c9 => absurd c9 (by first | decide | (rw [pk_us]; decide))) (fun _ => ?_)
      refine mw_iload_n (i := 1) dX2_keyProblem_13 rfl rfl ?_
      refine mw_iconst (v := 2) dX2_keyProblem_14 (by decide) ?_
      refine mw_icmp_eq (tgt := 23) dX2_keyProblem_15 (by decide) (fun c9 => absurd c9 (by first | decide | (rw [pk_us]; decide))) (fun _ => ?_)
      refine mw_iload_n (i := 1) dX2_keyProblem_18 rfl rfl ?_
      refine mw_iconst (v := 5) dX2_keyProblem_19 (by decide) ?_
      refine mw_icmp_ne (tgt := 27) dX2_keyProblem_20 (by decide) (fun _ => ?_) (fun c9 => absurd c9 (by first | decide | (rw [pk_us]; decide)))
      refine mw_iconst (v := 4) dX2_keyProblem_27 (by decide) ?_
      exact mw_ireturn dX2_keyProblem_28 ⟨_, rfl, rfl⟩ ⟨rfl, rfl⟩
    · refine mw_if_eq (tgt := 23) dX2_keyProblem_10 (by decide) (fun c9 => absurd c9 (by first | decide | (rw [pk_us]; decide))) (fun _ => ?_)
      refine mw_iload_n (i := 1) dX2_keyProblem_13 rfl rfl ?_
      refine mw_iconst (v := 2) dX2_keyProblem_14 (by decide) ?_
      refine mw_icmp_eq (tgt := 23) dX2_keyProblem_15 (by decide) (fun c9 => absurd c9 (by first | decide | (rw [pk_us]; decide))) (fun _ => ?_)
      refine mw_iload_n (i := 1) dX2_keyProblem_18 rfl rfl ?_
      refine mw_iconst (v := 5) dX2_keyProblem_19 (by decide) ?_
      refine mw_icmp_ne (tgt := 27) dX2_keyProblem_20 (by decide) (fun _ => ?_) (fun c9 => absurd c9 (by first | decide | (rw [pk_us]; decide)))
      refine mw_iconst (v := 4) dX2_keyProblem_27 (by decide) ?_
      exact mw_ireturn dX2_keyProblem_28 ⟨_, rfl, rfl⟩ ⟨rfl, rfl⟩
    · refine mw_if_eq (tgt := 23) dX2_keyProblem_10 (by decide) (fun c9 => absurd c9 (by first | decide | (rw [pk_us]; decide))) (fun _ => ?_)
      refine mw_iload_n (i := 1) dX2_keyProblem_13 rfl rfl ?_
      refine mw_iconst (v := 2) dX2_keyProblem_14 (by decide) ?_
      refine mw_icmp_eq (tgt := 23) dX2_keyProblem_15 (by decide) (fun c9 => absurd c9 (by first | decide | (rw [pk_us]; decide))) (fun _ => ?_)
      refine mw_iload_n (i := 1) dX2_keyProblem_18 rfl rfl ?_
      refine mw_iconst (v := 5) dX2_keyProblem_19 (by decide) ?_
      refine mw_icmp_ne (tgt := 27) dX2_keyProblem_20 (by decide) (fun c9 => absurd c9 (by first | decide | (rw [pk_us]; decide))) (fun _ => ?_)
      refine mw_iconst (v := 0) dX2_keyProblem_23 (by decide) ?_
      refine mw_goto (tgt := 28) dX2_keyProblem_24 (by decide) ?_
      exact mw_ireturn dX2_keyProblem_28 ⟨_, rfl, rfl⟩ ⟨rfl, rfl⟩
    · refine mw_if_eq (tgt := 23) dX2_keyProblem_10 (by decide) (fun c9 => absurd c9 (by first | decide | (rw [pk_us]; decide))) (fun _ => ?_)
      refine mw_iload_n (i := 1) dX2_keyProblem_13 rfl rfl ?_
      refine mw_iconst (v := 2) dX2_keyProblem_14 (by decide) ?_
      refine mw_icmp_eq (tgt := 23) dX2_keyProblem_15 (by decide) (fun c9 => absurd c9 (by first | decide | (rw [pk_us]; decide))) (fun _ => ?_)
      refine mw_iload_n (i := 1) dX2_keyProblem_18 rfl rfl ?_
      refine mw_iconst (v := 5) dX2_keyProblem_19 (by decide) ?_
      refine mw_icmp_ne (tgt := 27) dX2_keyProblem_20 (by decide) (fun _ => ?_) (fun c9 => absurd c9 (by first | decide | (rw [pk_us]; decide)))
      refine mw_iconst (v := 4) dX2_keyProblem_27 (by decide) ?_
      exact mw_ireturn dX2_keyProblem_28 ⟨_, rfl, rfl⟩ ⟨rfl, rfl⟩
    · refine mw_if_eq (tgt := 23) dX2_keyProblem_10 (by decide) (fun c9 => absurd c9 (by first | decide | (rw [pk_us]; decide))) (fun _ => ?_)
      refine mw_iload_n (i := 1) dX2_keyProblem_13 rfl rfl ?_
      refine mw_iconst (v := 2) dX2_keyProblem_14 (by decide) ?_
      refine mw_icmp_eq (tgt := 23) dX2_keyProblem_15 (by decide) (fun c9 => absurd c9 (by first | decide | (rw [pk_us]; decide))) (fun _ => ?_)
      refine mw_iload_n (i := 1) dX2_keyProblem_18 rfl rfl ?_
      refine mw_iconst (v := 5) dX2_keyProblem_19 (by decide) ?_
      refine mw_icmp_ne (tgt := 27) dX2_keyProblem_20 (by decide) (fun _ => ?_) (fun c9 => absurd c9 (by first | decide | (rw [pk_us]; decide)))
      refine mw_iconst (v := 4) dX2_keyProblem_27 (by decide) ?_
      exact mw_ireturn dX2_keyProblem_28 ⟨_, rfl, rfl⟩ ⟨rfl, rfl⟩
  · rw [if_pos h]
    refine mw_if_ne (tgt := 9) dX2_keyProblem_4 (by decide) (fun c9 => absurd c9 (fun z => z (zTag_big h ht))) (fun _ => ?_)
    refine mw_iconst (v := 3) dX2_keyProblem_7 (by decide) ?_
    exact mw_ireturn dX2_keyProblem_8 ⟨_, rfl, rfl⟩ ⟨rfl, rfl⟩
def S5 (a : Nat) : List Nat := [a, a + 1, a + 2, a + 3, a + 4]
theorem y_keepField {nx lm t y n : Int32} {f1 f2 f3 f4 : Nat → Int32} (hk : k < 60) (h_this : mw_g H a = some (fV a k src nx lm pb pa)) (hA : aF H a f1 f2 f3 f4) : mw_Con mm_X2_keepField 0 0 0 [.ref a, .int t, .int y, .int n] H (fun r H' => r = .inl none ∧ yF (S5 a) H H' ∧ mw_g H' a = some (fV a (k + 1) src nx lm pb pa) ∧ aF H' a (upd f1 k t) (upd f2 k y) (upd f3 k n) (upd f4 k nx)) := by
  obtain ⟨h_this_tags, h_this_types, h_this_numbers, h_this_ends⟩ := hA
  refine gm_con pl_X2 rfl rfl (Nat.le_of_ble_eq_true rfl) rfl ?_
  have ix := mw_ix rfl (show k < 60 from hk) (by decide)
  refine mw_aload_n (i := 0) dX2_keepField_0 rfl rfl ?_
  refine mw_get dX2_keepField_1 fk_X2_41 h_this rfl ?_
  refine mw_if_lt (tgt := 69) dX2_keepField_4 (by decide) (fun c9 => absurd c9 (nI_pos (by omega))) (fun _ => ?_)
  refine mw_aload_n (i := 0) dX2_keepField_7 rfl rfl ?_
  refine mw_get dX2_keepField_8 fk_X2_41 h_this rfl ?_
  refine mw_bipush (v := 60) dX2_keepField_11 (by decide) ?_
  refine mw_icmp_ge (tgt := 69) dX2_keepField_13 (by decide) (fun c9 => absurd c9 (show ¬ nI 60 ≤ nI k from nI_ge hk (by decide))) (fun _ => ?_)
  refine mw_aload_n (i := 0) dX2_keepField_16 rfl rfl ?_
  refine mw_get dX2_keepField_17 fk_X2_9 h_this rfl ?_
  refine mw_aload_n (i := 0) dX2_keepField_20 rfl rfl ?_
  refine mw_get dX2_keepField_21 fk_X2_41 h_this rfl ?_
  refine mw_iload_n (i := 1) dX2_keepField_24 rfl rfl ?_
  refine mw_iast dX2_keepField_25 h_this_tags ix ?_
  refine mw_aload_n (i := 0) dX2_keepField_26 rfl rfl ?_
  refine mw_get dX2_keepField_27 fk_X2_15 ((mw_go (by omega)).trans h_this) rfl ?_
  refine mw_aload_n (i := 0) dX2_keepField_30 rfl rfl ?_
  refine mw_get dX2_keepField_31 fk_X2_41 ((mw_go (by omega)).trans h_this) rfl ?_
  refine mw_iload_n (i := 2) dX2_keepField_34 rfl rfl ?_
  refine mw_iast dX2_keepField_35 ((mw_go (by omega)).trans h_this_types) ix ?_
  refine mw_aload_n (i := 0) dX2_keepField_36 rfl rfl ?_
  refine mw_get dX2_keepField_37 fk_X2_18 ((mw_go (by omega)).trans ((mw_go (by omega)).trans h_this)) rfl ?_
  refine mw_aload_n (i := 0) dX2_keepField_40 rfl rfl ?_
  refine mw_get dX2_keepField_41 fk_X2_41 ((mw_go (by omega)).trans ((mw_go (by omega)).trans h_this)) rfl ?_
  refine mw_iload_n (i := 3) dX2_keepField_44 rfl rfl ?_
  refine mw_iast dX2_keepField_45 ((mw_go (by omega)).trans ((mw_go (by omega)).trans h_this_numbers)) ix ?_
  refine mw_aload_n (i := 0) dX2_keepField_46 rfl rfl ?_
  refine mw_get dX2_keepField_47 fk_X2_21 ((mw_go (by omega)).trans ((mw_go (by omega)).trans ((mw_go (by omega)).trans h_this))) rfl ?_
  refine mw_aload_n (i := 0) dX2_keepField_50 rfl rfl ?_
  refine mw_get dX2_keepField_51 fk_X2_41 ((mw_go (by omega)).trans ((mw_go (by omega)).trans ((mw_go (by omega)).trans h_this))) rfl ?_
  refine mw_aload_n (i := 0) dX2_keepField_54 rfl rfl ?_
  refine mw_get dX2_keepField_55 fk_X2_35 ((mw_go (by omega)).trans ((mw_go (by omega)).trans ((mw_go (by omega)).trans h_this))) rfl ?_
  refine mw_iast dX2_keepField_58 ((mw_go (by omega)).trans ((mw_go (by omega)).trans ((mw_go (by omega)).trans h_this_ends))) ix ?_
  refine mw_aload_n (i := 0) dX2_keepField_59 rfl rfl ?_
  refine mw_dup dX2_keepField_60 rfl ?_
  refine mw_get dX2_keepField_61 fk_X2_41 ((mw_go (by omega)).trans ((mw_go (by omega)).trans ((mw_go (by omega)).trans ((mw_go (by omega)).trans h_this)))) rfl ?_
  refine mw_iconst (v := 1) dX2_keepField_64 (by decide) ?_
  refine mw_iadd dX2_keepField_65 ?_
  refine mw_put dX2_keepField_66 fk_X2_41 ((mw_go (by omega)).trans ((mw_go (by omega)).trans ((mw_go (by omega)).trans ((mw_go (by omega)).trans h_this)))) (Nat.le_of_ble_eq_true rfl) (fun _ => ⟨rfl, rfl⟩) ?_
  refine mw_return dX2_keepField_69 rfl ⟨rfl, ((((yF.rf.s (by simp [S5])).s (by simp [S5])).s (by simp [S5])).s (by simp [S5])).s (by simp [S5]), mw_gs.trans (by rw [nI_1 k]; rfl), ?_, ?_, ?_, ?_⟩
  · exact (mw_go (by omega)).trans ((mw_go (by omega)).trans ((mw_go (by omega)).trans ((mw_go (by omega)).trans mw_gs)))
  · exact (mw_go (by omega)).trans ((mw_go (by omega)).trans ((mw_go (by omega)).trans mw_gs))
  · exact (mw_go (by omega)).trans ((mw_go (by omega)).trans mw_gs)
  · exact (mw_go (by omega)).trans mw_gs
end C7
