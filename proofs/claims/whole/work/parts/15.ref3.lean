/-! writing: group numbers, numbers, fields -/
/-- the groups of v, at most r + 1 of them -/
def eg : Nat → Nat → List Nat
  | 0, v => [v]
  | r + 1, v => if v / 128 = 0 then [v] else (v % 128 + 128) :: eg r (v / 128)
def egr (v : Nat) : List Nat := eg 4 v
def four (v : Nat) : List Nat := [v % 256, v / 256 % 256, v / 65536 % 256, v / 16777216 % 256]
/-- a key and a number -/
def enum (tag type v : Nat) : List Nat := egr (8 * tag + type) ++ if type = 5 then four v else egr v
/-- X is written from the place w on -/
def wr (f : Nat → Int32) (w : Nat) (X : List Nat) : Nat → Int32 := fun j => if w ≤ j ∧ j < w + X.length then nI (X.getD (j - w) 0) else f j
theorem wr_nil (f : Nat → Int32) (w : Nat) : wr f w [] = f := by
  funext j
  show (if _ then _ else _) = _
  exact if_neg (by show ¬ (w ≤ j ∧ j < w + 0); omega)
theorem wr_one (f : Nat → Int32) (w x : Nat) : wr f w [x] = upd f w (nI x) := by
  funext j
  show (if w ≤ j ∧ j < w + 1 then _ else _) = if j = w then _ else _
  by_cases e : j = w
  · subst e
    rw [if_pos ⟨Nat.le_refl _, Nat.lt_succ_self _⟩, if_pos rfl, Nat.sub_self]
    rfl
  · rw [if_neg (by omega), if_neg e]
theorem wr_app (f : Nat → Int32) (w : Nat) (X Y : List Nat) : wr (wr f w X) (w + X.length) Y = wr f w (X ++ Y) := by
  funext j
  show (if w + X.length ≤ j ∧ j < w + X.length + Y.length then nI (Y.getD (j - (w + X.length)) 0) else if w ≤ j ∧ j < w + X.length then nI (X.getD (j - w) 0) else f j) = if w ≤ j ∧ j < w + (X ++ Y).length then nI ((X ++ Y).getD (j - w) 0) else f j
  rw [List.length_append]
  by_cases e1 : w + X.length ≤ j ∧ j < w + X.length + Y.length
  · rw [if_pos e1, if_pos (by omega)]
    congr 1
    rw [List.getD_eq_getElem?_getD, List.getD_eq_getElem?_getD, List.getElem?_append_right (by omega)]
    congr 2
    omega
  · rw [if_neg e1]
    by_cases e2 : w ≤ j ∧ j < w + X.length
    · rw [if_pos e2, if_pos (by omega)]
      congr 1
      rw [List.getD_eq_getElem?_getD, List.getD_eq_getElem?_getD, List.getElem?_append_left (by omega)]
    · rw [if_neg e2, if_neg (by omega)]
/-- the reference, after X was written -/
def gW (M : Nat) (h : mw_H) (I : Nat → Int32) (A : Nat → Nat → Int32) (w : Nat) (X : List Nat) : mw_H := gm M h (upd I 18 (nI (w + X.length))) (va_up A 9 (wr (A 9) w X))
theorem gW_nil {M : Nat} {h : mw_H} {I : Nat → Int32} {A : Nat → Nat → Int32} {w : Nat} (hw : I 18 = nI w) : gW M h I A w [] = gm M h I A := by
  unfold gW
  rw [wr_nil, show w + ([] : List Nat).length = w from rfl, fa_upd_same hw]
  congr 1
  funext j
  by_cases e : j = 9
  · subst e; rw [va_up_self]
  · rw [va_up_ne _ _ e]
theorem gW_app {M : Nat} {h : mw_H} {I : Nat → Int32} {A : Nat → Nat → Int32} {w : Nat} {X Y : List Nat} : gW M h (upd I 18 (nI (w + X.length))) (va_up A 9 (wr (A 9) w X)) (w + X.length) Y = gW M h I A w (X ++ Y) := by
  unfold gW
  rw [fa_upd_twice, va_up_self, bx_uu, wr_app, List.length_append, Nat.add_assoc]
theorem eg_len : ∀ r v, (eg r v).length ≤ r + 1
  | 0, v => Nat.le_refl _
  | r + 1, v => by
    unfold eg
    by_cases e : v / 128 = 0
    · rw [if_pos e]; exact Nat.succ_le_succ (Nat.zero_le _)
    · rw [if_neg e]; exact Nat.succ_le_succ (eg_len r (v / 128))
theorem eg_pos : ∀ r v, 0 < (eg r v).length
  | 0, v => Nat.succ_pos _
  | r + 1, v => by
    unfold eg
    by_cases e : v / 128 = 0
    · rw [if_pos e]; exact Nat.succ_pos _
    · rw [if_neg e]; exact Nat.succ_pos _
theorem mb_ush7 {v : Nat} (hv : v < 2 ^ 32) : ((nI v).toUInt32 >>> ((7 : Int32).toUInt32 &&& Int32.toUInt32 31)).toInt32 = nI (v / 128) := pk_ushrN hv 7 7 (by decide)
theorem mb_and127 {v : Nat} (hv : v < 2 ^ 32) : nI v &&& 127 = nI (v % 128) := pk_andN hv 7 (by decide)
theorem mb_or128 {v : Nat} (hv : v < 128) : nI v ||| 128 = nI (v + 128) := by
  rw [Int32.or_comm, show (128 : Int32) = nI (2 ^ 7 * 1) from rfl, fa_or_sum (k := 7) 1 hv]
  congr 1; omega
theorem nI_ne0' {n : Nat} (hn : n < 2 ^ 32) (h0 : nI n = 0) : n = 0 := by
  have h1 : (nI n).toBitVec.toNat = (nI 0).toBitVec.toNat := by rw [h0]; rfl
  rw [pk_tn hn, pk_tn (by decide)] at h1
  exact h1
section R3
variable {M : Nat} {h : mw_H} {I : Nat → Int32} {A : Nat → Nat → Int32} {w : Nat}
theorem c_writes (x : Nat) (hw : I 18 = nI w) (hw3 : w < 300) : mw_Con mm_X7_writes 0 0 0 [.ref M, .int (nI x)] (gm M h I A) (mw_void (gW M h I A w [x])) := by
  refine gm_con pl_X7 rfl rfl (Nat.le_of_ble_eq_true rfl) rfl ?_
  refine mw_aload_n (i := 0) dX7_writes_0 rfl rfl ?_
  refine mw_get dX7_writes_1 fk_X7_35 gm_0 rfl ?_
  refine mw_aload_n (i := 0) dX7_writes_4 rfl rfl ?_
  refine mw_get dX7_writes_5 fk_X7_84 gm_0 rfl ?_
  refine mw_iload_n (i := 1) dX7_writes_8 rfl rfl ?_
  refine gm_st9 dX7_writes_9 (mw_ix hw hw3 (by decide)) ?_
  refine mw_aload_n (i := 0) dX7_writes_10 rfl rfl ?_
  refine mw_dup dX7_writes_11 rfl ?_
  refine mw_get dX7_writes_12 fk_X7_84 gm_0 rfl ?_
  refine mw_iconst (v := 1) dX7_writes_15 (by decide) ?_
  refine mw_iadd dX7_writes_16 ?_
  have e1 : I 18 + 1 = nI (w + 1) := by rw [hw]; exact nI_1 w
  have hg : gm M h (upd I 18 (I 18 + 1)) (va_up A 9 (upd (A 9) w (nI x))) = gW M h I A w [x] := by
    unfold gW
    rw [wr_one, e1]
    rfl
  refine gm_put dX7_writes_17 fk_X7_84 (by decide) (gm_h18 _) ?_
  exact mw_return dX7_writes_20 rfl ⟨rfl, hg⟩
theorem lp_wg {x2 : Option Value} {x1 : Option Value} : ∀ (r v w : Nat) (I : Nat → Int32) (A : Nat → Nat → Int32), v < 2 ^ 32 → v < 128 ^ (r + 1) → I 18 = nI w → w + (eg r v).length ≤ 300 → ∀ x1 : Option Value,
    mw_W mm_X7_writesGroup 1 0 0 2 [some (.ref M), x1, some (.int (nI v))] [] (gm M h I A) (mw_void (gW M h I A w (eg r v))) := by
  intro r
  induction r with
  | zero =>
    intro v w I A hv hr hw hl x1
    have hv0 : v / 128 = 0 := Nat.div_eq_of_lt (by simpa using hr)
    refine mw_iload_n (i := 2) dX7_writesGroup_2 rfl rfl ?_
    refine mw_bipush (v := 7) dX7_writesGroup_3 (by decide) ?_
    refine mw_iushr dX7_writesGroup_5 rfl ?_
    rw [mb_ush7 hv]
    refine mw_if_eq (tgt := 29) dX7_writesGroup_6 (by decide) (fun c_6 => ?_) (fun c_6 => ?_)
    · refine mw_aload_n (i := 0) dX7_writesGroup_29 rfl rfl ?_
      refine mw_iload_n (i := 2) dX7_writesGroup_30 rfl rfl ?_
      refine mw_callVv dX7_writesGroup_31 mk_X7_87 gm_0 rfl (c_writes v hw (by have : (eg 0 v).length = 1 := rfl; omega)) (by decide) (Nat.le_refl _) (Nat.le_refl _) rfl rfl (Nat.le_of_ble_eq_true rfl) ?_
      exact mw_return dX7_writesGroup_34 rfl ⟨rfl, rfl⟩
    · exact absurd (by rw [hv0]; rfl) c_6
  | succ r ih =>
    intro v w I A hv hr hw hl x1
    refine mw_iload_n (i := 2) dX7_writesGroup_2 rfl rfl ?_
    refine mw_bipush (v := 7) dX7_writesGroup_3 (by decide) ?_
    refine mw_iushr dX7_writesGroup_5 rfl ?_
    rw [mb_ush7 hv]
    refine mw_if_eq (tgt := 29) dX7_writesGroup_6 (by decide) (fun c_6 => ?_) (fun c_6 => ?_)
    · have hv0 : v / 128 = 0 := nI_ne0' (by omega) c_6
      have e : eg (r + 1) v = [v] := by unfold eg; rw [if_pos hv0]
      rw [e] at hl ⊢
      refine mw_aload_n (i := 0) dX7_writesGroup_29 rfl rfl ?_
      refine mw_iload_n (i := 2) dX7_writesGroup_30 rfl rfl ?_
      refine mw_callVv dX7_writesGroup_31 mk_X7_87 gm_0 rfl (c_writes v hw (by have : [v].length = 1 := rfl; omega)) (by decide) (Nat.le_refl _) (Nat.le_refl _) rfl rfl (Nat.le_of_ble_eq_true rfl) ?_
      exact mw_return dX7_writesGroup_34 rfl ⟨rfl, rfl⟩
    · have hv0 : v / 128 ≠ 0 := fun z => c_6 (by rw [z]; rfl)
      have e : eg (r + 1) v = (v % 128 + 128) :: eg r (v / 128) := by
        show (if v / 128 = 0 then _ else _) = _
        rw [if_neg hv0]
      rw [e] at hl ⊢
      have hm := Nat.mod_lt v (show 0 < 128 by decide)
      rw [List.length_cons] at hl
      refine mw_aload_n (i := 0) dX7_writesGroup_9 rfl rfl ?_
      refine mw_iload_n (i := 2) dX7_writesGroup_10 rfl rfl ?_
      refine mw_bipush (v := 127) dX7_writesGroup_11 (by decide) ?_
      refine mw_iand dX7_writesGroup_13 ?_
      refine mw_sipush (v := 128) dX7_writesGroup_14 (by decide) ?_
      refine mw_ior dX7_writesGroup_17 ?_
      rw [mb_and127 hv, mb_or128 hm]
      refine mw_callVv dX7_writesGroup_18 mk_X7_87 gm_0 rfl (c_writes (v % 128 + 128) hw (by have := eg_pos r (v / 128); omega)) (by decide) (Nat.le_refl _) (Nat.le_refl _) rfl rfl (Nat.le_of_ble_eq_true rfl) ?_
      refine mw_iload_n (i := 2) dX7_writesGroup_21 rfl rfl ?_
      refine mw_bipush (v := 7) dX7_writesGroup_22 (by decide) ?_
      refine mw_iushr dX7_writesGroup_24 rfl ?_
      rw [mb_ush7 hv]
      refine mw_istore_2 dX7_writesGroup_25 (by decide) ?_
      refine mw_goto (tgt := 2) dX7_writesGroup_26 (by decide) ?_
      have h9 := ih (v / 128) (w + 1) (upd I 18 (nI (w + 1))) (va_up A 9 (wr (A 9) w [v % 128 + 128])) (by omega) (Nat.div_lt_of_lt_mul (by rw [Nat.pow_succ, Nat.mul_comm] at hr; exact hr)) (pk_us) (by omega) x1
      have h8 := gW_app (M := M) (h := h) (I := I) (A := A) (w := w) (X := [v % 128 + 128]) (Y := eg r (v / 128))
      rw [show w + [v % 128 + 128].length = w + 1 from rfl] at h8
      rw [h8] at h9
      exact h9
theorem c_writesGroup {v : Nat} (hv : v < 2 ^ 32) (hw : I 18 = nI w) (hw3 : w + (egr v).length ≤ 300) : mw_Con mm_X7_writesGroup 1 0 0 [.ref M, .int (nI v)] (gm M h I A) (mw_void (gW M h I A w (egr v))) := by
  refine gm_con pl_X7 rfl rfl (Nat.le_of_ble_eq_true rfl) rfl ?_
  refine mw_iload_n (i := 1) dX7_writesGroup_0 rfl rfl ?_
  refine mw_istore_2 dX7_writesGroup_1 (by decide) ?_
  exact lp_wg (x2 := none) (x1 := none) 4 v w I A hv (by omega) hw hw3 _
theorem mb_byte {v k : Nat} (hv : v < 2 ^ 32) (hk : k < 4) : ((nI v).toUInt32 >>> ((8 * nI k).toUInt32 &&& Int32.toUInt32 31)).toInt32 &&& 255 = nI (v / 2 ^ (8 * k) % 256) := by
  have hk' : k = 0 ∨ k = 1 ∨ k = 2 ∨ k = 3 := by omega
  rcases hk' with rfl | rfl | rfl | rfl
  · rw [pk_ushrN hv _ 0 (by decide), pk_andN (by omega) 8 (by decide)]
  · rw [pk_ushrN hv _ 8 (by decide), pk_andN (by omega) 8 (by decide)]
  · rw [pk_ushrN hv _ 16 (by decide), pk_andN (by omega) 8 (by decide)]
  · rw [pk_ushrN hv _ 24 (by decide), pk_andN (by omega) 8 (by decide)]
theorem four_take (v : Nat) {k : Nat} (hk : k < 4) : (four v).take (k + 1) = (four v).take k ++ [v / 2 ^ (8 * k) % 256] := by
  have hk' : k = 0 ∨ k = 1 ∨ k = 2 ∨ k = 3 := by omega
  rcases hk' with rfl | rfl | rfl | rfl
  · show [v % 256] = [v / 1 % 256]
    rw [Nat.div_one]
  · rfl
  · rfl
  · rfl
theorem lp_w4 {v : Nat} {x1 x2 : Option Value} (hv : v < 2 ^ 32) (hw : I 18 = nI w) (hw3 : w + 4 ≤ 300) : ∀ (n k : Nat), k + n = 4 →
    mw_W mm_X7_writesNumber 2 0 0 18 [some (.ref M), x1, x2, some (.int (nI v)), some (.int (nI k))] [] (gW M h I A w ((four v).take k)) (mw_void (gW M h I A w (four v))) := by
  intro n
  induction n with
  | zero =>
    intro k hk
    obtain rfl : k = 4 := by omega
    unfold gW
    refine mw_iload (i := 4) dX7_writesNumber_18 rfl ?_
    refine mw_iconst (v := 4) dX7_writesNumber_20 (by decide) ?_
    refine mw_icmp_ge (tgt := 45) dX7_writesNumber_21 (by decide) (fun c_21 => ?_) (fun c_21 => ?_)
    · refine mw_goto (tgt := 53) dX7_writesNumber_45 (by decide) ?_
      exact mw_return dX7_writesNumber_53 rfl ⟨rfl, rfl⟩
    · exact absurd (by decide) c_21
  | succ n ih =>
    intro k hk
    have hk4 : k < 4 := by omega
    have hlen : ((four v).take k).length = k := by rw [List.length_take]; show min k 4 = k; omega
    have hih := ih (k + 1) (by omega)
    unfold gW at hih ⊢
    refine mw_iload (i := 4) dX7_writesNumber_18 rfl ?_
    refine mw_iconst (v := 4) dX7_writesNumber_20 (by decide) ?_
    refine mw_icmp_ge (tgt := 45) dX7_writesNumber_21 (by decide) (fun c_21 => ?_) (fun c_21 => ?_)
    · exact absurd c_21 (by rw [show (4 : Int32) = nI 4 from rfl]; exact nI_ge hk4 (by decide))
    · refine mw_aload_n (i := 0) dX7_writesNumber_24 rfl rfl ?_
      refine mw_iload_n (i := 3) dX7_writesNumber_25 rfl rfl ?_
      refine mw_bipush (v := 8) dX7_writesNumber_26 (by decide) ?_
      refine mw_iload (i := 4) dX7_writesNumber_28 rfl ?_
      refine mw_imul dX7_writesNumber_30 ?_
      refine mw_iushr dX7_writesNumber_31 rfl ?_
      refine mw_sipush (v := 255) dX7_writesNumber_32 (by decide) ?_
      refine mw_iand dX7_writesNumber_35 ?_
      rw [mb_byte hv hk4]
      refine mw_callVv dX7_writesNumber_36 mk_X7_87 gm_0 rfl (c_writes (w := w + ((four v).take k).length) (v / 2 ^ (8 * k) % 256) pk_us (by rw [hlen]; omega)) (by decide) (Nat.le_refl _) (Nat.le_refl _) rfl rfl (Nat.le_of_ble_eq_true rfl) ?_
      rw [gW_app, ← four_take v hk4]
      unfold gW
      refine mw_iinc_4 dX7_writesNumber_39 (by decide) rfl ?_
      refine mw_goto (tgt := 18) dX7_writesNumber_42 (by decide) ?_
      rw [show nI k + Int32.ofInt 1 = nI (k + 1) from nI_1 k]
      exact hih
theorem c_writesNumber {tag type v : Nat} (hk : 8 * tag + type < 2 ^ 31) (hv : v < 2 ^ 32) (hw : I 18 = nI w) (hw3 : w + (enum tag type v).length ≤ 300) : mw_Con mm_X7_writesNumber 2 0 0 [.ref M, .int (nI tag), .int (nI type), .int (nI v)] (gm M h I A) (mw_void (gW M h I A w (enum tag type v))) := by
  refine gm_con pl_X7 rfl rfl (Nat.le_of_ble_eq_true rfl) rfl ?_
  unfold enum at hw3 ⊢
  rw [List.length_append] at hw3
  refine mw_aload_n (i := 0) dX7_writesNumber_0 rfl rfl ?_
  refine mw_bipush (v := 8) dX7_writesNumber_1 (by decide) ?_
  refine mw_iload_n (i := 1) dX7_writesNumber_3 rfl rfl ?_
  refine mw_imul dX7_writesNumber_4 ?_
  refine mw_iload_n (i := 2) dX7_writesNumber_5 rfl rfl ?_
  refine mw_iadd dX7_writesNumber_6 ?_
  rw [show (8 : Int32) * nI tag + nI type = nI (8 * tag + type) by rw [show (8 : Int32) = nI 8 from rfl, pk_mul, nI_add]]
  refine mw_callVv dX7_writesNumber_7 mk_X7_91 gm_0 rfl (c_writesGroup (v := 8 * tag + type) (by omega) hw (by omega)) (by decide) (Nat.le_refl _) (Nat.le_refl _) rfl rfl (Nat.le_of_ble_eq_true rfl) ?_
  unfold gW
  refine mw_iload_n (i := 2) dX7_writesNumber_10 rfl rfl ?_
  refine mw_iconst (v := 5) dX7_writesNumber_11 (by decide) ?_
  refine mw_icmp_ne (tgt := 48) dX7_writesNumber_12 (by decide) (fun c_12 => ?_) (fun c_12 => ?_)
  · have ht : type ≠ 5 := fun z => c_12 (by rw [z]; rfl)
    rw [if_neg ht] at hw3 ⊢
    refine mw_aload_n (i := 0) dX7_writesNumber_48 rfl rfl ?_
    refine mw_iload_n (i := 3) dX7_writesNumber_49 rfl rfl ?_
    refine mw_callVv dX7_writesNumber_50 mk_X7_91 gm_0 rfl (c_writesGroup (w := w + (egr (8 * tag + type)).length) hv pk_us (by omega)) (by decide) (Nat.le_refl _) (Nat.le_refl _) rfl rfl (Nat.le_of_ble_eq_true rfl) ?_
    rw [gW_app]
    exact mw_return dX7_writesNumber_53 rfl ⟨rfl, rfl⟩
  · have ht : type = 5 := by
      have z : nI type = nI 5 := c_12
      rw [nI_eq (by omega) (by decide)] at z
      exact z
    rw [if_pos ht] at hw3 ⊢
    have h4 : (four v).length = 4 := rfl
    refine mw_iconst (v := 0) dX7_writesNumber_15 (by decide) ?_
    refine mw_istore_4 dX7_writesNumber_16 (by decide) ?_
    have h9 := lp_w4 (M := M) (h := h) (I := upd I 18 (nI (w + (egr (8 * tag + type)).length))) (A := va_up A 9 (wr (A 9) w (egr (8 * tag + type)))) (w := w + (egr (8 * tag + type)).length) (v := v) (x1 := some (.int (nI tag))) (x2 := some (.int (nI type))) hv pk_us (by omega) 4 0 rfl
    rw [gW_app, gW_app] at h9
    rw [List.take_zero, List.append_nil] at h9
    exact h9
end R3
