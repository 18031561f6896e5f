/-! fields as values: (tag, type, value, bytes); rows of them as bytes -/
abbrev af : Type := Nat × Nat × Nat × List Nat
def ef (x : af) : List Nat := enum x.1 x.2.1 x.2.2.1 ++ x.2.2.2
def eL (L : List af) : List Nat := L.flatMap ef
def okf (x : af) : Prop := 1 ≤ x.1 ∧ x.1 ≤ 31 ∧ (x.2.1 = 0 ∨ x.2.1 = 2 ∨ x.2.1 = 5) ∧ x.2.2.1 < 2 ^ 32 ∧ (x.2.1 = 2 → x.2.2.2.length = x.2.2.1) ∧ (x.2.1 ≠ 2 → x.2.2.2 = []) ∧ ∀ z ∈ x.2.2.2, z < 256
/-- from the place p on the bytes are X -/
def rowAt (b : Nat → Nat) (p : Nat) (X : List Nat) : Prop := ∀ j, j < X.length → b (p + j) = X.getD j 0
theorem rowAt_app {b : Nat → Nat} {p : Nat} {X Y : List Nat} : rowAt b p (X ++ Y) ↔ rowAt b p X ∧ rowAt b (p + X.length) Y := by
  constructor
  · intro h
    refine ⟨fun j hj => ?_, fun j hj => ?_⟩
    · rw [h j (by rw [List.length_append]; omega), List.getD_eq_getElem?_getD, List.getD_eq_getElem?_getD, List.getElem?_append_left hj]
    · rw [Nat.add_assoc, h (X.length + j) (by rw [List.length_append]; omega), List.getD_eq_getElem?_getD, List.getD_eq_getElem?_getD, List.getElem?_append_right (by omega), Nat.add_sub_cancel_left]
  · rintro ⟨h1, h2⟩ j hj
    rw [List.length_append] at hj
    by_cases e : j < X.length
    · rw [h1 j e, List.getD_eq_getElem?_getD, List.getD_eq_getElem?_getD, List.getElem?_append_left e]
    · have h3 := h2 (j - X.length) (by omega)
      rw [show p + X.length + (j - X.length) = p + j by omega] at h3
      rw [h3, List.getD_eq_getElem?_getD, List.getD_eq_getElem?_getD, List.getElem?_append_right (by omega)]
theorem rowAt_one {b : Nat → Nat} {p x : Nat} {X : List Nat} (h : rowAt b p (x :: X)) : b p = x ∧ rowAt b (p + 1) X := by
  refine ⟨h 0 (by rw [List.length_cons]; omega), fun j hj => ?_⟩
  have h3 := h (j + 1) (by rw [List.length_cons]; omega)
  rw [show p + (j + 1) = p + 1 + j by omega] at h3
  exact h3
theorem pg_eg {b : Nat → Nat} {e : Nat} : ∀ (r v p a : Nat), r ≤ 4 → v < 2 ^ (7 * r + 4) → p + (eg r v).length ≤ e → rowAt b p (eg r v) → pg b e (r + 1) p a = (0, p + (eg r v).length, a + v * 2 ^ (7 * (4 - r)))
  | 0, v, p, a, _, hv, hl, hb => by
    have hl : p + 1 ≤ e := hl
    have h1 : b p = v := (rowAt_one hb).1
    have hv : v < 16 := hv
    show (if p = e then _ else if (0 : Nat) = 0 ∧ 15 < b p then _ else if b p < 128 then _ else _) = _
    rw [if_neg (by omega), if_neg (by omega), if_pos (by omega), h1, Nat.mod_eq_of_lt (by omega)]
    rfl
  | r + 1, v, p, a, hr, hv, hl, hb => by
    show (if p = e then _ else if (r + 1 : Nat) = 0 ∧ 15 < b p then _ else if b p < 128 then _ else pg b e (r + 1) (p + 1) _) = _
    unfold eg at hl hb ⊢
    by_cases h0 : v / 128 = 0
    · rw [if_pos h0] at hl hb ⊢
      have hl : p + 1 ≤ e := hl
      have h1 : b p = v := (rowAt_one hb).1
      rw [if_neg (by omega), if_neg (by omega), if_pos (by omega), h1, Nat.mod_eq_of_lt (by omega)]
      rfl
    · rw [if_neg h0] at hl hb ⊢
      rw [List.length_cons] at hl ⊢
      obtain ⟨h1, h2⟩ := rowAt_one hb
      have hm := Nat.mod_lt v (show 0 < 128 by decide)
      rw [if_neg (by omega), if_neg (by omega), if_neg (by omega), h1]
      rw [pg_eg r (v / 128) (p + 1) _ (by omega) (Nat.div_lt_of_lt_mul (by rw [show 7 * (r + 1) + 4 = 7 + (7 * r + 4) by omega, Nat.pow_add] at hv; exact hv)) (by omega) h2]
      rw [show (v % 128 + 128) % 128 = v % 128 by omega]
      have e4 : 7 * (4 - r) = 7 + 7 * (4 - (r + 1)) := by omega
      rw [e4, Nat.pow_add]
      have hd : v = v % 128 + v / 128 * 128 := by omega
      congr 2
      · omega
      · generalize 2 ^ (7 * (4 - (r + 1))) = z at *
        have h5 : v * z = (v % 128 + v / 128 * 128) * z := by rw [← hd]
        rw [h5, Nat.add_mul, Nat.add_assoc]
        congr 1
        rw [Nat.mul_assoc (v / 128) 128 z]
theorem pg_egr {b : Nat → Nat} {e v p : Nat} (hv : v < 2 ^ 32) (hl : p + (egr v).length ≤ e) (hb : rowAt b p (egr v)) : pg b e 5 p 0 = (0, p + (egr v).length, v) := by
  have h1 := pg_eg (b := b) (e := e) 4 v p 0 (by omega) hv hl hb
  rw [h1, Nat.zero_add]
  show (0, p + (eg 4 v).length, v * 1) = _
  rw [Nat.mul_one]
  rfl
theorem rowAt_four {b : Nat → Nat} {p v : Nat} (hv : v < 2 ^ 32) (hb : rowAt b p (four v)) : v4 b p = v := by
  have h0 : b (p + 0) = v % 256 := hb 0 (by show 0 < 4; decide)
  have h1 : b (p + 1) = v / 256 % 256 := hb 1 (by show 1 < 4; decide)
  have h2 : b (p + 2) = v / 65536 % 256 := hb 2 (by show 2 < 4; decide)
  have h3 : b (p + 3) = v / 16777216 % 256 := hb 3 (by show 3 < 4; decide)
  unfold v4
  rw [Nat.add_zero] at h0
  rw [h0, h1, h2, h3]
  omega
theorem pf_ef {b : Nat → Nat} {e p : Nat} {x : af} (hx : okf x) (hl : p + (ef x).length ≤ e) (hb : rowAt b p (ef x)) : pf b e p = (0, p + (ef x).length, x.1, x.2.1, x.2.2.1) := by
  obtain ⟨t, y, v, X⟩ := x
  obtain ⟨h1, h2, h3, h4, h5, h6, h7⟩ := hx
  dsimp only at h1 h2 h3 h4 h5 h6 h7
  unfold ef enum at hl hb ⊢
  dsimp only at hl hb ⊢
  rw [List.length_append, List.length_append] at hl ⊢
  rw [List.append_assoc, rowAt_app] at hb
  obtain ⟨hk, hb⟩ := hb
  rw [rowAt_app] at hb
  obtain ⟨hv, hb⟩ := hb
  have e1 := pg_egr (b := b) (e := e) (p := p) (v := 8 * t + y) (by omega) (by omega) hk
  have d1 : (8 * t + y) / 8 = t := by omega
  have d2 : (8 * t + y) % 8 = y := by omega
  unfold pf
  rw [e1]
  dsimp only
  rw [d1, d2, if_neg (by decide), if_neg (by omega), if_neg (by omega)]
  by_cases hy : y = 5
  · subst hy
    rw [if_pos rfl] at hl hv hb ⊢
    rw [if_pos rfl]
    have hX : X = [] := h6 (by decide)
    subst hX
    have h4l : (four v).length = 4 := rfl
    rw [if_neg (by omega), rowAt_four h4 hv, h4l]
    rfl
  · rw [if_neg hy] at hl hv hb ⊢
    rw [if_neg hy]
    have e2 := pg_egr (b := b) (e := e) (p := p + (egr (8 * t + y)).length) (v := v) h4 (by omega) hv
    rw [e2]
    dsimp only
    rw [if_neg (by decide)]
    by_cases h2y : y = 2
    · subst h2y
      have hX : X.length = v := h5 rfl
      rw [if_pos rfl, if_neg (by omega), hX]
      congr 2
      omega
    · have hX : X = [] := h6 h2y
      have hy0 : y = 0 := by omega
      subst hX
      subst hy0
      rw [if_neg (by decide)]
      congr 2
      show _ = p + (_ + _ + 0)
      omega
theorem eg_lt : ∀ r v, v < 2 ^ (7 * r + 4) → ∀ z ∈ eg r v, z < 256
  | 0, v, hv, z, hz => by
    have hv : v < 16 := hv
    have hz : z ∈ [v] := hz
    rw [List.mem_singleton] at hz
    omega
  | r + 1, v, hv, z, hz => by
    unfold eg at hz
    by_cases e : v / 128 = 0
    · rw [if_pos e, List.mem_singleton] at hz
      omega
    · rw [if_neg e] at hz
      rcases List.mem_cons.mp hz with h | h
      · omega
      · exact eg_lt r (v / 128) (Nat.div_lt_of_lt_mul (by rw [show 7 * (r + 1) + 4 = 7 + (7 * r + 4) by omega, Nat.pow_add] at hv; exact hv)) z h
theorem ef_lt {x : af} (hx : okf x) : ∀ z ∈ ef x, z < 256 := by
  obtain ⟨t, y, v, X⟩ := x
  obtain ⟨h1, h2, h3, h4, h5, h6, h7⟩ := hx
  dsimp only at h1 h2 h3 h4 h5 h6 h7
  intro z hz
  unfold ef enum at hz
  dsimp only at hz
  rcases List.mem_append.mp hz with hz | hz
  · rcases List.mem_append.mp hz with hz | hz
    · exact eg_lt 4 (8 * t + y) (by omega) z hz
    · by_cases hy : y = 5
      · rw [if_pos hy] at hz
        unfold four at hz
        simp only [List.mem_cons, List.not_mem_nil, or_false] at hz
        omega
      · rw [if_neg hy] at hz
        exact eg_lt 4 v h4 z hz
  · exact h7 z hz
theorem ef_len2 (x : af) : 2 ≤ (ef x).length := by
  unfold ef enum
  rw [List.length_append, List.length_append]
  have h1 := eg_pos 4 (8 * x.1 + x.2.1)
  have h2 : 0 < (if x.2.1 = 5 then four x.2.2.1 else egr x.2.2.1).length := by
    by_cases hy : x.2.1 = 5
    · rw [if_pos hy]; exact Nat.succ_pos _
    · rw [if_neg hy]; exact eg_pos 4 x.2.2.1
  have h1 : 0 < (egr (8 * x.1 + x.2.1)).length := h1
  omega
theorem eL_cons (x : af) (L : List af) : eL (x :: L) = ef x ++ eL L := rfl
theorem eL_app (L L' : List af) : eL (L ++ L') = eL L ++ eL L' := List.flatMap_append
theorem eL_lt {L : List af} (hL : ∀ x ∈ L, okf x) : ∀ z ∈ eL L, z < 256 := by
  intro z hz
  obtain ⟨x, hx, hz⟩ := List.mem_flatMap.mp hz
  exact ef_lt (hL x hx) z hz
/-- the number that an int of a row is, as a byte -/
def bt (f : Nat → Int32) : Nat → Nat := fun j => (f j).toBitVec.toNat % 256
theorem bt_lt (f : Nat → Int32) (j : Nat) : bt f j < 256 := Nat.mod_lt _ (by decide)
theorem bt_nI {f : Nat → Int32} {j x : Nat} (h : f j = nI x) (hx : x < 256) : bt f j = x := by
  unfold bt
  rw [h, pk_tn (by omega), Nat.mod_eq_of_lt hx]
def byt (f : Nat → Int32) (n : Nat) : Prop := ∀ j, j < n → ∃ x, x < 256 ∧ f j = nI x
theorem byt_bt {f : Nat → Int32} {n : Nat} (h : byt f n) {j : Nat} (hj : j < n) : f j = nI (bt f j) := by
  obtain ⟨x, hx, e⟩ := h j hj
  rw [bt_nI e hx, e]
section R5
variable {M q n : Nat} {h : mw_H} {I : Nat → Int32} {A : Nat → Nat → Int32} {w : Nat}
def rowq (q n : Nat) : Prop := q = 7 ∧ n = 1440 ∨ q = 8 ∧ n = 120
theorem rowq_g (hq : rowq q n) : mw_g (gm M h I A) (M + q) = some (.inl (0, (n, .inl (A q)))) := by
  rcases hq with ⟨rfl, rfl⟩ | ⟨rfl, rfl⟩
  · exact gm_7
  · exact gm_8
theorem rowq_9 (hq : rowq q n) : q ≠ 9 := by rcases hq with ⟨rfl, rfl⟩ | ⟨rfl, rfl⟩ <;> decide
theorem rowq_n (hq : rowq q n) : n ≤ 1440 := by rcases hq with ⟨rfl, rfl⟩ | ⟨rfl, rfl⟩ <;> decide
theorem lp_wf (hq : rowq q n) (hA : byt (A q) n) {t y v p : Nat} {X : List Nat} (hy : y = 0 ∨ y = 2 ∨ y = 5) (hv : v < 2 ^ 32) (hX2 : y = 2 → X.length = v) (hXn : y ≠ 2 → X = []) (h13 : I 13 = nI t) (h14 : I 14 = nI y) (h15 : I 15 = nI v) (h16 : y = 2 → I 16 = nI p ∧ p + X.length ≤ n) (hw : w + ((enum t y v).length + X.length) ≤ 300) (hb : rowAt (bt (A q)) p X) :
    ∀ (m k : Nat), k + m = X.length → mw_W mm_X7_writesField 3 0 0 18 [some (.ref M), some (.ref (M + q)), some (.int (nI k))] [] (gW M h I A w (enum t y v ++ X.take k)) (mw_void (gW M h I A w (enum t y v ++ X))) := by
  have h9 := rowq_9 hq
  have hn := rowq_n hq
  intro m
  induction m with
  | zero =>
    intro k hk
    have hk : k = X.length := by omega
    rw [hk, List.take_length]
    unfold gW
    have g15 : (upd I 18 (nI (w + (enum t y v ++ X).length))) 15 = nI v := h15
    have g14 : (upd I 18 (nI (w + (enum t y v ++ X).length))) 14 = nI y := h14
    refine mw_iload_n (i := 2) dX7_writesField_18 rfl rfl ?_
    refine mw_aload_n (i := 0) dX7_writesField_19 rfl rfl ?_
    refine mw_get dX7_writesField_20 fk_X7_78 gm_0 rfl ?_
    rw [g15]
    refine mw_icmp_ge (tgt := 52) dX7_writesField_23 (by decide) (fun c_23 => ?_) (fun c_23 => ?_)
    · exact mw_return dX7_writesField_52 rfl ⟨rfl, rfl⟩
    · refine mw_aload_n (i := 0) dX7_writesField_26 rfl rfl ?_
      refine mw_get dX7_writesField_27 fk_X7_71 gm_0 rfl ?_
      refine mw_iconst (v := 2) dX7_writesField_30 (by decide) ?_
      rw [g14]
      refine mw_icmp_ne (tgt := 52) dX7_writesField_31 (by decide) (fun c_31 => ?_) (fun c_31 => ?_)
      · exact mw_return dX7_writesField_52 rfl ⟨rfl, rfl⟩
      · have hy2 : y = 2 := by
          have z : nI y = nI 2 := c_31
          rw [nI_eq (by omega) (by decide)] at z
          exact z
        rw [hX2 hy2] at c_23
        exact absurd (Int32.le_refl _) c_23
  | succ m ih =>
    intro k hk
    have hkX : k < X.length := by omega
    have hy2 : y = 2 := by
      rcases Decidable.em (y = 2) with z | z
      · exact z
      · rw [hXn z] at hkX; exact absurd hkX (Nat.not_lt_zero _)
    have hvX := hX2 hy2
    obtain ⟨h16, hpn⟩ := h16 hy2
    have hih := ih (k + 1) (by omega)
    have hlen : (enum t y v ++ X.take k).length = (enum t y v).length + k := by rw [List.length_append, List.length_take]; omega
    unfold gW at hih ⊢
    have g15 : (upd I 18 (nI (w + (enum t y v ++ X.take k).length))) 15 = nI v := h15
    have g14 : (upd I 18 (nI (w + (enum t y v ++ X.take k).length))) 14 = nI y := h14
    have g16 : (upd I 18 (nI (w + (enum t y v ++ X.take k).length))) 16 = nI p := h16
    have gq : (va_up A 9 (wr (A 9) w (enum t y v ++ X.take k))) q = A q := va_up_ne _ _ h9
    refine mw_iload_n (i := 2) dX7_writesField_18 rfl rfl ?_
    refine mw_aload_n (i := 0) dX7_writesField_19 rfl rfl ?_
    refine mw_get dX7_writesField_20 fk_X7_78 gm_0 rfl ?_
    rw [g15]
    refine mw_icmp_ge (tgt := 52) dX7_writesField_23 (by decide) (fun c_23 => ?_) (fun c_23 => ?_)
    · exact absurd c_23 (nI_ge (by omega) (by omega))
    · refine mw_aload_n (i := 0) dX7_writesField_26 rfl rfl ?_
      refine mw_get dX7_writesField_27 fk_X7_71 gm_0 rfl ?_
      refine mw_iconst (v := 2) dX7_writesField_30 (by decide) ?_
      rw [g14]
      refine mw_icmp_ne (tgt := 52) dX7_writesField_31 (by decide) (fun c_31 => ?_) (fun c_31 => ?_)
      · exact absurd (by rw [hy2]; rfl) c_31
      · have hix : (upd I 18 (nI (w + (enum t y v ++ X.take k).length))) 16 + nI k = nI (p + k) := by rw [g16]; exact nI_add _ _
        have hrow : mw_g (gm M h (upd I 18 (nI (w + (enum t y v ++ X.take k).length))) (va_up A 9 (wr (A 9) w (enum t y v ++ X.take k)))) (M + q) = some (.inl (0, (n, .inl (A q)))) := by rw [rowq_g hq, gq]
        refine mw_aload_n (i := 0) dX7_writesField_34 rfl rfl ?_
        refine mw_aload_n (i := 1) dX7_writesField_35 rfl rfl ?_
        refine mw_aload_n (i := 0) dX7_writesField_36 rfl rfl ?_
        refine mw_get dX7_writesField_37 fk_X7_81 gm_0 rfl ?_
        refine mw_iload_n (i := 2) dX7_writesField_40 rfl rfl ?_
        refine mw_iadd dX7_writesField_41 ?_
        refine mw_iald dX7_writesField_42 hrow (mw_ix hix (show p + k < n by omega) (by omega)) ?_
        have hbk : A q (p + k) = nI (X.getD k 0) := by rw [byt_bt hA (by omega), hb k hkX]
        refine mw_top hbk ?_
        refine mw_callVv dX7_writesField_43 mk_X7_87 gm_0 rfl (c_writes (w := w + (enum t y v ++ X.take k).length) (X.getD k 0) pk_us (by omega)) (by decide) (Nat.le_refl _) (Nat.le_refl _) rfl rfl (Nat.le_of_ble_eq_true rfl) ?_
        rw [gW_app, List.append_assoc]
        have htk : X.take k ++ [X.getD k 0] = X.take (k + 1) := by
          rw [List.take_succ, List.getD_eq_getElem?_getD, List.getElem?_eq_getElem hkX]
          rfl
        rw [htk]
        unfold gW
        refine mw_iinc_2 dX7_writesField_46 (by decide) rfl ?_
        refine mw_goto (tgt := 18) dX7_writesField_49 (by decide) ?_
        rw [show nI k + Int32.ofInt 1 = nI (k + 1) from nI_1 k]
        exact hih
theorem c_writesField (hq : rowq q n) (hA : byt (A q) n) {x : af} (hx : okf x) {p : Nat} (h13 : I 13 = nI x.1) (h14 : I 14 = nI x.2.1) (h15 : I 15 = nI x.2.2.1) (h16 : x.2.1 = 2 → I 16 = nI p ∧ p + x.2.2.2.length ≤ n) (h18 : I 18 = nI w) (hw : w + (ef x).length ≤ 300) (hb : rowAt (bt (A q)) p x.2.2.2) :
    mw_Con mm_X7_writesField 3 0 0 [.ref M, .ref (M + q)] (gm M h I A) (mw_void (gW M h I A w (ef x))) := by
  obtain ⟨t, y, v, X⟩ := x
  obtain ⟨h1, h2, h3, h4, h5, h6, h7⟩ := hx
  dsimp only at h1 h2 h3 h4 h5 h6 h7 h13 h14 h15 h16 hb
  unfold ef at hw ⊢
  dsimp only at hw ⊢
  rw [List.length_append] at hw
  refine gm_con pl_X7 rfl rfl (Nat.le_of_ble_eq_true rfl) rfl ?_
  refine mw_aload_n (i := 0) dX7_writesField_0 rfl rfl ?_
  refine mw_aload_n (i := 0) dX7_writesField_1 rfl rfl ?_
  refine mw_get dX7_writesField_2 fk_X7_68 gm_0 rfl ?_
  refine mw_aload_n (i := 0) dX7_writesField_5 rfl rfl ?_
  refine mw_get dX7_writesField_6 fk_X7_71 gm_0 rfl ?_
  refine mw_aload_n (i := 0) dX7_writesField_9 rfl rfl ?_
  refine mw_get dX7_writesField_10 fk_X7_78 gm_0 rfl ?_
  rw [h13, h14, h15]
  refine mw_callVv dX7_writesField_13 mk_X7_94 gm_0 rfl (c_writesNumber (tag := t) (type := y) (v := v) (by omega) h4 h18 (by omega)) (by decide) (Nat.le_refl _) (Nat.le_refl _) rfl rfl (Nat.le_of_ble_eq_true rfl) ?_
  unfold gW
  refine mw_iconst (v := 0) dX7_writesField_16 (by decide) ?_
  refine mw_istore_2 dX7_writesField_17 (by decide) ?_
  have h9 := lp_wf (M := M) (h := h) (I := I) (w := w) hq hA h3 h4 h5 h6 h13 h14 h15 h16 hw hb X.length 0 (by omega)
  rw [List.take_zero, List.append_nil] at h9
  exact h9
end R5
