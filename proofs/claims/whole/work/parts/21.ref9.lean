/-! a whole row of bytes, read -/
theorem eg_short : ∀ (r j v : Nat), v < 2 ^ (7 * (j + 1)) → (eg r v).length ≤ j + 1
  | 0, j, v, _ => Nat.succ_le_succ (Nat.zero_le _)
  | r + 1, j, v, h => by
    unfold eg
    by_cases e : v / 128 = 0
    · rw [if_pos e]; exact Nat.succ_le_succ (Nat.zero_le _)
    · rw [if_neg e, List.length_cons]
      cases j with
      | zero => exact absurd (Nat.div_eq_of_lt (by simpa using h)) e
      | succ j =>
        have := eg_short r j (v / 128) (Nat.div_lt_of_lt_mul (by rw [show 7 * (j + 1 + 1) = 7 + 7 * (j + 1) by omega, Nat.pow_add] at h; exact h))
        omega
theorem pg_use (b : Nat → Nat) (e : Nat) : ∀ r p v, r ≤ 4 → p ≤ e → v < 2 ^ (7 * (4 - r)) → (pg b e (r + 1) p v).1 = 0 → p < (pg b e (r + 1) p v).2.1 ∧ (pg b e (r + 1) p v).2.2 < 2 ^ (7 * (4 - r + ((pg b e (r + 1) p v).2.1 - p))) := by
  intro r
  induction r with
  | zero =>
    intro p v hr hp hv h0
    unfold pg at h0 ⊢
    by_cases h1 : p = e
    · rw [if_pos h1] at h0; exact absurd h0 Nat.one_ne_zero
    · rw [if_neg h1] at h0 ⊢
      by_cases h2 : 0 = 0 ∧ 15 < b p
      · rw [if_pos h2] at h0; exact absurd (show (2 : Nat) = 0 from h0) (by decide)
      · rw [if_neg h2] at h0 ⊢
        have h3 : b p < 128 := by omega
        rw [if_pos h3]
        refine ⟨Nat.lt_succ_self _, ?_⟩
        show v + b p % 128 * 2 ^ (7 * (4 - 0)) < 2 ^ (7 * (4 - 0 + (p + 1 - p)))
        rw [show p + 1 - p = 1 by omega, Nat.mod_eq_of_lt h3]
        have hb : b p ≤ 15 := by omega
        have hv : v < 268435456 := hv
        show v + b p * 268435456 < 34359738368
        omega
  | succ r ih =>
    intro p v hr hp hv h0
    unfold pg at h0 ⊢
    by_cases h1 : p = e
    · rw [if_pos h1] at h0; exact absurd h0 Nat.one_ne_zero
    · rw [if_neg h1] at h0 ⊢
      rw [if_neg (by omega)] at h0 ⊢
      have hm := Nat.mod_lt (b p) (show 0 < 128 by decide)
      have hv2 : v + b p % 128 * 2 ^ (7 * (4 - (r + 1))) < 2 ^ (7 * (4 - (r + 1) + 1)) := by
        rw [show 7 * (4 - (r + 1) + 1) = 7 * (4 - (r + 1)) + 7 by omega, Nat.pow_add]
        have h3 : b p % 128 * 2 ^ (7 * (4 - (r + 1))) ≤ 127 * 2 ^ (7 * (4 - (r + 1))) := Nat.mul_le_mul_right _ (by omega)
        omega
      by_cases h3 : b p < 128
      · rw [if_pos h3]
        refine ⟨Nat.lt_succ_self _, ?_⟩
        rw [show (0, p + 1, v + b p % 128 * 2 ^ (7 * (4 - (r + 1)))).2.1 - p = 1 from Nat.add_sub_cancel_left p 1]
        exact hv2
      · rw [if_neg h3] at h0 ⊢
        have e4 : 4 - (r + 1) + 1 = 4 - r := by omega
        rw [e4] at hv2
        obtain ⟨i1, i2⟩ := ih (p + 1) _ (by omega) (by omega) hv2 h0
        refine ⟨by omega, ?_⟩
        rw [show 4 - (r + 1) + ((pg b e (r + 1) (p + 1) (v + b p % 128 * 2 ^ (7 * (4 - (r + 1))))).2.1 - p) = 4 - r + ((pg b e (r + 1) (p + 1) (v + b p % 128 * 2 ^ (7 * (4 - (r + 1))))).2.1 - (p + 1)) by omega]
        exact i2
theorem pg_len {b : Nat → Nat} {e p : Nat} (hp : p ≤ e) (h0 : (pg b e 5 p 0).1 = 0) : p + (egr (pg b e 5 p 0).2.2).length ≤ (pg b e 5 p 0).2.1 ∧ p < (pg b e 5 p 0).2.1 := by
  obtain ⟨h1, h2⟩ := pg_use b e 4 p 0 (by omega) hp (by decide) h0
  have h1 : p < (pg b e 5 p 0).2.1 := h1
  refine ⟨?_, h1⟩
  obtain ⟨j, hj⟩ : ∃ j, (pg b e 5 p 0).2.1 = p + (j + 1) := ⟨(pg b e 5 p 0).2.1 - p - 1, by omega⟩
  have hj' : (pg b e (4 + 1) p 0).2.1 = p + (j + 1) := hj
  rw [hj'] at h2
  have h3 := eg_short 4 j (pg b e 5 p 0).2.2 (by rw [show 4 - 4 + (p + (j + 1) - p) = j + 1 by omega] at h2; exact h2)
  rw [hj]
  show p + (eg 4 _).length ≤ _
  omega
/-- n bytes from p on -/
def bys (b : Nat → Nat) (p n : Nat) : List Nat := (List.range n).map (fun j => b (p + j))
theorem bys_len (b : Nat → Nat) (p n : Nat) : (bys b p n).length = n := by unfold bys; rw [List.length_map, List.length_range]
theorem bys_row (b : Nat → Nat) (p n : Nat) : rowAt b p (bys b p n) := by
  intro j hj
  rw [bys_len] at hj
  unfold bys
  rw [List.getD_eq_getElem?_getD, List.getElem?_map, List.getElem?_range hj]
  rfl
theorem bys_lt {b : Nat → Nat} (hb : ∀ j, b j < 256) (p n : Nat) : ∀ z ∈ bys b p n, z < 256 := by
  intro z hz
  obtain ⟨j, -, rfl⟩ := List.mem_map.mp hz
  exact hb _
/-- the field that was read -/
def mkf (b : Nat → Nat) (r : Nat × Nat × Nat × Nat × Nat) : af := (r.2.2.1, r.2.2.2.1, r.2.2.2.2, if r.2.2.2.1 = 2 then bys b (r.2.1 - r.2.2.2.2) r.2.2.2.2 else [])
theorem v4_lt {b : Nat → Nat} (hb : ∀ j, b j < 256) (p : Nat) : v4 b p < 2 ^ 32 := by
  unfold v4
  have h0 := hb p
  have h1 := hb (p + 1)
  have h2 := hb (p + 2)
  have h3 := hb (p + 3)
  omega
theorem pf_ok {b : Nat → Nat} {e p : Nat} (hb : ∀ j, b j < 256) (hp : p ≤ e) (h0 : (pf b e p).1 = 0) : okf (mkf b (pf b e p)) ∧ p + (ef (mkf b (pf b e p))).length ≤ (pf b e p).2.1 ∧ p + 2 ≤ (pf b e p).2.1 ∧ (pf b e p).2.1 ≤ e ∧ ((pf b e p).2.2.2.1 = 2 → (pf b e p).2.2.2.2 ≤ (pf b e p).2.1) := by
  have hq1 := pg_le b e 5 p 0 hp
  have hK := pg_lt b e hb 5 p 0 (by omega) (by decide) (fun _ => by decide)
  have hl1 := fun z => pg_len (b := b) hp z
  unfold pf at h0 ⊢
  generalize hg : pg b e 5 p 0 = g at *
  obtain ⟨f1, q1, K⟩ := g
  dsimp only at hq1 hK hl1 h0 ⊢
  by_cases c1 : f1 ≠ 0
  · rw [if_pos c1] at h0; exact absurd h0 c1
  rw [if_neg c1] at h0 ⊢
  obtain ⟨l1, l2⟩ := hl1 (by omega)
  by_cases c2 : ¬ (1 ≤ K / 8 ∧ K / 8 ≤ 31)
  · rw [if_pos c2] at h0; exact absurd h0 (by decide)
  rw [if_neg c2] at h0 ⊢
  by_cases c3 : ¬ (K % 8 = 0 ∨ K % 8 = 2 ∨ K % 8 = 5)
  · rw [if_pos c3] at h0; exact absurd h0 (by decide)
  rw [if_neg c3] at h0 ⊢
  have hkey : 8 * (K / 8) + K % 8 = K := Nat.div_add_mod K 8
  have c2 : 1 ≤ K / 8 ∧ K / 8 ≤ 31 := Decidable.not_not.mp c2
  by_cases c4 : K % 8 = 5
  · rw [if_pos c4] at h0 ⊢
    by_cases c5 : e < q1 + 4
    · rw [if_pos c5] at h0; exact absurd h0 (by decide)
    rw [if_neg c5]
    have hl : (ef (mkf b (0, q1 + 4, K / 8, 5, v4 b q1))).length = (egr K).length + 4 := by
      show (enum (K / 8) 5 (v4 b q1) ++ []).length = _
      rw [List.append_nil]
      unfold enum
      rw [if_pos rfl, List.length_append, show 8 * (K / 8) + 5 = K by omega]
      rfl
    refine ⟨⟨c2.1, c2.2, Or.inr (Or.inr rfl), v4_lt hb q1, fun z => absurd (show (5 : Nat) = 2 from z) (by decide), fun _ => rfl, fun z hz => by cases hz⟩, ?_, ?_, ?_, fun z => absurd (show (5 : Nat) = 2 from z) (by decide)⟩
    · rw [hl]; show p + ((egr K).length + 4) ≤ q1 + 4; omega
    · show p + 2 ≤ q1 + 4; omega
    · show q1 + 4 ≤ e; omega
  rw [if_neg c4] at h0 ⊢
  have hq2 := pg_le b e 5 q1 0 hq1.2
  have hV := pg_lt b e hb 5 q1 0 (by omega) (by decide) (fun _ => by decide)
  have hl2 := fun z => pg_len (b := b) hq1.2 z
  generalize pg b e 5 q1 0 = g2 at *
  obtain ⟨f2, q2, v⟩ := g2
  dsimp only at hq2 hV hl2 h0 ⊢
  by_cases c5 : f2 ≠ 0
  · rw [if_pos c5] at h0; exact absurd h0 c5
  rw [if_neg c5] at h0 ⊢
  obtain ⟨l3, l4⟩ := hl2 (by omega)
  by_cases c6 : K % 8 = 2
  · rw [if_pos c6] at h0 ⊢
    by_cases c7 : e < q2 + v
    · rw [if_pos c7] at h0; exact absurd h0 (by decide)
    rw [if_neg c7]
    have hm : mkf b (0, q2 + v, K / 8, 2, v) = (K / 8, 2, v, bys b (q2 + v - v) v) := rfl
    rw [hm]
    have hl : (ef (K / 8, 2, v, bys b (q2 + v - v) v)).length = (egr K).length + (egr v).length + v := by
      show (enum (K / 8) 2 v ++ bys b (q2 + v - v) v).length = _
      unfold enum
      rw [if_neg (by decide), List.length_append, List.length_append, bys_len, show 8 * (K / 8) + 2 = K by omega]
    refine ⟨⟨c2.1, c2.2, Or.inr (Or.inl rfl), hV, fun _ => bys_len _ _ _, fun z => absurd rfl z, bys_lt hb _ _⟩, ?_, ?_, ?_, fun _ => ?_⟩
    · rw [hl]; show p + ((egr K).length + (egr v).length + v) ≤ q2 + v; omega
    · show p + 2 ≤ q2 + v; omega
    · show q2 + v ≤ e; omega
    · show v ≤ q2 + v; omega
  · rw [if_neg c6]
    have c8 : K % 8 = 0 := by omega
    have hm : mkf b (0, q2, K / 8, 0, v) = (K / 8, 0, v, []) := rfl
    rw [hm]
    have hl : (ef (K / 8, 0, v, [])).length = (egr K).length + (egr v).length := by
      show (enum (K / 8) 0 v ++ []).length = _
      unfold enum
      rw [if_neg (by decide), List.append_nil, List.length_append, show 8 * (K / 8) + 0 = K by omega]
    refine ⟨⟨c2.1, c2.2, Or.inl rfl, hV, fun z => absurd (show (0 : Nat) = 2 from z) (by decide), fun _ => rfl, fun z hz => by cases hz⟩, ?_, ?_, ?_, fun z => absurd (show (0 : Nat) = 2 from z) (by decide)⟩
    · rw [hl]; show p + ((egr K).length + (egr v).length) ≤ q2; omega
    · show p + 2 ≤ q2; omega
    · exact hq2.2
/-- the fields from p up to e, the fault (0 if there is none), its place -/
def prs (b : Nat → Nat) (e : Nat) : Nat → Nat → List af × Nat × Nat
  | 0, _ => ([], 0, 0)
  | n + 1, p => if e ≤ p then ([], 0, 0) else if (pf b e p).1 = 0 then (mkf b (pf b e p) :: (prs b e n (pf b e p).2.1).1, (prs b e n (pf b e p).2.1).2) else ([], (pf b e p).1, p)
theorem prs_ok {b : Nat → Nat} {e : Nat} (hb : ∀ j, b j < 256) : ∀ (n p : Nat), p ≤ e → (∀ x ∈ (prs b e n p).1, okf x) ∧ p + (eL (prs b e n p).1).length ≤ e
  | 0, p, hp => ⟨fun x hx => absurd hx List.not_mem_nil, hp⟩
  | n + 1, p, hp => by
    unfold prs
    by_cases h1 : e ≤ p
    · rw [if_pos h1]; exact ⟨fun x hx => absurd hx List.not_mem_nil, hp⟩
    · rw [if_neg h1]
      by_cases h2 : (pf b e p).1 = 0
      · rw [if_pos h2]
        obtain ⟨o1, o2, o3, o4, -⟩ := pf_ok hb hp h2
        obtain ⟨i1, i2⟩ := prs_ok hb n (pf b e p).2.1 o4
        refine ⟨fun x hx => ?_, ?_⟩
        · rcases List.mem_cons.mp hx with rfl | hx
          · exact o1
          · exact i1 x hx
        · rw [eL_cons, List.length_append]; omega
      · rw [if_neg h2]; exact ⟨fun x hx => absurd hx List.not_mem_nil, hp⟩
/-- what was written is read again -/
theorem prs_eL {b : Nat → Nat} {e : Nat} : ∀ (L : List af) (n p : Nat), (∀ x ∈ L, okf x) → L.length ≤ n → p + (eL L).length = e → rowAt b p (eL L) → prs b e n p = (L, 0, 0)
  | [], 0, p, _, _, _, _ => rfl
  | [], n + 1, p, _, _, he, _ => by
    have he : p + 0 = e := he
    unfold prs
    rw [if_pos (by omega)]
  | x :: L, 0, p, _, hn, _, _ => absurd hn (Nat.not_succ_le_zero _)
  | x :: L, n + 1, p, hok, hn, he, hrow => by
    rw [eL_cons, List.length_append] at he
    rw [eL_cons, rowAt_app] at hrow
    have hx := hok x List.mem_cons_self
    have hl2 := ef_len2 x
    have hpf := pf_ef hx (e := e) (by omega) hrow.1
    have ih := prs_eL (b := b) (e := e) L n (p + (ef x).length) (fun z hz => hok z (List.mem_cons_of_mem _ hz)) (Nat.le_of_succ_le_succ hn) (by omega) hrow.2
    unfold prs
    rw [if_neg (by omega), hpf]
    dsimp only
    rw [if_pos rfl, ih]
    have hm : mkf b (0, p + (ef x).length, x.1, x.2.1, x.2.2.1) = x := by
      obtain ⟨t, y, v, X⟩ := x
      obtain ⟨h1, h2, h3, h4, h5, h6, h7⟩ := hx
      dsimp only at h1 h2 h3 h4 h5 h6 h7
      show (t, y, v, if y = 2 then bys b (p + (ef (t, y, v, X)).length - v) v else []) = _
      by_cases hy : y = 2
      · rw [if_pos hy]
        have hr := rowAt_bytes hrow.1
        have hr : rowAt b (p + (ef (t, y, v, X)).length - X.length) X := hr
        have h5 := h5 hy
        rw [h5] at hr
        congr 3
        refine eq_getD (by rw [bys_len, h5]) (fun k hk => ?_)
        rw [bys_len] at hk
        rw [← hr k (by omega), bys_row b _ v k (by rw [bys_len]; exact hk)]
      · rw [if_neg hy, h6 hy]
    rw [hm]
section R9
variable {M m s : Nat} {h : mw_H} {I : Nat → Int32} {A : Nat → Nat → Int32} {X Y : List Nat}
/-- a field, read by whatever is there -/
theorem c_fieldy {q n : Nat} (hq : rowq q n) (hA : byt (A q) n) {e p : Nat} (hp : p ≤ e) (he : e ≤ n) (hI : I 11 = nI p) :
    mw_Con mm_X7_field 2 0 0 [.ref M, .ref (M + q), .int (nI e)] (gm M h I A) (fun v h' => v = .inl none ∧ ∃ I' : Nat → Int32, h' = gm M h I' A ∧ zScr I I' ∧ I' 12 = nI (pf (bt (A q)) e p).1 ∧ I' 17 = nI p ∧ ((pf (bt (A q)) e p).1 = 0 → I' 11 = nI (pf (bt (A q)) e p).2.1 ∧ I' 13 = nI (mkf (bt (A q)) (pf (bt (A q)) e p)).1 ∧ I' 14 = nI (mkf (bt (A q)) (pf (bt (A q)) e p)).2.1 ∧ I' 15 = nI (mkf (bt (A q)) (pf (bt (A q)) e p)).2.2.1 ∧ ((mkf (bt (A q)) (pf (bt (A q)) e p)).2.1 = 2 → I' 16 = nI ((pf (bt (A q)) e p).2.1 - (pf (bt (A q)) e p).2.2.2.2)))) :=
  c_field (M := M) (q := q) (n := n) (h := h) (A := A) (f := A q) (b := bt (A q)) (e := e) (fun I => rowq_g hq) (fun j hj => byt_bt hA hj) (bt_lt (A q)) (by have := rowq_n hq; omega) he hp hI
/-- .. and written -/
theorem c_wfy {q n : Nat} (hq : rowq q n) {g : Nat → Int32} {w : Nat} (hA : byt (A q) n) {e p : Nat} (hp : p ≤ e) (he : e ≤ n) (h0 : (pf (bt (A q)) e p).1 = 0) (h13 : I 13 = nI (mkf (bt (A q)) (pf (bt (A q)) e p)).1) (h14 : I 14 = nI (mkf (bt (A q)) (pf (bt (A q)) e p)).2.1) (h15 : I 15 = nI (mkf (bt (A q)) (pf (bt (A q)) e p)).2.2.1) (h16 : (mkf (bt (A q)) (pf (bt (A q)) e p)).2.1 = 2 → I 16 = nI ((pf (bt (A q)) e p).2.1 - (pf (bt (A q)) e p).2.2.2.2)) (h18 : I 18 = nI w) (hw : w + (ef (mkf (bt (A q)) (pf (bt (A q)) e p))).length ≤ 300) :
    mw_Con mm_X7_writesField 3 0 0 [.ref M, .ref (M + q)] (gm M h I (va_up A 9 g)) (mw_void (gm M h (upd I 18 (nI (w + (ef (mkf (bt (A q)) (pf (bt (A q)) e p))).length))) (va_up A 9 (wr g w (ef (mkf (bt (A q)) (pf (bt (A q)) e p))))))) := by
  have hA0 : (va_up A 9 g) q = A q := va_up_ne _ _ (rowq_9 hq)
  obtain ⟨o1, o2, o3, o4, o5⟩ := pf_ok (bt_lt (A q)) hp h0
  have hc := c_writesField (M := M) (h := h) (I := I) (A := va_up A 9 g) (w := w) hq (by rw [hA0]; exact hA) o1 (p := (pf (bt (A q)) e p).2.1 - (pf (bt (A q)) e p).2.2.2.2) h13 h14 h15 (fun z => ⟨h16 z, by
    have z : (pf (bt (A q)) e p).2.2.2.1 = 2 := z
    have hl := o1.2.2.2.2.1 z
    have hl : (mkf (bt (A q)) (pf (bt (A q)) e p)).2.2.2.length = (pf (bt (A q)) e p).2.2.2.2 := hl
    have := o5 z
    omega⟩) h18 hw (by
      rw [hA0]
      show rowAt _ _ (if (pf (bt (A q)) e p).2.2.2.1 = 2 then _ else [])
      by_cases z : (pf (bt (A q)) e p).2.2.2.1 = 2
      · rw [if_pos z]; exact bys_row _ _ _
      · rw [if_neg z]; exact fun j hj => absurd hj (Nat.not_lt_zero _))
  rw [gW_up] at hc
  exact hc
/-- what a reading of a whole range leaves -/
def zRds (M : Nat) (h : mw_H) (A : Nat → Nat → Int32) (I : Nat → Int32) (w : Nat) (g : Nat → Int32) (r : List af × Nat × Nat) : mw_P := fun v h' => v = .inl (some (.int (nI r.2.1))) ∧ ∃ I' : Nat → Int32, h' = gm M h I' (va_up A 9 (wr g w (eL r.1))) ∧ zScw I I' ∧ I' 18 = nI (w + (eL r.1).length) ∧ (r.2.1 ≠ 0 → I' 17 = nI r.2.2)
theorem pf_f (b : Nat → Nat) (e p : Nat) : (pf b e p).1 ≤ 4 := by
  have h1 := pg_f b e 5 p 0
  have h2 := pg_f b e 5 (pg b e 5 p 0).2.1 0
  unfold pf
  repeat' split
  all_goals (try dsimp only)
  all_goals omega
theorem lp_rds {q n : Nat} (hq : rowq q n) (hA : byt (A q) n) {e : Nat} (he : e ≤ n) : ∀ (N p w : Nat) (I g : Nat → Int32) (x2 : Option Value), p ≤ e → e ≤ p + 2 * N → I 11 = nI p → I 18 = nI w → w + (e - p) ≤ 300 →
    mw_W mm_X7_reads 4 0 0 10 [some (.ref M), some (.ref (M + q)), x2, some (.int (nI e))] [] (gm M h I (va_up A 9 g)) (zRds M h A I w g (prs (bt (A q)) e N p)) := by
  have hn := rowq_n hq
  intro N
  induction N with
  | zero =>
    intro p w I g x2 hp hN hI h18 hw
    have hpe : p = e := by omega
    refine mw_aload_n (i := 0) dX7_reads_10 rfl rfl ?_
    refine mw_get dX7_reads_11 fk_X7_55 gm_0 rfl ?_
    refine mw_iload_n (i := 3) dX7_reads_14 rfl rfl ?_
    refine mw_icmp_ge (tgt := 44) dX7_reads_15 (by decide) (fun c_15 => ?_) (fun c_15 => ?_)
    · refine mw_iconst (v := 0) dX7_reads_44 (by decide) ?_
      exact mw_ireturn dX7_reads_45 ⟨_, rfl, rfl⟩ ⟨rfl, I, by rw [show (prs (bt (A q)) e 0 p).1 = [] from rfl, show eL [] = [] from rfl, wr_nil], zScw.rf, h18, fun z => absurd rfl z⟩
    · exact absurd (by rw [hI]; exact nI_le (by omega) (by omega)) c_15
  | succ N ih =>
    intro p w I g x2 hp hN hI h18 hw
    have hunf : prs (bt (A q)) e (N + 1) p = if e ≤ p then ([], 0, 0) else if (pf (bt (A q)) e p).1 = 0 then (mkf (bt (A q)) (pf (bt (A q)) e p) :: (prs (bt (A q)) e N (pf (bt (A q)) e p).2.1).1, (prs (bt (A q)) e N (pf (bt (A q)) e p).2.1).2) else ([], (pf (bt (A q)) e p).1, p) := rfl
    refine mw_aload_n (i := 0) dX7_reads_10 rfl rfl ?_
    refine mw_get dX7_reads_11 fk_X7_55 gm_0 rfl ?_
    refine mw_iload_n (i := 3) dX7_reads_14 rfl rfl ?_
    refine mw_icmp_ge (tgt := 44) dX7_reads_15 (by decide) (fun c_15 => ?_) (fun c_15 => ?_)
    · have hpe : e ≤ p := by rw [hI, nI_leI (by omega) (by omega)] at c_15; exact c_15
      rw [hunf, if_pos hpe]
      refine mw_iconst (v := 0) dX7_reads_44 (by decide) ?_
      exact mw_ireturn dX7_reads_45 ⟨_, rfl, rfl⟩ ⟨rfl, I, by rw [show eL [] = [] from rfl, wr_nil], zScw.rf, h18, fun z => absurd rfl z⟩
    · have hpe : ¬ e ≤ p := fun z => c_15 (by rw [hI]; exact nI_le z (by omega))
      rw [hunf, if_neg hpe]
      have hA' : byt ((va_up A 9 g) q) n := by rw [va_up_ne _ _ (rowq_9 hq)]; exact hA
      have e9 : (va_up A 9 g) q = A q := va_up_ne _ _ (rowq_9 hq)
      have hf4 := pf_f (bt (A q)) e p
      have hc := c_fieldy (M := M) (h := h) (I := I) (A := va_up A 9 g) hq hA' hp he hI
      rw [e9] at hc
      refine mw_aload_n (i := 0) dX7_reads_18 rfl rfl ?_
      refine mw_aload_n (i := 1) dX7_reads_19 rfl rfl ?_
      refine mw_iload_n (i := 3) dX7_reads_20 rfl rfl ?_
      refine mw_callV dX7_reads_21 mk_X7_106 gm_0 rfl (hc) (by decide) (Nat.le_refl _) (Nat.le_refl _) rfl rfl (Nat.le_of_ble_eq_true rfl) (fun E9 h9 q9 => ?_) (fun v9 h9 q9 => ?_)
      · cases q9.1
      · obtain ⟨e9, I1, rfl, hS, r12, r17, hR⟩ := q9
        cases e9
        have k18 : I1 18 = nI w := (hS.k (by decide)).trans h18
        by_cases h0 : (pf (bt (A q)) e p).1 = 0
        · rw [if_pos h0]
          obtain ⟨r11, r13, r14, r15, r16⟩ := hR h0
          obtain ⟨o1, o2, o3, o4, o5⟩ := pf_ok (bt_lt (A q)) hp h0
          refine mw_aload_n (i := 0) dX7_reads_24 rfl rfl ?_
          refine mw_get dX7_reads_25 fk_X7_58 gm_0 rfl ?_
          rw [r12, h0]
          refine mw_if_le (tgt := 36) dX7_reads_28 (by decide) (fun c_28 => ?_) (fun c_28 => ?_)
          · refine mw_aload_n (i := 0) dX7_reads_36 rfl rfl ?_
            refine mw_aload_n (i := 1) dX7_reads_37 rfl rfl ?_
            refine mw_callVv dX7_reads_38 mk_X7_116 gm_0 rfl (c_wfy hq hA hp he h0 r13 r14 r15 r16 k18 (by omega)) (by decide) (Nat.le_refl _) (Nat.le_refl _) rfl rfl (Nat.le_of_ble_eq_true rfl) ?_
            refine mw_goto (tgt := 10) dX7_reads_41 (by decide) ?_
            refine mw_post (fun v h' z => ?_) (ih (pf (bt (A q)) e p).2.1 (w + (ef (mkf (bt (A q)) (pf (bt (A q)) e p))).length) (upd I1 18 (nI (w + (ef (mkf (bt (A q)) (pf (bt (A q)) e p))).length))) (wr g w (ef (mkf (bt (A q)) (pf (bt (A q)) e p)))) x2 o4 (by omega) ((pk_un (by decide)).trans r11) pk_us (by omega))
            obtain ⟨z1, I', z2, z3, z4, z5⟩ := z
            refine ⟨z1, I', ?_, (hS.w.up (by decide) _).tr z3, ?_, z5⟩
            · rw [z2, wr_app]; rfl
            · rw [z4, eL_cons, List.length_append, Nat.add_assoc]
          · exact absurd (Int32.le_refl _) c_28
        · rw [if_neg h0]
          refine mw_aload_n (i := 0) dX7_reads_24 rfl rfl ?_
          refine mw_get dX7_reads_25 fk_X7_58 gm_0 rfl ?_
          rw [r12]
          refine mw_if_le (tgt := 36) dX7_reads_28 (by decide) (fun c_28 => ?_) (fun c_28 => ?_)
          · have z : nI (pf (bt (A q)) e p).1 ≤ nI 0 := c_28
            rw [nI_leI (by omega) (by omega)] at z
            omega
          · refine mw_aload_n (i := 0) dX7_reads_31 rfl rfl ?_
            refine mw_get dX7_reads_32 fk_X7_58 gm_0 rfl ?_
            rw [r12]
            exact mw_ireturn dX7_reads_35 ⟨_, rfl, rfl⟩ ⟨rfl, I1, by rw [show eL [] = [] from rfl, wr_nil], hS.w, k18, fun _ => r17⟩
theorem c_reads {q n : Nat} (hq : rowq q n) (hA : byt (A q) n) {e p : Nat} (hp : p ≤ e) (he : e ≤ n) {N : Nat} (hN : e ≤ p + 2 * N) (hw : e - p ≤ 300) :
    mw_Con mm_X7_reads 4 0 0 [.ref M, .ref (M + q), .int (nI p), .int (nI e)] (gm M h I A) (zRds M h A I 0 (A 9) (prs (bt (A q)) e N p)) := by
  refine gm_con pl_X7 rfl rfl (Nat.le_of_ble_eq_true rfl) rfl ?_
  refine mw_aload_n (i := 0) dX7_reads_0 rfl rfl ?_
  refine mw_iconst (v := 0) dX7_reads_1 (by decide) ?_
  refine gm_put dX7_reads_2 fk_X7_84 (by decide) (gm_h18 _) ?_
  refine mw_aload_n (i := 0) dX7_reads_5 rfl rfl ?_
  refine mw_iload_n (i := 2) dX7_reads_6 rfl rfl ?_
  refine gm_put dX7_reads_7 fk_X7_55 (by decide) (gm_h11 _) ?_
  have h9 := lp_rds (M := M) (h := h) hq hA he N p 0 (upd (upd I 18 0) 11 (nI p)) (A 9) (some (.int (nI p))) hp hN rfl rfl (by omega)
  rw [up_same] at h9
  refine mw_post (fun v h' z => ?_) h9
  obtain ⟨z1, I', z2, z3, z4⟩ := z
  exact ⟨z1, I', z2, ((zScw.rf.up (by decide) _).up (by decide) _).tr z3, z4⟩
end R9
