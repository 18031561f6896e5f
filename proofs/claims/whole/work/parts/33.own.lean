/-! canonical bytes: seen in one pass -/
def b1 (c : Bool) : Nat := if c then 1 else 0
/-- tags don't fall, one known field for a tag at most, none with the default -/
def srt (K : Nat → Nat → Int32) (s : Nat) : Nat → Nat → List af → Prop
  | _, _, [] => True
  | bf, kn, x :: L => bf ≤ x.1 ∧ (if bf < x.1 then 0 else kn) + b1 (knb K s x) < 2 ∧ (knb K s x = true → dfb K s x.1 x = false) ∧ srt K s x.1 ((if bf < x.1 then 0 else kn) + b1 (knb K s x)) L
section OW
variable {K : Nat → Nat → Int32} {s : Nat}
theorem Pt_tag {t : Nat} {x : af} (hx : okf x) (ht : t < 2 ^ 31) (h : Pt K s (nI t) x = true) : x.1 = t ∧ knb K s x = true := by
  unfold Pt at h
  rw [Bool.and_eq_true, decide_eq_true_iff] at h
  obtain ⟨h1, h2⟩ := h
  rw [nI_eq (by have := hx.2.1; omega) ht] at h1
  exact ⟨h1, h2⟩
theorem Pt_of {t : Nat} {x : af} (h1 : x.1 = t) (h2 : knb K s x = true) : Pt K s (nI t) x = true := by
  unfold Pt
  rw [h1, h2, decide_eq_true rfl]
  rfl
theorem srt_ge : ∀ (L : List af) (bf kn : Nat), srt K s bf kn L → ∀ z ∈ L, bf ≤ z.1
  | [], _, _, _, z, hz => absurd hz List.not_mem_nil
  | x :: L, bf, kn, h, z, hz => by
    obtain ⟨h1, h2, h3, h4⟩ := h
    rcases List.mem_cons.mp hz with rfl | hz
    · exact h1
    · exact Nat.le_trans h1 (srt_ge L _ _ h4 z hz)
theorem srt_one {t : Nat} : ∀ (L : List af) (bf kn : Nat), (t < bf ∨ bf = t ∧ 1 ≤ kn) → srt K s bf kn L → ∀ z ∈ L, z.1 = t → knb K s z = false
  | [], _, _, _, _, z, hz, _ => absurd hz List.not_mem_nil
  | x :: L, bf, kn, hc, h, z, hz, hzt => by
    obtain ⟨h1, h2, h3, h4⟩ := h
    by_cases e : x.1 = t
    · have hb : bf = t ∧ 1 ≤ kn := by
        rcases hc with hc | hc
        · omega
        · exact hc
      rw [if_neg (by omega)] at h2 h4
      rcases List.mem_cons.mp hz with rfl | hz
      · cases hk : knb K s z with
        | false => rfl
        | true => rw [hk] at h2; exact absurd h2 (by show ¬ kn + 1 < 2; omega)
      · exact srt_one L _ _ (Or.inr ⟨e, by omega⟩) h4 z hz hzt
    · rcases List.mem_cons.mp hz with rfl | hz
      · exact absurd hzt e
      · exact srt_one L _ _ (Or.inl (by omega)) h4 z hz hzt
theorem srt_canT {t : Nat} (ht : t < 2 ^ 31) : ∀ (L : List af) (bf kn : Nat), (∀ x ∈ L, okf x) → srt K s bf kn L → canT K s t L = L.filter (fun x => decide (x.1 = t))
  | [], _, _, _, _ => rfl
  | x :: L, bf, kn, hok, h => by
    obtain ⟨h1, h2, h3, h4⟩ := h
    have hokL := fun z hz => hok z (List.mem_cons_of_mem x hz)
    have ih := srt_canT ht L _ _ hokL h4
    unfold canT
    rw [List.filter_cons, ih]
    by_cases e : x.1 = t
    · rw [if_pos (decide_eq_true e), if_pos]
      refine ⟨e, fun hk => ⟨fun z hz => ?_, by rw [← e]; exact h3 hk⟩⟩
      cases hP : Pt K s (nI t) z with
      | false => rfl
      | true =>
        obtain ⟨p1, p2⟩ := Pt_tag (hokL z hz) ht hP
        have := srt_one (t := t) L _ _ (Or.inr ⟨e, by rw [hk]; exact Nat.le_add_left _ _⟩) h4 z hz p1
        rw [this] at p2
        exact absurd p2 (by decide)
    · rw [if_neg (fun z => e z.1), if_neg (by rw [decide_eq_false e]; decide)]
theorem srt_fil (k : Nat) : ∀ (L : List af) (bf kn : Nat), srt K s bf kn L → L.filter (fun x => decide (x.1 ≤ k)) ++ L.filter (fun x => decide (x.1 = k + 1)) = L.filter (fun x => decide (x.1 ≤ k + 1))
  | [], _, _, _ => rfl
  | x :: L, bf, kn, h => by
    obtain ⟨h1, h2, h3, h4⟩ := h
    have ih := srt_fil k L _ _ h4
    have hge := srt_ge L _ _ h4
    rw [List.filter_cons, List.filter_cons, List.filter_cons]
    by_cases e : x.1 = k + 1
    · have hn : L.filter (fun x => decide (x.1 ≤ k)) = [] := List.filter_eq_nil_iff.mpr (fun z hz => by
        have := hge z hz
        rw [decide_eq_true_iff]
        omega)
      rw [hn, List.nil_append] at ih
      rw [if_neg (by rw [decide_eq_true_iff]; omega), if_pos (by rw [decide_eq_true_iff]; exact e), if_pos (by rw [decide_eq_true_iff]; omega), hn, ih, List.nil_append]
    · by_cases e2 : x.1 ≤ k
      · rw [if_pos (by rw [decide_eq_true_iff]; exact e2), if_neg (by rw [decide_eq_true_iff]; exact e), if_pos (by rw [decide_eq_true_iff]; omega), List.cons_append, ih]
      · rw [if_neg (by rw [decide_eq_true_iff]; exact e2), if_neg (by rw [decide_eq_true_iff]; exact e), if_neg (by rw [decide_eq_true_iff]; omega), ih]
theorem srt_canU {L : List af} (hok : ∀ x ∈ L, okf x) (h : srt K s 0 0 L) : ∀ k, k ≤ 31 → canU K s L k = L.filter (fun x => decide (x.1 ≤ k))
  | 0, _ => (List.filter_eq_nil_iff.mpr (fun z hz => by
      have := (hok z hz).1
      rw [decide_eq_true_iff]
      omega)).symm
  | k + 1, hk => by
    show canU K s L k ++ canT K s (k + 1) L = _
    rw [srt_canU hok h k (by omega), srt_canT (by omega) L 0 0 hok h, srt_fil k L 0 0 h]
/-- sorted fields are canonical .. -/
theorem srt_can {L : List af} (hok : ∀ x ∈ L, okf x) (h : srt K s 0 0 L) : can K s L = L := by
  unfold can
  rw [srt_canU hok h 31 (Nat.le_refl _)]
  exact List.filter_eq_self.mpr (fun z hz => decide_eq_true (hok z hz).2.1)
theorem canT_srt {t : Nat} (ht : t < 2 ^ 31) {R : List af} (hR : ∀ bf kn, bf ≤ t → srt K s bf kn R) : ∀ (N : List af) (bf kn : Nat), (∀ x ∈ N, okf x) → (bf < t ∨ bf = t ∧ (kn = 0 ∨ kn = 1 ∧ ∀ z ∈ N, Pt K s (nI t) z = false)) → srt K s bf kn (canT K s t N ++ R)
  | [], bf, kn, _, hc => hR bf kn (by omega)
  | x :: N, bf, kn, hok, hc => by
    have hokN := fun z hz => hok z (List.mem_cons_of_mem x hz)
    have hcN : bf < t ∨ bf = t ∧ (kn = 0 ∨ kn = 1 ∧ ∀ z ∈ N, Pt K s (nI t) z = false) := by
      rcases hc with h | ⟨h, h2 | ⟨h2, h3⟩⟩
      · exact Or.inl h
      · exact Or.inr ⟨h, Or.inl h2⟩
      · exact Or.inr ⟨h, Or.inr ⟨h2, fun z hz => h3 z (List.mem_cons_of_mem _ hz)⟩⟩
    unfold canT
    split
    · rename_i e
      obtain ⟨e1, e2⟩ := e
      have hkn : (if bf < x.1 then 0 else kn) = 0 ∨ ((if bf < x.1 then 0 else kn) = 1 ∧ bf = t ∧ ∀ z ∈ x :: N, Pt K s (nI t) z = false) := by
        by_cases z : bf < x.1
        · rw [if_pos z]; exact Or.inl rfl
        · rw [if_neg z]
          rcases hc with h | ⟨h, h2 | ⟨h2, h3⟩⟩
          · omega
          · exact Or.inl h2
          · exact Or.inr ⟨h2, h, h3⟩
      cases hk : knb K s x with
      | true =>
        obtain ⟨f1, f2⟩ := e2 hk
        have h0 : (if bf < x.1 then 0 else kn) = 0 := by
          rcases hkn with h | ⟨-, -, h⟩
          · exact h
          · have := h x List.mem_cons_self
            rw [Pt_of e1 hk] at this
            exact absurd this (by decide)
        refine ⟨by omega, by rw [hk, h0]; decide, fun _ => by rw [e1]; exact f2, ?_⟩
        rw [hk, h0, e1]
        exact canT_srt ht hR N t 1 hokN (Or.inr ⟨rfl, Or.inr ⟨rfl, f1⟩⟩)
      | false =>
        refine ⟨by omega, ?_, fun z => by rw [hk] at z; exact absurd z (by decide), ?_⟩
        · rw [hk]
          rcases hkn with h | ⟨h, -⟩
          · rw [h]; decide
          · rw [h]; decide
        · rw [hk, e1]
          rw [e1] at hkn
          rcases hkn with h | ⟨h, h2, h3⟩
          · rw [h]; exact canT_srt ht hR N t 0 hokN (Or.inr ⟨rfl, Or.inl rfl⟩)
          · rw [h]; exact canT_srt ht hR N t 1 hokN (Or.inr ⟨rfl, Or.inr ⟨rfl, fun z hz => h3 z (List.mem_cons_of_mem _ hz)⟩⟩)
    · exact canT_srt ht hR N bf kn hokN hcN
/-- the canonical fields from the tag t on, n tags -/
def canF (K : Nat → Nat → Int32) (s : Nat) (L : List af) : Nat → Nat → List af
  | _, 0 => []
  | t, n + 1 => canT K s t L ++ canF K s L (t + 1) n
theorem canF_U (L : List af) : ∀ n k, canU K s L k ++ canF K s L (k + 1) n = canU K s L (k + n)
  | 0, k => List.append_nil _
  | n + 1, k => by
    show canU K s L k ++ (canT K s (k + 1) L ++ canF K s L (k + 1 + 1) n) = _
    rw [← List.append_assoc]
    have := canF_U L n (k + 1)
    rw [show k + (n + 1) = k + 1 + n by omega]
    exact this
theorem canF_srt {L : List af} (hok : ∀ x ∈ L, okf x) : ∀ n t, t + n ≤ 32 → ∀ bf kn, bf < t → srt K s bf kn (canF K s L t n)
  | 0, t, _, _, _, _ => trivial
  | n + 1, t, h, bf, kn, hb => canT_srt (by omega) (fun bf' kn' h' => canF_srt hok n (t + 1) (by omega) bf' kn' (by omega)) L bf kn hok (Or.inl hb)
/-- .. and canonical ones are sorted -/
theorem can_srt {L C : List af} (hok : ∀ x ∈ L, okf x) (hC : can K s L = C) : srt K s 0 0 C := by
  have h := canF_U (K := K) (s := s) L 31 0
  have h2 : canF K s L 1 31 = C := h.trans hC
  have h3 := fun n (hn : n = 31) => canF_srt (K := K) (s := s) hok n 1 (by omega) 0 0 (by omega)
  obtain ⟨n, hn⟩ : ∃ n, n = 31 := ⟨31, rfl⟩
  rw [← hn] at h2
  rw [← h2]
  exact h3 n hn
end OW
/-- group numbers that take no more groups than are needed -/
theorem pg_min (b : Nat → Nat) (e : Nat) (hb : ∀ j, b j < 256) : ∀ r p v, r ≤ 4 → (pg b e (r + 1) p v).1 = 0 → ∃ U : Nat, (pg b e (r + 1) p v).2.2 = v + U * 2 ^ (7 * (4 - r)) ∧ p + (eg r U).length ≤ (pg b e (r + 1) p v).2.1 ∧ (p + (eg r U).length = (pg b e (r + 1) p v).2.1 → rowAt b p (eg r U)) := by
  have hone : ∀ (p x : Nat), b p = x → rowAt b p [x] := fun p x h j hj => by
    have hj : j < 1 := hj
    have hj : j = 0 := by omega
    subst hj
    exact h
  intro r
  induction r with
  | zero =>
    intro p v hr h0
    unfold pg at h0 ⊢
    by_cases h1 : p = e
    · rw [if_pos h1] at h0; exact absurd h0 Nat.one_ne_zero
    · rw [if_neg h1] at h0 ⊢
      by_cases h2 : 0 = 0 ∧ 15 < b p
      · rw [if_pos h2] at h0; exact absurd (show (2 : Nat) = 0 from h0) (by decide)
      · rw [if_neg h2] at h0 ⊢
        have h3 : b p < 128 := by omega
        rw [if_pos h3]
        exact ⟨b p, by rw [Nat.mod_eq_of_lt h3], Nat.le_refl _, fun _ => hone p _ rfl⟩
  | succ r ih =>
    intro p v hr h0
    unfold pg at h0 ⊢
    by_cases h1 : p = e
    · rw [if_pos h1] at h0; exact absurd h0 Nat.one_ne_zero
    · rw [if_neg h1] at h0 ⊢
      rw [if_neg (by omega)] at h0 ⊢
      by_cases h3 : b p < 128
      · rw [if_pos h3]
        have he : eg (r + 1) (b p) = [b p] := by
          unfold eg
          rw [if_pos (Nat.div_eq_of_lt h3)]
        refine ⟨b p, by rw [Nat.mod_eq_of_lt h3], by rw [he]; exact Nat.le_refl _, fun _ => by rw [he]; exact hone p _ rfl⟩
      · rw [if_neg h3] at h0 ⊢
        obtain ⟨U, u1, u2, u3⟩ := ih (p + 1) _ (by omega) h0
        have hm := Nat.mod_lt (b p) (show 0 < 128 by decide)
        have hd : (b p % 128 + 128 * U) / 128 = U := by omega
        have hd2 : (b p % 128 + 128 * U) % 128 = b p % 128 := by omega
        have hpos := eg_pos r U
        refine ⟨b p % 128 + 128 * U, ?_, ?_, ?_⟩
        · rw [u1, show 7 * (4 - r) = 7 + 7 * (4 - (r + 1)) by omega, Nat.pow_add, Nat.add_assoc]
          congr 1
          rw [Nat.add_mul]
          congr 1
          rw [← Nat.mul_assoc, Nat.mul_comm U]
        · unfold eg
          rw [hd]
          by_cases hU : U = 0
          · rw [if_pos hU]; show p + 1 ≤ _; omega
          · rw [if_neg hU, List.length_cons]; omega
        · intro hl
          unfold eg at hl ⊢
          rw [hd, hd2] at hl
          rw [hd, hd2]
          by_cases hU : U = 0
          · rw [if_pos hU] at hl
            have hl : p + 1 = _ := hl
            omega
          · rw [if_neg hU, List.length_cons] at hl
            rw [if_neg hU]
            have hrow := u3 (by omega)
            intro j hj
            cases j with
            | zero =>
              show b p = b p % 128 + 128
              have := hb p
              omega
            | succ j =>
              rw [List.length_cons] at hj
              have := hrow j (by omega)
              rw [show p + (j + 1) = p + 1 + j by omega]
              exact this
theorem pg_min5 {b : Nat → Nat} {e p : Nat} (hb : ∀ j, b j < 256) (h0 : (pg b e 5 p 0).1 = 0) : p + (egr (pg b e 5 p 0).2.2).length = (pg b e 5 p 0).2.1 → rowAt b p (egr (pg b e 5 p 0).2.2) := by
  obtain ⟨U, u1, u2, u3⟩ := pg_min b e hb 4 p 0 (Nat.le_refl _) h0
  have u1 : (pg b e 5 p 0).2.2 = 0 + U * 1 := u1
  rw [Nat.zero_add, Nat.mul_one] at u1
  rw [u1]
  exact u3
theorem row_four {b : Nat → Nat} (hb : ∀ j, b j < 256) (p : Nat) : rowAt b p (four (v4 b p)) := by
  intro j hj
  have hj : j < 4 := hj
  have h0 := hb p
  have h1 := hb (p + 1)
  have h2 := hb (p + 2)
  have h3 := hb (p + 3)
  have hj : j = 0 ∨ j = 1 ∨ j = 2 ∨ j = 3 := by omega
  have g4 : ∀ w x y z : Nat, [w, x, y, z].getD 0 0 = w ∧ [w, x, y, z].getD 1 0 = x ∧ [w, x, y, z].getD 2 0 = y ∧ [w, x, y, z].getD 3 0 = z := fun _ _ _ _ => ⟨rfl, rfl, rfl, rfl⟩
  unfold v4 four
  rcases hj with rfl | rfl | rfl | rfl
  · rw [(g4 _ _ _ _).1, Nat.add_zero]; omega
  · rw [(g4 _ _ _ _).2.1]; omega
  · rw [(g4 _ _ _ _).2.2.1]; omega
  · rw [(g4 _ _ _ _).2.2.2]; omega
/-- a field that takes no more bytes than are needed -/
theorem pf_min {b : Nat → Nat} {e p : Nat} (hb : ∀ j, b j < 256) (hp : p ≤ e) (h0 : (pf b e p).1 = 0) (hl : p + (ef (mkf b (pf b e p))).length = (pf b e p).2.1) : rowAt b p (ef (mkf b (pf b e p))) := by
  have hq1 := pg_le b e 5 p 0 hp
  have hl1 := fun z => pg_len (b := b) hp z
  have hm1 := fun z => pg_min5 (b := b) (e := e) (p := p) hb z
  unfold pf at h0 hl ⊢
  generalize hg : pg b e 5 p 0 = g at *
  obtain ⟨f1, q1, V⟩ := g
  dsimp only at hq1 hl1 hm1 h0 hl ⊢
  by_cases c1 : f1 ≠ 0
  · rw [if_pos c1] at h0; exact absurd h0 c1
  rw [if_neg c1] at h0 hl ⊢
  obtain ⟨l1, l2⟩ := hl1 (by omega)
  have m1 := hm1 (by omega)
  by_cases c2 : ¬ (1 ≤ V / 8 ∧ V / 8 ≤ 31)
  · rw [if_pos c2] at h0; exact absurd (show (3 : Nat) = 0 from h0) (by decide)
  rw [if_neg c2] at h0 hl ⊢
  by_cases c3 : ¬ (V % 8 = 0 ∨ V % 8 = 2 ∨ V % 8 = 5)
  · rw [if_pos c3] at h0; exact absurd (show (4 : Nat) = 0 from h0) (by decide)
  rw [if_neg c3] at h0 hl ⊢
  by_cases c4 : V % 8 = 5
  · rw [if_pos c4] at h0 hl ⊢
    by_cases c5 : e < q1 + 4
    · rw [if_pos c5] at h0; exact absurd (show (1 : Nat) = 0 from h0) (by decide)
    rw [if_neg c5] at hl ⊢
    have he : ef (mkf b (0, q1 + 4, V / 8, 5, v4 b q1)) = egr V ++ four (v4 b q1) := by
      show enum (V / 8) 5 (v4 b q1) ++ [] = _
      rw [List.append_nil]
      unfold enum
      rw [if_pos rfl, show 8 * (V / 8) + 5 = V by omega]
    rw [he] at hl ⊢
    rw [List.length_append] at hl
    have hl : p + ((egr V).length + 4) = q1 + 4 := hl
    rw [rowAt_app, show p + (egr V).length = q1 by omega]
    exact ⟨m1 (by omega), row_four hb q1⟩
  rw [if_neg c4] at h0 hl ⊢
  have hq2 := pg_le b e 5 q1 0 hq1.2
  have hl2 := fun z => pg_len (b := b) hq1.2 z
  have hm2 := fun z => pg_min5 (b := b) (e := e) (p := q1) hb z
  generalize pg b e 5 q1 0 = g2 at *
  obtain ⟨f2, q2, v⟩ := g2
  dsimp only at hq2 hl2 hm2 h0 hl ⊢
  by_cases c5 : f2 ≠ 0
  · rw [if_pos c5] at h0; exact absurd h0 c5
  rw [if_neg c5] at h0 hl ⊢
  obtain ⟨l3, l4⟩ := hl2 (by omega)
  have m2 := hm2 (by omega)
  by_cases c6 : V % 8 = 2
  · rw [if_pos c6] at h0 hl ⊢
    by_cases c7 : e < q2 + v
    · rw [if_pos c7] at h0; exact absurd (show (1 : Nat) = 0 from h0) (by decide)
    rw [if_neg c7] at hl ⊢
    have he : ef (mkf b (0, q2 + v, V / 8, 2, v)) = (egr V ++ egr v) ++ bys b (q2 + v - v) v := by
      show enum (V / 8) 2 v ++ _ = _
      unfold enum
      rw [if_neg (by decide), show 8 * (V / 8) + 2 = V by omega]
      rfl
    rw [he] at hl ⊢
    rw [List.length_append, List.length_append, bys_len] at hl
    have hl : p + ((egr V).length + (egr v).length + v) = q2 + v := hl
    rw [rowAt_app, rowAt_app, List.length_append, show p + (egr V).length = q1 by omega, show p + ((egr V).length + (egr v).length) = q2 + v - v by omega]
    exact ⟨⟨m1 (by omega), m2 (by omega)⟩, bys_row _ _ _⟩
  · rw [if_neg c6] at hl ⊢
    have he : ef (mkf b (0, q2, V / 8, 0, v)) = egr V ++ egr v := by
      show enum (V / 8) 0 v ++ [] = _
      rw [List.append_nil]
      unfold enum
      rw [if_neg (by decide), show 8 * (V / 8) + 0 = V by omega]
    rw [he] at hl ⊢
    rw [List.length_append] at hl
    have hl : p + ((egr V).length + (egr v).length) = q2 := hl
    rw [rowAt_app, show p + (egr V).length = q1 by omega]
    exact ⟨m1 (by omega), m2 (by omega)⟩
theorem prs_min {b : Nat → Nat} {e : Nat} (hb : ∀ j, b j < 256) : ∀ (n p : Nat), p ≤ e → (prs b e n p).2.1 = 0 → p + (eL (prs b e n p).1).length = e → rowAt b p (eL (prs b e n p).1)
  | 0, p, _, _, _ => fun j hj => absurd hj (Nat.not_lt_zero _)
  | n + 1, p, hp, h0, hl => by
    unfold prs at h0 hl ⊢
    by_cases h1 : e ≤ p
    · rw [if_pos h1]; exact fun j hj => absurd hj (Nat.not_lt_zero _)
    · rw [if_neg h1] at h0 hl ⊢
      by_cases h2 : (pf b e p).1 = 0
      · rw [if_pos h2] at h0 hl ⊢
        obtain ⟨o1, o2, o3, o4, -⟩ := pf_ok hb hp h2
        obtain ⟨i1, i2⟩ := prs_ok hb n (pf b e p).2.1 o4
        rw [eL_cons, List.length_append] at hl
        rw [eL_cons, rowAt_app]
        have hq : p + (ef (mkf b (pf b e p))).length = (pf b e p).2.1 := by omega
        refine ⟨pf_min hb hp h2 hq, ?_⟩
        rw [hq]
        exact prs_min hb n _ o4 h0 (by omega)
      · rw [if_neg h2] at h0; exact absurd h0 h2
theorem getD_lt {Y : List Nat} (hY : ∀ z ∈ Y, z < 256) (j : Nat) : (fun j => Y.getD j 0) j < 256 := by
  show Y.getD j 0 < 256
  rcases Nat.lt_or_ge j Y.length with z | z
  · exact hY _ (getD_mem z)
  · rw [List.getD_eq_getElem?_getD, List.getElem?_eq_none z]; decide
theorem prsL_min {Y : List Nat} (hY : ∀ z ∈ Y, z < 256) (h0 : (prsL Y).2.1 = 0) (hl : (eL (prsL Y).1).length = Y.length) : eL (prsL Y).1 = Y := by
  have h := prs_min (b := fun j => Y.getD j 0) (e := Y.length) (getD_lt hY) 60 0 (Nat.zero_le _) h0 (by rw [Nat.zero_add]; exact hl)
  refine eq_getD hl (fun k hk => ?_)
  have h1 := h k hk
  rw [Nat.zero_add] at h1
  exact h1.symm
theorem ef_half : ∀ L : List af, 2 * L.length ≤ (eL L).length
  | [] => Nat.zero_le _
  | x :: L => by
    have := ef_len2 x
    have := ef_half L
    rw [eL_cons, List.length_append, List.length_cons]
    omega
theorem prsL_eL {L : List af} (hok : ∀ x ∈ L, okf x) (hl : (eL L).length ≤ 120) : prsL (eL L) = (L, 0, 0) := by
  have := ef_half L
  exact prs_eL L 60 0 hok (by omega) (Nat.zero_add _) (fun j _ => by rw [Nat.zero_add])
/-- fields are known by their bytes -/
theorem eL_inj {L L' : List af} (h1 : ∀ x ∈ L, okf x) (h2 : ∀ x ∈ L', okf x) (hl : (eL L).length ≤ 120) (h : eL L = eL L') : L = L' := by
  have e1 := prsL_eL h1 hl
  have e2 := prsL_eL h2 (by rw [← h]; exact hl)
  rw [h, e2] at e1
  exact (congrArg (·.1) e1).symm
theorem own_can {K : Nat → Nat → Int32} {s : Nat} {Y : List Nat} {L C : List af} (p1 : ∀ x ∈ L, okf x) (p2 : (eL L).length ≤ Y.length) (hm : (eL L).length = Y.length → eL L = Y) (hl : Y.length ≤ 120) (hC : can K s L = C) : (eL C = Y) ↔ ((eL L).length = Y.length ∧ srt K s 0 0 L) := by
  have hs := can_srt p1 hC
  have hss : srt K s 0 0 L → C = L := fun z => hC.symm.trans (srt_can p1 z)
  have hle : (eL C).length ≤ (eL L).length := by rw [← hC]; exact canU_le K s L 31
  have hcok : ∀ x ∈ C, okf x := by rw [← hC]; exact can_ok p1
  clear hC
  constructor
  · intro h2
    rw [h2] at hle
    have hlen : (eL L).length = Y.length := Nat.le_antisymm p2 hle
    have hmin := hm hlen
    have hinj : C = L := eL_inj hcok p1 (by rw [h2]; exact hl) (h2.trans hmin.symm)
    refine ⟨hlen, ?_⟩
    rw [hinj] at hs
    exact hs
  · rintro ⟨h2, h3⟩
    rw [hss h3]
    exact hm h2
/-- the tape is canonical just if one pass finds nothing -/
theorem own_iff {K : Nat → Nat → Int32} {s : Nat} {Y : List Nat} (hY : ∀ z ∈ Y, z < 256) (hl : Y.length ≤ 120) (h1 : (prsL Y).2.1 = 0) : (eL (can K s (prsL Y).1) = Y) ↔ ((eL (prsL Y).1).length = Y.length ∧ srt K s 0 0 (prsL Y).1) :=
  own_can (prsL_ok hY).1 (prsL_ok hY).2 (fun z2 => prsL_min hY h1 z2) hl rfl
