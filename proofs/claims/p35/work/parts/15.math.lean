/-! the reference's calls: schemas -/
section P1
variable {M : Nat} {h : mw_H} {g : mS} {I : Nat → Int32} {A : Nat → Nat → Int32}
theorem zKind_of {K : Nat → Nat → Int32} {s t : Nat} (h1 : 1 ≤ t) (h2 : t ≤ 31) : zKind K s (nI t) = K 1 (32 * s + t) := by
  unfold zKind
  rw [if_neg (by rw [zTag_of h1 h2]; decide), nI_clamp (by omega)]
theorem okK_upd {K : Nat → Nat → Int32} {ns i : Nat} {k : Int32} (h : okK K ns) (hk : k = -1 ∨ ∃ j : Nat, j ≤ 4 ∧ k = nI j) {K' : Nat → Nat → Int32} (e : K' 1 = upd (K 1) i k) : okK K' ns := by
  intro s t hs h1 h2
  rw [e]
  by_cases z : 32 * s + t = i
  · rw [z, pk_us]; exact hk
  · rw [pk_un z]; exact h s t hs h1 h2
theorem wfK_upd {K K' : Nat → Nat → Int32} {ns s' : Nat} {t' k o : Int32} (h : wfK K ns) (ht : ¬ zTag t' = 0) (e1 : K' 1 = upd (K 1) (tix s' t') k) (e2 : K' 2 = upd (K 2) (tix s' t') o) (hk : k = 4 → ∃ p, p < ns ∧ p < 6 ∧ o = nI p) : wfK K' ns := by
  intro s t hs h1 h2 h4
  rw [zKind_of h1 h2, e1] at h4
  unfold pn
  rw [e2]
  by_cases z : 32 * s + t = tix s' t'
  · rw [z, pk_us] at h4
    rw [z, pk_us]
    obtain ⟨p, hp, hp6, rfl⟩ := hk h4
    rw [nI_clamp (by omega)]
    exact ⟨hp, rfl⟩
  · rw [pk_un z] at h4
    rw [pk_un z]
    have := h s t hs h1 h2 (by rw [zKind_of h1 h2]; exact h4)
    exact this
theorem wfK_drop {K K' : Nat → Nat → Int32} {ns s' : Nat} {t' k : Int32} (h : wfK K ns) (ht : ¬ zTag t' = 0) (e1 : K' 1 = upd (K 1) (tix s' t') k) (e2 : K' 2 = K 2) (hk : k ≠ 4) : wfK K' ns := by
  intro s t hs h1 h2 h4
  rw [zKind_of h1 h2, e1] at h4
  unfold pn
  rw [e2]
  by_cases z : 32 * s + t = tix s' t'
  · rw [z, pk_us] at h4
    exact absurd h4 hk
  · rw [pk_un z] at h4
    have := h s t hs h1 h2 (by rw [zKind_of h1 h2]; exact h4)
    exact this
end P1

/-! addSchema, setKind, conflict -/
section I7
variable {y : mw_M} {d kc ks pc : Nat} {ls : List (Option Value)} {st : List Value} {h : mw_H} {Po : mw_P}
end I7
def fil1 (f : Nat → Int32) (n k : Nat) : Nat → Int32 := fun j => if 32 * n ≤ j ∧ j < 32 * n + k then -1 else f j
theorem fil1_0 (f : Nat → Int32) (n : Nat) : fil1 f n 0 = f := by
  funext j
  show (if _ then _ else _) = _
  exact if_neg (by omega)
theorem fil1_s (f : Nat → Int32) (n k : Nat) : upd (fil1 f n k) (32 * n + k) (-1) = fil1 f n (k + 1) := by
  funext j
  show (if j = 32 * n + k then _ else if _ then _ else _) = if _ then _ else _
  by_cases e : j = 32 * n + k
  · rw [if_pos e, if_pos (by omega)]
  · rw [if_neg e]
    by_cases e2 : 32 * n ≤ j ∧ j < 32 * n + k
    · rw [if_pos e2, if_pos (by omega)]
    · rw [if_neg e2, if_neg (by omega)]
section P2
variable {M : Nat} {h : mw_H} {g : mS} {I : Nat → Int32} {A : Nat → Nat → Int32}
theorem zIn04 {k : Int32} (h : ¬ zIn k 0 4 = 0) : ∃ j : Nat, j ≤ 4 ∧ k = nI j := by
  obtain ⟨h1, h2⟩ := zIn_1 h
  exact nI_of3 (M := 4) (n := 4) rfl (by decide) h1 h2
/-- how many are not set yet -/
def zc (f : Nat → Int32) : Nat := fa_cnt (fun j => decide (f j = 0)) 36
theorem cnt_upd {f : Nat → Int32} {i : Nat} {x : Int32} (hx : x ≠ 0) (h0 : f i = 0) : ∀ n, i < n → fa_cnt (fun j => decide (upd f i x j = 0)) n + 1 = fa_cnt (fun j => decide (f j = 0)) n
  | 0, h => absurd h (Nat.not_lt_zero _)
  | n + 1, h => by
    by_cases e : i = n
    · subst e
      rw [fa_cnt_no (by rw [pk_us]; exact decide_eq_false hx), fa_cnt_yes (decide_eq_true h0)]
      congr 1
      exact fa_cnt_cong (fun k hk => by rw [pk_un (by omega)])
    · have ih := cnt_upd hx h0 n (by omega)
      cases hf : decide (f n = 0) with
      | true =>
        rw [fa_cnt_yes (p := fun j => decide (f j = 0)) hf, fa_cnt_yes (by rw [pk_un (by omega)]; exact hf)]
        omega
      | false =>
        rw [fa_cnt_no (p := fun j => decide (f j = 0)) hf, fa_cnt_no (by rw [pk_un (by omega)]; exact hf)]
        exact ih
/-- what is noted is so -/
def sound (A : Nat → Nat → Int32) (q : Nat) (f : Nat → Int32) : Prop := ∀ j, j < 36 → f j ≠ 0 → Ds A q j
/-- one pass: before the pair (s, o) all is looked at; mo is whether something was noted -/
def pass (A : Nat → Nat → Int32) (ns q : Nat) (f0 : Nat → Int32) (s o : Nat) (f : Nat → Int32) (mo : Int32) : Prop := sound A q f ∧ ((mo = 0 ∧ f = f0 ∧ ∀ s' o', s' < ns → o' < ns → (s' < s ∨ s' = s ∧ o' < o) → 6 * s' + o' ≠ q → f0 (6 * s' + o') = 0 → ∀ t, 1 ≤ t → t ≤ 31 → rsn A f0 s' o' t = false) ∨ (mo = 1 ∧ zc f < zc f0))
theorem rsn_D {A : Nat → Nat → Int32} {q s o t : Nat} {f : Nat → Int32} (ho : o < 6) (h1 : 1 ≤ t) (h2 : t ≤ 31) (hq : 6 * s + o ≠ q) (hs : sound A q f) (ht : led A s o t = true → to2 A s o t < 36) (h : rsn A f s o t = true) : Ds A q (6 * s + o) := by
  unfold rsn at h
  rw [Bool.or_eq_true, Bool.and_eq_true, decide_eq_true_iff] at h
  rcases h with h | ⟨h, h3⟩
  · exact Ds_here ho h1 h2 hq h
  · exact Ds_next ho h1 h2 hq h (hs _ (ht h) h3)
theorem sound_upd {A : Nat → Nat → Int32} {q i : Nat} {f : Nat → Int32} {x : Int32} (h : sound A q f) (hi : Ds A q i) : sound A q (upd f i x) := by
  intro j hj6 hj
  by_cases e : j = i
  · rw [e]; exact hi
  · rw [pk_un e] at hj
    exact h j hj6 hj
section LC
variable {ns a b q : Nat} {f0 : Nat → Int32} {Po : mw_P}
/-- nothing more is to note -/
def closed (A : Nat → Nat → Int32) (ns q : Nat) (f : Nat → Int32) : Prop := ∀ s o, s < ns → o < ns → 6 * s + o ≠ q → f (6 * s + o) = 0 → ∀ t, 1 ≤ t → t ≤ 31 → rsn A f s o t = false
/-- the row with the first k cleared -/
def fil0 (f : Nat → Int32) (k : Nat) : Nat → Int32 := fun j => if j < k then 0 else f j
theorem fil0_s (f : Nat → Int32) (k : Nat) : upd (fil0 f k) k 0 = fil0 f (k + 1) := by
  funext j
  show (if j = k then _ else if _ then _ else _) = if _ then _ else _
  by_cases e : j = k
  · rw [if_pos e, if_pos (by omega)]
  · rw [if_neg e]
    by_cases e2 : j < k
    · rw [if_pos e2, if_pos (by omega)]
    · rw [if_neg e2, if_neg (by omega)]
theorem closed_D {f : Nat → Int32} (hw : wfK A ns) (hns : ns ≤ 6) (ha : a < ns) (hb : b < ns) (hq : q = 6 * a + b) (hs : sound A q f) (hc : closed A ns q f) {t : Nat} (h1 : 1 ≤ t) (h2 : t ≤ 31) : (rsn A f a b t = true ↔ rsnD A a b t) := by
  unfold rsn rsnD
  rw [Bool.or_eq_true, Bool.and_eq_true, decide_eq_true_iff, ← hq]
  constructor
  · rintro (z | ⟨z, z2⟩)
    · exact Or.inl z
    · exact Or.inr ⟨z, hs _ (to2_lt hw hns ha hb h1 h2 z).1 z2⟩
  · rintro (z | ⟨z, n, z2⟩)
    · exact Or.inl z
    · refine Or.inr ⟨z, fun h0 => ?_⟩
      obtain ⟨t1, t2, t3, t4⟩ := to2_lt hw hns ha hb h1 h2 z
      refine Ds_not (q := q) (C := fun j => j / 6 < ns ∧ j % 6 < ns ∧ f j = 0) ?_ n _ ⟨?_, ?_, h0⟩ z2
      · rintro j ⟨c1, c2, c3⟩ hj t' y1 y2
        have hj6 : 6 * (j / 6) + j % 6 = j := Nat.div_add_mod j 6
        have hr := hc (j / 6) (j % 6) c1 c2 (by omega) (by rw [hj6]; exact c3) t' y1 y2
        unfold rsn at hr
        rw [Bool.or_eq_false_iff] at hr
        refine ⟨hr.1, fun hl => ?_⟩
        have hr2 := hr.2
        rw [hl, Bool.true_and] at hr2
        obtain ⟨u1, u2, u3, u4⟩ := to2_lt hw hns c1 c2 y1 y2 hl
        have hr2 := of_decide_eq_false hr2
        refine ⟨?_, ?_, Decidable.not_not.mp hr2⟩
        · unfold to2; omega
        · unfold to2; omega
      · unfold to2; omega
      · unfold to2; omega
theorem isConf_cong {A K : Nat → Nat → Int32} (h1 : A 1 = K 1) (h2 : A 2 = K 2) {r : Int32} (h : isConf A a b r) : isConf K a b r := by
  have hd : dif A = dif K := by
    funext s o t
    unfold dif
    rw [zKind_cong h1, zKind_cong h1]
  have hl : led A = led K := by
    funext s o t
    unfold led
    rw [zKind_cong h1, zKind_cong h1]
  have ht : to2 A = to2 K := by
    funext s o t
    unfold to2 pn
    rw [h2]
  have hn : ∀ q n j, dn A q n j ↔ dn K q n j := by
    intro q n
    induction n with
    | zero => exact fun j => Iff.rfl
    | succ n ih =>
      intro j
      show (j ≠ q ∧ ∃ t, _) ↔ (j ≠ q ∧ ∃ t, _)
      simp only [hd, hl, ht, ih]
  have hDs : ∀ q j, Ds A q j ↔ Ds K q j := fun q j => exists_congr (fun n => hn q n j)
  have hr : ∀ t, rsnD A a b t ↔ rsnD K a b t := by
    intro t
    unfold rsnD
    rw [hd, hl, ht, hDs]
  unfold isConf at h ⊢
  simp only [hr] at h
  exact h
theorem wfK_cong {A K : Nat → Nat → Int32} (h1 : A 1 = K 1) (h2 : A 2 = K 2) (h : wfK K ns) : wfK A ns := by
  intro s t hs z1 z2 h4
  rw [zKind_cong h1] at h4
  have := h s t hs z1 z2 h4
  unfold pn at this ⊢
  rw [h2]
  exact this
end LC
end P2

/-! the reference's calls: the tape, and what only looks -/
theorem nI_uN (x : Int32) : nI (uN x) = x := by
  apply Int32.toBitVec_inj.mp
  apply BitVec.eq_of_toNat_eq
  show (nI x.toBitVec.toNat).toBitVec.toNat = _
  rw [pk_tn x.toBitVec.isLt]
theorem uN_lt (x : Int32) : uN x < 2 ^ 32 := x.toBitVec.isLt
theorem uN_255 (b : Int32) : uN (b &&& 255) < 256 := by
  unfold uN
  rw [Int32.toBitVec_and, BitVec.toNat_and]
  exact Nat.lt_succ_of_le Nat.and_le_right
theorem uN_nI {n : Nat} (h : n < 2 ^ 32) : uN (nI n) = n := pk_tn h
theorem nb_byte (x : Nat) : narrow .byte (.int (bV x)) = .int (bV x) := by
  unfold bV
  show Value.int ((nI x).toInt8.toInt32).toInt8.toInt32 = _
  rw [Int8.toInt8_toInt32]
theorem zIn_nI {x : Int32} {n : Nat} (hn : n < 2 ^ 31) (h : ¬ zIn x 0 (nI n - 1) = 0) : ∃ j : Nat, j < n ∧ x = nI j := by
  obtain ⟨h1, h2⟩ := zIn_1 h
  rcases Nat.eq_zero_or_pos n with z | z
  · rw [z] at h2
    exact absurd (Int32.le_trans h1 h2) (by decide)
  · rw [show nI n - 1 = nI (n - 1) from pk_sub z] at h2
    obtain ⟨j, hj, e⟩ := nI_of3 (M := nI (n - 1)) (n := n - 1) rfl (by omega) h1 h2
    exact ⟨j, by omega, e⟩
theorem zIn_nI' {x : Int32} {n : Nat} (hn : n < 2 ^ 31) (h : ¬ zIn x 0 (nI n) = 0) : ∃ j : Nat, j ≤ n ∧ x = nI j := by
  obtain ⟨h1, h2⟩ := zIn_1 h
  exact nI_of3 rfl hn h1 h2
section P3
variable {M : Nat} {h : mw_H} {g : mS} {I : Nat → Int32} {A : Nat → Nat → Int32}
theorem rR_tape (hr : rR g I A) {j : Nat} (hj : j < g.2.2.2.length) : A 8 j = nI (g.2.2.2.getD j 0) := by
  obtain ⟨a0, a1, a2, a3, a4, a5, a6, a7, a8, a9⟩ := hr
  have h5 := a0.2.2.2.2.1
  rw [byt_bt a7 (by omega)]
  have := a9 j hj
  rw [Nat.zero_add] at this
  rw [this]
theorem rR_tp (hr : rR g I A) {Y : List Nat} (hl : Y.length ≤ 120) (hY : ∀ z ∈ Y, z < 256) {I' : Nat → Int32} {A' : Nat → Nat → Int32} (hA : ∀ j, 1 ≤ j → j ≤ 7 → A' j = A j) (h8 : byt (A' 8) 120) (hrow : rowAt (bt (A' 8)) 0 Y) (h1 : I' 1 = I 1) (h9 : I' 9 = nI Y.length) : rR (gTape g Y) I' A' := by
  obtain ⟨a0, a1, a2, a3, a4, a5, a6, a7, a8, a9⟩ := hr
  obtain ⟨b1, b2, b3, b4, b5, b6⟩ := a0
  refine ⟨⟨b1, b2, b3, b4, hl, hY⟩, h1.trans a1, ?_, ?_, ?_, ?_, ?_, h8, h9, hrow⟩
  · rw [hA 1 (by decide) (by decide)]; exact a2
  · rw [hA 2 (by decide) (by decide)]; exact a3
  · rw [hA 3 (by decide) (by decide)]; exact a4
  · rw [hA 4 (by decide) (by decide), hA 5 (by decide) (by decide), hA 6 (by decide) (by decide), hA 7 (by decide) (by decide)]
    exact a5
  · rw [hA 7 (by decide) (by decide)]; exact a6
theorem unk_cong {A K : Nat → Nat → Int32} (h : A 1 = K 1) (s : Nat) (L : List af) : unk A s L = unk K s L := by
  unfold unk
  rw [knb_cong h]
theorem rMes_I {m s : Nat} {L : List af} (hM : rMes A m s L) : rMes A m s L := hM
theorem rR_gone (hr : rR g I A) {m : Nat} (hm : m < 12) {I' : Nat → Int32} (h1 : I' 1 = I 1) (h9 : I' 9 = I 9) : rR (g.1, g.2.1, fun j => if j = m then none else g.2.2.1 j, g.2.2.2) I' (va_up A 4 (upd (A 4) m 0)) := by
  obtain ⟨a0, a1, a2, a3, a4, a5, a6, a7, a8, a9⟩ := hr
  obtain ⟨b1, b2, b3, b4, b5, b6⟩ := a0
  refine ⟨⟨b1, b2, b3, fun m' s' L' hm' hT => ?_, b5, b6⟩, h1.trans a1, a2, a3, a4, fun m' hm' => ?_, a6, a7, h9.trans a8, a9⟩
  · have hT : (if m' = m then none else g.2.2.1 m') = some (s', L') := hT
    by_cases e : m' = m
    · rw [if_pos e] at hT; cases hT
    · rw [if_neg e] at hT; exact b4 m' s' L' hm' hT
  · show ((if m' = m then none else g.2.2.1 m') = none → upd (A 4) m 0 m' = 0) ∧ ∀ s' L', (if m' = m then none else g.2.2.1 m') = some (s', L') → upd (A 4) m 0 m' = 1 ∧ A 5 m' = nI s' ∧ A 6 m' = nI (eL L').length ∧ rowAt (bt (A 7)) (120 * m') (eL L')
    by_cases e : m' = m
    · subst e
      rw [if_pos rfl, pk_us]
      exact ⟨fun _ => rfl, fun s' L' z => absurd z (by simp)⟩
    · rw [if_neg e, pk_un e]
      exact a5 m' hm'
end P3

/-! the reference's calls: what a message has, and what changes it -/
theorem lastK_no {K : Nat → Nat → Int32} {s : Nat} {t : Int32} {L : List af} (h : ∀ x ∈ L, Pt K s t x = false) : lastK K s t L = none := by
  unfold lastK
  rw [List.filter_eq_nil_iff.mpr (fun x hx => by rw [h x hx]; decide)]
  rfl
theorem lastK_yes {K : Nat → Nat → Int32} {s : Nat} {t : Int32} {L1 L2 : List af} {x : af} (hx : Pt K s t x = true) (h : ∀ z ∈ L2, Pt K s t z = false) : lastK K s t (L1 ++ x :: L2) = some x := by
  have hn : L2.filter (Pt K s t) = [] := List.filter_eq_nil_iff.mpr (fun z hz => by rw [h z hz]; decide)
  unfold lastK
  rw [List.filter_append, List.filter_cons, if_pos hx, hn, List.getLast?_append]
  rfl
theorem oth_cong {A K : Nat → Nat → Int32} (h : A 1 = K 1) (s : Nat) (t : Int32) (L : List af) : L.filter (fun x => !Pt A s t x) = oth K s t L := by
  unfold oth
  rw [Pt_cong h]
theorem zInt_tag {K : Nat → Nat → Int32} {s : Nat} {t : Int32} (h : ¬ zInt (zKind K s t) = 0) : ¬ zTag t = 0 := by
  intro z
  refine h ?_
  unfold zKind
  rw [if_pos z]
  decide
theorem zHas_tag {K : Nat → Nat → Int32} {s : Nat} {t : Int32} (h : ¬ zHas (zKind K s t) = 0) : ¬ zTag t = 0 := by
  intro z
  refine h ?_
  unfold zKind
  rw [if_pos z]
  decide
theorem zK4_tag {K : Nat → Nat → Int32} {s : Nat} {t : Int32} (h : zKind K s t = 4) : ¬ zTag t = 0 := by
  intro z
  unfold zKind at h
  rw [if_pos z] at h
  exact absurd h (by decide)
theorem eL_one (L : List af) (x : af) : eL (L ++ [x]) = eL L ++ ef x := by
  rw [eL_app, eL_cons, show eL [] = [] from rfl, List.append_nil]
theorem zType_tyN {k : Int32} (h : ¬ zInt k = 0) : zType k = nI (tyN k) := by
  unfold zType tyN
  by_cases e2 : k = 2
  · rw [if_pos e2, if_pos e2]; rfl
  · rw [if_neg e2, if_neg e2]
    obtain ⟨h1, h2⟩ := zIn_1 h
    obtain ⟨j, hj, rfl⟩ := nI_of3 (M := 2) (n := 2) rfl (by decide) h1 h2
    have hj : j = 0 ∨ j = 1 ∨ j = 2 := by omega
    rcases hj with rfl | rfl | rfl
    · rfl
    · rfl
    · exact absurd rfl e2
theorem tyN_or (k : Int32) : tyN k = 0 ∨ tyN k = 5 := by
  unfold tyN
  by_cases e : k = 2
  · rw [if_pos e]; exact Or.inr rfl
  · rw [if_neg e]; exact Or.inl rfl
theorem oth_ok {K : Nat → Nat → Int32} {s : Nat} {t : Int32} {L : List af} (h : ∀ x ∈ L, okf x) : ∀ x ∈ oth K s t L, okf x := fun x hx => h x (List.mem_filter.mp hx).1
theorem app_ok {L : List af} {x : af} (h : ∀ z ∈ L, okf z) (hx : okf x) : ∀ z ∈ L ++ [x], okf z := by
  intro z hz
  rcases List.mem_append.mp hz with hz | hz
  · exact h z hz
  · rw [List.mem_singleton] at hz; rw [hz]; exact hx
section P4
variable {M : Nat} {h : mw_H} {g : mS} {I : Nat → Int32} {A : Nat → Nat → Int32}
/-- the bytes of a field of bytes -/
theorem zRd_byte {x : af} {m : Nat} {L L1 L2 : List af} {s : Nat} {I1 : Nat → Int32} (hM : rMes A m s L) (hL : L = L1 ++ x :: L2) (h2 : x.2.1 = 2) (hRd : zRd x (120 * m + (eL L1).length) I1) : ∃ p : Nat, I1 16 = nI p ∧ x.2.2.2.length = x.2.2.1 ∧ x.2.2.1 ≤ 118 ∧ p + x.2.2.1 ≤ 1440 ∧ rowAt (bt (A 7)) p x.2.2.2 ∧ I1 15 = nI x.2.2.1 := by
  obtain ⟨hm, hs, h5, hok, hlen, h6, hrow, hA⟩ := hM
  obtain ⟨r11, r12, r13, r14, r15, r16, r17⟩ := hRd
  have hx := hok x (by rw [hL]; exact List.mem_append_right _ List.mem_cons_self)
  have hlL : (eL L).length = (eL L1).length + ((ef x).length + (eL L2).length) := by rw [hL, eL_app, eL_cons, List.length_append, List.length_append]
  rw [hL, eL_app, eL_cons, rowAt_app, rowAt_app] at hrow
  have hb := rowAt_bytes hrow.2.1
  have hl := hx.2.2.2.2.1 h2
  have hl2 := ef_len_bytes x
  exact ⟨_, r16 h2, hl, by omega, by omega, hb, r15⟩
theorem known_ty {K : Nat → Nat → Int32} {s : Nat} {t : Int32} {x : af} (h : Pt K s t x = true) (hb : ¬ zHas (zKind K s t) = 0) (hx : okf x) : x.2.1 = 2 := by
  unfold Pt knb at h
  rw [Bool.and_eq_true, decide_eq_true_iff, decide_eq_true_iff] at h
  obtain ⟨h1, h2⟩ := h
  rw [h1] at h2
  unfold zKn at h2
  by_cases e : zKind K s t = -1
  · rw [if_pos e] at h2; exact absurd rfl h2
  · rw [if_neg e] at h2
    by_cases e2 : zType (zKind K s t) = nI x.2.1
    · unfold zHas at hb
      unfold zType at e2
      have hty : x.2.1 = 0 ∨ x.2.1 = 2 ∨ x.2.1 = 5 := hx.2.2.1
      by_cases k3 : zKind K s t = 3
      · rw [k3] at e2
        have e2 : nI 2 = nI x.2.1 := e2
        rw [nI_eq (by decide) (by omega)] at e2
        exact e2.symm
      · rw [if_neg k3] at hb
        by_cases k4 : zKind K s t = 4
        · rw [k4] at e2
          have e2 : nI 2 = nI x.2.1 := e2
          rw [nI_eq (by decide) (by omega)] at e2
          exact e2.symm
        · rw [if_neg k4] at hb; exact absurd rfl hb
    · rw [if_neg e2] at h2; exact absurd rfl h2
end P4

/-! a row read from another place is the same row -/
section SH
variable {b b' : Nat → Nat} {d e : Nat}
theorem pg_sh (hb : ∀ j, j < e → b (d + j) = b' j) : ∀ r p v, p ≤ e → pg b (d + e) r (d + p) v = ((pg b' e r p v).1, d + (pg b' e r p v).2.1, (pg b' e r p v).2.2)
  | 0, p, v, _ => rfl
  | r + 1, p, v, hp => by
    unfold pg
    by_cases h1 : p = e
    · rw [if_pos h1, if_pos (by omega)]
    · rw [if_neg h1, if_neg (by omega), hb p (by omega)]
      by_cases h2 : r = 0 ∧ 15 < b' p
      · rw [if_pos h2, if_pos h2]
        rfl
      · rw [if_neg h2, if_neg h2]
        by_cases h3 : b' p < 128
        · rw [if_pos h3, if_pos h3]
          rfl
        · rw [if_neg h3, if_neg h3]
          exact pg_sh hb r (p + 1) _ (by omega)
theorem v4_sh (hb : ∀ j, j < e → b (d + j) = b' j) {q : Nat} (hq : q + 4 ≤ e) : v4 b (d + q) = v4 b' q := by
  unfold v4
  rw [hb q (by omega), Nat.add_assoc d q 1, hb (q + 1) (by omega), Nat.add_assoc d q 2, hb (q + 2) (by omega), Nat.add_assoc d q 3, hb (q + 3) (by omega)]
theorem pf_sh (hb : ∀ j, j < e → b (d + j) = b' j) {p : Nat} (hp : p ≤ e) : (pf b (d + e) (d + p)).1 = (pf b' e p).1 ∧ ((pf b' e p).1 = 0 → (pf b (d + e) (d + p)).2.1 = d + (pf b' e p).2.1 ∧ (pf b (d + e) (d + p)).2.2 = (pf b' e p).2.2) := by
  have hq1 := pg_le b' e 5 p 0 hp
  have g1 := pg_sh hb 5 p 0 hp
  unfold pf
  rw [g1]
  generalize pg b' e 5 p 0 = g at *
  obtain ⟨f1, q1, K⟩ := g
  dsimp only at hq1 ⊢
  have g2 := pg_sh hb 5 q1 0 hq1.2
  rw [g2]
  clear g2 g1
  generalize pg b' e 5 q1 0 = k2 at *
  obtain ⟨f2, q2, v⟩ := k2
  dsimp only
  by_cases c1 : f1 ≠ 0
  · rw [if_pos c1, if_pos c1]; exact ⟨rfl, fun z => absurd z c1⟩
  rw [if_neg c1, if_neg c1]
  by_cases c2 : ¬ (1 ≤ K / 8 ∧ K / 8 ≤ 31)
  · rw [if_pos c2, if_pos c2]; exact ⟨rfl, fun z => absurd (show (3 : Nat) = 0 from z) (by decide)⟩
  rw [if_neg c2, if_neg c2]
  by_cases c3 : ¬ (K % 8 = 0 ∨ K % 8 = 2 ∨ K % 8 = 5)
  · rw [if_pos c3, if_pos c3]; exact ⟨rfl, fun z => absurd (show (4 : Nat) = 0 from z) (by decide)⟩
  rw [if_neg c3, if_neg c3]
  by_cases c4 : K % 8 = 5
  · rw [if_pos c4, if_pos c4]
    by_cases c5 : e < q1 + 4
    · rw [if_pos c5, if_pos (by omega)]; exact ⟨rfl, fun z => absurd (show (1 : Nat) = 0 from z) (by decide)⟩
    · rw [if_neg c5, if_neg (by omega), v4_sh hb (by omega)]
      exact ⟨rfl, fun _ => ⟨Nat.add_assoc _ _ _, rfl⟩⟩
  rw [if_neg c4, if_neg c4]
  by_cases c5 : f2 ≠ 0
  · rw [if_pos c5, if_pos c5]; exact ⟨rfl, fun z => absurd z c5⟩
  rw [if_neg c5, if_neg c5]
  by_cases c6 : K % 8 = 2
  · rw [if_pos c6, if_pos c6]
    by_cases c7 : e < q2 + v
    · rw [if_pos c7, if_pos (by omega)]; exact ⟨rfl, fun z => absurd (show (1 : Nat) = 0 from z) (by decide)⟩
    · rw [if_neg c7, if_neg (by omega)]
      exact ⟨rfl, fun _ => ⟨Nat.add_assoc _ _ _, rfl⟩⟩
  · rw [if_neg c6, if_neg c6]
    exact ⟨rfl, fun _ => ⟨rfl, rfl⟩⟩
theorem prs_sh (hb : ∀ j, j < e → b (d + j) = b' j) (hb2 : ∀ j, b' j < 256) : ∀ n p, p ≤ e → prs b (d + e) n (d + p) = ((prs b' e n p).1, (prs b' e n p).2.1, if (prs b' e n p).2.1 = 0 then 0 else d + (prs b' e n p).2.2)
  | 0, p, _ => rfl
  | n + 1, p, hp => by
    obtain ⟨s1, s2⟩ := pf_sh hb hp
    unfold prs
    by_cases h1 : e ≤ p
    · rw [if_pos h1, if_pos (by omega)]
      rfl
    · rw [if_neg h1, if_neg (by omega), s1]
      by_cases h2 : (pf b' e p).1 = 0
      · obtain ⟨t1, t2⟩ := s2 h2
        obtain ⟨o1, o2, o3, o4, o5⟩ := pf_ok hb2 hp h2
        rw [if_pos h2, if_pos h2, t1, prs_sh hb hb2 n _ o4]
        have hm : mkf b (pf b (d + e) (d + p)) = mkf b' (pf b' e p) := by
          unfold mkf
          rw [t1, t2]
          by_cases h3 : (pf b' e p).2.2.2.1 = 2
          · rw [if_pos h3, if_pos h3]
            have h4 := o5 h3
            congr 3
            unfold bys
            refine List.map_congr_left (fun j hj => ?_)
            rw [List.mem_range] at hj
            rw [← hb _ (by omega)]
            congr 1
            omega
          · rw [if_neg h3, if_neg h3]
        rw [hm]
      · rw [if_neg h2, if_neg h2]
        dsimp only
        rw [if_neg h2]
end SH
/-- a row in an array, read -/
theorem prs_row {f : Nat → Int32} {d : Nat} {Y : List Nat} (h : rowAt (bt f) d Y) (hY : ∀ z ∈ Y, z < 256) : prs (bt f) (d + Y.length) 60 d = ((prsL Y).1, (prsL Y).2.1, if (prsL Y).2.1 = 0 then 0 else d + (prsL Y).2.2) := by
  have hb : ∀ j, (fun j => Y.getD j 0) j < 256 := by
    intro j
    show Y.getD j 0 < 256
    rcases Nat.lt_or_ge j Y.length with z | z
    · exact hY _ (getD_mem z)
    · rw [List.getD_eq_getElem?_getD, List.getElem?_eq_none z]; decide
  exact prs_sh (b := bt f) (b' := fun j => Y.getD j 0) (d := d) (e := Y.length) (fun j hj => h j hj) hb 60 0 (Nat.zero_le _)
theorem prsL_ok {Y : List Nat} (hY : ∀ z ∈ Y, z < 256) : (∀ x ∈ (prsL Y).1, okf x) ∧ (eL (prsL Y).1).length ≤ Y.length := by
  have hb : ∀ j, (fun j => Y.getD j 0) j < 256 := by
    intro j
    show Y.getD j 0 < 256
    rcases Nat.lt_or_ge j Y.length with z | z
    · exact hY _ (getD_mem z)
    · rw [List.getD_eq_getElem?_getD, List.getElem?_eq_none z]; decide
  have h1 := prs_ok (b := fun j => Y.getD j 0) (e := Y.length) hb 60 0 (Nat.zero_le _)
  refine ⟨h1.1, ?_⟩
  have h2 := h1.2
  rw [Nat.zero_add] at h2
  exact h2
theorem prs_le4 {b : Nat → Nat} {e : Nat} : ∀ n p, (prs b e n p).2.1 ≤ 4
  | 0, _ => Nat.zero_le _
  | n + 1, p => by
    unfold prs
    by_cases h1 : e ≤ p
    · rw [if_pos h1]; exact Nat.zero_le _
    · rw [if_neg h1]
      by_cases h2 : (pf b e p).1 = 0
      · rw [if_pos h2]; exact prs_le4 n _
      · rw [if_neg h2]; exact pf_f b e p
theorem prsL_le4 (Y : List Nat) : (prsL Y).2.1 ≤ 4 := prs_le4 _ _
section P5
variable {M : Nat} {h : mw_H} {g : mS} {I : Nat → Int32} {A : Nat → Nat → Int32}
end P5

/-! the reference's calls: clear, unknownTag, write, areSame, append, setPart -/
section P6
variable {M m s : Nat} {h : mw_H} {g : mS} {I : Nat → Int32} {A : Nat → Nat → Int32}
theorem unk_lt {K : Nat → Nat → Int32} {s : Nat} {L : List af} : 2 * unk K s L ≤ (eL L).length := by
  have h1 : unk K s L ≤ L.length := List.length_filter_le _ _
  have hlL : 2 * L.length ≤ (eL L).length := by
    clear h1
    induction L with
    | nil => exact Nat.zero_le _
    | cons y L ih2 =>
      have := ef_len2 y
      rw [eL_cons, List.length_append, List.length_cons]
      omega
  omega
theorem can_ok {K : Nat → Nat → Int32} {s : Nat} {L : List af} (h : ∀ x ∈ L, okf x) : ∀ x ∈ can K s L, okf x := fun x hx => h x (canU_mem hx)
end P6

/-! the reference's calls: areSame, write, append, setPart -/
section P7
variable {M m s : Nat} {h : mw_H} {g : mS} {I : Nat → Int32} {A : Nat → Nat → Int32}
end P7

/-! canonical bytes: seen in one pass -/
def b1 (c : Bool) : Nat := if c then 1 else 0
/-- tags don't fall, one known field for a tag at most, none with the default -/
def srt (K : Nat → Nat → Int32) (s : Nat) : Nat → Nat → List af → Prop
  | _, _, [] => True
  | bf, kn, x :: L => bf ≤ x.1 ∧ (if bf < x.1 then 0 else kn) + b1 (knb K s x) < 2 ∧ (knb K s x = true → dfb K s x.1 x = false) ∧ srt K s x.1 ((if bf < x.1 then 0 else kn) + b1 (knb K s x)) L
section OW
variable {K : Nat → Nat → Int32} {s : Nat}
theorem Pt_tag {t : Nat} {x : af} (hx : okf x) (ht : t < 2 ^ 31) (h : Pt K s (nI t) x = true) : x.1 = t ∧ knb K s x = true := by
  unfold Pt at h
  rw [Bool.and_eq_true, decide_eq_true_iff] at h
  obtain ⟨h1, h2⟩ := h
  rw [nI_eq (by have := hx.2.1; omega) ht] at h1
  exact ⟨h1, h2⟩
theorem Pt_of {t : Nat} {x : af} (h1 : x.1 = t) (h2 : knb K s x = true) : Pt K s (nI t) x = true := by
  unfold Pt
  rw [h1, h2, decide_eq_true rfl]
  rfl
theorem srt_ge : ∀ (L : List af) (bf kn : Nat), srt K s bf kn L → ∀ z ∈ L, bf ≤ z.1
  | [], _, _, _, z, hz => absurd hz List.not_mem_nil
  | x :: L, bf, kn, h, z, hz => by
    obtain ⟨h1, h2, h3, h4⟩ := h
    rcases List.mem_cons.mp hz with rfl | hz
    · exact h1
    · exact Nat.le_trans h1 (srt_ge L _ _ h4 z hz)
theorem srt_one {t : Nat} : ∀ (L : List af) (bf kn : Nat), (t < bf ∨ bf = t ∧ 1 ≤ kn) → srt K s bf kn L → ∀ z ∈ L, z.1 = t → knb K s z = false
  | [], _, _, _, _, z, hz, _ => absurd hz List.not_mem_nil
  | x :: L, bf, kn, hc, h, z, hz, hzt => by
    obtain ⟨h1, h2, h3, h4⟩ := h
    by_cases e : x.1 = t
    · have hb : bf = t ∧ 1 ≤ kn := by
        rcases hc with hc | hc
        · omega
        · exact hc
      rw [if_neg (by omega)] at h2 h4
      rcases List.mem_cons.mp hz with rfl | hz
      · cases hk : knb K s z with
        | false => rfl
        | true => rw [hk] at h2; exact absurd h2 (by show ¬ kn + 1 < 2; omega)
      · exact srt_one L _ _ (Or.inr ⟨e, by omega⟩) h4 z hz hzt
    · rcases List.mem_cons.mp hz with rfl | hz
      · exact absurd hzt e
      · exact srt_one L _ _ (Or.inl (by omega)) h4 z hz hzt
theorem srt_canT {t : Nat} (ht : t < 2 ^ 31) : ∀ (L : List af) (bf kn : Nat), (∀ x ∈ L, okf x) → srt K s bf kn L → canT K s t L = L.filter (fun x => decide (x.1 = t))
  | [], _, _, _, _ => rfl
  | x :: L, bf, kn, hok, h => by
    obtain ⟨h1, h2, h3, h4⟩ := h
    have hokL := fun z hz => hok z (List.mem_cons_of_mem x hz)
    have ih := srt_canT ht L _ _ hokL h4
    unfold canT
    rw [List.filter_cons, ih]
    by_cases e : x.1 = t
    · rw [if_pos (decide_eq_true e), if_pos]
      refine ⟨e, fun hk => ⟨fun z hz => ?_, by rw [← e]; exact h3 hk⟩⟩
      cases hP : Pt K s (nI t) z with
      | false => rfl
      | true =>
        obtain ⟨p1, p2⟩ := Pt_tag (hokL z hz) ht hP
        have := srt_one (t := t) L _ _ (Or.inr ⟨e, by rw [hk]; exact Nat.le_add_left _ _⟩) h4 z hz p1
        rw [this] at p2
        exact absurd p2 (by decide)
    · rw [if_neg (fun z => e z.1), if_neg (by rw [decide_eq_false e]; decide)]
theorem srt_fil (k : Nat) : ∀ (L : List af) (bf kn : Nat), srt K s bf kn L → L.filter (fun x => decide (x.1 ≤ k)) ++ L.filter (fun x => decide (x.1 = k + 1)) = L.filter (fun x => decide (x.1 ≤ k + 1))
  | [], _, _, _ => rfl
  | x :: L, bf, kn, h => by
    obtain ⟨h1, h2, h3, h4⟩ := h
    have ih := srt_fil k L _ _ h4
    have hge := srt_ge L _ _ h4
    rw [List.filter_cons, List.filter_cons, List.filter_cons]
    by_cases e : x.1 = k + 1
    · have hn : L.filter (fun x => decide (x.1 ≤ k)) = [] := List.filter_eq_nil_iff.mpr (fun z hz => by
        have := hge z hz
        rw [decide_eq_true_iff]
        omega)
      rw [hn, List.nil_append] at ih
      rw [if_neg (by rw [decide_eq_true_iff]; omega), if_pos (by rw [decide_eq_true_iff]; exact e), if_pos (by rw [decide_eq_true_iff]; omega), hn, ih, List.nil_append]
    · by_cases e2 : x.1 ≤ k
      · rw [if_pos (by rw [decide_eq_true_iff]; exact e2), if_neg (by rw [decide_eq_true_iff]; exact e), if_pos (by rw [decide_eq_true_iff]; omega), List.cons_append, ih]
      · rw [if_neg (by rw [decide_eq_true_iff]; exact e2), if_neg (by rw [decide_eq_true_iff]; exact e), if_neg (by rw [decide_eq_true_iff]; omega), ih]
theorem srt_canU {L : List af} (hok : ∀ x ∈ L, okf x) (h : srt K s 0 0 L) : ∀ k, k ≤ 31 → canU K s L k = L.filter (fun x => decide (x.1 ≤ k))
  | 0, _ => (List.filter_eq_nil_iff.mpr (fun z hz => by
      have := (hok z hz).1
      rw [decide_eq_true_iff]
      omega)).symm
  | k + 1, hk => by
    show canU K s L k ++ canT K s (k + 1) L = _
    rw [srt_canU hok h k (by omega), srt_canT (by omega) L 0 0 hok h, srt_fil k L 0 0 h]
/-- sorted fields are canonical .. -/
theorem srt_can {L : List af} (hok : ∀ x ∈ L, okf x) (h : srt K s 0 0 L) : can K s L = L := by
  unfold can
  rw [srt_canU hok h 31 (Nat.le_refl _)]
  exact List.filter_eq_self.mpr (fun z hz => decide_eq_true (hok z hz).2.1)
theorem canT_srt {t : Nat} (ht : t < 2 ^ 31) {R : List af} (hR : ∀ bf kn, bf ≤ t → srt K s bf kn R) : ∀ (N : List af) (bf kn : Nat), (∀ x ∈ N, okf x) → (bf < t ∨ bf = t ∧ (kn = 0 ∨ kn = 1 ∧ ∀ z ∈ N, Pt K s (nI t) z = false)) → srt K s bf kn (canT K s t N ++ R)
  | [], bf, kn, _, hc => hR bf kn (by omega)
  | x :: N, bf, kn, hok, hc => by
    have hokN := fun z hz => hok z (List.mem_cons_of_mem x hz)
    have hcN : bf < t ∨ bf = t ∧ (kn = 0 ∨ kn = 1 ∧ ∀ z ∈ N, Pt K s (nI t) z = false) := by
      rcases hc with h | ⟨h, h2 | ⟨h2, h3⟩⟩
      · exact Or.inl h
      · exact Or.inr ⟨h, Or.inl h2⟩
      · exact Or.inr ⟨h, Or.inr ⟨h2, fun z hz => h3 z (List.mem_cons_of_mem _ hz)⟩⟩
    unfold canT
    split
    · rename_i e
      obtain ⟨e1, e2⟩ := e
      have hkn : (if bf < x.1 then 0 else kn) = 0 ∨ ((if bf < x.1 then 0 else kn) = 1 ∧ bf = t ∧ ∀ z ∈ x :: N, Pt K s (nI t) z = false) := by
        by_cases z : bf < x.1
        · rw [if_pos z]; exact Or.inl rfl
        · rw [if_neg z]
          rcases hc with h | ⟨h, h2 | ⟨h2, h3⟩⟩
          · omega
          · exact Or.inl h2
          · exact Or.inr ⟨h2, h, h3⟩
      cases hk : knb K s x with
      | true =>
        obtain ⟨f1, f2⟩ := e2 hk
        have h0 : (if bf < x.1 then 0 else kn) = 0 := by
          rcases hkn with h | ⟨-, -, h⟩
          · exact h
          · have := h x List.mem_cons_self
            rw [Pt_of e1 hk] at this
            exact absurd this (by decide)
        refine ⟨by omega, by rw [hk, h0]; decide, fun _ => by rw [e1]; exact f2, ?_⟩
        rw [hk, h0, e1]
        exact canT_srt ht hR N t 1 hokN (Or.inr ⟨rfl, Or.inr ⟨rfl, f1⟩⟩)
      | false =>
        refine ⟨by omega, ?_, fun z => by rw [hk] at z; exact absurd z (by decide), ?_⟩
        · rw [hk]
          rcases hkn with h | ⟨h, -⟩
          · rw [h]; decide
          · rw [h]; decide
        · rw [hk, e1]
          rw [e1] at hkn
          rcases hkn with h | ⟨h, h2, h3⟩
          · rw [h]; exact canT_srt ht hR N t 0 hokN (Or.inr ⟨rfl, Or.inl rfl⟩)
          · rw [h]; exact canT_srt ht hR N t 1 hokN (Or.inr ⟨rfl, Or.inr ⟨rfl, fun z hz => h3 z (List.mem_cons_of_mem _ hz)⟩⟩)
    · exact canT_srt ht hR N bf kn hokN hcN
/-- the canonical fields from the tag t on, n tags -/
def canF (K : Nat → Nat → Int32) (s : Nat) (L : List af) : Nat → Nat → List af
  | _, 0 => []
  | t, n + 1 => canT K s t L ++ canF K s L (t + 1) n
theorem canF_U (L : List af) : ∀ n k, canU K s L k ++ canF K s L (k + 1) n = canU K s L (k + n)
  | 0, k => List.append_nil _
  | n + 1, k => by
    show canU K s L k ++ (canT K s (k + 1) L ++ canF K s L (k + 1 + 1) n) = _
    rw [← List.append_assoc]
    have := canF_U L n (k + 1)
    rw [show k + (n + 1) = k + 1 + n by omega]
    exact this
theorem canF_srt {L : List af} (hok : ∀ x ∈ L, okf x) : ∀ n t, t + n ≤ 32 → ∀ bf kn, bf < t → srt K s bf kn (canF K s L t n)
  | 0, t, _, _, _, _ => trivial
  | n + 1, t, h, bf, kn, hb => canT_srt (by omega) (fun bf' kn' h' => canF_srt hok n (t + 1) (by omega) bf' kn' (by omega)) L bf kn hok (Or.inl hb)
/-- .. and canonical ones are sorted -/
theorem can_srt {L C : List af} (hok : ∀ x ∈ L, okf x) (hC : can K s L = C) : srt K s 0 0 C := by
  have h := canF_U (K := K) (s := s) L 31 0
  have h2 : canF K s L 1 31 = C := h.trans hC
  have h3 := fun n (hn : n = 31) => canF_srt (K := K) (s := s) hok n 1 (by omega) 0 0 (by omega)
  obtain ⟨n, hn⟩ : ∃ n, n = 31 := ⟨31, rfl⟩
  rw [← hn] at h2
  rw [← h2]
  exact h3 n hn
end OW
/-- group numbers that take no more groups than are needed -/
theorem pg_min (b : Nat → Nat) (e : Nat) (hb : ∀ j, b j < 256) : ∀ r p v, r ≤ 4 → (pg b e (r + 1) p v).1 = 0 → ∃ U : Nat, (pg b e (r + 1) p v).2.2 = v + U * 2 ^ (7 * (4 - r)) ∧ p + (eg r U).length ≤ (pg b e (r + 1) p v).2.1 ∧ (p + (eg r U).length = (pg b e (r + 1) p v).2.1 → rowAt b p (eg r U)) := by
  have hone : ∀ (p x : Nat), b p = x → rowAt b p [x] := fun p x h j hj => by
    have hj : j < 1 := hj
    have hj : j = 0 := by omega
    subst hj
    exact h
  intro r
  induction r with
  | zero =>
    intro p v hr h0
    unfold pg at h0 ⊢
    by_cases h1 : p = e
    · rw [if_pos h1] at h0; exact absurd h0 Nat.one_ne_zero
    · rw [if_neg h1] at h0 ⊢
      by_cases h2 : 0 = 0 ∧ 15 < b p
      · rw [if_pos h2] at h0; exact absurd (show (2 : Nat) = 0 from h0) (by decide)
      · rw [if_neg h2] at h0 ⊢
        have h3 : b p < 128 := by omega
        rw [if_pos h3]
        exact ⟨b p, by rw [Nat.mod_eq_of_lt h3], Nat.le_refl _, fun _ => hone p _ rfl⟩
  | succ r ih =>
    intro p v hr h0
    unfold pg at h0 ⊢
    by_cases h1 : p = e
    · rw [if_pos h1] at h0; exact absurd h0 Nat.one_ne_zero
    · rw [if_neg h1] at h0 ⊢
      rw [if_neg (by omega)] at h0 ⊢
      by_cases h3 : b p < 128
      · rw [if_pos h3]
        have he : eg (r + 1) (b p) = [b p] := by
          unfold eg
          rw [if_pos (Nat.div_eq_of_lt h3)]
        refine ⟨b p, by rw [Nat.mod_eq_of_lt h3], by rw [he]; exact Nat.le_refl _, fun _ => by rw [he]; exact hone p _ rfl⟩
      · rw [if_neg h3] at h0 ⊢
        obtain ⟨U, u1, u2, u3⟩ := ih (p + 1) _ (by omega) h0
        have hm := Nat.mod_lt (b p) (show 0 < 128 by decide)
        have hd : (b p % 128 + 128 * U) / 128 = U := by omega
        have hd2 : (b p % 128 + 128 * U) % 128 = b p % 128 := by omega
        have hpos := eg_pos r U
        refine ⟨b p % 128 + 128 * U, ?_, ?_, ?_⟩
        · rw [u1, show 7 * (4 - r) = 7 + 7 * (4 - (r + 1)) by omega, Nat.pow_add, Nat.add_assoc]
          congr 1
          rw [Nat.add_mul]
          congr 1
          rw [← Nat.mul_assoc, Nat.mul_comm U]
        · unfold eg
          rw [hd]
          by_cases hU : U = 0
          · rw [if_pos hU]; show p + 1 ≤ _; omega
          · rw [if_neg hU, List.length_cons]; omega
        · intro hl
          unfold eg at hl ⊢
          rw [hd, hd2] at hl
          rw [hd, hd2]
          by_cases hU : U = 0
          · rw [if_pos hU] at hl
            have hl : p + 1 = _ := hl
            omega
          · rw [if_neg hU, List.length_cons] at hl
            rw [if_neg hU]
            have hrow := u3 (by omega)
            intro j hj
            cases j with
            | zero =>
              show b p = b p % 128 + 128
              have := hb p
              omega
            | succ j =>
              rw [List.length_cons] at hj
              have := hrow j (by omega)
              rw [show p + (j + 1) = p + 1 + j by omega]
              exact this
theorem pg_min5 {b : Nat → Nat} {e p : Nat} (hb : ∀ j, b j < 256) (h0 : (pg b e 5 p 0).1 = 0) : p + (egr (pg b e 5 p 0).2.2).length = (pg b e 5 p 0).2.1 → rowAt b p (egr (pg b e 5 p 0).2.2) := by
  obtain ⟨U, u1, u2, u3⟩ := pg_min b e hb 4 p 0 (Nat.le_refl _) h0
  have u1 : (pg b e 5 p 0).2.2 = 0 + U * 1 := u1
  rw [Nat.zero_add, Nat.mul_one] at u1
  rw [u1]
  exact u3
theorem row_four {b : Nat → Nat} (hb : ∀ j, b j < 256) (p : Nat) : rowAt b p (four (v4 b p)) := by
  intro j hj
  have hj : j < 4 := hj
  have h0 := hb p
  have h1 := hb (p + 1)
  have h2 := hb (p + 2)
  have h3 := hb (p + 3)
  have hj : j = 0 ∨ j = 1 ∨ j = 2 ∨ j = 3 := by omega
  have g4 : ∀ w x y z : Nat, [w, x, y, z].getD 0 0 = w ∧ [w, x, y, z].getD 1 0 = x ∧ [w, x, y, z].getD 2 0 = y ∧ [w, x, y, z].getD 3 0 = z := fun _ _ _ _ => ⟨rfl, rfl, rfl, rfl⟩
  unfold v4 four
  rcases hj with rfl | rfl | rfl | rfl
  · rw [(g4 _ _ _ _).1, Nat.add_zero]; omega
  · rw [(g4 _ _ _ _).2.1]; omega
  · rw [(g4 _ _ _ _).2.2.1]; omega
  · rw [(g4 _ _ _ _).2.2.2]; omega
/-- a field that takes no more bytes than are needed -/
theorem pf_min {b : Nat → Nat} {e p : Nat} (hb : ∀ j, b j < 256) (hp : p ≤ e) (h0 : (pf b e p).1 = 0) (hl : p + (ef (mkf b (pf b e p))).length = (pf b e p).2.1) : rowAt b p (ef (mkf b (pf b e p))) := by
  have hq1 := pg_le b e 5 p 0 hp
  have hl1 := fun z => pg_len (b := b) hp z
  have hm1 := fun z => pg_min5 (b := b) (e := e) (p := p) hb z
  unfold pf at h0 hl ⊢
  generalize hg : pg b e 5 p 0 = g at *
  obtain ⟨f1, q1, V⟩ := g
  dsimp only at hq1 hl1 hm1 h0 hl ⊢
  by_cases c1 : f1 ≠ 0
  · rw [if_pos c1] at h0; exact absurd h0 c1
  rw [if_neg c1] at h0 hl ⊢
  obtain ⟨l1, l2⟩ := hl1 (by omega)
  have m1 := hm1 (by omega)
  by_cases c2 : ¬ (1 ≤ V / 8 ∧ V / 8 ≤ 31)
  · rw [if_pos c2] at h0; exact absurd (show (3 : Nat) = 0 from h0) (by decide)
  rw [if_neg c2] at h0 hl ⊢
  by_cases c3 : ¬ (V % 8 = 0 ∨ V % 8 = 2 ∨ V % 8 = 5)
  · rw [if_pos c3] at h0; exact absurd (show (4 : Nat) = 0 from h0) (by decide)
  rw [if_neg c3] at h0 hl ⊢
  by_cases c4 : V % 8 = 5
  · rw [if_pos c4] at h0 hl ⊢
    by_cases c5 : e < q1 + 4
    · rw [if_pos c5] at h0; exact absurd (show (1 : Nat) = 0 from h0) (by decide)
    rw [if_neg c5] at hl ⊢
    have he : ef (mkf b (0, q1 + 4, V / 8, 5, v4 b q1)) = egr V ++ four (v4 b q1) := by
      show enum (V / 8) 5 (v4 b q1) ++ [] = _
      rw [List.append_nil]
      unfold enum
      rw [if_pos rfl, show 8 * (V / 8) + 5 = V by omega]
    rw [he] at hl ⊢
    rw [List.length_append] at hl
    have hl : p + ((egr V).length + 4) = q1 + 4 := hl
    rw [rowAt_app, show p + (egr V).length = q1 by omega]
    exact ⟨m1 (by omega), row_four hb q1⟩
  rw [if_neg c4] at h0 hl ⊢
  have hq2 := pg_le b e 5 q1 0 hq1.2
  have hl2 := fun z => pg_len (b := b) hq1.2 z
  have hm2 := fun z => pg_min5 (b := b) (e := e) (p := q1) hb z
  generalize pg b e 5 q1 0 = g2 at *
  obtain ⟨f2, q2, v⟩ := g2
  dsimp only at hq2 hl2 hm2 h0 hl ⊢
  by_cases c5 : f2 ≠ 0
  · rw [if_pos c5] at h0; exact absurd h0 c5
  rw [if_neg c5] at h0 hl ⊢
  obtain ⟨l3, l4⟩ := hl2 (by omega)
  have m2 := hm2 (by omega)
  by_cases c6 : V % 8 = 2
  · rw [if_pos c6] at h0 hl ⊢
    by_cases c7 : e < q2 + v
    · rw [if_pos c7] at h0; exact absurd (show (1 : Nat) = 0 from h0) (by decide)
    rw [if_neg c7] at hl ⊢
    have he : ef (mkf b (0, q2 + v, V / 8, 2, v)) = (egr V ++ egr v) ++ bys b (q2 + v - v) v := by
      show enum (V / 8) 2 v ++ _ = _
      unfold enum
      rw [if_neg (by decide), show 8 * (V / 8) + 2 = V by omega]
      rfl
    rw [he] at hl ⊢
    rw [List.length_append, List.length_append, bys_len] at hl
    have hl : p + ((egr V).length + (egr v).length + v) = q2 + v := hl
    rw [rowAt_app, rowAt_app, List.length_append, show p + (egr V).length = q1 by omega, show p + ((egr V).length + (egr v).length) = q2 + v - v by omega]
    exact ⟨⟨m1 (by omega), m2 (by omega)⟩, bys_row _ _ _⟩
  · rw [if_neg c6] at hl ⊢
    have he : ef (mkf b (0, q2, V / 8, 0, v)) = egr V ++ egr v := by
      show enum (V / 8) 0 v ++ [] = _
      rw [List.append_nil]
      unfold enum
      rw [if_neg (by decide), show 8 * (V / 8) + 0 = V by omega]
    rw [he] at hl ⊢
    rw [List.length_append] at hl
    have hl : p + ((egr V).length + (egr v).length) = q2 := hl
    rw [rowAt_app, show p + (egr V).length = q1 by omega]
    exact ⟨m1 (by omega), m2 (by omega)⟩
theorem prs_min {b : Nat → Nat} {e : Nat} (hb : ∀ j, b j < 256) : ∀ (n p : Nat), p ≤ e → (prs b e n p).2.1 = 0 → p + (eL (prs b e n p).1).length = e → rowAt b p (eL (prs b e n p).1)
  | 0, p, _, _, _ => fun j hj => absurd hj (Nat.not_lt_zero _)
  | n + 1, p, hp, h0, hl => by
    unfold prs at h0 hl ⊢
    by_cases h1 : e ≤ p
    · rw [if_pos h1]; exact fun j hj => absurd hj (Nat.not_lt_zero _)
    · rw [if_neg h1] at h0 hl ⊢
      by_cases h2 : (pf b e p).1 = 0
      · rw [if_pos h2] at h0 hl ⊢
        obtain ⟨o1, o2, o3, o4, -⟩ := pf_ok hb hp h2
        obtain ⟨i1, i2⟩ := prs_ok hb n (pf b e p).2.1 o4
        rw [eL_cons, List.length_append] at hl
        rw [eL_cons, rowAt_app]
        have hq : p + (ef (mkf b (pf b e p))).length = (pf b e p).2.1 := by omega
        refine ⟨pf_min hb hp h2 hq, ?_⟩
        rw [hq]
        exact prs_min hb n _ o4 h0 (by omega)
      · rw [if_neg h2] at h0; exact absurd h0 h2
theorem getD_lt {Y : List Nat} (hY : ∀ z ∈ Y, z < 256) (j : Nat) : (fun j => Y.getD j 0) j < 256 := by
  show Y.getD j 0 < 256
  rcases Nat.lt_or_ge j Y.length with z | z
  · exact hY _ (getD_mem z)
  · rw [List.getD_eq_getElem?_getD, List.getElem?_eq_none z]; decide
theorem prsL_min {Y : List Nat} (hY : ∀ z ∈ Y, z < 256) (h0 : (prsL Y).2.1 = 0) (hl : (eL (prsL Y).1).length = Y.length) : eL (prsL Y).1 = Y := by
  have h := prs_min (b := fun j => Y.getD j 0) (e := Y.length) (getD_lt hY) 60 0 (Nat.zero_le _) h0 (by rw [Nat.zero_add]; exact hl)
  refine eq_getD hl (fun k hk => ?_)
  have h1 := h k hk
  rw [Nat.zero_add] at h1
  exact h1.symm
theorem ef_half : ∀ L : List af, 2 * L.length ≤ (eL L).length
  | [] => Nat.zero_le _
  | x :: L => by
    have := ef_len2 x
    have := ef_half L
    rw [eL_cons, List.length_append, List.length_cons]
    omega
theorem prsL_eL {L : List af} (hok : ∀ x ∈ L, okf x) (hl : (eL L).length ≤ 120) : prsL (eL L) = (L, 0, 0) := by
  have := ef_half L
  exact prs_eL L 60 0 hok (by omega) (Nat.zero_add _) (fun j _ => by rw [Nat.zero_add])
/-- fields are known by their bytes -/
theorem eL_inj {L L' : List af} (h1 : ∀ x ∈ L, okf x) (h2 : ∀ x ∈ L', okf x) (hl : (eL L).length ≤ 120) (h : eL L = eL L') : L = L' := by
  have e1 := prsL_eL h1 hl
  have e2 := prsL_eL h2 (by rw [← h]; exact hl)
  rw [h, e2] at e1
  exact (congrArg (·.1) e1).symm
theorem own_can {K : Nat → Nat → Int32} {s : Nat} {Y : List Nat} {L C : List af} (p1 : ∀ x ∈ L, okf x) (p2 : (eL L).length ≤ Y.length) (hm : (eL L).length = Y.length → eL L = Y) (hl : Y.length ≤ 120) (hC : can K s L = C) : (eL C = Y) ↔ ((eL L).length = Y.length ∧ srt K s 0 0 L) := by
  have hs := can_srt p1 hC
  have hss : srt K s 0 0 L → C = L := fun z => hC.symm.trans (srt_can p1 z)
  have hle : (eL C).length ≤ (eL L).length := by rw [← hC]; exact canU_le K s L 31
  have hcok : ∀ x ∈ C, okf x := by rw [← hC]; exact can_ok p1
  clear hC
  constructor
  · intro h2
    rw [h2] at hle
    have hlen : (eL L).length = Y.length := Nat.le_antisymm p2 hle
    have hmin := hm hlen
    have hinj : C = L := eL_inj hcok p1 (by rw [h2]; exact hl) (h2.trans hmin.symm)
    refine ⟨hlen, ?_⟩
    rw [hinj] at hs
    exact hs
  · rintro ⟨h2, h3⟩
    rw [hss h3]
    exact hm h2
/-- the tape is canonical just if one pass finds nothing -/
theorem own_iff {K : Nat → Nat → Int32} {s : Nat} {Y : List Nat} (hY : ∀ z ∈ Y, z < 256) (hl : Y.length ≤ 120) (h1 : (prsL Y).2.1 = 0) : (eL (can K s (prsL Y).1) = Y) ↔ ((eL (prsL Y).1).length = Y.length ∧ srt K s 0 0 (prsL Y).1) :=
  own_can (prsL_ok hY).1 (prsL_ok hY).2 (fun z2 => prsL_min hY h1 z2) hl rfl

/-! the reference: isOwn, isCanonical -/
def OWN (K : Nat → Nat → Int32) (s : Nat) (b : Nat → Nat) (e N p bf kn : Nat) : Prop := (prs b e N p).2.1 = 0 ∧ p + (eL (prs b e N p).1).length = e ∧ srt K s bf kn (prs b e N p).1
theorem OWN_step {K : Nat → Nat → Int32} {s : Nat} {b : Nat → Nat} (hb : ∀ j, b j < 256) {e N p bf kn : Nat} (hp : p < e) (h0 : (pf b e p).1 = 0) : OWN K s b e (N + 1) p bf kn ↔ ((p + (ef (mkf b (pf b e p))).length = (pf b e p).2.1 ∧ bf ≤ (mkf b (pf b e p)).1) ∧ (if bf < (mkf b (pf b e p)).1 then 0 else kn) + b1 (knb K s (mkf b (pf b e p))) < 2 ∧ (knb K s (mkf b (pf b e p)) = true → dfb K s (mkf b (pf b e p)).1 (mkf b (pf b e p)) = false) ∧ OWN K s b e N (pf b e p).2.1 (mkf b (pf b e p)).1 ((if bf < (mkf b (pf b e p)).1 then 0 else kn) + b1 (knb K s (mkf b (pf b e p))))) := by
  obtain ⟨o1, o2, o3, o4, -⟩ := pf_ok hb (Nat.le_of_lt hp) h0
  obtain ⟨i1, i2⟩ := prs_ok hb N (pf b e p).2.1 o4
  unfold OWN
  have hu : prs b e (N + 1) p = (mkf b (pf b e p) :: (prs b e N (pf b e p).2.1).1, (prs b e N (pf b e p).2.1).2) := by
    show (if e ≤ p then _ else if _ then _ else _) = _
    rw [if_neg (by omega), if_pos h0]
  rw [hu]
  generalize prs b e N (pf b e p).2.1 = r at *
  generalize mkf b (pf b e p) = x at *
  generalize (pf b e p).2.1 = q at *
  show (r.2.1 = 0 ∧ p + (eL (x :: r.1)).length = e ∧ (bf ≤ x.1 ∧ _ < 2 ∧ _ ∧ _)) ↔ _
  rw [eL_cons, List.length_append]
  constructor
  · rintro ⟨a1, a2, a3, a4, a5, a6⟩
    exact ⟨⟨by omega, a3⟩, a4, a5, a1, by omega, a6⟩
  · rintro ⟨⟨a2, a3⟩, a4, a5, a1, a7, a6⟩
    exact ⟨a1, by omega, a3, a4, a5, a6⟩
theorem OWN_end {K : Nat → Nat → Int32} {s : Nat} {b : Nat → Nat} {e N p bf kn : Nat} (hp : p = e) : OWN K s b e N p bf kn := by
  unfold OWN
  have hu : prs b e N p = ([], 0, 0) := by
    cases N with
    | zero => rfl
    | succ N =>
      show (if e ≤ p then _ else _) = _
      rw [if_pos (by omega)]
  rw [hu]
  exact ⟨rfl, hp, trivial⟩
theorem OWN_flt {K : Nat → Nat → Int32} {s : Nat} {b : Nat → Nat} {e N p bf kn : Nat} (hp : p < e) (h0 : (pf b e p).1 ≠ 0) : ¬ OWN K s b e (N + 1) p bf kn := by
  rintro ⟨a1, -⟩
  have hu : prs b e (N + 1) p = ([], (pf b e p).1, p) := by
    show (if e ≤ p then _ else if _ then _ else _) = _
    rw [if_neg (by omega), if_neg h0]
  rw [hu] at a1
  exact h0 a1
section P8
variable {M s : Nat} {h : mw_H} {g : mS} {I : Nat → Int32} {A : Nat → Nat → Int32}
theorem srt_cong {A K : Nat → Nat → Int32} (h : A 1 = K 1) (h3 : A 3 = K 3) {s : Nat} : ∀ (L : List af) (bf kn : Nat), srt A s bf kn L ↔ srt K s bf kn L
  | [], _, _ => Iff.rfl
  | x :: L, bf, kn => by
    show (bf ≤ x.1 ∧ _ ∧ _ ∧ srt A s _ _ L) ↔ (bf ≤ x.1 ∧ _ ∧ _ ∧ srt K s _ _ L)
    rw [knb_cong h, dfb_cong h h3, srt_cong h h3 L]
end P8

