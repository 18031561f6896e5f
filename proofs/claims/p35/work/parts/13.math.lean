/-! bytes: a group number, read -/
/-- r groups are left, v is what has been read: (fault, the next place, the value) -/
def pg (b : Nat → Nat) (e : Nat) : Nat → Nat → Nat → Nat × Nat × Nat
  | 0, p, v => (0, p, v)
  | r + 1, p, v => if p = e then (1, p, 0) else if r = 0 ∧ 15 < b p then (2, p + 1, 0) else if b p < 128 then (0, p + 1, v + b p % 128 * 2 ^ (7 * (4 - r))) else pg b e r (p + 1) (v + b p % 128 * 2 ^ (7 * (4 - r)))
theorem mb_grp {v c k : Nat} (hk : k ≤ 4) (hc : c < 256) (h4 : k = 4 → c ≤ 15) (hv : v < 2 ^ (7 * k)) : nI v ||| ((nI c &&& 127) <<< ((7 * nI k) &&& 31)) = nI (v + c % 128 * 2 ^ (7 * k)) := by
  have e1 : nI c &&& 127 = nI (c % 2 ^ 7) := pk_andN (by omega) 7 (by decide)
  rw [e1, Int32.or_comm]
  have hk' : k = 0 ∨ k = 1 ∨ k = 2 ∨ k = 3 ∨ k = 4 := by omega
  rcases hk' with rfl | rfl | rfl | rfl | rfl
  · rw [pk_shlN _ 0 (by decide) (by omega), Nat.mul_comm, fa_or_sum (k := 0) _ hv]
    congr 1; omega
  · rw [pk_shlN _ 7 (by decide) (by omega), Nat.mul_comm, fa_or_sum (k := 7) _ hv]
    congr 1; omega
  · rw [pk_shlN _ 14 (by decide) (by omega), Nat.mul_comm, fa_or_sum (k := 14) _ hv]
    congr 1; omega
  · rw [pk_shlN _ 21 (by decide) (by omega), Nat.mul_comm, fa_or_sum (k := 21) _ hv]
    congr 1; omega
  · have := h4 rfl
    rw [pk_shlN _ 28 (by decide) (by omega), Nat.mul_comm, fa_or_sum (k := 28) _ hv]
    congr 1; omega
theorem pg_le (b : Nat → Nat) (e : Nat) : ∀ r p v, p ≤ e → p ≤ (pg b e r p v).2.1 ∧ (pg b e r p v).2.1 ≤ e
  | 0, p, v, h => ⟨Nat.le_refl _, h⟩
  | r + 1, p, v, h => by
    unfold pg
    by_cases h1 : p = e
    · rw [if_pos h1]; exact ⟨Nat.le_refl _, h⟩
    · rw [if_neg h1]
      by_cases h2 : r = 0 ∧ 15 < b p
      · rw [if_pos h2]; exact ⟨Nat.le_succ _, by show p + 1 ≤ e; omega⟩
      · rw [if_neg h2]
        by_cases h3 : b p < 128
        · rw [if_pos h3]; exact ⟨Nat.le_succ _, by show p + 1 ≤ e; omega⟩
        · rw [if_neg h3]
          have := pg_le b e r (p + 1) (v + b p % 128 * 2 ^ (7 * (4 - r))) (by omega)
          exact ⟨by omega, this.2⟩
theorem pg_lt (b : Nat → Nat) (e : Nat) (hb : ∀ p, b p < 256) : ∀ r p v, r ≤ 5 → v < 2 ^ (7 * (5 - r)) → (r = 0 → v < 2 ^ 32) → (pg b e r p v).2.2 < 2 ^ 32
  | 0, p, v, _, _, h => h rfl
  | r + 1, p, v, hr, h, _ => by
    have hk : 5 - (r + 1) = 4 - r := by omega
    rw [hk] at h
    have hm := Nat.mod_lt (b p) (show 0 < 128 by decide)
    have hr0 : 4 - r + 1 = 5 - r := by omega
    have hv2 : v + b p % 128 * 2 ^ (7 * (4 - r)) < 2 ^ (7 * (5 - r)) := by
      rw [← hr0, show 7 * (4 - r + 1) = 7 * (4 - r) + 7 by omega, Nat.pow_add]
      have h3 : b p % 128 * 2 ^ (7 * (4 - r)) ≤ 127 * 2 ^ (7 * (4 - r)) := Nat.mul_le_mul_right _ (by omega)
      omega
    have hv3 : ¬ (r = 0 ∧ 15 < b p) → r = 0 → v + b p % 128 * 2 ^ (7 * (4 - r)) < 2 ^ 32 := by
      intro hq z
      subst z
      have : b p ≤ 15 := by omega
      have h4 : b p % 128 = b p := Nat.mod_eq_of_lt (by omega)
      rw [h4]
      have h : v < 268435456 := h
      show v + b p * 268435456 < 4294967296
      clear hv2
      omega
    unfold pg
    by_cases h1 : p = e
    · rw [if_pos h1]; exact Nat.le_of_ble_eq_true rfl
    · rw [if_neg h1]
      by_cases h2 : r = 0 ∧ 15 < b p
      · rw [if_pos h2]; exact Nat.le_of_ble_eq_true rfl
      · rw [if_neg h2]
        by_cases h3 : b p < 128
        · rw [if_pos h3]
          show v + b p % 128 * 2 ^ (7 * (4 - r)) < 2 ^ 32
          by_cases z : r = 0
          · exact hv3 h2 z
          · have h7 : (2 : Nat) ^ (7 * (5 - r)) ≤ 2 ^ 32 := Nat.pow_le_pow_right (by decide) (by omega)
            omega
        · rw [if_neg h3]
          exact pg_lt b e hb r (p + 1) _ (by omega) hv2 (hv3 h2)
theorem mw_top {y : mw_M} {d kc ks pc : Nat} {ls : List (Option Value)} {st : List Value} {h : mw_H} {Po : mw_P} {x v : Int32} (e : x = v) (k : mw_W y d kc ks pc ls (.int v :: st) h Po) : mw_W y d kc ks pc ls (.int x :: st) h Po := by
  subst e
  exact k
/-- a method of class 7 by its walk -/
theorem gm_con {y : mw_M} {d kc ks : Nat} {ls : List (Option Value)} {h : mw_H} {Po : mw_P} {as : List Value} (hy : plainName y.1.cls = true) (hn : y.2.2.2.2 = []) (hcat : as.all (fun v => v.category == 1) = true) (hlen : as.length ≤ y.2.2.1) (hls : as.map some ++ List.replicate (y.2.2.1 - as.length) none = ls) (w : mw_W y d kc ks 0 ls [] h Po) : mw_Con y d kc ks as h Po :=
  mw_con hy hn (fun v hv => by have h9 := List.all_eq_true.mp hcat v hv; simpa using h9) hlen hls w
/-- at := q, fault := f where there is one -/
def gI (I : Nat → Int32) (f q : Nat) : Nat → Int32 := upd (if f = 0 then I else upd I 12 (nI f)) 11 (nI q)
theorem gI_same {I : Nat → Int32} {p : Nat} (h : I 11 = nI p) : gI I 0 p = I := by
  unfold gI
  rw [if_pos rfl]
  exact fa_upd_same h
theorem gI_one {I : Nat → Int32} {f p : Nat} (hf : f ≠ 0) (h : I 11 = nI p) : gI I f p = upd I 12 (nI f) := by
  unfold gI
  rw [if_neg hf]
  exact fa_upd_same (by rw [← h]; exact pk_un (by decide))
theorem gI_at {I : Nat → Int32} {f q : Nat} {x : Int32} : gI (upd I 11 x) f q = gI I f q := by
  unfold gI
  funext j
  simp only [upd]
  by_cases hj : j = 11
  · rw [if_pos hj, if_pos hj]
  · rw [if_neg hj, if_neg hj]
    by_cases hf : f = 0
    · rw [if_pos hf, if_pos hf]
      exact pk_un hj
    · rw [if_neg hf, if_neg hf]
      simp only [upd, if_neg hj]
section GRP
variable {M q n e : Nat} {h : mw_H} {A : Nat → Nat → Int32} {f : Nat → Int32} {b : Nat → Nat}
end GRP

/-! the reference's small methods -/
def zIn (v lo hi : Int32) : Int32 := if v < lo then 0 else if hi < v then 0 else 1
def zTag (t : Int32) : Int32 := zIn t 1 31
def zInt (k : Int32) : Int32 := zIn k 0 2
def zHas (k : Int32) : Int32 := if k = 3 then 1 else if k = 4 then 1 else 0
def zType (k : Int32) : Int32 := if k = 2 then 5 else if k = 0 then 0 else if k = 1 then 0 else 2
def zStF (k v : Int32) : Int32 := if k = 1 then (v.toUInt32 >>> ((1 : Int32).toUInt32 &&& Int32.toUInt32 31)).toInt32 ^^^ -(v &&& 1) else v
def zStA (k v : Int32) : Int32 := if k = 1 then (v <<< ((1 : Int32) &&& 31)) ^^^ (v >>> ((31 : Int32) &&& 31)) else v
theorem zIn_1 {v lo hi : Int32} (h : zIn v lo hi ≠ 0) : lo ≤ v ∧ v ≤ hi := by
  unfold zIn at h
  by_cases h1 : v < lo
  · rw [if_pos h1] at h; exact absurd rfl h
  · rw [if_neg h1] at h
    by_cases h2 : hi < v
    · rw [if_pos h2] at h; exact absurd rfl h
    · exact ⟨fa_of_nlt h1, fa_of_nlt h2⟩
theorem zIn_01 (v lo hi : Int32) : zIn v lo hi = 0 ∨ zIn v lo hi = 1 := by
  unfold zIn
  by_cases h1 : v < lo
  · rw [if_pos h1]; exact Or.inl rfl
  · rw [if_neg h1]
    by_cases h2 : hi < v
    · rw [if_pos h2]; exact Or.inl rfl
    · rw [if_neg h2]; exact Or.inr rfl
theorem nb_in (v lo hi : Int32) : narrow .boolean (.int (zIn v lo hi)) = .int (zIn v lo hi) := by
  rcases zIn_01 v lo hi with e | e <;> rw [e] <;> rfl
theorem nI_of3 {x M : Int32} {n : Nat} (hM : M = nI n) (hn : n < 2 ^ 31) (h0 : 0 ≤ x) (h : x ≤ M) : ∃ j : Nat, j ≤ n ∧ x = nI j := by
  rw [hM] at h
  have h1 : 0 ≤ x.toInt := by rw [Int32.le_iff_toInt_le] at h0; simpa using h0
  have h2 : x.toInt ≤ n := by rw [Int32.le_iff_toInt_le, nI_toInt hn] at h; exact h
  refine ⟨x.toInt.toNat, by omega, ?_⟩
  apply Int32.toInt_inj.mp
  rw [nI_toInt (by omega)]
  omega
theorem zTag_nI {t : Int32} (h : zTag t ≠ 0) : ∃ j : Nat, 1 ≤ j ∧ j ≤ 31 ∧ t = nI j := by
  obtain ⟨h1, h2⟩ := zIn_1 h
  obtain ⟨j, hj, rfl⟩ := nI_of3 (M := 31) (n := 31) rfl (by decide) (by rw [Int32.le_iff_toInt_le] at h1 ⊢; exact Int.le_trans (by decide) h1) h2
  refine ⟨j, ?_, hj, rfl⟩
  rcases Nat.eq_zero_or_pos j with z | z
  · subst z; exact absurd h1 (by decide)
  · exact z
theorem zTag_of {j : Nat} (h1 : 1 ≤ j) (h2 : j ≤ 31) : zTag (nI j) = 1 := by
  unfold zTag zIn
  rw [if_neg (by rw [show (1 : Int32) = nI 1 from rfl]; exact nI_nlt h1 (by omega)), if_neg (by rw [show (31 : Int32) = nI 31 from rfl]; exact nI_nlt h2 (by omega))]
theorem zTag_big {j : Nat} (h : ¬ (1 ≤ j ∧ j ≤ 31)) (hj : j < 2 ^ 31) : zTag (nI j) = 0 := by
  unfold zTag zIn
  by_cases h0 : j = 0
  · subst h0; rfl
  · rw [if_neg (by rw [show (1 : Int32) = nI 1 from rfl]; exact nI_nlt (by omega) (by omega)), if_pos (by rw [show (31 : Int32) = nI 31 from rfl]; exact nI_lt (by omega) hj)]
theorem mx_32 (s t : Nat) : 32 * nI s + nI t = nI (32 * s + t) := by
  rw [show (32 : Int32) = nI 32 from rfl, pk_mul, nI_add]
theorem mx_120 (s t : Nat) : 120 * nI s + nI t = nI (120 * s + t) := by
  rw [show (120 : Int32) = nI 120 from rfl, pk_mul, nI_add]
theorem mx_120m (s : Nat) : 120 * nI s = nI (120 * s) := by
  rw [show (120 : Int32) = nI 120 from rfl, pk_mul]
section R2
variable {M : Nat} {h : mw_H} {I : Nat → Int32} {A : Nat → Nat → Int32}
/-- whether s is a schema -/
def zSch (I : Nat → Int32) (s : Int32) : Int32 := zIn s 0 (I 1 - 1)
/-- whether m is a message -/
def zMes (A : Nat → Nat → Int32) (m : Int32) : Int32 := if zIn m 0 11 = 0 then 0 else if A 4 m.toNatClampNeg = 0 then 0 else 1
/-- the kind of a tag in the schema s -/
def zKind (A : Nat → Nat → Int32) (s : Nat) (t : Int32) : Int32 := if zTag t = 0 then -1 else A 1 (32 * s + t.toNatClampNeg)
/-- whether the field that was read last is known to the schema s -/
def zKn (A : Nat → Nat → Int32) (s : Nat) (tag type : Int32) : Int32 := if zKind A s tag = -1 then 0 else if zType (zKind A s tag) = type then 1 else 0
end R2

/-! writing: group numbers, numbers, fields -/
/-- the groups of v, at most r + 1 of them -/
def eg : Nat → Nat → List Nat
  | 0, v => [v]
  | r + 1, v => if v / 128 = 0 then [v] else (v % 128 + 128) :: eg r (v / 128)
def egr (v : Nat) : List Nat := eg 4 v
def four (v : Nat) : List Nat := [v % 256, v / 256 % 256, v / 65536 % 256, v / 16777216 % 256]
/-- a key and a number -/
def enum (tag type v : Nat) : List Nat := egr (8 * tag + type) ++ if type = 5 then four v else egr v
/-- X is written from the place w on -/
def wr (f : Nat → Int32) (w : Nat) (X : List Nat) : Nat → Int32 := fun j => if w ≤ j ∧ j < w + X.length then nI (X.getD (j - w) 0) else f j
theorem wr_nil (f : Nat → Int32) (w : Nat) : wr f w [] = f := by
  funext j
  show (if _ then _ else _) = _
  exact if_neg (by show ¬ (w ≤ j ∧ j < w + 0); omega)
theorem wr_one (f : Nat → Int32) (w x : Nat) : wr f w [x] = upd f w (nI x) := by
  funext j
  show (if w ≤ j ∧ j < w + 1 then _ else _) = if j = w then _ else _
  by_cases e : j = w
  · subst e
    rw [if_pos ⟨Nat.le_refl _, Nat.lt_succ_self _⟩, if_pos rfl, Nat.sub_self]
    rfl
  · rw [if_neg (by omega), if_neg e]
theorem wr_app (f : Nat → Int32) (w : Nat) (X Y : List Nat) : wr (wr f w X) (w + X.length) Y = wr f w (X ++ Y) := by
  funext j
  show (if w + X.length ≤ j ∧ j < w + X.length + Y.length then nI (Y.getD (j - (w + X.length)) 0) else if w ≤ j ∧ j < w + X.length then nI (X.getD (j - w) 0) else f j) = if w ≤ j ∧ j < w + (X ++ Y).length then nI ((X ++ Y).getD (j - w) 0) else f j
  rw [List.length_append]
  by_cases e1 : w + X.length ≤ j ∧ j < w + X.length + Y.length
  · rw [if_pos e1, if_pos (by omega)]
    congr 1
    rw [List.getD_eq_getElem?_getD, List.getD_eq_getElem?_getD, List.getElem?_append_right (by omega)]
    congr 2
    omega
  · rw [if_neg e1]
    by_cases e2 : w ≤ j ∧ j < w + X.length
    · rw [if_pos e2, if_pos (by omega)]
      congr 1
      rw [List.getD_eq_getElem?_getD, List.getD_eq_getElem?_getD, List.getElem?_append_left (by omega)]
    · rw [if_neg e2, if_neg (by omega)]
theorem eg_len : ∀ r v, (eg r v).length ≤ r + 1
  | 0, v => Nat.le_refl _
  | r + 1, v => by
    unfold eg
    by_cases e : v / 128 = 0
    · rw [if_pos e]; exact Nat.succ_le_succ (Nat.zero_le _)
    · rw [if_neg e]; exact Nat.succ_le_succ (eg_len r (v / 128))
theorem eg_pos : ∀ r v, 0 < (eg r v).length
  | 0, v => Nat.succ_pos _
  | r + 1, v => by
    unfold eg
    by_cases e : v / 128 = 0
    · rw [if_pos e]; exact Nat.succ_pos _
    · rw [if_neg e]; exact Nat.succ_pos _
theorem mb_ush7 {v : Nat} (hv : v < 2 ^ 32) : ((nI v).toUInt32 >>> ((7 : Int32).toUInt32 &&& Int32.toUInt32 31)).toInt32 = nI (v / 128) := pk_ushrN hv 7 7 (by decide)
theorem mb_and127 {v : Nat} (hv : v < 2 ^ 32) : nI v &&& 127 = nI (v % 128) := pk_andN hv 7 (by decide)
theorem mb_or128 {v : Nat} (hv : v < 128) : nI v ||| 128 = nI (v + 128) := by
  rw [Int32.or_comm, show (128 : Int32) = nI (2 ^ 7 * 1) from rfl, fa_or_sum (k := 7) 1 hv]
  congr 1; omega
theorem nI_ne0' {n : Nat} (hn : n < 2 ^ 32) (h0 : nI n = 0) : n = 0 := by
  have h1 : (nI n).toBitVec.toNat = (nI 0).toBitVec.toNat := by rw [h0]; rfl
  rw [pk_tn hn, pk_tn (by decide)] at h1
  exact h1
section R3
variable {M : Nat} {h : mw_H} {I : Nat → Int32} {A : Nat → Nat → Int32} {w : Nat}
theorem mb_byte {v k : Nat} (hv : v < 2 ^ 32) (hk : k < 4) : ((nI v).toUInt32 >>> ((8 * nI k).toUInt32 &&& Int32.toUInt32 31)).toInt32 &&& 255 = nI (v / 2 ^ (8 * k) % 256) := by
  have hk' : k = 0 ∨ k = 1 ∨ k = 2 ∨ k = 3 := by omega
  rcases hk' with rfl | rfl | rfl | rfl
  · rw [pk_ushrN hv _ 0 (by decide), pk_andN (by omega) 8 (by decide)]
  · rw [pk_ushrN hv _ 8 (by decide), pk_andN (by omega) 8 (by decide)]
  · rw [pk_ushrN hv _ 16 (by decide), pk_andN (by omega) 8 (by decide)]
  · rw [pk_ushrN hv _ 24 (by decide), pk_andN (by omega) 8 (by decide)]
theorem four_take (v : Nat) {k : Nat} (hk : k < 4) : (four v).take (k + 1) = (four v).take k ++ [v / 2 ^ (8 * k) % 256] := by
  have hk' : k = 0 ∨ k = 1 ∨ k = 2 ∨ k = 3 := by omega
  rcases hk' with rfl | rfl | rfl | rfl
  · show [v % 256] = [v / 1 % 256]
    rw [Nat.div_one]
  · rfl
  · rfl
  · rfl
end R3

/-! a field, read and written -/
def v4 (b : Nat → Nat) (p : Nat) : Nat := b p + b (p + 1) * 256 + b (p + 2) * 65536 + b (p + 3) * 16777216
/-- (fault, the next place, tag, type, value) -/
def pf (b : Nat → Nat) (e p : Nat) : Nat × Nat × Nat × Nat × Nat :=
  if (pg b e 5 p 0).1 ≠ 0 then ((pg b e 5 p 0).1, 0, 0, 0, 0)
  else if ¬ (1 ≤ (pg b e 5 p 0).2.2 / 8 ∧ (pg b e 5 p 0).2.2 / 8 ≤ 31) then (3, 0, 0, 0, 0)
  else if ¬ ((pg b e 5 p 0).2.2 % 8 = 0 ∨ (pg b e 5 p 0).2.2 % 8 = 2 ∨ (pg b e 5 p 0).2.2 % 8 = 5) then (4, 0, 0, 0, 0)
  else if (pg b e 5 p 0).2.2 % 8 = 5 then if e < (pg b e 5 p 0).2.1 + 4 then (1, 0, 0, 0, 0) else (0, (pg b e 5 p 0).2.1 + 4, (pg b e 5 p 0).2.2 / 8, 5, v4 b (pg b e 5 p 0).2.1)
  else if (pg b e 5 (pg b e 5 p 0).2.1 0).1 ≠ 0 then ((pg b e 5 (pg b e 5 p 0).2.1 0).1, 0, 0, 0, 0)
  else if (pg b e 5 p 0).2.2 % 8 = 2 then if e < (pg b e 5 (pg b e 5 p 0).2.1 0).2.1 + (pg b e 5 (pg b e 5 p 0).2.1 0).2.2 then (1, 0, 0, 0, 0) else (0, (pg b e 5 (pg b e 5 p 0).2.1 0).2.1 + (pg b e 5 (pg b e 5 p 0).2.1 0).2.2, (pg b e 5 p 0).2.2 / 8, 2, (pg b e 5 (pg b e 5 p 0).2.1 0).2.2)
  else (0, (pg b e 5 (pg b e 5 p 0).2.1 0).2.1, (pg b e 5 p 0).2.2 / 8, 0, (pg b e 5 (pg b e 5 p 0).2.1 0).2.2)
/-- only the reader's own places have changed -/
def zScr (I I' : Nat → Int32) : Prop := ∀ k, (k < 11 ∨ 17 < k) → I' k = I k
theorem zScr.rf {I : Nat → Int32} : zScr I I := fun _ _ => rfl
theorem zScr.tr {I I' I'' : Nat → Int32} (h : zScr I I') (h' : zScr I' I'') : zScr I I'' := fun k hk => (h' k hk).trans (h k hk)
theorem zScr.up {I I' : Nat → Int32} (h : zScr I I') {j : Nat} (hj : 11 ≤ j ∧ j ≤ 17) (x : Int32) : zScr I (upd I' j x) := fun k hk => (pk_un (by omega)).trans (h k hk)
theorem gI_11 {I : Nat → Int32} {f q : Nat} : gI I f q 11 = nI q := pk_us
theorem gI_12 {I : Nat → Int32} {q : Nat} : gI I 0 q 12 = I 12 := by
  unfold gI
  rw [pk_un (by decide), if_pos rfl]
theorem gI_12f {I : Nat → Int32} {f q : Nat} (hf : f ≠ 0) : gI I f q 12 = nI f := by
  unfold gI
  rw [pk_un (by decide), if_neg hf, pk_us]
theorem gI_k {I : Nat → Int32} {f q k : Nat} (h1 : k ≠ 11) (h2 : k ≠ 12) : gI I f q k = I k := by
  unfold gI
  rw [pk_un h1]
  by_cases hf : f = 0
  · rw [if_pos hf]
  · rw [if_neg hf, pk_un h2]
theorem zScr.g {I I' : Nat → Int32} (h : zScr I I') {f q : Nat} : zScr I (gI I' f q) := fun k hk => (gI_k (by omega) (by omega)).trans (h k hk)
theorem pg_f (b : Nat → Nat) (e : Nat) : ∀ r p v, (pg b e r p v).1 = 0 ∨ (pg b e r p v).1 = 1 ∨ (pg b e r p v).1 = 2
  | 0, p, v => Or.inl rfl
  | r + 1, p, v => by
    unfold pg
    by_cases h1 : p = e
    · rw [if_pos h1]; exact Or.inr (Or.inl rfl)
    · rw [if_neg h1]
      by_cases h2 : r = 0 ∧ 15 < b p
      · rw [if_pos h2]; exact Or.inr (Or.inr rfl)
      · rw [if_neg h2]
        by_cases h3 : b p < 128
        · rw [if_pos h3]; exact Or.inl rfl
        · rw [if_neg h3]; exact pg_f b e r _ _
theorem mb_or4 {x0 x1 x2 x3 : Nat} (h0 : x0 < 256) (h1 : x1 < 256) (h2 : x2 < 256) (h3 : x3 < 256) : nI x0 ||| (nI x1 <<< ((8 : Int32) &&& 31)) ||| (nI x2 <<< ((16 : Int32) &&& 31)) ||| (nI x3 <<< ((24 : Int32) &&& 31)) = nI (x0 + x1 * 256 + x2 * 65536 + x3 * 16777216) := by
  rw [pk_shlN _ 8 (by decide) (by omega), pk_shlN _ 16 (by decide) (by omega), pk_shlN _ 24 (by decide) (by omega)]
  rw [Int32.or_comm (nI x0), Nat.mul_comm x1, fa_or_sum (k := 8) _ (by omega)]
  rw [Int32.or_comm (nI _) (nI (x2 * 2 ^ 16)), Nat.mul_comm x2, fa_or_sum (k := 16) _ (by omega)]
  rw [Int32.or_comm (nI _) (nI (x3 * 2 ^ 24)), Nat.mul_comm x3, fa_or_sum (k := 24) _ (by omega)]
  congr 1
  omega
theorem mb_v4 {b : Nat → Nat} (hb2 : ∀ j, b j < 256) (p : Nat) : nI (b p) ||| (nI (b (p + 1)) <<< ((8 : Int32) &&& 31)) ||| (nI (b (p + 2)) <<< ((16 : Int32) &&& 31)) ||| (nI (b (p + 3)) <<< ((24 : Int32) &&& 31)) = nI (v4 b p) := by
  rw [mb_or4 (hb2 _) (hb2 _) (hb2 _) (hb2 _)]
  unfold v4
  rfl
theorem nI_big {v : Nat} (h1 : 2 ^ 31 ≤ v) (h2 : v < 2 ^ 32) : nI v < 0 := by
  rw [Int32.lt_iff_toInt_lt]
  show (nI v).toBitVec.toInt < 0
  rw [BitVec.toInt_eq_toNat_cond, pk_tn h2, if_neg (by omega)]
  omega
section R4
variable {M q n e : Nat} {h : mw_H} {A : Nat → Nat → Int32} {f : Nat → Int32} {b : Nat → Nat}
end R4

/-! fields as values: (tag, type, value, bytes); rows of them as bytes -/
abbrev af : Type := Nat × Nat × Nat × List Nat
def ef (x : af) : List Nat := enum x.1 x.2.1 x.2.2.1 ++ x.2.2.2
def eL (L : List af) : List Nat := L.flatMap ef
def okf (x : af) : Prop := 1 ≤ x.1 ∧ x.1 ≤ 31 ∧ (x.2.1 = 0 ∨ x.2.1 = 2 ∨ x.2.1 = 5) ∧ x.2.2.1 < 2 ^ 32 ∧ (x.2.1 = 2 → x.2.2.2.length = x.2.2.1) ∧ (x.2.1 ≠ 2 → x.2.2.2 = []) ∧ ∀ z ∈ x.2.2.2, z < 256
/-- from the place p on the bytes are X -/
def rowAt (b : Nat → Nat) (p : Nat) (X : List Nat) : Prop := ∀ j, j < X.length → b (p + j) = X.getD j 0
theorem rowAt_app {b : Nat → Nat} {p : Nat} {X Y : List Nat} : rowAt b p (X ++ Y) ↔ rowAt b p X ∧ rowAt b (p + X.length) Y := by
  constructor
  · intro h
    refine ⟨fun j hj => ?_, fun j hj => ?_⟩
    · rw [h j (by rw [List.length_append]; omega), List.getD_eq_getElem?_getD, List.getD_eq_getElem?_getD, List.getElem?_append_left hj]
    · rw [Nat.add_assoc, h (X.length + j) (by rw [List.length_append]; omega), List.getD_eq_getElem?_getD, List.getD_eq_getElem?_getD, List.getElem?_append_right (by omega), Nat.add_sub_cancel_left]
  · rintro ⟨h1, h2⟩ j hj
    rw [List.length_append] at hj
    by_cases e : j < X.length
    · rw [h1 j e, List.getD_eq_getElem?_getD, List.getD_eq_getElem?_getD, List.getElem?_append_left e]
    · have h3 := h2 (j - X.length) (by omega)
      rw [show p + X.length + (j - X.length) = p + j by omega] at h3
      rw [h3, List.getD_eq_getElem?_getD, List.getD_eq_getElem?_getD, List.getElem?_append_right (by omega)]
theorem rowAt_one {b : Nat → Nat} {p x : Nat} {X : List Nat} (h : rowAt b p (x :: X)) : b p = x ∧ rowAt b (p + 1) X := by
  refine ⟨h 0 (by rw [List.length_cons]; omega), fun j hj => ?_⟩
  have h3 := h (j + 1) (by rw [List.length_cons]; omega)
  rw [show p + (j + 1) = p + 1 + j by omega] at h3
  exact h3
theorem pg_eg {b : Nat → Nat} {e : Nat} : ∀ (r v p a : Nat), r ≤ 4 → v < 2 ^ (7 * r + 4) → p + (eg r v).length ≤ e → rowAt b p (eg r v) → pg b e (r + 1) p a = (0, p + (eg r v).length, a + v * 2 ^ (7 * (4 - r)))
  | 0, v, p, a, _, hv, hl, hb => by
    have hl : p + 1 ≤ e := hl
    have h1 : b p = v := (rowAt_one hb).1
    have hv : v < 16 := hv
    show (if p = e then _ else if (0 : Nat) = 0 ∧ 15 < b p then _ else if b p < 128 then _ else _) = _
    rw [if_neg (by omega), if_neg (by omega), if_pos (by omega), h1, Nat.mod_eq_of_lt (by omega)]
    rfl
  | r + 1, v, p, a, hr, hv, hl, hb => by
    show (if p = e then _ else if (r + 1 : Nat) = 0 ∧ 15 < b p then _ else if b p < 128 then _ else pg b e (r + 1) (p + 1) _) = _
    unfold eg at hl hb ⊢
    by_cases h0 : v / 128 = 0
    · rw [if_pos h0] at hl hb ⊢
      have hl : p + 1 ≤ e := hl
      have h1 : b p = v := (rowAt_one hb).1
      rw [if_neg (by omega), if_neg (by omega), if_pos (by omega), h1, Nat.mod_eq_of_lt (by omega)]
      rfl
    · rw [if_neg h0] at hl hb ⊢
      rw [List.length_cons] at hl ⊢
      obtain ⟨h1, h2⟩ := rowAt_one hb
      have hm := Nat.mod_lt v (show 0 < 128 by decide)
      rw [if_neg (by omega), if_neg (by omega), if_neg (by omega), h1]
      rw [pg_eg r (v / 128) (p + 1) _ (by omega) (Nat.div_lt_of_lt_mul (by rw [show 7 * (r + 1) + 4 = 7 + (7 * r + 4) by omega, Nat.pow_add] at hv; exact hv)) (by omega) h2]
      rw [show (v % 128 + 128) % 128 = v % 128 by omega]
      have e4 : 7 * (4 - r) = 7 + 7 * (4 - (r + 1)) := by omega
      rw [e4, Nat.pow_add]
      have hd : v = v % 128 + v / 128 * 128 := by omega
      congr 2
      · omega
      · generalize 2 ^ (7 * (4 - (r + 1))) = z at *
        have h5 : v * z = (v % 128 + v / 128 * 128) * z := by rw [← hd]
        rw [h5, Nat.add_mul, Nat.add_assoc]
        congr 1
        rw [Nat.mul_assoc (v / 128) 128 z]
theorem pg_egr {b : Nat → Nat} {e v p : Nat} (hv : v < 2 ^ 32) (hl : p + (egr v).length ≤ e) (hb : rowAt b p (egr v)) : pg b e 5 p 0 = (0, p + (egr v).length, v) := by
  have h1 := pg_eg (b := b) (e := e) 4 v p 0 (by omega) hv hl hb
  rw [h1, Nat.zero_add]
  show (0, p + (eg 4 v).length, v * 1) = _
  rw [Nat.mul_one]
  rfl
theorem rowAt_four {b : Nat → Nat} {p v : Nat} (hv : v < 2 ^ 32) (hb : rowAt b p (four v)) : v4 b p = v := by
  have h0 : b (p + 0) = v % 256 := hb 0 (by show 0 < 4; decide)
  have h1 : b (p + 1) = v / 256 % 256 := hb 1 (by show 1 < 4; decide)
  have h2 : b (p + 2) = v / 65536 % 256 := hb 2 (by show 2 < 4; decide)
  have h3 : b (p + 3) = v / 16777216 % 256 := hb 3 (by show 3 < 4; decide)
  unfold v4
  rw [Nat.add_zero] at h0
  rw [h0, h1, h2, h3]
  omega
theorem pf_ef {b : Nat → Nat} {e p : Nat} {x : af} (hx : okf x) (hl : p + (ef x).length ≤ e) (hb : rowAt b p (ef x)) : pf b e p = (0, p + (ef x).length, x.1, x.2.1, x.2.2.1) := by
  obtain ⟨t, y, v, X⟩ := x
  obtain ⟨h1, h2, h3, h4, h5, h6, h7⟩ := hx
  dsimp only at h1 h2 h3 h4 h5 h6 h7
  unfold ef enum at hl hb ⊢
  dsimp only at hl hb ⊢
  rw [List.length_append, List.length_append] at hl ⊢
  rw [List.append_assoc, rowAt_app] at hb
  obtain ⟨hk, hb⟩ := hb
  rw [rowAt_app] at hb
  obtain ⟨hv, hb⟩ := hb
  have e1 := pg_egr (b := b) (e := e) (p := p) (v := 8 * t + y) (by omega) (by omega) hk
  have d1 : (8 * t + y) / 8 = t := by omega
  have d2 : (8 * t + y) % 8 = y := by omega
  unfold pf
  rw [e1]
  dsimp only
  rw [d1, d2, if_neg (by decide), if_neg (by omega), if_neg (by omega)]
  by_cases hy : y = 5
  · subst hy
    rw [if_pos rfl] at hl hv hb ⊢
    rw [if_pos rfl]
    have hX : X = [] := h6 (by decide)
    subst hX
    have h4l : (four v).length = 4 := rfl
    rw [if_neg (by omega), rowAt_four h4 hv, h4l]
    rfl
  · rw [if_neg hy] at hl hv hb ⊢
    rw [if_neg hy]
    have e2 := pg_egr (b := b) (e := e) (p := p + (egr (8 * t + y)).length) (v := v) h4 (by omega) hv
    rw [e2]
    dsimp only
    rw [if_neg (by decide)]
    by_cases h2y : y = 2
    · subst h2y
      have hX : X.length = v := h5 rfl
      rw [if_pos rfl, if_neg (by omega), hX]
      congr 2
      omega
    · have hX : X = [] := h6 h2y
      have hy0 : y = 0 := by omega
      subst hX
      subst hy0
      rw [if_neg (by decide)]
      congr 2
      show _ = p + (_ + _ + 0)
      omega
theorem eg_lt : ∀ r v, v < 2 ^ (7 * r + 4) → ∀ z ∈ eg r v, z < 256
  | 0, v, hv, z, hz => by
    have hv : v < 16 := hv
    have hz : z ∈ [v] := hz
    rw [List.mem_singleton] at hz
    omega
  | r + 1, v, hv, z, hz => by
    unfold eg at hz
    by_cases e : v / 128 = 0
    · rw [if_pos e, List.mem_singleton] at hz
      omega
    · rw [if_neg e] at hz
      rcases List.mem_cons.mp hz with h | h
      · omega
      · exact eg_lt r (v / 128) (Nat.div_lt_of_lt_mul (by rw [show 7 * (r + 1) + 4 = 7 + (7 * r + 4) by omega, Nat.pow_add] at hv; exact hv)) z h
theorem ef_lt {x : af} (hx : okf x) : ∀ z ∈ ef x, z < 256 := by
  obtain ⟨t, y, v, X⟩ := x
  obtain ⟨h1, h2, h3, h4, h5, h6, h7⟩ := hx
  dsimp only at h1 h2 h3 h4 h5 h6 h7
  intro z hz
  unfold ef enum at hz
  dsimp only at hz
  rcases List.mem_append.mp hz with hz | hz
  · rcases List.mem_append.mp hz with hz | hz
    · exact eg_lt 4 (8 * t + y) (by omega) z hz
    · by_cases hy : y = 5
      · rw [if_pos hy] at hz
        unfold four at hz
        simp only [List.mem_cons, List.not_mem_nil, or_false] at hz
        omega
      · rw [if_neg hy] at hz
        exact eg_lt 4 v h4 z hz
  · exact h7 z hz
theorem ef_len2 (x : af) : 2 ≤ (ef x).length := by
  unfold ef enum
  rw [List.length_append, List.length_append]
  have h1 := eg_pos 4 (8 * x.1 + x.2.1)
  have h2 : 0 < (if x.2.1 = 5 then four x.2.2.1 else egr x.2.2.1).length := by
    by_cases hy : x.2.1 = 5
    · rw [if_pos hy]; exact Nat.succ_pos _
    · rw [if_neg hy]; exact eg_pos 4 x.2.2.1
  have h1 : 0 < (egr (8 * x.1 + x.2.1)).length := h1
  omega
theorem eL_cons (x : af) (L : List af) : eL (x :: L) = ef x ++ eL L := rfl
theorem eL_app (L L' : List af) : eL (L ++ L') = eL L ++ eL L' := List.flatMap_append
theorem eL_lt {L : List af} (hL : ∀ x ∈ L, okf x) : ∀ z ∈ eL L, z < 256 := by
  intro z hz
  obtain ⟨x, hx, hz⟩ := List.mem_flatMap.mp hz
  exact ef_lt (hL x hx) z hz
/-- the number that an int of a row is, as a byte -/
def bt (f : Nat → Int32) : Nat → Nat := fun j => (f j).toBitVec.toNat % 256
theorem bt_lt (f : Nat → Int32) (j : Nat) : bt f j < 256 := Nat.mod_lt _ (by decide)
theorem bt_nI {f : Nat → Int32} {j x : Nat} (h : f j = nI x) (hx : x < 256) : bt f j = x := by
  unfold bt
  rw [h, pk_tn (by omega), Nat.mod_eq_of_lt hx]
def byt (f : Nat → Int32) (n : Nat) : Prop := ∀ j, j < n → ∃ x, x < 256 ∧ f j = nI x
theorem byt_bt {f : Nat → Int32} {n : Nat} (h : byt f n) {j : Nat} (hj : j < n) : f j = nI (bt f j) := by
  obtain ⟨x, hx, e⟩ := h j hj
  rw [bt_nI e hx, e]
section R5
variable {M q n : Nat} {h : mw_H} {I : Nat → Int32} {A : Nat → Nat → Int32} {w : Nat}
def rowq (q n : Nat) : Prop := q = 7 ∧ n = 1440 ∨ q = 8 ∧ n = 120
theorem rowq_9 (hq : rowq q n) : q ≠ 9 := by rcases hq with ⟨rfl, rfl⟩ | ⟨rfl, rfl⟩ <;> decide
theorem rowq_n (hq : rowq q n) : n ≤ 1440 := by rcases hq with ⟨rfl, rfl⟩ | ⟨rfl, rfl⟩ <;> decide
end R5

/-! the reference's walks over a message's fields -/
/-- the message m has the schema s and the fields L -/
def rMes (A : Nat → Nat → Int32) (m s : Nat) (L : List af) : Prop := m < 12 ∧ s < 6 ∧ A 5 m = nI s ∧ (∀ x ∈ L, okf x) ∧ (eL L).length ≤ 120 ∧ A 6 m = nI (eL L).length ∧ rowAt (bt (A 7)) (120 * m) (eL L) ∧ byt (A 7) 1440
/-- the reader's places hold the field x, read at p -/
def zRd (x : af) (p : Nat) (I : Nat → Int32) : Prop := I 11 = nI (p + (ef x).length) ∧ I 12 = 0 ∧ I 13 = nI x.1 ∧ I 14 = nI x.2.1 ∧ I 15 = nI x.2.2.1 ∧ (x.2.1 = 2 → I 16 = nI (p + (ef x).length - x.2.2.2.length)) ∧ I 17 = nI p
theorem rMes_up {A : Nat → Nat → Int32} {m s : Nat} {L : List af} (h : rMes A m s L) {j : Nat} (hj : 8 ≤ j) (g : Nat → Int32) : rMes (va_up A j g) m s L := by
  obtain ⟨h1, h2, h3, h4, h5, h6, h7, h8⟩ := h
  refine ⟨h1, h2, ?_, h4, h5, ?_, ?_, ?_⟩
  · rw [va_up_ne _ _ (by omega)]; exact h3
  · rw [va_up_ne _ _ (by omega)]; exact h6
  · rw [va_up_ne _ _ (by omega)]; exact h7
  · rw [va_up_ne _ _ (by omega)]; exact h8
theorem ef_split (x : af) : ef x = enum x.1 x.2.1 x.2.2.1 ++ x.2.2.2 := rfl
theorem rowAt_bytes {b : Nat → Nat} {p : Nat} {x : af} (h : rowAt b p (ef x)) : rowAt b (p + (ef x).length - x.2.2.2.length) x.2.2.2 := by
  rw [ef_split, rowAt_app] at h
  rw [ef_split, List.length_append, show p + ((enum x.1 x.2.1 x.2.2.1).length + x.2.2.2.length) - x.2.2.2.length = p + (enum x.1 x.2.1 x.2.2.1).length by omega]
  exact h.2
theorem ef_len_bytes (x : af) : x.2.2.2.length + 2 ≤ (ef x).length := by
  have h2 := ef_len2 (x.1, x.2.1, x.2.2.1, [])
  rw [ef_split] at h2 ⊢
  rw [List.length_append] at h2 ⊢
  have h3 : (enum x.1 x.2.1 x.2.2.1).length = (enum (x.1, x.2.1, x.2.2.1, ([] : List Nat)).1 (x.1, x.2.1, x.2.2.1, ([] : List Nat)).2.1 (x.1, x.2.1, x.2.2.1, ([] : List Nat)).2.2.1).length := rfl
  have h4 : (x.1, x.2.1, x.2.2.1, ([] : List Nat)).2.2.2.length = 0 := rfl
  omega
def knb (A : Nat → Nat → Int32) (s : Nat) (x : af) : Bool := decide (zKn A s (nI x.1) (nI x.2.1) ≠ 0)
/-- the place of the last field with P, acc if there is none -/
def lkv (P : af → Bool) : Nat → List af → Int32 → Int32
  | _, [], acc => acc
  | p, x :: L, acc => lkv P (p + (ef x).length) L (if P x then nI p else acc)
theorem lkv_no {P : af → Bool} : ∀ (L : List af) (p : Nat) (acc : Int32), (∀ x ∈ L, P x = false) → lkv P p L acc = acc
  | [], _, _, _ => rfl
  | x :: L, p, acc, h => by
    show lkv P _ L (if P x then nI p else acc) = acc
    rw [h x List.mem_cons_self]
    exact lkv_no L _ acc (fun z hz => h z (List.mem_cons_of_mem _ hz))
/-- .. where there is one: the row is cut there -/
theorem lkv_yes {P : af → Bool} : ∀ (L : List af) (p : Nat) (acc : Int32), (∃ x ∈ L, P x = true) → ∃ (L1 : List af) (x : af) (L2 : List af), L = L1 ++ x :: L2 ∧ P x = true ∧ (∀ z ∈ L2, P z = false) ∧ lkv P p L acc = nI (p + (eL L1).length)
  | [], _, _, h => by obtain ⟨x, hx, -⟩ := h; cases hx
  | x :: L, p, acc, h => by
    by_cases e : ∃ z ∈ L, P z = true
    · obtain ⟨L1, y, L2, h1, h2, h3, h4⟩ := lkv_yes L (p + (ef x).length) (if P x then nI p else acc) e
      refine ⟨x :: L1, y, L2, by rw [h1]; rfl, h2, h3, ?_⟩
      show lkv P _ L _ = _
      rw [h4, eL_cons, List.length_append, Nat.add_assoc]
    · have hno : ∀ z ∈ L, P z = false := fun z hz => by
        cases hP : P z with
        | false => rfl
        | true => exact absurd ⟨z, hz, hP⟩ e
      have hx : P x = true := by
        obtain ⟨z, hz, hP⟩ := h
        rcases List.mem_cons.mp hz with rfl | hz
        · exact hP
        · exact absurd ⟨z, hz, hP⟩ e
      refine ⟨[], x, L, rfl, hx, hno, ?_⟩
      show lkv P _ L (if P x then nI p else acc) = _
      rw [lkv_no L _ _ hno, hx]
      rfl
def Pt (A : Nat → Nat → Int32) (s : Nat) (t : Int32) (x : af) : Bool := decide (nI x.1 = t) && knb A s x
theorem mw_con_post {y : mw_M} {d kc ks : Nat} {as : List Value} {h : mw_H} {Po Po' : mw_P} (hp : ∀ r h', Po r h' → Po' r h') (hC : mw_Con y d kc ks as h Po) : mw_Con y d kc ks as h Po' := by
  intro G l hl p e a1 a2 a3 s m args below b1 b2 b3 b4
  obtain ⟨n, o, c1, c2, c3, c4⟩ := hC G l hl p e a1 a2 a3 s m args below b1 b2 b3 b4
  refine ⟨n, o, c1, c2, c3, ?_⟩
  rcases c4 with ⟨⟨⟨v, h', e1, e2, e3⟩, e4⟩, e5⟩ | ⟨q, e1, E, ce, L, ⟨⟨h', e2, e3⟩, e4⟩, e5⟩
  · exact Or.inl ⟨⟨⟨v, h', e1, hp _ _ e2, e3⟩, e4⟩, e5⟩
  · exact Or.inr ⟨q, e1, E, ce, L, ⟨⟨h', hp _ _ e2, e3⟩, e4⟩, e5⟩
section R6
variable {M m s : Nat} {h : mw_H} {I : Nat → Int32} {A : Nat → Nat → Int32}
/-- how many unknown fields -/
def unk (A : Nat → Nat → Int32) (s : Nat) (L : List af) : Nat := (L.filter (fun x => !knb A s x)).length
end R6

/-! the reference's writers of a message -/
/-- all but the reader's places and the written length stay -/
def zScw (I I' : Nat → Int32) : Prop := ∀ k, (k < 11 ∨ 18 < k) → I' k = I k
theorem zScw.rf {I : Nat → Int32} : zScw I I := fun _ _ => rfl
theorem zScw.tr {I I' I'' : Nat → Int32} (h : zScw I I') (h' : zScw I' I'') : zScw I I'' := fun k hk => (h' k hk).trans (h k hk)
theorem zScw.up {I I' : Nat → Int32} (h : zScw I I') {j : Nat} (hj : 11 ≤ j ∧ j ≤ 18) (x : Int32) : zScw I (upd I' j x) := fun k hk => (pk_un (by omega)).trans (h k hk)
theorem zScr.w {I I' : Nat → Int32} (h : zScr I I') : zScw I I' := fun k hk => h k (by omega)
theorem zScr.k {I I' : Nat → Int32} (h : zScr I I') {k : Nat} (hk : k < 11 ∨ 17 < k) : I' k = I k := h k hk
theorem up_same (A : Nat → Nat → Int32) (j : Nat) : va_up A j (A j) = A := by
  funext i
  by_cases e : i = j
  · subst e; rw [va_up_self]
  · rw [va_up_ne _ _ e]
section R7
variable {M m s : Nat} {h : mw_H} {I : Nat → Int32} {A : Nat → Nat → Int32}
/-! canonical: of the fields with the tag t, the unknown ones and the last known one, if it isn't the default -/
def dfb (A : Nat → Nat → Int32) (s t : Nat) (x : af) : Bool := decide (zInt (zKind A s (nI t)) ≠ 0) && decide (zStF (zKind A s (nI t)) (nI x.2.2.1) = A 3 (32 * s + t))
def canT (A : Nat → Nat → Int32) (s t : Nat) : List af → List af
  | [] => []
  | x :: L => if x.1 = t ∧ (knb A s x = true → (∀ z ∈ L, Pt A s (nI t) z = false) ∧ dfb A s t x = false) then x :: canT A s t L else canT A s t L
def canU (A : Nat → Nat → Int32) (s : Nat) (L : List af) : Nat → List af
  | 0 => []
  | k + 1 => canU A s L k ++ canT A s (k + 1) L
def can (A : Nat → Nat → Int32) (s : Nat) (L : List af) : List af := canU A s L 31
theorem canT_len (A : Nat → Nat → Int32) (s t : Nat) : ∀ L, (eL (canT A s t L)).length ≤ (eL (L.filter (fun x => decide (x.1 = t)))).length
  | [] => Nat.le_refl _
  | x :: L => by
    have ih := canT_len A s t L
    unfold canT
    rw [List.filter_cons]
    by_cases e : x.1 = t
    · rw [if_pos (decide_eq_true e), eL_cons, List.length_append]
      split
      · rw [eL_cons, List.length_append]; omega
      · omega
    · rw [if_neg (fun z => e z.1), if_neg (by rw [decide_eq_false e]; decide)]
      exact ih
theorem fil_len (k : Nat) : ∀ L : List af, (eL (L.filter (fun x => decide (x.1 ≤ k)))).length + (eL (L.filter (fun x => decide (x.1 = k + 1)))).length = (eL (L.filter (fun x => decide (x.1 ≤ k + 1)))).length
  | [] => rfl
  | x :: L => by
    have ih := fil_len k L
    rw [List.filter_cons, List.filter_cons, List.filter_cons]
    by_cases e : x.1 = k + 1
    · rw [if_neg (by simp; omega), if_pos (by simp [e]), if_pos (by simp [e]), eL_cons, eL_cons, List.length_append, List.length_append]
      omega
    · by_cases e2 : x.1 ≤ k
      · rw [if_pos (by simp [e2]), if_neg (by simp [e]), if_pos (by simp; omega), eL_cons, eL_cons, List.length_append, List.length_append]
        omega
      · rw [if_neg (by simp [e2]), if_neg (by simp [e]), if_neg (by simp; omega)]
        exact ih
theorem fil_le (P : af → Bool) : ∀ L : List af, (eL (L.filter P)).length ≤ (eL L).length
  | [] => Nat.le_refl _
  | x :: L => by
    have ih := fil_le P L
    rw [List.filter_cons, eL_cons, List.length_append]
    split
    · rw [eL_cons, List.length_append]; omega
    · omega
theorem canU_len (A : Nat → Nat → Int32) (s : Nat) (L : List af) : ∀ k, (eL (canU A s L k)).length ≤ (eL (L.filter (fun x => decide (x.1 ≤ k)))).length
  | 0 => Nat.zero_le _
  | k + 1 => by
    have ih := canU_len A s L k
    have h1 := canT_len A s (k + 1) L
    have h2 := fil_len k L
    show (eL (canU A s L k ++ canT A s (k + 1) L)).length ≤ _
    rw [eL_app, List.length_append]
    omega
theorem canU_le (A : Nat → Nat → Int32) (s : Nat) (L : List af) (k : Nat) : (eL (canU A s L k)).length ≤ (eL L).length := Nat.le_trans (canU_len A s L k) (fil_le _ L)
theorem canT_mem {A : Nat → Nat → Int32} {s t : Nat} : ∀ {L : List af} {x : af}, x ∈ canT A s t L → x ∈ L ∧ x.1 = t
  | [], x, h => by cases h
  | y :: L, x, h => by
    unfold canT at h
    split at h
    · rename_i e
      rcases List.mem_cons.mp h with rfl | h
      · exact ⟨List.mem_cons_self, e.1⟩
      · have := canT_mem h
        exact ⟨List.mem_cons_of_mem _ this.1, this.2⟩
    · have := canT_mem h
      exact ⟨List.mem_cons_of_mem _ this.1, this.2⟩
theorem canU_mem {A : Nat → Nat → Int32} {s : Nat} {L : List af} : ∀ {k : Nat} {x : af}, x ∈ canU A s L k → x ∈ L
  | 0, x, h => by cases h
  | k + 1, x, h => by
    rcases List.mem_append.mp (show x ∈ canU A s L k ++ canT A s (k + 1) L from h) with h | h
    · exact canU_mem h
    · exact (canT_mem h).1
/-- the place found last is this one just if there is none behind it -/
theorem lkv_here {P : af → Bool} {x : af} {L : List af} {p : Nat} {acc : Int32} (hx : P x = true) (hp : p + (eL (x :: L)).length < 2 ^ 31) : (lkv P p (x :: L) acc = nI p) ↔ ∀ z ∈ L, P z = false := by
  have e : lkv P p (x :: L) acc = lkv P (p + (ef x).length) L (nI p) := by
    show lkv P _ L (if P x then nI p else acc) = _
    rw [hx]
    rfl
  rw [e]
  constructor
  · intro h z hz
    cases hP : P z with
    | false => rfl
    | true =>
      obtain ⟨L1, y, L2, h1, h2, h3, h4⟩ := lkv_yes L (p + (ef x).length) (nI p) ⟨z, hz, hP⟩
      have hl2 := ef_len2 x
      rw [eL_cons, List.length_append, h1, eL_app, List.length_append] at hp
      rw [h4, nI_eq (by omega) (by omega)] at h
      omega
  · intro h
    exact lkv_no L _ _ h
end R7

/-! the reference's rows: what is written becomes a message; what is put aside -/
/-- the row X lies in f from 0 on -/
def holds (f : Nat → Int32) (X : List Nat) : Prop := ∀ j, j < X.length → f j = nI (X.getD j 0)
theorem take_one {X : List Nat} {k : Nat} (hk : k < X.length) : X.take k ++ [X.getD k 0] = X.take (k + 1) := by
  rw [List.take_succ, List.getD_eq_getElem?_getD, List.getElem?_eq_getElem hk]
  rfl
theorem wr_take {f : Nat → Int32} {w : Nat} {X : List Nat} {k : Nat} (hk : k < X.length) : upd (wr f w (X.take k)) (w + k) (nI (X.getD k 0)) = wr f w (X.take (k + 1)) := by
  rw [← take_one hk, ← wr_app, wr_one, List.length_take, Nat.min_eq_left (by omega)]
theorem holds_wr {f : Nat → Int32} {X : List Nat} : holds (wr f 0 X) X := by
  intro j hj
  show (if 0 ≤ j ∧ j < 0 + X.length then nI (X.getD (j - 0) 0) else f j) = _
  rw [if_pos (by omega), Nat.sub_zero]
theorem getD_mem {X : List Nat} {k : Nat} (hk : k < X.length) : X.getD k 0 ∈ X := by
  rw [List.getD_eq_getElem?_getD, List.getElem?_eq_getElem hk]
  exact List.getElem_mem hk
theorem eq_getD {X Y : List Nat} (hl : X.length = Y.length) (h : ∀ k, k < X.length → X.getD k 0 = Y.getD k 0) : X = Y := by
  apply List.ext_getElem hl
  intro k h1 h2
  have h3 := h k h1
  rw [List.getD_eq_getElem?_getD, List.getD_eq_getElem?_getD, List.getElem?_eq_getElem h1, List.getElem?_eq_getElem h2] at h3
  exact h3
/-- X becomes the message m -/
def aB (A : Nat → Nat → Int32) (m : Nat) (X : List Nat) : Nat → Nat → Int32 := va_up (va_up A 7 (wr (A 7) (120 * m) X)) 6 (upd (A 6) m (nI X.length))
section R8
variable {M m s : Nat} {h : mw_H} {I : Nat → Int32} {A : Nat → Nat → Int32} {X Y : List Nat}
/-- f is the first free place, 12 if there is none -/
def isFree (A : Nat → Nat → Int32) (f : Nat) : Prop := f ≤ 12 ∧ (∀ j, j < f → A 4 j ≠ 0) ∧ (f < 12 → A 4 f = 0)
/-- X becomes a new message f with the schema s -/
def aN (A : Nat → Nat → Int32) (f s : Nat) (X : List Nat) : Nat → Nat → Int32 := aB (va_up (va_up A 4 (upd (A 4) f 1)) 5 (upd (A 5) f (nI s))) f X
end R8

/-! a whole row of bytes, read -/
theorem eg_short : ∀ (r j v : Nat), v < 2 ^ (7 * (j + 1)) → (eg r v).length ≤ j + 1
  | 0, j, v, _ => Nat.succ_le_succ (Nat.zero_le _)
  | r + 1, j, v, h => by
    unfold eg
    by_cases e : v / 128 = 0
    · rw [if_pos e]; exact Nat.succ_le_succ (Nat.zero_le _)
    · rw [if_neg e, List.length_cons]
      cases j with
      | zero => exact absurd (Nat.div_eq_of_lt (by simpa using h)) e
      | succ j =>
        have := eg_short r j (v / 128) (Nat.div_lt_of_lt_mul (by rw [show 7 * (j + 1 + 1) = 7 + 7 * (j + 1) by omega, Nat.pow_add] at h; exact h))
        omega
theorem pg_use (b : Nat → Nat) (e : Nat) : ∀ r p v, r ≤ 4 → p ≤ e → v < 2 ^ (7 * (4 - r)) → (pg b e (r + 1) p v).1 = 0 → p < (pg b e (r + 1) p v).2.1 ∧ (pg b e (r + 1) p v).2.2 < 2 ^ (7 * (4 - r + ((pg b e (r + 1) p v).2.1 - p))) := by
  intro r
  induction r with
  | zero =>
    intro p v hr hp hv h0
    unfold pg at h0 ⊢
    by_cases h1 : p = e
    · rw [if_pos h1] at h0; exact absurd h0 Nat.one_ne_zero
    · rw [if_neg h1] at h0 ⊢
      by_cases h2 : 0 = 0 ∧ 15 < b p
      · rw [if_pos h2] at h0; exact absurd (show (2 : Nat) = 0 from h0) (by decide)
      · rw [if_neg h2] at h0 ⊢
        have h3 : b p < 128 := by omega
        rw [if_pos h3]
        refine ⟨Nat.lt_succ_self _, ?_⟩
        show v + b p % 128 * 2 ^ (7 * (4 - 0)) < 2 ^ (7 * (4 - 0 + (p + 1 - p)))
        rw [show p + 1 - p = 1 by omega, Nat.mod_eq_of_lt h3]
        have hb : b p ≤ 15 := by omega
        have hv : v < 268435456 := hv
        show v + b p * 268435456 < 34359738368
        omega
  | succ r ih =>
    intro p v hr hp hv h0
    unfold pg at h0 ⊢
    by_cases h1 : p = e
    · rw [if_pos h1] at h0; exact absurd h0 Nat.one_ne_zero
    · rw [if_neg h1] at h0 ⊢
      rw [if_neg (by omega)] at h0 ⊢
      have hm := Nat.mod_lt (b p) (show 0 < 128 by decide)
      have hv2 : v + b p % 128 * 2 ^ (7 * (4 - (r + 1))) < 2 ^ (7 * (4 - (r + 1) + 1)) := by
        rw [show 7 * (4 - (r + 1) + 1) = 7 * (4 - (r + 1)) + 7 by omega, Nat.pow_add]
        have h3 : b p % 128 * 2 ^ (7 * (4 - (r + 1))) ≤ 127 * 2 ^ (7 * (4 - (r + 1))) := Nat.mul_le_mul_right _ (by omega)
        omega
      by_cases h3 : b p < 128
      · rw [if_pos h3]
        refine ⟨Nat.lt_succ_self _, ?_⟩
        rw [show (0, p + 1, v + b p % 128 * 2 ^ (7 * (4 - (r + 1)))).2.1 - p = 1 from Nat.add_sub_cancel_left p 1]
        exact hv2
      · rw [if_neg h3] at h0 ⊢
        have e4 : 4 - (r + 1) + 1 = 4 - r := by omega
        rw [e4] at hv2
        obtain ⟨i1, i2⟩ := ih (p + 1) _ (by omega) (by omega) hv2 h0
        refine ⟨by omega, ?_⟩
        rw [show 4 - (r + 1) + ((pg b e (r + 1) (p + 1) (v + b p % 128 * 2 ^ (7 * (4 - (r + 1))))).2.1 - p) = 4 - r + ((pg b e (r + 1) (p + 1) (v + b p % 128 * 2 ^ (7 * (4 - (r + 1))))).2.1 - (p + 1)) by omega]
        exact i2
theorem pg_len {b : Nat → Nat} {e p : Nat} (hp : p ≤ e) (h0 : (pg b e 5 p 0).1 = 0) : p + (egr (pg b e 5 p 0).2.2).length ≤ (pg b e 5 p 0).2.1 ∧ p < (pg b e 5 p 0).2.1 := by
  obtain ⟨h1, h2⟩ := pg_use b e 4 p 0 (by omega) hp (by decide) h0
  have h1 : p < (pg b e 5 p 0).2.1 := h1
  refine ⟨?_, h1⟩
  obtain ⟨j, hj⟩ : ∃ j, (pg b e 5 p 0).2.1 = p + (j + 1) := ⟨(pg b e 5 p 0).2.1 - p - 1, by omega⟩
  have hj' : (pg b e (4 + 1) p 0).2.1 = p + (j + 1) := hj
  rw [hj'] at h2
  have h3 := eg_short 4 j (pg b e 5 p 0).2.2 (by rw [show 4 - 4 + (p + (j + 1) - p) = j + 1 by omega] at h2; exact h2)
  rw [hj]
  show p + (eg 4 _).length ≤ _
  omega
/-- n bytes from p on -/
def bys (b : Nat → Nat) (p n : Nat) : List Nat := (List.range n).map (fun j => b (p + j))
theorem bys_len (b : Nat → Nat) (p n : Nat) : (bys b p n).length = n := by unfold bys; rw [List.length_map, List.length_range]
theorem bys_row (b : Nat → Nat) (p n : Nat) : rowAt b p (bys b p n) := by
  intro j hj
  rw [bys_len] at hj
  unfold bys
  rw [List.getD_eq_getElem?_getD, List.getElem?_map, List.getElem?_range hj]
  rfl
theorem bys_lt {b : Nat → Nat} (hb : ∀ j, b j < 256) (p n : Nat) : ∀ z ∈ bys b p n, z < 256 := by
  intro z hz
  obtain ⟨j, -, rfl⟩ := List.mem_map.mp hz
  exact hb _
/-- the field that was read -/
def mkf (b : Nat → Nat) (r : Nat × Nat × Nat × Nat × Nat) : af := (r.2.2.1, r.2.2.2.1, r.2.2.2.2, if r.2.2.2.1 = 2 then bys b (r.2.1 - r.2.2.2.2) r.2.2.2.2 else [])
theorem v4_lt {b : Nat → Nat} (hb : ∀ j, b j < 256) (p : Nat) : v4 b p < 2 ^ 32 := by
  unfold v4
  have h0 := hb p
  have h1 := hb (p + 1)
  have h2 := hb (p + 2)
  have h3 := hb (p + 3)
  omega
theorem pf_ok {b : Nat → Nat} {e p : Nat} (hb : ∀ j, b j < 256) (hp : p ≤ e) (h0 : (pf b e p).1 = 0) : okf (mkf b (pf b e p)) ∧ p + (ef (mkf b (pf b e p))).length ≤ (pf b e p).2.1 ∧ p + 2 ≤ (pf b e p).2.1 ∧ (pf b e p).2.1 ≤ e ∧ ((pf b e p).2.2.2.1 = 2 → (pf b e p).2.2.2.2 ≤ (pf b e p).2.1) := by
  have hq1 := pg_le b e 5 p 0 hp
  have hK := pg_lt b e hb 5 p 0 (by omega) (by decide) (fun _ => by decide)
  have hl1 := fun z => pg_len (b := b) hp z
  unfold pf at h0 ⊢
  generalize hg : pg b e 5 p 0 = g at *
  obtain ⟨f1, q1, K⟩ := g
  dsimp only at hq1 hK hl1 h0 ⊢
  by_cases c1 : f1 ≠ 0
  · rw [if_pos c1] at h0; exact absurd h0 c1
  rw [if_neg c1] at h0 ⊢
  obtain ⟨l1, l2⟩ := hl1 (by omega)
  by_cases c2 : ¬ (1 ≤ K / 8 ∧ K / 8 ≤ 31)
  · rw [if_pos c2] at h0; exact absurd h0 (by decide)
  rw [if_neg c2] at h0 ⊢
  by_cases c3 : ¬ (K % 8 = 0 ∨ K % 8 = 2 ∨ K % 8 = 5)
  · rw [if_pos c3] at h0; exact absurd h0 (by decide)
  rw [if_neg c3] at h0 ⊢
  have hkey : 8 * (K / 8) + K % 8 = K := Nat.div_add_mod K 8
  have c2 : 1 ≤ K / 8 ∧ K / 8 ≤ 31 := Decidable.not_not.mp c2
  by_cases c4 : K % 8 = 5
  · rw [if_pos c4] at h0 ⊢
    by_cases c5 : e < q1 + 4
    · rw [if_pos c5] at h0; exact absurd h0 (by decide)
    rw [if_neg c5]
    have hl : (ef (mkf b (0, q1 + 4, K / 8, 5, v4 b q1))).length = (egr K).length + 4 := by
      show (enum (K / 8) 5 (v4 b q1) ++ []).length = _
      rw [List.append_nil]
      unfold enum
      rw [if_pos rfl, List.length_append, show 8 * (K / 8) + 5 = K by omega]
      rfl
    refine ⟨⟨c2.1, c2.2, Or.inr (Or.inr rfl), v4_lt hb q1, fun z => absurd (show (5 : Nat) = 2 from z) (by decide), fun _ => rfl, fun z hz => by cases hz⟩, ?_, ?_, ?_, fun z => absurd (show (5 : Nat) = 2 from z) (by decide)⟩
    · rw [hl]; show p + ((egr K).length + 4) ≤ q1 + 4; omega
    · show p + 2 ≤ q1 + 4; omega
    · show q1 + 4 ≤ e; omega
  rw [if_neg c4] at h0 ⊢
  have hq2 := pg_le b e 5 q1 0 hq1.2
  have hV := pg_lt b e hb 5 q1 0 (by omega) (by decide) (fun _ => by decide)
  have hl2 := fun z => pg_len (b := b) hq1.2 z
  generalize pg b e 5 q1 0 = g2 at *
  obtain ⟨f2, q2, v⟩ := g2
  dsimp only at hq2 hV hl2 h0 ⊢
  by_cases c5 : f2 ≠ 0
  · rw [if_pos c5] at h0; exact absurd h0 c5
  rw [if_neg c5] at h0 ⊢
  obtain ⟨l3, l4⟩ := hl2 (by omega)
  by_cases c6 : K % 8 = 2
  · rw [if_pos c6] at h0 ⊢
    by_cases c7 : e < q2 + v
    · rw [if_pos c7] at h0; exact absurd h0 (by decide)
    rw [if_neg c7]
    have hm : mkf b (0, q2 + v, K / 8, 2, v) = (K / 8, 2, v, bys b (q2 + v - v) v) := rfl
    rw [hm]
    have hl : (ef (K / 8, 2, v, bys b (q2 + v - v) v)).length = (egr K).length + (egr v).length + v := by
      show (enum (K / 8) 2 v ++ bys b (q2 + v - v) v).length = _
      unfold enum
      rw [if_neg (by decide), List.length_append, List.length_append, bys_len, show 8 * (K / 8) + 2 = K by omega]
    refine ⟨⟨c2.1, c2.2, Or.inr (Or.inl rfl), hV, fun _ => bys_len _ _ _, fun z => absurd rfl z, bys_lt hb _ _⟩, ?_, ?_, ?_, fun _ => ?_⟩
    · rw [hl]; show p + ((egr K).length + (egr v).length + v) ≤ q2 + v; omega
    · show p + 2 ≤ q2 + v; omega
    · show q2 + v ≤ e; omega
    · show v ≤ q2 + v; omega
  · rw [if_neg c6]
    have c8 : K % 8 = 0 := by omega
    have hm : mkf b (0, q2, K / 8, 0, v) = (K / 8, 0, v, []) := rfl
    rw [hm]
    have hl : (ef (K / 8, 0, v, [])).length = (egr K).length + (egr v).length := by
      show (enum (K / 8) 0 v ++ []).length = _
      unfold enum
      rw [if_neg (by decide), List.append_nil, List.length_append, show 8 * (K / 8) + 0 = K by omega]
    refine ⟨⟨c2.1, c2.2, Or.inl rfl, hV, fun z => absurd (show (0 : Nat) = 2 from z) (by decide), fun _ => rfl, fun z hz => by cases hz⟩, ?_, ?_, ?_, fun z => absurd (show (0 : Nat) = 2 from z) (by decide)⟩
    · rw [hl]; show p + ((egr K).length + (egr v).length) ≤ q2; omega
    · show p + 2 ≤ q2; omega
    · exact hq2.2
/-- the fields from p up to e, the fault (0 if there is none), its place -/
def prs (b : Nat → Nat) (e : Nat) : Nat → Nat → List af × Nat × Nat
  | 0, _ => ([], 0, 0)
  | n + 1, p => if e ≤ p then ([], 0, 0) else if (pf b e p).1 = 0 then (mkf b (pf b e p) :: (prs b e n (pf b e p).2.1).1, (prs b e n (pf b e p).2.1).2) else ([], (pf b e p).1, p)
theorem prs_ok {b : Nat → Nat} {e : Nat} (hb : ∀ j, b j < 256) : ∀ (n p : Nat), p ≤ e → (∀ x ∈ (prs b e n p).1, okf x) ∧ p + (eL (prs b e n p).1).length ≤ e
  | 0, p, hp => ⟨fun x hx => absurd hx List.not_mem_nil, hp⟩
  | n + 1, p, hp => by
    unfold prs
    by_cases h1 : e ≤ p
    · rw [if_pos h1]; exact ⟨fun x hx => absurd hx List.not_mem_nil, hp⟩
    · rw [if_neg h1]
      by_cases h2 : (pf b e p).1 = 0
      · rw [if_pos h2]
        obtain ⟨o1, o2, o3, o4, -⟩ := pf_ok hb hp h2
        obtain ⟨i1, i2⟩ := prs_ok hb n (pf b e p).2.1 o4
        refine ⟨fun x hx => ?_, ?_⟩
        · rcases List.mem_cons.mp hx with rfl | hx
          · exact o1
          · exact i1 x hx
        · rw [eL_cons, List.length_append]; omega
      · rw [if_neg h2]; exact ⟨fun x hx => absurd hx List.not_mem_nil, hp⟩
/-- what was written is read again -/
theorem prs_eL {b : Nat → Nat} {e : Nat} : ∀ (L : List af) (n p : Nat), (∀ x ∈ L, okf x) → L.length ≤ n → p + (eL L).length = e → rowAt b p (eL L) → prs b e n p = (L, 0, 0)
  | [], 0, p, _, _, _, _ => rfl
  | [], n + 1, p, _, _, he, _ => by
    have he : p + 0 = e := he
    unfold prs
    rw [if_pos (by omega)]
  | x :: L, 0, p, _, hn, _, _ => absurd hn (Nat.not_succ_le_zero _)
  | x :: L, n + 1, p, hok, hn, he, hrow => by
    rw [eL_cons, List.length_append] at he
    rw [eL_cons, rowAt_app] at hrow
    have hx := hok x List.mem_cons_self
    have hl2 := ef_len2 x
    have hpf := pf_ef hx (e := e) (by omega) hrow.1
    have ih := prs_eL (b := b) (e := e) L n (p + (ef x).length) (fun z hz => hok z (List.mem_cons_of_mem _ hz)) (Nat.le_of_succ_le_succ hn) (by omega) hrow.2
    unfold prs
    rw [if_neg (by omega), hpf]
    dsimp only
    rw [if_pos rfl, ih]
    have hm : mkf b (0, p + (ef x).length, x.1, x.2.1, x.2.2.1) = x := by
      obtain ⟨t, y, v, X⟩ := x
      obtain ⟨h1, h2, h3, h4, h5, h6, h7⟩ := hx
      dsimp only at h1 h2 h3 h4 h5 h6 h7
      show (t, y, v, if y = 2 then bys b (p + (ef (t, y, v, X)).length - v) v else []) = _
      by_cases hy : y = 2
      · rw [if_pos hy]
        have hr := rowAt_bytes hrow.1
        have hr : rowAt b (p + (ef (t, y, v, X)).length - X.length) X := hr
        have h5 := h5 hy
        rw [h5] at hr
        congr 3
        refine eq_getD (by rw [bys_len, h5]) (fun k hk => ?_)
        rw [bys_len] at hk
        rw [← hr k (by omega), bys_row b _ v k (by rw [bys_len]; exact hk)]
      · rw [if_neg hy, h6 hy]
    rw [hm]
section R9
variable {M m s : Nat} {h : mw_H} {I : Nat → Int32} {A : Nat → Nat → Int32} {X Y : List Nat}
theorem pf_f (b : Nat → Nat) (e p : Nat) : (pf b e p).1 ≤ 4 := by
  have h1 := pg_f b e 5 p 0
  have h2 := pg_f b e 5 (pg b e 5 p 0).2.1 0
  unfold pf
  repeat' split
  all_goals (try dsimp only)
  all_goals omega
end R9

/-! the reference's field of bytes -/
section R10
variable {M m s : Nat} {h : mw_H} {I : Nat → Int32} {A : Nat → Nat → Int32} {X Y : List Nat}
end R10

/-! conflicts: the math -/
def dif (A : Nat → Nat → Int32) (s o t : Nat) : Bool := decide (zKind A s (nI t) ≠ -1) && (decide (zKind A o (nI t) ≠ -1) && (decide (zKind A s (nI t) ≠ zKind A o (nI t)) && (decide (zInt (zKind A s (nI t)) ≠ 0) || decide (zInt (zKind A o (nI t)) ≠ 0))))
def led (A : Nat → Nat → Int32) (s o t : Nat) : Bool := decide (zKind A s (nI t) = 4) && decide (zKind A o (nI t) = 4)
/-- the schema of a part -/
def pn (A : Nat → Nat → Int32) (s t : Nat) : Nat := (A 2 (32 * s + t)).toNatClampNeg
/-- the pair to which a pair leads -/
def to2 (A : Nat → Nat → Int32) (s o t : Nat) : Nat := 6 * pn A s t + pn A o t
def wfK (A : Nat → Nat → Int32) (ns : Nat) : Prop := ∀ s t, s < ns → 1 ≤ t → t ≤ 31 → zKind A s (nI t) = 4 → pn A s t < ns ∧ A 2 (32 * s + t) = nI (pn A s t)
/-- a difference is found in n steps from the pair j, with no way over the pair q -/
def dn (A : Nat → Nat → Int32) (q : Nat) : Nat → Nat → Prop
  | 0, _ => False
  | n + 1, j => j ≠ q ∧ ∃ t, 1 ≤ t ∧ t ≤ 31 ∧ (dif A (j / 6) (j % 6) t = true ∨ led A (j / 6) (j % 6) t = true ∧ dn A q n (to2 A (j / 6) (j % 6) t))
def Ds (A : Nat → Nat → Int32) (q j : Nat) : Prop := ∃ n, dn A q n j
theorem Ds_here {A : Nat → Nat → Int32} {q s o t : Nat} (ho : o < 6) (h1 : 1 ≤ t) (h2 : t ≤ 31) (hq : 6 * s + o ≠ q) (h : dif A s o t = true) : Ds A q (6 * s + o) := by
  refine ⟨1, hq, t, h1, h2, Or.inl ?_⟩
  rw [show (6 * s + o) / 6 = s by omega, show (6 * s + o) % 6 = o by omega]
  exact h
theorem Ds_next {A : Nat → Nat → Int32} {q s o t : Nat} (ho : o < 6) (h1 : 1 ≤ t) (h2 : t ≤ 31) (hq : 6 * s + o ≠ q) (h : led A s o t = true) (hn : Ds A q (to2 A s o t)) : Ds A q (6 * s + o) := by
  obtain ⟨n, hn⟩ := hn
  refine ⟨n + 1, hq, t, h1, h2, Or.inr ?_⟩
  rw [show (6 * s + o) / 6 = s by omega, show (6 * s + o) % 6 = o by omega]
  exact ⟨h, hn⟩
/-- a closed set without differences holds none that leads to one -/
theorem Ds_not {A : Nat → Nat → Int32} {q : Nat} {C : Nat → Prop} (h : ∀ j, C j → j ≠ q → ∀ t, 1 ≤ t → t ≤ 31 → dif A (j / 6) (j % 6) t = false ∧ (led A (j / 6) (j % 6) t = true → C (to2 A (j / 6) (j % 6) t))) : ∀ n j, C j → ¬ dn A q n j
  | 0, _, _, hd => hd
  | n + 1, j, hC, hd => by
    obtain ⟨hq, t, h1, h2, hd⟩ := hd
    obtain ⟨i1, i2⟩ := h j hC hq t h1 h2
    rcases hd with hd | ⟨hd, hn⟩
    · rw [i1] at hd; exact absurd hd (by decide)
    · exact Ds_not h n _ (i2 hd) hn
/-- a tag is a reason -/
def rsnD (A : Nat → Nat → Int32) (s o t : Nat) : Prop := dif A s o t = true ∨ led A s o t = true ∧ Ds A (6 * s + o) (to2 A s o t)
def isConf (A : Nat → Nat → Int32) (s o : Nat) (r : Int32) : Prop := (r = -1 ∧ ∀ t, 1 ≤ t → t ≤ 31 → ¬ rsnD A s o t) ∨ (∃ t, 1 ≤ t ∧ t ≤ 31 ∧ r = nI t ∧ rsnD A s o t ∧ ∀ t', 1 ≤ t' → t' < t → ¬ rsnD A s o t')
theorem isConf_one {A : Nat → Nat → Int32} {s o : Nat} {r r' : Int32} (h : isConf A s o r) (h' : isConf A s o r') : r = r' := by
  rcases h with ⟨h1, h2⟩ | ⟨t, h1, h2, h3, h4, h5⟩
  · rcases h' with ⟨k1, k2⟩ | ⟨t', k1, k2, k3, k4, k5⟩
    · rw [h1, k1]
    · exact absurd k4 (h2 t' k1 k2)
  · rcases h' with ⟨k1, k2⟩ | ⟨t', k1, k2, k3, k4, k5⟩
    · exact absurd h4 (k2 t h1 h2)
    · rw [h3, k3]
      congr 1
      rcases Nat.lt_or_ge t t' with z | z
      · exact absurd h4 (k5 t h1 z)
      · rcases Nat.lt_or_ge t' t with z2 | z2
        · exact absurd k4 (h5 t' k1 z2)
        · omega
/-- a reason, by what is known so far -/
def rsn (A : Nat → Nat → Int32) (g : Nat → Int32) (s o t : Nat) : Bool := dif A s o t || (led A s o t && decide (g (to2 A s o t) ≠ 0))
section R11
variable {M : Nat} {h : mw_H} {I : Nat → Int32} {A : Nat → Nat → Int32}
theorem to2_lt {ns s o t : Nat} (hw : wfK A ns) (hns : ns ≤ 6) (hs : s < ns) (ho : o < ns) (h1 : 1 ≤ t) (h2 : t ≤ 31) (hl : led A s o t = true) : to2 A s o t < 36 ∧ 6 * A 2 (32 * s + t) + A 2 (32 * o + t) = nI (to2 A s o t) ∧ pn A s t < ns ∧ pn A o t < ns := by
  unfold led at hl
  rw [Bool.and_eq_true, decide_eq_true_iff, decide_eq_true_iff] at hl
  obtain ⟨a1, a2⟩ := hw s t hs h1 h2 hl.1
  obtain ⟨b1, b2⟩ := hw o t ho h1 h2 hl.2
  unfold to2
  refine ⟨by omega, ?_, a1, b1⟩
  rw [a2, b2, show (6 : Int32) = nI 6 from rfl, pk_mul, nI_add]
end R11

