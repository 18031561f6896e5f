/-! the state of the whole: (how many schemas, their tables 1 kinds 2 parts 3 defaults, the messages, the tape) -/
abbrev mS : Type := Nat × (Nat → Nat → Int32) × (Nat → Option (Nat × List af)) × List Nat
/-- the kinds are kinds -/
def okK (K : Nat → Nat → Int32) (ns : Nat) : Prop := ∀ s t, s < ns → 1 ≤ t → t ≤ 31 → K 1 (32 * s + t) = -1 ∨ ∃ k : Nat, k ≤ 4 ∧ K 1 (32 * s + t) = nI k
/-- a message that may be -/
def okM (ns s : Nat) (L : List af) : Prop := s < ns ∧ (∀ x ∈ L, okf x) ∧ (eL L).length ≤ 120
/-- a state that may be -/
def okS (g : mS) : Prop := g.1 ≤ 6 ∧ wfK g.2.1 g.1 ∧ okK g.2.1 g.1 ∧ (∀ m s L, m < 12 → g.2.2.1 m = some (s, L) → okM g.1 s L) ∧ g.2.2.2.length ≤ 120 ∧ ∀ z ∈ g.2.2.2, z < 256
/-- the reference holds it -/
def rR (g : mS) (I : Nat → Int32) (A : Nat → Nat → Int32) : Prop := okS g ∧ I 1 = nI g.1 ∧ A 1 = g.2.1 1 ∧ A 2 = g.2.1 2 ∧ A 3 = g.2.1 3 ∧ (∀ m, m < 12 → (g.2.2.1 m = none → A 4 m = 0) ∧ (∀ s L, g.2.2.1 m = some (s, L) → A 4 m = 1 ∧ A 5 m = nI s ∧ A 6 m = nI (eL L).length ∧ rowAt (bt (A 7)) (120 * m) (eL L))) ∧ byt (A 7) 1440 ∧ byt (A 8) 120 ∧ I 9 = nI g.2.2.2.length ∧ rowAt (bt (A 8)) 0 g.2.2.2
theorem byt_wr {f : Nat → Int32} {w n : Nat} {X : List Nat} (hX : ∀ z ∈ X, z < 256) (h : byt f n) : byt (wr f w X) n := by
  intro j hj
  show ∃ x, x < 256 ∧ (if w ≤ j ∧ j < w + X.length then nI (X.getD (j - w) 0) else f j) = nI x
  by_cases e : w ≤ j ∧ j < w + X.length
  · rw [if_pos e]
    exact ⟨_, hX _ (getD_mem (by omega)), rfl⟩
  · rw [if_neg e]
    exact h j hj
theorem row_wr {f : Nat → Int32} {w : Nat} {X : List Nat} (hX : ∀ z ∈ X, z < 256) : rowAt (bt (wr f w X)) w X := by
  intro j hj
  refine bt_nI ?_ (hX _ (getD_mem hj))
  show (if w ≤ w + j ∧ w + j < w + X.length then nI (X.getD (w + j - w) 0) else f (w + j)) = _
  rw [if_pos (by omega), Nat.add_sub_cancel_left]
theorem row_wr_ne {f : Nat → Int32} {w p : Nat} {X Y : List Nat} (h : p + Y.length ≤ w ∨ w + X.length ≤ p) (hr : rowAt (bt f) p Y) : rowAt (bt (wr f w X)) p Y := by
  intro j hj
  rw [← hr j hj]
  unfold bt
  rw [show wr f w X (p + j) = f (p + j) from if_neg (by omega)]
section ST
variable {g : mS} {I I' : Nat → Int32} {A A' : Nat → Nat → Int32} {m s : Nat} {L : List af}
theorem rR_scr (h : rR g I A) (hA : ∀ j, 1 ≤ j → j ≤ 8 → A' j = A j) (h1 : I' 1 = I 1) (h9 : I' 9 = I 9) : rR g I' A' := by
  obtain ⟨a0, a1, a2, a3, a4, a5, a6, a7, a8, a9⟩ := h
  unfold rR
  rw [h1, h9, hA 1 (by decide) (by decide), hA 2 (by decide) (by decide), hA 3 (by decide) (by decide), hA 4 (by decide) (by decide), hA 5 (by decide) (by decide), hA 6 (by decide) (by decide), hA 7 (by decide) (by decide), hA 8 (by decide) (by decide)]
  exact ⟨a0, a1, a2, a3, a4, a5, a6, a7, a8, a9⟩
theorem rR_ns (h : rR g I A) : g.1 ≤ 6 := h.1.1
theorem zKind_cong {A K : Nat → Nat → Int32} (h : A 1 = K 1) (s : Nat) (t : Int32) : zKind A s t = zKind K s t := by
  unfold zKind
  rw [h]
theorem knb_cong {A K : Nat → Nat → Int32} (h : A 1 = K 1) (s : Nat) : knb A s = knb K s := by
  funext x
  unfold knb zKn
  rw [zKind_cong h]
theorem Pt_cong {A K : Nat → Nat → Int32} (h : A 1 = K 1) (s : Nat) (t : Int32) : Pt A s t = Pt K s t := by
  funext x
  unfold Pt
  rw [knb_cong h]
theorem dfb_cong {A K : Nat → Nat → Int32} (h : A 1 = K 1) (h3 : A 3 = K 3) (s t : Nat) : dfb A s t = dfb K s t := by
  funext x
  unfold dfb
  rw [zKind_cong h, h3]
theorem canT_cong {A K : Nat → Nat → Int32} (h : A 1 = K 1) (h3 : A 3 = K 3) (s t : Nat) : ∀ L, canT A s t L = canT K s t L
  | [] => rfl
  | x :: L => by
    unfold canT
    rw [canT_cong h h3 s t L]
    simp only [knb_cong h, Pt_cong h, dfb_cong h h3]
theorem canU_cong {A K : Nat → Nat → Int32} (h : A 1 = K 1) (h3 : A 3 = K 3) (s : Nat) (L : List af) : ∀ k, canU A s L k = canU K s L k
  | 0 => rfl
  | k + 1 => by
    show canU A s L k ++ canT A s (k + 1) L = canU K s L k ++ canT K s (k + 1) L
    rw [canU_cong h h3 s L k, canT_cong h h3]
theorem can_cong {A K : Nat → Nat → Int32} (h : A 1 = K 1) (h3 : A 3 = K 3) (s : Nat) (L : List af) : can A s L = can K s L := canU_cong h h3 s L 31
theorem rR_mes (h : rR g I A) (hm : m < 12) (hT : g.2.2.1 m = some (s, L)) : rMes A m s L := by
  obtain ⟨a0, a1, a2, a3, a4, a5, a6, a7, a8, a9⟩ := h
  obtain ⟨b1, b2, b3⟩ := a0.2.2.2.1 m s L hm hT
  obtain ⟨c1, c2, c3, c4⟩ := (a5 m hm).2 s L hT
  have := a0.1
  exact ⟨hm, by omega, c2, b2, b3, c3, c4, a6⟩
/-- the message m has the fields L now -/
def gSet (g : mS) (m s : Nat) (L : List af) : mS := (g.1, g.2.1, fun j => if j = m then some (s, L) else g.2.2.1 j, g.2.2.2)
theorem okS_set (h : okS g) (hs : s < g.1) (hok : ∀ x ∈ L, okf x) (hl : (eL L).length ≤ 120) : okS (gSet g m s L) := by
  obtain ⟨b1, b2, b3, b4, b5, b6⟩ := h
  refine ⟨b1, b2, b3, ?_, b5, b6⟩
  intro m' s' L' hm' hT
  have hT : (if m' = m then some (s, L) else g.2.2.1 m') = some (s', L') := hT
  by_cases e : m' = m
  · rw [if_pos e] at hT
    cases hT
    exact ⟨hs, hok, hl⟩
  · rw [if_neg e] at hT
    exact b4 m' s' L' hm' hT
theorem rR_put (h : rR g I A) (hm : m < 12) (hs : s < g.1) (hok : ∀ x ∈ L, okf x) (hl : (eL L).length ≤ 120) {B : Nat → Nat → Int32} (hB : ∀ j, 1 ≤ j → j ≤ 8 → j ≠ 4 → j ≠ 5 → B j = A j) (hB4 : B 4 = upd (A 4) m 1) (hB5 : B 5 = upd (A 5) m (nI s)) (h1 : I' 1 = I 1) (h9 : I' 9 = I 9) : rR (gSet g m s L) I' (aB B m (eL L)) := by
  obtain ⟨a0, a1, a2, a3, a4, a5, a6, a7, a8, a9⟩ := h
  have hX := eL_lt hok
  have b7 := hB 7 (by decide) (by decide) (by decide) (by decide)
  have b6 := hB 6 (by decide) (by decide) (by decide) (by decide)
  have e7 : aB B m (eL L) 7 = wr (A 7) (120 * m) (eL L) := by rw [← b7]; rfl
  have e6 : aB B m (eL L) 6 = upd (A 6) m (nI (eL L).length) := by rw [← b6]; rfl
  refine ⟨okS_set a0 hs hok hl, h1.trans a1, ?_, ?_, ?_, ?_, ?_, ?_, h9.trans a8, ?_⟩
  · show B 1 = _; rw [hB 1 (by decide) (by decide) (by decide) (by decide)]; exact a2
  · show B 2 = _; rw [hB 2 (by decide) (by decide) (by decide) (by decide)]; exact a3
  · show B 3 = _; rw [hB 3 (by decide) (by decide) (by decide) (by decide)]; exact a4
  · intro m' hm'
    have e4 : aB B m (eL L) 4 = upd (A 4) m 1 := hB4
    have e5 : aB B m (eL L) 5 = upd (A 5) m (nI s) := hB5
    rw [e4, e5, e6, e7]
    show ((if m' = m then some (s, L) else g.2.2.1 m') = none → _) ∧ ∀ s' L', (if m' = m then some (s, L) else g.2.2.1 m') = some (s', L') → _
    by_cases e : m' = m
    · subst e
      rw [if_pos rfl]
      refine ⟨fun z => absurd z (by simp), fun s' L' z => ?_⟩
      cases z
      exact ⟨pk_us, pk_us, pk_us, row_wr hX⟩
    · rw [if_neg e, pk_un e, pk_un e, pk_un e]
      refine ⟨(a5 m' hm').1, fun s' L' z => ?_⟩
      obtain ⟨c1, c2, c3, c4⟩ := (a5 m' hm').2 s' L' z
      have hl' := (a0.2.2.2.1 m' s' L' hm' z).2.2
      exact ⟨c1, c2, c3, row_wr_ne (by omega) c4⟩
  · rw [e7]; exact byt_wr hX a6
  · show byt (B 8) 120; rw [hB 8 (by decide) (by decide) (by decide) (by decide)]; exact a7
  · show rowAt (bt (B 8)) 0 _; rw [hB 8 (by decide) (by decide) (by decide) (by decide)]; exact a9
theorem rR_set (h : rR g I A) (hm : m < 12) {L0 : List af} (hT : g.2.2.1 m = some (s, L0)) (hok : ∀ x ∈ L, okf x) (hl : (eL L).length ≤ 120) {f : Nat → Int32} (h1 : I' 1 = I 1) (h9 : I' 9 = I 9) : rR (gSet g m s L) I' (aB (va_up A 9 f) m (eL L)) := by
  obtain ⟨c1, c2, -⟩ := (h.2.2.2.2.2.1 m hm).2 s L0 hT
  refine rR_put h hm (h.1.2.2.2.1 m s L0 hm hT).1 hok hl (fun j _ h8 _ _ => va_up_ne _ _ (by omega)) ?_ ?_ h1 h9
  · rw [va_up_ne _ _ (by decide)]; exact (fa_upd_same c1).symm
  · rw [va_up_ne _ _ (by decide)]; exact (fa_upd_same c2).symm
/-- the first free place -/
def fre (T : Nat → Option (Nat × List af)) : Nat := fa_first (fun m => decide (T m = none)) 12
theorem rR_free (h : rR g I A) : isFree A (fre g.2.2.1) := by
  have hle := fa_first_le (fun m => decide (g.2.2.1 m = none)) 12
  refine ⟨hle, fun j hj => ?_, fun hj => ?_⟩
  · have h2 := fa_first_no (fun m => decide (g.2.2.1 m = none)) 12 j hj
    have hj12 : j < 12 := Nat.lt_of_lt_of_le hj hle
    cases hT : g.2.2.1 j with
    | none => exact absurd hT (of_decide_eq_false h2)
    | some x =>
      obtain ⟨s, L⟩ := x
      rw [((h.2.2.2.2.2.1 j hj12).2 s L hT).1]
      decide
  · have h2 := fa_first_yes (fun m => decide (g.2.2.1 m = none)) 12 hj
    exact (h.2.2.2.2.2.1 _ hj).1 (of_decide_eq_true h2)
theorem rR_new (h : rR g I A) (hf : fre g.2.2.1 < 12) (hs : s < g.1) (hok : ∀ x ∈ L, okf x) (hl : (eL L).length ≤ 120) {B : Nat → Nat → Int32} (hB : ∀ j, 1 ≤ j → j ≤ 8 → B j = A j) (h1 : I' 1 = I 1) (h9 : I' 9 = I 9) : rR (gSet g (fre g.2.2.1) s L) I' (aN B (fre g.2.2.1) s (eL L)) := by
  refine rR_put h hf hs hok hl (fun j h1 h8 h4 h5 => ?_) ?_ ?_ h1 h9
  · rw [va_up_ne _ _ h5, va_up_ne _ _ h4]
    exact hB j h1 h8
  · rw [va_up_ne _ _ (by decide), va_up_self, hB 4 (by decide) (by decide)]
  · rw [va_up_self, hB 5 (by decide) (by decide)]
/-- the schema that a number names -/
def sS (g : mS) (x : Int32) : Option Nat := if zIn x 0 (nI g.1 - 1) = 0 then none else some x.toNatClampNeg
/-- the message that a number names -/
def sM (g : mS) (x : Int32) : Option (Nat × Nat × List af) := if zIn x 0 11 = 0 then none else match g.2.2.1 x.toNatClampNeg with
  | none => none
  | some q => some (x.toNatClampNeg, q)
theorem sS_in {x : Int32} (hg : g.1 ≤ 6) (h : sS g x = some s) : s < g.1 ∧ x = nI s := by
  unfold sS at h
  by_cases e : zIn x 0 (nI g.1 - 1) = 0
  · rw [if_pos e] at h; cases h
  · rw [if_neg e] at h
    obtain ⟨h1, h2⟩ := zIn_1 e
    rcases Nat.eq_zero_or_pos g.1 with z | z
    · rw [z] at h2
      exact absurd (Int32.le_trans h1 h2) (by decide)
    · rw [show nI g.1 - 1 = nI (g.1 - 1) from pk_sub z] at h2
      obtain ⟨j, hj, rfl⟩ := nI_of3 (M := nI (g.1 - 1)) (n := g.1 - 1) rfl (by omega) h1 h2
      rw [nI_clamp (by omega)] at h
      cases h
      exact ⟨by omega, rfl⟩
theorem sM_in {x : Int32} (h : sM g x = some (m, s, L)) : m < 12 ∧ x = nI m ∧ g.2.2.1 m = some (s, L) := by
  unfold sM at h
  by_cases e : zIn x 0 11 = 0
  · rw [if_pos e] at h; cases h
  · rw [if_neg e] at h
    obtain ⟨h1, h2⟩ := zIn_1 e
    obtain ⟨j, hj, rfl⟩ := nI_of3 (M := 11) (n := 11) rfl (by decide) h1 h2
    rw [nI_clamp (by omega)] at h
    cases hT : g.2.2.1 j with
    | none => rw [hT] at h; cases h
    | some q =>
      rw [hT] at h
      cases h
      exact ⟨by omega, rfl, hT⟩
theorem rR_sch (h : rR g I A) (x : Int32) : zSch I x = if (sS g x).isSome then 1 else 0 := by
  unfold zSch sS
  rw [h.2.1]
  rcases zIn_01 x 0 (nI g.1 - 1) with e | e
  · rw [if_pos e, e]; rfl
  · rw [e, if_neg (show ¬ (1 : Int32) = 0 by decide)]; rfl
theorem rR_ms (h : rR g I A) (x : Int32) : zMes A x = if (sM g x).isSome then 1 else 0 := by
  unfold zMes sM
  by_cases e : zIn x 0 11 = 0
  · rw [if_pos e, if_pos e]; rfl
  · rw [if_neg e, if_neg e]
    obtain ⟨h1, h2⟩ := zIn_1 e
    obtain ⟨j, hj, rfl⟩ := nI_of3 (M := 11) (n := 11) rfl (by decide) h1 h2
    rw [nI_clamp (by omega)]
    cases hT : g.2.2.1 j with
    | none => rw [(h.2.2.2.2.2.1 j (by omega)).1 hT]; rfl
    | some q =>
      obtain ⟨s, L⟩ := q
      rw [((h.2.2.2.2.2.1 j (by omega)).2 s L hT).1]
      rfl
/-- a call's end: (what is thrown, the answer, the state) -/
abbrev mA : Type := Int32 × Int32 × mS
end ST

/-! the calls: what is thrown (0 nothing, else the place in the throws clause), the answer, the state behind -/
def tix (s : Nat) (t : Int32) : Nat := 32 * s + t.toNatClampNeg
def sp_addSchema (g : mS) : mA := if g.1 = 6 then (1, 0, g) else (0, nI g.1, (g.1 + 1, va_up g.2.1 1 (fun j => if 32 * g.1 ≤ j ∧ j < 32 * g.1 + 32 then -1 else g.2.1 1 j), g.2.2))
def sp_setKind (g : mS) (s t k o : Int32) : mA := match sS g s with
  | none => (1, 0, g)
  | some s' => if k = 4 ∧ sS g o = none then (1, 0, g) else if zTag t = 0 ∨ zIn k 0 4 = 0 then (2, 0, g) else (0, g.2.1 1 (tix s' t), (g.1, va_up (va_up (va_up g.2.1 1 (upd (g.2.1 1) (tix s' t) k)) 2 (upd (g.2.1 2) (tix s' t) o)) 3 (upd (g.2.1 3) (tix s' t) 0), g.2.2))
def sp_dropKind (g : mS) (s t : Int32) : mA := match sS g s with
  | none => (1, 0, g)
  | some s' => if zTag t = 0 then (2, 0, g) else (0, g.2.1 1 (tix s' t), (g.1, va_up g.2.1 1 (upd (g.2.1 1) (tix s' t) (-1)), g.2.2))
def sp_setDefault (g : mS) (s t v : Int32) : mA := match sS g s with
  | none => (1, 0, g)
  | some s' => if zTag t = 0 then (2, 0, g) else if zInt (zKind g.2.1 s' t) = 0 then (3, 0, g) else (0, g.2.1 3 (tix s' t), (g.1, va_up g.2.1 3 (upd (g.2.1 3) (tix s' t) v), g.2.2))
def sp_kindOf (g : mS) (s t : Int32) : mA := match sS g s with
  | none => (1, 0, g)
  | some s' => if zTag t = 0 then (2, 0, g) else (0, zKind g.2.1 s' t, g)
def sp_conflict (g : mS) (s o : Int32) (a : mA) : Prop := match sS g s, sS g o with
  | some s', some o' => a.1 = 0 ∧ isConf g.2.1 s' o' a.2.1 ∧ a.2.2 = g
  | _, _ => a = (1, 0, g)
/-- a new message, if there is room: e is thrown else -/
def newM (g : mS) (e : Int32) (s : Nat) (L : List af) : mA := if fre g.2.2.1 = 12 then (e, 0, g) else (0, nI (fre g.2.2.1), gSet g (fre g.2.2.1) s L)
def sp_create (g : mS) (s : Int32) : mA := match sS g s with
  | none => (1, 0, g)
  | some s' => newM g 2 s' []
def sp_copy (g : mS) (m s : Int32) : mA := match sM g m, sS g s with
  | some q, some s' => newM g 2 s' q.2.2
  | _, _ => (1, 0, g)
def sp_discard (g : mS) (m : Int32) : mA := match sM g m with
  | none => (1, 0, g)
  | some q => (0, nI q.2.2.length, (g.1, g.2.1, fun j => if j = q.1 then none else g.2.2.1 j, g.2.2.2))
/-- the fields without the known ones with a tag -/
def oth (K : Nat → Nat → Int32) (s : Nat) (t : Int32) (L : List af) : List af := L.filter (fun x => !Pt K s t x)
/-- the last known field with a tag -/
def lastK (K : Nat → Nat → Int32) (s : Nat) (t : Int32) (L : List af) : Option af := (L.filter (Pt K s t)).getLast?
/-- the message has L now, if it isn't too much -/
def putM (g : mS) (m s : Nat) (L : List af) (r : Int32) : mA := if 120 < (eL L).length then (3, 0, g) else (0, r, gSet g m s L)
def uN (x : Int32) : Nat := x.toBitVec.toNat
def tyN (k : Int32) : Nat := if k = 2 then 5 else 0
def sp_set (g : mS) (m t v : Int32) : mA := match sM g m with
  | none => (1, 0, g)
  | some (m', s, L) => if zInt (zKind g.2.1 s t) = 0 then (2, 0, g) else putM g m' s (oth g.2.1 s t L ++ [(t.toNatClampNeg, tyN (zKind g.2.1 s t), uN (zStA (zKind g.2.1 s t) v), [])]) 0
/-- the bytes Y become the field of a tag -/
def putB (g : mS) (m s : Nat) (t : Int32) (L : List af) (Y : List Nat) : mA := putM g m s (oth g.2.1 s t L ++ [(t.toNatClampNeg, 2, Y.length, Y)]) (nI Y.length)
def lastB (K : Nat → Nat → Int32) (s : Nat) (t : Int32) (L : List af) : List Nat := match lastK K s t L with
  | none => []
  | some x => x.2.2.2
def sp_append (g : mS) (m t b : Int32) : mA := match sM g m with
  | none => (1, 0, g)
  | some (m', s, L) => if zHas (zKind g.2.1 s t) = 0 then (2, 0, g) else putB g m' s t L (lastB g.2.1 s t L ++ [uN (b &&& 255)])
def sp_setPart (g : mS) (m t o : Int32) : mA := match sM g m, sM g o with
  | some (m', s, L), some (_, s2, L2) => if zKind g.2.1 s t ≠ 4 ∨ g.2.1 2 (tix s t) ≠ nI s2 then (2, 0, g) else putB g m' s t L (eL (can g.2.1 s2 L2))
  | _, _ => (1, 0, g)
def sp_clear (g : mS) (m t : Int32) : mA := match sM g m with
  | none => (1, 0, g)
  | some (m', s, L) => if zTag t = 0 then (2, 0, g) else (0, nI (L.filter (fun x => decide (nI x.1 = t))).length, gSet g m' s (L.filter (fun x => !decide (nI x.1 = t))))
def sp_schemaOf (g : mS) (m : Int32) : mA := match sM g m with
  | none => (1, 0, g)
  | some q => (0, nI q.2.1, g)
def sp_has (g : mS) (m t : Int32) : mA := match sM g m with
  | none => (1, 0, g)
  | some (_, s, L) => if zTag t = 0 then (2, 0, g) else (0, if (lastK g.2.1 s t L).isSome then 1 else 0, g)
def sp_get (g : mS) (m t : Int32) : mA := match sM g m with
  | none => (1, 0, g)
  | some (_, s, L) => if zInt (zKind g.2.1 s t) = 0 then (2, 0, g) else match lastK g.2.1 s t L with
    | none => (0, g.2.1 3 (tix s t), g)
    | some x => (0, zStF (zKind g.2.1 s t) (nI x.2.2.1), g)
/-- a byte, as it is answered -/
def bV (x : Nat) : Int32 := (nI x).toInt8.toInt32
def sp_byteOf (g : mS) (m t p : Int32) : mA := match sM g m with
  | none => (1, 0, g)
  | some (_, s, L) => if zHas (zKind g.2.1 s t) = 0 then (2, 0, g) else match lastK g.2.1 s t L with
    | none => (3, 0, g)
    | some x => if zIn p 0 (nI x.2.2.1 - 1) = 0 then (3, 0, g) else (0, bV (x.2.2.2.getD p.toNatClampNeg 0), g)
/-- a row of bytes, read: the fields, the fault, its place -/
def prsL (Y : List Nat) : List af × Nat × Nat := prs (fun j => Y.getD j 0) Y.length 60 0
def sp_open (g : mS) (m t : Int32) : mA := match sM g m with
  | none => (1, 0, g)
  | some (_, s, L) => if zKind g.2.1 s t ≠ 4 then (2, 0, g) else match lastK g.2.1 s t L with
    | none => (3, 0, g)
    | some x => if (prsL x.2.2.2).2.1 ≠ 0 then (4, 0, g) else newM g 4 (pn g.2.1 s t.toNatClampNeg) (prsL x.2.2.2).1
def sp_unknowns (g : mS) (m : Int32) : mA := match sM g m with
  | none => (1, 0, g)
  | some (_, s, L) => (0, nI (unk g.2.1 s L), g)
def sp_unknownTag (g : mS) (m p : Int32) : mA := match sM g m with
  | none => (1, 0, g)
  | some (_, s, L) => if zIn p 0 (nI (unk g.2.1 s L) - 1) = 0 then (1, 0, g) else (0, nI (((L.filter (fun x => !knb g.2.1 s x)).getD p.toNatClampNeg (0, 0, 0, [])).1), g)
def sp_weight (g : mS) (m : Int32) : mA := match sM g m with
  | none => (1, 0, g)
  | some (_, _, L) => (0, nI (eL L).length, g)
def sp_areSame (g : mS) (m o : Int32) : mA := match sM g m, sM g o with
  | some (_, s, L), some (_, s2, L2) => (0, if eL (can g.2.1 s L) = eL (can g.2.1 s2 L2) then 1 else 0, g)
  | _, _ => (1, 0, g)
/-- the tape has Y now -/
def gTape (g : mS) (Y : List Nat) : mS := (g.1, g.2.1, g.2.2.1, Y)
def sp_write (g : mS) (m : Int32) : mA := match sM g m with
  | none => (1, 0, g)
  | some (_, s, L) => (0, nI (eL (can g.2.1 s L)).length, gTape g (eL (can g.2.1 s L)))
def sp_put (g : mS) (b : Int32) : mA := if g.2.2.2.length = 120 then (1, 0, g) else (0, nI (g.2.2.2.length + 1), gTape g (g.2.2.2 ++ [uN (b &&& 255)]))
def sp_cut (g : mS) (n : Int32) : mA := if zIn n 0 (nI g.2.2.2.length) = 0 then (1, 0, g) else (0, nI g.2.2.2.length - n, gTape g (g.2.2.2.take n.toNatClampNeg))
def sp_length (g : mS) : mA := (0, nI g.2.2.2.length, g)
def sp_byteAt (g : mS) (p : Int32) : mA := if zIn p 0 (nI g.2.2.2.length - 1) = 0 then (1, 0, g) else (0, bV (g.2.2.2.getD p.toNatClampNeg 0), g)
def sp_fault (g : mS) : mA := (0, nI (prsL g.2.2.2).2.1, g)
def sp_faultAt (g : mS) : mA := (0, if (prsL g.2.2.2).2.1 = 0 then -1 else nI (prsL g.2.2.2).2.2, g)
def sp_read (g : mS) (s : Int32) : mA := match sS g s with
  | none => (1, 0, g)
  | some s' => if (prsL g.2.2.2).2.1 ≠ 0 then (2, 0, g) else newM g 3 s' (prsL g.2.2.2).1
def sp_isCanonical (g : mS) (s : Int32) : mA := match sS g s with
  | none => (1, 0, g)
  | some s' => (0, if (prsL g.2.2.2).2.1 = 0 ∧ eL (can g.2.1 s' (prsL g.2.2.2).1) = g.2.2.2 then 1 else 0, g)
section SP
variable {M : Nat} {h : mw_H} {g : mS} {I : Nat → Int32} {A : Nat → Nat → Int32} {x : Int32}
theorem zTag_1 (e : ¬ zTag x = 0) : zTag x = 1 := by
  rcases zIn_01 x 1 31 with z | z
  · exact absurd z e
  · exact z
theorem tix_ix {s : Nat} (hs : s < 6) {t : Int32} (e : ¬ zTag t = 0) : vp_in (32 * nI s + t) 192 ∧ (32 * nI s + t).toNatClampNeg = tix s t := by
  obtain ⟨j, h1, h2, rfl⟩ := zTag_nI e
  unfold tix
  rw [nI_clamp (by omega)]
  exact mw_ix (mx_32 s j) (show 32 * s + j < 192 by omega) (by decide)
theorem zKind_tix {K : Nat → Nat → Int32} {s : Nat} {t : Int32} (e : ¬ zTag t = 0) : zKind K s t = K 1 (tix s t) := if_neg e
/-- tables that change, and no message -/
theorem rR_K (hr : rR g I A) {I' : Nat → Int32} {A' K' : Nat → Nat → Int32} {ns : Nat} (hns : ns ≤ 6) (hge : g.1 ≤ ns) (hw : wfK K' ns) (hk : okK K' ns) (h1 : I' 1 = nI ns) (e1 : A' 1 = K' 1) (e2 : A' 2 = K' 2) (e3 : A' 3 = K' 3) (hA : ∀ j, 4 ≤ j → j ≤ 8 → A' j = A j) (h9 : I' 9 = I 9) : rR (ns, K', g.2.2) I' A' := by
  obtain ⟨a0, a1, a2, a3, a4, a5, a6, a7, a8, a9⟩ := hr
  obtain ⟨b1, b2, b3, b4, b5, b6⟩ := a0
  refine ⟨⟨hns, hw, hk, fun m s L hm hT => ?_, b5, b6⟩, h1, e1, e2, e3, ?_, ?_, ?_, h9.trans a8, ?_⟩
  · obtain ⟨c1, c2⟩ := b4 m s L hm hT
    exact ⟨Nat.lt_of_lt_of_le c1 hge, c2⟩
  · rw [hA 4 (by decide) (by decide), hA 5 (by decide) (by decide), hA 6 (by decide) (by decide), hA 7 (by decide) (by decide)]
    exact a5
  · rw [hA 7 (by decide) (by decide)]; exact a6
  · rw [hA 8 (by decide) (by decide)]; exact a7
  · rw [hA 8 (by decide) (by decide)]; exact a9
theorem tix_inj {s s' t : Nat} {x : Int32} (h1 : 1 ≤ t) (h2 : t ≤ 31) (e : ¬ zTag x = 0) (h : 32 * s + t = tix s' x) : s = s' ∧ x = nI t := by
  obtain ⟨j, j1, j2, rfl⟩ := zTag_nI e
  unfold tix at h
  rw [nI_clamp (by omega)] at h
  have : t = j := by omega
  subst this
  exact ⟨by omega, rfl⟩
end SP

