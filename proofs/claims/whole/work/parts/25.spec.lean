/-! the calls: what is thrown (0 nothing, else the place in the throws clause), the answer, the state behind -/
def tix (s : Nat) (t : Int32) : Nat := 32 * s + t.toNatClampNeg
def sp_addSchema (g : mS) : mA := if g.1 = 6 then (1, 0, g) else (0, nI g.1, (g.1 + 1, va_up g.2.1 1 (fun j => if 32 * g.1 ≤ j ∧ j < 32 * g.1 + 32 then -1 else g.2.1 1 j), g.2.2))
def sp_setKind (g : mS) (s t k o : Int32) : mA := match sS g s with
  | none => (1, 0, g)
  | some s' => if k = 4 ∧ sS g o = none then (1, 0, g) else if zTag t = 0 ∨ zIn k 0 4 = 0 then (2, 0, g) else (0, g.2.1 1 (tix s' t), (g.1, va_up (va_up (va_up g.2.1 1 (upd (g.2.1 1) (tix s' t) k)) 2 (upd (g.2.1 2) (tix s' t) o)) 3 (upd (g.2.1 3) (tix s' t) 0), g.2.2))
def sp_dropKind (g : mS) (s t : Int32) : mA := match sS g s with
  | none => (1, 0, g)
  | some s' => if zTag t = 0 then (2, 0, g) else (0, g.2.1 1 (tix s' t), (g.1, va_up g.2.1 1 (upd (g.2.1 1) (tix s' t) (-1)), g.2.2))
def sp_setDefault (g : mS) (s t v : Int32) : mA := match sS g s with
  | none => (1, 0, g)
  | some s' => if zTag t = 0 then (2, 0, g) else if zInt (zKind g.2.1 s' t) = 0 then (3, 0, g) else (0, g.2.1 3 (tix s' t), (g.1, va_up g.2.1 3 (upd (g.2.1 3) (tix s' t) v), g.2.2))
def sp_kindOf (g : mS) (s t : Int32) : mA := match sS g s with
  | none => (1, 0, g)
  | some s' => if zTag t = 0 then (2, 0, g) else (0, zKind g.2.1 s' t, g)
def sp_conflict (g : mS) (s o : Int32) (a : mA) : Prop := match sS g s, sS g o with
  | some s', some o' => a.1 = 0 ∧ isConf g.2.1 s' o' a.2.1 ∧ a.2.2 = g
  | _, _ => a = (1, 0, g)
/-- a new message, if there is room: e is thrown else -/
def newM (g : mS) (e : Int32) (s : Nat) (L : List af) : mA := if fre g.2.2.1 = 12 then (e, 0, g) else (0, nI (fre g.2.2.1), gSet g (fre g.2.2.1) s L)
def sp_create (g : mS) (s : Int32) : mA := match sS g s with
  | none => (1, 0, g)
  | some s' => newM g 2 s' []
def sp_copy (g : mS) (m s : Int32) : mA := match sM g m, sS g s with
  | some q, some s' => newM g 2 s' q.2.2
  | _, _ => (1, 0, g)
def sp_discard (g : mS) (m : Int32) : mA := match sM g m with
  | none => (1, 0, g)
  | some q => (0, nI q.2.2.length, (g.1, g.2.1, fun j => if j = q.1 then none else g.2.2.1 j, g.2.2.2))
/-- the fields without the known ones with a tag -/
def oth (K : Nat → Nat → Int32) (s : Nat) (t : Int32) (L : List af) : List af := L.filter (fun x => !Pt K s t x)
/-- the last known field with a tag -/
def lastK (K : Nat → Nat → Int32) (s : Nat) (t : Int32) (L : List af) : Option af := (L.filter (Pt K s t)).getLast?
/-- the message has L now, if it isn't too much -/
def putM (g : mS) (m s : Nat) (L : List af) (r : Int32) : mA := if 120 < (eL L).length then (3, 0, g) else (0, r, gSet g m s L)
def uN (x : Int32) : Nat := x.toBitVec.toNat
def tyN (k : Int32) : Nat := if k = 2 then 5 else 0
def sp_set (g : mS) (m t v : Int32) : mA := match sM g m with
  | none => (1, 0, g)
  | some (m', s, L) => if zInt (zKind g.2.1 s t) = 0 then (2, 0, g) else putM g m' s (oth g.2.1 s t L ++ [(t.toNatClampNeg, tyN (zKind g.2.1 s t), uN (zStA (zKind g.2.1 s t) v), [])]) 0
/-- the bytes Y become the field of a tag -/
def putB (g : mS) (m s : Nat) (t : Int32) (L : List af) (Y : List Nat) : mA := putM g m s (oth g.2.1 s t L ++ [(t.toNatClampNeg, 2, Y.length, Y)]) (nI Y.length)
def lastB (K : Nat → Nat → Int32) (s : Nat) (t : Int32) (L : List af) : List Nat := match lastK K s t L with
  | none => []
  | some x => x.2.2.2
def sp_append (g : mS) (m t b : Int32) : mA := match sM g m with
  | none => (1, 0, g)
  | some (m', s, L) => if zHas (zKind g.2.1 s t) = 0 then (2, 0, g) else putB g m' s t L (lastB g.2.1 s t L ++ [uN (b &&& 255)])
def sp_setPart (g : mS) (m t o : Int32) : mA := match sM g m, sM g o with
  | some (m', s, L), some (_, s2, L2) => if zKind g.2.1 s t ≠ 4 ∨ g.2.1 2 (tix s t) ≠ nI s2 then (2, 0, g) else putB g m' s t L (eL (can g.2.1 s2 L2))
  | _, _ => (1, 0, g)
def sp_clear (g : mS) (m t : Int32) : mA := match sM g m with
  | none => (1, 0, g)
  | some (m', s, L) => if zTag t = 0 then (2, 0, g) else (0, nI (L.filter (fun x => decide (nI x.1 = t))).length, gSet g m' s (L.filter (fun x => !decide (nI x.1 = t))))
def sp_schemaOf (g : mS) (m : Int32) : mA := match sM g m with
  | none => (1, 0, g)
  | some q => (0, nI q.2.1, g)
def sp_has (g : mS) (m t : Int32) : mA := match sM g m with
  | none => (1, 0, g)
  | some (_, s, L) => if zTag t = 0 then (2, 0, g) else (0, if (lastK g.2.1 s t L).isSome then 1 else 0, g)
def sp_get (g : mS) (m t : Int32) : mA := match sM g m with
  | none => (1, 0, g)
  | some (_, s, L) => if zInt (zKind g.2.1 s t) = 0 then (2, 0, g) else match lastK g.2.1 s t L with
    | none => (0, g.2.1 3 (tix s t), g)
    | some x => (0, zStF (zKind g.2.1 s t) (nI x.2.2.1), g)
/-- a byte, as it is answered -/
def bV (x : Nat) : Int32 := (nI x).toInt8.toInt32
def sp_byteOf (g : mS) (m t p : Int32) : mA := match sM g m with
  | none => (1, 0, g)
  | some (_, s, L) => if zHas (zKind g.2.1 s t) = 0 then (2, 0, g) else match lastK g.2.1 s t L with
    | none => (3, 0, g)
    | some x => if zIn p 0 (nI x.2.2.1 - 1) = 0 then (3, 0, g) else (0, bV (x.2.2.2.getD p.toNatClampNeg 0), g)
/-- a row of bytes, read: the fields, the fault, its place -/
def prsL (Y : List Nat) : List af × Nat × Nat := prs (fun j => Y.getD j 0) Y.length 60 0
def sp_open (g : mS) (m t : Int32) : mA := match sM g m with
  | none => (1, 0, g)
  | some (_, s, L) => if zKind g.2.1 s t ≠ 4 then (2, 0, g) else match lastK g.2.1 s t L with
    | none => (3, 0, g)
    | some x => if (prsL x.2.2.2).2.1 ≠ 0 then (4, 0, g) else newM g 4 (pn g.2.1 s t.toNatClampNeg) (prsL x.2.2.2).1
def sp_unknowns (g : mS) (m : Int32) : mA := match sM g m with
  | none => (1, 0, g)
  | some (_, s, L) => (0, nI (unk g.2.1 s L), g)
def sp_unknownTag (g : mS) (m p : Int32) : mA := match sM g m with
  | none => (1, 0, g)
  | some (_, s, L) => if zIn p 0 (nI (unk g.2.1 s L) - 1) = 0 then (1, 0, g) else (0, nI (((L.filter (fun x => !knb g.2.1 s x)).getD p.toNatClampNeg (0, 0, 0, [])).1), g)
def sp_weight (g : mS) (m : Int32) : mA := match sM g m with
  | none => (1, 0, g)
  | some (_, _, L) => (0, nI (eL L).length, g)
def sp_areSame (g : mS) (m o : Int32) : mA := match sM g m, sM g o with
  | some (_, s, L), some (_, s2, L2) => (0, if eL (can g.2.1 s L) = eL (can g.2.1 s2 L2) then 1 else 0, g)
  | _, _ => (1, 0, g)
/-- the tape has Y now -/
def gTape (g : mS) (Y : List Nat) : mS := (g.1, g.2.1, g.2.2.1, Y)
def sp_write (g : mS) (m : Int32) : mA := match sM g m with
  | none => (1, 0, g)
  | some (_, s, L) => (0, nI (eL (can g.2.1 s L)).length, gTape g (eL (can g.2.1 s L)))
def sp_put (g : mS) (b : Int32) : mA := if g.2.2.2.length = 120 then (1, 0, g) else (0, nI (g.2.2.2.length + 1), gTape g (g.2.2.2 ++ [uN (b &&& 255)]))
def sp_cut (g : mS) (n : Int32) : mA := if zIn n 0 (nI g.2.2.2.length) = 0 then (1, 0, g) else (0, nI g.2.2.2.length - n, gTape g (g.2.2.2.take n.toNatClampNeg))
def sp_length (g : mS) : mA := (0, nI g.2.2.2.length, g)
def sp_byteAt (g : mS) (p : Int32) : mA := if zIn p 0 (nI g.2.2.2.length - 1) = 0 then (1, 0, g) else (0, bV (g.2.2.2.getD p.toNatClampNeg 0), g)
def sp_fault (g : mS) : mA := (0, nI (prsL g.2.2.2).2.1, g)
def sp_faultAt (g : mS) : mA := (0, if (prsL g.2.2.2).2.1 = 0 then -1 else nI (prsL g.2.2.2).2.2, g)
def sp_read (g : mS) (s : Int32) : mA := match sS g s with
  | none => (1, 0, g)
  | some s' => if (prsL g.2.2.2).2.1 ≠ 0 then (2, 0, g) else newM g 3 s' (prsL g.2.2.2).1
def sp_isCanonical (g : mS) (s : Int32) : mA := match sS g s with
  | none => (1, 0, g)
  | some s' => (0, if (prsL g.2.2.2).2.1 = 0 ∧ eL (can g.2.1 s' (prsL g.2.2.2).1) = g.2.2.2 then 1 else 0, g)
section SP
variable {M : Nat} {h : mw_H} {g : mS} {I : Nat → Int32} {A : Nat → Nat → Int32} {x : Int32}
theorem c_S0 (hr : rR g I A) (e : sS g x = none) : mw_Con mm_X7_isSchema 1 0 0 [.ref M, .int x] (gm M h I A) (mw_ret (.int 0) (gm M h I A)) := by
  have h1 := c_isSchema (M := M) (h := h) (I := I) (A := A) x
  rw [rR_sch hr, e] at h1
  exact h1
theorem c_S1 (hr : rR g I A) {s : Nat} (e : sS g x = some s) : mw_Con mm_X7_isSchema 1 0 0 [.ref M, .int x] (gm M h I A) (mw_ret (.int 1) (gm M h I A)) := by
  have h1 := c_isSchema (M := M) (h := h) (I := I) (A := A) x
  rw [rR_sch hr, e] at h1
  exact h1
theorem c_M0 (hr : rR g I A) (e : sM g x = none) : mw_Con mm_X7_isMessage 1 0 0 [.ref M, .int x] (gm M h I A) (mw_ret (.int 0) (gm M h I A)) := by
  have h1 := c_isMessage (M := M) (h := h) (I := I) (A := A) x
  rw [rR_ms hr, e] at h1
  exact h1
theorem c_M1 (hr : rR g I A) {q : Nat × Nat × List af} (e : sM g x = some q) : mw_Con mm_X7_isMessage 1 0 0 [.ref M, .int x] (gm M h I A) (mw_ret (.int 1) (gm M h I A)) := by
  have h1 := c_isMessage (M := M) (h := h) (I := I) (A := A) x
  rw [rR_ms hr, e] at h1
  exact h1
theorem c_T0 (e : zTag x = 0) : mw_Con mm_X7_isTag 1 0 0 [.int x] h (mw_ret (.int 0) h) := by
  have h1 := c_isTag (h := h) x
  rw [e] at h1
  exact h1
theorem zTag_1 (e : ¬ zTag x = 0) : zTag x = 1 := by
  rcases zIn_01 x 1 31 with z | z
  · exact absurd z e
  · exact z
theorem c_T1 (e : ¬ zTag x = 0) : mw_Con mm_X7_isTag 1 0 0 [.int x] h (mw_ret (.int 1) h) := by
  have h1 := c_isTag (h := h) x
  rw [zTag_1 e] at h1
  exact h1
theorem c_F1 (hr : rR g I A) (e : fre g.2.2.1 = 12) : mw_Con mm_X7_isFull 1 0 0 [.ref M] (gm M h I A) (mw_ret (.int 1) (gm M h I A)) := by
  have h1 := c_isFull (M := M) (h := h) (I := I) (rR_free hr)
  rw [if_pos e] at h1
  exact h1
theorem c_F0 (hr : rR g I A) (e : ¬ fre g.2.2.1 = 12) : mw_Con mm_X7_isFull 1 0 0 [.ref M] (gm M h I A) (mw_ret (.int 0) (gm M h I A)) := by
  have h1 := c_isFull (M := M) (h := h) (I := I) (rR_free hr)
  rw [if_neg e] at h1
  exact h1
theorem tix_ix {s : Nat} (hs : s < 6) {t : Int32} (e : ¬ zTag t = 0) : vp_in (32 * nI s + t) 192 ∧ (32 * nI s + t).toNatClampNeg = tix s t := by
  obtain ⟨j, h1, h2, rfl⟩ := zTag_nI e
  unfold tix
  rw [nI_clamp (by omega)]
  exact mw_ix (mx_32 s j) (show 32 * s + j < 192 by omega) (by decide)
theorem zKind_tix {K : Nat → Nat → Int32} {s : Nat} {t : Int32} (e : ¬ zTag t = 0) : zKind K s t = K 1 (tix s t) := if_neg e
/-- tables that change, and no message -/
theorem rR_K (hr : rR g I A) {I' : Nat → Int32} {A' K' : Nat → Nat → Int32} {ns : Nat} (hns : ns ≤ 6) (hge : g.1 ≤ ns) (hw : wfK K' ns) (hk : okK K' ns) (h1 : I' 1 = nI ns) (e1 : A' 1 = K' 1) (e2 : A' 2 = K' 2) (e3 : A' 3 = K' 3) (hA : ∀ j, 4 ≤ j → j ≤ 8 → A' j = A j) (h9 : I' 9 = I 9) : rR (ns, K', g.2.2) I' A' := by
  obtain ⟨a0, a1, a2, a3, a4, a5, a6, a7, a8, a9⟩ := hr
  obtain ⟨b1, b2, b3, b4, b5, b6⟩ := a0
  refine ⟨⟨hns, hw, hk, fun m s L hm hT => ?_, b5, b6⟩, h1, e1, e2, e3, ?_, ?_, ?_, h9.trans a8, ?_⟩
  · obtain ⟨c1, c2⟩ := b4 m s L hm hT
    exact ⟨Nat.lt_of_lt_of_le c1 hge, c2⟩
  · rw [hA 4 (by decide) (by decide), hA 5 (by decide) (by decide), hA 6 (by decide) (by decide), hA 7 (by decide) (by decide)]
    exact a5
  · rw [hA 7 (by decide) (by decide)]; exact a6
  · rw [hA 8 (by decide) (by decide)]; exact a7
  · rw [hA 8 (by decide) (by decide)]; exact a9
theorem tix_inj {s s' t : Nat} {x : Int32} (h1 : 1 ≤ t) (h2 : t ≤ 31) (e : ¬ zTag x = 0) (h : 32 * s + t = tix s' x) : s = s' ∧ x = nI t := by
  obtain ⟨j, j1, j2, rfl⟩ := zTag_nI e
  unfold tix at h
  rw [nI_clamp (by omega)] at h
  have : t = j := by omega
  subst this
  exact ⟨by omega, rfl⟩
end SP
