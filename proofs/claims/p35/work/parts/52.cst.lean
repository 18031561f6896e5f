/-! the class side: the state of the whole (class side) -/
/-- what is there stays, but for the cells S; new ones may come -/
def yM (S : List Nat) (H H' : mw_H) : Prop := H.1 ≤ H'.1 ∧ H'.2.2 = H.2.2 ∧ ∀ b x, b ∉ S → mw_g H b = some x → mw_g H' b = some x
theorem yM.rf {S : List Nat} {H : mw_H} : yM S H H := ⟨Nat.le_refl _, rfl, fun _ _ _ h => h⟩
theorem yM.tr {S : List Nat} {H H' H'' : mw_H} (h : yM S H H') (h' : yM S H' H'') : yM S H H'' := ⟨Nat.le_trans h.1 h'.1, h'.2.1.trans h.2.1, fun b x hb hx => h'.2.2 b x hb (h.2.2 b x hb hx)⟩
theorem yM.mo {S S' : List Nat} {H H' : mw_H} (h : yM S H H') (hs : ∀ b, b ∈ S → b ∈ S') : yM S' H H' := ⟨h.1, h.2.1, fun b x hb hx => h.2.2 b x (fun z => hb (hs b z)) hx⟩
theorem yM.g {S : List Nat} {H H' : mw_H} (h : yM S H H') {b : Nat} {x : va_E} (hb : b ∉ S) (hx : mw_g H b = some x) : mw_g H' b = some x := h.2.2 b x hb hx
theorem yF.M {S : List Nat} {H H' : mw_H} (h : yF S H H') : yM S H H' := ⟨Nat.le_of_eq h.1.symm, h.2.1, fun b x hb hx => h.g hb hx⟩
/-- what there is lies below the next -/
def wfH (H : mw_H) : Prop := ∀ (a : Nat) (x : va_E), mw_g H a = some x → 0 < a ∧ a < H.1
theorem yM.n {S : List Nat} {H : mw_H} {x : va_E} (hw : wfH H) : yM S H (mw_n H x) := ⟨Nat.le_succ _, rfl, fun b y _ hy => (mw_gm (Nat.ne_of_lt (hw b y hy).2)).trans hy⟩
theorem wfH.n {H : mw_H} {x : va_E} (hw : wfH H) (h1 : 0 < H.1) : wfH (mw_n H x) := by
  intro a y hy
  by_cases e : a = H.1
  · rw [e]; exact ⟨h1, Nat.lt_succ_self _⟩
  · rw [mw_gm e] at hy
    exact ⟨(hw a y hy).1, Nat.lt_succ_of_lt (hw a y hy).2⟩
theorem wfH.s {H : mw_H} {a : Nat} {x x0 : va_E} (hw : wfH H) (h0 : mw_g H a = some x0) : wfH (mw_s H a x) := by
  intro b y hy
  by_cases e : b = a
  · rw [e]; exact hw a x0 h0
  · rw [mw_go e] at hy
    exact hw b y hy
theorem isB_M {S : List Nat} {H H' : mw_H} {a c : Nat} {X : List Nat} (h : isB H a c X) (hM : yM S H H') (ha : a ∉ S) (hc : c ∉ S) : isB H' a c X := by
  obtain ⟨h1, h2, h3, f, h4, h5⟩ := h
  exact ⟨hM.g ha h1, h2, h3, f, hM.g hc h4, h5⟩
theorem isF0_M {S : List Nat} {H H' : mw_H} {a : Nat} (h : isF0 H a) (hM : yM S H H') (hS : ∀ b ∈ S, b < a ∨ a + 4 < b) : isF0 H' a := by
  obtain ⟨k, s, nx, lm, pb, pa, f1, f2, f3, f4, g1, g2, g3, g4, g5⟩ := h
  have ho : ∀ j, j ≤ 4 → a + j ∉ S := fun j hj hm => by have := hS _ hm; omega
  exact ⟨k, s, nx, lm, pb, pa, f1, f2, f3, f4, hM.g (ho 0 (by decide)) g1, hM.g (ho 1 (by decide)) g2, hM.g (ho 2 (by decide)) g3, hM.g (ho 3 (by decide)) g4, hM.g (ho 4 (by decide)) g5⟩
theorem isK0_M {S : List Nat} {H H' : mw_H} {q : Nat} (h : isK0 H q) (hM : yM S H H') (hS : ∀ b ∈ S, b < q ∨ q + 9 < b) : isK0 H' q := by
  obtain ⟨⟨n, h1⟩, h2, ⟨f, h3⟩, ⟨g, h4⟩⟩ := h
  have ho : ∀ j, j ≤ 9 → q + j ∉ S := fun j hj hm => by have := hS _ hm; omega
  exact ⟨⟨n, hM.g (ho 0 (by decide)) h1⟩, isF0_M h2 hM (fun b hb => by have := hS b hb; omega), ⟨f, hM.g (ho 8 (by decide)) h3⟩, ⟨g, hM.g (ho 9 (by decide)) h4⟩⟩
theorem isP0_M {S : List Nat} {H H' : mw_H} {p : Nat} (h : isP0 H p) (hM : yM S H H') (hS : ∀ b ∈ S, b < p ∨ p + 3 < b) : isP0 H' p := by
  obtain ⟨n, g1, g2, f, h1, h2, h3, h4⟩ := h
  have ho : ∀ j, j ≤ 3 → p + j ∉ S := fun j hj hm => by have := hS _ hm; omega
  exact ⟨n, g1, g2, f, hM.g (ho 0 (by decide)) h1, hM.g (ho 1 (by decide)) h2, hM.g (ho 2 (by decide)) h3, hM.g (ho 3 (by decide)) h4⟩
theorem isS_M {S : List Nat} {H H' : mw_H} {K : Nat → Nat → Int32} {sa : Nat → Nat} {s sc ck cy cd cp : Nat} (hS : isS H K sa s sc ck cy cd cp) (hM : yM S H H') (h1 : sc ∉ S) (h2 : ck ∉ S) (h5 : cy ∉ S) (h3 : cd ∉ S) (h4 : cp ∉ S) : isS H' K sa s sc ck cy cd cp := by
  obtain ⟨b1, ⟨g1, b2, b3⟩, ⟨g2, b4, b5⟩, ⟨g3, b6, b7⟩, ⟨g4, b8, b9⟩⟩ := hS
  exact ⟨hM.g h1 b1, ⟨g1, hM.g h2 b2, b3⟩, ⟨g2, hM.g h3 b4, b5⟩, ⟨g3, hM.g h4 b6, b7⟩, ⟨g4, hM.g h5 b8, b9⟩⟩
/-- the object of the class -/
abbrev xV (n : Nat) : va_E := .inr (6, [.ref 2, .ref 3, .ref 4, .int (nI n), .ref 6, .ref 10, .ref 17, .ref 27, .ref 37, .ref 39, .ref 41])
abbrev xS (f : Nat → Option Nat) : va_E := .inl (4, (6, .inr (.inr (.inr (.inr f)))))
abbrev xM (f : Nat → Option Nat) : va_E := .inl (5, (12, .inr (.inr (.inr (.inr f)))))
/-- the rooms to work in -/
def cW (H : mw_H) : Prop := isP0 H 6 ∧ isF0 H 10 ∧ isK0 H 17 ∧ isK0 H 27 ∧ (∃ X, isB H 37 38 X) ∧ (∃ X, isB H 39 40 X) ∧ ∃ X, isB H 41 42 X
/-- the schemas -/
def cSc (g : mS) (H : mw_H) (sa : Nat → Nat) : Prop := mw_g H 1 = some (xV g.1) ∧ (∃ f, mw_g H 2 = some (xS f) ∧ ∀ s, s < 6 → f s = if s < g.1 then some (sa s) else none) ∧ aS H g.2.1 sa g.1 ∧ (∀ s, s < g.1 → 55 ≤ sa s) ∧ (∀ s s', s < g.1 → s' < g.1 → s ≠ s' → sa s + 5 ≤ sa s' ∨ sa s' + 5 ≤ sa s)
/-- a message -/
def cMg (H : mw_H) (sa : Nat → Nat) (a s : Nat) (L : List af) : Prop := mw_g H a = some (.inr (3, [.ref (sa s), .ref (a + 1)])) ∧ isB H (a + 1) (a + 2) (eL L)
/-- the messages -/
def cMe (g : mS) (H : mw_H) (sa ma : Nat → Nat) : Prop := (∃ f, mw_g H 3 = some (xM f) ∧ ∀ m, m < 12 → f m = (g.2.2.1 m).map (fun _ => ma m)) ∧ (∀ m s L, m < 12 → g.2.2.1 m = some (s, L) → cMg H sa (ma m) s L) ∧ (∀ m, m < 12 → g.2.2.1 m ≠ none → 55 ≤ ma m) ∧ (∀ m m', m < 12 → m' < 12 → g.2.2.1 m ≠ none → g.2.2.1 m' ≠ none → m ≠ m' → ma m + 3 ≤ ma m' ∨ ma m' + 3 ≤ ma m) ∧ (∀ s m, s < g.1 → m < 12 → g.2.2.1 m ≠ none → sa s + 5 ≤ ma m ∨ ma m + 3 ≤ sa s)
/-- the class holds g -/
def cC (g : mS) (H : mw_H) (sa ma : Nat → Nat) : Prop := okS g ∧ cSc g H sa ∧ cMe g H sa ma ∧ isB H 4 5 g.2.2.2 ∧ cW H
section ST1
variable {g : mS} {H H' : mw_H} {sa ma : Nat → Nat} {S : List Nat}
theorem cW_M (h : cW H) (hM : yM S H H') (h1 : (∀ b ∈ S, b < 6 ∨ 9 < b) ∨ isP0 H' 6) (h2 : (∀ b ∈ S, b < 10 ∨ 14 < b) ∨ isF0 H' 10) (h3 : (∀ b ∈ S, b < 17 ∨ 26 < b) ∨ isK0 H' 17) (h4 : (∀ b ∈ S, b < 27 ∨ 36 < b) ∨ isK0 H' 27) (h5 : (∀ b ∈ S, b < 37 ∨ 38 < b) ∨ ∃ X, isB H' 37 38 X) (h6 : (∀ b ∈ S, b < 39 ∨ 40 < b) ∨ ∃ X, isB H' 39 40 X) (h7 : (∀ b ∈ S, b < 41 ∨ 42 < b) ∨ ∃ X, isB H' 41 42 X) : cW H' := by
  obtain ⟨a1, a2, a3, a4, ⟨X5, a5⟩, ⟨X6, a6⟩, ⟨X7, a7⟩⟩ := h
  refine ⟨?_, ?_, ?_, ?_, ?_, ?_, ?_⟩
  · exact h1.elim (fun z => isP0_M a1 hM z) id
  · exact h2.elim (fun z => isF0_M a2 hM z) id
  · exact h3.elim (fun z => isK0_M a3 hM z) id
  · exact h4.elim (fun z => isK0_M a4 hM z) id
  · exact h5.elim (fun z => ⟨X5, isB_M a5 hM (fun y => by have := z _ y; omega) (fun y => by have := z _ y; omega)⟩) id
  · exact h6.elim (fun z => ⟨X6, isB_M a6 hM (fun y => by have := z _ y; omega) (fun y => by have := z _ y; omega)⟩) id
  · exact h7.elim (fun z => ⟨X7, isB_M a7 hM (fun y => by have := z _ y; omega) (fun y => by have := z _ y; omega)⟩) id
theorem cSc_M (h : cSc g H sa) (hM : yM S H H') (hS : ∀ b ∈ S, b ≠ 1 ∧ b ≠ 2 ∧ ∀ s, s < g.1 → b < sa s ∨ sa s + 4 < b) : cSc g H' sa := by
  obtain ⟨h1, ⟨f, h2, h3⟩, h4, h5, h6⟩ := h
  refine ⟨hM.g (fun z => (hS _ z).1 rfl) h1, ⟨f, hM.g (fun z => (hS _ z).2.1 rfl) h2, h3⟩, fun s hs => ?_, h5, h6⟩
  have ho : ∀ j, j ≤ 4 → sa s + j ∉ S := fun j hj hm => by have := (hS _ hm).2.2 s hs; omega
  exact isS_M (h4 s hs) hM (ho 0 (by decide)) (ho 1 (by decide)) (ho 2 (by decide)) (ho 3 (by decide)) (ho 4 (by decide))
theorem cMg_M {a s : Nat} {L : List af} (h : cMg H sa a s L) (hM : yM S H H') (hS : ∀ b ∈ S, b < a ∨ a + 2 < b) : cMg H' sa a s L := by
  have ho : ∀ j, j ≤ 2 → a + j ∉ S := fun j hj hm => by have := hS _ hm; omega
  exact ⟨hM.g (ho 0 (by decide)) h.1, isB_M h.2 hM (ho 1 (by decide)) (ho 2 (by decide))⟩
theorem cMe_M (h : cMe g H sa ma) (hM : yM S H H') (hS : ∀ b ∈ S, b ≠ 3 ∧ ∀ m, m < 12 → g.2.2.1 m ≠ none → b < ma m ∨ ma m + 2 < b) : cMe g H' sa ma := by
  obtain ⟨⟨f, h1, h2⟩, h3, h4, h5, h6⟩ := h
  refine ⟨⟨f, hM.g (fun z => (hS _ z).1 rfl) h1, h2⟩, fun m s L hm hT => ?_, h4, h5, h6⟩
  exact cMg_M (h3 m s L hm hT) hM (fun b hb => (hS b hb).2 m hm (by rw [hT]; exact fun z => by cases z))
theorem low_S (h : cSc g H sa) (hS : ∀ b ∈ S, 3 < b ∧ b < 55) : ∀ b ∈ S, b ≠ 1 ∧ b ≠ 2 ∧ ∀ s, s < g.1 → b < sa s ∨ sa s + 4 < b := fun b hb => by
  have := hS b hb
  refine ⟨by omega, by omega, fun s hs => ?_⟩
  have := h.2.2.2.1 s hs
  omega
theorem low_M (h : cMe g H sa ma) (hS : ∀ b ∈ S, 3 < b ∧ b < 55) : ∀ b ∈ S, b ≠ 3 ∧ ∀ m, m < 12 → g.2.2.1 m ≠ none → b < ma m ∨ ma m + 2 < b := fun b hb => by
  have := hS b hb
  refine ⟨by omega, fun m hm hT => ?_⟩
  have := h.2.2.1 m hm hT
  omega
/-- only the rooms have changed -/
theorem cC_scr (h : cC g H sa ma) (hM : yM S H H') (hS : ∀ b ∈ S, 5 < b ∧ b < 55) (hw : cW H') : cC g H' sa ma := by
  obtain ⟨h0, h1, h2, h3, h4⟩ := h
  have hS' : ∀ b ∈ S, 3 < b ∧ b < 55 := fun b hb => by have := hS b hb; omega
  exact ⟨h0, cSc_M h1 hM (low_S h1 hS'), cMe_M h2 hM (low_M h2 hS'), isB_M h3 hM (fun z => by have := hS _ z; omega) (fun z => by have := hS _ z; omega), hw⟩
/-- the tape has changed -/
theorem cC_tape {Y : List Nat} (h : cC g H sa ma) (hM : yM S H H') (hS : ∀ b ∈ S, 3 < b ∧ b < 55) (hB : isB H' 4 5 Y) (hl : Y.length ≤ 120) (hw : cW H') : cC (gTape g Y) H' sa ma := by
  obtain ⟨h0, h1, h2, h3, h4⟩ := h
  refine ⟨?_, cSc_M h1 hM (low_S h1 hS), cMe_M h2 hM (low_M h2 hS), hB, hw⟩
  obtain ⟨b1, b2, b3, b4, b5, b6⟩ := h0
  exact ⟨b1, b2, b3, b4, hl, hB.2.2.1⟩
theorem cC_n {x : va_E} (h : cC g H sa ma) (hw : wfH H) : cC g (mw_n H x) sa ma :=
  cC_scr (S := []) h (yM.n hw) (fun b hb => absurd hb List.not_mem_nil) (cW_M (S := []) h.2.2.2.2 (yM.n hw) (Or.inl (by simp)) (Or.inl (by simp)) (Or.inl (by simp)) (Or.inl (by simp)) (Or.inl (by simp)) (Or.inl (by simp)) (Or.inl (by simp)))
/-- what lies between is not touched -/
def yG (H H' : mw_H) : Prop := H.1 ≤ H'.1 ∧ H'.2.2 = H.2.2 ∧ ∀ b x, 43 ≤ b → b ≤ 54 → mw_g H b = some x → mw_g H' b = some x
theorem yM.G (h : yM S H H') (hS : ∀ b ∈ S, b < 43 ∨ 54 < b) : yG H H' := ⟨h.1, h.2.1, fun b x h1 h2 hx => h.g (fun z => by have := hS b z; omega) hx⟩
/-- the end of a call with the exceptions es: what the spec a says -/
def cP (H : mw_H) (es : List String) (a : mA) : mw_P := fun v H' => yG H H' ∧ (∃ sa ma, cC a.2.2 H' sa ma) ∧ ((a.1 = 0 ∧ v = .inl (some (.int a.2.1))) ∨ ∃ k, k < es.length ∧ a.1 = nI (k + 1) ∧ v = .inr (es.getD k ""))
theorem cP_x {es : List String} {r : Int32} {x : va_E} (hC : cC g H' sa ma) (hw : wfH H') (hG : yG H H') (k : Nat) (hk : k < es.length) {E : String} (hE : es.getD k "" = E) : cP H es (nI (k + 1), r, g) (.inr E) (mw_n H' x) := by
  refine ⟨?_, ⟨sa, ma, cC_n hC hw⟩, Or.inr ⟨k, hk, rfl, by rw [hE]⟩⟩
  obtain ⟨g1, g2, g3⟩ := hG
  exact ⟨Nat.le_trans g1 (Nat.le_succ _), g2, fun b y h1 h2 hy => (yM.n (S := []) hw).g List.not_mem_nil (g3 b y h1 h2 hy)⟩
theorem cP_r {es : List String} {r : Int32} (hC : cC g H' sa ma) (hG : yG H H') : cP H es (0, r, g) (.inl (some (.int r))) H' := ⟨hG, ⟨sa, ma, hC⟩, Or.inl ⟨rfl, rfl⟩⟩
theorem yG.rf : yG H H := ⟨Nat.le_refl _, rfl, fun _ _ _ _ h => h⟩
theorem cC_x (h : cC g H sa ma) : mw_g H 1 = some (xV g.1) := h.2.1.1
theorem cC_sc (h : cC g H sa ma) {s : Nat} (hs : s < g.1) : isS H g.2.1 sa s (sa s) (sa s + 1) (sa s + 2) (sa s + 3) (sa s + 4) := h.2.1.2.2.1 s hs
theorem cC_me (h : cC g H sa ma) {m s : Nat} {L : List af} (hm : m < 12) (hT : g.2.2.1 m = some (s, L)) : cMg H sa (ma m) s L := h.2.2.1.2.1 m s L hm hT
theorem cC_K (h : cC g H sa ma) : okK g.2.1 g.1 := h.1.2.2.1
theorem cC_w (h : cC g H sa ma) : wfK g.2.1 g.1 := h.1.2.1
theorem cC_ns (h : cC g H sa ma) : g.1 ≤ 6 := h.1.1
theorem cC_ok (h : cC g H sa ma) {m s : Nat} {L : List af} (hm : m < 12) (hT : g.2.2.1 m = some (s, L)) : okM g.1 s L := h.1.2.2.2.1 m s L hm hT
end ST1
abbrev eIO : String := "java/lang/IndexOutOfBoundsException"
abbrev eIA : String := "java/lang/IllegalArgumentException"
abbrev eIS : String := "java/lang/IllegalStateException"
abbrev eNS : String := "java/util/NoSuchElementException"
