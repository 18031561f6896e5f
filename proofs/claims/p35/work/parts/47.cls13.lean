/-! the class side: canonical fields, by their places (class side) -/
/-- a field is told: no known one overrides it, and it isn't the default -/
def kp (K : Nat → Nat → Int32) (s : Nat) (L : List af) (j : Nat) : Bool := !knb K s (ga L j) || ((L.drop (j + 1)).all (fun z => !Pt K s (nI (ga L j).1) z) && !dfb K s (ga L j).1 (ga L j))
/-- the places below n with P, by their tags up to T -/
def rkF (P : Nat → Bool) (tg : Nat → Nat) (n : Nat) : Nat → List Nat
  | 0 => []
  | T + 1 => rkF P tg n T ++ (List.range n).filter (fun i => P i && decide (tg i = T + 1))
section C13
variable {P : Nat → Bool} {tg : Nat → Nat} {n : Nat}
theorem rkF_mem : ∀ {T i : Nat}, i ∈ rkF P tg n T → i < n ∧ P i = true ∧ tg i ≤ T
  | 0, i, h => absurd h List.not_mem_nil
  | T + 1, i, h => by
    rcases List.mem_append.mp h with h | h
    · obtain ⟨h1, h2, h3⟩ := rkF_mem h
      exact ⟨h1, h2, by omega⟩
    · obtain ⟨h1, h2⟩ := List.mem_filter.mp h
      rw [Bool.and_eq_true, decide_eq_true_eq] at h2
      exact ⟨List.mem_range.mp h1, h2.1, by omega⟩
theorem rkF_out : ∀ T, (P n = false ∨ T < tg n) → rkF P tg (n + 1) T = rkF P tg n T
  | 0, _ => rfl
  | T + 1, h => by
    show rkF P tg (n + 1) T ++ (List.range (n + 1)).filter _ = rkF P tg n T ++ (List.range n).filter _
    rw [rkF_out T (h.imp id (fun z => by omega)), List.range_succ, List.filter_append]
    have h1 : [n].filter (fun i => P i && decide (tg i = T + 1)) = [] := by
      rw [List.filter_cons, if_neg]
      · rfl
      · rcases h with h | h
        · rw [h, Bool.false_and]; decide
        · rw [decide_eq_false (by omega), Bool.and_false]; decide
    rw [h1, List.append_nil]
theorem rkF_in (hP : P n = true) (h1 : 1 ≤ tg n) : ∀ T, tg n ≤ T → ∃ R, rkF P tg n T = rkF P tg n (tg n) ++ R ∧ (∀ i ∈ R, tg n < tg i) ∧ rkF P tg (n + 1) T = rkF P tg n (tg n) ++ n :: R
  | 0, h => absurd h (by omega)
  | T + 1, h => by
    have hs : rkF P tg (n + 1) (T + 1) = rkF P tg (n + 1) T ++ ((List.range n).filter (fun i => P i && decide (tg i = T + 1)) ++ [n].filter (fun i => P i && decide (tg i = T + 1))) := by
      show rkF P tg (n + 1) T ++ (List.range (n + 1)).filter _ = _
      rw [List.range_succ, List.filter_append]
    by_cases e : tg n = T + 1
    · refine ⟨[], by rw [e, List.append_nil], fun i hi => absurd hi List.not_mem_nil, ?_⟩
      have h2 : [n].filter (fun i => P i && decide (tg i = T + 1)) = [n] := by
        rw [List.filter_cons, if_pos (by rw [hP, decide_eq_true e]; rfl)]
        rfl
      rw [hs, h2, rkF_out T (Or.inr (by omega)), e, ← List.append_assoc]
      rfl
    · obtain ⟨R, r1, r2, r3⟩ := rkF_in hP h1 T (by omega)
      have h2 : [n].filter (fun i => P i && decide (tg i = T + 1)) = [] := by
        rw [List.filter_cons, if_neg (by rw [decide_eq_false e, Bool.and_false]; decide)]
        rfl
      refine ⟨R ++ (List.range n).filter (fun i => P i && decide (tg i = T + 1)), ?_, fun i hi => ?_, ?_⟩
      · show rkF P tg n T ++ _ = _
        rw [r1, List.append_assoc]
      · rcases List.mem_append.mp hi with hi | hi
        · exact r2 i hi
        · obtain ⟨-, h4⟩ := List.mem_filter.mp hi
          rw [Bool.and_eq_true, decide_eq_true_eq] at h4
          omega
      · rw [hs, h2, r3, List.append_nil, List.append_assoc]
        rfl
end C13
section C14
variable {K : Nat → Nat → Int32} {s : Nat}
theorem ga_mid {L1 L2 : List af} {x : af} : ga (L1 ++ x :: L2) L1.length = x := by
  unfold ga
  rw [List.getD_eq_getElem?_getD, List.getElem?_append_right (Nat.le_refl _), Nat.sub_self]
  rfl
theorem kp_mid {L1 L2 : List af} {x : af} : kp K s (L1 ++ x :: L2) L1.length = (!knb K s x || (L2.all (fun z => !Pt K s (nI x.1) z) && !dfb K s x.1 x)) := by
  unfold kp
  rw [ga_mid]
  have h : (L1 ++ x :: L2).drop (L1.length + 1) = L2 := by
    rw [List.drop_append, List.drop_of_length_le (by omega), show L1.length + 1 - L1.length = 1 by omega]
    rfl
  rw [h]
theorem kp_iff {x : af} {L2 : List af} : (!knb K s x || (L2.all (fun z => !Pt K s (nI x.1) z) && !dfb K s x.1 x)) = true ↔ (knb K s x = true → (∀ z ∈ L2, Pt K s (nI x.1) z = false) ∧ dfb K s x.1 x = false) := by
  cases knb K s x with
  | false => simp
  | true => simp
theorem rk_canT (t : Nat) : ∀ (L2 L1 : List af), ((List.range' L1.length L2.length).filter (fun i => kp K s (L1 ++ L2) i && decide ((ga (L1 ++ L2) i).1 = t))).map (ga (L1 ++ L2)) = canT K s t L2
  | [], _ => rfl
  | x :: L2, L1 => by
    have ih := rk_canT t L2 (L1 ++ [x])
    rw [List.append_assoc, List.length_append] at ih
    have ih : ((List.range' (L1.length + 1) L2.length).filter (fun i => kp K s (L1 ++ x :: L2) i && decide ((ga (L1 ++ x :: L2) i).1 = t))).map (ga (L1 ++ x :: L2)) = canT K s t L2 := ih
    show ((List.range' L1.length (L2.length + 1)).filter _).map _ = if _ then _ else _
    rw [List.range'_succ, List.filter_cons, kp_mid, ga_mid]
    by_cases e : x.1 = t
    · subst e
      by_cases h : (knb K s x = true → (∀ z ∈ L2, Pt K s (nI x.1) z = false) ∧ dfb K s x.1 x = false)
      · rw [if_pos (show _ = true by rw [kp_iff.mpr h]; simp), if_pos (And.intro rfl h), List.map_cons, ga_mid, ih]
      · rw [if_neg (fun z => h (kp_iff.mp (by rw [Bool.and_eq_true] at z; exact z.1))), if_neg (fun z => h z.2), ih]
    · rw [if_neg (by rw [decide_eq_false e, Bool.and_false]; decide), if_neg (fun z => e z.1), ih]
/-- the canonical places -/
def cnR (K : Nat → Nat → Int32) (s : Nat) (L : List af) (n : Nat) : List Nat := rkF (kp K s L) (fun i => (ga L i).1) n 31
theorem rkF_can {L : List af} : ∀ T, (rkF (kp K s L) (fun i => (ga L i).1) L.length T).map (ga L) = canU K s L T
  | 0 => rfl
  | T + 1 => by
    show (rkF _ _ _ T ++ (List.range L.length).filter _).map _ = canU K s L T ++ canT K s (T + 1) L
    rw [List.map_append, rkF_can T, List.range_eq_range']
    have h := rk_canT (K := K) (s := s) (T + 1) L []
    exact congrArg _ h
theorem cnR_can {L : List af} : (cnR K s L L.length).map (ga L) = can K s L := rkF_can 31
end C14
