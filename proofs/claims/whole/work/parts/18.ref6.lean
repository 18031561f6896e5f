/-! the reference's walks over a message's fields -/
/-- the message m has the schema s and the fields L -/
def rMes (A : Nat → Nat → Int32) (m s : Nat) (L : List af) : Prop := m < 12 ∧ s < 6 ∧ A 5 m = nI s ∧ (∀ x ∈ L, okf x) ∧ (eL L).length ≤ 120 ∧ A 6 m = nI (eL L).length ∧ rowAt (bt (A 7)) (120 * m) (eL L) ∧ byt (A 7) 1440
/-- the reader's places hold the field x, read at p -/
def zRd (x : af) (p : Nat) (I : Nat → Int32) : Prop := I 11 = nI (p + (ef x).length) ∧ I 12 = 0 ∧ I 13 = nI x.1 ∧ I 14 = nI x.2.1 ∧ I 15 = nI x.2.2.1 ∧ (x.2.1 = 2 → I 16 = nI (p + (ef x).length - x.2.2.2.length)) ∧ I 17 = nI p
theorem rMes_up {A : Nat → Nat → Int32} {m s : Nat} {L : List af} (h : rMes A m s L) {j : Nat} (hj : 8 ≤ j) (g : Nat → Int32) : rMes (va_up A j g) m s L := by
  obtain ⟨h1, h2, h3, h4, h5, h6, h7, h8⟩ := h
  refine ⟨h1, h2, ?_, h4, h5, ?_, ?_, ?_⟩
  · rw [va_up_ne _ _ (by omega)]; exact h3
  · rw [va_up_ne _ _ (by omega)]; exact h6
  · rw [va_up_ne _ _ (by omega)]; exact h7
  · rw [va_up_ne _ _ (by omega)]; exact h8
theorem ef_split (x : af) : ef x = enum x.1 x.2.1 x.2.2.1 ++ x.2.2.2 := rfl
theorem rowAt_bytes {b : Nat → Nat} {p : Nat} {x : af} (h : rowAt b p (ef x)) : rowAt b (p + (ef x).length - x.2.2.2.length) x.2.2.2 := by
  rw [ef_split, rowAt_app] at h
  rw [ef_split, List.length_append, show p + ((enum x.1 x.2.1 x.2.2.1).length + x.2.2.2.length) - x.2.2.2.length = p + (enum x.1 x.2.1 x.2.2.1).length by omega]
  exact h.2
theorem ef_len_bytes (x : af) : x.2.2.2.length + 2 ≤ (ef x).length := by
  have h2 := ef_len2 (x.1, x.2.1, x.2.2.1, [])
  rw [ef_split] at h2 ⊢
  rw [List.length_append] at h2 ⊢
  have h3 : (enum x.1 x.2.1 x.2.2.1).length = (enum (x.1, x.2.1, x.2.2.1, ([] : List Nat)).1 (x.1, x.2.1, x.2.2.1, ([] : List Nat)).2.1 (x.1, x.2.1, x.2.2.1, ([] : List Nat)).2.2.1).length := rfl
  have h4 : (x.1, x.2.1, x.2.2.1, ([] : List Nat)).2.2.2.length = 0 := rfl
  omega
def knb (A : Nat → Nat → Int32) (s : Nat) (x : af) : Bool := decide (zKn A s (nI x.1) (nI x.2.1) ≠ 0)
/-- the place of the last field with P, acc if there is none -/
def lkv (P : af → Bool) : Nat → List af → Int32 → Int32
  | _, [], acc => acc
  | p, x :: L, acc => lkv P (p + (ef x).length) L (if P x then nI p else acc)
theorem lkv_no {P : af → Bool} : ∀ (L : List af) (p : Nat) (acc : Int32), (∀ x ∈ L, P x = false) → lkv P p L acc = acc
  | [], _, _, _ => rfl
  | x :: L, p, acc, h => by
    show lkv P _ L (if P x then nI p else acc) = acc
    rw [h x List.mem_cons_self]
    exact lkv_no L _ acc (fun z hz => h z (List.mem_cons_of_mem _ hz))
/-- .. where there is one: the row is cut there -/
theorem lkv_yes {P : af → Bool} : ∀ (L : List af) (p : Nat) (acc : Int32), (∃ x ∈ L, P x = true) → ∃ (L1 : List af) (x : af) (L2 : List af), L = L1 ++ x :: L2 ∧ P x = true ∧ (∀ z ∈ L2, P z = false) ∧ lkv P p L acc = nI (p + (eL L1).length)
  | [], _, _, h => by obtain ⟨x, hx, -⟩ := h; cases hx
  | x :: L, p, acc, h => by
    by_cases e : ∃ z ∈ L, P z = true
    · obtain ⟨L1, y, L2, h1, h2, h3, h4⟩ := lkv_yes L (p + (ef x).length) (if P x then nI p else acc) e
      refine ⟨x :: L1, y, L2, by rw [h1]; rfl, h2, h3, ?_⟩
      show lkv P _ L _ = _
      rw [h4, eL_cons, List.length_append, Nat.add_assoc]
    · have hno : ∀ z ∈ L, P z = false := fun z hz => by
        cases hP : P z with
        | false => rfl
        | true => exact absurd ⟨z, hz, hP⟩ e
      have hx : P x = true := by
        obtain ⟨z, hz, hP⟩ := h
        rcases List.mem_cons.mp hz with rfl | hz
        · exact hP
        · exact absurd ⟨z, hz, hP⟩ e
      refine ⟨[], x, L, rfl, hx, hno, ?_⟩
      show lkv P _ L (if P x then nI p else acc) = _
      rw [lkv_no L _ _ hno, hx]
      rfl
def Pt (A : Nat → Nat → Int32) (s : Nat) (t : Int32) (x : af) : Bool := decide (nI x.1 = t) && knb A s x
theorem mw_con_post {y : mw_M} {d kc ks : Nat} {as : List Value} {h : mw_H} {Po Po' : mw_P} (hp : ∀ r h', Po r h' → Po' r h') (hC : mw_Con y d kc ks as h Po) : mw_Con y d kc ks as h Po' := by
  intro G l hl p e a1 a2 a3 s m args below b1 b2 b3 b4
  obtain ⟨n, o, c1, c2, c3, c4⟩ := hC G l hl p e a1 a2 a3 s m args below b1 b2 b3 b4
  refine ⟨n, o, c1, c2, c3, ?_⟩
  rcases c4 with ⟨⟨⟨v, h', e1, e2, e3⟩, e4⟩, e5⟩ | ⟨q, e1, E, ce, L, ⟨⟨h', e2, e3⟩, e4⟩, e5⟩
  · exact Or.inl ⟨⟨⟨v, h', e1, hp _ _ e2, e3⟩, e4⟩, e5⟩
  · exact Or.inr ⟨q, e1, E, ce, L, ⟨⟨h', hp _ _ e2, e3⟩, e4⟩, e5⟩
section R6
variable {M m s : Nat} {h : mw_H} {I : Nat → Int32} {A : Nat → Nat → Int32}
theorem c_fieldx (hA : byt (A 7) 1440) {p E : Nat} {x : af} (hx : okf x) (hb : rowAt (bt (A 7)) p (ef x)) (hE : p + (ef x).length ≤ E) (hE2 : E ≤ 1440) (hI : I 11 = nI p) :
    mw_Con mm_X7_field 2 0 0 [.ref M, .ref (M + 7), .int (nI E)] (gm M h I A) (fun v h' => v = .inl none ∧ ∃ I' : Nat → Int32, h' = gm M h I' A ∧ zScr I I' ∧ zRd x p I') := by
  have hc := c_field (M := M) (q := 7) (n := 1440) (h := h) (A := A) (f := A 7) (b := bt (A 7)) (e := E) (fun I => gm_7) (fun j hj => byt_bt hA hj) (bt_lt (A 7)) (by decide) hE2 (p := p) (I := I) (by omega) hI
  rw [pf_ef hx hE hb] at hc
  refine mw_con_post (fun v h' q => ?_) hc
  obtain ⟨q1, I', q2, q3, q4, q5, q6⟩ := q
  obtain ⟨r1, r2, r3, r4, r5⟩ := q6 rfl
  refine ⟨q1, I', q2, q3, r1, q4, r2, r3, r4, fun z => ?_, q5⟩
  rw [r5 z]
  congr 1
  show p + (ef x).length - x.2.2.1 = _
  rw [hx.2.2.2.2.1 z]
/-- what a walk that only reads leaves, with an answer -/
def zA (M : Nat) (h : mw_H) (A : Nat → Nat → Int32) (I : Nat → Int32) (r : Int32) : mw_P := fun v h' => v = .inl (some (.int r)) ∧ ∃ I' : Nat → Int32, h' = gm M h I' A ∧ zScr I I'
theorem lp_lk (hm : m < 12) (hs : s < 6) (h5 : A 5 m = nI s) (hA : byt (A 7) 1440) {E : Nat} (h6 : 120 * nI m + A 6 m = nI E) (hE : E ≤ 1440) (t : Int32) : ∀ (L : List af) (p : Nat) (I : Nat → Int32) (acc : Int32), (∀ x ∈ L, okf x) → rowAt (bt (A 7)) p (eL L) → p + (eL L).length = E → I 11 = nI p →
    mw_W mm_X7_lastKnown 4 0 0 10 [some (.ref M), some (.int (nI m)), some (.int t), some (.int acc)] [] (gm M h I A) (zA M h A I (lkv (Pt A s t) p L acc)) := by
  intro L
  induction L with
  | nil =>
    intro p I acc _ _ hp hI
    have hp : p + 0 = E := hp
    refine mw_aload_n (i := 0) dX7_lastKnown_10 rfl rfl ?_
    refine mw_get dX7_lastKnown_11 fk_X7_55 gm_0 rfl ?_
    refine mw_bipush (v := 120) dX7_lastKnown_14 (by decide) ?_
    refine mw_iload_n (i := 1) dX7_lastKnown_16 rfl rfl ?_
    refine mw_imul dX7_lastKnown_17 ?_
    refine mw_aload_n (i := 0) dX7_lastKnown_18 rfl rfl ?_
    refine mw_get dX7_lastKnown_19 fk_X7_26 gm_0 rfl ?_
    refine mw_iload_n (i := 1) dX7_lastKnown_22 rfl rfl ?_
    refine mw_iald dX7_lastKnown_23 gm_6 (mw_ix rfl hm (by decide)) ?_
    refine mw_iadd dX7_lastKnown_24 ?_
    refine mw_top h6 ?_
    refine mw_icmp_ge (tgt := 80) dX7_lastKnown_25 (by decide) (fun c_25 => ?_) (fun c_25 => ?_)
    · refine mw_iload_n (i := 3) dX7_lastKnown_80 rfl rfl ?_
      exact mw_ireturn dX7_lastKnown_81 ⟨_, rfl, rfl⟩ ⟨rfl, I, rfl, zScr.rf⟩
    · exact absurd (by rw [hI]; exact nI_le (by omega) (by omega)) c_25
  | cons x L ih =>
    intro p I acc hok hrow hp hI
    rw [eL_cons] at hrow hp
    rw [List.length_append] at hp
    rw [rowAt_app] at hrow
    have hl2 := ef_len2 x
    refine mw_aload_n (i := 0) dX7_lastKnown_10 rfl rfl ?_
    refine mw_get dX7_lastKnown_11 fk_X7_55 gm_0 rfl ?_
    refine mw_bipush (v := 120) dX7_lastKnown_14 (by decide) ?_
    refine mw_iload_n (i := 1) dX7_lastKnown_16 rfl rfl ?_
    refine mw_imul dX7_lastKnown_17 ?_
    refine mw_aload_n (i := 0) dX7_lastKnown_18 rfl rfl ?_
    refine mw_get dX7_lastKnown_19 fk_X7_26 gm_0 rfl ?_
    refine mw_iload_n (i := 1) dX7_lastKnown_22 rfl rfl ?_
    refine mw_iald dX7_lastKnown_23 gm_6 (mw_ix rfl hm (by decide)) ?_
    refine mw_iadd dX7_lastKnown_24 ?_
    refine mw_top h6 ?_
    refine mw_icmp_ge (tgt := 80) dX7_lastKnown_25 (by decide) (fun c_25 => ?_) (fun c_25 => ?_)
    · exact absurd c_25 (by rw [hI]; exact nI_ge (by omega) (by omega))
    · refine mw_aload_n (i := 0) dX7_lastKnown_28 rfl rfl ?_
      refine mw_aload_n (i := 0) dX7_lastKnown_29 rfl rfl ?_
      refine mw_get dX7_lastKnown_30 fk_X7_29 gm_0 rfl ?_
      refine mw_bipush (v := 120) dX7_lastKnown_33 (by decide) ?_
      refine mw_iload_n (i := 1) dX7_lastKnown_35 rfl rfl ?_
      refine mw_imul dX7_lastKnown_36 ?_
      refine mw_aload_n (i := 0) dX7_lastKnown_37 rfl rfl ?_
      refine mw_get dX7_lastKnown_38 fk_X7_26 gm_0 rfl ?_
      refine mw_iload_n (i := 1) dX7_lastKnown_41 rfl rfl ?_
      refine mw_iald dX7_lastKnown_42 gm_6 (mw_ix rfl hm (by decide)) ?_
      refine mw_iadd dX7_lastKnown_43 ?_
      refine mw_top h6 ?_
      refine mw_callV dX7_lastKnown_44 mk_X7_106 gm_0 rfl (c_fieldx hA (hok x List.mem_cons_self) hrow.1 (by omega) hE hI) (by decide) (Nat.le_refl _) (Nat.le_refl _) rfl rfl (Nat.le_of_ble_eq_true rfl) (fun E9 h9 q9 => ?_) (fun v9 h9 q9 => ?_)
      · cases q9.1
      · obtain ⟨e9, I1, rfl, hS, r11, r12, r13, r14, r15, r16, r17⟩ := q9
        cases e9
        have hih := fun acc' => ih (p + (ef x).length) I1 acc' (fun z hz => hok z (List.mem_cons_of_mem _ hz)) hrow.2 (by omega) r11
        -- both ways lead to the head again
        have hback : ∀ acc' : Int32, acc' = (if Pt A s t x then nI p else acc) → mw_W mm_X7_lastKnown 4 0 0 10 [some (.ref M), some (.int (nI m)), some (.int t), some (.int acc')] [] (gm M h I1 A) (zA M h A I (lkv (Pt A s t) p (x :: L) acc)) := by
          intro acc' ea
          refine mw_post (fun v h' q => ?_) (hih acc')
          obtain ⟨q1, I', q2, q3⟩ := q
          refine ⟨?_, I', q2, hS.tr q3⟩
          rw [q1, ea]
          rfl
        refine mw_aload_n (i := 0) dX7_lastKnown_47 rfl rfl ?_
        refine mw_get dX7_lastKnown_48 fk_X7_68 gm_0 rfl ?_
        refine mw_iload_n (i := 2) dX7_lastKnown_51 rfl rfl ?_
        refine mw_icmp_ne (tgt := 75) dX7_lastKnown_52 (by decide) (fun c_52 => ?_) (fun c_52 => ?_)
        · refine mw_iload_n (i := 3) dX7_lastKnown_75 rfl rfl ?_
          refine mw_istore_3 dX7_lastKnown_76 (by decide) ?_
          refine mw_goto (tgt := 10) dX7_lastKnown_77 (by decide) ?_
          refine hback acc ?_
          have hP : Pt A s t x = false := by
            unfold Pt
            rw [decide_eq_false (fun z => c_52 (by rw [r13]; exact z)), Bool.false_and]
          rw [hP]
          rfl
        · have ht : nI x.1 = t := by rw [← r13]; exact c_52
          refine mw_aload_n (i := 0) dX7_lastKnown_55 rfl rfl ?_
          refine mw_aload_n (i := 0) dX7_lastKnown_56 rfl rfl ?_
          refine mw_get dX7_lastKnown_57 fk_X7_23 gm_0 rfl ?_
          refine mw_iload_n (i := 1) dX7_lastKnown_60 rfl rfl ?_
          refine mw_iald dX7_lastKnown_61 gm_5 (mw_ix rfl hm (by decide)) ?_
          refine mw_top h5 ?_
          refine mw_callVr dX7_lastKnown_62 mk_X7_110 gm_0 rfl (c_isKnown hs) (by decide) (Nat.le_refl _) (Nat.le_refl _) rfl rfl (Nat.le_of_ble_eq_true rfl) ?_
          rw [r13, r14]
          refine mw_if_eq (tgt := 75) dX7_lastKnown_65 (by decide) (fun c_65 => ?_) (fun c_65 => ?_)
          · refine mw_iload_n (i := 3) dX7_lastKnown_75 rfl rfl ?_
            refine mw_istore_3 dX7_lastKnown_76 (by decide) ?_
            refine mw_goto (tgt := 10) dX7_lastKnown_77 (by decide) ?_
            refine hback acc ?_
            have hP : Pt A s t x = false := by
              unfold Pt knb
              rw [decide_eq_true ht, decide_eq_false (fun z => z c_65)]
              rfl
            rw [hP]
            rfl
          · refine mw_aload_n (i := 0) dX7_lastKnown_68 rfl rfl ?_
            refine mw_get dX7_lastKnown_69 fk_X7_61 gm_0 rfl ?_
            refine mw_goto (tgt := 76) dX7_lastKnown_72 (by decide) ?_
            refine mw_istore_3 dX7_lastKnown_76 (by decide) ?_
            refine mw_goto (tgt := 10) dX7_lastKnown_77 (by decide) ?_
            refine hback (I1 17) ?_
            have hP : Pt A s t x = true := by
              unfold Pt knb
              rw [decide_eq_true ht, decide_eq_true c_65]
              rfl
            rw [hP, r17]
            rfl
theorem c_lastKnown {L : List af} (hM : rMes A m s L) (t : Int32) : mw_Con mm_X7_lastKnown 4 0 0 [.ref M, .int (nI m), .int t] (gm M h I A) (zA M h A I (lkv (Pt A s t) (120 * m) L (-1))) := by
  obtain ⟨hm, hs, h5, hok, hlen, h6, hrow, hA⟩ := hM
  refine gm_con pl_X7 rfl rfl (Nat.le_of_ble_eq_true rfl) rfl ?_
  refine mw_iconst (v := -1) dX7_lastKnown_0 (by decide) ?_
  refine mw_istore_3 dX7_lastKnown_1 (by decide) ?_
  refine mw_aload_n (i := 0) dX7_lastKnown_2 rfl rfl ?_
  refine mw_bipush (v := 120) dX7_lastKnown_3 (by decide) ?_
  refine mw_iload_n (i := 1) dX7_lastKnown_5 rfl rfl ?_
  refine mw_imul dX7_lastKnown_6 ?_
  refine gm_put dX7_lastKnown_7 fk_X7_55 (by decide) (gm_h11 _) ?_
  refine mw_post (fun v h' q => ?_) (lp_lk hm hs h5 hA (E := 120 * m + (eL L).length) (by rw [h6]; exact mx_120 _ _) (by omega) t L (120 * m) (upd I 11 (120 * nI m)) (-1) hok hrow rfl (by rw [pk_us]; exact mx_120m m))
  obtain ⟨q1, I', q2, q3⟩ := q
  exact ⟨q1, I', q2, (zScr.rf.up (by decide) _).tr q3⟩

/-- finds: the last field with P is in the reader's places -/
def zFd (M : Nat) (h : mw_H) (A : Nat → Nat → Int32) (I : Nat → Int32) (P : af → Bool) (p : Nat) (L : List af) : mw_P := fun v h' => ∃ I' : Nat → Int32, h' = gm M h I' A ∧ zScr I I' ∧ (((∀ x ∈ L, P x = false) ∧ v = .inl (some (.int 0))) ∨ (∃ (L1 : List af) (x : af) (L2 : List af), L = L1 ++ x :: L2 ∧ P x = true ∧ (∀ z ∈ L2, P z = false) ∧ v = .inl (some (.int 1)) ∧ zRd x (p + (eL L1).length) I'))
theorem c_finds {L : List af} (hM : rMes A m s L) (t : Int32) : mw_Con mm_X7_finds 5 0 0 [.ref M, .int (nI m), .int t] (gm M h I A) (zFd M h A I (Pt A s t) (120 * m) L) := by
  have hM0 := hM
  obtain ⟨hm, hs, h5, hok, hlen, h6, hrow, hA⟩ := hM
  refine gm_con pl_X7 rfl rfl (Nat.le_of_ble_eq_true rfl) rfl ?_
  refine mw_aload_n (i := 0) dX7_finds_0 rfl rfl ?_
  refine mw_iload_n (i := 1) dX7_finds_1 rfl rfl ?_
  refine mw_iload_n (i := 2) dX7_finds_2 rfl rfl ?_
  refine mw_callV dX7_finds_3 mk_X7_113 gm_0 rfl (c_lastKnown hM0 t) (by decide) (Nat.le_refl _) (Nat.le_refl _) rfl rfl (Nat.le_of_ble_eq_true rfl) (fun E9 h9 q9 => ?_) (fun v9 h9 q9 => ?_)
  · cases q9.1
  · obtain ⟨e9, I1, rfl, hS⟩ := q9
    cases e9
    refine mw_istore_3 dX7_finds_6 (by decide) ?_
    refine mw_iload_n (i := 3) dX7_finds_7 rfl rfl ?_
    refine mw_iconst (v := -1) dX7_finds_8 (by decide) ?_
    by_cases hex : ∃ x ∈ L, Pt A s t x = true
    · obtain ⟨L1, x, L2, hL, hPx, hno, hv⟩ := lkv_yes L (120 * m) (-1) hex
      have hlL : (eL L).length = (eL L1).length + ((ef x).length + (eL L2).length) := by rw [hL, eL_app, eL_cons, List.length_append, List.length_append]
      have hx : okf x := hok x (by rw [hL]; exact List.mem_append_right _ List.mem_cons_self)
      have hrx : rowAt (bt (A 7)) (120 * m + (eL L1).length) (ef x) := by
        rw [hL, eL_app, eL_cons, rowAt_app, rowAt_app] at hrow
        exact hrow.2.1
      have hne : ¬ lkv (Pt A s t) (120 * m) L (-1) = -1 := by
        rw [hv]
        intro z
        exact absurd (show nI (120 * m + (eL L1).length) < 0 by rw [z]; decide) (nI_pos (by omega))
      refine mw_icmp_eq (tgt := 36) dX7_finds_9 (by decide) (fun c_9 => ?_) (fun c_9 => ?_)
      · exact absurd c_9 hne
      · refine mw_aload_n (i := 0) dX7_finds_12 rfl rfl ?_
        refine mw_iload_n (i := 3) dX7_finds_13 rfl rfl ?_
        refine gm_put dX7_finds_14 fk_X7_55 (by decide) (gm_h11 _) ?_
        refine mw_aload_n (i := 0) dX7_finds_17 rfl rfl ?_
        refine mw_aload_n (i := 0) dX7_finds_18 rfl rfl ?_
        refine mw_get dX7_finds_19 fk_X7_29 gm_0 rfl ?_
        refine mw_bipush (v := 120) dX7_finds_22 (by decide) ?_
        refine mw_iload_n (i := 1) dX7_finds_24 rfl rfl ?_
        refine mw_imul dX7_finds_25 ?_
        refine mw_aload_n (i := 0) dX7_finds_26 rfl rfl ?_
        refine mw_get dX7_finds_27 fk_X7_26 gm_0 rfl ?_
        refine mw_iload_n (i := 1) dX7_finds_30 rfl rfl ?_
        refine mw_iald dX7_finds_31 gm_6 (mw_ix rfl hm (by decide)) ?_
        refine mw_iadd dX7_finds_32 ?_
        refine mw_top (v := nI (120 * m + (eL L).length)) (by rw [h6]; exact mx_120 _ _) ?_
        refine mw_callV dX7_finds_33 mk_X7_106 gm_0 rfl (c_fieldx hA hx hrx (E := 120 * m + (eL L).length) (by omega) (by omega) (by rw [pk_us]; exact hv)) (by decide) (Nat.le_refl _) (Nat.le_refl _) rfl rfl (Nat.le_of_ble_eq_true rfl) (fun E9 h9 q9 => ?_) (fun v9 h9 q9 => ?_)
        · cases q9.1
        · obtain ⟨e9, I2, rfl, hS2, hRd⟩ := q9
          cases e9
          refine mw_iload_n (i := 3) dX7_finds_36 rfl rfl ?_
          refine mw_iconst (v := -1) dX7_finds_37 (by decide) ?_
          refine mw_icmp_eq (tgt := 45) dX7_finds_38 (by decide) (fun c_38 => ?_) (fun c_38 => ?_)
          · exact absurd c_38 hne
          · refine mw_iconst (v := 1) dX7_finds_41 (by decide) ?_
            refine mw_goto (tgt := 46) dX7_finds_42 (by decide) ?_
            exact mw_ireturn dX7_finds_46 ⟨_, rfl, rfl⟩ ⟨I2, rfl, (hS.up (by decide) _).tr hS2, Or.inr ⟨L1, x, L2, hL, hPx, hno, rfl, hRd⟩⟩
    · have hno : ∀ z ∈ L, Pt A s t z = false := fun z hz => by
        cases hP : Pt A s t z with
        | false => rfl
        | true => exact absurd ⟨z, hz, hP⟩ hex
      have hv := lkv_no (P := Pt A s t) L (120 * m) (-1) hno
      refine mw_icmp_eq (tgt := 36) dX7_finds_9 (by decide) (fun c_9 => ?_) (fun c_9 => ?_)
      · refine mw_iload_n (i := 3) dX7_finds_36 rfl rfl ?_
        refine mw_iconst (v := -1) dX7_finds_37 (by decide) ?_
        refine mw_icmp_eq (tgt := 45) dX7_finds_38 (by decide) (fun c_38 => ?_) (fun c_38 => ?_)
        · refine mw_iconst (v := 0) dX7_finds_45 (by decide) ?_
          exact mw_ireturn dX7_finds_46 ⟨_, rfl, rfl⟩ ⟨I1, rfl, hS, Or.inl ⟨hno, rfl⟩⟩
        · exact absurd hv c_38
      · exact absurd hv c_9
theorem lp_fs (hm : m < 12) (hA : byt (A 7) 1440) {E : Nat} (h6 : 120 * nI m + A 6 m = nI E) (hE : E ≤ 1440) : ∀ (L : List af) (p : Nat) (I : Nat → Int32) (k : Nat), (∀ x ∈ L, okf x) → rowAt (bt (A 7)) p (eL L) → p + (eL L).length = E → I 11 = nI p →
    mw_W mm_X7_fields 3 0 0 10 [some (.ref M), some (.int (nI m)), some (.int (nI k))] [] (gm M h I A) (zA M h A I (nI (k + L.length))) := by
  intro L
  induction L with
  | nil =>
    intro p I k _ _ hp hI
    have hp : p + 0 = E := hp
    refine mw_aload_n (i := 0) dX7_fields_10 rfl rfl ?_
    refine mw_get dX7_fields_11 fk_X7_55 gm_0 rfl ?_
    refine mw_bipush (v := 120) dX7_fields_14 (by decide) ?_
    refine mw_iload_n (i := 1) dX7_fields_16 rfl rfl ?_
    refine mw_imul dX7_fields_17 ?_
    refine mw_aload_n (i := 0) dX7_fields_18 rfl rfl ?_
    refine mw_get dX7_fields_19 fk_X7_26 gm_0 rfl ?_
    refine mw_iload_n (i := 1) dX7_fields_22 rfl rfl ?_
    refine mw_iald dX7_fields_23 gm_6 (mw_ix rfl hm (by decide)) ?_
    refine mw_iadd dX7_fields_24 ?_
    refine mw_top h6 ?_
    refine mw_icmp_ge (tgt := 53) dX7_fields_25 (by decide) (fun c_25 => ?_) (fun c_25 => ?_)
    · refine mw_iload_n (i := 2) dX7_fields_53 rfl rfl ?_
      exact mw_ireturn dX7_fields_54 ⟨_, rfl, rfl⟩ ⟨rfl, I, rfl, zScr.rf⟩
    · exact absurd (by rw [hI]; exact nI_le (by omega) (by omega)) c_25
  | cons x L ih =>
    intro p I k hok hrow hp hI
    rw [eL_cons] at hrow hp
    rw [List.length_append] at hp
    rw [rowAt_app] at hrow
    have hl2 := ef_len2 x
    refine mw_aload_n (i := 0) dX7_fields_10 rfl rfl ?_
    refine mw_get dX7_fields_11 fk_X7_55 gm_0 rfl ?_
    refine mw_bipush (v := 120) dX7_fields_14 (by decide) ?_
    refine mw_iload_n (i := 1) dX7_fields_16 rfl rfl ?_
    refine mw_imul dX7_fields_17 ?_
    refine mw_aload_n (i := 0) dX7_fields_18 rfl rfl ?_
    refine mw_get dX7_fields_19 fk_X7_26 gm_0 rfl ?_
    refine mw_iload_n (i := 1) dX7_fields_22 rfl rfl ?_
    refine mw_iald dX7_fields_23 gm_6 (mw_ix rfl hm (by decide)) ?_
    refine mw_iadd dX7_fields_24 ?_
    refine mw_top h6 ?_
    refine mw_icmp_ge (tgt := 53) dX7_fields_25 (by decide) (fun c_25 => ?_) (fun c_25 => ?_)
    · exact absurd c_25 (by rw [hI]; exact nI_ge (by omega) (by omega))
    · refine mw_aload_n (i := 0) dX7_fields_28 rfl rfl ?_
      refine mw_aload_n (i := 0) dX7_fields_29 rfl rfl ?_
      refine mw_get dX7_fields_30 fk_X7_29 gm_0 rfl ?_
      refine mw_bipush (v := 120) dX7_fields_33 (by decide) ?_
      refine mw_iload_n (i := 1) dX7_fields_35 rfl rfl ?_
      refine mw_imul dX7_fields_36 ?_
      refine mw_aload_n (i := 0) dX7_fields_37 rfl rfl ?_
      refine mw_get dX7_fields_38 fk_X7_26 gm_0 rfl ?_
      refine mw_iload_n (i := 1) dX7_fields_41 rfl rfl ?_
      refine mw_iald dX7_fields_42 gm_6 (mw_ix rfl hm (by decide)) ?_
      refine mw_iadd dX7_fields_43 ?_
      refine mw_top h6 ?_
      refine mw_callV dX7_fields_44 mk_X7_106 gm_0 rfl (c_fieldx hA (hok x List.mem_cons_self) hrow.1 (by omega) hE hI) (by decide) (Nat.le_refl _) (Nat.le_refl _) rfl rfl (Nat.le_of_ble_eq_true rfl) (fun E9 h9 q9 => ?_) (fun v9 h9 q9 => ?_)
      · cases q9.1
      · obtain ⟨e9, I1, rfl, hS, r11, -⟩ := q9
        cases e9
        refine mw_iinc_2 dX7_fields_47 (by decide) rfl ?_
        refine mw_goto (tgt := 10) dX7_fields_50 (by decide) ?_
        rw [show nI k + Int32.ofInt 1 = nI (k + 1) from nI_1 k]
        refine mw_post (fun v h' q => ?_) (ih (p + (ef x).length) I1 (k + 1) (fun z hz => hok z (List.mem_cons_of_mem _ hz)) hrow.2 (by omega) r11)
        obtain ⟨q1, I', q2, q3⟩ := q
        refine ⟨?_, I', q2, hS.tr q3⟩
        rw [q1, List.length_cons, Nat.add_assoc, Nat.add_comm 1]
theorem c_fields (hm : m < 12) {L : List af} (hok : ∀ x ∈ L, okf x) (hlen : (eL L).length ≤ 120) (h6 : A 6 m = nI (eL L).length) (hrow : rowAt (bt (A 7)) (120 * m) (eL L)) (hA : byt (A 7) 1440) : mw_Con mm_X7_fields 3 0 0 [.ref M, .int (nI m)] (gm M h I A) (zA M h A I (nI L.length)) := by
  refine gm_con pl_X7 rfl rfl (Nat.le_of_ble_eq_true rfl) rfl ?_
  refine mw_iconst (v := 0) dX7_fields_0 (by decide) ?_
  refine mw_istore_2 dX7_fields_1 (by decide) ?_
  refine mw_aload_n (i := 0) dX7_fields_2 rfl rfl ?_
  refine mw_bipush (v := 120) dX7_fields_3 (by decide) ?_
  refine mw_iload_n (i := 1) dX7_fields_5 rfl rfl ?_
  refine mw_imul dX7_fields_6 ?_
  refine gm_put dX7_fields_7 fk_X7_55 (by decide) (gm_h11 _) ?_
  refine mw_post (fun v h' q => ?_) (lp_fs hm hA (E := 120 * m + (eL L).length) (by rw [h6]; exact mx_120 _ _) (by omega) L (120 * m) (upd I 11 (120 * nI m)) 0 hok hrow rfl (by rw [pk_us]; exact mx_120m m))
  obtain ⟨q1, I', q2, q3⟩ := q
  refine ⟨?_, I', q2, (zScr.rf.up (by decide) _).tr q3⟩
  rw [q1, Nat.zero_add]
/-- how many unknown fields -/
def unk (A : Nat → Nat → Int32) (s : Nat) (L : List af) : Nat := (L.filter (fun x => !knb A s x)).length
theorem lp_mu (hm : m < 12) (hs : s < 6) (h5 : A 5 m = nI s) (hA : byt (A 7) 1440) {E : Nat} (h6 : 120 * nI m + A 6 m = nI E) (hE : E ≤ 1440) : ∀ (L : List af) (p : Nat) (I : Nat → Int32) (k : Nat), (∀ x ∈ L, okf x) → rowAt (bt (A 7)) p (eL L) → p + (eL L).length = E → I 11 = nI p →
    mw_W mm_X7_manyUnknown 4 0 0 10 [some (.ref M), some (.int (nI m)), some (.int (nI k))] [] (gm M h I A) (zA M h A I (nI (k + unk A s L))) := by
  intro L
  induction L with
  | nil =>
    intro p I k _ _ hp hI
    have hp : p + 0 = E := hp
    refine mw_aload_n (i := 0) dX7_manyUnknown_10 rfl rfl ?_
    refine mw_get dX7_manyUnknown_11 fk_X7_55 gm_0 rfl ?_
    refine mw_bipush (v := 120) dX7_manyUnknown_14 (by decide) ?_
    refine mw_iload_n (i := 1) dX7_manyUnknown_16 rfl rfl ?_
    refine mw_imul dX7_manyUnknown_17 ?_
    refine mw_aload_n (i := 0) dX7_manyUnknown_18 rfl rfl ?_
    refine mw_get dX7_manyUnknown_19 fk_X7_26 gm_0 rfl ?_
    refine mw_iload_n (i := 1) dX7_manyUnknown_22 rfl rfl ?_
    refine mw_iald dX7_manyUnknown_23 gm_6 (mw_ix rfl hm (by decide)) ?_
    refine mw_iadd dX7_manyUnknown_24 ?_
    refine mw_top h6 ?_
    refine mw_icmp_ge (tgt := 71) dX7_manyUnknown_25 (by decide) (fun c_25 => ?_) (fun c_25 => ?_)
    · refine mw_iload_n (i := 2) dX7_manyUnknown_71 rfl rfl ?_
      exact mw_ireturn dX7_manyUnknown_72 ⟨_, rfl, rfl⟩ ⟨rfl, I, rfl, zScr.rf⟩
    · exact absurd (by rw [hI]; exact nI_le (by omega) (by omega)) c_25
  | cons x L ih =>
    intro p I k hok hrow hp hI
    rw [eL_cons] at hrow hp
    rw [List.length_append] at hp
    rw [rowAt_app] at hrow
    have hl2 := ef_len2 x
    refine mw_aload_n (i := 0) dX7_manyUnknown_10 rfl rfl ?_
    refine mw_get dX7_manyUnknown_11 fk_X7_55 gm_0 rfl ?_
    refine mw_bipush (v := 120) dX7_manyUnknown_14 (by decide) ?_
    refine mw_iload_n (i := 1) dX7_manyUnknown_16 rfl rfl ?_
    refine mw_imul dX7_manyUnknown_17 ?_
    refine mw_aload_n (i := 0) dX7_manyUnknown_18 rfl rfl ?_
    refine mw_get dX7_manyUnknown_19 fk_X7_26 gm_0 rfl ?_
    refine mw_iload_n (i := 1) dX7_manyUnknown_22 rfl rfl ?_
    refine mw_iald dX7_manyUnknown_23 gm_6 (mw_ix rfl hm (by decide)) ?_
    refine mw_iadd dX7_manyUnknown_24 ?_
    refine mw_top h6 ?_
    refine mw_icmp_ge (tgt := 71) dX7_manyUnknown_25 (by decide) (fun c_25 => ?_) (fun c_25 => ?_)
    · exact absurd c_25 (by rw [hI]; exact nI_ge (by omega) (by omega))
    · refine mw_aload_n (i := 0) dX7_manyUnknown_28 rfl rfl ?_
      refine mw_aload_n (i := 0) dX7_manyUnknown_29 rfl rfl ?_
      refine mw_get dX7_manyUnknown_30 fk_X7_29 gm_0 rfl ?_
      refine mw_bipush (v := 120) dX7_manyUnknown_33 (by decide) ?_
      refine mw_iload_n (i := 1) dX7_manyUnknown_35 rfl rfl ?_
      refine mw_imul dX7_manyUnknown_36 ?_
      refine mw_aload_n (i := 0) dX7_manyUnknown_37 rfl rfl ?_
      refine mw_get dX7_manyUnknown_38 fk_X7_26 gm_0 rfl ?_
      refine mw_iload_n (i := 1) dX7_manyUnknown_41 rfl rfl ?_
      refine mw_iald dX7_manyUnknown_42 gm_6 (mw_ix rfl hm (by decide)) ?_
      refine mw_iadd dX7_manyUnknown_43 ?_
      refine mw_top h6 ?_
      refine mw_callV dX7_manyUnknown_44 mk_X7_106 gm_0 rfl (c_fieldx hA (hok x List.mem_cons_self) hrow.1 (by omega) hE hI) (by decide) (Nat.le_refl _) (Nat.le_refl _) rfl rfl (Nat.le_of_ble_eq_true rfl) (fun E9 h9 q9 => ?_) (fun v9 h9 q9 => ?_)
      · cases q9.1
      · obtain ⟨e9, I1, rfl, hS, r11, r12, r13, r14, -⟩ := q9
        cases e9
        have hback : ∀ k' : Nat, k' + unk A s L = k + unk A s (x :: L) → mw_W mm_X7_manyUnknown 4 0 0 10 [some (.ref M), some (.int (nI m)), some (.int (nI k'))] [] (gm M h I1 A) (zA M h A I (nI (k + unk A s (x :: L)))) := by
          intro k' ek
          refine mw_post (fun v h' q => ?_) (ih (p + (ef x).length) I1 k' (fun z hz => hok z (List.mem_cons_of_mem _ hz)) hrow.2 (by omega) r11)
          obtain ⟨q1, I', q2, q3⟩ := q
          refine ⟨?_, I', q2, hS.tr q3⟩
          rw [q1, ek]
        refine mw_iload_n (i := 2) dX7_manyUnknown_47 rfl rfl ?_
        refine mw_aload_n (i := 0) dX7_manyUnknown_48 rfl rfl ?_
        refine mw_aload_n (i := 0) dX7_manyUnknown_49 rfl rfl ?_
        refine mw_get dX7_manyUnknown_50 fk_X7_23 gm_0 rfl ?_
        refine mw_iload_n (i := 1) dX7_manyUnknown_53 rfl rfl ?_
        refine mw_iald dX7_manyUnknown_54 gm_5 (mw_ix rfl hm (by decide)) ?_
        refine mw_top h5 ?_
        refine mw_callVr dX7_manyUnknown_55 mk_X7_110 gm_0 rfl (c_isKnown hs) (by decide) (Nat.le_refl _) (Nat.le_refl _) rfl rfl (Nat.le_of_ble_eq_true rfl) ?_
        rw [r13, r14]
        refine mw_if_eq (tgt := 65) dX7_manyUnknown_58 (by decide) (fun c_58 => ?_) (fun c_58 => ?_)
        · refine mw_iconst (v := 1) dX7_manyUnknown_65 (by decide) ?_
          refine mw_iadd dX7_manyUnknown_66 ?_
          refine mw_istore_2 dX7_manyUnknown_67 (by decide) ?_
          refine mw_goto (tgt := 10) dX7_manyUnknown_68 (by decide) ?_
          rw [show nI k + 1 = nI (k + 1) from nI_1 k]
          refine hback (k + 1) ?_
          have hP : knb A s x = false := decide_eq_false (fun z => z c_58)
          unfold unk
          rw [List.filter_cons, hP]
          show k + 1 + _ = k + (_ + 1)
          omega
        · refine mw_iconst (v := 0) dX7_manyUnknown_61 (by decide) ?_
          refine mw_goto (tgt := 66) dX7_manyUnknown_62 (by decide) ?_
          refine mw_iadd dX7_manyUnknown_66 ?_
          refine mw_istore_2 dX7_manyUnknown_67 (by decide) ?_
          refine mw_goto (tgt := 10) dX7_manyUnknown_68 (by decide) ?_
          rw [show nI k + 0 = nI k from nI_add k 0]
          refine hback k ?_
          have hP : knb A s x = true := decide_eq_true c_58
          unfold unk
          rw [List.filter_cons, hP]
          rfl
theorem c_manyUnknown {L : List af} (hM : rMes A m s L) : mw_Con mm_X7_manyUnknown 4 0 0 [.ref M, .int (nI m)] (gm M h I A) (zA M h A I (nI (unk A s L))) := by
  obtain ⟨hm, hs, h5, hok, hlen, h6, hrow, hA⟩ := hM
  refine gm_con pl_X7 rfl rfl (Nat.le_of_ble_eq_true rfl) rfl ?_
  refine mw_iconst (v := 0) dX7_manyUnknown_0 (by decide) ?_
  refine mw_istore_2 dX7_manyUnknown_1 (by decide) ?_
  refine mw_aload_n (i := 0) dX7_manyUnknown_2 rfl rfl ?_
  refine mw_bipush (v := 120) dX7_manyUnknown_3 (by decide) ?_
  refine mw_iload_n (i := 1) dX7_manyUnknown_5 rfl rfl ?_
  refine mw_imul dX7_manyUnknown_6 ?_
  refine gm_put dX7_manyUnknown_7 fk_X7_55 (by decide) (gm_h11 _) ?_
  refine mw_post (fun v h' q => ?_) (lp_mu hm hs h5 hA (E := 120 * m + (eL L).length) (by rw [h6]; exact mx_120 _ _) (by omega) L (120 * m) (upd I 11 (120 * nI m)) 0 hok hrow rfl (by rw [pk_us]; exact mx_120m m))
  obtain ⟨q1, I', q2, q3⟩ := q
  refine ⟨?_, I', q2, (zScr.rf.up (by decide) _).tr q3⟩
  rw [q1, Nat.zero_add]
end R6
