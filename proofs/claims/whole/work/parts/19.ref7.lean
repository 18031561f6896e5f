/-! the reference's writers of a message -/
/-- all but the reader's places and the written length stay -/
def zScw (I I' : Nat → Int32) : Prop := ∀ k, (k < 11 ∨ 18 < k) → I' k = I k
theorem zScw.rf {I : Nat → Int32} : zScw I I := fun _ _ => rfl
theorem zScw.tr {I I' I'' : Nat → Int32} (h : zScw I I') (h' : zScw I' I'') : zScw I I'' := fun k hk => (h' k hk).trans (h k hk)
theorem zScw.up {I I' : Nat → Int32} (h : zScw I I') {j : Nat} (hj : 11 ≤ j ∧ j ≤ 18) (x : Int32) : zScw I (upd I' j x) := fun k hk => (pk_un (by omega)).trans (h k hk)
theorem zScr.w {I I' : Nat → Int32} (h : zScr I I') : zScw I I' := fun k hk => h k (by omega)
theorem zScr.k {I I' : Nat → Int32} (h : zScr I I') {k : Nat} (hk : k < 11 ∨ 17 < k) : I' k = I k := h k hk
/-- X is written from w on into g, over the array 9 -/
def zWr (M : Nat) (h : mw_H) (A : Nat → Nat → Int32) (I : Nat → Int32) (w : Nat) (g : Nat → Int32) (X : List Nat) : mw_P := fun v h' => v = .inl none ∧ ∃ I' : Nat → Int32, h' = gm M h I' (va_up A 9 (wr g w X)) ∧ zScw I I' ∧ I' 18 = nI (w + X.length)
theorem up_same (A : Nat → Nat → Int32) (j : Nat) : va_up A j (A j) = A := by
  funext i
  by_cases e : i = j
  · subst e; rw [va_up_self]
  · rw [va_up_ne _ _ e]
theorem gW_up {M : Nat} {h : mw_H} {I : Nat → Int32} {A : Nat → Nat → Int32} {g : Nat → Int32} {w : Nat} {X : List Nat} : gW M h I (va_up A 9 g) w X = gm M h (upd I 18 (nI (w + X.length))) (va_up A 9 (wr g w X)) := by
  unfold gW
  rw [va_up_self, bx_uu]
theorem zWr_nil {M : Nat} {h : mw_H} {A : Nat → Nat → Int32} {I : Nat → Int32} {w : Nat} {g : Nat → Int32} (h18 : I 18 = nI w) : zWr M h A I w g [] (.inl none) (gm M h I (va_up A 9 g)) := ⟨rfl, I, by rw [wr_nil], zScw.rf, h18⟩
/-- first X, then Y -/
theorem zWr_app {M : Nat} {h : mw_H} {A : Nat → Nat → Int32} {I I1 : Nat → Int32} {w : Nat} {g : Nat → Int32} {X Y : List Nat} (hS : zScw I I1) {v : Option Value ⊕ String} {h' : mw_H} (q : zWr M h A I1 (w + X.length) (wr g w X) Y v h') : zWr M h A I w g (X ++ Y) v h' := by
  obtain ⟨q1, I', q2, q3, q4⟩ := q
  refine ⟨q1, I', ?_, hS.tr q3, ?_⟩
  · rw [q2, wr_app]
  · rw [q4, List.length_append, Nat.add_assoc]
theorem zWr_I {M : Nat} {h : mw_H} {A : Nat → Nat → Int32} {I I1 : Nat → Int32} {w : Nat} {g : Nat → Int32} {X : List Nat} (hS : zScw I I1) {v : Option Value ⊕ String} {h' : mw_H} (q : zWr M h A I1 w g X v h') : zWr M h A I w g X v h' := by
  obtain ⟨q1, I', q2, q3, q4⟩ := q
  exact ⟨q1, I', q2, hS.tr q3, q4⟩
section R7
variable {M m s : Nat} {h : mw_H} {I : Nat → Int32} {A : Nat → Nat → Int32}
theorem c_wfx {q n : Nat} (hq : rowq q n) {g : Nat → Int32} {w : Nat} (hA : byt (A q) n) {p : Nat} {x : af} (hx : okf x) (hb : rowAt (bt (A q)) p (ef x)) (hpn : p + (ef x).length ≤ n) (hR : zRd x p I) (h18 : I 18 = nI w) (hw : w + (ef x).length ≤ 300) :
    mw_Con mm_X7_writesField 3 0 0 [.ref M, .ref (M + q)] (gm M h I (va_up A 9 g)) (mw_void (gm M h (upd I 18 (nI (w + (ef x).length))) (va_up A 9 (wr g w (ef x))))) := by
  obtain ⟨r11, r12, r13, r14, r15, r16, r17⟩ := hR
  have hl := ef_len_bytes x
  have e : (va_up A 9 g) q = A q := va_up_ne _ _ (rowq_9 hq)
  have hc := c_writesField (M := M) (h := h) (I := I) (A := va_up A 9 g) (w := w) hq (by rw [e]; exact hA) hx (p := p + (ef x).length - x.2.2.2.length) r13 r14 r15 (fun z => ⟨r16 z, by omega⟩) h18 hw (by rw [e]; exact rowAt_bytes hb)
  rw [gW_up] at hc
  exact hc
theorem lp_wo (hm : m < 12) (hs : s < 6) (h5 : A 5 m = nI s) (hA : byt (A 7) 1440) {E : Nat} (h6 : 120 * nI m + A 6 m = nI E) (hE : E ≤ 1440) (t : Int32) : ∀ (L : List af) (p w : Nat) (I g : Nat → Int32), (∀ x ∈ L, okf x) → rowAt (bt (A 7)) p (eL L) → p + (eL L).length = E → I 11 = nI p → I 18 = nI w → w + (eL L).length ≤ 300 →
    mw_W mm_X7_writesOthers 4 0 0 13 [some (.ref M), some (.int (nI m)), some (.int t)] [] (gm M h I (va_up A 9 g)) (zWr M h A I w g (eL (L.filter (fun x => !Pt A s t x)))) := by
  intro L
  induction L with
  | nil =>
    intro p w I g _ _ hp hI h18 _
    have hp : p + 0 = E := hp
    refine mw_aload_n (i := 0) dX7_writesOthers_13 rfl rfl ?_
    refine mw_get dX7_writesOthers_14 fk_X7_55 gm_0 rfl ?_
    refine mw_bipush (v := 120) dX7_writesOthers_17 (by decide) ?_
    refine mw_iload_n (i := 1) dX7_writesOthers_19 rfl rfl ?_
    refine mw_imul dX7_writesOthers_20 ?_
    refine mw_aload_n (i := 0) dX7_writesOthers_21 rfl rfl ?_
    refine mw_get dX7_writesOthers_22 fk_X7_26 gm_0 rfl ?_
    refine mw_iload_n (i := 1) dX7_writesOthers_25 rfl rfl ?_
    refine mw_iald dX7_writesOthers_26 gm_6 (mw_ix rfl hm (by decide)) ?_
    refine mw_iadd dX7_writesOthers_27 ?_
    refine mw_top (v := nI E) h6 ?_
    refine mw_icmp_ge (tgt := 82) dX7_writesOthers_28 (by decide) (fun c_28 => ?_) (fun c_28 => ?_)
    · exact mw_return dX7_writesOthers_82 rfl (zWr_nil h18)
    · exact absurd (by rw [hI]; exact nI_le (by omega) (by omega)) c_28
  | cons x L ih =>
    intro p w I g hok hrow hp hI h18 hw
    rw [eL_cons] at hrow hp hw
    rw [List.length_append] at hp hw
    rw [rowAt_app] at hrow
    have hl2 := ef_len2 x
    have hA' : byt ((va_up A 9 g) 7) 1440 := hA
    have hrow' : rowAt (bt ((va_up A 9 g) 7)) p (ef x) := hrow.1
    have hx := hok x List.mem_cons_self
    refine mw_aload_n (i := 0) dX7_writesOthers_13 rfl rfl ?_
    refine mw_get dX7_writesOthers_14 fk_X7_55 gm_0 rfl ?_
    refine mw_bipush (v := 120) dX7_writesOthers_17 (by decide) ?_
    refine mw_iload_n (i := 1) dX7_writesOthers_19 rfl rfl ?_
    refine mw_imul dX7_writesOthers_20 ?_
    refine mw_aload_n (i := 0) dX7_writesOthers_21 rfl rfl ?_
    refine mw_get dX7_writesOthers_22 fk_X7_26 gm_0 rfl ?_
    refine mw_iload_n (i := 1) dX7_writesOthers_25 rfl rfl ?_
    refine mw_iald dX7_writesOthers_26 gm_6 (mw_ix rfl hm (by decide)) ?_
    refine mw_iadd dX7_writesOthers_27 ?_
    refine mw_top (v := nI E) h6 ?_
    refine mw_icmp_ge (tgt := 82) dX7_writesOthers_28 (by decide) (fun c_28 => ?_) (fun c_28 => ?_)
    · exact absurd c_28 (by rw [hI]; exact nI_ge (by omega) (by omega))
    · refine mw_aload_n (i := 0) dX7_writesOthers_31 rfl rfl ?_
      refine mw_aload_n (i := 0) dX7_writesOthers_32 rfl rfl ?_
      refine mw_get dX7_writesOthers_33 fk_X7_29 gm_0 rfl ?_
      refine mw_bipush (v := 120) dX7_writesOthers_36 (by decide) ?_
      refine mw_iload_n (i := 1) dX7_writesOthers_38 rfl rfl ?_
      refine mw_imul dX7_writesOthers_39 ?_
      refine mw_aload_n (i := 0) dX7_writesOthers_40 rfl rfl ?_
      refine mw_get dX7_writesOthers_41 fk_X7_26 gm_0 rfl ?_
      refine mw_iload_n (i := 1) dX7_writesOthers_44 rfl rfl ?_
      refine mw_iald dX7_writesOthers_45 gm_6 (mw_ix rfl hm (by decide)) ?_
      refine mw_iadd dX7_writesOthers_46 ?_
      refine mw_top (v := nI E) h6 ?_
      refine mw_callV dX7_writesOthers_47 mk_X7_106 gm_0 rfl (c_fieldx hA' hx hrow' (by omega) hE hI) (by decide) (Nat.le_refl _) (Nat.le_refl _) rfl rfl (Nat.le_of_ble_eq_true rfl) (fun E9 h9 q9 => ?_) (fun v9 h9 q9 => ?_)
      · cases q9.1
      · obtain ⟨e9, I1, rfl, hS, hR⟩ := q9
        cases e9
        have hR0 := hR
        obtain ⟨r11, r12, r13, r14, -⟩ := hR
        have k18 : I1 18 = nI w := (hS.k (by decide)).trans h18
        -- the field is written
        have hput : Pt A s t x = false → mw_W mm_X7_writesOthers 4 0 0 71 [some (.ref M), some (.int (nI m)), some (.int t)] [] (gm M h I1 (va_up A 9 g)) (zWr M h A I w g (eL ((x :: L).filter (fun x => !Pt A s t x)))) := by
          intro hP
          refine mw_aload_n (i := 0) dX7_writesOthers_71 rfl rfl ?_
          refine mw_aload_n (i := 0) dX7_writesOthers_72 rfl rfl ?_
          refine mw_get dX7_writesOthers_73 fk_X7_29 gm_0 rfl ?_
          refine mw_callVv dX7_writesOthers_76 mk_X7_116 gm_0 rfl (c_wfx (q := 7) (Or.inl ⟨rfl, rfl⟩) hA hx hrow.1 (by omega) hR0 k18 (by omega)) (by decide) (Nat.le_refl _) (Nat.le_refl _) rfl rfl (Nat.le_of_ble_eq_true rfl) ?_
          refine mw_goto (tgt := 13) dX7_writesOthers_79 (by decide) ?_
          refine mw_post (fun v h' q => ?_) (ih (p + (ef x).length) (w + (ef x).length) (upd I1 18 (nI (w + (ef x).length))) (wr g w (ef x)) (fun z hz => hok z (List.mem_cons_of_mem _ hz)) hrow.2 (by omega) ((pk_un (by decide)).trans r11) pk_us (by omega))
          rw [List.filter_cons, hP]
          exact zWr_app (hS.w.up (by decide) _) q
        refine mw_aload_n (i := 0) dX7_writesOthers_50 rfl rfl ?_
        refine mw_get dX7_writesOthers_51 fk_X7_68 gm_0 rfl ?_
        refine mw_iload_n (i := 2) dX7_writesOthers_54 rfl rfl ?_
        refine mw_icmp_ne (tgt := 71) dX7_writesOthers_55 (by decide) (fun c_55 => ?_) (fun c_55 => ?_)
        · refine hput ?_
          unfold Pt
          rw [decide_eq_false (fun z => c_55 (by rw [r13]; exact z)), Bool.false_and]
        · have ht : nI x.1 = t := by rw [← r13]; exact c_55
          refine mw_aload_n (i := 0) dX7_writesOthers_58 rfl rfl ?_
          refine mw_aload_n (i := 0) dX7_writesOthers_59 rfl rfl ?_
          refine mw_get dX7_writesOthers_60 fk_X7_23 gm_0 rfl ?_
          refine mw_iload_n (i := 1) dX7_writesOthers_63 rfl rfl ?_
          refine mw_iald dX7_writesOthers_64 gm_5 (mw_ix rfl hm (by decide)) ?_
          refine mw_top (v := nI s) h5 ?_
          refine mw_callVr dX7_writesOthers_65 mk_X7_110 gm_0 rfl (c_isKnown hs) (by decide) (Nat.le_refl _) (Nat.le_refl _) rfl rfl (Nat.le_of_ble_eq_true rfl) ?_
          rw [r13, r14]
          refine mw_if_ne (tgt := 13) dX7_writesOthers_68 (by decide) (fun c_68 => ?_) (fun c_68 => ?_)
          · have hP : Pt A s t x = true := by
              have z : zKn A s (nI x.1) (nI x.2.1) ≠ 0 := c_68
              unfold Pt knb
              rw [decide_eq_true ht, decide_eq_true z]
              rfl
            refine mw_post (fun v h' q => ?_) (ih (p + (ef x).length) w I1 g (fun z hz => hok z (List.mem_cons_of_mem _ hz)) hrow.2 (by omega) r11 k18 (by omega))
            rw [List.filter_cons, hP]
            exact zWr_I hS.w q
          · refine hput ?_
            unfold Pt knb
            rw [decide_eq_true ht, decide_eq_false (fun z => z c_68)]
            rfl
theorem c_writesOthers {L : List af} (hM : rMes A m s L) (t : Int32) : mw_Con mm_X7_writesOthers 4 0 0 [.ref M, .int (nI m), .int t] (gm M h I A) (zWr M h A I 0 (A 9) (eL (L.filter (fun x => !Pt A s t x)))) := by
  obtain ⟨hm, hs, h5, hok, hlen, h6, hrow, hA⟩ := hM
  refine gm_con pl_X7 rfl rfl (Nat.le_of_ble_eq_true rfl) rfl ?_
  refine mw_aload_n (i := 0) dX7_writesOthers_0 rfl rfl ?_
  refine mw_iconst (v := 0) dX7_writesOthers_1 (by decide) ?_
  refine gm_put dX7_writesOthers_2 fk_X7_84 (by decide) (gm_h18 _) ?_
  refine mw_aload_n (i := 0) dX7_writesOthers_5 rfl rfl ?_
  refine mw_bipush (v := 120) dX7_writesOthers_6 (by decide) ?_
  refine mw_iload_n (i := 1) dX7_writesOthers_8 rfl rfl ?_
  refine mw_imul dX7_writesOthers_9 ?_
  refine gm_put dX7_writesOthers_10 fk_X7_55 (by decide) (gm_h11 _) ?_
  have hw := lp_wo (M := M) (h := h) hm hs h5 hA (E := 120 * m + (eL L).length) (by rw [h6]; exact mx_120 _ _) (by omega) t L (120 * m) 0 (upd (upd I 18 0) 11 (120 * nI m)) (A 9) hok hrow rfl (by rw [pk_us]; exact mx_120m m) rfl (by omega)
  rw [up_same] at hw
  refine mw_post (fun v h' q => ?_) hw
  exact zWr_I ((zScw.rf.up (by decide) _).up (by decide) _) q
/-! canonical: of the fields with the tag t, the unknown ones and the last known one, if it isn't the default -/
def dfb (A : Nat → Nat → Int32) (s t : Nat) (x : af) : Bool := decide (zInt (zKind A s (nI t)) ≠ 0) && decide (zStF (zKind A s (nI t)) (nI x.2.2.1) = A 3 (32 * s + t))
def canT (A : Nat → Nat → Int32) (s t : Nat) : List af → List af
  | [] => []
  | x :: L => if x.1 = t ∧ (knb A s x = true → (∀ z ∈ L, Pt A s (nI t) z = false) ∧ dfb A s t x = false) then x :: canT A s t L else canT A s t L
def canU (A : Nat → Nat → Int32) (s : Nat) (L : List af) : Nat → List af
  | 0 => []
  | k + 1 => canU A s L k ++ canT A s (k + 1) L
def can (A : Nat → Nat → Int32) (s : Nat) (L : List af) : List af := canU A s L 31
theorem canT_len (A : Nat → Nat → Int32) (s t : Nat) : ∀ L, (eL (canT A s t L)).length ≤ (eL (L.filter (fun x => decide (x.1 = t)))).length
  | [] => Nat.le_refl _
  | x :: L => by
    have ih := canT_len A s t L
    unfold canT
    rw [List.filter_cons]
    by_cases e : x.1 = t
    · rw [if_pos (decide_eq_true e), eL_cons, List.length_append]
      split
      · rw [eL_cons, List.length_append]; omega
      · omega
    · rw [if_neg (fun z => e z.1), if_neg (by rw [decide_eq_false e]; decide)]
      exact ih
theorem fil_len (k : Nat) : ∀ L : List af, (eL (L.filter (fun x => decide (x.1 ≤ k)))).length + (eL (L.filter (fun x => decide (x.1 = k + 1)))).length = (eL (L.filter (fun x => decide (x.1 ≤ k + 1)))).length
  | [] => rfl
  | x :: L => by
    have ih := fil_len k L
    rw [List.filter_cons, List.filter_cons, List.filter_cons]
    by_cases e : x.1 = k + 1
    · rw [if_neg (by simp; omega), if_pos (by simp [e]), if_pos (by simp [e]), eL_cons, eL_cons, List.length_append, List.length_append]
      omega
    · by_cases e2 : x.1 ≤ k
      · rw [if_pos (by simp [e2]), if_neg (by simp [e]), if_pos (by simp; omega), eL_cons, eL_cons, List.length_append, List.length_append]
        omega
      · rw [if_neg (by simp [e2]), if_neg (by simp [e]), if_neg (by simp; omega)]
        exact ih
theorem fil_le (P : af → Bool) : ∀ L : List af, (eL (L.filter P)).length ≤ (eL L).length
  | [] => Nat.le_refl _
  | x :: L => by
    have ih := fil_le P L
    rw [List.filter_cons, eL_cons, List.length_append]
    split
    · rw [eL_cons, List.length_append]; omega
    · omega
theorem canU_len (A : Nat → Nat → Int32) (s : Nat) (L : List af) : ∀ k, (eL (canU A s L k)).length ≤ (eL (L.filter (fun x => decide (x.1 ≤ k)))).length
  | 0 => Nat.zero_le _
  | k + 1 => by
    have ih := canU_len A s L k
    have h1 := canT_len A s (k + 1) L
    have h2 := fil_len k L
    show (eL (canU A s L k ++ canT A s (k + 1) L)).length ≤ _
    rw [eL_app, List.length_append]
    omega
theorem canU_le (A : Nat → Nat → Int32) (s : Nat) (L : List af) (k : Nat) : (eL (canU A s L k)).length ≤ (eL L).length := Nat.le_trans (canU_len A s L k) (fil_le _ L)
theorem canT_mem {A : Nat → Nat → Int32} {s t : Nat} : ∀ {L : List af} {x : af}, x ∈ canT A s t L → x ∈ L ∧ x.1 = t
  | [], x, h => by cases h
  | y :: L, x, h => by
    unfold canT at h
    split at h
    · rename_i e
      rcases List.mem_cons.mp h with rfl | h
      · exact ⟨List.mem_cons_self, e.1⟩
      · have := canT_mem h
        exact ⟨List.mem_cons_of_mem _ this.1, this.2⟩
    · have := canT_mem h
      exact ⟨List.mem_cons_of_mem _ this.1, this.2⟩
theorem canU_mem {A : Nat → Nat → Int32} {s : Nat} {L : List af} : ∀ {k : Nat} {x : af}, x ∈ canU A s L k → x ∈ L
  | 0, x, h => by cases h
  | k + 1, x, h => by
    rcases List.mem_append.mp (show x ∈ canU A s L k ++ canT A s (k + 1) L from h) with h | h
    · exact canU_mem h
    · exact (canT_mem h).1
/-- the place found last is this one just if there is none behind it -/
theorem lkv_here {P : af → Bool} {x : af} {L : List af} {p : Nat} {acc : Int32} (hx : P x = true) (hp : p + (eL (x :: L)).length < 2 ^ 31) : (lkv P p (x :: L) acc = nI p) ↔ ∀ z ∈ L, P z = false := by
  have e : lkv P p (x :: L) acc = lkv P (p + (ef x).length) L (nI p) := by
    show lkv P _ L (if P x then nI p else acc) = _
    rw [hx]
    rfl
  rw [e]
  constructor
  · intro h z hz
    cases hP : P z with
    | false => rfl
    | true =>
      obtain ⟨L1, y, L2, h1, h2, h3, h4⟩ := lkv_yes L (p + (ef x).length) (nI p) ⟨z, hz, hP⟩
      have hl2 := ef_len2 x
      rw [eL_cons, List.length_append, h1, eL_app, List.length_append] at hp
      rw [h4, nI_eq (by omega) (by omega)] at h
      omega
  · intro h
    exact lkv_no L _ _ h
theorem lp_wc {Po : mw_P} (hm : m < 12) (hs : s < 6) (hA : byt (A 7) 1440) {E : Nat} (h6 : 120 * nI m + A 6 m = nI E) (hE : E ≤ 1440) {t : Nat} (ht1 : 1 ≤ t) (ht : t < 32) (last : Int32) : ∀ (L : List af) (p w : Nat) (I g : Nat → Int32) (acc : Int32) (x5 : Option Value), (∀ x ∈ L, okf x) → rowAt (bt (A 7)) p (eL L) → p + (eL L).length = E → I 11 = nI p → I 18 = nI w → w + (eL (canT A s t L)).length ≤ 300 → last = lkv (Pt A s (nI t)) p L acc →
    (∀ (w' : Nat) (I' g' : Nat → Int32) (x5 : Option Value), w' = w + (eL (canT A s t L)).length → zScw I I' → I' 18 = nI w' → g' = wr g w (eL (canT A s t L)) → mw_W mm_X7_writesCanonical 5 0 0 160 [some (.ref M), some (.int (nI m)), some (.int (nI s)), some (.int (nI t)), some (.int last), x5] [] (gm M h I' (va_up A 9 g')) Po) →
    mw_W mm_X7_writesCanonical 5 0 0 36 [some (.ref M), some (.int (nI m)), some (.int (nI s)), some (.int (nI t)), some (.int last), x5] [] (gm M h I (va_up A 9 g)) Po := by
  intro L
  induction L with
  | nil =>
    intro p w I g acc x5 _ _ hp hI h18 _ _ K
    have hp : p + 0 = E := hp
    refine mw_aload_n (i := 0) dX7_writesCanonical_36 rfl rfl ?_
    refine mw_get dX7_writesCanonical_37 fk_X7_55 gm_0 rfl ?_
    refine mw_bipush (v := 120) dX7_writesCanonical_40 (by decide) ?_
    refine mw_iload_n (i := 1) dX7_writesCanonical_42 rfl rfl ?_
    refine mw_imul dX7_writesCanonical_43 ?_
    refine mw_aload_n (i := 0) dX7_writesCanonical_44 rfl rfl ?_
    refine mw_get dX7_writesCanonical_45 fk_X7_26 gm_0 rfl ?_
    refine mw_iload_n (i := 1) dX7_writesCanonical_48 rfl rfl ?_
    refine mw_iald dX7_writesCanonical_49 gm_6 (mw_ix rfl hm (by decide)) ?_
    refine mw_iadd dX7_writesCanonical_50 ?_
    refine mw_top (v := nI E) h6 ?_
    refine mw_icmp_ge (tgt := 160) dX7_writesCanonical_51 (by decide) (fun c_51 => ?_) (fun c_51 => ?_)
    · exact K w I g x5 rfl zScw.rf h18 (wr_nil g w).symm
    · exact absurd (by rw [hI]; exact nI_le (by omega) (by omega)) c_51
  | cons x L ih =>
    intro p w I g acc x5 hok hrow hp hI h18 hw hlast K
    have hp0 := hp
    rw [eL_cons] at hrow hp
    rw [List.length_append] at hp
    rw [rowAt_app] at hrow
    have hl2 := ef_len2 x
    have hA' : byt ((va_up A 9 g) 7) 1440 := hA
    have hrow' : rowAt (bt ((va_up A 9 g) 7)) p (ef x) := hrow.1
    have hx := hok x List.mem_cons_self
    refine mw_aload_n (i := 0) dX7_writesCanonical_36 rfl rfl ?_
    refine mw_get dX7_writesCanonical_37 fk_X7_55 gm_0 rfl ?_
    refine mw_bipush (v := 120) dX7_writesCanonical_40 (by decide) ?_
    refine mw_iload_n (i := 1) dX7_writesCanonical_42 rfl rfl ?_
    refine mw_imul dX7_writesCanonical_43 ?_
    refine mw_aload_n (i := 0) dX7_writesCanonical_44 rfl rfl ?_
    refine mw_get dX7_writesCanonical_45 fk_X7_26 gm_0 rfl ?_
    refine mw_iload_n (i := 1) dX7_writesCanonical_48 rfl rfl ?_
    refine mw_iald dX7_writesCanonical_49 gm_6 (mw_ix rfl hm (by decide)) ?_
    refine mw_iadd dX7_writesCanonical_50 ?_
    refine mw_top (v := nI E) h6 ?_
    refine mw_icmp_ge (tgt := 160) dX7_writesCanonical_51 (by decide) (fun c_51 => ?_) (fun c_51 => ?_)
    · exact absurd c_51 (by rw [hI]; exact nI_ge (by omega) (by omega))
    · refine mw_aload_n (i := 0) dX7_writesCanonical_54 rfl rfl ?_
      refine mw_aload_n (i := 0) dX7_writesCanonical_55 rfl rfl ?_
      refine mw_get dX7_writesCanonical_56 fk_X7_29 gm_0 rfl ?_
      refine mw_bipush (v := 120) dX7_writesCanonical_59 (by decide) ?_
      refine mw_iload_n (i := 1) dX7_writesCanonical_61 rfl rfl ?_
      refine mw_imul dX7_writesCanonical_62 ?_
      refine mw_aload_n (i := 0) dX7_writesCanonical_63 rfl rfl ?_
      refine mw_get dX7_writesCanonical_64 fk_X7_26 gm_0 rfl ?_
      refine mw_iload_n (i := 1) dX7_writesCanonical_67 rfl rfl ?_
      refine mw_iald dX7_writesCanonical_68 gm_6 (mw_ix rfl hm (by decide)) ?_
      refine mw_iadd dX7_writesCanonical_69 ?_
      refine mw_top (v := nI E) h6 ?_
      refine mw_callV dX7_writesCanonical_70 mk_X7_106 gm_0 rfl (c_fieldx hA' hx hrow' (by omega) hE hI) (by decide) (Nat.le_refl _) (Nat.le_refl _) rfl rfl (Nat.le_of_ble_eq_true rfl) (fun E9 h9 q9 => ?_) (fun v9 h9 q9 => ?_)
      · cases q9.1
      · obtain ⟨e9, I1, rfl, hS, hR⟩ := q9
        cases e9
        have hR0 := hR
        obtain ⟨r11, r12, r13, r14, r15, r16, r17⟩ := hR
        have k18 : I1 18 = nI w := (hS.k (by decide)).trans h18
        -- the field is kept, or not
        have hkeep : ∀ x5, (x.1 = t ∧ (knb A s x = true → (∀ z ∈ L, Pt A s (nI t) z = false) ∧ dfb A s t x = false)) → mw_W mm_X7_writesCanonical 5 0 0 149 [some (.ref M), some (.int (nI m)), some (.int (nI s)), some (.int (nI t)), some (.int last), x5] [] (gm M h I1 (va_up A 9 g)) Po := by
          intro x5 hc
          have e : canT A s t (x :: L) = x :: canT A s t L := by
            show (if _ then _ else _) = _
            rw [if_pos hc]
          rw [e] at K hw
          rw [eL_cons] at K hw
          rw [List.length_append] at hw
          refine mw_aload_n (i := 0) dX7_writesCanonical_149 rfl rfl ?_
          refine mw_aload_n (i := 0) dX7_writesCanonical_150 rfl rfl ?_
          refine mw_get dX7_writesCanonical_151 fk_X7_29 gm_0 rfl ?_
          refine mw_callVv dX7_writesCanonical_154 mk_X7_116 gm_0 rfl (c_wfx (q := 7) (Or.inl ⟨rfl, rfl⟩) hA hx hrow.1 (by omega) hR0 k18 (by omega)) (by decide) (Nat.le_refl _) (Nat.le_refl _) rfl rfl (Nat.le_of_ble_eq_true rfl) ?_
          refine mw_goto (tgt := 36) dX7_writesCanonical_157 (by decide) ?_
          refine ih (p + (ef x).length) (w + (ef x).length) (upd I1 18 (nI (w + (ef x).length))) (wr g w (ef x)) (if Pt A s (nI t) x then nI p else acc) x5 (fun z hz => hok z (List.mem_cons_of_mem _ hz)) hrow.2 (by omega) ((pk_un (by decide)).trans r11) pk_us (by omega) hlast ?_
          intro w' I' g' x5 e1 e2 e3 e4
          refine K w' I' g' x5 ?_ ((hS.w.up (by decide) _).tr e2) e3 ?_
          · rw [e1, List.length_append, Nat.add_assoc]
          · rw [e4, wr_app]
        have hdrop : ∀ x5, ¬ (x.1 = t ∧ (knb A s x = true → (∀ z ∈ L, Pt A s (nI t) z = false) ∧ dfb A s t x = false)) → mw_W mm_X7_writesCanonical 5 0 0 157 [some (.ref M), some (.int (nI m)), some (.int (nI s)), some (.int (nI t)), some (.int last), x5] [] (gm M h I1 (va_up A 9 g)) Po := by
          intro x5 hc
          have e : canT A s t (x :: L) = canT A s t L := by
            show (if _ then _ else _) = _
            rw [if_neg hc]
          rw [e] at K hw
          refine mw_goto (tgt := 36) dX7_writesCanonical_157 (by decide) ?_
          refine ih (p + (ef x).length) w I1 g (if Pt A s (nI t) x then nI p else acc) x5 (fun z hz => hok z (List.mem_cons_of_mem _ hz)) hrow.2 (by omega) r11 k18 hw hlast ?_
          intro w' I' g' x5 e1 e2 e3 e4
          exact K w' I' g' x5 e1 (hS.w.tr e2) e3 e4
        -- behind the look at the default
        have J : ∀ d : Int32, (d = 0 ↔ dfb A s t x = false) → mw_W mm_X7_writesCanonical 5 0 0 117 [some (.ref M), some (.int (nI m)), some (.int (nI s)), some (.int (nI t)), some (.int last), x5] [.int d] (gm M h I1 (va_up A 9 g)) Po := by
          intro d hd
          refine mw_istore_5 dX7_writesCanonical_117 (by decide) ?_
          refine mw_aload_n (i := 0) dX7_writesCanonical_119 rfl rfl ?_
          refine mw_get dX7_writesCanonical_120 fk_X7_68 gm_0 rfl ?_
          refine mw_iload_n (i := 3) dX7_writesCanonical_123 rfl rfl ?_
          rw [r13]
          refine mw_icmp_ne (tgt := 157) dX7_writesCanonical_124 (by decide) (fun c_124 => ?_) (fun c_124 => ?_)
          · exact hdrop _ (fun z => c_124 (by rw [z.1]))
          · have hxt : x.1 = t := by rw [nI_eq (by have := hx.2.1; omega) (by omega)] at c_124; exact c_124
            refine mw_aload_n (i := 0) dX7_writesCanonical_127 rfl rfl ?_
            refine mw_iload_n (i := 2) dX7_writesCanonical_128 rfl rfl ?_
            refine mw_callVr dX7_writesCanonical_129 mk_X7_110 gm_0 rfl (c_isKnown hs) (by decide) (Nat.le_refl _) (Nat.le_refl _) rfl rfl (Nat.le_of_ble_eq_true rfl) ?_
            rw [r13, r14]
            refine mw_if_eq (tgt := 149) dX7_writesCanonical_132 (by decide) (fun c_132 => ?_) (fun c_132 => ?_)
            · refine hkeep _ ⟨hxt, fun z => ?_⟩
              exact absurd c_132 (of_decide_eq_true z)
            · have hkn : knb A s x = true := decide_eq_true c_132
              have hPx : Pt A s (nI t) x = true := by
                unfold Pt
                rw [hkn, hxt, decide_eq_true rfl]
                rfl
              have hh := lkv_here (acc := acc) (L := L) (p := p) hPx (by omega)
              rw [← hlast] at hh
              refine mw_aload_n (i := 0) dX7_writesCanonical_135 rfl rfl ?_
              refine mw_get dX7_writesCanonical_136 fk_X7_61 gm_0 rfl ?_
              refine mw_iload (i := 4) dX7_writesCanonical_139 rfl ?_
              rw [r17]
              refine mw_icmp_ne (tgt := 157) dX7_writesCanonical_141 (by decide) (fun c_141 => ?_) (fun c_141 => ?_)
              · exact hdrop _ (fun z => c_141 (hh.mpr (z.2 hkn).1).symm)
              · refine mw_iload (i := 5) dX7_writesCanonical_144 rfl ?_
                refine mw_if_ne (tgt := 157) dX7_writesCanonical_146 (by decide) (fun c_146 => ?_) (fun c_146 => ?_)
                · refine hdrop _ (fun z => c_146 (hd.mpr (z.2 hkn).2))
                · exact hkeep _ ⟨hxt, fun _ => ⟨hh.mp c_141.symm, hd.mp c_146⟩⟩
        refine mw_aload_n (i := 0) dX7_writesCanonical_73 rfl rfl ?_
        refine mw_iload_n (i := 2) dX7_writesCanonical_74 rfl rfl ?_
        refine mw_iload_n (i := 3) dX7_writesCanonical_75 rfl rfl ?_
        refine mw_callVr dX7_writesCanonical_76 mk_X7_98 gm_0 rfl (c_kind hs (nI t)) (by decide) (Nat.le_refl _) (Nat.le_refl _) rfl rfl (Nat.le_of_ble_eq_true rfl) ?_
        refine mw_callSr dX7_writesCanonical_79 mk_X7_120 (c_isInt (zKind A s (nI t))) (by decide) (Nat.le_refl _) (Nat.le_refl _) rfl rfl (Nat.le_of_ble_eq_true rfl) ?_
        refine mw_if_eq (tgt := 116) dX7_writesCanonical_82 (by decide) (fun c_82 => ?_) (fun c_82 => ?_)
        · refine mw_iconst (v := 0) dX7_writesCanonical_116 (by decide) ?_
          refine J 0 ⟨fun _ => ?_, fun _ => rfl⟩
          unfold dfb
          rw [decide_eq_false (fun z => z c_82), Bool.false_and]
        · refine mw_aload_n (i := 0) dX7_writesCanonical_85 rfl rfl ?_
          refine mw_iload_n (i := 2) dX7_writesCanonical_86 rfl rfl ?_
          refine mw_iload_n (i := 3) dX7_writesCanonical_87 rfl rfl ?_
          refine mw_callVr dX7_writesCanonical_88 mk_X7_98 gm_0 rfl (c_kind hs (nI t)) (by decide) (Nat.le_refl _) (Nat.le_refl _) rfl rfl (Nat.le_of_ble_eq_true rfl) ?_
          refine mw_aload_n (i := 0) dX7_writesCanonical_91 rfl rfl ?_
          refine mw_get dX7_writesCanonical_92 fk_X7_78 gm_0 rfl ?_
          rw [r15]
          refine mw_callSr dX7_writesCanonical_95 mk_X7_123 (c_standsFor (zKind A s (nI t)) (nI x.2.2.1)) (by decide) (Nat.le_refl _) (Nat.le_refl _) rfl rfl (Nat.le_of_ble_eq_true rfl) ?_
          refine mw_aload_n (i := 0) dX7_writesCanonical_98 rfl rfl ?_
          refine mw_get dX7_writesCanonical_99 fk_X7_16 gm_0 rfl ?_
          refine mw_bipush (v := 32) dX7_writesCanonical_102 (by decide) ?_
          refine mw_iload_n (i := 2) dX7_writesCanonical_104 rfl rfl ?_
          refine mw_imul dX7_writesCanonical_105 ?_
          refine mw_iload_n (i := 3) dX7_writesCanonical_106 rfl rfl ?_
          refine mw_iadd dX7_writesCanonical_107 ?_
          refine mw_iald dX7_writesCanonical_108 gm_3 (mw_ix (mx_32 s t) (show 32 * s + t < 192 by omega) (by decide)) ?_
          refine mw_icmp_ne (tgt := 116) dX7_writesCanonical_109 (by decide) (fun c_109 => ?_) (fun c_109 => ?_)
          · refine mw_iconst (v := 0) dX7_writesCanonical_116 (by decide) ?_
            refine J 0 ⟨fun _ => ?_, fun _ => rfl⟩
            unfold dfb
            have z : ¬ zStF (zKind A s (nI t)) (nI x.2.2.1) = A 3 (32 * s + t) := c_109
            rw [decide_eq_false z, Bool.and_false]
          · refine mw_iconst (v := 1) dX7_writesCanonical_112 (by decide) ?_
            refine mw_goto (tgt := 117) dX7_writesCanonical_113 (by decide) ?_
            refine J 1 ⟨fun z => absurd z (by decide), fun z => ?_⟩
            have z1 : zStF (zKind A s (nI t)) (nI x.2.2.1) = A 3 (32 * s + t) := c_109
            unfold dfb at z
            rw [decide_eq_true z1, decide_eq_true c_82] at z
            exact absurd z (by decide)
theorem lp_wt {L : List af} (hM : rMes A m s L) : ∀ (n k : Nat) (I1 : Nat → Int32) (x4 x5 : Option Value), k + n = 31 → zScw I I1 → I1 18 = nI (0 + (eL (canU A s L k)).length) →
    mw_W mm_X7_writesCanonical 5 0 0 14 [some (.ref M), some (.int (nI m)), some (.int (nI s)), some (.int (nI (k + 1))), x4, x5] [] (gm M h I1 (va_up A 9 (wr (A 9) 0 (eL (canU A s L k))))) (zWr M h A I 0 (A 9) (eL (can A s L))) := by
  have hM0 := hM
  obtain ⟨hm, hs, h5, hok, hlen, h6, hrow, hA⟩ := hM
  intro n
  induction n with
  | zero =>
    intro k I1 x4 x5 hk hS h18
    have hk : k = 31 := hk
    subst hk
    refine mw_iload_n (i := 3) dX7_writesCanonical_14 rfl rfl ?_
    refine mw_bipush (v := 32) dX7_writesCanonical_15 (by decide) ?_
    refine mw_icmp_ge (tgt := 166) dX7_writesCanonical_17 (by decide) (fun c_17 => ?_) (fun c_17 => ?_)
    · exact mw_return dX7_writesCanonical_166 rfl ⟨rfl, I1, rfl, hS, h18⟩
    · exact absurd (by decide) c_17
  | succ n ih =>
    intro k I1 x4 x5 hk hS h18
    refine mw_iload_n (i := 3) dX7_writesCanonical_14 rfl rfl ?_
    refine mw_bipush (v := 32) dX7_writesCanonical_15 (by decide) ?_
    refine mw_icmp_ge (tgt := 166) dX7_writesCanonical_17 (by decide) (fun c_17 => ?_) (fun c_17 => ?_)
    · exact absurd c_17 (by rw [show (32 : Int32) = nI 32 from rfl]; exact nI_ge (by omega) (by omega))
    · refine mw_aload_n (i := 0) dX7_writesCanonical_20 rfl rfl ?_
      refine mw_iload_n (i := 1) dX7_writesCanonical_21 rfl rfl ?_
      refine mw_iload_n (i := 3) dX7_writesCanonical_22 rfl rfl ?_
      refine mw_callV dX7_writesCanonical_23 mk_X7_113 gm_0 rfl (c_lastKnown (rMes_up hM0 (j := 9) (by decide) _) (nI (k + 1))) (by decide) (Nat.le_refl _) (Nat.le_refl _) rfl rfl (Nat.le_of_ble_eq_true rfl) (fun E9 h9 q9 => ?_) (fun v9 h9 q9 => ?_)
      · cases q9.1
      · obtain ⟨e9, I2, rfl, hS2⟩ := q9
        cases e9
        refine mw_istore_4 dX7_writesCanonical_26 (by decide) ?_
        refine mw_aload_n (i := 0) dX7_writesCanonical_28 rfl rfl ?_
        refine mw_bipush (v := 120) dX7_writesCanonical_29 (by decide) ?_
        refine mw_iload_n (i := 1) dX7_writesCanonical_31 rfl rfl ?_
        refine mw_imul dX7_writesCanonical_32 ?_
        refine gm_put dX7_writesCanonical_33 fk_X7_55 (by decide) (gm_h11 _) ?_
        have hle := canU_le A s L (k + 1)
        have e8 : eL (canU A s L (k + 1)) = eL (canU A s L k) ++ eL (canT A s (k + 1) L) := eL_app _ _
        rw [e8, List.length_append] at hle
        refine lp_wc hm hs hA (E := 120 * m + (eL L).length) (by rw [h6]; exact mx_120 _ _) (by omega) (by omega) (by omega) _ L (120 * m) (0 + (eL (canU A s L k)).length) (upd I2 11 (120 * nI m)) _ (-1) x5 hok hrow rfl (by rw [pk_us]; exact mx_120m m) (by rw [pk_un (by decide), hS2 18 (by decide)]; exact h18) (by omega) rfl ?_
        intro w' I' g' x5 e1 e2 e3 e4
        refine mw_iinc_3 dX7_writesCanonical_160 (by decide) rfl ?_
        refine mw_goto (tgt := 14) dX7_writesCanonical_163 (by decide) ?_
        rw [show nI (k + 1) + Int32.ofInt 1 = nI (k + 1 + 1) from nI_1 (k + 1)]
        have h9 := ih (k + 1) I' (some (.int (lkv (Pt A s (nI (k + 1))) (120 * m) L (-1)))) x5 (by omega) ((hS.tr (hS2.w.up (by decide) _)).tr e2) (by rw [e3, e1, e8, List.length_append, Nat.add_assoc])
        rw [e8, ← wr_app, ← e4] at h9
        exact h9
theorem c_writesCanonical {L : List af} (hM : rMes A m s L) : mw_Con mm_X7_writesCanonical 5 0 0 [.ref M, .int (nI m)] (gm M h I A) (zWr M h A I 0 (A 9) (eL (can A s L))) := by
  have hM0 := hM
  obtain ⟨hm, hs, h5, hok, hlen, h6, hrow, hA⟩ := hM
  refine gm_con pl_X7 rfl rfl (Nat.le_of_ble_eq_true rfl) rfl ?_
  refine mw_aload_n (i := 0) dX7_writesCanonical_0 rfl rfl ?_
  refine mw_get dX7_writesCanonical_1 fk_X7_23 gm_0 rfl ?_
  refine mw_iload_n (i := 1) dX7_writesCanonical_4 rfl rfl ?_
  refine mw_iald dX7_writesCanonical_5 gm_5 (mw_ix rfl hm (by decide)) ?_
  refine mw_top h5 ?_
  refine mw_istore_2 dX7_writesCanonical_6 (by decide) ?_
  refine mw_aload_n (i := 0) dX7_writesCanonical_7 rfl rfl ?_
  refine mw_iconst (v := 0) dX7_writesCanonical_8 (by decide) ?_
  refine gm_put dX7_writesCanonical_9 fk_X7_84 (by decide) (gm_h18 _) ?_
  refine mw_iconst (v := 1) dX7_writesCanonical_12 (by decide) ?_
  refine mw_istore_3 dX7_writesCanonical_13 (by decide) ?_
  have h9 := lp_wt (M := M) (h := h) (I := I) hM0 31 0 (upd I 18 0) none none rfl (zScw.rf.up (by decide) _) rfl
  rw [show eL (canU A s L 0) = [] from rfl, wr_nil, up_same] at h9
  exact h9
end R7
