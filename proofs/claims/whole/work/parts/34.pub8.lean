/-! the reference: isOwn, isCanonical -/
def zO (M : Nat) (h : mw_H) (A : Nat → Nat → Int32) (I : Nat → Int32) (P : Prop) : mw_P := fun v h' => ∃ r : Int32, v = .inl (some (.int r)) ∧ (P → r = 1) ∧ (¬ P → r = 0) ∧ ∃ (I' g : Nat → Int32), h' = gm M h I' (va_up A 9 g) ∧ zScw I I'
def OWN (K : Nat → Nat → Int32) (s : Nat) (b : Nat → Nat) (e N p bf kn : Nat) : Prop := (prs b e N p).2.1 = 0 ∧ p + (eL (prs b e N p).1).length = e ∧ srt K s bf kn (prs b e N p).1
theorem OWN_step {K : Nat → Nat → Int32} {s : Nat} {b : Nat → Nat} (hb : ∀ j, b j < 256) {e N p bf kn : Nat} (hp : p < e) (h0 : (pf b e p).1 = 0) : OWN K s b e (N + 1) p bf kn ↔ ((p + (ef (mkf b (pf b e p))).length = (pf b e p).2.1 ∧ bf ≤ (mkf b (pf b e p)).1) ∧ (if bf < (mkf b (pf b e p)).1 then 0 else kn) + b1 (knb K s (mkf b (pf b e p))) < 2 ∧ (knb K s (mkf b (pf b e p)) = true → dfb K s (mkf b (pf b e p)).1 (mkf b (pf b e p)) = false) ∧ OWN K s b e N (pf b e p).2.1 (mkf b (pf b e p)).1 ((if bf < (mkf b (pf b e p)).1 then 0 else kn) + b1 (knb K s (mkf b (pf b e p))))) := by
  obtain ⟨o1, o2, o3, o4, -⟩ := pf_ok hb (Nat.le_of_lt hp) h0
  obtain ⟨i1, i2⟩ := prs_ok hb N (pf b e p).2.1 o4
  unfold OWN
  have hu : prs b e (N + 1) p = (mkf b (pf b e p) :: (prs b e N (pf b e p).2.1).1, (prs b e N (pf b e p).2.1).2) := by
    show (if e ≤ p then _ else if _ then _ else _) = _
    rw [if_neg (by omega), if_pos h0]
  rw [hu]
  generalize prs b e N (pf b e p).2.1 = r at *
  generalize mkf b (pf b e p) = x at *
  generalize (pf b e p).2.1 = q at *
  show (r.2.1 = 0 ∧ p + (eL (x :: r.1)).length = e ∧ (bf ≤ x.1 ∧ _ < 2 ∧ _ ∧ _)) ↔ _
  rw [eL_cons, List.length_append]
  constructor
  · rintro ⟨a1, a2, a3, a4, a5, a6⟩
    exact ⟨⟨by omega, a3⟩, a4, a5, a1, by omega, a6⟩
  · rintro ⟨⟨a2, a3⟩, a4, a5, a1, a7, a6⟩
    exact ⟨a1, by omega, a3, a4, a5, a6⟩
theorem OWN_end {K : Nat → Nat → Int32} {s : Nat} {b : Nat → Nat} {e N p bf kn : Nat} (hp : p = e) : OWN K s b e N p bf kn := by
  unfold OWN
  have hu : prs b e N p = ([], 0, 0) := by
    cases N with
    | zero => rfl
    | succ N =>
      show (if e ≤ p then _ else _) = _
      rw [if_pos (by omega)]
  rw [hu]
  exact ⟨rfl, hp, trivial⟩
theorem OWN_flt {K : Nat → Nat → Int32} {s : Nat} {b : Nat → Nat} {e N p bf kn : Nat} (hp : p < e) (h0 : (pf b e p).1 ≠ 0) : ¬ OWN K s b e (N + 1) p bf kn := by
  rintro ⟨a1, -⟩
  have hu : prs b e (N + 1) p = ([], (pf b e p).1, p) := by
    show (if e ≤ p then _ else if _ then _ else _) = _
    rw [if_neg (by omega), if_neg h0]
  rw [hu] at a1
  exact h0 a1
section P8
variable {M s : Nat} {h : mw_H} {g : mS} {I : Nat → Int32} {A : Nat → Nat → Int32}
theorem zO_I {I I1 : Nat → Int32} {P Q : Prop} (hS : zScw I I1) (hPQ : P ↔ Q) {v : Option Value ⊕ String} {h' : mw_H} (q : zO M h A I1 P v h') : zO M h A I Q v h' := by
  obtain ⟨r, q1, q2, q3, I', f, q4, q5⟩ := q
  exact ⟨r, q1, fun z => q2 (hPQ.mpr z), fun z => q3 (fun y => z (hPQ.mp y)), I', f, q4, hS.tr q5⟩
/-- once it isn't, it isn't -/
theorem own_0 {I f : Nat → Int32} {x1 x3 x4 x5 x6 : Option Value} {P : Prop} (hP : ¬ P) : mw_W mm_X7_isOwn 4 0 0 17 [some (.ref M), x1, some (.int 0), x3, x4, x5, x6] [] (gm M h I (va_up A 9 f)) (zO M h A I P) := by
  refine mw_aload_n (i := 0) dX7_isOwn_17 rfl rfl ?_
  refine mw_get dX7_isOwn_18 fk_X7_55 gm_0 rfl ?_
  refine mw_aload_n (i := 0) dX7_isOwn_21 rfl rfl ?_
  refine mw_get dX7_isOwn_22 fk_X7_204 gm_0 rfl ?_
  refine mw_icmp_ge (tgt := 245) dX7_isOwn_25 (by decide) (fun c_25 => ?_) (fun c_25 => ?_)
  · refine mw_iload_n (i := 2) dX7_isOwn_245 rfl rfl ?_
    exact mw_ireturn dX7_isOwn_246 ⟨_, rfl, rfl⟩ ⟨0, rfl, fun z => absurd z hP, fun _ => rfl, I, f, rfl, zScw.rf⟩
  · refine mw_iload_n (i := 2) dX7_isOwn_28 rfl rfl ?_
    refine mw_if_eq (tgt := 245) dX7_isOwn_29 (by decide) (fun _ => ?_) (fun c9 => absurd c9 (by first | decide | (rw [pk_us]; decide)))
    refine mw_iload_n (i := 2) dX7_isOwn_245 rfl rfl ?_
    exact mw_ireturn dX7_isOwn_246 ⟨_, rfl, rfl⟩ ⟨0, rfl, fun z => absurd z hP, fun _ => rfl, I, f, rfl, zScw.rf⟩
theorem lp_own (hs : s < 6) (hA : byt (A 8) 120) {e : Nat} (he : e ≤ 120) : ∀ (N p bf kn : Nat) (I f : Nat → Int32) (x5 x6 : Option Value), p ≤ e → e ≤ p + 2 * N → bf ≤ 31 → kn < 2 → I 9 = nI e → I 11 = nI p → I 18 = nI p →
    mw_W mm_X7_isOwn 4 0 0 17 [some (.ref M), some (.int (nI s)), some (.int 1), some (.int (nI bf)), some (.int (nI kn)), x5, x6] [] (gm M h I (va_up A 9 f)) (zO M h A I (OWN A s (bt (A 8)) e N p bf kn)) := by
  intro N
  induction N with
  | zero =>
    intro p bf kn I f x5 x6 hp hN hbf hkn h9 h11 h18
    refine mw_aload_n (i := 0) dX7_isOwn_17 rfl rfl ?_
    refine mw_get dX7_isOwn_18 fk_X7_55 gm_0 rfl ?_
    refine mw_aload_n (i := 0) dX7_isOwn_21 rfl rfl ?_
    refine mw_get dX7_isOwn_22 fk_X7_204 gm_0 rfl ?_
    refine mw_icmp_ge (tgt := 245) dX7_isOwn_25 (by decide) (fun _ => ?_) (fun c9 => absurd c9 (fun z => z (by rw [h9, h11]; exact nI_le (by omega) (by omega))))
    refine mw_iload_n (i := 2) dX7_isOwn_245 rfl rfl ?_
    exact mw_ireturn dX7_isOwn_246 ⟨_, rfl, rfl⟩ ⟨1, rfl, fun _ => rfl, fun z => absurd (OWN_end (by omega)) z, I, f, rfl, zScw.rf⟩
  | succ N ih =>
    intro p bf kn I f x5 x6 hp hN hbf hkn h9 h11 h18
    by_cases hpe : p = e
    · refine mw_aload_n (i := 0) dX7_isOwn_17 rfl rfl ?_
      refine mw_get dX7_isOwn_18 fk_X7_55 gm_0 rfl ?_
      refine mw_aload_n (i := 0) dX7_isOwn_21 rfl rfl ?_
      refine mw_get dX7_isOwn_22 fk_X7_204 gm_0 rfl ?_
      refine mw_icmp_ge (tgt := 245) dX7_isOwn_25 (by decide) (fun _ => ?_) (fun c9 => absurd c9 (fun z => z (by rw [h9, h11]; exact nI_le (by omega) (by omega))))
      refine mw_iload_n (i := 2) dX7_isOwn_245 rfl rfl ?_
      exact mw_ireturn dX7_isOwn_246 ⟨_, rfl, rfl⟩ ⟨1, rfl, fun _ => rfl, fun z => absurd (OWN_end (by omega)) z, I, f, rfl, zScw.rf⟩
    · have hplt : p < e := by omega
      have e8 : (va_up A 9 f) 8 = A 8 := va_up_ne _ _ (by decide)
      have hA' : byt ((va_up A 9 f) 8) 120 := by rw [e8]; exact hA
      have hf4 := pf_f (bt (A 8)) e p
      have hc := c_fieldy (M := M) (h := h) (I := I) (A := va_up A 9 f) (q := 8) (n := 120) (Or.inr ⟨rfl, rfl⟩) hA' hp he h11
      rw [e8] at hc
      refine mw_aload_n (i := 0) dX7_isOwn_17 rfl rfl ?_
      refine mw_get dX7_isOwn_18 fk_X7_55 gm_0 rfl ?_
      refine mw_aload_n (i := 0) dX7_isOwn_21 rfl rfl ?_
      refine mw_get dX7_isOwn_22 fk_X7_204 gm_0 rfl ?_
      refine mw_icmp_ge (tgt := 245) dX7_isOwn_25 (by decide) (fun c9 => absurd c9 (by rw [h9, h11]; exact nI_ge (by omega) (by omega))) (fun _ => ?_)
      refine mw_iload_n (i := 2) dX7_isOwn_28 rfl rfl ?_
      refine mw_if_eq (tgt := 245) dX7_isOwn_29 (by decide) (fun c9 => absurd c9 (by first | decide | (rw [pk_us]; decide))) (fun _ => ?_)
      refine mw_aload_n (i := 0) dX7_isOwn_32 rfl rfl ?_
      refine mw_aload_n (i := 0) dX7_isOwn_33 rfl rfl ?_
      refine mw_get dX7_isOwn_34 fk_X7_32 gm_0 rfl ?_
      refine mw_aload_n (i := 0) dX7_isOwn_37 rfl rfl ?_
      refine mw_get dX7_isOwn_38 fk_X7_204 gm_0 rfl ?_
      rw [h9]
      refine mw_callV dX7_isOwn_41 mk_X7_106 gm_0 rfl (hc) (by decide) (Nat.le_refl _) (Nat.le_refl _) rfl rfl (Nat.le_of_ble_eq_true rfl) (fun E9 h9 q9 => ?_) (fun v9 h9 q9 => ?_)
      · cases q9.1
      · obtain ⟨e9, I1, rfl, hS, r12, r17, hR⟩ := q9
        cases e9
        have k18 : I1 18 = nI p := (hS.k (by decide)).trans h18
        have k9 : I1 9 = nI e := (hS.k (by decide)).trans h9
        refine mw_aload_n (i := 0) dX7_isOwn_44 rfl rfl ?_
        refine mw_get dX7_isOwn_45 fk_X7_58 gm_0 rfl ?_
        rw [r12]
        by_cases h0 : (pf (bt (A 8)) e p).1 = 0
        · obtain ⟨r11, r13, r14, r15, r16⟩ := hR h0
          have hpf := pf_ok (bt_lt (A 8)) hp h0
          obtain ⟨o1, o2, o3, o4, o5⟩ := hpf
          have hstep := OWN_step (K := A) (s := s) (N := N) (bf := bf) (kn := kn) (bt_lt (A 8)) hplt h0
          have hwf := fun (I0 f0 : Nat → Int32) (z13 : I0 13 = _) (z14 : I0 14 = _) (z15 : I0 15 = _) (z16 : _ → I0 16 = _) (z18 : I0 18 = nI p) => c_wfy (M := M) (h := h) (I := I0) (A := A) (q := 8) (n := 120) (g := f0) (w := p) (Or.inr ⟨rfl, rfl⟩) hA hp he h0 z13 z14 z15 z16 z18 (by omega)
          have hwf1 := hwf I1 f r13 r14 r15 r16 k18
          rw [h0]
          clear hR hc hwf
          have hOq : ∀ bf' kn', OWN A s (bt (A 8)) e N (pf (bt (A 8)) e p).2.1 bf' kn' = OWN A s (bt (A 8)) e N (pf (bt (A 8)) e p).2.1 bf' kn' := fun _ _ => rfl
          have hih := fun bf' kn' I' f' x5' x6' => ih (pf (bt (A 8)) e p).2.1 bf' kn' I' f' x5' x6' o4 (by omega)
          generalize OWN A s (bt (A 8)) e (N + 1) p bf kn = G at *
          generalize mkf (bt (A 8)) (pf (bt (A 8)) e p) = x at *
          generalize (pf (bt (A 8)) e p).2.1 = q at *
          have hx31 := o1.2.1
          refine mw_if_ne (tgt := 55) dX7_isOwn_48 (by decide) (fun c9 => absurd c9 (fun z => z rfl)) (fun _ => ?_)
          refine mw_iconst (v := 1) dX7_isOwn_51 (by decide) ?_
          refine mw_goto (tgt := 56) dX7_isOwn_52 (by decide) ?_
          refine mw_istore_2 dX7_isOwn_56 (by decide) ?_
          refine mw_iload_n (i := 2) dX7_isOwn_57 rfl rfl ?_
          refine mw_if_eq (tgt := 17) dX7_isOwn_58 (by decide) (fun c9 => absurd c9 (by first | decide | (rw [pk_us]; decide))) (fun _ => ?_)
          refine mw_aload_n (i := 0) dX7_isOwn_61 rfl rfl ?_
          refine mw_get dX7_isOwn_62 fk_X7_84 gm_0 rfl ?_
          refine mw_istore_5 dX7_isOwn_65 (by decide) ?_
          refine mw_aload_n (i := 0) dX7_isOwn_67 rfl rfl ?_
          refine mw_aload_n (i := 0) dX7_isOwn_68 rfl rfl ?_
          refine mw_get dX7_isOwn_69 fk_X7_32 gm_0 rfl ?_
          refine mw_callVv dX7_isOwn_72 mk_X7_116 gm_0 rfl (hwf1) (by decide) (Nat.le_refl _) (Nat.le_refl _) rfl rfl (Nat.le_of_ble_eq_true rfl) ?_
          have hS2 : zScw I (upd I1 18 (nI (p + (ef x).length))) := hS.w.up (by decide) _
          have y18 : (upd I1 18 (nI (p + (ef x).length))) 18 = nI (p + (ef x).length) := pk_us
          have y9 : (upd I1 18 (nI (p + (ef x).length))) 9 = nI e := (pk_un (by decide)).trans k9
          have y11 : (upd I1 18 (nI (p + (ef x).length))) 11 = nI q := (pk_un (by decide)).trans r11
          have y13 : (upd I1 18 (nI (p + (ef x).length))) 13 = nI x.1 := (pk_un (by decide)).trans r13
          have y14 : (upd I1 18 (nI (p + (ef x).length))) 14 = nI x.2.1 := (pk_un (by decide)).trans r14
          have y15 : (upd I1 18 (nI (p + (ef x).length))) 15 = nI x.2.2.1 := (pk_un (by decide)).trans r15
          have y17 : (upd I1 18 (nI (p + (ef x).length))) 17 = nI p := (pk_un (by decide)).trans r17
          rw [k18]
          generalize upd I1 18 (nI (p + (ef x).length)) = I2 at *
          generalize wr f p (ef x) = f2 at *
          obtain ⟨kn2, hkn2⟩ : ∃ z, z = (if bf < x.1 then 0 else kn) + b1 (knb A s x) := ⟨_, rfl⟩
          rw [← hkn2] at hstep
          -- the end of the turn
          have J241 : ∀ (r : Int32) (a2 a5 a6 : Option Value), (r = 1 ∧ ((p + (ef x).length = q ∧ bf ≤ x.1) ∧ kn2 < 2 ∧ (knb A s x = true → dfb A s x.1 x = false))) ∨ (r = 0 ∧ ¬ ((p + (ef x).length = q ∧ bf ≤ x.1) ∧ kn2 < 2 ∧ (knb A s x = true → dfb A s x.1 x = false))) → mw_W mm_X7_isOwn 4 0 0 241 [some (.ref M), some (.int (nI s)), a2, some (.int (nI x.1)), some (.int (nI kn2)), a5, a6] [.int r] (gm M h I2 (va_up A 9 f2)) (zO M h A I G) := by
            intro r a2 a5 a6 hr
            rcases hr with ⟨rfl, h1, h2, h3⟩ | ⟨rfl, hn⟩
            · refine mw_istore_2 dX7_isOwn_241 (by decide) ?_
              refine mw_goto (tgt := 17) dX7_isOwn_242 (by decide) ?_
              refine mw_post (fun v h' z => ?_) (hih x.1 kn2 I2 f2 a5 a6 (by omega) h2 y9 y11 (by rw [y18, h1.1]))
              exact zO_I hS2 (hstep.trans ⟨fun z => z.2.2.2, fun z => ⟨h1, h2, h3, z⟩⟩).symm z
            · have hG : ¬ G := fun z => by
                have := hstep.mp z
                exact hn ⟨this.1, this.2.1, this.2.2.1⟩
              refine mw_istore_2 dX7_isOwn_241 (by decide) ?_
              refine mw_goto (tgt := 17) dX7_isOwn_242 (by decide) ?_
              refine mw_post (fun v h' z => ?_) (own_0 (M := M) (h := h) (A := A) (P := G) hG)
              exact zO_I hS2 Iff.rfl z
          -- behind isInt
          have J147 : ∀ (c ii : Int32) (a6 : Option Value), (c = 1 ∧ (p + (ef x).length = q ∧ bf ≤ x.1)) ∨ (c = 0 ∧ ¬ (p + (ef x).length = q ∧ bf ≤ x.1)) → (ii ≠ 0 ↔ zInt (zKind A s (nI x.1)) ≠ 0 ∧ knb A s x = true) → mw_W mm_X7_isOwn 4 0 0 147 [some (.ref M), some (.int (nI s)), some (.int c), some (.int (nI bf)), some (.int (nI kn)), some (.int (nI p)), a6] [.int ii] (gm M h I2 (va_up A 9 f2)) (zO M h A I G) := by
            intro c ii a6 hcc hii
            have hdf : ii = 0 → (knb A s x = true → dfb A s x.1 x = false) := fun z hk => by
              unfold dfb
              rw [decide_eq_false (fun y => (hii.mpr ⟨y, hk⟩) z), Bool.false_and]
            have J163 : ∀ k0 : Nat, k0 = (if bf < x.1 then 0 else kn) → mw_W mm_X7_isOwn 4 0 0 163 [some (.ref M), some (.int (nI s)), some (.int c), some (.int (nI bf)), some (.int (nI kn)), some (.int (nI p)), some (.int ii)] [.int (nI k0)] (gm M h I2 (va_up A 9 f2)) (zO M h A I G) := by
              intro k0 hk0
              refine mw_istore_4 dX7_isOwn_163 (by decide) ?_
              refine mw_aload_n (i := 0) dX7_isOwn_165 rfl rfl ?_
              refine mw_get dX7_isOwn_166 fk_X7_68 gm_0 rfl ?_
              refine mw_istore_3 dX7_isOwn_169 (by decide) ?_
              refine mw_iload (i := 4) dX7_isOwn_170 rfl ?_
              refine mw_aload_n (i := 0) dX7_isOwn_172 rfl rfl ?_
              refine mw_iload_n (i := 1) dX7_isOwn_173 rfl rfl ?_
              have J185 : ∀ d : Nat, d = b1 (knb A s x) → mw_W mm_X7_isOwn 4 0 0 185 [some (.ref M), some (.int (nI s)), some (.int c), some (.int (nI x.1)), some (.int (nI k0)), some (.int (nI p)), some (.int ii)] [.int (nI d), .int (nI k0)] (gm M h I2 (va_up A 9 f2)) (zO M h A I G) := by
                intro d hd
                have hk2 : k0 + d = kn2 := by rw [hkn2, ← hk0, ← hd]
                have hd1 : d ≤ 1 := by
                  rw [hd]; unfold b1; split
                  · exact Nat.le_refl _
                  · exact Nat.zero_le _
                have hk01 : k0 ≤ 1 := by rw [hk0]; split <;> omega
                refine mw_iadd dX7_isOwn_185 ?_
                rw [nI_add, hk2]
                refine mw_istore_4 dX7_isOwn_186 (by decide) ?_
                refine mw_iload_n (i := 2) dX7_isOwn_188 rfl rfl ?_
                rcases hcc with ⟨rfl, hc1⟩ | ⟨rfl, hc1⟩
                · refine mw_if_eq (tgt := 240) dX7_isOwn_189 (by decide) (fun c9 => absurd c9 (by first | decide | (rw [pk_us]; decide))) (fun _ => ?_)
                  refine mw_iload (i := 4) dX7_isOwn_192 rfl ?_
                  refine mw_iconst (v := 2) dX7_isOwn_194 (by decide) ?_
                  by_cases hk : kn2 < 2
                  · refine mw_icmp_ge (tgt := 240) dX7_isOwn_195 (by decide) (fun c9 => absurd c9 (show ¬ nI 2 ≤ nI kn2 from nI_ge hk (by omega))) (fun _ => ?_)
                    refine mw_iload (i := 6) dX7_isOwn_198 rfl ?_
                    by_cases hi0 : ii = 0
                    · refine mw_if_eq (tgt := 236) dX7_isOwn_200 (by decide) (fun _ => ?_) (fun c9 => absurd c9 (fun z => z hi0))
                      refine mw_iconst (v := 1) dX7_isOwn_236 (by decide) ?_
                      refine mw_goto (tgt := 241) dX7_isOwn_237 (by decide) ?_
                      exact J241 1 _ _ _ (Or.inl ⟨rfl, hc1, hk, hdf hi0⟩)
                    · obtain ⟨hz1, hz2⟩ := hii.mp hi0
                      refine mw_if_eq (tgt := 236) dX7_isOwn_200 (by decide) (fun c9 => absurd c9 hi0) (fun _ => ?_)
                      refine mw_aload_n (i := 0) dX7_isOwn_203 rfl rfl ?_
                      refine mw_iload_n (i := 1) dX7_isOwn_204 rfl rfl ?_
                      refine mw_aload_n (i := 0) dX7_isOwn_205 rfl rfl ?_
                      refine mw_get dX7_isOwn_206 fk_X7_68 gm_0 rfl ?_
                      rw [y13]
                      refine mw_callVr dX7_isOwn_209 mk_X7_98 gm_0 rfl (c_kind hs (nI x.1)) (by decide) (Nat.le_refl _) (Nat.le_refl _) rfl rfl (Nat.le_of_ble_eq_true rfl) ?_
                      refine mw_aload_n (i := 0) dX7_isOwn_212 rfl rfl ?_
                      refine mw_get dX7_isOwn_213 fk_X7_78 gm_0 rfl ?_
                      rw [y15]
                      refine mw_callSr dX7_isOwn_216 mk_X7_123 (c_standsFor (zKind A s (nI x.1)) (nI x.2.2.1)) (by decide) (Nat.le_refl _) (Nat.le_refl _) rfl rfl (Nat.le_of_ble_eq_true rfl) ?_
                      refine mw_aload_n (i := 0) dX7_isOwn_219 rfl rfl ?_
                      refine mw_get dX7_isOwn_220 fk_X7_16 gm_0 rfl ?_
                      refine mw_bipush (v := 32) dX7_isOwn_223 (by decide) ?_
                      refine mw_iload_n (i := 1) dX7_isOwn_225 rfl rfl ?_
                      refine mw_imul dX7_isOwn_226 ?_
                      refine mw_aload_n (i := 0) dX7_isOwn_227 rfl rfl ?_
                      refine mw_get dX7_isOwn_228 fk_X7_68 gm_0 rfl ?_
                      rw [y13]
                      refine mw_iadd dX7_isOwn_231 ?_
                      refine mw_iald dX7_isOwn_232 gm_3 (mw_ix (mx_32 s x.1) (show 32 * s + x.1 < 192 by omega) (by decide)) ?_
                      by_cases hdd : zStF (zKind A s (nI x.1)) (nI x.2.2.1) = A 3 (32 * s + x.1)
                      · refine mw_icmp_eq (tgt := 240) dX7_isOwn_233 (by decide) (fun _ => ?_) (fun c9 => absurd c9 (fun z => z hdd))
                        refine mw_iconst (v := 0) dX7_isOwn_240 (by decide) ?_
                        refine J241 0 _ _ _ (Or.inr ⟨rfl, fun z => ?_⟩)
                        have h3 := z.2.2 hz2
                        unfold dfb at h3
                        rw [decide_eq_true hz1, decide_eq_true hdd] at h3
                        exact absurd h3 (by decide)
                      · refine mw_icmp_eq (tgt := 240) dX7_isOwn_233 (by decide) (fun c9 => absurd c9 (fun z => hdd z)) (fun _ => ?_)
                        refine mw_iconst (v := 1) dX7_isOwn_236 (by decide) ?_
                        refine mw_goto (tgt := 241) dX7_isOwn_237 (by decide) ?_
                        refine J241 1 _ _ _ (Or.inl ⟨rfl, hc1, hk, fun _ => ?_⟩)
                        unfold dfb
                        rw [decide_eq_false hdd, Bool.and_false]
                  · refine mw_icmp_ge (tgt := 240) dX7_isOwn_195 (by decide) (fun _ => ?_) (fun c9 => absurd c9 (fun z => z (show nI 2 ≤ nI kn2 from nI_le (by omega) (by omega))))
                    refine mw_iconst (v := 0) dX7_isOwn_240 (by decide) ?_
                    exact J241 0 _ _ _ (Or.inr ⟨rfl, fun z => hk z.2.1⟩)
                · refine mw_if_eq (tgt := 240) dX7_isOwn_189 (by decide) (fun _ => ?_) (fun c9 => absurd c9 (by first | decide | (rw [pk_us]; decide)))
                  refine mw_iconst (v := 0) dX7_isOwn_240 (by decide) ?_
                  exact J241 0 _ _ _ (Or.inr ⟨rfl, fun z => hc1 z.1⟩)
              refine mw_callVr dX7_isOwn_174 mk_X7_110 gm_0 rfl (c_isKnown hs) (by decide) (Nat.le_refl _) (Nat.le_refl _) rfl rfl (Nat.le_of_ble_eq_true rfl) ?_
              rw [y13, y14]
              by_cases hkk : zKn A s (nI x.1) (nI x.2.1) = 0
              · refine mw_if_eq (tgt := 184) dX7_isOwn_177 (by decide) (fun _ => ?_) (fun c9 => absurd c9 (fun z => z hkk))
                refine mw_iconst (v := 0) dX7_isOwn_184 (by decide) ?_
                exact J185 0 (by unfold knb; rw [decide_eq_false (fun z => z hkk)]; rfl)
              · refine mw_if_eq (tgt := 184) dX7_isOwn_177 (by decide) (fun c9 => absurd c9 hkk) (fun _ => ?_)
                refine mw_iconst (v := 1) dX7_isOwn_180 (by decide) ?_
                refine mw_goto (tgt := 185) dX7_isOwn_181 (by decide) ?_
                exact J185 1 (by unfold knb; rw [decide_eq_true hkk]; rfl)
            refine mw_istore_6 dX7_isOwn_147 (by decide) ?_
            refine mw_aload_n (i := 0) dX7_isOwn_149 rfl rfl ?_
            refine mw_get dX7_isOwn_150 fk_X7_68 gm_0 rfl ?_
            refine mw_iload_n (i := 3) dX7_isOwn_153 rfl rfl ?_
            rw [y13]
            by_cases hb : bf < x.1
            · refine mw_icmp_le (tgt := 161) dX7_isOwn_154 (by decide) (fun c9 => absurd c9 (nI_ge hb (by omega))) (fun _ => ?_)
              refine mw_iconst (v := 0) dX7_isOwn_157 (by decide) ?_
              refine mw_goto (tgt := 163) dX7_isOwn_158 (by decide) ?_
              exact J163 0 (by rw [if_pos hb])
            · refine mw_icmp_le (tgt := 161) dX7_isOwn_154 (by decide) (fun _ => ?_) (fun c9 => absurd c9 (fun z => z (nI_le (by omega) (by omega))))
              refine mw_iload (i := 4) dX7_isOwn_161 rfl ?_
              exact J163 kn (by rw [if_neg hb])
          have J118 : ∀ (c : Int32), (c = 1 ∧ (p + (ef x).length = q ∧ bf ≤ x.1)) ∨ (c = 0 ∧ ¬ (p + (ef x).length = q ∧ bf ≤ x.1)) → mw_W mm_X7_isOwn 4 0 0 118 [some (.ref M), some (.int (nI s)), some (.int 1), some (.int (nI bf)), some (.int (nI kn)), some (.int (nI p)), x6] [.int c] (gm M h I2 (va_up A 9 f2)) (zO M h A I G) := by
            intro c hcc
            refine mw_istore_2 dX7_isOwn_118 (by decide) ?_
            refine mw_aload_n (i := 0) dX7_isOwn_119 rfl rfl ?_
            refine mw_iload_n (i := 1) dX7_isOwn_120 rfl rfl ?_
            refine mw_aload_n (i := 0) dX7_isOwn_121 rfl rfl ?_
            refine mw_get dX7_isOwn_122 fk_X7_68 gm_0 rfl ?_
            rw [y13]
            refine mw_callVr dX7_isOwn_125 mk_X7_98 gm_0 rfl (c_kind hs (nI x.1)) (by decide) (Nat.le_refl _) (Nat.le_refl _) rfl rfl (Nat.le_of_ble_eq_true rfl) ?_
            refine mw_callSr dX7_isOwn_128 mk_X7_120 (c_isInt (zKind A s (nI x.1))) (by decide) (Nat.le_refl _) (Nat.le_refl _) rfl rfl (Nat.le_of_ble_eq_true rfl) ?_
            by_cases hz : zInt (zKind A s (nI x.1)) = 0
            · refine mw_if_eq (tgt := 146) dX7_isOwn_131 (by decide) (fun _ => ?_) (fun c9 => absurd c9 (fun z => z hz))
              refine mw_iconst (v := 0) dX7_isOwn_146 (by decide) ?_
              exact J147 c 0 _ hcc ⟨fun z => absurd rfl z, fun z => absurd hz z.1⟩
            · refine mw_if_eq (tgt := 146) dX7_isOwn_131 (by decide) (fun c9 => absurd c9 hz) (fun _ => ?_)
              refine mw_aload_n (i := 0) dX7_isOwn_134 rfl rfl ?_
              refine mw_iload_n (i := 1) dX7_isOwn_135 rfl rfl ?_
              refine mw_callVr dX7_isOwn_136 mk_X7_110 gm_0 rfl (c_isKnown hs) (by decide) (Nat.le_refl _) (Nat.le_refl _) rfl rfl (Nat.le_of_ble_eq_true rfl) ?_
              rw [y13, y14]
              by_cases hkk : zKn A s (nI x.1) (nI x.2.1) = 0
              · refine mw_if_eq (tgt := 146) dX7_isOwn_139 (by decide) (fun _ => ?_) (fun c9 => absurd c9 (fun z => z hkk))
                refine mw_iconst (v := 0) dX7_isOwn_146 (by decide) ?_
                exact J147 c 0 _ hcc ⟨fun z => absurd rfl z, fun z => absurd hkk (of_decide_eq_true z.2)⟩
              · refine mw_if_eq (tgt := 146) dX7_isOwn_139 (by decide) (fun c9 => absurd c9 hkk) (fun _ => ?_)
                refine mw_iconst (v := 1) dX7_isOwn_142 (by decide) ?_
                refine mw_goto (tgt := 147) dX7_isOwn_143 (by decide) ?_
                exact J147 c 1 _ hcc ⟨fun _ => ⟨hz, decide_eq_true hkk⟩, fun _ => by decide⟩
          refine mw_aload_n (i := 0) dX7_isOwn_75 rfl rfl ?_
          refine mw_get dX7_isOwn_76 fk_X7_84 gm_0 rfl ?_
          refine mw_aload_n (i := 0) dX7_isOwn_79 rfl rfl ?_
          refine mw_get dX7_isOwn_80 fk_X7_55 gm_0 rfl ?_
          rw [y18, y11]
          by_cases hq : p + (ef x).length = q
          · refine mw_icmp_ne (tgt := 117) dX7_isOwn_83 (by decide) (fun c9 => absurd c9 (fun z => z (by rw [hq]))) (fun _ => ?_)
            refine mw_aload_n (i := 0) dX7_isOwn_86 rfl rfl ?_
            refine mw_get dX7_isOwn_87 fk_X7_84 gm_0 rfl ?_
            refine mw_iload (i := 5) dX7_isOwn_90 rfl ?_
            refine mw_isub dX7_isOwn_92 ?_
            refine mw_aload_n (i := 0) dX7_isOwn_93 rfl rfl ?_
            refine mw_get dX7_isOwn_94 fk_X7_55 gm_0 rfl ?_
            refine mw_aload_n (i := 0) dX7_isOwn_97 rfl rfl ?_
            refine mw_get dX7_isOwn_98 fk_X7_61 gm_0 rfl ?_
            refine mw_isub dX7_isOwn_101 ?_
            rw [y18, y11, y17, pk_sub (by omega), pk_sub (by omega)]
            refine mw_icmp_ne (tgt := 117) dX7_isOwn_102 (by decide) (fun c9 => absurd c9 (fun z => z (by rw [hq]))) (fun _ => ?_)
            refine mw_aload_n (i := 0) dX7_isOwn_105 rfl rfl ?_
            refine mw_get dX7_isOwn_106 fk_X7_68 gm_0 rfl ?_
            refine mw_iload_n (i := 3) dX7_isOwn_109 rfl rfl ?_
            rw [y13]
            by_cases hb : bf ≤ x.1
            · refine mw_icmp_lt (tgt := 117) dX7_isOwn_110 (by decide) (fun c9 => absurd c9 (nI_nlt hb (by omega))) (fun _ => ?_)
              refine mw_iconst (v := 1) dX7_isOwn_113 (by decide) ?_
              refine mw_goto (tgt := 118) dX7_isOwn_114 (by decide) ?_
              exact J118 1 (Or.inl ⟨rfl, hq, hb⟩)
            · refine mw_icmp_lt (tgt := 117) dX7_isOwn_110 (by decide) (fun _ => ?_) (fun c9 => absurd c9 (fun z => z (nI_lt (by omega) (by omega))))
              refine mw_iconst (v := 0) dX7_isOwn_117 (by decide) ?_
              exact J118 0 (Or.inr ⟨rfl, fun z => hb z.2⟩)
          · refine mw_icmp_ne (tgt := 117) dX7_isOwn_83 (by decide) (fun _ => ?_) (fun c9 => absurd c9 (fun z => hq (by rw [nI_eq (by omega) (by omega)] at z; exact z)))
            refine mw_iconst (v := 0) dX7_isOwn_117 (by decide) ?_
            exact J118 0 (Or.inr ⟨rfl, fun z => hq z.1⟩)
        · have hn := OWN_flt (K := A) (s := s) (N := N) (bf := bf) (kn := kn) hplt h0
          refine mw_if_ne (tgt := 55) dX7_isOwn_48 (by decide) (fun _ => ?_) (fun c9 => absurd c9 (fun z => h0 (by rw [show (0 : Int32) = nI 0 from rfl, nI_eq (by omega) (by omega)] at z; exact z)))
          refine mw_iconst (v := 0) dX7_isOwn_55 (by decide) ?_
          refine mw_istore_2 dX7_isOwn_56 (by decide) ?_
          refine mw_iload_n (i := 2) dX7_isOwn_57 rfl rfl ?_
          refine mw_if_eq (tgt := 17) dX7_isOwn_58 (by decide) (fun _ => ?_) (fun c9 => absurd c9 (by first | decide | (rw [pk_us]; decide)))
          refine mw_post (fun v h' z => ?_) (own_0 (M := M) (h := h) (A := A) (P := OWN A s (bt (A 8)) e (N + 1) p bf kn) hn)
          exact zO_I hS.w Iff.rfl z
theorem srt_cong {A K : Nat → Nat → Int32} (h : A 1 = K 1) (h3 : A 3 = K 3) {s : Nat} : ∀ (L : List af) (bf kn : Nat), srt A s bf kn L ↔ srt K s bf kn L
  | [], _, _ => Iff.rfl
  | x :: L, bf, kn => by
    show (bf ≤ x.1 ∧ _ ∧ _ ∧ srt A s _ _ L) ↔ (bf ≤ x.1 ∧ _ ∧ _ ∧ srt K s _ _ L)
    rw [knb_cong h, dfb_cong h h3, srt_cong h h3 L]
theorem r_isCanonical (hr : rR g I A) (s : Int32) : mw_Con mm_X7_isCanonical 5 0 0 [.ref M, .int s] (gm M h I A) (rP M h (sp_isCanonical g s)) := by
  have hown : ∀ j, j < g.1 → ∀ I0 : Nat → Int32, I0 9 = I 9 → mw_Con mm_X7_isOwn 4 0 0 [.ref M, .int (nI j)] (gm M h I0 A) (zO M h A I0 ((prsL g.2.2.2).2.1 = 0 ∧ eL (can g.2.1 j (prsL g.2.2.2).1) = g.2.2.2)) := by
    intro j hj I0 h09
    have h6 := rR_ns hr
    have hl := hr.1.2.2.2.2.1
    have hY := hr.1.2.2.2.2.2
    have hrow := hr.2.2.2.2.2.2.2.2.2
    have hp := prs_row hrow hY
    rw [Nat.zero_add, Nat.zero_add] at hp
    refine gm_con pl_X7 rfl rfl (Nat.le_of_ble_eq_true rfl) rfl ?_
    refine mw_iconst (v := 1) dX7_isOwn_0 (by decide) ?_
    refine mw_istore_2 dX7_isOwn_1 (by decide) ?_
    refine mw_iconst (v := 0) dX7_isOwn_2 (by decide) ?_
    refine mw_istore_3 dX7_isOwn_3 (by decide) ?_
    refine mw_iconst (v := 0) dX7_isOwn_4 (by decide) ?_
    refine mw_istore_4 dX7_isOwn_5 (by decide) ?_
    refine mw_aload_n (i := 0) dX7_isOwn_7 rfl rfl ?_
    refine mw_iconst (v := 0) dX7_isOwn_8 (by decide) ?_
    refine gm_put dX7_isOwn_9 fk_X7_55 (by decide) (gm_h11 _) ?_
    refine mw_aload_n (i := 0) dX7_isOwn_12 rfl rfl ?_
    refine mw_iconst (v := 0) dX7_isOwn_13 (by decide) ?_
    refine gm_put dX7_isOwn_14 fk_X7_84 (by decide) (gm_h18 _) ?_
    have h9 := lp_own (M := M) (s := j) (h := h) (A := A) (by omega) hr.2.2.2.2.2.2.2.1 (e := g.2.2.2.length) hl 60 0 0 0 (upd (upd I0 11 0) 18 0) (A 9) none none (Nat.zero_le _) (by omega) (by omega) (by omega) ((pk_un (by decide)).trans ((pk_un (by decide)).trans (h09.trans hr.2.2.2.2.2.2.2.2.1))) rfl rfl
    rw [up_same] at h9
    refine mw_post (fun v h' z => ?_) h9
    refine zO_I ((zScw.rf.up (by decide) _).up (by decide) _) ?_ z
    unfold OWN
    rw [hp, Nat.zero_add]
    dsimp only
    constructor
    · rintro ⟨a1, a2, a3⟩
      exact ⟨a1, (own_iff hY hl a1).mpr ⟨a2, (srt_cong hr.2.2.1 hr.2.2.2.2.1 _ _ _).mp a3⟩⟩
    · rintro ⟨a1, a2⟩
      obtain ⟨b1, b2⟩ := (own_iff hY hl a1).mp a2
      exact ⟨a1, b1, (srt_cong hr.2.2.1 hr.2.2.2.2.1 _ _ _).mpr b2⟩
  refine gm_con pl_X7 rfl rfl (Nat.le_of_ble_eq_true rfl) rfl ?_
  unfold sp_isCanonical
  cases hs : sS g s with
  | none =>
    refine mw_aload_n (i := 0) dX7_isCanonical_0 rfl rfl ?_
    refine mw_aload_n (i := 0) dX7_isCanonical_1 rfl rfl ?_
    refine mw_iload_n (i := 1) dX7_isCanonical_2 rfl rfl ?_
    refine mw_callVr dX7_isCanonical_3 mk_X7_136 gm_0 rfl (c_S0 hr hs) (by decide) (Nat.le_refl _) (Nat.le_refl _) rfl rfl (Nat.le_of_ble_eq_true rfl) ?_
    refine mw_if_eq (tgt := 13) dX7_isCanonical_6 (by decide) (fun _ => ?_) (fun c9 => absurd c9 (by first | decide | (rw [pk_us]; decide)))
    refine mw_iconst (v := 1) dX7_isCanonical_13 (by decide) ?_
    refine gm_put dX7_isCanonical_14 fk_X7_44 (by decide) (gm_h0 _) ?_
    refine mw_aload_n (i := 0) dX7_isCanonical_17 rfl rfl ?_
    refine mw_get dX7_isCanonical_18 fk_X7_44 gm_0 rfl ?_
    refine mw_if_ne (tgt := 36) dX7_isCanonical_21 (by decide) (fun _ => ?_) (fun c9 => absurd c9 (by first | decide | (rw [pk_us]; decide)))
    refine mw_iconst (v := 0) dX7_isCanonical_36 (by decide) ?_
    exact mw_ireturn dX7_isCanonical_37 ⟨_, rfl, rfl⟩ (rP_I hr rfl rfl rfl)
  | some j =>
    obtain ⟨hj, rfl⟩ := sS_in (rR_ns hr) hs
    dsimp only
    have hc := hown j hj (upd I 0 0) rfl
    refine mw_aload_n (i := 0) dX7_isCanonical_0 rfl rfl ?_
    refine mw_aload_n (i := 0) dX7_isCanonical_1 rfl rfl ?_
    refine mw_iload_n (i := 1) dX7_isCanonical_2 rfl rfl ?_
    refine mw_callVr dX7_isCanonical_3 mk_X7_136 gm_0 rfl (c_S1 hr hs) (by decide) (Nat.le_refl _) (Nat.le_refl _) rfl rfl (Nat.le_of_ble_eq_true rfl) ?_
    refine mw_if_eq (tgt := 13) dX7_isCanonical_6 (by decide) (fun c9 => absurd c9 (by first | decide | (rw [pk_us]; decide))) (fun _ => ?_)
    refine mw_iconst (v := 0) dX7_isCanonical_9 (by decide) ?_
    refine mw_goto (tgt := 14) dX7_isCanonical_10 (by decide) ?_
    refine gm_put dX7_isCanonical_14 fk_X7_44 (by decide) (gm_h0 _) ?_
    refine mw_aload_n (i := 0) dX7_isCanonical_17 rfl rfl ?_
    refine mw_get dX7_isCanonical_18 fk_X7_44 gm_0 rfl ?_
    refine mw_if_ne (tgt := 36) dX7_isCanonical_21 (by decide) (fun c9 => absurd c9 (fun z => z rfl)) (fun _ => ?_)
    refine mw_aload_n (i := 0) dX7_isCanonical_24 rfl rfl ?_
    refine mw_iload_n (i := 1) dX7_isCanonical_25 rfl rfl ?_
    refine mw_callV dX7_isCanonical_26 mk_X7_207 gm_0 rfl (hc) (by decide) (Nat.le_refl _) (Nat.le_refl _) rfl rfl (Nat.le_of_ble_eq_true rfl) (fun E9 h9 q9 => ?_) (fun v9 h9 q9 => ?_)
    · obtain ⟨r, q1, -⟩ := q9
      cases q1
    · obtain ⟨r, q1, q2, q3, I', f, rfl, hS⟩ := q9
      cases q1
      have hr1 : rR g I' (va_up A 9 f) := rR_scr hr (fun j _ h8 => va_up_ne _ _ (by omega)) ((hS 1 (by decide)).trans rfl) ((hS 9 (by decide)).trans rfl)
      by_cases hP : (prsL g.2.2.2).2.1 = 0 ∧ eL (can g.2.1 j (prsL g.2.2.2).1) = g.2.2.2
      · rw [if_pos hP, q2 hP]
        refine mw_if_eq (tgt := 36) dX7_isCanonical_29 (by decide) (fun c9 => absurd c9 (by first | decide | (rw [pk_us]; decide))) (fun _ => ?_)
        refine mw_iconst (v := 1) dX7_isCanonical_32 (by decide) ?_
        refine mw_goto (tgt := 37) dX7_isCanonical_33 (by decide) ?_
        exact mw_ireturn dX7_isCanonical_37 ⟨_, rfl, rfl⟩ (rP_I hr1 ((hS 0 (by decide)).trans rfl) rfl rfl)
      · rw [if_neg hP, q3 hP]
        refine mw_if_eq (tgt := 36) dX7_isCanonical_29 (by decide) (fun _ => ?_) (fun c9 => absurd c9 (by first | decide | (rw [pk_us]; decide)))
        refine mw_iconst (v := 0) dX7_isCanonical_36 (by decide) ?_
        exact mw_ireturn dX7_isCanonical_37 ⟨_, rfl, rfl⟩ (rP_I hr1 ((hS 0 (by decide)).trans rfl) rfl rfl)
end P8
