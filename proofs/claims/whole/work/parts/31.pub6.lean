/-! the reference's calls: clear, unknownTag, write, areSame, append, setPart -/
section P6
variable {M m s : Nat} {h : mw_H} {g : mS} {I : Nat → Int32} {A : Nat → Nat → Int32}
theorem lp_cl (hm : m < 12) (hA : byt (A 7) 1440) {E : Nat} (h6 : 120 * nI m + A 6 m = nI E) (hE : E ≤ 1440) (t : Int32) {Po : mw_P} : ∀ (L : List af) (p w n : Nat) (I f : Nat → Int32), (∀ x ∈ L, okf x) → rowAt (bt (A 7)) p (eL L) → p + (eL L).length = E → I 11 = nI p → I 18 = nI w → w + (eL L).length ≤ 300 →
    (∀ I' : Nat → Int32, zScw I I' → I' 18 = nI (w + (eL (L.filter (fun x => !decide (nI x.1 = t)))).length) → mw_W mm_X7_clear 4 0 0 114 [some (.ref M), some (.int (nI m)), some (.int t), some (.int (nI (n + (L.filter (fun x => decide (nI x.1 = t))).length)))] [] (gm M h I' (va_up A 9 (wr f w (eL (L.filter (fun x => !decide (nI x.1 = t))))))) Po) →
    mw_W mm_X7_clear 4 0 0 52 [some (.ref M), some (.int (nI m)), some (.int t), some (.int (nI n))] [] (gm M h I (va_up A 9 f)) Po := by
  intro L
  induction L with
  | nil =>
    intro p w n I f _ _ hp hI h18 _ K
    have hp : p + 0 = E := hp
    have K' := K I zScw.rf h18
    rw [show eL (([] : List af).filter (fun x => !decide (nI x.1 = t))) = [] from rfl, wr_nil] at K'
    refine mw_aload_n (i := 0) dX7_clear_52 rfl rfl ?_
    refine mw_get dX7_clear_53 fk_X7_55 gm_0 rfl ?_
    refine mw_bipush (v := 120) dX7_clear_56 (by decide) ?_
    refine mw_iload_n (i := 1) dX7_clear_58 rfl rfl ?_
    refine mw_imul dX7_clear_59 ?_
    refine mw_aload_n (i := 0) dX7_clear_60 rfl rfl ?_
    refine mw_get dX7_clear_61 fk_X7_26 gm_0 rfl ?_
    refine mw_iload_n (i := 1) dX7_clear_64 rfl rfl ?_
    refine mw_iald dX7_clear_65 gm_6 (mw_ix rfl hm (by decide)) ?_
    refine mw_iadd dX7_clear_66 ?_
    refine mw_top (v := nI E) h6 ?_
    refine mw_icmp_ge (tgt := 114) dX7_clear_67 (by decide) (fun _ => ?_) (fun c9 => absurd c9 (fun z => z (by rw [hI]; exact nI_le (by omega) (by omega))))
    exact K'
  | cons x L ih =>
    intro p w n I f hok hrow hp hI h18 hw K
    rw [eL_cons] at hrow hp hw
    rw [List.length_append] at hp hw
    rw [rowAt_app] at hrow
    have hl2 := ef_len2 x
    have hA' : byt ((va_up A 9 f) 7) 1440 := hA
    have hrow' : rowAt (bt ((va_up A 9 f) 7)) p (ef x) := hrow.1
    have hx := hok x List.mem_cons_self
    refine mw_aload_n (i := 0) dX7_clear_52 rfl rfl ?_
    refine mw_get dX7_clear_53 fk_X7_55 gm_0 rfl ?_
    refine mw_bipush (v := 120) dX7_clear_56 (by decide) ?_
    refine mw_iload_n (i := 1) dX7_clear_58 rfl rfl ?_
    refine mw_imul dX7_clear_59 ?_
    refine mw_aload_n (i := 0) dX7_clear_60 rfl rfl ?_
    refine mw_get dX7_clear_61 fk_X7_26 gm_0 rfl ?_
    refine mw_iload_n (i := 1) dX7_clear_64 rfl rfl ?_
    refine mw_iald dX7_clear_65 gm_6 (mw_ix rfl hm (by decide)) ?_
    refine mw_iadd dX7_clear_66 ?_
    refine mw_top (v := nI E) h6 ?_
    refine mw_icmp_ge (tgt := 114) dX7_clear_67 (by decide) (fun c9 => absurd c9 (by rw [hI]; exact nI_ge (by omega) (by omega))) (fun _ => ?_)
    refine mw_aload_n (i := 0) dX7_clear_70 rfl rfl ?_
    refine mw_aload_n (i := 0) dX7_clear_71 rfl rfl ?_
    refine mw_get dX7_clear_72 fk_X7_29 gm_0 rfl ?_
    refine mw_bipush (v := 120) dX7_clear_75 (by decide) ?_
    refine mw_iload_n (i := 1) dX7_clear_77 rfl rfl ?_
    refine mw_imul dX7_clear_78 ?_
    refine mw_aload_n (i := 0) dX7_clear_79 rfl rfl ?_
    refine mw_get dX7_clear_80 fk_X7_26 gm_0 rfl ?_
    refine mw_iload_n (i := 1) dX7_clear_83 rfl rfl ?_
    refine mw_iald dX7_clear_84 gm_6 (mw_ix rfl hm (by decide)) ?_
    refine mw_iadd dX7_clear_85 ?_
    refine mw_top (v := nI E) h6 ?_
    refine mw_callV dX7_clear_86 mk_X7_106 gm_0 rfl (c_fieldx hA' hx hrow' (by omega) hE hI) (by decide) (Nat.le_refl _) (Nat.le_refl _) rfl rfl (Nat.le_of_ble_eq_true rfl) (fun E9 h9 q9 => ?_) (fun v9 h9 q9 => ?_)
    · cases q9.1
    · obtain ⟨e9, I1, rfl, hS, hR⟩ := q9
      cases e9
      have k18 : I1 18 = nI w := (hS.k (by decide)).trans h18
      have r11 := hR.1
      have r13 := hR.2.2.1
      refine mw_aload_n (i := 0) dX7_clear_89 rfl rfl ?_
      refine mw_get dX7_clear_90 fk_X7_68 gm_0 rfl ?_
      refine mw_iload_n (i := 2) dX7_clear_93 rfl rfl ?_
      rw [r13]
      by_cases e : nI x.1 = t
      · rw [List.filter_cons, List.filter_cons, if_neg (by rw [decide_eq_true e]; decide), if_pos (decide_eq_true e)] at K
        refine mw_icmp_ne (tgt := 103) dX7_clear_94 (by decide) (fun c9 => absurd c9 (fun z => z e)) (fun _ => ?_)
        refine mw_iinc_3 dX7_clear_97 (by decide) rfl ?_
        refine mw_goto (tgt := 52) dX7_clear_100 (by decide) ?_
        rw [show nI n + Int32.ofInt 1 = nI (n + 1) from nI_1 n]
        refine ih (p + (ef x).length) w (n + 1) I1 f (fun z hz => hok z (List.mem_cons_of_mem _ hz)) hrow.2 (by omega) r11 k18 (by omega) (fun I' z1 z2 => ?_)
        have K' := K I' (hS.w.tr z1) z2
        rw [List.length_cons, ← Nat.add_assoc, Nat.add_right_comm] at K'
        exact K'
      · rw [List.filter_cons, List.filter_cons, if_pos (by rw [decide_eq_false e]; rfl), if_neg (by rw [decide_eq_false e]; decide), eL_cons] at K
        refine mw_icmp_ne (tgt := 103) dX7_clear_94 (by decide) (fun _ => ?_) (fun c9 => absurd c9 (fun z => e z))
        refine mw_aload_n (i := 0) dX7_clear_103 rfl rfl ?_
        refine mw_aload_n (i := 0) dX7_clear_104 rfl rfl ?_
        refine mw_get dX7_clear_105 fk_X7_29 gm_0 rfl ?_
        refine mw_callVv dX7_clear_108 mk_X7_116 gm_0 rfl (c_wfx (q := 7) (Or.inl ⟨rfl, rfl⟩) hA hx hrow.1 (by omega) hR k18 (by omega)) (by decide) (Nat.le_refl _) (Nat.le_refl _) rfl rfl (Nat.le_of_ble_eq_true rfl) ?_
        refine mw_goto (tgt := 52) dX7_clear_111 (by decide) ?_
        refine ih (p + (ef x).length) (w + (ef x).length) n (upd I1 18 (nI (w + (ef x).length))) (wr f w (ef x)) (fun z hz => hok z (List.mem_cons_of_mem _ hz)) hrow.2 (by omega) ((pk_un (by decide)).trans r11) pk_us (by omega) (fun I' z1 z2 => ?_)
        have K' := K I' ((hS.w.up (by decide) _).tr z1) (by rw [z2, List.length_append, Nat.add_assoc])
        rw [← wr_app] at K'
        exact K'
theorem r_clear (hr : rR g I A) (m t : Int32) : mw_Con mm_X7_clear 4 0 0 [.ref M, .int m, .int t] (gm M h I A) (rP M h (sp_clear g m t)) := by
  refine gm_con pl_X7 rfl rfl (Nat.le_of_ble_eq_true rfl) rfl ?_
  unfold sp_clear
  cases hm : sM g m with
  | none =>
    refine mw_aload_n (i := 0) dX7_clear_0 rfl rfl ?_
    refine mw_aload_n (i := 0) dX7_clear_1 rfl rfl ?_
    refine mw_iload_n (i := 1) dX7_clear_2 rfl rfl ?_
    refine mw_callVr dX7_clear_3 mk_X7_156 gm_0 rfl (c_M0 hr hm) (by decide) (Nat.le_refl _) (Nat.le_refl _) rfl rfl (Nat.le_of_ble_eq_true rfl) ?_
    refine mw_if_ne (tgt := 13) dX7_clear_6 (by decide) (fun c9 => absurd c9 (by first | decide | (rw [pk_us]; decide))) (fun _ => ?_)
    refine mw_iconst (v := 1) dX7_clear_9 (by decide) ?_
    refine mw_goto (tgt := 25) dX7_clear_10 (by decide) ?_
    refine gm_put dX7_clear_25 fk_X7_44 (by decide) (gm_h0 _) ?_
    refine mw_aload_n (i := 0) dX7_clear_28 rfl rfl ?_
    refine mw_get dX7_clear_29 fk_X7_44 gm_0 rfl ?_
    refine mw_if_le (tgt := 37) dX7_clear_32 (by decide) (fun c9 => absurd c9 (by first | decide | (rw [pk_us]; decide))) (fun _ => ?_)
    refine mw_iconst (v := 0) dX7_clear_35 (by decide) ?_
    exact mw_ireturn dX7_clear_36 ⟨_, rfl, rfl⟩ (rP_I hr rfl rfl rfl)
  | some q =>
    obtain ⟨m, s, L⟩ := q
    obtain ⟨h12, rfl, hT⟩ := sM_in hm
    have hM := rR_mes hr h12 hT
    dsimp only
    by_cases ht : zTag t = 0
    · rw [if_pos ht]
      refine mw_aload_n (i := 0) dX7_clear_0 rfl rfl ?_
      refine mw_aload_n (i := 0) dX7_clear_1 rfl rfl ?_
      refine mw_iload_n (i := 1) dX7_clear_2 rfl rfl ?_
      refine mw_callVr dX7_clear_3 mk_X7_156 gm_0 rfl (c_M1 hr hm) (by decide) (Nat.le_refl _) (Nat.le_refl _) rfl rfl (Nat.le_of_ble_eq_true rfl) ?_
      refine mw_if_ne (tgt := 13) dX7_clear_6 (by decide) (fun _ => ?_) (fun c9 => absurd c9 (by first | decide | (rw [pk_us]; decide)))
      refine mw_iload_n (i := 2) dX7_clear_13 rfl rfl ?_
      refine mw_callSr dX7_clear_14 mk_X7_74 (c_T0 ht) (by decide) (Nat.le_refl _) (Nat.le_refl _) rfl rfl (Nat.le_of_ble_eq_true rfl) ?_
      refine mw_if_eq (tgt := 24) dX7_clear_17 (by decide) (fun _ => ?_) (fun c9 => absurd c9 (by first | decide | (rw [pk_us]; decide)))
      refine mw_iconst (v := 2) dX7_clear_24 (by decide) ?_
      refine gm_put dX7_clear_25 fk_X7_44 (by decide) (gm_h0 _) ?_
      refine mw_aload_n (i := 0) dX7_clear_28 rfl rfl ?_
      refine mw_get dX7_clear_29 fk_X7_44 gm_0 rfl ?_
      refine mw_if_le (tgt := 37) dX7_clear_32 (by decide) (fun c9 => absurd c9 (by first | decide | (rw [pk_us]; decide))) (fun _ => ?_)
      refine mw_iconst (v := 0) dX7_clear_35 (by decide) ?_
      exact mw_ireturn dX7_clear_36 ⟨_, rfl, rfl⟩ (rP_I hr rfl rfl rfl)
    · rw [if_neg ht]
      obtain ⟨hm, hs, h5, hok, hlen, h6, hrow, hA⟩ := hM
      refine mw_aload_n (i := 0) dX7_clear_0 rfl rfl ?_
      refine mw_aload_n (i := 0) dX7_clear_1 rfl rfl ?_
      refine mw_iload_n (i := 1) dX7_clear_2 rfl rfl ?_
      refine mw_callVr dX7_clear_3 mk_X7_156 gm_0 rfl (c_M1 hr ‹_›) (by decide) (Nat.le_refl _) (Nat.le_refl _) rfl rfl (Nat.le_of_ble_eq_true rfl) ?_
      refine mw_if_ne (tgt := 13) dX7_clear_6 (by decide) (fun _ => ?_) (fun c9 => absurd c9 (by first | decide | (rw [pk_us]; decide)))
      refine mw_iload_n (i := 2) dX7_clear_13 rfl rfl ?_
      refine mw_callSr dX7_clear_14 mk_X7_74 (c_T1 ht) (by decide) (Nat.le_refl _) (Nat.le_refl _) rfl rfl (Nat.le_of_ble_eq_true rfl) ?_
      refine mw_if_eq (tgt := 24) dX7_clear_17 (by decide) (fun c9 => absurd c9 (by first | decide | (rw [pk_us]; decide))) (fun _ => ?_)
      refine mw_iconst (v := 0) dX7_clear_20 (by decide) ?_
      refine mw_goto (tgt := 25) dX7_clear_21 (by decide) ?_
      refine gm_put dX7_clear_25 fk_X7_44 (by decide) (gm_h0 _) ?_
      refine mw_aload_n (i := 0) dX7_clear_28 rfl rfl ?_
      refine mw_get dX7_clear_29 fk_X7_44 gm_0 rfl ?_
      refine mw_if_le (tgt := 37) dX7_clear_32 (by decide) (fun _ => ?_) (fun c9 => absurd c9 (by first | decide | (rw [pk_us]; decide)))
      refine mw_iconst (v := 0) dX7_clear_37 (by decide) ?_
      refine mw_istore_3 dX7_clear_38 (by decide) ?_
      refine mw_aload_n (i := 0) dX7_clear_39 rfl rfl ?_
      refine mw_iconst (v := 0) dX7_clear_40 (by decide) ?_
      refine gm_put dX7_clear_41 fk_X7_84 (by decide) (gm_h18 _) ?_
      refine mw_aload_n (i := 0) dX7_clear_44 rfl rfl ?_
      refine mw_bipush (v := 120) dX7_clear_45 (by decide) ?_
      refine mw_iload_n (i := 1) dX7_clear_47 rfl rfl ?_
      refine mw_imul dX7_clear_48 ?_
      refine gm_put dX7_clear_49 fk_X7_55 (by decide) (gm_h11 _) ?_
      have hokL : ∀ x ∈ L.filter (fun x => !decide (nI x.1 = t)), okf x := fun x hx => hok x (List.mem_filter.mp hx).1
      have hfl := fil_le (fun x => !decide (nI x.1 = t)) L
      have h9 := lp_cl (M := M) (h := h) (A := A) hm hA (E := 120 * m + (eL L).length) (by rw [h6]; exact mx_120 _ _) (by omega) t (Po := rP M h (0, nI (L.filter (fun x => decide (nI x.1 = t))).length, gSet g m s (L.filter (fun x => !decide (nI x.1 = t))))) L (120 * m) 0 0 (upd (upd (upd I 0 0) 18 0) 11 (120 * nI m)) (A 9) hok hrow rfl (by rw [pk_us]; exact mx_120m m) rfl (by omega) ?_
      · rw [up_same] at h9
        exact h9
      · intro I' z1 z2
        rw [Nat.zero_add] at z2
        rw [Nat.zero_add]
        refine mw_aload_n (i := 0) dX7_clear_114 rfl rfl ?_
        refine mw_iload_n (i := 1) dX7_clear_115 rfl rfl ?_
        refine mw_callVv dX7_clear_116 mk_X7_133 gm_0 rfl (c_becomes h12 (X := eL (L.filter (fun x => !decide (nI x.1 = t)))) (by rw [va_up_self]; exact holds_wr) z2 (by omega)) (by decide) (Nat.le_refl _) (Nat.le_refl _) rfl rfl (Nat.le_of_ble_eq_true rfl) ?_
        refine mw_iload_n (i := 3) dX7_clear_119 rfl rfl ?_
        exact mw_ireturn dX7_clear_120 ⟨_, rfl, rfl⟩ ⟨rfl, _, _, rfl, (z1 0 (by decide)).trans rfl, rR_set hr h12 hT hokL (by omega) ((z1 1 (by decide)).trans rfl) ((z1 9 (by decide)).trans rfl)⟩
theorem lp_ut (hm : m < 12) (hs : s < 6) (h5 : A 5 m = nI s) (hA : byt (A 7) 1440) {E : Nat} (h6 : 120 * nI m + A 6 m = nI E) (hE : E ≤ 1440) {x2 : Option Value} : ∀ (L : List af) (p k : Nat) (I : Nat → Int32), (∀ x ∈ L, okf x) → rowAt (bt (A 7)) p (eL L) → p + (eL L).length = E → I 11 = nI p → k < unk A s L →
    mw_W mm_X7_unknownTag 5 0 0 53 [some (.ref M), some (.int (nI m)), x2, some (.int (nI (k + 1)))] [] (gm M h I A) (zA M h A I (nI (((L.filter (fun x => !knb A s x)).getD k (0, 0, 0, [])).1))) := by
  intro L
  induction L with
  | nil => intro p k I _ _ _ _ hk; exact absurd hk (Nat.not_lt_zero _)
  | cons x L ih =>
    intro p k I hok hrow hp hI hk
    have hkL : unk A s (x :: L) ≤ L.length + 1 := List.length_filter_le _ _
    have hlL : 2 * L.length ≤ (eL L).length := by
      clear ih hrow hp hk hkL hok
      induction L with
      | nil => exact Nat.zero_le _
      | cons y L ih2 =>
        have := ef_len2 y
        rw [eL_cons, List.length_append, List.length_cons]
        omega
    rw [eL_cons] at hrow hp
    rw [List.length_append] at hp
    rw [rowAt_app] at hrow
    have hl2 := ef_len2 x
    refine mw_iload_n (i := 3) dX7_unknownTag_53 rfl rfl ?_
    refine mw_if_le (tgt := 100) dX7_unknownTag_54 (by decide) (fun c9 => absurd c9 (show ¬ nI (k + 1) ≤ nI 0 from nI_ge (by omega) (by omega))) (fun _ => ?_)
    refine mw_aload_n (i := 0) dX7_unknownTag_57 rfl rfl ?_
    refine mw_aload_n (i := 0) dX7_unknownTag_58 rfl rfl ?_
    refine mw_get dX7_unknownTag_59 fk_X7_29 gm_0 rfl ?_
    refine mw_bipush (v := 120) dX7_unknownTag_62 (by decide) ?_
    refine mw_iload_n (i := 1) dX7_unknownTag_64 rfl rfl ?_
    refine mw_imul dX7_unknownTag_65 ?_
    refine mw_aload_n (i := 0) dX7_unknownTag_66 rfl rfl ?_
    refine mw_get dX7_unknownTag_67 fk_X7_26 gm_0 rfl ?_
    refine mw_iload_n (i := 1) dX7_unknownTag_70 rfl rfl ?_
    refine mw_iald dX7_unknownTag_71 gm_6 (mw_ix rfl hm (by decide)) ?_
    refine mw_iadd dX7_unknownTag_72 ?_
    refine mw_top (v := nI E) h6 ?_
    refine mw_callV dX7_unknownTag_73 mk_X7_106 gm_0 rfl (c_fieldx hA (hok x List.mem_cons_self) hrow.1 (by omega) hE hI) (by decide) (Nat.le_refl _) (Nat.le_refl _) rfl rfl (Nat.le_of_ble_eq_true rfl) (fun E9 h9 q9 => ?_) (fun v9 h9 q9 => ?_)
    · cases q9.1
    · obtain ⟨e9, I1, rfl, hS, r11, r12, r13, r14, -⟩ := q9
      cases e9
      refine mw_iload_n (i := 3) dX7_unknownTag_76 rfl rfl ?_
      refine mw_aload_n (i := 0) dX7_unknownTag_77 rfl rfl ?_
      refine mw_aload_n (i := 0) dX7_unknownTag_78 rfl rfl ?_
      refine mw_get dX7_unknownTag_79 fk_X7_23 gm_0 rfl ?_
      refine mw_iload_n (i := 1) dX7_unknownTag_82 rfl rfl ?_
      refine mw_iald dX7_unknownTag_83 gm_5 (mw_ix rfl hm (by decide)) ?_
      refine mw_top (v := nI s) h5 ?_
      refine mw_callVr dX7_unknownTag_84 mk_X7_110 gm_0 rfl (c_isKnown hs) (by decide) (Nat.le_refl _) (Nat.le_refl _) rfl rfl (Nat.le_of_ble_eq_true rfl) ?_
      rw [r13, r14]
      unfold unk at hk
      rw [List.filter_cons] at hk ⊢
      by_cases e : zKn A s (nI x.1) (nI x.2.1) = 0
      · have hP : knb A s x = false := decide_eq_false (fun z => z e)
        rw [hP, if_pos (show (!false) = true from rfl)] at hk ⊢
        refine mw_if_eq (tgt := 94) dX7_unknownTag_87 (by decide) (fun _ => ?_) (fun c9 => absurd c9 (fun z => z e))
        refine mw_iconst (v := 1) dX7_unknownTag_94 (by decide) ?_
        refine mw_isub dX7_unknownTag_95 ?_
        have e1 : nI (k + 1) - 1 = nI k := by rw [← nI_1 k, Int32.add_sub_cancel]
        rw [e1]
        refine mw_istore_3 dX7_unknownTag_96 (by decide) ?_
        refine mw_goto (tgt := 53) dX7_unknownTag_97 (by decide) ?_
        cases k with
        | zero =>
          refine mw_iload_n (i := 3) dX7_unknownTag_53 rfl rfl ?_
          refine mw_if_le (tgt := 100) dX7_unknownTag_54 (by decide) (fun _ => ?_) (fun c9 => absurd c9 (by first | decide | (rw [pk_us]; decide)))
          refine mw_aload_n (i := 0) dX7_unknownTag_100 rfl rfl ?_
          refine mw_get dX7_unknownTag_101 fk_X7_68 gm_0 rfl ?_
          rw [r13]
          exact mw_ireturn dX7_unknownTag_104 ⟨_, rfl, rfl⟩ ⟨rfl, I1, rfl, hS⟩
        | succ k =>
          refine mw_post (fun v h' q => ?_) (ih (p + (ef x).length) k I1 (fun z hz => hok z (List.mem_cons_of_mem _ hz)) hrow.2 (by omega) r11 (Nat.lt_of_succ_lt_succ hk))
          obtain ⟨q1, I', q2, q3⟩ := q
          exact ⟨q1, I', q2, hS.tr q3⟩
      · have hP : knb A s x = true := decide_eq_true e
        rw [hP, if_neg (by decide)] at hk ⊢
        refine mw_if_eq (tgt := 94) dX7_unknownTag_87 (by decide) (fun c9 => absurd c9 e) (fun _ => ?_)
        refine mw_iconst (v := 0) dX7_unknownTag_90 (by decide) ?_
        refine mw_goto (tgt := 95) dX7_unknownTag_91 (by decide) ?_
        refine mw_isub dX7_unknownTag_95 ?_
        rw [show nI (k + 1) - 0 = nI (k + 1) from Int32.sub_zero _]
        refine mw_istore_3 dX7_unknownTag_96 (by decide) ?_
        refine mw_goto (tgt := 53) dX7_unknownTag_97 (by decide) ?_
        refine mw_post (fun v h' q => ?_) (ih (p + (ef x).length) k I1 (fun z hz => hok z (List.mem_cons_of_mem _ hz)) hrow.2 (by omega) r11 hk)
        obtain ⟨q1, I', q2, q3⟩ := q
        exact ⟨q1, I', q2, hS.tr q3⟩
theorem unk_lt {K : Nat → Nat → Int32} {s : Nat} {L : List af} : 2 * unk K s L ≤ (eL L).length := by
  have h1 : unk K s L ≤ L.length := List.length_filter_le _ _
  have hlL : 2 * L.length ≤ (eL L).length := by
    clear h1
    induction L with
    | nil => exact Nat.zero_le _
    | cons y L ih2 =>
      have := ef_len2 y
      rw [eL_cons, List.length_append, List.length_cons]
      omega
  omega
theorem r_unknownTag (hr : rR g I A) (m p : Int32) : mw_Con mm_X7_unknownTag 5 0 0 [.ref M, .int m, .int p] (gm M h I A) (rP M h (sp_unknownTag g m p)) := by
  refine gm_con pl_X7 rfl rfl (Nat.le_of_ble_eq_true rfl) rfl ?_
  unfold sp_unknownTag
  cases hm : sM g m with
  | none =>
    refine mw_aload_n (i := 0) dX7_unknownTag_0 rfl rfl ?_
    refine mw_aload_n (i := 0) dX7_unknownTag_1 rfl rfl ?_
    refine mw_iload_n (i := 1) dX7_unknownTag_2 rfl rfl ?_
    refine mw_callVr dX7_unknownTag_3 mk_X7_156 gm_0 rfl (c_M0 hr hm) (by decide) (Nat.le_refl _) (Nat.le_refl _) rfl rfl (Nat.le_of_ble_eq_true rfl) ?_
    refine mw_if_eq (tgt := 28) dX7_unknownTag_6 (by decide) (fun _ => ?_) (fun c9 => absurd c9 (by first | decide | (rw [pk_us]; decide)))
    refine mw_iconst (v := 1) dX7_unknownTag_28 (by decide) ?_
    refine gm_put dX7_unknownTag_29 fk_X7_44 (by decide) (gm_h0 _) ?_
    refine mw_aload_n (i := 0) dX7_unknownTag_32 rfl rfl ?_
    refine mw_get dX7_unknownTag_33 fk_X7_44 gm_0 rfl ?_
    refine mw_if_le (tgt := 41) dX7_unknownTag_36 (by decide) (fun c9 => absurd c9 (by first | decide | (rw [pk_us]; decide))) (fun _ => ?_)
    refine mw_iconst (v := 0) dX7_unknownTag_39 (by decide) ?_
    exact mw_ireturn dX7_unknownTag_40 ⟨_, rfl, rfl⟩ (rP_I hr rfl rfl rfl)
  | some q =>
    obtain ⟨m, s, L⟩ := q
    obtain ⟨h12, rfl, hT⟩ := sM_in hm
    have hM := rR_mes hr h12 hT
    dsimp only
    have hun := unk_lt (K := g.2.1) (s := s) (L := L)
    have hlen := hM.2.2.2.2.1
    refine mw_aload_n (i := 0) dX7_unknownTag_0 rfl rfl ?_
    refine mw_aload_n (i := 0) dX7_unknownTag_1 rfl rfl ?_
    refine mw_iload_n (i := 1) dX7_unknownTag_2 rfl rfl ?_
    refine mw_callVr dX7_unknownTag_3 mk_X7_156 gm_0 rfl (c_M1 hr hm) (by decide) (Nat.le_refl _) (Nat.le_refl _) rfl rfl (Nat.le_of_ble_eq_true rfl) ?_
    refine mw_if_eq (tgt := 28) dX7_unknownTag_6 (by decide) (fun c9 => absurd c9 (by first | decide | (rw [pk_us]; decide))) (fun _ => ?_)
    refine mw_iload_n (i := 2) dX7_unknownTag_9 rfl rfl ?_
    refine mw_iconst (v := 0) dX7_unknownTag_10 (by decide) ?_
    refine mw_aload_n (i := 0) dX7_unknownTag_11 rfl rfl ?_
    refine mw_iload_n (i := 1) dX7_unknownTag_12 rfl rfl ?_
    refine mw_callV dX7_unknownTag_13 mk_X7_195 gm_0 rfl (c_manyUnknown hM) (by decide) (Nat.le_refl _) (Nat.le_refl _) rfl rfl (Nat.le_of_ble_eq_true rfl) (fun E9 h9 q9 => ?_) (fun v9 h9 q9 => ?_)
    · cases q9.1
    · obtain ⟨e9, I1, rfl, hS⟩ := q9
      cases e9
      rw [unk_cong hr.2.2.1]
      by_cases hn : zIn p 0 (nI (unk g.2.1 s L) - 1) = 0
      · rw [if_pos hn]
        refine mw_iconst (v := 1) dX7_unknownTag_16 (by decide) ?_
        refine mw_isub dX7_unknownTag_17 ?_
        refine mw_callSr dX7_unknownTag_18 mk_X7_51 (c_in p 0 (nI (unk g.2.1 s L) - 1)) (by decide) (Nat.le_refl _) (Nat.le_refl _) rfl rfl (Nat.le_of_ble_eq_true rfl) ?_
        rw [hn]
        refine mw_if_eq (tgt := 28) dX7_unknownTag_21 (by decide) (fun _ => ?_) (fun c9 => absurd c9 (by first | decide | (rw [pk_us]; decide)))
        refine mw_iconst (v := 1) dX7_unknownTag_28 (by decide) ?_
        refine gm_put dX7_unknownTag_29 fk_X7_44 (by decide) (gm_h0 _) ?_
        refine mw_aload_n (i := 0) dX7_unknownTag_32 rfl rfl ?_
        refine mw_get dX7_unknownTag_33 fk_X7_44 gm_0 rfl ?_
        refine mw_if_le (tgt := 41) dX7_unknownTag_36 (by decide) (fun c9 => absurd c9 (by first | decide | (rw [pk_us]; decide))) (fun _ => ?_)
        refine mw_iconst (v := 0) dX7_unknownTag_39 (by decide) ?_
        exact mw_ireturn dX7_unknownTag_40 ⟨_, rfl, rfl⟩ (rP_I hr rfl ((pk_un (by decide)).trans (hS 1 (by decide))) ((pk_un (by decide)).trans (hS 9 (by decide))))
      · rw [if_neg hn]
        obtain ⟨j, hj, rfl⟩ := zIn_nI (by omega) hn
        rw [nI_clamp (by omega)]
        refine mw_iconst (v := 1) dX7_unknownTag_16 (by decide) ?_
        refine mw_isub dX7_unknownTag_17 ?_
        refine mw_callSr dX7_unknownTag_18 mk_X7_51 (c_in (nI j) 0 (nI (unk g.2.1 s L) - 1)) (by decide) (Nat.le_refl _) (Nat.le_refl _) rfl rfl (Nat.le_of_ble_eq_true rfl) ?_
        refine mw_if_eq (tgt := 28) dX7_unknownTag_21 (by decide) (fun c9 => absurd c9 hn) (fun _ => ?_)
        refine mw_iconst (v := 0) dX7_unknownTag_24 (by decide) ?_
        refine mw_goto (tgt := 29) dX7_unknownTag_25 (by decide) ?_
        refine gm_put dX7_unknownTag_29 fk_X7_44 (by decide) (gm_h0 _) ?_
        refine mw_aload_n (i := 0) dX7_unknownTag_32 rfl rfl ?_
        refine mw_get dX7_unknownTag_33 fk_X7_44 gm_0 rfl ?_
        refine mw_if_le (tgt := 41) dX7_unknownTag_36 (by decide) (fun _ => ?_) (fun c9 => absurd c9 (by first | decide | (rw [pk_us]; decide)))
        refine mw_iload_n (i := 2) dX7_unknownTag_41 rfl rfl ?_
        refine mw_iconst (v := 1) dX7_unknownTag_42 (by decide) ?_
        refine mw_iadd dX7_unknownTag_43 ?_
        rw [show nI j + 1 = nI (j + 1) from nI_1 j]
        refine mw_istore_3 dX7_unknownTag_44 (by decide) ?_
        refine mw_aload_n (i := 0) dX7_unknownTag_45 rfl rfl ?_
        refine mw_bipush (v := 120) dX7_unknownTag_46 (by decide) ?_
        refine mw_iload_n (i := 1) dX7_unknownTag_48 rfl rfl ?_
        refine mw_imul dX7_unknownTag_49 ?_
        refine gm_put dX7_unknownTag_50 fk_X7_55 (by decide) (gm_h11 _) ?_
        obtain ⟨hm, hs, h5, hok, hlen, h6, hrow, hA⟩ := hM
        have h9 := lp_ut (M := M) (h := h) (A := A) hm hs h5 hA (E := 120 * m + (eL L).length) (by rw [h6]; exact mx_120 _ _) (by omega) (x2 := some (.int (nI j))) L (120 * m) j (upd (upd I1 0 0) 11 (120 * nI m)) hok hrow rfl (by rw [pk_us]; exact mx_120m m) (by rw [unk_cong hr.2.2.1]; exact hj)
        rw [knb_cong hr.2.2.1] at h9
        refine mw_post (fun v h' q => ?_) h9
        obtain ⟨q1, I', q2, q3⟩ := q
        exact ⟨q1, I', A, q2, (q3 0 (by decide)).trans rfl, rR_scr hr (fun _ _ _ => rfl) ((q3 1 (by decide)).trans ((pk_un (by decide)).trans ((pk_un (by decide)).trans (hS 1 (by decide))))) ((q3 9 (by decide)).trans ((pk_un (by decide)).trans ((pk_un (by decide)).trans (hS 9 (by decide)))))⟩
theorem can_ok {K : Nat → Nat → Int32} {s : Nat} {L : List af} (h : ∀ x ∈ L, okf x) : ∀ x ∈ can K s L, okf x := fun x hx => h x (canU_mem hx)
theorem c_areAlike {m2 s2 : Nat} {L L2 : List af} (hM : rMes A m s L) (hM2 : rMes A m2 s2 L2) : mw_Con mm_X7_areAlike 6 0 0 [.ref M, .int (nI m), .int (nI m2)] (gm M h I A) (fun v h' => v = .inl (some (.int (if eL (can A s L) = eL (can A s2 L2) then 1 else 0))) ∧ ∃ I' A', h' = gm M h I' A' ∧ (∀ j, 1 ≤ j → j ≤ 8 → A' j = A j) ∧ ∀ k, k < 11 → I' k = I k) := by
  have l1 := canU_le A s L 31
  have l2 := canU_le A s2 L2 31
  have hl1 := hM.2.2.2.2.1
  have hl2 := hM2.2.2.2.2.1
  have k1 : ∀ z ∈ eL (can A s L), z < 256 := eL_lt (can_ok hM.2.2.2.1)
  have k2 : ∀ z ∈ eL (can A s2 L2), z < 256 := eL_lt (can_ok hM2.2.2.2.1)
  have l1 : (eL (can A s L)).length ≤ 120 := Nat.le_trans l1 hl1
  have l2 : (eL (can A s2 L2)).length ≤ 120 := Nat.le_trans l2 hl2
  have hw1 := c_writesCanonical (M := M) (h := h) (I := I) hM
  have hw2 : ∀ (I' : Nat → Int32) (X : List Nat), mw_Con mm_X7_writesCanonical 5 0 0 [.ref M, .int (nI m2)] (gm M h I' (va_up (va_up A 9 (wr (A 9) 0 X)) 10 (wr (A 10) 0 X))) (zWr M h (va_up (va_up A 9 (wr (A 9) 0 X)) 10 (wr (A 10) 0 X)) I' 0 ((va_up (va_up A 9 (wr (A 9) 0 X)) 10 (wr (A 10) 0 X)) 9) (eL (can A s2 L2))) := by
    intro I' X
    have h1 := c_writesCanonical (M := M) (h := h) (I := I') (rMes_up (rMes_up hM2 (j := 9) (by decide) (wr (A 9) 0 X)) (j := 10) (by decide) (wr (A 10) 0 X))
    rw [can_cong (A := va_up (va_up A 9 (wr (A 9) 0 X)) 10 (wr (A 10) 0 X)) (K := A) rfl rfl] at h1
    exact h1
  generalize eL (can A s L) = X1 at *
  generalize eL (can A s2 L2) = X2 at *
  refine gm_con pl_X7 rfl rfl (Nat.le_of_ble_eq_true rfl) rfl ?_
  refine mw_aload_n (i := 0) dX7_areAlike_0 rfl rfl ?_
  refine mw_iload_n (i := 1) dX7_areAlike_1 rfl rfl ?_
  refine mw_callV dX7_areAlike_2 mk_X7_185 gm_0 rfl (hw1) (by decide) (Nat.le_refl _) (Nat.le_refl _) rfl rfl (Nat.le_of_ble_eq_true rfl) (fun E9 h9 q9 => ?_) (fun v9 h9 q9 => ?_)
  · cases q9.1
  · obtain ⟨e9, I1, rfl, hS, h18⟩ := q9
    cases e9
    rw [Nat.zero_add] at h18
    refine mw_aload_n (i := 0) dX7_areAlike_5 rfl rfl ?_
    refine mw_callVv dX7_areAlike_6 mk_X7_188 gm_0 rfl (c_putsAside (X := X1) (by rw [va_up_self]; exact holds_wr) h18 (by omega)) (by decide) (Nat.le_refl _) (Nat.le_refl _) rfl rfl (Nat.le_of_ble_eq_true rfl) ?_
    refine mw_aload_n (i := 0) dX7_areAlike_9 rfl rfl ?_
    refine mw_iload_n (i := 2) dX7_areAlike_10 rfl rfl ?_
    rw [show (va_up A 9 (wr (A 9) 0 X1)) 10 = A 10 from va_up_ne _ _ (by decide)]
    refine mw_callV dX7_areAlike_11 mk_X7_185 gm_0 rfl (hw2 (upd I1 20 (nI X1.length)) X1) (by decide) (Nat.le_refl _) (Nat.le_refl _) rfl rfl (Nat.le_of_ble_eq_true rfl) (fun E9 h9 q9 => ?_) (fun v9 h9 q9 => ?_)
    · cases q9.1
    · obtain ⟨e9, I2, rfl, hS2, h18b⟩ := q9
      cases e9
      rw [Nat.zero_add] at h18b
      have h20 : I2 20 = nI X1.length := (hS2 20 (by decide)).trans pk_us
      have hh9 : ∀ f, holds ((va_up (va_up (va_up A 9 (wr (A 9) 0 X1)) 10 (wr (A 10) 0 X1)) 9 (wr f 0 X2)) 9) X2 := fun f => by rw [va_up_self]; exact holds_wr
      have hh10 : ∀ f, holds ((va_up (va_up (va_up A 9 (wr (A 9) 0 X1)) 10 (wr (A 10) 0 X1)) 9 f) 10) X1 := fun f => by rw [va_up_ne _ _ (by decide), va_up_self]; exact holds_wr
      refine mw_aload_n (i := 0) dX7_areAlike_14 rfl rfl ?_
      refine mw_callVr dX7_areAlike_15 mk_X7_198 gm_0 rfl (c_isAsAside (hh9 _) (hh10 _) h18b h20 (by omega) (by omega) k2 k1) (by decide) (Nat.le_refl _) (Nat.le_refl _) rfl rfl (Nat.le_of_ble_eq_true rfl) ?_
      rw [show (if X2 = X1 then (1 : Int32) else 0) = (if X1 = X2 then 1 else 0) by
        by_cases e : X2 = X1
        · rw [if_pos e, if_pos e.symm]
        · rw [if_neg e, if_neg (fun z => e z.symm)]]
      refine mw_ireturn dX7_areAlike_18 ⟨_, rfl, ?_⟩ ⟨rfl, _, _, rfl, fun j h1 h8 => ?_, fun k hk => ?_⟩
      · by_cases e : X1 = X2
        · rw [if_pos e]; rfl
        · rw [if_neg e]; rfl
      · rw [va_up_ne _ _ (by omega), va_up_ne _ _ (by omega), va_up_ne _ _ (by omega)]
      · exact (hS2 k (by omega)).trans ((pk_un (by omega)).trans (hS k (by omega)))
end P6
