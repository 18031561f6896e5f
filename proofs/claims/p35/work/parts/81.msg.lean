/-! what the arrays hold of the class's state; isMessage: written by gen/81.py (class side) -/
/-- the arrays hold g -/
def mR (g : mS) (A : Nat → Nat → Int32) (X : Nat → Nat → Int64) : Prop := kR g.2.1 g.1 A ∧ A 11 0 = nI g.1 ∧ (∀ m, m < 5 → (g.2.2.1 m = none → A 2 m = 0) ∧ ∀ s L, g.2.2.1 m = some (s, L) → A 2 m = nI (s + 1) ∧ fR A X m L) ∧ (∀ m, 5 ≤ m → m < 12 → g.2.2.1 m = none) ∧ A 11 1 = nI g.2.2.2.length ∧ g.2.2.2.length ≤ 64 ∧ (∀ j, j < g.2.2.2.length → A 8 j = nI (g.2.2.2.getD j 0)) ∧ ∀ j, 6 * g.1 ≤ j → A 0 j = 0
theorem zi_in {n p : Nat} (hp : p < n) (hn : n < 2 ^ 31) : zIn (nI p) 0 (nI n - 1) = 1 := by
  unfold zIn
  rw [show nI n - 1 = nI (n - 1) from pk_sub (b := 1) (by omega), if_neg (nI_pos (by omega)), if_neg (nI_nlt (by omega) (by omega))]
theorem zi_out {n p : Nat} (hp : n ≤ p) (hn : p < 2 ^ 31) : zIn (nI p) 0 (nI n - 1) = 0 := by
  unfold zIn
  rw [if_neg (nI_pos hn)]
  cases n with
  | zero => rw [if_pos (show nI 0 - 1 < nI p from fa_trans (show nI 0 - 1 < 0 by decide) (nI_pos' hn))]
  | succ n => rw [nI_pred, if_pos (nI_lt (by omega) hn)]
theorem zi_neg {x hi : Int32} (h : x < 0) : zIn x 0 hi = 0 := if_pos h
section SPG
variable {sc : mSc} {g : mS} {H : mw_H} {A : Nat → Nat → Int32} {X : Nat → Nat → Int64} {m s t : Nat} {L : List af}
theorem cS_ok (h : cS sc g H A X) : okS g := by
  obtain ⟨-, -, sa, ma, hC⟩ := h
  exact hC.1
theorem cS_o (h : cS sc g H A X) : mw_g (gl H A X) 1 = some (xV g.1) := by
  obtain ⟨-, -, sa, ma, hC⟩ := h
  exact cC_x hC
theorem z11 {m : Nat} (hm : m < 12) : zIn (nI m) 0 11 = 1 := by
  have h := zi_in (n := 12) hm (by decide)
  exact h
theorem sM_at (hm : m < 12) (hT : g.2.2.1 m = some (s, L)) : sM g (nI m) = some (m, s, L) := by
  unfold sM
  rw [z11 hm, if_neg (by decide), nI_clamp (by omega), hT]
theorem sM_no (hm : m < 12) (hT : g.2.2.1 m = none) : sM g (nI m) = none := by
  unfold sM
  rw [z11 hm, if_neg (by decide), nI_clamp (by omega), hT]
theorem sM_out {x : Int32} (h : zIn x 0 11 = 0) : sM g x = none := if_pos h
theorem sS_at (hg : g.1 ≤ 6) (hs : s < g.1) : sS g (nI s) = some s := by
  unfold sS
  rw [zi_in hs (by omega), if_neg (by decide), nI_clamp (by omega)]
theorem sS_out (hg : g.1 ≤ 6) : sS g (nI g.1) = none := if_pos (zi_out (Nat.le_refl _) (by omega))
theorem sS_neg : sS g (-1) = none := if_pos (zi_neg (by decide))
theorem mR_m (hM : mR g A X) (hok : okS g) (hm : m < 5) : (g.2.2.1 m = none ∧ A 2 m = 0) ∨ ∃ s L, g.2.2.1 m = some (s, L) ∧ s < g.1 ∧ A 2 m = nI (s + 1) ∧ fR A X m L ∧ (∀ x ∈ L, okf x) ∧ (eL L).length ≤ 120 := by
  obtain ⟨-, -, h3, -⟩ := hM
  obtain ⟨a, b⟩ := h3 m hm
  cases hT : g.2.2.1 m with
  | none => exact Or.inl ⟨rfl, a hT⟩
  | some q =>
    obtain ⟨s, L⟩ := q
    obtain ⟨c1, c2, c3⟩ := hok.2.2.2.1 m s L (by omega) hT
    obtain ⟨b1, b2⟩ := b s L hT
    exact Or.inr ⟨s, L, rfl, c1, b1, b2, c2, c3⟩
theorem mR_tape (hM : mR g A X) (hok : okS g) : bR A 8 g.2.2.2.length (fun j => g.2.2.2.getD j 0) := by
  obtain ⟨-, -, -, -, h5, h6, h7, -⟩ := hM
  refine ⟨Or.inl rfl, h6, fun j => ?_, h7⟩
  by_cases hj : j < g.2.2.2.length
  · show g.2.2.2.getD j 0 < 256
    rw [List.getD_eq_getElem?_getD, List.getElem?_eq_getElem hj]
    exact hok.2.2.2.2.2 _ (List.getElem_mem hj)
  · show g.2.2.2.getD j 0 < 256
    rw [List.getD_eq_getElem?_getD, List.getElem?_eq_none (by omega)]
    show 0 < 256
    decide
theorem mR_ns (hM : mR g A X) : g.1 ≤ 4 := hM.1.1
/-- the kinds that are ints, and those that are bytes -/
theorem zInt_k {κ : Nat} (h : κ ≤ 4) : zInt (nI κ) = if κ ≤ 2 then 1 else 0 := by
  have h : κ = 0 ∨ κ = 1 ∨ κ = 2 ∨ κ = 3 ∨ κ = 4 := by omega
  rcases h with rfl | rfl | rfl | rfl | rfl <;> rfl
theorem zHas_k {κ : Nat} (h : κ ≤ 4) : zHas (nI κ) = if κ ≤ 2 then 0 else 1 := by
  have h : κ = 0 ∨ κ = 1 ∨ κ = 2 ∨ κ = 3 ∨ κ = 4 := by omega
  rcases h with rfl | rfl | rfl | rfl | rfl <;> rfl
theorem lix_lastK {K : Nat → Nat → Int32} {x : af} {L1 L2 : List af} (e : L = L1 ++ x :: L2) (hx : Pt K s (nI t) x = true) (h : ∀ z ∈ L2, Pt K s (nI t) z = false) : lastK K s (nI t) L = some x := by
  rw [e]
  exact lastK_yes hx h
theorem lir_no {P : af → Bool} {b : Nat} (h : lix P L = none) : lir P b L = -1 := by unfold lir; rw [h]
theorem lir_yes {P : af → Bool} {b i : Nat} (h : lix P L = some i) : lir P b L = nI (b + i) := by unfold lir; rw [h]
/-- the two ways of the last one -/
theorem last_ways {K : Nat → Nat → Int32} (L : List af) (m : Nat) : (lir (Pt K s (nI t)) (12 * m) L = -1 ∧ lastK K s (nI t) L = none) ∨ ∃ L1 x L2, L = L1 ++ x :: L2 ∧ Pt K s (nI t) x = true ∧ lir (Pt K s (nI t)) (12 * m) L = nI (12 * m + L1.length) ∧ lastK K s (nI t) L = some x := by
  cases e : lix (Pt K s (nI t)) L with
  | none => exact Or.inl ⟨lir_no e, lastK_no (lix_no e)⟩
  | some i =>
    obtain ⟨L1, x, L2, e1, e2, e3, e4⟩ := lix_yes e
    exact Or.inr ⟨L1, x, L2, e1, e3, by rw [lir_yes e, e2], lix_lastK e1 e3 e4⟩
theorem Pt_tg {K : Nat → Nat → Int32} {x : af} (hx : okf x) (ht : t ≤ 31) (h : Pt K s (nI t) x = true) : x.1 = t := by
  unfold Pt at h
  rw [Bool.and_eq_true] at h
  have := of_decide_eq_true h.1
  have h2 := hx.2.1
  exact (nI_eq (by omega) (by omega)).mp this
theorem m1_lt : (-1 : Int32) < 0 := by decide
theorem nI_nm1 {n : Nat} (h : n < 2 ^ 31) : ¬ nI n = -1 := fun z => by
  have := congrArg Int32.toInt z
  rw [nI_toInt h] at this
  have : ((n : Int)) = -1 := this
  omega
end SPG
section IM
variable {sc : mSc} {g : mS} {A : Nat → Nat → Int32} {X : Nat → Nat → Int64} {m s : Nat} {L : List af} {Po : mw_P} {x12 x13 x14 x15 : Option Value}
/-- the unknown fields -/
theorem lp_unk (hM : mR g A X) (hm : m < 5) (hT : g.2.2.1 m = some (s, L)) (hs : s < g.1) (hc : A 2 m = nI (s + 1)) (hR : fR A X m L) (hok : ∀ x ∈ L, okf x) {kc ks : Nat} (k : ∀ H, cS sc g H A X → mw_W mm_L_isMessage 9 kc ks 96 [some (.ref 1), some (.int (nI m)), some (.ref 43), some (.ref 44), some (.ref 45), some (.ref 46), some (.ref 47), some (.ref 48), some (.ref 49), some (.ref 50), some (.int (nI (unk g.2.1 s L))), some (.int (nI (12 * m + L.length))), x12, x13, x14, x15] [] (gl H A X) Po) : ∀ (L2 L1 : List af) (H : mw_H) (kc' ks' : Nat), L = L1 ++ L2 → cS sc g H A X → kc' = kc + L2.length → ks' = ks + 6 * L2.length →
    mw_W mm_L_isMessage 9 kc' ks' 32 [some (.ref 1), some (.int (nI m)), some (.ref 43), some (.ref 44), some (.ref 45), some (.ref 46), some (.ref 47), some (.ref 48), some (.ref 49), some (.ref 50), some (.int (nI (unk g.2.1 s L1))), some (.int (nI (12 * m + L1.length))), x12, x13, x14, x15] [] (gl H A X) Po
  | [], L1, H, kc', ks', e, hI, hkc, hks => by
    rw [List.append_nil] at e
    subst e
    subst hkc hks
    have h12 := hR.2.1
    refine mw_iload (i := 11) dL_isMessage_32 rfl ?_
    refine mw_bipush (v := 12) dL_isMessage_34 (by decide) ?_
    refine mw_iload_n (i := 1) dL_isMessage_36 rfl rfl ?_
    refine mw_imul dL_isMessage_37 ?_
    refine mw_aload (i := 5) dL_isMessage_38 rfl ?_
    refine mw_iload_n (i := 1) dL_isMessage_40 rfl rfl ?_
    refine mw_iald dL_isMessage_41 gl_3 (mw_ix rfl hm (by decide)) ?_
    rw [hR.1]
    refine mw_iadd dL_isMessage_42 ?_
    rw [mx_12]
    refine mw_icmp_ge (tgt := 96) dL_isMessage_43 (by decide) (fun _ => ?_) (fun c9 => absurd c9 (by first | decide | exact (fun q => q rfl) | ((try simp only [fa_lit]); first | exact cq_le (by omega) (by omega) | exact cq_nle (by omega) (by omega) | exact cq_lt (by omega) (by omega) | exact cq_nlt (by omega) (by omega) | exact cq_eq (by omega) (by omega) (by omega) | exact cq_neq (by omega))))
    exact k H hI
  | x :: L2, L1, H, kc', ks', e, hI, hkc, hks => by
    obtain ⟨hf, h1, h12⟩ := fR_at hR e
    have hx := hok x (by rw [e]; simp)
    obtain ⟨k1, k2, k3⟩ := okf_key hx
    have ih := fun H hI => lp_unk hM hm hT hs hc hR hok (kc := kc) (ks := ks) k L2 (L1 ++ [x]) H _ _ (by rw [e]; simp) hI rfl rfl
    rw [List.length_append, List.length_singleton, ← Nat.add_assoc] at ih
    have hu : unk g.2.1 s (L1 ++ [x]) = if knb g.2.1 s x then unk g.2.1 s L1 else unk g.2.1 s L1 + 1 := by
      unfold unk
      rw [List.filter_append, List.filter_cons]
      by_cases ek : knb g.2.1 s x = true
      · rw [if_pos ek, if_neg (by rw [ek]; decide)]; simp
      · rw [if_neg ek, if_pos (by rw [Bool.eq_false_iff.mpr ek]; rfl)]; simp
    have hlen : (x :: L2).length = L2.length + 1 := rfl
    rw [hlen] at hkc hks
    obtain ⟨kq, hkq⟩ : ∃ z, z = kc + L2.length := ⟨_, rfl⟩
    obtain ⟨kr, hkr⟩ : ∃ z, z = ks + 6 * L2.length := ⟨_, rfl⟩
    refine mw_iload (i := 11) dL_isMessage_32 rfl ?_
    refine mw_bipush (v := 12) dL_isMessage_34 (by decide) ?_
    refine mw_iload_n (i := 1) dL_isMessage_36 rfl rfl ?_
    refine mw_imul dL_isMessage_37 ?_
    refine mw_aload (i := 5) dL_isMessage_38 rfl ?_
    refine mw_iload_n (i := 1) dL_isMessage_40 rfl rfl ?_
    refine mw_iald dL_isMessage_41 gl_3 (mw_ix rfl hm (by decide)) ?_
    rw [hR.1]
    refine mw_iadd dL_isMessage_42 ?_
    rw [mx_12]
    refine mw_icmp_ge (tgt := 96) dL_isMessage_43 (by decide) (fun c9 => absurd c9 (by first | decide | exact (fun q => q rfl) | ((try simp only [fa_lit]); first | exact cq_le (by omega) (by omega) | exact cq_nle (by omega) (by omega) | exact cq_lt (by omega) (by omega) | exact cq_nlt (by omega) (by omega) | exact cq_eq (by omega) (by omega) (by omega) | exact cq_neq (by omega)))) (fun _ => ?_)
    refine mw_aload_n (i := 2) dL_isMessage_46 rfl rfl ?_
    refine mw_aload (i := 4) dL_isMessage_47 rfl ?_
    refine mw_iload_n (i := 1) dL_isMessage_49 rfl rfl ?_
    refine mw_iald dL_isMessage_50 gl_2 (mw_ix rfl hm (by decide)) ?_
    refine mw_iconst (v := 1) dL_isMessage_51 (by decide) ?_
    refine mw_isub dL_isMessage_52 ?_
    refine mw_aload (i := 6) dL_isMessage_53 rfl ?_
    refine mw_iload (i := 11) dL_isMessage_55 rfl ?_
    refine mw_iald dL_isMessage_57 gl_4 (mw_ix rfl (by omega) (by decide)) ?_
    rw [hc, hf.1, nI_pred]
    refine mw_callSr dL_isMessage_58 mk_L_82 ((c_isKnown hM.1 hs hx)) (by decide) (Nat.le_refl _) (Nat.le_refl _) rfl rfl (Nat.le_of_ble_eq_true rfl) ?_
    by_cases ek : knb g.2.1 s x = true
    · rw [if_pos ek] at hu ⊢
      refine mw_if_eq (tgt := 67) dL_isMessage_61 (by decide) (fun c9 => absurd c9 (by first | decide | exact (fun q => q rfl))) (fun _ => ?_)
      refine mw_goto (tgt := 90) dL_isMessage_64 (by decide) ?_
      refine mw_iinc_11 dL_isMessage_90 (by decide) rfl ?_
      refine mw_goto (tgt := 32) dL_isMessage_93 (by decide) ?_
      rw [show nI (12 * m + L1.length) + Int32.ofInt 1 = nI (12 * m + L1.length + 1) from nI_1 _, ← hu]
      exact mw_less (by omega) (by omega) (ih H hI)
    · rw [if_neg ek] at hu ⊢
      have hul : unk g.2.1 s L1 < unk g.2.1 s L := by
        unfold unk
        rw [e, List.filter_append, List.filter_cons, if_pos (by rw [Bool.eq_false_iff.mpr ek]; rfl), List.length_append, List.length_cons]
        omega
      have hub : unk g.2.1 s L ≤ 12 := by
        have := List.length_filter_le (fun x => !knb g.2.1 s x) L
        unfold unk
        omega
      have hw := w_unknownTag hI (nI m) (nI (unk g.2.1 s L1))
      have hsp : sp_unknownTag g (nI m) (nI (unk g.2.1 s L1)) = (0, nI x.1, g) := by
        unfold sp_unknownTag
        rw [sM_at (by omega) hT]
        show (if zIn (nI (unk g.2.1 s L1)) 0 (nI (unk g.2.1 s L) - 1) = 0 then _ else _) = _
        rw [zi_in hul (by omega), if_neg (by decide), nI_clamp (by omega)]
        congr 3
        have hd : (L.filter (fun x => !knb g.2.1 s x)).getD (unk g.2.1 s L1) (0, 0, 0, []) = x := by
          unfold unk
          rw [e, List.filter_append, List.filter_cons, if_pos (by rw [Bool.eq_false_iff.mpr ek]; rfl), List.getD_eq_getElem?_getD, List.getElem?_append_right (Nat.le_refl _), Nat.sub_self]
          rfl
        rw [hd]
      rw [hsp] at hw
      refine mw_less (kc' := kq + 1) (ks' := kr + 6) (by omega) (by omega) ?_
      refine mw_if_eq (tgt := 67) dL_isMessage_61 (by decide) (fun _ => ?_) (fun c9 => absurd c9 (by first | decide | exact (fun q => q rfl)))
      refine mw_aload_n (i := 0) dL_isMessage_67 rfl rfl ?_
      refine mw_iload_n (i := 1) dL_isMessage_68 rfl rfl ?_
      refine mw_iload (i := 10) dL_isMessage_69 rfl ?_
      refine mw_callSX dL_isMessage_71 mk_L_223 (hw) (by decide) (Nat.le_refl _) (Nat.le_refl _) rfl rfl (Nat.le_of_ble_eq_true rfl) (fun E9 h9 q9 => ?_) (fun v9 h9 q9 => ?_)
      · cases q9.1
      obtain ⟨e9, H1, rfl, hI⟩ := q9
      cases e9
      refine mw_aload (i := 6) dL_isMessage_74 rfl ?_
      refine mw_iload (i := 11) dL_isMessage_76 rfl ?_
      refine mw_iald dL_isMessage_78 gl_4 (mw_ix rfl (by omega) (by decide)) ?_
      refine mw_bipush (v := 8) dL_isMessage_79 (by decide) ?_
      rw [hf.1]
      refine mw_idiv dL_isMessage_81 (by decide) ?_
      rw [mx_d8 (by omega), k2]
      refine mw_icmp_eq (tgt := 87) dL_isMessage_82 (by decide) (fun _ => ?_) (fun c9 => absurd c9 (by first | decide | exact (fun q => q rfl)))
      refine mw_iinc_10 dL_isMessage_87 (by decide) rfl ?_
      refine mw_iinc_11 dL_isMessage_90 (by decide) rfl ?_
      refine mw_goto (tgt := 32) dL_isMessage_93 (by decide) ?_
      rw [show nI (12 * m + L1.length) + Int32.ofInt 1 = nI (12 * m + L1.length + 1) from nI_1 _, show nI (unk g.2.1 s L1) + Int32.ofInt 1 = nI (unk g.2.1 s L1 + 1) from nI_1 _, ← hu]
      exact mw_less (by omega) (by omega) (ih H1 hI)
/-- the bytes that the message has for a tag -/
theorem lp_byt (hm : m < 5) {t κ at_ v : Nat} {x : af} (ht : t ≤ 31) (hκ3 : 3 ≤ κ) (hκ4 : κ ≤ 4) (hat : at_ < 60) (hT : g.2.2.1 m = some (s, L)) (hz : zKind g.2.1 s (nI t) = nI κ) (hl : lastK g.2.1 s (nI t) L = some x) (hf : fC A X at_ x) (h2 : x.2.1 = 2) (hv : x.2.2.1 = v) {kc ks : Nat} {l10 l11 : Int32} (k : ∀ H, cS sc g H A X → mw_W mm_L_isMessage 9 kc ks 274 [some (.ref 1), some (.int (nI m)), some (.ref 43), some (.ref 44), some (.ref 45), some (.ref 46), some (.ref 47), some (.ref 48), some (.ref 49), some (.ref 50), some (.int (l10)), some (.int (l11)), some (.int (nI t)), some (.int (nI κ)), some (.int (nI at_)), some (.int (nI v))] [] (gl H A X) Po) : ∀ (n p : Nat) (H : mw_H) (kc' ks' : Nat), p + n = v → cS sc g H A X → kc' = kc + n → ks' = ks + 6 * n →
    mw_W mm_L_isMessage 9 kc' ks' 221 [some (.ref 1), some (.int (nI m)), some (.ref 43), some (.ref 44), some (.ref 45), some (.ref 46), some (.ref 47), some (.ref 48), some (.ref 49), some (.ref 50), some (.int (l10)), some (.int (l11)), some (.int (nI t)), some (.int (nI κ)), some (.int (nI at_)), some (.int (nI p))] [] (gl H A X) Po := by
  obtain ⟨hf4, hf5, hf6⟩ := hf
  obtain ⟨h16, hbt⟩ := hf6 h2
  rw [hv] at h16 hf5
  intro n
  induction n with
  | zero =>
    intro p H kc' ks' hp hI hkc hks
    have hp : p = v := by omega
    subst hp
    refine mw_iload (i := 13) dL_isMessage_221 rfl ?_
    refine mw_iconst (v := 2) dL_isMessage_223 (by decide) ?_
    refine mw_icmp_le (tgt := 274) dL_isMessage_224 (by decide) (fun c9 => absurd c9 (by first | decide | exact (fun q => q rfl) | ((try simp only [fa_lit]); first | exact cq_le (by omega) (by omega) | exact cq_nle (by omega) (by omega) | exact cq_lt (by omega) (by omega) | exact cq_nlt (by omega) (by omega) | exact cq_eq (by omega) (by omega) (by omega) | exact cq_neq (by omega)))) (fun _ => ?_)
    refine mw_iload (i := 14) dL_isMessage_227 rfl ?_
    refine mw_if_lt (tgt := 274) dL_isMessage_229 (by decide) (fun c9 => absurd c9 (cq_lt (b := 0) (Nat.zero_le _) (by omega))) (fun _ => ?_)
    refine mw_iload (i := 15) dL_isMessage_232 rfl ?_
    refine mw_aload (i := 7) dL_isMessage_234 rfl ?_
    refine mw_iload (i := 14) dL_isMessage_236 rfl ?_
    refine mw_iald dL_isMessage_238 gl_5 (mw_ix rfl (by omega) (by decide)) ?_
    rw [hf5]
    refine mw_icmp_ge (tgt := 274) dL_isMessage_239 (by decide) (fun _ => ?_) (fun c9 => absurd c9 (by first | decide | exact (fun q => q rfl) | ((try simp only [fa_lit]); first | exact cq_le (by omega) (by omega) | exact cq_nle (by omega) (by omega) | exact cq_lt (by omega) (by omega) | exact cq_nlt (by omega) (by omega) | exact cq_eq (by omega) (by omega) (by omega) | exact cq_neq (by omega))))
    exact mw_less (by omega) (by omega) (k H hI)
  | succ n ih =>
    intro p H kc' ks' hp hI hkc hks
    obtain ⟨kq, hkq⟩ : ∃ z, z = kc + n := ⟨_, rfl⟩
    obtain ⟨kr, hkr⟩ : ∃ z, z = ks + 6 * n := ⟨_, rfl⟩
    have hw := w_byteOf hI (nI m) (nI t) (nI p)
    have hsp : sp_byteOf g (nI m) (nI t) (nI p) = (0, bV (x.2.2.2.getD p 0), g) := by
      unfold sp_byteOf
      rw [sM_at (by omega) hT]
      show (if zHas (zKind g.2.1 s (nI t)) = 0 then _ else _) = _
      rw [hz, zHas_k hκ4, if_neg (show ¬ κ ≤ 2 by omega), if_neg (by decide), hl]
      show (if zIn (nI p) 0 (nI x.2.2.1 - 1) = 0 then _ else _) = _
      rw [hv, zi_in (by omega) (by omega), if_neg (by decide), nI_clamp (by omega)]
    rw [hsp] at hw
    refine mw_less (kc' := kq + 1) (ks' := kr + 6) (by omega) (by omega) ?_
    refine mw_iload (i := 13) dL_isMessage_221 rfl ?_
    refine mw_iconst (v := 2) dL_isMessage_223 (by decide) ?_
    refine mw_icmp_le (tgt := 274) dL_isMessage_224 (by decide) (fun c9 => absurd c9 (by first | decide | exact (fun q => q rfl) | ((try simp only [fa_lit]); first | exact cq_le (by omega) (by omega) | exact cq_nle (by omega) (by omega) | exact cq_lt (by omega) (by omega) | exact cq_nlt (by omega) (by omega) | exact cq_eq (by omega) (by omega) (by omega) | exact cq_neq (by omega)))) (fun _ => ?_)
    refine mw_iload (i := 14) dL_isMessage_227 rfl ?_
    refine mw_if_lt (tgt := 274) dL_isMessage_229 (by decide) (fun c9 => absurd c9 (cq_lt (b := 0) (Nat.zero_le _) (by omega))) (fun _ => ?_)
    refine mw_iload (i := 15) dL_isMessage_232 rfl ?_
    refine mw_aload (i := 7) dL_isMessage_234 rfl ?_
    refine mw_iload (i := 14) dL_isMessage_236 rfl ?_
    refine mw_iald dL_isMessage_238 gl_5 (mw_ix rfl (by omega) (by decide)) ?_
    rw [hf5]
    refine mw_icmp_ge (tgt := 274) dL_isMessage_239 (by decide) (fun c9 => absurd c9 (by first | decide | exact (fun q => q rfl) | ((try simp only [fa_lit]); first | exact cq_le (by omega) (by omega) | exact cq_nle (by omega) (by omega) | exact cq_lt (by omega) (by omega) | exact cq_nlt (by omega) (by omega) | exact cq_eq (by omega) (by omega) (by omega) | exact cq_neq (by omega)))) (fun _ => ?_)
    refine mw_aload_n (i := 0) dL_isMessage_242 rfl rfl ?_
    refine mw_iload_n (i := 1) dL_isMessage_243 rfl rfl ?_
    refine mw_iload (i := 12) dL_isMessage_244 rfl ?_
    refine mw_iload (i := 15) dL_isMessage_246 rfl ?_
    refine mw_callSX dL_isMessage_248 mk_L_180 (hw) (by decide) (Nat.le_refl _) (Nat.le_refl _) rfl rfl (Nat.le_of_ble_eq_true rfl) (fun E9 h9 q9 => ?_) (fun v9 h9 q9 => ?_)
    · cases q9.1
    obtain ⟨e9, H1, rfl, hI⟩ := q9
    cases e9
    have hb := hbt p (by omega)
    refine mw_aload (i := 8) dL_isMessage_251 rfl ?_
    refine mw_aload (i := 9) dL_isMessage_253 rfl ?_
    refine mw_iload (i := 14) dL_isMessage_255 rfl ?_
    refine mw_iload (i := 15) dL_isMessage_257 rfl ?_
    refine mw_callSr dL_isMessage_259 mk_L_103 ((c_byteAt hat (by omega))) (by decide) (Nat.le_refl _) (Nat.le_refl _) rfl rfl (Nat.le_of_ble_eq_true rfl) ?_
    refine mw_i2b dL_isMessage_262 rfl ?_
    refine mw_icmp_eq (tgt := 268) dL_isMessage_263 (by decide) (fun _ => ?_) (fun c9 => absurd c9 (fun q => q (by rw [hb]; rfl)))
    refine mw_iinc_15 dL_isMessage_268 (by decide) rfl ?_
    refine mw_goto (tgt := 221) dL_isMessage_271 (by decide) ?_
    rw [show nI p + Int32.ofInt 1 = nI (p + 1) from nI_1 _]
    exact mw_less (by omega) (by omega) (ih (p + 1) H1 _ _ (by omega) hI rfl rfl)
/-- the six tags -/
theorem lp_six (hM : mR g A X) (hm : m < 5) (hT : g.2.2.1 m = some (s, L)) (hs : s < g.1) (hc : A 2 m = nI (s + 1)) (hR : fR A X m L) (hok : ∀ x ∈ L, okf x) {kc ks : Nat} {l10 : Int32} (k : ∀ H x12 x13 x14 x15, cS sc g H A X → mw_W mm_L_isMessage 9 kc ks 315 [some (.ref 1), some (.int (nI m)), some (.ref 43), some (.ref 44), some (.ref 45), some (.ref 46), some (.ref 47), some (.ref 48), some (.ref 49), some (.ref 50), some (.int (l10)), some (.int (6)), x12, x13, x14, x15] [] (gl H A X) Po) : ∀ (n i : Nat) (H : mw_H) (kc' ks' : Nat) (x12 x13 x14 x15 : Option Value), i + n = 6 → cS sc g H A X → kc' = kc + 19 * n → ks' = ks + 114 * n →
    mw_W mm_L_isMessage 9 kc' ks' 99 [some (.ref 1), some (.int (nI m)), some (.ref 43), some (.ref 44), some (.ref 45), some (.ref 46), some (.ref 47), some (.ref 48), some (.ref 49), some (.ref 50), some (.int (l10)), some (.int (nI i)), x12, x13, x14, x15] [] (gl H A X) Po := by
  have h4 := mR_ns hM
  intro n
  induction n with
  | zero =>
    intro i H kc' ks' x12 x13 x14 x15 hi hI hkc hks
    have hi : i = 6 := by omega
    subst hi
    refine mw_iload (i := 11) dL_isMessage_99 rfl ?_
    refine mw_bipush (v := 6) dL_isMessage_101 (by decide) ?_
    refine mw_icmp_ge (tgt := 315) dL_isMessage_103 (by decide) (fun _ => ?_) (fun c9 => absurd c9 (by first | decide | exact (fun q => q rfl)))
    exact mw_less (by omega) (by omega) (k H _ _ _ _ hI)
  | succ n ih =>
    intro i H kc' ks' x12 x13 x14 x15 hi hI hkc hks
    have hi6 : i < 6 := by omega
    have ht := tg_in hi6
    obtain ⟨kq, hkq⟩ : ∃ z, z = kc + 19 * n := ⟨_, rfl⟩
    obtain ⟨kr, hkr⟩ : ∃ z, z = ks + 114 * n := ⟨_, rfl⟩
    have hnext : ∀ H x12 x13 x14 x15, cS sc g H A X → mw_W mm_L_isMessage 9 kq kr 309 [some (.ref 1), some (.int (nI m)), some (.ref 43), some (.ref 44), some (.ref 45), some (.ref 46), some (.ref 47), some (.ref 48), some (.ref 49), some (.ref 50), some (.int (l10)), some (.int (nI i)), x12, x13, x14, x15] [] (gl H A X) Po := by
      intro H x12 x13 x14 x15 hI
      refine mw_iinc_11 dL_isMessage_309 (by decide) rfl ?_
      refine mw_goto (tgt := 99) dL_isMessage_312 (by decide) ?_
      rw [show nI i + Int32.ofInt 1 = nI (i + 1) from nI_1 _]
      exact mw_less (by omega) (by omega) (ih (i + 1) H _ _ _ _ _ _ (by omega) hI rfl rfl)
    refine mw_less (kc' := kq + 17 + 1 + 1) (ks' := kr + 102 + 6 + 6) (by omega) (by omega) ?_
    refine mw_iload (i := 11) dL_isMessage_99 rfl ?_
    refine mw_bipush (v := 6) dL_isMessage_101 (by decide) ?_
    refine mw_icmp_ge (tgt := 315) dL_isMessage_103 (by decide) (fun c9 => absurd c9 (by first | decide | exact (fun q => q rfl) | ((try simp only [fa_lit]); first | exact cq_le (by omega) (by omega) | exact cq_nle (by omega) (by omega) | exact cq_lt (by omega) (by omega) | exact cq_nlt (by omega) (by omega) | exact cq_eq (by omega) (by omega) (by omega) | exact cq_neq (by omega)))) (fun _ => ?_)
    refine mw_iload (i := 11) dL_isMessage_106 rfl ?_
    refine mw_callSr dL_isMessage_108 mk_L_64 ((c_tagAt hi6)) (by decide) (Nat.le_refl _) (Nat.le_refl _) rfl rfl (Nat.le_of_ble_eq_true rfl) ?_
    refine mw_istore_12 dL_isMessage_111 (by decide) ?_
    refine mw_aload_n (i := 2) dL_isMessage_113 rfl rfl ?_
    refine mw_aload (i := 4) dL_isMessage_114 rfl ?_
    refine mw_iload_n (i := 1) dL_isMessage_116 rfl rfl ?_
    refine mw_iald dL_isMessage_117 gl_2 (mw_ix rfl hm (by decide)) ?_
    rw [hc]
    refine mw_iconst (v := 1) dL_isMessage_118 (by decide) ?_
    refine mw_isub dL_isMessage_119 ?_
    rw [nI_pred]
    refine mw_iload (i := 12) dL_isMessage_120 rfl ?_
    refine mw_callSr dL_isMessage_122 mk_L_69 ((c_kind hM.1 hs ht.1 ht.2)) (by decide) (Nat.le_refl _) (Nat.le_refl _) rfl rfl (Nat.le_of_ble_eq_true rfl) ?_
    refine mw_istore_13 dL_isMessage_125 (by decide) ?_
    refine mw_aload_n (i := 2) dL_isMessage_127 rfl rfl ?_
    refine mw_aload (i := 4) dL_isMessage_128 rfl ?_
    refine mw_aload (i := 5) dL_isMessage_130 rfl ?_
    refine mw_aload (i := 6) dL_isMessage_132 rfl ?_
    refine mw_iload_n (i := 1) dL_isMessage_134 rfl rfl ?_
    refine mw_iload (i := 12) dL_isMessage_135 rfl ?_
    refine mw_callSr dL_isMessage_137 mk_L_86 ((c_last hM.1 hs hc ht.2 hm hok hR)) (by decide) (Nat.le_refl _) (Nat.le_refl _) rfl rfl (Nat.le_of_ble_eq_true rfl) ?_
    refine mw_istore_14 dL_isMessage_140 (by decide) ?_
    refine mw_aload_n (i := 0) dL_isMessage_142 rfl rfl ?_
    refine mw_iload_n (i := 1) dL_isMessage_143 rfl rfl ?_
    refine mw_iload (i := 12) dL_isMessage_144 rfl ?_
    have hhas : ∀ b : Int32, (0, (if (lastK g.2.1 s (nI (tg i)) L).isSome then (1 : Int32) else 0), g) = ((0, b, g) : mA) → mw_Con mm_X6_has 7 1 6 [.ref 1, .int (nI m), .int (nI (tg i))] (gl H A X) (wP sc A X b g) := by
      intro b hb
      have hsp : sp_has g (nI m) (nI (tg i)) = (0, b, g) := by
        unfold sp_has
        rw [sM_at (by omega) hT]
        show (if zTag (nI (tg i)) = 0 then _ else _) = _
        rw [zTag_of ht.1 ht.2, if_neg (by decide)]
        exact hb
      have h := d_has hI (nI m) (nI (tg i)) (by rw [hsp])
      rw [hsp] at h
      exact h
    have hzk := kR_cases hM.1 hs ht.1 ht.2
    rcases last_ways (K := g.2.1) (s := s) (t := tg i) L m with ⟨hl, hlk⟩ | ⟨L1, x, L2, e, hPx, hl, hlk⟩
    · rw [hl]
      have hw := hhas 0 (by rw [hlk]; rfl)
      refine mw_callV dL_isMessage_146 mk_L_191 (cS_o hI) rfl (hw) (by decide) (Nat.le_refl _) (Nat.le_refl _) rfl rfl (Nat.le_of_ble_eq_true rfl) (fun E9 h9 q9 => ?_) (fun v9 h9 q9 => ?_)
      · cases q9.1
      obtain ⟨e9, H1, rfl, hI⟩ := q9
      cases e9
      refine mw_iload (i := 14) dL_isMessage_149 rfl ?_
      refine mw_if_lt (tgt := 158) dL_isMessage_151 (by decide) (fun _ => ?_) (fun c9 => absurd c9 (by first | decide | exact (fun q => q rfl)))
      refine mw_iconst (v := 0) dL_isMessage_158 (by decide) ?_
      refine mw_icmp_eq (tgt := 164) dL_isMessage_159 (by decide) (fun _ => ?_) (fun c9 => absurd c9 (by first | decide | exact (fun q => q rfl)))
      rcases hzk with hz | ⟨κ, hκ, hz, -⟩
      · rw [hz]
        refine mw_iload (i := 13) dL_isMessage_164 rfl ?_
        refine mw_if_lt (tgt := 218) dL_isMessage_166 (by decide) (fun _ => ?_) (fun c9 => absurd c9 (by first | decide | exact (fun q => q rfl)))
        refine mw_iconst (v := 0) dL_isMessage_218 (by decide) ?_
        refine mw_istore_15 dL_isMessage_219 (by decide) ?_
        refine mw_iload (i := 13) dL_isMessage_221 rfl ?_
        refine mw_iconst (v := 2) dL_isMessage_223 (by decide) ?_
        refine mw_icmp_le (tgt := 274) dL_isMessage_224 (by decide) (fun _ => ?_) (fun c9 => absurd c9 (by first | decide | exact (fun q => q rfl)))
        refine mw_iload (i := 13) dL_isMessage_274 rfl ?_
        refine mw_iconst (v := 2) dL_isMessage_276 (by decide) ?_
        refine mw_icmp_le (tgt := 309) dL_isMessage_277 (by decide) (fun _ => ?_) (fun c9 => absurd c9 (by first | decide | exact (fun q => q rfl)))
        exact mw_less (by omega) (by omega) (hnext H1 _ _ _ _ hI)
      · rw [hz]
        obtain ⟨i', o', y1, y2, y3, y4, y5, y6⟩ := kR_at hM.1 hs ht.1 ht.2 hκ hz
        have y2 := tg_inj y1 hi6 y2
        subst y2
        by_cases h2 : κ ≤ 2
        · have hsp : sp_get g (nI m) (nI (tg i')) = (0, A 1 (6 * s + i'), g) := by
            unfold sp_get
            rw [sM_at (by omega) hT]
            show (if zInt (zKind g.2.1 s (nI (tg i'))) = 0 then _ else _) = _
            rw [hz, zInt_k hκ, if_pos h2, if_neg (by decide), hlk, y6 h2, tix_n (by omega)]
          have hw := d_get hI (nI m) (nI (tg i')) (by rw [hsp])
          rw [hsp] at hw
          refine mw_iload (i := 13) dL_isMessage_164 rfl ?_
          refine mw_if_lt (tgt := 218) dL_isMessage_166 (by decide) (fun c9 => absurd c9 (cq_lt (b := 0) (Nat.zero_le _) (by omega))) (fun _ => ?_)
          refine mw_iload (i := 13) dL_isMessage_169 rfl ?_
          refine mw_iconst (v := 3) dL_isMessage_171 (by decide) ?_
          refine mw_icmp_ge (tgt := 218) dL_isMessage_172 (by decide) (fun c9 => absurd c9 (by first | decide | exact (fun q => q rfl) | ((try simp only [fa_lit]); first | exact cq_le (by omega) (by omega) | exact cq_nle (by omega) (by omega) | exact cq_lt (by omega) (by omega) | exact cq_nlt (by omega) (by omega) | exact cq_eq (by omega) (by omega) (by omega) | exact cq_neq (by omega)))) (fun _ => ?_)
          refine mw_aload_n (i := 0) dL_isMessage_175 rfl rfl ?_
          refine mw_iload_n (i := 1) dL_isMessage_176 rfl rfl ?_
          refine mw_iload (i := 12) dL_isMessage_177 rfl ?_
          refine mw_callV dL_isMessage_179 mk_L_52 (cS_o hI) rfl (hw) (by decide) (Nat.le_refl _) (Nat.le_refl _) rfl rfl (Nat.le_of_ble_eq_true rfl) (fun E9 h9 q9 => ?_) (fun v9 h9 q9 => ?_)
          · cases q9.1
          obtain ⟨e9, H1, rfl, hI⟩ := q9
          cases e9
          refine mw_iload (i := 14) dL_isMessage_182 rfl ?_
          refine mw_if_ge (tgt := 203) dL_isMessage_184 (by decide) (fun c9 => absurd c9 (by first | decide | exact (fun q => q rfl))) (fun _ => ?_)
          refine mw_aload_n (i := 3) dL_isMessage_187 rfl rfl ?_
          refine mw_aload (i := 4) dL_isMessage_188 rfl ?_
          refine mw_iload_n (i := 1) dL_isMessage_190 rfl rfl ?_
          refine mw_iald dL_isMessage_191 gl_2 (mw_ix rfl hm (by decide)) ?_
          rw [hc]
          refine mw_iconst (v := 1) dL_isMessage_192 (by decide) ?_
          refine mw_isub dL_isMessage_193 ?_
          rw [nI_pred]
          refine mw_iload (i := 12) dL_isMessage_194 rfl ?_
          refine mw_callSr dL_isMessage_196 mk_L_93 ((c_place y1 (by omega))) (by decide) (Nat.le_refl _) (Nat.le_refl _) rfl rfl (Nat.le_of_ble_eq_true rfl) ?_
          refine mw_iald dL_isMessage_199 gl_1 (mw_ix rfl (by omega) (by decide)) ?_
          refine mw_goto (tgt := 213) dL_isMessage_200 (by decide) ?_
          refine mw_icmp_eq (tgt := 218) dL_isMessage_213 (by decide) (fun _ => ?_) (fun c9 => absurd c9 (by first | decide | exact (fun q => q rfl)))
          refine mw_iconst (v := 0) dL_isMessage_218 (by decide) ?_
          refine mw_istore_15 dL_isMessage_219 (by decide) ?_
          refine mw_iload (i := 13) dL_isMessage_221 rfl ?_
          refine mw_iconst (v := 2) dL_isMessage_223 (by decide) ?_
          refine mw_icmp_le (tgt := 274) dL_isMessage_224 (by decide) (fun _ => ?_) (fun c9 => absurd c9 (by first | decide | exact (fun q => q rfl) | ((try simp only [fa_lit]); first | exact cq_le (by omega) (by omega) | exact cq_nle (by omega) (by omega) | exact cq_lt (by omega) (by omega) | exact cq_nlt (by omega) (by omega) | exact cq_eq (by omega) (by omega) (by omega) | exact cq_neq (by omega))))
          refine mw_iload (i := 13) dL_isMessage_274 rfl ?_
          refine mw_iconst (v := 2) dL_isMessage_276 (by decide) ?_
          refine mw_icmp_le (tgt := 309) dL_isMessage_277 (by decide) (fun _ => ?_) (fun c9 => absurd c9 (by first | decide | exact (fun q => q rfl) | ((try simp only [fa_lit]); first | exact cq_le (by omega) (by omega) | exact cq_nle (by omega) (by omega) | exact cq_lt (by omega) (by omega) | exact cq_nlt (by omega) (by omega) | exact cq_eq (by omega) (by omega) (by omega) | exact cq_neq (by omega))))
          exact mw_less (by omega) (by omega) (hnext H1 _ _ _ _ hI)
        · have hsp : sp_byteOf g (nI m) (nI (tg i')) 0 = (3, 0, g) := by
            unfold sp_byteOf
            rw [sM_at (by omega) hT]
            show (if zHas (zKind g.2.1 s (nI (tg i'))) = 0 then _ else _) = _
            rw [hz, zHas_k hκ, if_neg h2, if_neg (by decide), hlk]
          have hw := w_byteOf hI (nI m) (nI (tg i')) 0
          rw [hsp] at hw
          refine mw_iload (i := 13) dL_isMessage_164 rfl ?_
          refine mw_if_lt (tgt := 218) dL_isMessage_166 (by decide) (fun c9 => absurd c9 (cq_lt (b := 0) (Nat.zero_le _) (by omega))) (fun _ => ?_)
          refine mw_iload (i := 13) dL_isMessage_169 rfl ?_
          refine mw_iconst (v := 3) dL_isMessage_171 (by decide) ?_
          refine mw_icmp_ge (tgt := 218) dL_isMessage_172 (by decide) (fun _ => ?_) (fun c9 => absurd c9 (by first | decide | exact (fun q => q rfl) | ((try simp only [fa_lit]); first | exact cq_le (by omega) (by omega) | exact cq_nle (by omega) (by omega) | exact cq_lt (by omega) (by omega) | exact cq_nlt (by omega) (by omega) | exact cq_eq (by omega) (by omega) (by omega) | exact cq_neq (by omega))))
          refine mw_iconst (v := 0) dL_isMessage_218 (by decide) ?_
          refine mw_istore_15 dL_isMessage_219 (by decide) ?_
          refine mw_iload (i := 13) dL_isMessage_221 rfl ?_
          refine mw_iconst (v := 2) dL_isMessage_223 (by decide) ?_
          refine mw_icmp_le (tgt := 274) dL_isMessage_224 (by decide) (fun c9 => absurd c9 (by first | decide | exact (fun q => q rfl) | ((try simp only [fa_lit]); first | exact cq_le (by omega) (by omega) | exact cq_nle (by omega) (by omega) | exact cq_lt (by omega) (by omega) | exact cq_nlt (by omega) (by omega) | exact cq_eq (by omega) (by omega) (by omega) | exact cq_neq (by omega)))) (fun _ => ?_)
          refine mw_iload (i := 14) dL_isMessage_227 rfl ?_
          refine mw_if_lt (tgt := 274) dL_isMessage_229 (by decide) (fun _ => ?_) (fun c9 => absurd c9 (by first | decide | exact (fun q => q rfl)))
          refine mw_iload (i := 13) dL_isMessage_274 rfl ?_
          refine mw_iconst (v := 2) dL_isMessage_276 (by decide) ?_
          refine mw_icmp_le (tgt := 309) dL_isMessage_277 (by decide) (fun c9 => absurd c9 (by first | decide | exact (fun q => q rfl) | ((try simp only [fa_lit]); first | exact cq_le (by omega) (by omega) | exact cq_nle (by omega) (by omega) | exact cq_lt (by omega) (by omega) | exact cq_nlt (by omega) (by omega) | exact cq_eq (by omega) (by omega) (by omega) | exact cq_neq (by omega)))) (fun _ => ?_)
          refine mw_aload_n (i := 0) dL_isMessage_280 rfl rfl ?_
          refine mw_iload_n (i := 1) dL_isMessage_281 rfl rfl ?_
          refine mw_iload (i := 12) dL_isMessage_282 rfl ?_
          refine mw_iload (i := 14) dL_isMessage_284 rfl ?_
          refine mw_if_ge (tgt := 293) dL_isMessage_286 (by decide) (fun c9 => absurd c9 (by first | decide | exact (fun q => q rfl))) (fun _ => ?_)
          refine mw_iconst (v := 0) dL_isMessage_289 (by decide) ?_
          refine mw_goto (tgt := 298) dL_isMessage_290 (by decide) ?_
          refine mw_callSX dL_isMessage_298 mk_L_180 (hw) (by decide) (Nat.le_refl _) (Nat.le_refl _) rfl rfl (Nat.le_of_ble_eq_true rfl) (fun E9 h9 q9 => ?_) (fun v9 h9 q9 => ?_)
          · cases q9.1
          obtain ⟨e9, H1, rfl, hI⟩ := q9
          cases e9
          refine mw_sipush (v := -1074) dL_isMessage_301 (by decide) ?_
          refine mw_icmp_eq (tgt := 309) dL_isMessage_304 (by decide) (fun _ => ?_) (fun c9 => absurd c9 (by first | decide | exact (fun q => q rfl)))
          exact mw_less (by omega) (by omega) (hnext H1 _ _ _ _ hI)
    · obtain ⟨hf, l1, l12⟩ := fR_at hR e
      have hx := hok x (by rw [e]; simp)
      rw [hl]
      have hw := hhas 1 (by rw [hlk]; rfl)
      refine mw_callV dL_isMessage_146 mk_L_191 (cS_o hI) rfl (hw) (by decide) (Nat.le_refl _) (Nat.le_refl _) rfl rfl (Nat.le_of_ble_eq_true rfl) (fun E9 h9 q9 => ?_) (fun v9 h9 q9 => ?_)
      · cases q9.1
      obtain ⟨e9, H1, rfl, hI⟩ := q9
      cases e9
      refine mw_iload (i := 14) dL_isMessage_149 rfl ?_
      refine mw_if_lt (tgt := 158) dL_isMessage_151 (by decide) (fun c9 => absurd c9 (cq_lt (b := 0) (Nat.zero_le _) (by omega))) (fun _ => ?_)
      refine mw_iconst (v := 1) dL_isMessage_154 (by decide) ?_
      refine mw_goto (tgt := 159) dL_isMessage_155 (by decide) ?_
      refine mw_icmp_eq (tgt := 164) dL_isMessage_159 (by decide) (fun _ => ?_) (fun c9 => absurd c9 (by first | decide | exact (fun q => q rfl)))
      rcases hzk with hz | ⟨κ, hκ, hz, -⟩
      · exfalso
        have hkn : knb g.2.1 s x = true := by
          unfold Pt at hPx
          rw [Bool.and_eq_true] at hPx
          exact hPx.2
        unfold knb zKn at hkn
        rw [Pt_tg hx ht.2 hPx, hz, if_pos rfl] at hkn
        exact absurd hkn (by decide)
      · rw [hz]
        by_cases h2 : κ ≤ 2
        · have hsp : sp_get g (nI m) (nI (tg i)) = (0, zStF (nI κ) (nI x.2.2.1), g) := by
            unfold sp_get
            rw [sM_at (by omega) hT]
            show (if zInt (zKind g.2.1 s (nI (tg i))) = 0 then _ else _) = _
            rw [hz, zInt_k hκ, if_pos h2, if_neg (by decide), hlk]
          have hw := d_get hI (nI m) (nI (tg i)) (by rw [hsp])
          rw [hsp] at hw
          refine mw_iload (i := 13) dL_isMessage_164 rfl ?_
          refine mw_if_lt (tgt := 218) dL_isMessage_166 (by decide) (fun c9 => absurd c9 (cq_lt (b := 0) (Nat.zero_le _) (by omega))) (fun _ => ?_)
          refine mw_iload (i := 13) dL_isMessage_169 rfl ?_
          refine mw_iconst (v := 3) dL_isMessage_171 (by decide) ?_
          refine mw_icmp_ge (tgt := 218) dL_isMessage_172 (by decide) (fun c9 => absurd c9 (by first | decide | exact (fun q => q rfl) | ((try simp only [fa_lit]); first | exact cq_le (by omega) (by omega) | exact cq_nle (by omega) (by omega) | exact cq_lt (by omega) (by omega) | exact cq_nlt (by omega) (by omega) | exact cq_eq (by omega) (by omega) (by omega) | exact cq_neq (by omega)))) (fun _ => ?_)
          refine mw_aload_n (i := 0) dL_isMessage_175 rfl rfl ?_
          refine mw_iload_n (i := 1) dL_isMessage_176 rfl rfl ?_
          refine mw_iload (i := 12) dL_isMessage_177 rfl ?_
          refine mw_callV dL_isMessage_179 mk_L_52 (cS_o hI) rfl (hw) (by decide) (Nat.le_refl _) (Nat.le_refl _) rfl rfl (Nat.le_of_ble_eq_true rfl) (fun E9 h9 q9 => ?_) (fun v9 h9 q9 => ?_)
          · cases q9.1
          obtain ⟨e9, H1, rfl, hI⟩ := q9
          cases e9
          refine mw_iload (i := 14) dL_isMessage_182 rfl ?_
          refine mw_if_ge (tgt := 203) dL_isMessage_184 (by decide) (fun _ => ?_) (fun c9 => absurd c9 (cq_nle (a := 0) (Nat.zero_le _) (by omega)))
          refine mw_iload (i := 13) dL_isMessage_203 rfl ?_
          refine mw_aload (i := 7) dL_isMessage_205 rfl ?_
          refine mw_iload (i := 14) dL_isMessage_207 rfl ?_
          refine mw_iald dL_isMessage_209 gl_5 (mw_ix rfl (by omega) (by decide)) ?_
          rw [hf.2.1]
          refine mw_callSr dL_isMessage_210 mk_L_90 ((c_stands _ _)) (by decide) (Nat.le_refl _) (Nat.le_refl _) rfl rfl (Nat.le_of_ble_eq_true rfl) ?_
          refine mw_icmp_eq (tgt := 218) dL_isMessage_213 (by decide) (fun _ => ?_) (fun c9 => absurd c9 (by first | decide | exact (fun q => q rfl)))
          refine mw_iconst (v := 0) dL_isMessage_218 (by decide) ?_
          refine mw_istore_15 dL_isMessage_219 (by decide) ?_
          refine mw_iload (i := 13) dL_isMessage_221 rfl ?_
          refine mw_iconst (v := 2) dL_isMessage_223 (by decide) ?_
          refine mw_icmp_le (tgt := 274) dL_isMessage_224 (by decide) (fun _ => ?_) (fun c9 => absurd c9 (by first | decide | exact (fun q => q rfl) | ((try simp only [fa_lit]); first | exact cq_le (by omega) (by omega) | exact cq_nle (by omega) (by omega) | exact cq_lt (by omega) (by omega) | exact cq_nlt (by omega) (by omega) | exact cq_eq (by omega) (by omega) (by omega) | exact cq_neq (by omega))))
          refine mw_iload (i := 13) dL_isMessage_274 rfl ?_
          refine mw_iconst (v := 2) dL_isMessage_276 (by decide) ?_
          refine mw_icmp_le (tgt := 309) dL_isMessage_277 (by decide) (fun _ => ?_) (fun c9 => absurd c9 (by first | decide | exact (fun q => q rfl) | ((try simp only [fa_lit]); first | exact cq_le (by omega) (by omega) | exact cq_nle (by omega) (by omega) | exact cq_lt (by omega) (by omega) | exact cq_nlt (by omega) (by omega) | exact cq_eq (by omega) (by omega) (by omega) | exact cq_neq (by omega))))
          exact mw_less (by omega) (by omega) (hnext H1 _ _ _ _ hI)
        · have h2t := known_ty hPx (by rw [hz, zHas_k hκ, if_neg h2]; decide) hx
          have hv16 := (hf.2.2 h2t).1
          refine mw_iload (i := 13) dL_isMessage_164 rfl ?_
          refine mw_if_lt (tgt := 218) dL_isMessage_166 (by decide) (fun c9 => absurd c9 (cq_lt (b := 0) (Nat.zero_le _) (by omega))) (fun _ => ?_)
          refine mw_iload (i := 13) dL_isMessage_169 rfl ?_
          refine mw_iconst (v := 3) dL_isMessage_171 (by decide) ?_
          refine mw_icmp_ge (tgt := 218) dL_isMessage_172 (by decide) (fun _ => ?_) (fun c9 => absurd c9 (by first | decide | exact (fun q => q rfl) | ((try simp only [fa_lit]); first | exact cq_le (by omega) (by omega) | exact cq_nle (by omega) (by omega) | exact cq_lt (by omega) (by omega) | exact cq_nlt (by omega) (by omega) | exact cq_eq (by omega) (by omega) (by omega) | exact cq_neq (by omega))))
          refine mw_iconst (v := 0) dL_isMessage_218 (by decide) ?_
          refine mw_istore_15 dL_isMessage_219 (by decide) ?_
          refine lp_byt hm (κ := κ) (at_ := 12 * m + L1.length) (v := x.2.2.1) (x := x) ht.2 (by omega) hκ (by omega) hT hz hlk hf h2t rfl (kc := kq + 1) (ks := kr + 6) (fun H2 hI => ?_) x.2.2.1 0 H1 _ _ (by omega) hI rfl rfl |> mw_less (by omega) (by omega)
          have hsp : sp_byteOf g (nI m) (nI (tg i)) (nI x.2.2.1) = (3, 0, g) := by
            unfold sp_byteOf
            rw [sM_at (by omega) hT]
            show (if zHas (zKind g.2.1 s (nI (tg i))) = 0 then _ else _) = _
            rw [hz, zHas_k hκ, if_neg h2, if_neg (by decide), hlk]
            show (if zIn (nI x.2.2.1) 0 (nI x.2.2.1 - 1) = 0 then _ else _) = _
            rw [zi_out (Nat.le_refl _) (by omega), if_pos rfl]
          have hw := w_byteOf hI (nI m) (nI (tg i)) (nI x.2.2.1)
          rw [hsp] at hw
          refine mw_iload (i := 13) dL_isMessage_274 rfl ?_
          refine mw_iconst (v := 2) dL_isMessage_276 (by decide) ?_
          refine mw_icmp_le (tgt := 309) dL_isMessage_277 (by decide) (fun c9 => absurd c9 (by first | decide | exact (fun q => q rfl) | ((try simp only [fa_lit]); first | exact cq_le (by omega) (by omega) | exact cq_nle (by omega) (by omega) | exact cq_lt (by omega) (by omega) | exact cq_nlt (by omega) (by omega) | exact cq_eq (by omega) (by omega) (by omega) | exact cq_neq (by omega)))) (fun _ => ?_)
          refine mw_aload_n (i := 0) dL_isMessage_280 rfl rfl ?_
          refine mw_iload_n (i := 1) dL_isMessage_281 rfl rfl ?_
          refine mw_iload (i := 12) dL_isMessage_282 rfl ?_
          refine mw_iload (i := 14) dL_isMessage_284 rfl ?_
          refine mw_if_ge (tgt := 293) dL_isMessage_286 (by decide) (fun _ => ?_) (fun c9 => absurd c9 (cq_nle (a := 0) (Nat.zero_le _) (by omega)))
          refine mw_aload (i := 7) dL_isMessage_293 rfl ?_
          refine mw_iload (i := 14) dL_isMessage_295 rfl ?_
          refine mw_iald dL_isMessage_297 gl_5 (mw_ix rfl (by omega) (by decide)) ?_
          rw [hf.2.1]
          refine mw_callSX dL_isMessage_298 mk_L_180 (hw) (by decide) (Nat.le_refl _) (Nat.le_refl _) rfl rfl (Nat.le_of_ble_eq_true rfl) (fun E9 h9 q9 => ?_) (fun v9 h9 q9 => ?_)
          · cases q9.1
          obtain ⟨e9, H1, rfl, hI⟩ := q9
          cases e9
          refine mw_sipush (v := -1074) dL_isMessage_301 (by decide) ?_
          refine mw_icmp_eq (tgt := 309) dL_isMessage_304 (by decide) (fun _ => ?_) (fun c9 => absurd c9 (by first | decide | exact (fun q => q rfl)))
          exact mw_less (by omega) (by omega) (hnext H1 _ _ _ _ hI)
theorem c_isMessage {H : mw_H} (hI : cS sc g H A X) (hM : mR g A X) (hm : m < 5) : mw_Con mm_L_isMessage 9 130 780 [.ref 1, .int (nI m), .ref 43, .ref 44, .ref 45, .ref 46, .ref 47, .ref 48, .ref 49, .ref 50] (gl H A X) (wP sc A X 1 g) := by
  have hgok := cS_ok hI
  refine gm_con pl_L rfl rfl (Nat.le_of_ble_eq_true rfl) rfl ?_
  rcases mR_m hM hgok hm with ⟨hT, hA⟩ | ⟨s, L, hT, hs, hA, hR, hok, h120⟩
  · have hsp : sp_weight g (nI m) = (1, 0, g) := by
      unfold sp_weight
      rw [sM_no (by omega) hT]
    have hw := w_weight hI (nI m)
    rw [hsp] at hw
    refine mw_aload (i := 4) dL_isMessage_0 rfl ?_
    refine mw_iload_n (i := 1) dL_isMessage_2 rfl rfl ?_
    refine mw_iald dL_isMessage_3 gl_2 (mw_ix rfl hm (by decide)) ?_
    refine mw_if_ne (tgt := 23) dL_isMessage_4 (by decide) (fun c9 => absurd c9 (fun z => z hA)) (fun _ => ?_)
    refine mw_aload_n (i := 0) dL_isMessage_7 rfl rfl ?_
    refine mw_iload_n (i := 1) dL_isMessage_8 rfl rfl ?_
    refine mw_callSX dL_isMessage_9 mk_L_152 (hw) (by decide) (Nat.le_refl _) (Nat.le_refl _) rfl rfl (Nat.le_of_ble_eq_true rfl) (fun E9 h9 q9 => ?_) (fun v9 h9 q9 => ?_)
    · cases q9.1
    obtain ⟨e9, H1, rfl, hI⟩ := q9
    cases e9
    refine mw_bipush (v := -71) dL_isMessage_12 (by decide) ?_
    refine mw_icmp_ne (tgt := 21) dL_isMessage_14 (by decide) (fun c9 => absurd c9 (by first | decide | exact (fun q => q rfl))) (fun _ => ?_)
    refine mw_iconst (v := 1) dL_isMessage_17 (by decide) ?_
    refine mw_goto (tgt := 22) dL_isMessage_18 (by decide) ?_
    exact mw_ireturn dL_isMessage_22 ⟨_, rfl, rfl⟩ ⟨rfl, H1, rfl, hI⟩
  · have h12 := hR.2.1
    refine mw_aload (i := 4) dL_isMessage_0 rfl ?_
    refine mw_iload_n (i := 1) dL_isMessage_2 rfl rfl ?_
    refine mw_iald dL_isMessage_3 gl_2 (mw_ix rfl hm (by decide)) ?_
    rw [hA]
    refine mw_if_ne (tgt := 23) dL_isMessage_4 (by decide) (fun _ => ?_) (fun c9 => absurd c9 (nI_ne0 (Nat.succ_pos _) (by have := mR_ns hM; omega)))
    refine mw_iconst (v := 0) dL_isMessage_23 (by decide) ?_
    refine mw_istore_10 dL_isMessage_24 (by decide) ?_
    refine mw_bipush (v := 12) dL_isMessage_26 (by decide) ?_
    refine mw_iload_n (i := 1) dL_isMessage_28 rfl rfl ?_
    refine mw_imul dL_isMessage_29 ?_
    rw [mx_12m]
    refine mw_istore_11 dL_isMessage_30 (by decide) ?_
    refine mw_less (kc' := (4 + 114) + L.length) (ks' := (24 + 684) + 6 * L.length) (by omega) (by omega) ?_
    refine lp_unk hM hm hT hs hA hR hok (fun H hI => ?_) L [] H _ _ rfl hI rfl rfl
    refine mw_iconst (v := 0) dL_isMessage_96 (by decide) ?_
    refine mw_istore_11 dL_isMessage_97 (by decide) ?_
    refine lp_six hM hm hT hs hA hR hok (kc := 4) (ks := 24) (fun H x12 x13 x14 x15 hI => ?_) 6 0 H _ _ _ _ _ _ rfl hI rfl rfl
    have hub : unk g.2.1 s L ≤ 12 := by
      have := List.length_filter_le (fun x => !knb g.2.1 s x) L
      unfold unk
      omega
    have hs1 : sp_schemaOf g (nI m) = (0, nI s, g) := by
      unfold sp_schemaOf
      rw [sM_at (by omega) hT]
    have hw := d_schemaOf hI (nI m) (by rw [hs1])
    rw [hs1] at hw
    refine mw_aload_n (i := 0) dL_isMessage_315 rfl rfl ?_
    refine mw_iload_n (i := 1) dL_isMessage_316 rfl rfl ?_
    refine mw_callV dL_isMessage_317 mk_L_225 (cS_o hI) rfl (hw) (by decide) (Nat.le_refl _) (Nat.le_refl _) rfl rfl (Nat.le_of_ble_eq_true rfl) (fun E9 h9 q9 => ?_) (fun v9 h9 q9 => ?_)
    · cases q9.1
    obtain ⟨e9, H1, rfl, hI⟩ := q9
    cases e9
    refine mw_aload (i := 4) dL_isMessage_320 rfl ?_
    refine mw_iload_n (i := 1) dL_isMessage_322 rfl rfl ?_
    refine mw_iald dL_isMessage_323 gl_2 (mw_ix rfl hm (by decide)) ?_
    rw [hA]
    refine mw_iconst (v := 1) dL_isMessage_324 (by decide) ?_
    refine mw_isub dL_isMessage_325 ?_
    rw [nI_pred]
    have hs2 : sp_unknowns g (nI m) = (0, nI (unk g.2.1 s L), g) := by
      unfold sp_unknowns
      rw [sM_at (by omega) hT]
    have hw := d_unknowns hI (nI m) (by rw [hs2])
    rw [hs2] at hw
    refine mw_icmp_ne (tgt := 373) dL_isMessage_326 (by decide) (fun c9 => absurd c9 (by first | decide | exact (fun q => q rfl))) (fun _ => ?_)
    refine mw_aload_n (i := 0) dL_isMessage_329 rfl rfl ?_
    refine mw_iload_n (i := 1) dL_isMessage_330 rfl rfl ?_
    refine mw_callV dL_isMessage_331 mk_L_228 (cS_o hI) rfl (hw) (by decide) (Nat.le_refl _) (Nat.le_refl _) rfl rfl (Nat.le_of_ble_eq_true rfl) (fun E9 h9 q9 => ?_) (fun v9 h9 q9 => ?_)
    · cases q9.1
    obtain ⟨e9, H1, rfl, hI⟩ := q9
    cases e9
    have hs3 : sp_unknownTag g (nI m) (nI (unk g.2.1 s L)) = (1, 0, g) := by
      unfold sp_unknownTag
      rw [sM_at (by omega) hT]
      show (if zIn (nI (unk g.2.1 s L)) 0 (nI (unk g.2.1 s L) - 1) = 0 then _ else _) = _
      rw [zi_out (Nat.le_refl _) (by omega), if_pos rfl]
    have hw := w_unknownTag hI (nI m) (nI (unk g.2.1 s L))
    rw [hs3] at hw
    refine mw_iload (i := 10) dL_isMessage_334 rfl ?_
    refine mw_icmp_ne (tgt := 373) dL_isMessage_336 (by decide) (fun c9 => absurd c9 (by first | decide | exact (fun q => q rfl))) (fun _ => ?_)
    refine mw_aload_n (i := 0) dL_isMessage_339 rfl rfl ?_
    refine mw_iload_n (i := 1) dL_isMessage_340 rfl rfl ?_
    refine mw_iload (i := 10) dL_isMessage_341 rfl ?_
    refine mw_callSX dL_isMessage_343 mk_L_223 (hw) (by decide) (Nat.le_refl _) (Nat.le_refl _) rfl rfl (Nat.le_of_ble_eq_true rfl) (fun E9 h9 q9 => ?_) (fun v9 h9 q9 => ?_)
    · cases q9.1
    obtain ⟨e9, H1, rfl, hI⟩ := q9
    cases e9
    have hs4 : sp_weight g (nI m) = (0, nI (eL L).length, g) := by
      unfold sp_weight
      rw [sM_at (by omega) hT]
    have hw := w_weight hI (nI m)
    rw [hs4] at hw
    refine mw_bipush (v := -71) dL_isMessage_346 (by decide) ?_
    refine mw_icmp_ne (tgt := 373) dL_isMessage_348 (by decide) (fun c9 => absurd c9 (by first | decide | exact (fun q => q rfl))) (fun _ => ?_)
    refine mw_aload_n (i := 0) dL_isMessage_351 rfl rfl ?_
    refine mw_iload_n (i := 1) dL_isMessage_352 rfl rfl ?_
    refine mw_callSX dL_isMessage_353 mk_L_152 (hw) (by decide) (Nat.le_refl _) (Nat.le_refl _) rfl rfl (Nat.le_of_ble_eq_true rfl) (fun E9 h9 q9 => ?_) (fun v9 h9 q9 => ?_)
    · cases q9.1
    obtain ⟨e9, H1, rfl, hI⟩ := q9
    cases e9
    refine mw_aload (i := 6) dL_isMessage_356 rfl ?_
    refine mw_aload (i := 7) dL_isMessage_358 rfl ?_
    refine mw_aload (i := 5) dL_isMessage_360 rfl ?_
    refine mw_iload_n (i := 1) dL_isMessage_362 rfl rfl ?_
    refine mw_callSr dL_isMessage_363 mk_L_231 ((c_weightOf hm hok hR)) (by decide) (Nat.le_refl _) (Nat.le_refl _) rfl rfl (Nat.le_of_ble_eq_true rfl) ?_
    refine mw_icmp_ne (tgt := 373) dL_isMessage_366 (by decide) (fun c9 => absurd c9 (by first | decide | exact (fun q => q rfl))) (fun _ => ?_)
    refine mw_iconst (v := 1) dL_isMessage_369 (by decide) ?_
    refine mw_goto (tgt := 374) dL_isMessage_370 (by decide) ?_
    exact mw_ireturn dL_isMessage_374 ⟨_, rfl, rfl⟩ ⟨rfl, _, rfl, hI⟩
end IM
