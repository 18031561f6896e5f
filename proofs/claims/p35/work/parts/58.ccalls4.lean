/-! the class's calls: messages come and go (class side) -/
theorem isF_M {S : List Nat} {H H' : mw_H} {a src : Nat} {X : List Nat} {L : List af} {E : Nat → Nat} {pb pa : Int32} (h : isF H a src X L E pb pa) (hM : yM S H H') (hS : ∀ b ∈ S, b < a ∨ a + 4 < b) : isF H' a src X L E pb pa := by
  obtain ⟨hl, nx, lm, f1, f2, f3, f4, g1, ⟨g2, g3, g4, g5⟩, g6⟩ := h
  have ho : ∀ j, j ≤ 4 → a + j ∉ S := fun j hj hm => by have := hS _ hm; omega
  exact ⟨hl, nx, lm, f1, f2, f3, f4, hM.g (ho 0 (by decide)) g1, ⟨hM.g (ho 1 (by decide)) g2, hM.g (ho 2 (by decide)) g3, hM.g (ho 3 (by decide)) g4, hM.g (ho 4 (by decide)) g5⟩, g6⟩
theorem cP_v {H H' : mw_H} {es : List String} {a : mA} {v : Option Value} (q : cP H es a (.inl v) H') : ∃ r : Int32, v = some (.int r) ∧ cP H es a (.inl (some (.int r))) H' := by
  obtain ⟨hG, hc, ⟨z1, z2⟩ | ⟨k, -, -, z⟩⟩ := q
  · exact ⟨a.2.1, Sum.inl.inj z2, hG, hc, Or.inl ⟨z1, rfl⟩⟩
  · cases z
section CD
variable {g : mS} {H H0 : mw_H} {sa ma : Nat → Nat}
theorem cC_M0 {H' : mw_H} (hC : cC g H sa ma) (hM : yM [] H H') : cC g H' sa ma :=
  cC_scr (S := []) hC hM (fun b hb => absurd hb List.not_mem_nil) (cW_M (S := []) hC.2.2.2.2 hM (Or.inl (by simp)) (Or.inl (by simp)) (Or.inl (by simp)) (Or.inl (by simp)) (Or.inl (by simp)) (Or.inl (by simp)) (Or.inl (by simp)))
theorem yM.G0 {H' : mw_H} (h : yM [] H H') : yG H H' := h.G (fun b hb => absurd hb List.not_mem_nil)
theorem yG.tr {H' H'' : mw_H} (h : yG H H') (h' : yG H' H'') : yG H H'' := ⟨Nat.le_trans h.1 h'.1, h'.2.1.trans h.2.1, fun b x h1 h2 hx => h'.2.2 b x h1 h2 (h.2.2 b x h1 h2 hx)⟩
/-- a message comes -/
theorem cC_new {a s : Nat} {L : List af} {f : Nat → Option Nat} (hC : cC g H sa ma) (hf12 : fre g.2.2.1 < 12) (hMg : cMg H sa a s L) (hok : okM g.1 s L) (h56 : 55 ≤ a) (hds : ∀ s, s < g.1 → sa s + 5 ≤ a) (hdm : ∀ m, m < 12 → g.2.2.1 m ≠ none → ma m + 3 ≤ a) (h3 : mw_g H 3 = some (xM f)) (hf : ∀ m, m < 12 → f m = (g.2.2.1 m).map (fun _ => ma m)) : cC (gSet g (fre g.2.2.1) s L) (mw_s H 3 (xM (va_up f (fre g.2.2.1) (some a)))) sa (fun m => if m = fre g.2.2.1 then a else ma m) := by
  have hF : yF [3] H (mw_s H 3 (xM (va_up f (fre g.2.2.1) (some a)))) := yF.rf.s (by simp)
  obtain ⟨c0, c1, ⟨-, c3, c4, c5, c6⟩, d1, d2⟩ := hC
  generalize hfr : fre g.2.2.1 = fr at *
  have hTf : ∀ j, j ≠ fr → (gSet g fr s L).2.2.1 j = g.2.2.1 j := fun j hj => if_neg hj
  have hTn : (gSet g fr s L).2.2.1 fr = some (s, L) := if_pos rfl
  refine ⟨okS_set c0 hok.1 hok.2.1 hok.2.2, cSc_M c1 hF.M (fun b hb => ?_), ⟨⟨_, mw_gs, fun m hm => ?_⟩, fun m s' L' hm hT => ?_, fun m hm hT => ?_, fun m m' hm hm' hT hT' hne => ?_, fun s' m hs' hm hT => ?_⟩, isB_F d1 hF (by simp) (by simp), ?_⟩
  · rw [List.mem_singleton] at hb
    subst hb
    refine ⟨by decide, by decide, fun s' hs' => ?_⟩
    have := c1.2.2.2.1 s' hs'
    omega
  · by_cases e : m = fr
    · rw [e, va_up_self, hTn]
      show some a = some (if fr = fr then a else ma fr)
      rw [if_pos rfl]
    · rw [va_up_ne _ _ e, hf m hm, hTf m e]
      dsimp only
      rw [if_neg e]
  · dsimp only
    by_cases e : m = fr
    · subst e
      rw [hTn] at hT
      cases hT
      rw [if_pos rfl]
      exact cMg_M hMg hF.M (fun b hb => by rw [List.mem_singleton] at hb; omega)
    · rw [hTf m e] at hT
      rw [if_neg e]
      have := c4 m hm (by rw [hT]; exact fun z => by cases z)
      exact cMg_M (c3 m s' L' hm hT) hF.M (fun b hb => by rw [List.mem_singleton] at hb; omega)
  · dsimp only
    by_cases e : m = fr
    · rw [if_pos e]; exact h56
    · rw [if_neg e]
      rw [hTf m e] at hT
      exact c4 m hm hT
  · dsimp only
    by_cases e : m = fr
    · rw [if_pos e, if_neg (fun z => hne (e.trans z.symm))]
      rw [hTf m' (fun z => hne (e.trans z.symm))] at hT'
      exact Or.inr (hdm m' hm' hT')
    · rw [if_neg e]
      rw [hTf m e] at hT
      by_cases e' : m' = fr
      · rw [if_pos e']
        exact Or.inl (hdm m hm hT)
      · rw [if_neg e']
        rw [hTf m' e'] at hT'
        exact c5 m m' hm hm' hT hT' hne
  · dsimp only
    by_cases e : m = fr
    · rw [if_pos e]
      exact Or.inl (hds s' hs')
    · rw [if_neg e]
      rw [hTf m e] at hT
      exact c6 s' m hs' hm hT
  · exact cW_M d2 hF.M (Or.inl (by decide)) (Or.inl (by decide)) (Or.inl (by decide)) (Or.inl (by decide)) (Or.inl (by decide)) (Or.inl (by decide)) (Or.inl (by decide))
theorem lp_am1 {a : Nat} {vs : List Value} {f : Nat → Option Nat} {T : Nat → Option (Nat × List af)} {n0 : Nat} (h_this : mw_g H 1 = some (xV n0)) (h_p1 : mw_g H a = some (.inr (3, vs))) (h_this_messages : mw_g H 3 = some (xM f)) (hf : ∀ m, m < 12 → f m = (T m).map (fun _ => ma m)) (hfr : fre T < 12) : ∀ (d n : Nat), n + d = fre T →
    mw_W mm_X6_addMessage 6 0 0 2 [some (.ref 1), some (.ref a), some (.int (nI n))] [] H (mw_ret (.int (nI (fre T))) (mw_s H 3 (xM (va_up f (fre T) (some a))))) := by
  intro d
  induction d with
  | zero =>
    intro n hn
    have hn : n = fre T := hn
    have hyes := fa_first_yes (fun m => decide (T m = none)) 12 hfr
    have hTn : T (fre T) = none := of_decide_eq_true hyes
    have hv : f (fre T) = none := by rw [hf _ hfr, hTn]; rfl
    rw [hn]
    generalize fre T = fr at *
    have ix := mw_ix rfl hfr (by decide)
    refine mw_iload_n (i := 2) dX6_addMessage_2 rfl rfl ?_
    refine mw_aload_n (i := 0) dX6_addMessage_3 rfl rfl ?_
    refine mw_get dX6_addMessage_4 fk_X6_17 h_this rfl ?_
    refine mw_alen (fun _ => rfl) dX6_addMessage_7 h_this_messages ?_
    refine mw_icmp_ge (tgt := 35) dX6_addMessage_8 (by decide) (fun c9 => absurd c9 (nI_ge (show fr < 12 by omega) (by decide))) (fun _ => ?_)
    refine mw_aload_n (i := 0) dX6_addMessage_11 rfl rfl ?_
    refine mw_get dX6_addMessage_12 fk_X6_17 h_this rfl ?_
    refine mw_iload_n (i := 2) dX6_addMessage_15 rfl rfl ?_
    refine mw_aald ty_M dX6_addMessage_16 h_this_messages ix ?_
    rw [hv]
    refine mw_ifnonnullN dX6_addMessage_17 ?_
    refine mw_aload_n (i := 0) dX6_addMessage_20 rfl rfl ?_
    refine mw_get dX6_addMessage_21 fk_X6_17 h_this rfl ?_
    refine mw_iload_n (i := 2) dX6_addMessage_24 rfl rfl ?_
    refine mw_aload_n (i := 1) dX6_addMessage_25 rfl rfl ?_
    refine mw_aast ty_M dX6_addMessage_26 h_this_messages ix h_p1 rfl ?_
    refine mw_iload_n (i := 2) dX6_addMessage_27 rfl rfl ?_
    exact mw_ireturn dX6_addMessage_28 ⟨_, rfl, rfl⟩ ⟨rfl, rfl⟩
  | succ d ih =>
    intro n hn
    have hno := of_decide_eq_false (fa_first_no (fun m => decide (T m = none)) 12 n (show n < fre T by omega))
    obtain ⟨q, hq⟩ : ∃ q, T n = some q := by
      cases h : T n with
      | none => exact absurd h hno
      | some q => exact ⟨q, rfl⟩
    have hv : f n = some (ma n) := by rw [hf _ (by omega), hq]; rfl
    refine mw_iload_n (i := 2) dX6_addMessage_2 rfl rfl ?_
    refine mw_aload_n (i := 0) dX6_addMessage_3 rfl rfl ?_
    refine mw_get dX6_addMessage_4 fk_X6_17 h_this rfl ?_
    refine mw_alen (fun _ => rfl) dX6_addMessage_7 h_this_messages ?_
    refine mw_icmp_ge (tgt := 35) dX6_addMessage_8 (by decide) (fun c9 => absurd c9 (nI_ge (show n < 12 by omega) (by decide))) (fun _ => ?_)
    refine mw_aload_n (i := 0) dX6_addMessage_11 rfl rfl ?_
    refine mw_get dX6_addMessage_12 fk_X6_17 h_this rfl ?_
    refine mw_iload_n (i := 2) dX6_addMessage_15 rfl rfl ?_
    refine mw_aald ty_M dX6_addMessage_16 h_this_messages (mw_ix rfl (show n < 12 by omega) (by decide)) ?_
    rw [hv]
    refine mw_ifnonnull dX6_addMessage_17 (tgt := 29) (by decide) ?_
    refine mw_iinc_2 dX6_addMessage_29 (by decide) rfl ?_
    refine mw_goto (tgt := 2) dX6_addMessage_32 (by decide) ?_
    rw [show nI n + Int32.ofInt 1 = nI (n + 1) from nI_1 n]
    exact ih (n + 1) (by omega)
theorem lp_am0 {a : Nat} {f : Nat → Option Nat} {T : Nat → Option (Nat × List af)} {n0 : Nat} (h_this : mw_g H 1 = some (xV n0)) (h_this_messages : mw_g H 3 = some (xM f)) (hf : ∀ m, m < 12 → f m = (T m).map (fun _ => ma m)) (hfr : fre T = 12) : ∀ (d n : Nat), n + d = 12 →
    mw_W mm_X6_addMessage 6 1 6 2 [some (.ref 1), some (.ref a), some (.int (nI n))] [] H (zX H eIS 8) := by
  intro d
  induction d with
  | zero =>
    intro n hn
    have hn : n = 12 := hn
    subst hn
    refine mw_iload_n (i := 2) dX6_addMessage_2 rfl rfl ?_
    refine mw_aload_n (i := 0) dX6_addMessage_3 rfl rfl ?_
    refine mw_get dX6_addMessage_4 fk_X6_17 h_this rfl ?_
    refine mw_alen (fun _ => rfl) dX6_addMessage_7 h_this_messages ?_
    refine mw_icmp_ge (tgt := 35) dX6_addMessage_8 (by decide) (fun _ => ?_) (fun c9 => absurd c9 (by first | decide | (rw [pk_us]; decide)))
    refine mw_throwW th_X6_65_313_69 dX6_addMessage_35 dX6_addMessage_38 dX6_addMessage_39 dX6_addMessage_42 dX6_addMessage_45 rfl (by decide) (by decide) (by decide) (Nat.le_of_ble_eq_true rfl) ⟨rfl, rfl⟩
  | succ d ih =>
    intro n hn
    have hno := of_decide_eq_false (fa_first_no (fun m => decide (T m = none)) 12 n (by rw [show fa_first (fun m => decide (T m = none)) 12 = 12 from hfr]; omega))
    obtain ⟨q, hq⟩ : ∃ q, T n = some q := by
      cases h : T n with
      | none => exact absurd h hno
      | some q => exact ⟨q, rfl⟩
    have hv : f n = some (ma n) := by rw [hf _ (by omega), hq]; rfl
    refine mw_iload_n (i := 2) dX6_addMessage_2 rfl rfl ?_
    refine mw_aload_n (i := 0) dX6_addMessage_3 rfl rfl ?_
    refine mw_get dX6_addMessage_4 fk_X6_17 h_this rfl ?_
    refine mw_alen (fun _ => rfl) dX6_addMessage_7 h_this_messages ?_
    refine mw_icmp_ge (tgt := 35) dX6_addMessage_8 (by decide) (fun c9 => absurd c9 (nI_ge (show n < 12 by omega) (by decide))) (fun _ => ?_)
    refine mw_aload_n (i := 0) dX6_addMessage_11 rfl rfl ?_
    refine mw_get dX6_addMessage_12 fk_X6_17 h_this rfl ?_
    refine mw_iload_n (i := 2) dX6_addMessage_15 rfl rfl ?_
    refine mw_aald ty_M dX6_addMessage_16 h_this_messages (mw_ix rfl (show n < 12 by omega) (by decide)) ?_
    rw [hv]
    refine mw_ifnonnull dX6_addMessage_17 (tgt := 29) (by decide) ?_
    refine mw_iinc_2 dX6_addMessage_29 (by decide) rfl ?_
    refine mw_goto (tgt := 2) dX6_addMessage_32 (by decide) ?_
    rw [show nI n + Int32.ofInt 1 = nI (n + 1) from nI_1 n]
    exact ih (n + 1) (by omega)
theorem y_addMessage {a s : Nat} {L : List af} {es : List String} (hC : cC g H sa ma) (hG : yG H0 H) (hMg : cMg H sa a s L) (hok : okM g.1 s L) (h56 : 55 ≤ a) (hds : ∀ s, s < g.1 → sa s + 5 ≤ a) (hdm : ∀ m, m < 12 → g.2.2.1 m ≠ none → ma m + 3 ≤ a) (k : Nat) (hk : k < es.length) (hE : es.getD k "" = eIS) : mw_Con mm_X6_addMessage 6 1 6 [.ref 1, .ref a] H (cP H0 es (newM g (nI (k + 1)) s L)) := by
  refine gm_con pl_X6 rfl rfl (Nat.le_of_ble_eq_true rfl) rfl ?_
  refine mw_wf (fun hw => ?_)
  obtain ⟨f, h3, hf⟩ := hC.2.2.1.1
  refine mw_iconst (v := 0) dX6_addMessage_0 (by decide) ?_
  refine mw_istore_2 dX6_addMessage_1 (by decide) ?_
  unfold newM
  by_cases e : fre g.2.2.1 = 12
  · rw [if_pos e]
    refine mw_post (fun v h' z => ?_) (lp_am0 (a := a) (cC_x hC) h3 hf e 12 0 rfl)
    obtain ⟨rfl, rfl⟩ := z
    exact cP_x hC hw hG k hk hE
  · rw [if_neg e]
    have hle := fa_first_le (fun m => decide (g.2.2.1 m = none)) 12
    have hlt : fre g.2.2.1 < 12 := Nat.lt_of_le_of_ne hle e
    refine mw_less (kc' := 0) (ks' := 0) (Nat.zero_le _) (Nat.zero_le _) ?_
    refine mw_post (fun v h' z => ?_) (lp_am1 (cC_x hC) hMg.1 h3 hf hlt (fre g.2.2.1) 0 (Nat.zero_add _))
    obtain ⟨rfl, rfl⟩ := z
    exact cP_r (g := gSet g (fre g.2.2.1) s L) (cC_new hC hlt hMg hok h56 hds hdm h3 hf) (hG.tr (((yF.rf.s (S := [3]) (by simp)).M).G (by decide)))
theorem dis_a (hC : cC g H sa ma) (hw : wfH H) : (∀ s, s < g.1 → sa s + 5 ≤ H.1) ∧ (∀ m, m < 12 → g.2.2.1 m ≠ none → ma m + 3 ≤ H.1) := by
  refine ⟨fun s hs => ?_, fun m hm hT => ?_⟩
  · obtain ⟨f, h1, -⟩ := (cC_sc hC hs).2.2.2.1
    have := (hw _ _ h1).2
    omega
  · cases hq : g.2.2.1 m with
    | none => exact absurd hq hT
    | some q =>
      obtain ⟨s, L⟩ := q
      obtain ⟨f, h1, -⟩ := (cC_me hC hm hq).2.2.2.2
      have := (hw _ _ h1).2
      omega
theorem y_newMsg {s : Nat} (hw : wfH H) : mw_Con mm_X3_init 2 2 258 [.ref H.1, .ref (sa s)] (mw_n H (.inr (3, [.null, .null]))) (fun v H' => v = .inl none ∧ H'.1 = H.1 + 3 ∧ yM [] H H' ∧ cMg H' sa H.1 s []) := by
  refine mw_con_post (fun v h' z => ?_) (y_X3_init (H := mw_n H (.inr (3, [.null, .null]))) (a := H.1) (sc := sa s) mw_gn)
  obtain ⟨z1, z2, z3, z4, z5⟩ := z
  exact ⟨z1, z2, yM.trw hw (yM.n hw) z3 (fun b hb => Or.inl (by rw [List.mem_singleton] at hb; omega)), z4, z5⟩
theorem k_create (hC : cC g H sa ma) (h56 : 55 ≤ H.1) (s : Int32) : mw_Con mm_X6_create 7 4 266 [.ref 1, .int s] H (cP H [eIO, eIS] (sp_create g s)) := by
  refine gm_con pl_X6 rfl rfl (Nat.le_of_ble_eq_true rfl) rfl ?_
  unfold sp_create
  refine mw_wf (fun hw => ?_)
  have h_this := cC_x hC
  obtain ⟨ds, dm⟩ := dis_a hC hw
  refine mw_aload_n (i := 0) dX6_create_0 rfl rfl ?_
  refine mw_new (ci := 3) rfl cf_3 nw_X6_15 df_3 (fun _ => rfl) dX6_create_1 (Nat.le_refl _) (Nat.le_refl _) ?_
  refine mw_dup dX6_create_4 rfl ?_
  refine mw_aload_n (i := 0) dX6_create_5 rfl rfl ?_
  refine mw_iload_n (i := 1) dX6_create_6 rfl rfl ?_
  have hCn : cC g (mw_n H (.inr (3, [.null, .null]))) sa ma := cC_n hC hw
  have hwn : wfH (mw_n H (.inr (3, [.null, .null]))) := wfH.n hw (by omega)
  have h_this := cC_x hCn
  have hGn : yG H (mw_n H (.inr (3, [.null, .null]))) := (yM.n (S := []) hw).G0
  cases hs : sS g s with
  | none =>
    refine mw_callV dX6_create_7 mk_X6_75 h_this rfl (y_sA0 hCn hs) (by decide) (Nat.le_refl _) (Nat.le_refl _) rfl rfl (Nat.le_of_ble_eq_true rfl) (fun E9 h9 q9 => ?_) (fun v9 h9 q9 => ?_)
    · obtain ⟨e9, rfl⟩ := q9
      cases e9
      exact mw_out rfl (cP_x hCn hwn hGn 0 (by decide) rfl)
    · cases q9.1
  | some j =>
    obtain ⟨hj, rfl⟩ := sS_in (cC_ns hC) hs
    refine mw_callVr dX6_create_7 mk_X6_75 h_this rfl (y_sA1 hCn hs) (by decide) (Nat.le_refl _) (Nat.le_refl _) rfl rfl (Nat.le_of_ble_eq_true rfl) ?_
    refine mw_callI dX6_create_10 mk_X6_112 (y_newMsg (s := j) hw) (by decide) (Nat.le_refl _) (Nat.le_refl _) rfl rfl (Nat.le_of_ble_eq_true rfl) (fun E9 h9 q9 => ?_) (fun v9 h9 q9 => ?_)
    · cases q9.1
    obtain ⟨e9, u1, u2, u3⟩ := q9
    cases e9
    have hC9 := cC_M0 hC u2
    have h_this := cC_x hC9
    refine mw_callV dX6_create_13 mk_X6_115 h_this rfl (y_addMessage (es := [eIO, eIS]) hC9 u2.G0 u3 ⟨hj, fun x hx => absurd hx List.not_mem_nil, Nat.zero_le _⟩ h56 ds dm 1 (by decide) rfl) (by decide) (Nat.le_refl _) (Nat.le_refl _) rfl rfl (Nat.le_of_ble_eq_true rfl) (fun E9 h9 q9 => ?_) (fun v9 h9 q9 => ?_)
    · exact mw_out rfl q9
    · obtain ⟨r, rfl, q9⟩ := cP_v q9
      exact mw_ireturn dX6_create_16 ⟨_, rfl, rfl⟩ q9
theorem k_copy (hC : cC g H sa ma) (h56 : 55 ≤ H.1) (m s : Int32) : mw_Con mm_X6_copy 7 4 266 [.ref 1, .int m, .int s] H (cP H [eIO, eIS] (sp_copy g m s)) := by
  refine gm_con pl_X6 rfl rfl (Nat.le_of_ble_eq_true rfl) rfl ?_
  unfold sp_copy
  refine mw_wf (fun hw => ?_)
  have h_this := cC_x hC
  obtain ⟨ds, dm⟩ := dis_a hC hw
  cases hm : sM g m with
  | none =>
    refine mw_aload_n (i := 0) dX6_copy_0 rfl rfl ?_
    refine mw_iload_n (i := 1) dX6_copy_1 rfl rfl ?_
    refine mw_callV dX6_copy_2 mk_X6_119 h_this rfl (y_mA0 hC hm) (by decide) (Nat.le_refl _) (Nat.le_refl _) rfl rfl (Nat.le_of_ble_eq_true rfl) (fun E9 h9 q9 => ?_) (fun v9 h9 q9 => ?_)
    · obtain ⟨e9, rfl⟩ := q9
      cases e9
      exact mw_out rfl (cP_x hC hw yG.rf 0 (by decide) rfl)
    · cases q9.1
  | some q =>
    obtain ⟨m', s0, L⟩ := q
    obtain ⟨hm12, rfl, hT⟩ := sM_in hm
    have hok := cC_ok hC hm12 hT
    refine mw_aload_n (i := 0) dX6_copy_0 rfl rfl ?_
    refine mw_iload_n (i := 1) dX6_copy_1 rfl rfl ?_
    refine mw_callVr dX6_copy_2 mk_X6_119 h_this rfl (y_mA1 hC hm) (by decide) (Nat.le_refl _) (Nat.le_refl _) rfl rfl (Nat.le_of_ble_eq_true rfl) ?_
    refine mw_astore_3 dX6_copy_5 (by decide) ?_
    refine mw_new (ci := 3) rfl cf_3 nw_X6_15 df_3 (fun _ => rfl) dX6_copy_6 (Nat.le_refl _) (Nat.le_refl _) ?_
    refine mw_dup dX6_copy_9 rfl ?_
    refine mw_aload_n (i := 0) dX6_copy_10 rfl rfl ?_
    refine mw_iload_n (i := 2) dX6_copy_11 rfl rfl ?_
    have hCn : cC g (mw_n H (.inr (3, [.null, .null]))) sa ma := cC_n hC hw
    have hwn : wfH (mw_n H (.inr (3, [.null, .null]))) := wfH.n hw (by omega)
    have h_this := cC_x hCn
    have hGn : yG H (mw_n H (.inr (3, [.null, .null]))) := (yM.n (S := []) hw).G0
    cases hs : sS g s with
    | none =>
      refine mw_callV dX6_copy_12 mk_X6_75 h_this rfl (y_sA0 hCn hs) (by decide) (Nat.le_refl _) (Nat.le_refl _) rfl rfl (Nat.le_of_ble_eq_true rfl) (fun E9 h9 q9 => ?_) (fun v9 h9 q9 => ?_)
      · obtain ⟨e9, rfl⟩ := q9
        cases e9
        exact mw_out rfl (cP_x hCn hwn hGn 0 (by decide) rfl)
      · cases q9.1
    | some j =>
      obtain ⟨hj, rfl⟩ := sS_in (cC_ns hC) hs
      refine mw_callVr dX6_copy_12 mk_X6_75 h_this rfl (y_sA1 hCn hs) (by decide) (Nat.le_refl _) (Nat.le_refl _) rfl rfl (Nat.le_of_ble_eq_true rfl) ?_
      refine mw_callI dX6_copy_15 mk_X6_112 (y_newMsg (s := j) hw) (by decide) (Nat.le_refl _) (Nat.le_refl _) rfl rfl (Nat.le_of_ble_eq_true rfl) (fun E9 h9 q9 => ?_) (fun v9 h9 q9 => ?_)
      · cases q9.1
      obtain ⟨e9, u1, u2, u3⟩ := q9
      cases e9
      have hC9 := cC_M0 hC u2
      have h_new6 := u3.1
      obtain ⟨h_r2, hB⟩ := cC_me hC9 hm12 hT
      have h_new6_row := u3.2.1
      have hd := dm m' hm12 (by rw [hT]; exact fun z => by cases z)
      refine mw_astore_4 dX6_copy_18 (by decide) ?_
      refine mw_aload (i := 4) dX6_copy_20 rfl ?_
      refine mw_get dX6_copy_22 fk_X6_123 h_new6 rfl ?_
      refine mw_aload_n (i := 3) dX6_copy_25 rfl rfl ?_
      refine mw_get dX6_copy_26 fk_X6_123 h_r2 rfl ?_
      refine mw_callV dX6_copy_29 mk_X6_126 h_new6_row rfl (y_replaceBy u3.2 hB (by omega) (by omega)) (by decide) (Nat.le_refl _) (Nat.le_refl _) rfl rfl (Nat.le_of_ble_eq_true rfl) (fun E9 h9 q9 => ?_) (fun v9 h9 q9 => ?_)
      · cases q9.1
      obtain ⟨e9, v1, v2⟩ := q9
      cases e9
      have hM2 : yM [] H h9 := yM.trw hw u2 v2.M (fun b hb => Or.inl (by simp at hb; omega))
      have hC8 := cC_M0 hC hM2
      have h_this := cC_x hC8
      refine mw_aload_n (i := 0) dX6_copy_32 rfl rfl ?_
      refine mw_aload (i := 4) dX6_copy_33 rfl ?_
      refine mw_callV dX6_copy_35 mk_X6_115 h_this rfl (y_addMessage (es := [eIO, eIS]) hC8 hM2.G0 ⟨v2.g (by simp) u3.1, v1⟩ ⟨hj, hok.2⟩ h56 ds dm 1 (by decide) rfl) (by decide) (Nat.le_refl _) (Nat.le_refl _) rfl rfl (Nat.le_of_ble_eq_true rfl) (fun E9 h9 q9 => ?_) (fun v9 h9 q9 => ?_)
      · exact mw_out rfl q9
      · obtain ⟨r, rfl, q9⟩ := cP_v q9
        exact mw_ireturn dX6_copy_38 ⟨_, rfl, rfl⟩ q9
theorem lp_mo {h8 : mw_H} {src cs tg ct a sc : Nat} {X : List Nat} {L : List af} {E : Nat → Nat} {pb pa : Int32} (hI : isF h8 10 src X L E pb pa) (hB : isB h8 src cs X) (hMs : mw_g h8 a = some (.inr (3, [.ref sc, .ref tg]))) (hT0 : isB h8 tg ct []) (n1 : src ≠ tg) (n2 : cs ≠ ct) (n3 : a ≠ ct) (hl : (eL L).length ≤ 256) (x1 : Option Value) : ∀ (r n : Nat) (H' : mw_H), n + r = L.length → yF [tg, ct] h8 H' → isB H' tg ct (eL (L.take n)) →
    mw_W mm_X6_messageOf 5 0 0 11 [some (.ref 10), x1, some (.ref a), some (.int (nI n))] [] H' (fun v H' => v = .inl (some (.ref a)) ∧ yF [tg, ct] h8 H' ∧ isB H' tg ct (eL L)) := by
  have n4 : a ≠ tg := g_ne hMs hT0.1 (fun z => by cases z)
  intro r
  induction r with
  | zero =>
    intro n H' hn hF hT
    have hn : n = L.length := hn
    have hI' := isF_T hI hT0 hF
    have hI0 := hI'
    obtain ⟨h60, nx, lm, f1, f2, f3, f4, h_p0, -, -⟩ := hI'
    refine mw_iload_n (i := 3) dX6_messageOf_11 rfl rfl ?_
    refine mw_aload_n (i := 0) dX6_messageOf_12 rfl rfl ?_
    refine mw_callVr dX6_messageOf_13 mk_X6_134 h_p0 rfl (y_fcount hI0) (by decide) (Nat.le_refl _) (Nat.le_refl _) rfl rfl (Nat.le_of_ble_eq_true rfl) ?_
    refine mw_icmp_ge (tgt := 34) dX6_messageOf_16 (by decide) (fun _ => ?_) (fun c9 => absurd c9 (fun z => z (nI_le (by omega) (by omega))))
    refine mw_aload_n (i := 2) dX6_messageOf_34 rfl rfl ?_
    rw [hn, List.take_length] at hT
    exact mw_areturn dX6_messageOf_35 ⟨_, rfl⟩ ⟨rfl, hF, hT⟩
  | succ r ih =>
    intro n H' hn hF hT
    have hnl : n < L.length := by omega
    have hI' := isF_T hI hT0 hF
    have hI0 := hI'
    have hB' := isB_T hB hT0 n1 n2 hF
    have h_new0 := hF.g (b := a) (by simp; exact ⟨n4, n3⟩) hMs
    obtain ⟨h60, nx, lm, f1, f2, f3, f4, h_p0, -, -⟩ := hI'
    have e2 : eL (L.take (n + 1)) = eL (L.take n) ++ ef (ga L n) := by
      have h8 : L.take (n + 1) = L.take n ++ [ga L n] := by
        unfold ga
        rw [List.take_succ, List.getD_eq_getElem?_getD, List.getElem?_eq_getElem hnl]
        rfl
      rw [h8, eL_app, eL_cons]
      show _ ++ (_ ++ []) = _
      rw [List.append_nil]
    have e3 := eL_take L (n + 1)
    rw [e2, List.length_append] at e3
    refine mw_iload_n (i := 3) dX6_messageOf_11 rfl rfl ?_
    refine mw_aload_n (i := 0) dX6_messageOf_12 rfl rfl ?_
    refine mw_callVr dX6_messageOf_13 mk_X6_134 h_p0 rfl (y_fcount hI0) (by decide) (Nat.le_refl _) (Nat.le_refl _) rfl rfl (Nat.le_of_ble_eq_true rfl) ?_
    refine mw_icmp_ge (tgt := 34) dX6_messageOf_16 (by decide) (fun c9 => absurd c9 (nI_ge hnl (by omega))) (fun _ => ?_)
    refine mw_aload_n (i := 0) dX6_messageOf_19 rfl rfl ?_
    refine mw_aload_n (i := 2) dX6_messageOf_20 rfl rfl ?_
    refine mw_get dX6_messageOf_21 fk_X6_123 h_new0 rfl ?_
    refine mw_iload_n (i := 3) dX6_messageOf_24 rfl rfl ?_
    refine mw_callV dX6_messageOf_25 mk_X6_215 h_p0 rfl (y_fwriteTo hI0 hB' hT n1 n2 hnl (by omega)) (by decide) (Nat.le_refl _) (Nat.le_refl _) rfl rfl (Nat.le_of_ble_eq_true rfl) (fun E9 h9 q9 => ?_) (fun v9 h9 q9 => ?_)
    · cases q9.1
    obtain ⟨e9, u1, u2⟩ := q9
    cases e9
    refine mw_iinc_3 dX6_messageOf_28 (by decide) rfl ?_
    refine mw_goto (tgt := 11) dX6_messageOf_31 (by decide) ?_
    rw [show nI n + Int32.ofInt 1 = nI (n + 1) from nI_1 n]
    rw [← e2] at u1
    exact ih (n + 1) h9 (by omega) (hF.tr u2) u1
theorem y_messageOf {src cs s : Nat} {X : List Nat} {L : List af} {E : Nat → Nat} {pb pa : Int32} (hI : isF H 10 src X L E pb pa) (hB : isB H src cs X) (hl : (eL L).length ≤ 256) : mw_Con mm_X6_messageOf 5 3 260 [.ref 10, .ref (sa s)] H (fun v H' => v = .inl (some (.ref H.1)) ∧ yM [] H H' ∧ cMg H' sa H.1 s L) := by
  refine gm_con pl_X6 rfl rfl (Nat.le_of_ble_eq_true rfl) rfl ?_
  refine mw_wf (fun hw => ?_)
  have s1 := (hw _ _ hB.1).2
  obtain ⟨f0, hf0, -⟩ := hB.2.2.2
  have s2 := (hw _ _ hf0).2
  refine mw_new (ci := 3) rfl cf_3 nw_X6_15 df_3 (fun _ => rfl) dX6_messageOf_0 (Nat.le_refl _) (Nat.le_refl _) ?_
  refine mw_dup dX6_messageOf_3 rfl ?_
  refine mw_aload_n (i := 1) dX6_messageOf_4 rfl rfl ?_
  refine mw_callI dX6_messageOf_5 mk_X6_112 (y_newMsg (s := s) hw) (by decide) (Nat.le_refl _) (Nat.le_refl _) rfl rfl (Nat.le_of_ble_eq_true rfl) (fun E9 h9 q9 => ?_) (fun v9 h9 q9 => ?_)
  · cases q9.1
  obtain ⟨e9, u1, u2, u3⟩ := q9
  cases e9
  refine mw_astore_2 dX6_messageOf_8 (by decide) ?_
  refine mw_iconst (v := 0) dX6_messageOf_9 (by decide) ?_
  refine mw_istore_3 dX6_messageOf_10 (by decide) ?_
  refine mw_post (fun v h' z => ?_) (lp_mo (h8 := h9) (isF_M hI u2 (fun b hb => absurd hb List.not_mem_nil)) (isB_M hB u2 List.not_mem_nil List.not_mem_nil) u3.1 u3.2 (by omega) (by omega) (by omega) hl _ L.length 0 h9 (Nat.zero_add _) yF.rf u3.2)
  obtain ⟨z1, z2, z3⟩ := z
  exact ⟨z1, yM.trw hw u2 z2.M (fun b hb => Or.inl (by simp at hb; omega)), z2.g (by simp) u3.1, z3⟩
theorem k_read (hC : cC g H sa ma) (h56 : 55 ≤ H.1) (x : Int32) : mw_Con mm_X6_read 7 4 266 [.ref 1, .int x] H (cP H [eIO, eIA, eIS] (sp_read g x)) := by
  refine gm_con pl_X6 rfl rfl (Nat.le_of_ble_eq_true rfl) rfl ?_
  unfold sp_read
  refine mw_wf (fun hw => ?_)
  have h_this := cC_x hC
  have hl := hC.1.2.2.2.2.1
  have hf4 := prsL_le4 g.2.2.2
  obtain ⟨o2, o3⟩ := prsL_ok hC.1.2.2.2.2.2
  cases hs : sS g x with
  | none =>
    refine mw_aload_n (i := 0) dX6_read_0 rfl rfl ?_
    refine mw_iload_n (i := 1) dX6_read_1 rfl rfl ?_
    refine mw_callV dX6_read_2 mk_X6_75 h_this rfl (y_sA0 hC hs) (by decide) (Nat.le_refl _) (Nat.le_refl _) rfl rfl (Nat.le_of_ble_eq_true rfl) (fun E9 h9 q9 => ?_) (fun v9 h9 q9 => ?_)
    · obtain ⟨e9, rfl⟩ := q9
      cases e9
      exact mw_out rfl (cP_x hC hw yG.rf 0 (by decide) rfl)
    · cases q9.1
  | some j =>
    obtain ⟨hj, rfl⟩ := sS_in (cC_ns hC) hs
    dsimp only
    refine mw_aload_n (i := 0) dX6_read_0 rfl rfl ?_
    refine mw_iload_n (i := 1) dX6_read_1 rfl rfl ?_
    refine mw_callVr dX6_read_2 mk_X6_75 h_this rfl (y_sA1 hC hs) (by decide) (Nat.le_refl _) (Nat.le_refl _) rfl rfl (Nat.le_of_ble_eq_true rfl) ?_
    refine mw_astore_2 dX6_read_5 (by decide) ?_
    refine mw_aload_n (i := 0) dX6_read_6 rfl rfl ?_
    refine mw_callV dX6_read_7 mk_X6_278 h_this rfl (y_fieldsOfTape hC) (by decide) (Nat.le_refl _) (Nat.le_refl _) rfl rfl (Nat.le_of_ble_eq_true rfl) (fun E9 h9 q9 => ?_) (fun v9 h9 q9 => ?_)
    · cases q9.1
    obtain ⟨e9, q1, E, hI⟩ := q9
    cases e9
    have hI0 := hI
    have hC9 := cC_scan hC q1 hI.r
    have hG9 : yG H h9 := q1.M.G (by decide)
    have e19 : h9.1 = H.1 := q1.1
    obtain ⟨-, nx, lm, f1, f2, f3, f4, h_r7, -, -⟩ := hI
    refine mw_wf (fun hw9 => ?_)
    refine mw_astore_3 dX6_read_10 (by decide) ?_
    refine mw_aload_n (i := 3) dX6_read_11 rfl rfl ?_
    refine mw_callVr dX6_read_12 mk_X6_244 h_r7 rfl (y_problem hI0) (by decide) (Nat.le_refl _) (Nat.le_refl _) rfl rfl (Nat.le_of_ble_eq_true rfl) ?_
    by_cases hf : (prsL g.2.2.2).2.1 = 0
    · rw [if_neg (fun z => z hf), hf]
      obtain ⟨ds, dm⟩ := dis_a hC9 hw9
      have h_this := cC_x hC9
      refine mw_if_eq (tgt := 29) dX6_read_15 (by decide) (fun _ => ?_) (fun c9 => absurd c9 (fun z => z rfl))
      refine mw_aload_n (i := 0) dX6_read_29 rfl rfl ?_
      refine mw_aload_n (i := 3) dX6_read_30 rfl rfl ?_
      refine mw_aload_n (i := 2) dX6_read_31 rfl rfl ?_
      refine mw_callS dX6_read_32 mk_X6_249 (y_messageOf (s := j) hI0 hC9.2.2.2.1 (by omega)) (by decide) (Nat.le_refl _) (Nat.le_refl _) rfl rfl (Nat.le_of_ble_eq_true rfl) (fun E9 h9 q9 => ?_) (fun v9 h9 q9 => ?_)
      · cases q9.1
      obtain ⟨e9, u1, u2⟩ := q9
      cases e9
      have hC8 := cC_M0 hC9 u1
      have h_this := cC_x hC8
      refine mw_callV dX6_read_35 mk_X6_115 h_this rfl (y_addMessage (es := [eIO, eIA, eIS]) hC8 (hG9.tr u1.G0) u2 ⟨hj, o2, by omega⟩ (by omega) ds dm 2 (by decide) rfl) (by decide) (Nat.le_refl _) (Nat.le_refl _) rfl rfl (Nat.le_of_ble_eq_true rfl) (fun E9 h9 q9 => ?_) (fun v9 h9 q9 => ?_)
      · exact mw_out rfl q9
      · obtain ⟨r, rfl, q9⟩ := cP_v q9
        exact mw_ireturn dX6_read_38 ⟨_, rfl, rfl⟩ q9
    · rw [if_pos hf]
      refine mw_if_eq (tgt := 29) dX6_read_15 (by decide) (fun c9 => absurd c9 (nb_1 hf hf4)) (fun _ => ?_)
      refine mw_throwW th_X6_82_285_86 dX6_read_18 dX6_read_21 dX6_read_22 dX6_read_25 dX6_read_28 rfl (by decide) (by decide) (by decide) (Nat.le_of_ble_eq_true rfl) (cP_x hC9 hw9 hG9 1 (by decide) rfl)
theorem y_removeMessage {m : Nat} {n0 : Nat} {f : Nat → Option Nat} (h_this : mw_g H 1 = some (xV n0)) (h_this_messages : mw_g H 3 = some (xM f)) (hm : m < 12) : mw_Con mm_X6_removeMessage 0 0 0 [.ref 1, .int (nI m)] H (mw_void (mw_s H 3 (xM (va_up f m none)))) := by
  refine gm_con pl_X6 rfl rfl (Nat.le_of_ble_eq_true rfl) rfl ?_
  refine mw_iload_n (i := 1) dX6_removeMessage_0 rfl rfl ?_
  refine mw_if_lt (tgt := 20) dX6_removeMessage_1 (by decide) (fun c9 => absurd c9 (nI_pos (by omega))) (fun _ => ?_)
  refine mw_iload_n (i := 1) dX6_removeMessage_4 rfl rfl ?_
  refine mw_aload_n (i := 0) dX6_removeMessage_5 rfl rfl ?_
  refine mw_get dX6_removeMessage_6 fk_X6_17 h_this rfl ?_
  refine mw_alen (fun _ => rfl) dX6_removeMessage_9 h_this_messages ?_
  refine mw_icmp_ge (tgt := 20) dX6_removeMessage_10 (by decide) (fun c9 => absurd c9 (nI_ge (show m < 12 by omega) (by decide))) (fun _ => ?_)
  refine mw_aload_n (i := 0) dX6_removeMessage_13 rfl rfl ?_
  refine mw_get dX6_removeMessage_14 fk_X6_17 h_this rfl ?_
  refine mw_iload_n (i := 1) dX6_removeMessage_17 rfl rfl ?_
  refine mw_null dX6_removeMessage_18 ?_
  refine mw_aastN ty_M dX6_removeMessage_19 h_this_messages (mw_ix rfl hm (by decide)) ?_
  exact mw_return dX6_removeMessage_20 rfl ⟨rfl, rfl⟩
theorem cC_del {m : Nat} {f : Nat → Option Nat} (hC : cC g H sa ma) (hf : ∀ m, m < 12 → f m = (g.2.2.1 m).map (fun _ => ma m)) : cC (g.1, g.2.1, fun j => if j = m then none else g.2.2.1 j, g.2.2.2) (mw_s H 3 (xM (va_up f m none))) sa ma := by
  have hF : yF [3] H (mw_s H 3 (xM (va_up f m none))) := yF.rf.s (by simp)
  obtain ⟨⟨b1, b2, b3, b4, b5, b6⟩, c1, ⟨-, c3, c4, c5, c6⟩, d1, d2⟩ := hC
  have hT : ∀ j q, (if j = m then none else g.2.2.1 j) = some q → g.2.2.1 j = some q := fun j q h => by
    by_cases e : j = m
    · rw [if_pos e] at h; cases h
    · rw [if_neg e] at h; exact h
  have hN : ∀ j, (if j = m then none else g.2.2.1 j) ≠ none → g.2.2.1 j ≠ none := fun j h => by
    by_cases e : j = m
    · rw [if_pos e] at h; exact absurd rfl h
    · rw [if_neg e] at h; exact h
  refine ⟨⟨b1, b2, b3, fun m' s L hm hq => b4 m' s L hm (hT _ _ hq), b5, b6⟩, cSc_M (g := g) c1 hF.M (fun b hb => ?_), ⟨⟨_, mw_gs, fun j hj => ?_⟩, fun m' s L hm hq => ?_, fun m' hm hq => c4 m' hm (hN _ hq), fun m1 m2 h1 h2 t1 t2 => c5 m1 m2 h1 h2 (hN _ t1) (hN _ t2), fun s' m' hs' hm hq => c6 s' m' hs' hm (hN _ hq)⟩, isB_F d1 hF (by simp) (by simp), ?_⟩
  · rw [List.mem_singleton] at hb
    subst hb
    refine ⟨by decide, by decide, fun s' hs' => ?_⟩
    have := c1.2.2.2.1 s' hs'
    omega
  · by_cases e : j = m
    · rw [e, va_up_self]
      dsimp only
      rw [if_pos rfl]
      rfl
    · rw [va_up_ne _ _ e, hf j hj]
      dsimp only
      rw [if_neg e]
  · have hq := hT _ _ hq
    have := c4 m' hm (by rw [hq]; exact fun z => by cases z)
    exact cMg_M (c3 m' s L hm hq) hF.M (fun b hb => by rw [List.mem_singleton] at hb; omega)
  · exact cW_M d2 hF.M (Or.inl (by decide)) (Or.inl (by decide)) (Or.inl (by decide)) (Or.inl (by decide)) (Or.inl (by decide)) (Or.inl (by decide)) (Or.inl (by decide))
theorem k_discard (hC : cC g H sa ma) (m : Int32) : mw_Con mm_X6_discard 7 1 6 [.ref 1, .int m] H (cP H [eIO] (sp_discard g m)) := by
  refine gm_con pl_X6 rfl rfl (Nat.le_of_ble_eq_true rfl) rfl ?_
  unfold sp_discard
  refine mw_wf (fun hw => ?_)
  have h_this := cC_x hC
  cases hs : sM g m with
  | none =>
    refine mw_aload_n (i := 0) dX6_discard_0 rfl rfl ?_
    refine mw_aload_n (i := 0) dX6_discard_1 rfl rfl ?_
    refine mw_iload_n (i := 1) dX6_discard_2 rfl rfl ?_
    refine mw_callV dX6_discard_3 mk_X6_119 h_this rfl (y_mA0 hC hs) (by decide) (Nat.le_refl _) (Nat.le_refl _) rfl rfl (Nat.le_of_ble_eq_true rfl) (fun E9 h9 q9 => ?_) (fun v9 h9 q9 => ?_)
    · obtain ⟨e9, rfl⟩ := q9
      cases e9
      exact mw_out rfl (cP_x hC hw yG.rf 0 (by decide) rfl)
    · cases q9.1
  | some q =>
    obtain ⟨m', s, L⟩ := q
    obtain ⟨hm, rfl, hT⟩ := sM_in hs
    refine mw_aload_n (i := 0) dX6_discard_0 rfl rfl ?_
    refine mw_aload_n (i := 0) dX6_discard_1 rfl rfl ?_
    refine mw_iload_n (i := 1) dX6_discard_2 rfl rfl ?_
    refine mw_callVr dX6_discard_3 mk_X6_119 h_this rfl (y_mA1 hC hs) (by decide) (Nat.le_refl _) (Nat.le_refl _) rfl rfl (Nat.le_of_ble_eq_true rfl) ?_
    refine mw_callV dX6_discard_6 mk_X6_130 h_this rfl (y_fieldsOf hC hm hT) (by decide) (Nat.le_refl _) (Nat.le_refl _) rfl rfl (Nat.le_of_ble_eq_true rfl) (fun E9 h9 q9 => ?_) (fun v9 h9 q9 => ?_)
    · cases q9.1
    obtain ⟨e9, q1, E, hI⟩ := q9
    cases e9
    have hI0 := hI
    have hC9 := cC_scan hC q1 hI.r
    obtain ⟨-, nx, lm, f1, f2, f3, f4, h_r6, -, -⟩ := hI
    have h_this := cC_x hC9
    obtain ⟨f, h3, hf⟩ := hC9.2.2.1.1
    refine mw_callVr dX6_discard_9 mk_X6_134 h_r6 rfl (y_fcount hI0) (by decide) (Nat.le_refl _) (Nat.le_refl _) rfl rfl (Nat.le_of_ble_eq_true rfl) ?_
    refine mw_istore_2 dX6_discard_12 (by decide) ?_
    refine mw_aload_n (i := 0) dX6_discard_13 rfl rfl ?_
    refine mw_iload_n (i := 1) dX6_discard_14 rfl rfl ?_
    refine mw_callVv dX6_discard_15 mk_X6_138 h_this rfl (y_removeMessage h_this h3 hm) (by decide) (Nat.le_refl _) (Nat.le_refl _) rfl rfl (Nat.le_of_ble_eq_true rfl) ?_
    refine mw_iload_n (i := 2) dX6_discard_18 rfl rfl ?_
    exact mw_ireturn dX6_discard_19 ⟨_, rfl, rfl⟩ (cP_r (g := (g.1, g.2.1, fun j => if j = m' then none else g.2.2.1 j, g.2.2.2)) (cC_del hC9 hf) (((q1.M.mo (S' := S5 10 ++ [3]) (fun b hb => List.mem_append_left _ hb)).tr ((yF.rf.s (S := S5 10 ++ [3]) (by simp)).M)).G (by decide)))
end CD
