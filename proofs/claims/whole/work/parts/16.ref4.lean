/-! a field, read and written -/
def v4 (b : Nat → Nat) (p : Nat) : Nat := b p + b (p + 1) * 256 + b (p + 2) * 65536 + b (p + 3) * 16777216
/-- (fault, the next place, tag, type, value) -/
def pf (b : Nat → Nat) (e p : Nat) : Nat × Nat × Nat × Nat × Nat :=
  if (pg b e 5 p 0).1 ≠ 0 then ((pg b e 5 p 0).1, 0, 0, 0, 0)
  else if ¬ (1 ≤ (pg b e 5 p 0).2.2 / 8 ∧ (pg b e 5 p 0).2.2 / 8 ≤ 31) then (3, 0, 0, 0, 0)
  else if ¬ ((pg b e 5 p 0).2.2 % 8 = 0 ∨ (pg b e 5 p 0).2.2 % 8 = 2 ∨ (pg b e 5 p 0).2.2 % 8 = 5) then (4, 0, 0, 0, 0)
  else if (pg b e 5 p 0).2.2 % 8 = 5 then if e < (pg b e 5 p 0).2.1 + 4 then (1, 0, 0, 0, 0) else (0, (pg b e 5 p 0).2.1 + 4, (pg b e 5 p 0).2.2 / 8, 5, v4 b (pg b e 5 p 0).2.1)
  else if (pg b e 5 (pg b e 5 p 0).2.1 0).1 ≠ 0 then ((pg b e 5 (pg b e 5 p 0).2.1 0).1, 0, 0, 0, 0)
  else if (pg b e 5 p 0).2.2 % 8 = 2 then if e < (pg b e 5 (pg b e 5 p 0).2.1 0).2.1 + (pg b e 5 (pg b e 5 p 0).2.1 0).2.2 then (1, 0, 0, 0, 0) else (0, (pg b e 5 (pg b e 5 p 0).2.1 0).2.1 + (pg b e 5 (pg b e 5 p 0).2.1 0).2.2, (pg b e 5 p 0).2.2 / 8, 2, (pg b e 5 (pg b e 5 p 0).2.1 0).2.2)
  else (0, (pg b e 5 (pg b e 5 p 0).2.1 0).2.1, (pg b e 5 p 0).2.2 / 8, 0, (pg b e 5 (pg b e 5 p 0).2.1 0).2.2)
/-- only the reader's own places have changed -/
def zScr (I I' : Nat → Int32) : Prop := ∀ k, (k < 11 ∨ 17 < k) → I' k = I k
theorem zScr.rf {I : Nat → Int32} : zScr I I := fun _ _ => rfl
theorem zScr.tr {I I' I'' : Nat → Int32} (h : zScr I I') (h' : zScr I' I'') : zScr I I'' := fun k hk => (h' k hk).trans (h k hk)
theorem zScr.up {I I' : Nat → Int32} (h : zScr I I') {j : Nat} (hj : 11 ≤ j ∧ j ≤ 17) (x : Int32) : zScr I (upd I' j x) := fun k hk => (pk_un (by omega)).trans (h k hk)
theorem gI_11 {I : Nat → Int32} {f q : Nat} : gI I f q 11 = nI q := pk_us
theorem gI_12 {I : Nat → Int32} {q : Nat} : gI I 0 q 12 = I 12 := by
  unfold gI
  rw [pk_un (by decide), if_pos rfl]
theorem gI_12f {I : Nat → Int32} {f q : Nat} (hf : f ≠ 0) : gI I f q 12 = nI f := by
  unfold gI
  rw [pk_un (by decide), if_neg hf, pk_us]
theorem gI_k {I : Nat → Int32} {f q k : Nat} (h1 : k ≠ 11) (h2 : k ≠ 12) : gI I f q k = I k := by
  unfold gI
  rw [pk_un h1]
  by_cases hf : f = 0
  · rw [if_pos hf]
  · rw [if_neg hf, pk_un h2]
theorem zScr.g {I I' : Nat → Int32} (h : zScr I I') {f q : Nat} : zScr I (gI I' f q) := fun k hk => (gI_k (by omega) (by omega)).trans (h k hk)
theorem pg_f (b : Nat → Nat) (e : Nat) : ∀ r p v, (pg b e r p v).1 = 0 ∨ (pg b e r p v).1 = 1 ∨ (pg b e r p v).1 = 2
  | 0, p, v => Or.inl rfl
  | r + 1, p, v => by
    unfold pg
    by_cases h1 : p = e
    · rw [if_pos h1]; exact Or.inr (Or.inl rfl)
    · rw [if_neg h1]
      by_cases h2 : r = 0 ∧ 15 < b p
      · rw [if_pos h2]; exact Or.inr (Or.inr rfl)
      · rw [if_neg h2]
        by_cases h3 : b p < 128
        · rw [if_pos h3]; exact Or.inl rfl
        · rw [if_neg h3]; exact pg_f b e r _ _
theorem mb_or4 {x0 x1 x2 x3 : Nat} (h0 : x0 < 256) (h1 : x1 < 256) (h2 : x2 < 256) (h3 : x3 < 256) : nI x0 ||| (nI x1 <<< ((8 : Int32) &&& 31)) ||| (nI x2 <<< ((16 : Int32) &&& 31)) ||| (nI x3 <<< ((24 : Int32) &&& 31)) = nI (x0 + x1 * 256 + x2 * 65536 + x3 * 16777216) := by
  rw [pk_shlN _ 8 (by decide) (by omega), pk_shlN _ 16 (by decide) (by omega), pk_shlN _ 24 (by decide) (by omega)]
  rw [Int32.or_comm (nI x0), Nat.mul_comm x1, fa_or_sum (k := 8) _ (by omega)]
  rw [Int32.or_comm (nI _) (nI (x2 * 2 ^ 16)), Nat.mul_comm x2, fa_or_sum (k := 16) _ (by omega)]
  rw [Int32.or_comm (nI _) (nI (x3 * 2 ^ 24)), Nat.mul_comm x3, fa_or_sum (k := 24) _ (by omega)]
  congr 1
  omega
theorem mb_v4 {b : Nat → Nat} (hb2 : ∀ j, b j < 256) (p : Nat) : nI (b p) ||| (nI (b (p + 1)) <<< ((8 : Int32) &&& 31)) ||| (nI (b (p + 2)) <<< ((16 : Int32) &&& 31)) ||| (nI (b (p + 3)) <<< ((24 : Int32) &&& 31)) = nI (v4 b p) := by
  rw [mb_or4 (hb2 _) (hb2 _) (hb2 _) (hb2 _)]
  unfold v4
  rfl
theorem nI_big {v : Nat} (h1 : 2 ^ 31 ≤ v) (h2 : v < 2 ^ 32) : nI v < 0 := by
  rw [Int32.lt_iff_toInt_lt]
  show (nI v).toBitVec.toInt < 0
  rw [BitVec.toInt_eq_toNat_cond, pk_tn h2, if_neg (by omega)]
  omega
section R4
variable {M q n e : Nat} {h : mw_H} {A : Nat → Nat → Int32} {f : Nat → Int32} {b : Nat → Nat}
/-- what a reading leaves behind -/
def zF (M : Nat) (h : mw_H) (A : Nat → Nat → Int32) (I : Nat → Int32) (p : Nat) (r : Nat × Nat × Nat × Nat × Nat) : mw_P := fun v h' => v = .inl none ∧ ∃ I' : Nat → Int32, h' = gm M h I' A ∧ zScr I I' ∧ I' 12 = nI r.1 ∧ I' 17 = nI p ∧ (r.1 = 0 → I' 11 = nI r.2.1 ∧ I' 13 = nI r.2.2.1 ∧ I' 14 = nI r.2.2.2.1 ∧ I' 15 = nI r.2.2.2.2 ∧ (r.2.2.2.1 = 2 → I' 16 = nI (r.2.1 - r.2.2.2.2)))
theorem c_field (h_p1 : ∀ I : Nat → Int32, mw_g (gm M h I A) (M + q) = some (.inl (0, (n, .inl f)))) (hb : ∀ j, j < n → f j = nI (b j)) (hb2 : ∀ j, b j < 256) (hn : n < 2 ^ 31) (hen : e ≤ n) {p : Nat} {I : Nat → Int32} (hp : p ≤ e) (hI : I 11 = nI p) :
    mw_Con mm_X7_field 2 0 0 [.ref M, .ref (M + q), .int (nI e)] (gm M h I A) (zF M h A I p (pf b e p)) := by
  refine gm_con pl_X7 rfl rfl (Nat.le_of_ble_eq_true rfl) rfl ?_
  refine mw_aload_n (i := 0) dX7_field_0 rfl rfl ?_
  refine mw_iconst (v := 0) dX7_field_1 (by decide) ?_
  refine gm_put dX7_field_2 fk_X7_58 (by decide) (gm_h12 _) ?_
  refine mw_aload_n (i := 0) dX7_field_5 rfl rfl ?_
  refine mw_aload_n (i := 0) dX7_field_6 rfl rfl ?_
  refine mw_get dX7_field_7 fk_X7_55 gm_0 rfl ?_
  refine gm_put dX7_field_10 fk_X7_61 (by decide) (gm_h17 _) ?_
  refine mw_aload_n (i := 0) dX7_field_13 rfl rfl ?_
  refine mw_aload_n (i := 1) dX7_field_14 rfl rfl ?_
  refine mw_iload_n (i := 2) dX7_field_15 rfl rfl ?_
  obtain ⟨I0, hI0⟩ : ∃ z, z = upd (upd I 12 0) 17 (upd I 12 0 11) := ⟨_, rfl⟩
  rw [← hI0]
  have i11 : I0 11 = nI p := by rw [hI0]; exact hI
  have i17 : I0 17 = nI p := by rw [hI0]; exact hI
  have i12 : I0 12 = 0 := by rw [hI0]; rfl
  have iS : zScr I I0 := by rw [hI0]; exact (zScr.rf.up (by decide) _).up (by decide) _
  refine mw_callVr dX7_field_16 mk_X7_64 gm_0 rfl (c_group h_p1 hb hb2 hn hen hp i11) (by decide) (Nat.le_refl _) (Nat.le_refl _) rfl rfl (Nat.le_of_ble_eq_true rfl) ?_
  have hq1 := pg_le b e 5 p 0 hp
  have hK := pg_lt b e hb2 5 p 0 (by omega) (by decide) (fun _ => by decide)
  have hf := pg_f b e 5 p 0
  unfold pf
  generalize hg : pg b e 5 p 0 = g at *
  obtain ⟨f1, q1, K⟩ := g
  dsimp only at hq1 hK hf ⊢
  refine mw_istore_3 dX7_field_19 (by decide) ?_
  refine mw_aload_n (i := 0) dX7_field_20 rfl rfl ?_
  refine mw_get dX7_field_21 fk_X7_58 gm_0 rfl ?_
  refine mw_if_le (tgt := 28) dX7_field_24 (by decide) (fun c_24 => ?_) (fun c_24 => ?_)
  · have hf0 : f1 = 0 := by
      rcases hf with z | z | z
      · exact z
      · rw [z, gI_12f (by decide)] at c_24; exact absurd c_24 (by decide)
      · rw [z, gI_12f (by decide)] at c_24; exact absurd c_24 (by decide)
    subst hf0
    rw [if_neg (by decide)]
    refine mw_aload_n (i := 0) dX7_field_28 rfl rfl ?_
    refine mw_iload_n (i := 3) dX7_field_29 rfl rfl ?_
    refine mw_iconst (v := 3) dX7_field_30 (by decide) ?_
    refine mw_iushr dX7_field_31 rfl ?_
    refine gm_put dX7_field_32 fk_X7_68 (by decide) (gm_h13 _) ?_
    refine mw_aload_n (i := 0) dX7_field_35 rfl rfl ?_
    refine mw_iload_n (i := 3) dX7_field_36 rfl rfl ?_
    refine mw_bipush (v := 7) dX7_field_37 (by decide) ?_
    refine mw_iand dX7_field_39 ?_
    refine gm_put dX7_field_40 fk_X7_71 (by decide) (gm_h14 _) ?_
    refine mw_aload_n (i := 0) dX7_field_43 rfl rfl ?_
    refine mw_aload_n (i := 0) dX7_field_44 rfl rfl ?_
    refine mw_get dX7_field_45 fk_X7_68 gm_0 rfl ?_
    rw [show ((nI K).toUInt32 >>> ((3 : Int32).toUInt32 &&& Int32.toUInt32 31)).toInt32 = nI (K / 8) from pk_ushrN hK 3 3 (by decide), show nI K &&& 7 = nI (K % 8) from pk_andN hK 3 (by decide)]
    obtain ⟨I2, hI2⟩ : ∃ z, z = upd (upd (gI I0 0 q1) 13 (nI (K / 8))) 14 (nI (K % 8)) := ⟨_, rfl⟩
    rw [← hI2]
    have j11 : I2 11 = nI q1 := by rw [hI2]; show gI I0 0 q1 11 = _; exact gI_11
    have j12 : I2 12 = 0 := by rw [hI2]; show gI I0 0 q1 12 = _; exact gI_12.trans i12
    have j13 : I2 13 = nI (K / 8) := by rw [hI2]; rfl
    have j14 : I2 14 = nI (K % 8) := by rw [hI2]; rfl
    have j17 : I2 17 = nI p := by rw [hI2]; show gI I0 0 q1 17 = _; exact (gI_k (by decide) (by decide)).trans i17
    have jS : zScr I I2 := by rw [hI2]; exact (iS.g.up (by decide) _).up (by decide) _
    rw [j13]
    refine mw_callSr dX7_field_48 mk_X7_74 (c_isTag (nI (K / 8))) (by decide) (Nat.le_refl _) (Nat.le_refl _) rfl rfl (Nat.le_of_ble_eq_true rfl) ?_
    -- behind the key's own look: the fault is put
    have J81 : (K % 8 = 0 ∨ K % 8 = 2 ∨ K % 8 = 5) → (1 ≤ K / 8 ∧ K / 8 ≤ 31) → mw_W mm_X7_field 2 0 0 81 [some (.ref M), some (.ref (M + q)), some (.int (nI e)), some (.int (nI K))] [.ref M] (gm M h I2 A) (zF M h A I p (if K % 8 = 5 then if e < q1 + 4 then (1, 0, 0, 0, 0) else (0, q1 + 4, K / 8, 5, v4 b q1) else if (pg b e 5 q1 0).1 ≠ 0 then ((pg b e 5 q1 0).1, 0, 0, 0, 0) else if K % 8 = 2 then if e < (pg b e 5 q1 0).2.1 + (pg b e 5 q1 0).2.2 then (1, 0, 0, 0, 0) else (0, (pg b e 5 q1 0).2.1 + (pg b e 5 q1 0).2.2, K / 8, 2, (pg b e 5 q1 0).2.2) else (0, (pg b e 5 q1 0).2.1, K / 8, 0, (pg b e 5 q1 0).2.2))) := by
      intro hty htg
      refine mw_iconst (v := 0) dX7_field_81 (by decide) ?_
      refine mw_goto (tgt := 86) dX7_field_82 (by decide) ?_
      refine gm_put dX7_field_86 fk_X7_58 (by decide) (gm_h12 _) ?_
      refine mw_aload_n (i := 0) dX7_field_89 rfl rfl ?_
      refine mw_get dX7_field_90 fk_X7_58 gm_0 rfl ?_
      refine mw_if_le (tgt := 97) dX7_field_93 (by decide) (fun c_93 => ?_) (fun c_93 => ?_)
      · refine mw_aload_n (i := 0) dX7_field_97 rfl rfl ?_
        refine mw_get dX7_field_98 fk_X7_71 gm_0 rfl ?_
        refine mw_iconst (v := 5) dX7_field_101 (by decide) ?_
        have k14 : (upd I2 12 0) 14 = nI (K % 8) := by rw [pk_un (by decide)]; exact j14
        have k11 : (upd I2 12 0) 11 = nI q1 := by rw [pk_un (by decide)]; exact j11
        have k13 : (upd I2 12 0) 13 = nI (K / 8) := by rw [pk_un (by decide)]; exact j13
        have k12 : (upd I2 12 0) 12 = 0 := pk_us
        have k17 : (upd I2 12 0) 17 = nI p := by rw [pk_un (by decide)]; exact j17
        have kS : zScr I (upd I2 12 0) := jS.up (by decide) _
        generalize upd I2 12 0 = I3 at *
        rw [k14]
        refine mw_icmp_ne (tgt := 178) dX7_field_102 (by decide) (fun c_102 => ?_) (fun c_102 => ?_)
        · have h5 : K % 8 ≠ 5 := fun z => c_102 (by rw [z]; rfl)
          rw [if_neg h5]
          refine mw_aload_n (i := 0) dX7_field_178 rfl rfl ?_
          refine mw_aload_n (i := 0) dX7_field_179 rfl rfl ?_
          refine mw_aload_n (i := 1) dX7_field_180 rfl rfl ?_
          refine mw_iload_n (i := 2) dX7_field_181 rfl rfl ?_
          refine mw_callVr dX7_field_182 mk_X7_64 gm_0 rfl (c_group h_p1 hb hb2 hn hen hq1.2 k11) (by decide) (Nat.le_refl _) (Nat.le_refl _) rfl rfl (Nat.le_of_ble_eq_true rfl) ?_
          have hq2 := pg_le b e 5 q1 0 hq1.2
          have hV := pg_lt b e hb2 5 q1 0 (by omega) (by decide) (fun _ => by decide)
          have hf2 := pg_f b e 5 q1 0
          generalize pg b e 5 q1 0 = g2 at *
          obtain ⟨f2, q2, v⟩ := g2
          dsimp only at hq2 hV hf2 ⊢
          refine gm_put dX7_field_185 fk_X7_78 (by decide) (gm_h15 _) ?_
          refine mw_aload_n (i := 0) dX7_field_188 rfl rfl ?_
          refine mw_aload_n (i := 0) dX7_field_189 rfl rfl ?_
          refine mw_get dX7_field_190 fk_X7_55 gm_0 rfl ?_
          refine gm_put dX7_field_193 fk_X7_81 (by decide) (gm_h16 _) ?_
          refine mw_aload_n (i := 0) dX7_field_196 rfl rfl ?_
          refine mw_get dX7_field_197 fk_X7_58 gm_0 rfl ?_
          obtain ⟨I4, hI4⟩ : ∃ z, z = upd (upd (gI I3 f2 q2) 15 (nI v)) 16 (upd (gI I3 f2 q2) 15 (nI v) 11) := ⟨_, rfl⟩
          rw [← hI4]
          have m11 : I4 11 = nI q2 := by rw [hI4]; show gI I3 f2 q2 11 = _; exact gI_11
          have m13 : I4 13 = nI (K / 8) := by rw [hI4]; show gI I3 f2 q2 13 = _; exact (gI_k (by decide) (by decide)).trans k13
          have m14 : I4 14 = nI (K % 8) := by rw [hI4]; show gI I3 f2 q2 14 = _; exact (gI_k (by decide) (by decide)).trans k14
          have m15 : I4 15 = nI v := by rw [hI4]; rfl
          have m16 : I4 16 = nI q2 := by rw [hI4]; show gI I3 f2 q2 11 = _; exact gI_11
          have m17 : I4 17 = nI p := by rw [hI4]; show gI I3 f2 q2 17 = _; exact (gI_k (by decide) (by decide)).trans k17
          have mS : zScr I I4 := by rw [hI4]; exact (kS.g.up (by decide) _).up (by decide) _
          have m12 : f2 ≠ 0 → I4 12 = nI f2 := fun z => by rw [hI4]; show gI I3 f2 q2 12 = _; exact gI_12f z
          have m120 : f2 = 0 → I4 12 = 0 := fun z => by rw [hI4, z]; show gI I3 0 q2 12 = _; exact gI_12.trans k12
          clear hI4
          refine mw_if_ne (tgt := 250) dX7_field_200 (by decide) (fun c_200 => ?_) (fun c_200 => ?_)
          · have hz : f2 ≠ 0 := fun z => c_200 (m120 z)
            rw [if_pos hz]
            exact mw_return dX7_field_250 rfl ⟨rfl, _, rfl, mS, m12 hz, m17, fun z => absurd z hz⟩
          · have hz : f2 = 0 := by
              rcases Decidable.em (f2 = 0) with z | z
              · exact z
              · have z2 := m12 z
                rw [c_200] at z2
                rcases hf2 with y | y | y
                · exact y
                · rw [y] at z2; exact absurd z2 (by decide)
                · rw [y] at z2; exact absurd z2 (by decide)
            subst hz
            rw [if_neg (by decide)]
            refine mw_aload_n (i := 0) dX7_field_203 rfl rfl ?_
            refine mw_get dX7_field_204 fk_X7_71 gm_0 rfl ?_
            refine mw_iconst (v := 2) dX7_field_207 (by decide) ?_
            rw [m14]
            refine mw_icmp_ne (tgt := 250) dX7_field_208 (by decide) (fun c_208 => ?_) (fun c_208 => ?_)
            · have h2 : K % 8 ≠ 2 := fun z => c_208 (by rw [z]; rfl)
              rw [if_neg h2]
              have h0 : K % 8 = 0 := by omega
              exact mw_return dX7_field_250 rfl ⟨rfl, _, rfl, mS, m120 rfl, m17, fun _ => ⟨m11, m13, by rw [m14, h0], m15, fun z => absurd (show (0 : Nat) = 2 from z) (by decide)⟩⟩
            · have h2 : K % 8 = 2 := by
                have z : nI (K % 8) = nI 2 := c_208
                rw [nI_eq (by omega) (by decide)] at z
                exact z
              rw [if_pos h2]
              refine mw_aload_n (i := 0) dX7_field_211 rfl rfl ?_
              refine mw_get dX7_field_212 fk_X7_78 gm_0 rfl ?_
              rw [m15]
              have hend : e < q2 + v → mw_W mm_X7_field 2 0 0 231 [some (.ref M), some (.ref (M + q)), some (.int (nI e)), some (.int (nI K))] [] (gm M h I4 A) (zF M h A I p (if e < q2 + v then (1, 0, 0, 0, 0) else (0, q2 + v, K / 8, 2, v))) := by
                intro hlt
                rw [if_pos hlt]
                refine mw_aload_n (i := 0) dX7_field_231 rfl rfl ?_
                refine mw_iconst (v := 1) dX7_field_232 (by decide) ?_
                refine gm_put dX7_field_233 fk_X7_58 (by decide) (gm_h12 _) ?_
                exact mw_return dX7_field_236 rfl ⟨rfl, _, rfl, mS.up (by decide) _, rfl, (pk_un (by decide)).trans m17, fun z => absurd z (by decide)⟩
              refine mw_if_lt (tgt := 231) dX7_field_215 (by decide) (fun c_215 => ?_) (fun c_215 => ?_)
              · refine hend ?_
                rcases Nat.lt_or_ge v (2 ^ 31) with z | z
                · exact absurd c_215 (nI_pos z)
                · omega
              · have hv31 : v < 2 ^ 31 := by
                  rcases Nat.lt_or_ge v (2 ^ 31) with z | z
                  · exact z
                  · exact absurd (nI_big z hV) c_215
                refine mw_aload_n (i := 0) dX7_field_218 rfl rfl ?_
                refine mw_get dX7_field_219 fk_X7_78 gm_0 rfl ?_
                refine mw_iload_n (i := 2) dX7_field_222 rfl rfl ?_
                refine mw_aload_n (i := 0) dX7_field_223 rfl rfl ?_
                refine mw_get dX7_field_224 fk_X7_55 gm_0 rfl ?_
                refine mw_isub dX7_field_227 ?_
                rw [m15, m11, pk_sub hq2.2]
                refine mw_icmp_le (tgt := 237) dX7_field_228 (by decide) (fun c_228 => ?_) (fun c_228 => ?_)
                · rw [nI_leI hv31 (by omega)] at c_228
                  rw [if_neg (by omega)]
                  refine mw_aload_n (i := 0) dX7_field_237 rfl rfl ?_
                  refine mw_dup dX7_field_238 rfl ?_
                  refine mw_get dX7_field_239 fk_X7_55 gm_0 rfl ?_
                  refine mw_aload_n (i := 0) dX7_field_242 rfl rfl ?_
                  refine mw_get dX7_field_243 fk_X7_78 gm_0 rfl ?_
                  refine mw_iadd dX7_field_246 ?_
                  refine gm_put dX7_field_247 fk_X7_55 (by decide) (gm_h11 _) ?_
                  exact mw_return dX7_field_250 rfl ⟨rfl, _, rfl, mS.up (by decide) _, (pk_un (by decide)).trans (m120 rfl), (pk_un (by decide)).trans m17, fun _ => ⟨by rw [pk_us, m11, m15]; exact nI_add _ _, (pk_un (by decide)).trans m13, by rw [pk_un (by decide), m14, h2], (pk_un (by decide)).trans m15, fun _ => by rw [pk_un (by decide), m16]; congr 1; show q2 = q2 + v - v; omega⟩⟩
                · rw [nI_leI hv31 (by omega)] at c_228
                  exact hend (by omega)
        · have h5 : K % 8 = 5 := by
            have z : nI (K % 8) = nI 5 := c_102
            rw [nI_eq (by omega) (by decide)] at z
            exact z
          rw [if_pos h5]
          refine mw_iload_n (i := 2) dX7_field_105 rfl rfl ?_
          refine mw_aload_n (i := 0) dX7_field_106 rfl rfl ?_
          refine mw_get dX7_field_107 fk_X7_55 gm_0 rfl ?_
          refine mw_isub dX7_field_110 ?_
          refine mw_iconst (v := 4) dX7_field_111 (by decide) ?_
          rw [k11, pk_sub hq1.2]
          refine mw_icmp_ge (tgt := 121) dX7_field_112 (by decide) (fun c_112 => ?_) (fun c_112 => ?_)
          · have h4 : 4 ≤ e - q1 := by
              have z : nI 4 ≤ nI (e - q1) := c_112
              rw [nI_leI (by decide) (by omega)] at z
              exact z
            rw [if_neg (by omega)]
            have x1 : I3 11 + 1 = nI (q1 + 1) := by rw [k11]; exact nI_1 _
            have x2 : I3 11 + 2 = nI (q1 + 2) := by rw [k11]; exact nI_add _ _
            have x3 : I3 11 + 3 = nI (q1 + 3) := by rw [k11]; exact nI_add _ _
            refine mw_aload_n (i := 0) dX7_field_121 rfl rfl ?_
            refine mw_aload_n (i := 1) dX7_field_122 rfl rfl ?_
            refine mw_aload_n (i := 0) dX7_field_123 rfl rfl ?_
            refine mw_get dX7_field_124 fk_X7_55 gm_0 rfl ?_
            refine mw_iald dX7_field_127 (h_p1 _) (mw_ix k11 (show q1 < n by omega) hn) ?_
            refine mw_aload_n (i := 1) dX7_field_128 rfl rfl ?_
            refine mw_aload_n (i := 0) dX7_field_129 rfl rfl ?_
            refine mw_get dX7_field_130 fk_X7_55 gm_0 rfl ?_
            refine mw_iconst (v := 1) dX7_field_133 (by decide) ?_
            refine mw_iadd dX7_field_134 ?_
            refine mw_iald dX7_field_135 (h_p1 _) (mw_ix x1 (show q1 + 1 < n by omega) hn) ?_
            refine mw_bipush (v := 8) dX7_field_136 (by decide) ?_
            refine mw_ishl dX7_field_138 ?_
            refine mw_ior dX7_field_139 ?_
            refine mw_aload_n (i := 1) dX7_field_140 rfl rfl ?_
            refine mw_aload_n (i := 0) dX7_field_141 rfl rfl ?_
            refine mw_get dX7_field_142 fk_X7_55 gm_0 rfl ?_
            refine mw_iconst (v := 2) dX7_field_145 (by decide) ?_
            refine mw_iadd dX7_field_146 ?_
            refine mw_iald dX7_field_147 (h_p1 _) (mw_ix x2 (show q1 + 2 < n by omega) hn) ?_
            refine mw_bipush (v := 16) dX7_field_148 (by decide) ?_
            refine mw_ishl dX7_field_150 ?_
            refine mw_ior dX7_field_151 ?_
            refine mw_aload_n (i := 1) dX7_field_152 rfl rfl ?_
            refine mw_aload_n (i := 0) dX7_field_153 rfl rfl ?_
            refine mw_get dX7_field_154 fk_X7_55 gm_0 rfl ?_
            refine mw_iconst (v := 3) dX7_field_157 (by decide) ?_
            refine mw_iadd dX7_field_158 ?_
            refine mw_iald dX7_field_159 (h_p1 _) (mw_ix x3 (show q1 + 3 < n by omega) hn) ?_
            refine mw_bipush (v := 24) dX7_field_160 (by decide) ?_
            refine mw_ishl dX7_field_162 ?_
            refine mw_ior dX7_field_163 ?_
            have hv : (f q1 ||| (f (q1 + 1) <<< ((8 : Int32) &&& 31)) ||| (f (q1 + 2) <<< ((16 : Int32) &&& 31)) ||| (f (q1 + 3) <<< ((24 : Int32) &&& 31))) = nI (v4 b q1) := by
              rw [hb q1 (by omega), hb (q1 + 1) (by omega), hb (q1 + 2) (by omega), hb (q1 + 3) (by omega)]
              exact mb_v4 hb2 q1
            refine mw_top hv ?_
            refine gm_put dX7_field_164 fk_X7_78 (by decide) (gm_h15 _) ?_
            refine mw_aload_n (i := 0) dX7_field_167 rfl rfl ?_
            refine mw_dup dX7_field_168 rfl ?_
            refine mw_get dX7_field_169 fk_X7_55 gm_0 rfl ?_
            refine mw_iconst (v := 4) dX7_field_172 (by decide) ?_
            refine mw_iadd dX7_field_173 ?_
            refine gm_put dX7_field_174 fk_X7_55 (by decide) (gm_h11 _) ?_
            obtain ⟨I5, hI5⟩ : ∃ z, z = upd (upd I3 15 (nI (v4 b q1))) 11 (upd I3 15 (nI (v4 b q1)) 11 + 4) := ⟨_, rfl⟩
            rw [← hI5]
            have n11 : I5 11 = nI (q1 + 4) := by rw [hI5, pk_us, pk_un (by decide), k11]; exact nI_add _ _
            have n12 : I5 12 = 0 := by rw [hI5, pk_un (by decide), pk_un (by decide)]; exact k12
            have n13 : I5 13 = nI (K / 8) := by rw [hI5, pk_un (by decide), pk_un (by decide)]; exact k13
            have n14 : I5 14 = nI 5 := by rw [hI5, pk_un (by decide), pk_un (by decide), k14, h5]
            have n15 : I5 15 = nI (v4 b q1) := by rw [hI5, pk_un (by decide), pk_us]
            have n17 : I5 17 = nI p := by rw [hI5, pk_un (by decide), pk_un (by decide)]; exact k17
            have nS : zScr I I5 := by rw [hI5]; exact (kS.up (by decide) _).up (by decide) _
            clear hI5
            exact mw_return dX7_field_177 rfl ⟨rfl, _, rfl, nS, n12, n17, fun _ => ⟨n11, n13, n14, n15, fun z => absurd (show (5 : Nat) = 2 from z) (by decide)⟩⟩
          · have h4 : ¬ 4 ≤ e - q1 := fun z => c_112 (by rw [show (4 : Int32) = nI 4 from rfl, nI_leI (by decide) (by omega)]; exact z)
            rw [if_pos (by omega)]
            refine mw_aload_n (i := 0) dX7_field_115 rfl rfl ?_
            refine mw_iconst (v := 1) dX7_field_116 (by decide) ?_
            refine gm_put dX7_field_117 fk_X7_58 (by decide) (gm_h12 _) ?_
            exact mw_return dX7_field_120 rfl ⟨rfl, _, rfl, kS.up (by decide) _, rfl, (pk_un (by decide)).trans k17, fun z => absurd z (by decide)⟩
      · exact absurd (show (0 : Int32) ≤ 0 by decide) c_93
    refine mw_if_ne (tgt := 58) dX7_field_51 (by decide) (fun c_51 => ?_) (fun c_51 => ?_)
    · have htg : 1 ≤ K / 8 ∧ K / 8 ≤ 31 := by
        rcases Decidable.em (1 ≤ K / 8 ∧ K / 8 ≤ 31) with z | z
        · exact z
        · exact absurd (zTag_big z (by omega)) c_51
      rw [if_neg (fun z => z htg)]
      refine mw_aload_n (i := 0) dX7_field_58 rfl rfl ?_
      refine mw_get dX7_field_59 fk_X7_71 gm_0 rfl ?_
      rw [j14]
      refine mw_if_eq (tgt := 81) dX7_field_62 (by decide) (fun c_62 => ?_) (fun c_62 => ?_)
      · have z : K % 8 = 0 := nI_ne0' (by omega) c_62
        have hty : K % 8 = 0 ∨ K % 8 = 2 ∨ K % 8 = 5 := Or.inl z
        rw [if_neg (fun z => z hty)]
        exact J81 hty htg
      · refine mw_aload_n (i := 0) dX7_field_65 rfl rfl ?_
        refine mw_get dX7_field_66 fk_X7_71 gm_0 rfl ?_
        refine mw_iconst (v := 2) dX7_field_69 (by decide) ?_
        rw [j14]
        refine mw_icmp_eq (tgt := 81) dX7_field_70 (by decide) (fun c_70 => ?_) (fun c_70 => ?_)
        · have z : K % 8 = 2 := by
            have z : nI (K % 8) = nI 2 := c_70
            rw [nI_eq (by omega) (by decide)] at z
            exact z
          have hty : K % 8 = 0 ∨ K % 8 = 2 ∨ K % 8 = 5 := Or.inr (Or.inl z)
          rw [if_neg (fun z => z hty)]
          exact J81 hty htg
        · refine mw_aload_n (i := 0) dX7_field_73 rfl rfl ?_
          refine mw_get dX7_field_74 fk_X7_71 gm_0 rfl ?_
          refine mw_iconst (v := 5) dX7_field_77 (by decide) ?_
          rw [j14]
          refine mw_icmp_ne (tgt := 85) dX7_field_78 (by decide) (fun c_78 => ?_) (fun c_78 => ?_)
          · have hty : ¬ (K % 8 = 0 ∨ K % 8 = 2 ∨ K % 8 = 5) := by
              rintro (z | z | z)
              · exact c_62 (by rw [z]; rfl)
              · exact c_70 (by rw [z]; rfl)
              · exact c_78 (by rw [z]; rfl)
            rw [if_pos hty]
            refine mw_iconst (v := 4) dX7_field_85 (by decide) ?_
            refine gm_put dX7_field_86 fk_X7_58 (by decide) (gm_h12 _) ?_
            refine mw_aload_n (i := 0) dX7_field_89 rfl rfl ?_
            refine mw_get dX7_field_90 fk_X7_58 gm_0 rfl ?_
            refine mw_if_le (tgt := 97) dX7_field_93 (by decide) (fun c_93 => ?_) (fun c_93 => ?_)
            · exact absurd (show (4 : Int32) ≤ 0 from c_93) (by decide)
            · exact mw_return dX7_field_96 rfl ⟨rfl, _, rfl, jS.up (by decide) _, rfl, (pk_un (by decide)).trans j17, fun z => absurd z (by decide)⟩
          · have z : K % 8 = 5 := by
              have z : nI (K % 8) = nI 5 := c_78
              rw [nI_eq (by omega) (by decide)] at z
              exact z
            have hty : K % 8 = 0 ∨ K % 8 = 2 ∨ K % 8 = 5 := Or.inr (Or.inr z)
            rw [if_neg (fun z => z hty)]
            exact J81 hty htg
    · have htg : ¬ (1 ≤ K / 8 ∧ K / 8 ≤ 31) := fun z => by rw [zTag_of z.1 z.2] at c_51; exact absurd c_51 (by decide)
      rw [if_pos htg]
      refine mw_iconst (v := 3) dX7_field_54 (by decide) ?_
      refine mw_goto (tgt := 86) dX7_field_55 (by decide) ?_
      refine gm_put dX7_field_86 fk_X7_58 (by decide) (gm_h12 _) ?_
      refine mw_aload_n (i := 0) dX7_field_89 rfl rfl ?_
      refine mw_get dX7_field_90 fk_X7_58 gm_0 rfl ?_
      refine mw_if_le (tgt := 97) dX7_field_93 (by decide) (fun c_93 => ?_) (fun c_93 => ?_)
      · exact absurd (show (3 : Int32) ≤ 0 from c_93) (by decide)
      · exact mw_return dX7_field_96 rfl ⟨rfl, _, rfl, jS.up (by decide) _, rfl, (pk_un (by decide)).trans j17, fun z => absurd z (by decide)⟩
  · have hf0 : f1 ≠ 0 := fun z => by
      subst z
      rw [gI_12, i12] at c_24
      exact c_24 (by decide)
    rw [if_pos hf0]
    exact mw_return dX7_field_27 rfl ⟨rfl, _, rfl, iS.g, gI_12f hf0, (gI_k (by decide) (by decide)).trans i17, fun z => absurd z hf0⟩
end R4
