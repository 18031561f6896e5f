/-! a row of fields, read: written by gen/78.py -/
theorem bR_cong {A A' : Nat → Nat → Int32} {r e : Nat} {b : Nat → Nat} (h : bR A r e b) (h8 : A' 8 = A 8) (h9 : A' 9 = A 9) : bR A' r e b := by
  obtain ⟨hr, he, hb, hA⟩ := h
  refine ⟨hr, he, hb, fun j hj => ?_⟩
  rcases hr with rfl | rfl
  · rw [h8]; exact hA j hj
  · rw [h9]; exact hA j hj
/-- not too much for the law -/
def small (L : List af) : Prop := L.length ≤ 12 ∧ ∀ x ∈ L, x.2.1 = 2 → x.2.2.1 ≤ 16
/-- the first fields of a row, without its count -/
def pR (A : Nat → Nat → Int32) (X : Nat → Nat → Int64) (m : Nat) (L : List af) : Prop := L.length ≤ 12 ∧ ∀ i x, L[i]? = some x → fC A X (12 * m + i) x
theorem pR_small {A : Nat → Nat → Int32} {X : Nat → Nat → Int64} {m : Nat} {L : List af} (h : pR A X m L) : small L := by
  refine ⟨h.1, fun x hx h2 => ?_⟩
  obtain ⟨i, hi⟩ := List.getElem?_of_mem hx
  exact ((h.2 i x hi).2.2 h2).1
theorem prs_end {b : Nat → Nat} {e p : Nat} (h : e ≤ p) : ∀ n, prs b e n p = ([], 0, 0)
  | 0 => rfl
  | n + 1 => if_pos h
theorem prs_step {b : Nat → Nat} {e p n : Nat} (h : p < e) : prs b e (n + 1) p = if (pf b e p).1 = 0 then (mkf b (pf b e p) :: (prs b e n (pf b e p).2.1).1, (prs b e n (pf b e p).2.1).2) else ([], (pf b e p).1, p) := if_neg (by omega)
theorem bys_get (b : Nat → Nat) (p n j : Nat) : (bys b p n).getD j 0 = if j < n then b (p + j) else 0 := by
  unfold bys
  rw [List.getD_eq_getElem?_getD, List.getElem?_map]
  by_cases h : j < n
  · rw [List.getElem?_range h, if_pos h]; rfl
  · rw [List.getElem?_eq_none (by rw [List.length_range]; omega), if_neg h]; rfl
section LH8
variable {H : mw_H} {A : Nat → Nat → Int32} {X : Nat → Nat → Int64} {r e p m : Nat} {b : Nat → Nat} {G : Nat → Int32} {Po : mw_P} {M mn mu : Int32} {x9 x10 x11 x12 x13 x14 x15 x16 : Option Value}
/-- whether it is much -/
theorem rd_much {k v : Nat} (hk : k < 256) (hv : v < 2 ^ 32) (c : Int32) (hc : c = 1 ∧ (mn = 12 ∨ k % 8 = 2 ∧ ¬ nI v ≤ 16) ∨ c = 0 ∧ ¬ (mn = 12 ∨ k % 8 = 2 ∧ ¬ nI v ≤ 16)) (kk : mw_W mm_L_reads 1 0 0 345 [some (.ref (43 + r)), some (.int (nI e)), some (.ref 46), some (.ref 47), some (.ref 48), some (.ref 49), some (.ref 50), some (.ref 54), some (.int (M)), some (.int (mn)), some (.int (mu ||| c)), x11, some (.int (nI k)), some (.int (nI v)), x14, x15, x16] [] (gl H (va_up A 11 G) X) Po) : mw_W mm_L_reads 1 0 0 312 [some (.ref (43 + r)), some (.int (nI e)), some (.ref 46), some (.ref 47), some (.ref 48), some (.ref 49), some (.ref 50), some (.ref 54), some (.int (M)), some (.int (mn)), some (.int (mu)), x11, some (.int (nI k)), some (.int (nI v)), x14, x15, x16] [] (gl H (va_up A 11 G) X) Po := by
  have hk7 : nI k &&& 7 = nI (k % 8) := pk_andN (by omega) 3 (by decide)
  by_cases h12 : mn = 12
  · have hc : c = 1 := by
      rcases hc with h | h
      · exact h.1
      · exact absurd (Or.inl h12) h.2
    subst hc
    refine mw_iload (i := 10) dL_reads_312 rfl ?_
    refine mw_iload (i := 9) dL_reads_314 rfl ?_
    refine mw_bipush (v := 12) dL_reads_316 (by decide) ?_
    refine mw_icmp_eq (tgt := 337) dL_reads_318 (by decide) (fun _ => ?_) (fun c9 => absurd c9 (fun z => z h12))
    refine mw_iconst (v := 1) dL_reads_337 (by decide) ?_
    refine mw_goto (tgt := 342) dL_reads_338 (by decide) ?_
    refine mw_ior dL_reads_342 ?_
    refine mw_istore_10 dL_reads_343 (by decide) ?_
    exact kk
  · by_cases h2 : k % 8 = 2
    · by_cases h16 : nI v ≤ 16
      · have hc : c = 0 := by
          rcases hc with h | h
          · rcases h.2 with h | h
            · exact absurd h h12
            · exact absurd h16 h.2
          · exact h.1
        subst hc
        refine mw_iload (i := 10) dL_reads_312 rfl ?_
        refine mw_iload (i := 9) dL_reads_314 rfl ?_
        refine mw_bipush (v := 12) dL_reads_316 (by decide) ?_
        refine mw_icmp_eq (tgt := 337) dL_reads_318 (by decide) (fun c9 => absurd c9 h12) (fun _ => ?_)
        refine mw_iload (i := 12) dL_reads_321 rfl ?_
        refine mw_bipush (v := 7) dL_reads_323 (by decide) ?_
        refine mw_iand dL_reads_325 ?_
        rw [hk7]
        refine mw_iconst (v := 2) dL_reads_326 (by decide) ?_
        refine mw_icmp_ne (tgt := 341) dL_reads_327 (by decide) (fun c9 => absurd c9 (by first | decide | exact (fun q => q rfl) | ((try simp only [fa_lit]); first | exact cq_le (by omega) (by omega) | exact cq_nle (by omega) (by omega) | exact cq_lt (by omega) (by omega) | exact cq_nlt (by omega) (by omega) | exact cq_eq (by omega) (by omega) (by omega) | exact cq_neq (by omega)))) (fun _ => ?_)
        refine mw_iload (i := 13) dL_reads_330 rfl ?_
        refine mw_bipush (v := 16) dL_reads_332 (by decide) ?_
        refine mw_icmp_le (tgt := 341) dL_reads_334 (by decide) (fun _ => ?_) (fun c9 => absurd c9 (fun z => z h16))
        refine mw_iconst (v := 0) dL_reads_341 (by decide) ?_
        refine mw_ior dL_reads_342 ?_
        refine mw_istore_10 dL_reads_343 (by decide) ?_
        exact kk
      · have hc : c = 1 := by
          rcases hc with h | h
          · exact h.1
          · exact absurd (Or.inr ⟨h2, h16⟩) h.2
        subst hc
        refine mw_iload (i := 10) dL_reads_312 rfl ?_
        refine mw_iload (i := 9) dL_reads_314 rfl ?_
        refine mw_bipush (v := 12) dL_reads_316 (by decide) ?_
        refine mw_icmp_eq (tgt := 337) dL_reads_318 (by decide) (fun c9 => absurd c9 h12) (fun _ => ?_)
        refine mw_iload (i := 12) dL_reads_321 rfl ?_
        refine mw_bipush (v := 7) dL_reads_323 (by decide) ?_
        refine mw_iand dL_reads_325 ?_
        rw [hk7]
        refine mw_iconst (v := 2) dL_reads_326 (by decide) ?_
        refine mw_icmp_ne (tgt := 341) dL_reads_327 (by decide) (fun c9 => absurd c9 (by first | decide | exact (fun q => q rfl) | ((try simp only [fa_lit]); first | exact cq_le (by omega) (by omega) | exact cq_nle (by omega) (by omega) | exact cq_lt (by omega) (by omega) | exact cq_nlt (by omega) (by omega) | exact cq_eq (by omega) (by omega) (by omega) | exact cq_neq (by omega)))) (fun _ => ?_)
        refine mw_iload (i := 13) dL_reads_330 rfl ?_
        refine mw_bipush (v := 16) dL_reads_332 (by decide) ?_
        refine mw_icmp_le (tgt := 341) dL_reads_334 (by decide) (fun c9 => absurd c9 h16) (fun _ => ?_)
        refine mw_iconst (v := 1) dL_reads_337 (by decide) ?_
        refine mw_goto (tgt := 342) dL_reads_338 (by decide) ?_
        refine mw_ior dL_reads_342 ?_
        refine mw_istore_10 dL_reads_343 (by decide) ?_
        exact kk
    · have hc : c = 0 := by
        rcases hc with h | h
        · rcases h.2 with h | h
          · exact absurd h h12
          · exact absurd h.1 h2
        · exact h.1
      subst hc
      refine mw_iload (i := 10) dL_reads_312 rfl ?_
      refine mw_iload (i := 9) dL_reads_314 rfl ?_
      refine mw_bipush (v := 12) dL_reads_316 (by decide) ?_
      refine mw_icmp_eq (tgt := 337) dL_reads_318 (by decide) (fun c9 => absurd c9 h12) (fun _ => ?_)
      refine mw_iload (i := 12) dL_reads_321 rfl ?_
      refine mw_bipush (v := 7) dL_reads_323 (by decide) ?_
      refine mw_iand dL_reads_325 ?_
      rw [hk7]
      refine mw_iconst (v := 2) dL_reads_326 (by decide) ?_
      refine mw_icmp_ne (tgt := 341) dL_reads_327 (by decide) (fun _ => ?_) (fun c9 => absurd c9 (by first | decide | exact (fun q => q rfl) | ((try simp only [fa_lit]); first | exact cq_le (by omega) (by omega) | exact cq_nle (by omega) (by omega) | exact cq_lt (by omega) (by omega) | exact cq_nlt (by omega) (by omega) | exact cq_eq (by omega) (by omega) (by omega) | exact cq_neq (by omega))))
      refine mw_iconst (v := 0) dL_reads_341 (by decide) ?_
      refine mw_ior dL_reads_342 ?_
      refine mw_istore_10 dL_reads_343 (by decide) ?_
      exact kk
theorem mkf_ok (hb : bR A r e b) (hp : p < e) (h0 : (pf b e p).1 = 0) : okf (mkf b (pf b e p)) ∧ p + 2 ≤ (pf b e p).2.1 ∧ (pf b e p).2.1 ≤ e ∧ ((pf b e p).2.2.2.1 = 2 → (pf b e p).2.2.2.2 ≤ (pf b e p).2.1) := by
  obtain ⟨h1, h2, h3, h4, h5⟩ := pf_ok hb.2.2.1 (Nat.le_of_lt hp) h0
  exact ⟨h1, h3, h4, h5⟩
/-- reading without a place to write to -/
def rN (H : mw_H) (A : Nat → Nat → Int32) (X : Nat → Nat → Int64) (G : Nat → Int32) (much : Prop) (a : List af × Nat × Nat) : mw_P := fun v H' => ∃ G', H' = gl H (va_up A 11 G') X ∧ gK G G' ∧ ((a.2.1 ≠ 0 ∧ v = .inl (some (.int (nI a.2.1))) ∧ G' 3 = nI a.2.2) ∨ (a.2.1 = 0 ∧ (v = .inl (some (.int 0)) ∨ v = .inl (some (.int 9)) ∧ (much ∨ ∃ x ∈ a.1, x.2.1 = 2 ∧ 16 < x.2.2.1))))
theorem lp_readsN (hb : bR A r e b) {G0 : Nat → Int32} : ∀ (n p : Nat) (G : Nat → Int32) (mu : Int32) (much : Prop) (x11 x12 x13 x14 x15 x16 : Option Value), e ≤ p + 2 * n → p ≤ e → gK G0 G → G 3 = nI p → G 4 = 0 → (mu = 0 ∨ mu = 1 ∧ much) →
    mw_W mm_L_reads 1 0 0 16 [some (.ref (43 + r)), some (.int (nI e)), some (.ref 46), some (.ref 47), some (.ref 48), some (.ref 49), some (.ref 50), some (.ref 54), some (.int (-1)), some (.int (0)), some (.int (mu)), x11, x12, x13, x14, x15, x16] [] (gl H (va_up A 11 G) X) (rN H A X G0 much (prs b e n p)) := by
  have he := hb.2.1
  have hr := hb.1
  intro n
  have hend : ∀ (n p : Nat) (G : Nat → Int32) (mu : Int32) (much : Prop) (x11 x12 x13 x14 x15 x16 : Option Value), e ≤ p → p ≤ e → gK G0 G → G 3 = nI p → (mu = 0 ∨ mu = 1 ∧ much) → mw_W mm_L_reads 1 0 0 16 [some (.ref (43 + r)), some (.int (nI e)), some (.ref 46), some (.ref 47), some (.ref 48), some (.ref 49), some (.ref 50), some (.ref 54), some (.int (-1)), some (.int (0)), some (.int (mu)), x11, x12, x13, x14, x15, x16] [] (gl H (va_up A 11 G) X) (rN H A X G0 much (prs b e n p)) := by
    intro n p G mu much x11 x12 x13 x14 x15 x16 h1 h2 hG h3 hmu
    rw [prs_end h1]
    refine mw_aload (i := 7) dL_reads_16 rfl ?_
    refine mw_iconst (v := 3) dL_reads_18 (by decide) ?_
    refine mw_iald dL_reads_19 gl_G (mw_ix (j := 3) rfl (by decide) (by decide)) ?_
    rw [h3]
    rcases hmu with rfl | ⟨rfl, hmu⟩
    · refine mw_iload_n (i := 1) dL_reads_20 rfl rfl ?_
      refine mw_icmp_ge (tgt := 481) dL_reads_21 (by decide) (fun _ => ?_) (fun c9 => absurd c9 (by first | decide | exact (fun q => q rfl) | ((try simp only [fa_lit]); first | exact cq_le (by omega) (by omega) | exact cq_nle (by omega) (by omega) | exact cq_lt (by omega) (by omega) | exact cq_nlt (by omega) (by omega) | exact cq_eq (by omega) (by omega) (by omega) | exact cq_neq (by omega))))
      refine mw_iload (i := 8) dL_reads_481 rfl ?_
      refine mw_if_lt (tgt := 497) dL_reads_483 (by decide) (fun _ => ?_) (fun c9 => absurd c9 (by first | decide | exact (fun q => q rfl)))
      refine mw_iload (i := 10) dL_reads_497 rfl ?_
      refine mw_if_eq (tgt := 507) dL_reads_499 (by decide) (fun _ => ?_) (fun c9 => absurd c9 (by first | decide | exact (fun q => q rfl)))
      refine mw_iconst (v := 0) dL_reads_507 (by decide) ?_
      exact mw_ireturn dL_reads_508 ⟨_, rfl, rfl⟩ ⟨G, rfl, hG, Or.inr ⟨rfl, Or.inl rfl⟩⟩
    · refine mw_iload_n (i := 1) dL_reads_20 rfl rfl ?_
      refine mw_icmp_ge (tgt := 481) dL_reads_21 (by decide) (fun _ => ?_) (fun c9 => absurd c9 (by first | decide | exact (fun q => q rfl) | ((try simp only [fa_lit]); first | exact cq_le (by omega) (by omega) | exact cq_nle (by omega) (by omega) | exact cq_lt (by omega) (by omega) | exact cq_nlt (by omega) (by omega) | exact cq_eq (by omega) (by omega) (by omega) | exact cq_neq (by omega))))
      refine mw_iload (i := 8) dL_reads_481 rfl ?_
      refine mw_if_lt (tgt := 497) dL_reads_483 (by decide) (fun _ => ?_) (fun c9 => absurd c9 (by first | decide | exact (fun q => q rfl)))
      refine mw_iload (i := 10) dL_reads_497 rfl ?_
      refine mw_if_eq (tgt := 507) dL_reads_499 (by decide) (fun c9 => absurd c9 (by first | decide | exact (fun q => q rfl))) (fun _ => ?_)
      refine mw_bipush (v := 9) dL_reads_502 (by decide) ?_
      refine mw_goto (tgt := 508) dL_reads_504 (by decide) ?_
      exact mw_ireturn dL_reads_508 ⟨_, rfl, rfl⟩ ⟨G, rfl, hG, Or.inr ⟨rfl, Or.inr ⟨rfl, Or.inl hmu⟩⟩⟩
  induction n with
  | zero =>
    intro p G mu much x11 x12 x13 x14 x15 x16 h1 h2 hG h3 h4 hmu
    exact hend 0 p G mu much _ _ _ _ _ _ (by omega) h2 hG h3 hmu
  | succ n ih =>
    intro p G mu much x11 x12 x13 x14 x15 x16 h1 h2 hG h3 h4 hmu
    by_cases hpe : e ≤ p
    · exact hend (n + 1) p G mu much _ _ _ _ _ _ hpe h2 hG h3 hmu
    have hp : p < e := by omega
    rw [prs_step hp]
    refine rd_field hb hp h3 h4 (fun hbad G' hG' g3 => ?_) (fun hgood G' x15 x16 hG' g3 g4 => ?_)
    · rw [if_neg hbad]
      exact ⟨G', rfl, hG.tr hG', Or.inl ⟨hbad, rfl, g3⟩⟩
    · rw [if_pos hgood]
      obtain ⟨hok, k2, k3, -⟩ := mkf_ok hb hp hgood
      obtain ⟨q1, -, -⟩ := okf_key hok
      have q1 : 8 * (pf b e p).2.2.1 + (pf b e p).2.2.2.1 < 2 ^ 8 := q1
      have hv : (pf b e p).2.2.2.2 < 2 ^ 32 := hok.2.2.2.1
      have hy : (pf b e p).2.2.2.1 = 0 ∨ (pf b e p).2.2.2.1 = 2 ∨ (pf b e p).2.2.2.1 = 5 := hok.2.2.1
      have h9 := ih (pf b e p).2.1 G'
      have hcv : ∀ much' : Prop, (much' → much ∨ ∃ x ∈ mkf b (pf b e p) :: (prs b e n (pf b e p).2.1).1, x.2.1 = 2 ∧ 16 < x.2.2.1) → ∀ v H', rN H A X G0 much' (prs b e n (pf b e p).2.1) v H' → rN H A X G0 much (mkf b (pf b e p) :: (prs b e n (pf b e p).2.1).1, (prs b e n (pf b e p).2.1).2) v H' := by
        rintro much' hm' v H' ⟨G', e1, e2, h | ⟨h1, h2⟩⟩
        · exact ⟨G', e1, e2, Or.inl h⟩
        · refine ⟨G', e1, e2, Or.inr ⟨h1, ?_⟩⟩
          rcases h2 with h2 | ⟨h2, h3 | ⟨x, hx, h3⟩⟩
          · exact Or.inl h2
          · exact Or.inr ⟨h2, hm' h3⟩
          · exact Or.inr ⟨h2, Or.inr ⟨x, List.mem_cons_of_mem _ hx, h3⟩⟩
      by_cases hc : (0 : Int32) = 12 ∨ (8 * (pf b e p).2.2.1 + (pf b e p).2.2.2.1) % 8 = 2 ∧ ¬ nI (pf b e p).2.2.2.2 ≤ 16
      · refine rd_much (by omega) hv 1 (Or.inl ⟨rfl, hc⟩) ?_
        rw [show mu ||| 1 = 1 by rcases hmu with h | ⟨h, -⟩ <;> rw [h] <;> rfl]
        refine mw_iload (i := 10) dL_reads_345 rfl ?_
        refine mw_if_ne (tgt := 16) dL_reads_347 (by decide) (fun _ => ?_) (fun c9 => absurd c9 (by first | decide | exact (fun q => q rfl)))
        obtain ⟨c1, c2⟩ : (8 * (pf b e p).2.2.1 + (pf b e p).2.2.2.1) % 8 = 2 ∧ ¬ nI (pf b e p).2.2.2.2 ≤ 16 := hc.resolve_left (by decide)
        by_cases hbig : 2 ^ 31 ≤ (pf b e p).2.2.2.2
        · have hlen := hok.2.2.2.2.1 (show (mkf b (pf b e p)).2.1 = 2 by show (pf b e p).2.2.2.1 = 2; omega)
          obtain ⟨-, -, -, k9⟩ := mkf_ok hb hp hgood
          have := k9 (by omega)
          omega
        · have hgt : 16 < (pf b e p).2.2.2.2 := by
            rcases Nat.lt_or_ge 16 (pf b e p).2.2.2.2 with z | z
            · exact z
            · exact absurd (nI_le z (by omega)) c2
          refine mw_post (fun v H' hq => hcv (16 < (pf b e p).2.2.2.2) (fun z => Or.inr ⟨mkf b (pf b e p), List.mem_cons_self, show (pf b e p).2.2.2.1 = 2 by omega, z⟩) v H' hq) (h9 1 (16 < (pf b e p).2.2.2.2) _ _ _ _ _ _ (by omega) k3 (hG.tr hG') g3 g4 (Or.inr ⟨rfl, hgt⟩))
      · refine rd_much (by omega) hv 0 (Or.inr ⟨rfl, hc⟩) ?_
        rw [Int32.or_zero]
        refine mw_post (fun v H' hq => hcv much Or.inl v H' hq) ?_
        rcases hmu with rfl | ⟨rfl, hmu⟩
        · refine mw_iload (i := 10) dL_reads_345 rfl ?_
          refine mw_if_ne (tgt := 16) dL_reads_347 (by decide) (fun c9 => absurd c9 (by first | decide | exact (fun q => q rfl))) (fun _ => ?_)
          refine mw_iload (i := 8) dL_reads_350 rfl ?_
          refine mw_if_ge (tgt := 358) dL_reads_352 (by decide) (fun c9 => absurd c9 (by first | decide | exact (fun q => q rfl))) (fun _ => ?_)
          refine mw_goto (tgt := 16) dL_reads_355 (by decide) ?_
          exact h9 0 much _ _ _ _ _ _ (by omega) k3 (hG.tr hG') g3 g4 (Or.inl rfl)
        · refine mw_iload (i := 10) dL_reads_345 rfl ?_
          refine mw_if_ne (tgt := 16) dL_reads_347 (by decide) (fun _ => ?_) (fun c9 => absurd c9 (by first | decide | exact (fun q => q rfl)))
          exact h9 1 much _ _ _ _ _ _ (by omega) k3 (hG.tr hG') g3 g4 (Or.inr ⟨rfl, hmu⟩)
theorem c_readsN (hb : bR A r e b) : mw_Con mm_L_reads 1 0 0 [.ref (43 + r), .int (nI e), .ref 46, .ref 47, .ref 48, .ref 49, .ref 50, .ref 54, .int (-1)] (gl H A X) (rN H A X (A 11) False (prs b e 60 0)) := by
  have he := hb.2.1
  refine gm_con pl_L rfl rfl (Nat.le_of_ble_eq_true rfl) rfl ?_
  refine mw_hp (h' := gl H (va_up A 11 (A 11)) X) (gl_cong (up_same A 11).symm rfl) ?_
  refine mw_aload (i := 7) dL_reads_0 rfl ?_
  refine mw_iconst (v := 3) dL_reads_2 (by decide) ?_
  refine mw_iconst (v := 0) dL_reads_3 (by decide) ?_
  refine gl_stG dL_reads_4 (mw_ix (j := 3) rfl (by decide) (by decide)) ?_
  refine mw_aload (i := 7) dL_reads_5 rfl ?_
  refine mw_iconst (v := 4) dL_reads_7 (by decide) ?_
  refine mw_iconst (v := 0) dL_reads_8 (by decide) ?_
  refine gl_stG dL_reads_9 (mw_ix (j := 4) rfl (by decide) (by decide)) ?_
  refine mw_iconst (v := 0) dL_reads_10 (by decide) ?_
  refine mw_istore_9 dL_reads_11 (by decide) ?_
  refine mw_iconst (v := 0) dL_reads_13 (by decide) ?_
  refine mw_istore_10 dL_reads_14 (by decide) ?_
  exact lp_readsN hb 60 0 _ 0 False _ _ _ _ _ _ (by omega) (Nat.zero_le _) ((gK.rf.u (by decide) _).u (by decide) _) ((pk_un (by decide)).trans pk_us) pk_us (Or.inl rfl)
/-- reading into the row of the message m -/
def rM (H : mw_H) (m : Nat) (A : Nat → Nat → Int32) (X : Nat → Nat → Int64) (L : List af) (f pl : Nat) : mw_P := fun v H' => ∃ A' X', H' = gl H A' X' ∧ fF m A X A' X' ∧ ((f ≠ 0 ∧ v = .inl (some (.int (nI f))) ∧ A' 11 3 = nI pl) ∨ (f = 0 ∧ small L ∧ v = .inl (some (.int 0)) ∧ fR A' X' m L) ∨ (f = 0 ∧ ¬ small L ∧ v = .inl (some (.int 9))))
theorem fF_g {A0 : Nat → Nat → Int32} {X0 : Nat → Nat → Int64} (h : fF m A0 X0 A X) (hG : gK (A0 11) G) : fF m A0 X0 (va_up A 11 G) X := by
  refine ⟨fun j h3 h4 h5 h11 => by rw [va_up_ne _ _ h11]; exact h.1 j h3 h4 h5 h11, fun j hj => by rw [va_up_self]; exact hG j hj, fun m' hm' => by rw [va_up_ne _ _ (by decide)]; exact h.2.2.1 m' hm', fun p hp => ?_⟩
  rw [va_up_ne _ _ (show 4 ≠ 11 by decide), va_up_ne _ _ (show 5 ≠ 11 by decide)]
  exact h.2.2.2 p hp
/-- the bytes of a field -/
theorem lp_bytes (hb : bR A r e b) {at_ v fr : Nat} (ha : at_ < 60) (hv : v ≤ 16) (hfr : fr + v ≤ e) {k : Nat} (hk : k < 256) (hk2 : k % 8 = 2) (kk : ∀ X' x16, (∀ q, q ≠ at_ → X' 6 q = X 6 q ∧ X' 7 q = X 7 q) → (∀ j, j < 16 → bt2 X' at_ j = if j < v then b (fr + j) else 0) → mw_W mm_L_reads 1 0 0 475 [some (.ref (43 + r)), some (.int (nI e)), some (.ref 46), some (.ref 47), some (.ref 48), some (.ref 49), some (.ref 50), some (.ref 54), some (.int (nI m)), some (.int (mn)), some (.int (mu)), x11, some (.int (nI k)), some (.int (nI v)), some (.int (nI fr)), some (.int (nI at_)), x16] [] (gl H (va_up A 11 G) X') Po) : ∀ (n i : Nat) (X1 : Nat → Nat → Int64), i + n = v → (∀ q, q ≠ at_ → X1 6 q = X 6 q ∧ X1 7 q = X 7 q) → (∀ j, j < 16 → bt2 X1 at_ j = if j < i then b (fr + j) else 0) →
    mw_W mm_L_reads 1 0 0 396 [some (.ref (43 + r)), some (.int (nI e)), some (.ref 46), some (.ref 47), some (.ref 48), some (.ref 49), some (.ref 50), some (.ref 54), some (.int (nI m)), some (.int (mn)), some (.int (mu)), x11, some (.int (nI k)), some (.int (nI v)), some (.int (nI fr)), some (.int (nI at_)), some (.int (nI i))] [] (gl H (va_up A 11 G) X1) Po := by
  obtain ⟨hr, he, hb2, hA⟩ := hb
  have hk7 : nI k &&& 7 = nI (k % 8) := pk_andN (by omega) 3 (by decide)
  intro n
  induction n with
  | zero =>
    intro i X1 hi h1 h2
    have hi : i = v := by omega
    subst hi
    refine mw_iload (i := 12) dL_reads_396 rfl ?_
    refine mw_bipush (v := 7) dL_reads_398 (by decide) ?_
    refine mw_iand dL_reads_400 ?_
    rw [hk7]
    refine mw_iconst (v := 2) dL_reads_401 (by decide) ?_
    refine mw_icmp_ne (tgt := 475) dL_reads_402 (by decide) (fun c9 => absurd c9 (by first | decide | exact (fun q => q rfl) | ((try simp only [fa_lit]); first | exact cq_le (by omega) (by omega) | exact cq_nle (by omega) (by omega) | exact cq_lt (by omega) (by omega) | exact cq_nlt (by omega) (by omega) | exact cq_eq (by omega) (by omega) (by omega) | exact cq_neq (by omega)))) (fun _ => ?_)
    refine mw_iload (i := 16) dL_reads_405 rfl ?_
    refine mw_iload (i := 13) dL_reads_407 rfl ?_
    refine mw_icmp_ge (tgt := 475) dL_reads_409 (by decide) (fun _ => ?_) (fun c9 => absurd c9 (by first | decide | exact (fun q => q rfl) | ((try simp only [fa_lit]); first | exact cq_le (by omega) (by omega) | exact cq_nle (by omega) (by omega) | exact cq_lt (by omega) (by omega) | exact cq_nlt (by omega) (by omega) | exact cq_eq (by omega) (by omega) (by omega) | exact cq_neq (by omega))))
    exact kk X1 _ h1 h2
  | succ n ih =>
    intro i X1 hi h1 h2
    have hbi := hb2 (fr + i)
    refine mw_iload (i := 12) dL_reads_396 rfl ?_
    refine mw_bipush (v := 7) dL_reads_398 (by decide) ?_
    refine mw_iand dL_reads_400 ?_
    rw [hk7]
    by_cases h8 : i < 8
    · refine mw_iconst (v := 2) dL_reads_401 (by decide) ?_
      refine mw_icmp_ne (tgt := 475) dL_reads_402 (by decide) (fun c9 => absurd c9 (by first | decide | exact (fun q => q rfl) | ((try simp only [fa_lit]); first | exact cq_le (by omega) (by omega) | exact cq_nle (by omega) (by omega) | exact cq_lt (by omega) (by omega) | exact cq_nlt (by omega) (by omega) | exact cq_eq (by omega) (by omega) (by omega) | exact cq_neq (by omega)))) (fun _ => ?_)
      refine mw_iload (i := 16) dL_reads_405 rfl ?_
      refine mw_iload (i := 13) dL_reads_407 rfl ?_
      refine mw_icmp_ge (tgt := 475) dL_reads_409 (by decide) (fun c9 => absurd c9 (by first | decide | exact (fun q => q rfl) | ((try simp only [fa_lit]); first | exact cq_le (by omega) (by omega) | exact cq_nle (by omega) (by omega) | exact cq_lt (by omega) (by omega) | exact cq_nlt (by omega) (by omega) | exact cq_eq (by omega) (by omega) (by omega) | exact cq_neq (by omega)))) (fun _ => ?_)
      refine mw_iload (i := 16) dL_reads_412 rfl ?_
      refine mw_bipush (v := 8) dL_reads_414 (by decide) ?_
      refine mw_icmp_ge (tgt := 444) dL_reads_416 (by decide) (fun c9 => absurd c9 (by first | decide | exact (fun q => q rfl) | ((try simp only [fa_lit]); first | exact cq_le (by omega) (by omega) | exact cq_nle (by omega) (by omega) | exact cq_lt (by omega) (by omega) | exact cq_nlt (by omega) (by omega) | exact cq_eq (by omega) (by omega) (by omega) | exact cq_neq (by omega)))) (fun _ => ?_)
      refine mw_aload (i := 5) dL_reads_419 rfl ?_
      refine mw_iload (i := 15) dL_reads_421 rfl ?_
      refine mw_dup2 dL_reads_423 rfl rfl ?_
      refine mw_lald dL_reads_424 gl_6 (mw_ix rfl (by omega) (by decide)) ?_
      refine mw_aload_n (i := 0) dL_reads_425 rfl rfl ?_
      refine mw_iload (i := 14) dL_reads_426 rfl ?_
      refine mw_iload (i := 16) dL_reads_428 rfl ?_
      refine mw_iadd dL_reads_430 ?_
      refine mw_iald dL_reads_431 (gl_rowG hr) (mw_ix (nI_add fr i) (by omega) (by decide)) ?_
      rw [hA (fr + i) (by omega)]
      refine mw_i2l dL_reads_432 rfl ?_
      refine mw_bipush (v := 8) dL_reads_433 (by decide) ?_
      refine mw_iload (i := 16) dL_reads_435 rfl ?_
      refine mw_imul dL_reads_437 ?_
      refine mw_lshl dL_reads_438 rfl ?_
      refine mw_lor dL_reads_439 ?_
      refine gl_st6 dL_reads_440 (mw_ix rfl (by omega) (by decide)) ?_
      refine mw_goto (tgt := 469) dL_reads_441 (by decide) ?_
      refine mw_iinc_16 dL_reads_469 (by decide) rfl ?_
      refine mw_goto (tgt := 396) dL_reads_472 (by decide) ?_
      rw [show nI i + Int32.ofInt 1 = nI (i + 1) from nI_1 _]
      refine ih (i + 1) _ (by omega) (fun q hq => ?_) (fun j hj => ?_)
      · rw [va_up_self, vf_n hq, va_up_ne _ _ (by decide)]
        exact h1 q hq
      · have h0 := h2 i (by omega)
        rw [if_neg (Nat.lt_irrefl i)] at h0
        unfold bt2 at h0 h2 ⊢
        rw [if_pos h8] at h0
        rw [va_up_self, vf_s, va_up_ne _ _ (by decide)]
        have h3 := h2 j hj
        by_cases hj8 : j < 8
        · rw [if_pos hj8] at h3 ⊢
          rw [lb_or _ hbi h8 h0 j hj8]
          by_cases ej : j = i
          · rw [if_pos ej, if_pos (by omega), ej]
          · rw [if_neg ej, h3]
            by_cases c : j < i
            · rw [if_pos c, if_pos (by omega)]
            · rw [if_neg c, if_neg (by omega)]
        · rw [if_neg hj8] at h3 ⊢
          rw [h3, if_neg (by omega), if_neg (by omega)]
    · refine mw_iconst (v := 2) dL_reads_401 (by decide) ?_
      refine mw_icmp_ne (tgt := 475) dL_reads_402 (by decide) (fun c9 => absurd c9 (by first | decide | exact (fun q => q rfl) | ((try simp only [fa_lit]); first | exact cq_le (by omega) (by omega) | exact cq_nle (by omega) (by omega) | exact cq_lt (by omega) (by omega) | exact cq_nlt (by omega) (by omega) | exact cq_eq (by omega) (by omega) (by omega) | exact cq_neq (by omega)))) (fun _ => ?_)
      refine mw_iload (i := 16) dL_reads_405 rfl ?_
      refine mw_iload (i := 13) dL_reads_407 rfl ?_
      refine mw_icmp_ge (tgt := 475) dL_reads_409 (by decide) (fun c9 => absurd c9 (by first | decide | exact (fun q => q rfl) | ((try simp only [fa_lit]); first | exact cq_le (by omega) (by omega) | exact cq_nle (by omega) (by omega) | exact cq_lt (by omega) (by omega) | exact cq_nlt (by omega) (by omega) | exact cq_eq (by omega) (by omega) (by omega) | exact cq_neq (by omega)))) (fun _ => ?_)
      refine mw_iload (i := 16) dL_reads_412 rfl ?_
      refine mw_bipush (v := 8) dL_reads_414 (by decide) ?_
      refine mw_icmp_ge (tgt := 444) dL_reads_416 (by decide) (fun _ => ?_) (fun c9 => absurd c9 (by first | decide | exact (fun q => q rfl) | ((try simp only [fa_lit]); first | exact cq_le (by omega) (by omega) | exact cq_nle (by omega) (by omega) | exact cq_lt (by omega) (by omega) | exact cq_nlt (by omega) (by omega) | exact cq_eq (by omega) (by omega) (by omega) | exact cq_neq (by omega))))
      refine mw_aload (i := 6) dL_reads_444 rfl ?_
      refine mw_iload (i := 15) dL_reads_446 rfl ?_
      refine mw_dup2 dL_reads_448 rfl rfl ?_
      refine mw_lald dL_reads_449 gl_7 (mw_ix rfl (by omega) (by decide)) ?_
      refine mw_aload_n (i := 0) dL_reads_450 rfl rfl ?_
      refine mw_iload (i := 14) dL_reads_451 rfl ?_
      refine mw_iload (i := 16) dL_reads_453 rfl ?_
      refine mw_iadd dL_reads_455 ?_
      refine mw_iald dL_reads_456 (gl_rowG hr) (mw_ix (nI_add fr i) (by omega) (by decide)) ?_
      rw [hA (fr + i) (by omega)]
      refine mw_i2l dL_reads_457 rfl ?_
      refine mw_bipush (v := 8) dL_reads_458 (by decide) ?_
      refine mw_iload (i := 16) dL_reads_460 rfl ?_
      refine mw_bipush (v := 8) dL_reads_462 (by decide) ?_
      refine mw_isub dL_reads_464 ?_
      rw [show nI i - 8 = nI (i - 8) from pk_sub (b := 8) (by omega)]
      refine mw_imul dL_reads_465 ?_
      refine mw_lshl dL_reads_466 rfl ?_
      refine mw_lor dL_reads_467 ?_
      refine gl_st7 dL_reads_468 (mw_ix rfl (by omega) (by decide)) ?_
      refine mw_iinc_16 dL_reads_469 (by decide) rfl ?_
      refine mw_goto (tgt := 396) dL_reads_472 (by decide) ?_
      rw [show nI i + Int32.ofInt 1 = nI (i + 1) from nI_1 _]
      refine ih (i + 1) _ (by omega) (fun q hq => ?_) (fun j hj => ?_)
      · rw [va_up_self, vf_n hq, va_up_ne _ _ (by decide)]
        exact h1 q hq
      · have h0 := h2 i (by omega)
        rw [if_neg (Nat.lt_irrefl i)] at h0
        unfold bt2 at h0 h2 ⊢
        rw [if_neg h8] at h0
        rw [va_up_self, vf_s, va_up_ne _ _ (by decide)]
        have h3 := h2 j hj
        by_cases hj8 : j < 8
        · rw [if_pos hj8] at h3 ⊢
          rw [h3, if_pos (by omega), if_pos (by omega)]
        · rw [if_neg hj8] at h3 ⊢
          rw [lb_or _ hbi (by omega) h0 (j - 8) (by omega)]
          by_cases ej : j = i
          · rw [if_pos (by omega), if_pos (by omega), ej]
          · rw [if_neg (by omega), h3]
            by_cases c : j < i
            · rw [if_pos c, if_pos (by omega)]
            · rw [if_neg c, if_neg (by omega)]
theorem lp_readsM (hm : m < 5) {A0 : Nat → Nat → Int32} {X0 : Nat → Nat → Int64} : ∀ (n p : Nat) (A : Nat → Nat → Int32) (X : Nat → Nat → Int64) (G : Nat → Int32) (mn mu : Int32) (L1 : List af) (x11 x12 x13 x14 x15 x16 : Option Value), e ≤ p + 2 * n → p ≤ e → bR A r e b → fF m A0 X0 A X → gK (A0 11) G → G 3 = nI p → G 4 = 0 → ((mu = 0 ∧ mn = nI L1.length ∧ pR A X m L1) ∨ (mu = 1 ∧ ∀ L2, ¬ small (L1 ++ L2))) →
    mw_W mm_L_reads 1 0 0 16 [some (.ref (43 + r)), some (.int (nI e)), some (.ref 46), some (.ref 47), some (.ref 48), some (.ref 49), some (.ref 50), some (.ref 54), some (.int (nI m)), some (.int (mn)), some (.int (mu)), x11, x12, x13, x14, x15, x16] [] (gl H (va_up A 11 G) X) (rM H m A0 X0 (L1 ++ (prs b e n p).1) (prs b e n p).2.1 (prs b e n p).2.2) := by
  intro n
  have hend : ∀ (n p : Nat) (A : Nat → Nat → Int32) (X : Nat → Nat → Int64) (G : Nat → Int32) (mn mu : Int32) (L1 : List af) (x11 x12 x13 x14 x15 x16 : Option Value), e ≤ p → p ≤ e → bR A r e b → fF m A0 X0 A X → gK (A0 11) G → G 3 = nI p → ((mu = 0 ∧ mn = nI L1.length ∧ pR A X m L1) ∨ (mu = 1 ∧ ∀ L2, ¬ small (L1 ++ L2))) →
    mw_W mm_L_reads 1 0 0 16 [some (.ref (43 + r)), some (.int (nI e)), some (.ref 46), some (.ref 47), some (.ref 48), some (.ref 49), some (.ref 50), some (.ref 54), some (.int (nI m)), some (.int (mn)), some (.int (mu)), x11, x12, x13, x14, x15, x16] [] (gl H (va_up A 11 G) X) (rM H m A0 X0 (L1 ++ (prs b e n p).1) (prs b e n p).2.1 (prs b e n p).2.2) := by
    intro n p A X G mn mu L1 x11 x12 x13 x14 x15 x16 h1 h2 hb hF hG h3 hmu
    have he := hb.2.1
    rw [prs_end h1]
    refine mw_aload (i := 7) dL_reads_16 rfl ?_
    refine mw_iconst (v := 3) dL_reads_18 (by decide) ?_
    refine mw_iald dL_reads_19 gl_G (mw_ix (j := 3) rfl (by decide) (by decide)) ?_
    rw [h3]
    rcases hmu with ⟨rfl, rfl, hR⟩ | ⟨rfl, hmu⟩
    · refine mw_iload_n (i := 1) dL_reads_20 rfl rfl ?_
      refine mw_icmp_ge (tgt := 481) dL_reads_21 (by decide) (fun _ => ?_) (fun c9 => absurd c9 (by first | decide | exact (fun q => q rfl) | ((try simp only [fa_lit]); first | exact cq_le (by omega) (by omega) | exact cq_nle (by omega) (by omega) | exact cq_lt (by omega) (by omega) | exact cq_nlt (by omega) (by omega) | exact cq_eq (by omega) (by omega) (by omega) | exact cq_neq (by omega))))
      refine mw_iload (i := 8) dL_reads_481 rfl ?_
      refine mw_if_lt (tgt := 497) dL_reads_483 (by decide) (fun c9 => absurd c9 (cq_lt (b := 0) (Nat.zero_le _) (by omega))) (fun _ => ?_)
      refine mw_iload (i := 10) dL_reads_486 rfl ?_
      refine mw_if_ne (tgt := 497) dL_reads_488 (by decide) (fun c9 => absurd c9 (by first | decide | exact (fun q => q rfl))) (fun _ => ?_)
      refine mw_aload_n (i := 2) dL_reads_491 rfl rfl ?_
      refine mw_iload (i := 8) dL_reads_492 rfl ?_
      refine mw_iload (i := 9) dL_reads_494 rfl ?_
      refine gl_st3G dL_reads_496 (mw_ix rfl hm (by decide)) ?_
      refine mw_iload (i := 10) dL_reads_497 rfl ?_
      refine mw_if_eq (tgt := 507) dL_reads_499 (by decide) (fun _ => ?_) (fun c9 => absurd c9 (by first | decide | exact (fun q => q rfl)))
      refine mw_iconst (v := 0) dL_reads_507 (by decide) ?_
      refine mw_ireturn dL_reads_508 ⟨_, rfl, rfl⟩ ⟨_, _, rfl, fF_g (A := va_up A 3 (upd (A 3) m (nI L1.length))) ⟨fun j h3 h4 h5 h11 => by rw [va_up_ne _ _ h3]; exact hF.1 j h3 h4 h5 h11, fun j hj => by rw [va_up_ne _ _ (by decide)]; exact hF.2.1 j hj, fun m' hm' => by rw [va_up_self, pk_un hm']; exact hF.2.2.1 m' hm', fun p hp => hF.2.2.2 p hp⟩ hG, Or.inr (Or.inl ⟨rfl, ?_, rfl, ?_⟩)⟩
      · rw [List.append_nil]; exact pR_small hR
      · rw [List.append_nil]
        exact ⟨by rw [va_up_ne _ _ (by decide), va_up_self, pk_us], hR.1, hR.2⟩
    · refine mw_iload_n (i := 1) dL_reads_20 rfl rfl ?_
      refine mw_icmp_ge (tgt := 481) dL_reads_21 (by decide) (fun _ => ?_) (fun c9 => absurd c9 (by first | decide | exact (fun q => q rfl) | ((try simp only [fa_lit]); first | exact cq_le (by omega) (by omega) | exact cq_nle (by omega) (by omega) | exact cq_lt (by omega) (by omega) | exact cq_nlt (by omega) (by omega) | exact cq_eq (by omega) (by omega) (by omega) | exact cq_neq (by omega))))
      refine mw_iload (i := 8) dL_reads_481 rfl ?_
      refine mw_if_lt (tgt := 497) dL_reads_483 (by decide) (fun c9 => absurd c9 (cq_lt (b := 0) (Nat.zero_le _) (by omega))) (fun _ => ?_)
      refine mw_iload (i := 10) dL_reads_486 rfl ?_
      refine mw_if_ne (tgt := 497) dL_reads_488 (by decide) (fun _ => ?_) (fun c9 => absurd c9 (by first | decide | exact (fun q => q rfl)))
      refine mw_iload (i := 10) dL_reads_497 rfl ?_
      refine mw_if_eq (tgt := 507) dL_reads_499 (by decide) (fun c9 => absurd c9 (by first | decide | exact (fun q => q rfl))) (fun _ => ?_)
      refine mw_bipush (v := 9) dL_reads_502 (by decide) ?_
      refine mw_goto (tgt := 508) dL_reads_504 (by decide) ?_
      exact mw_ireturn dL_reads_508 ⟨_, rfl, rfl⟩ ⟨_, _, rfl, fF_g hF hG, Or.inr (Or.inr ⟨rfl, hmu _, rfl⟩)⟩
  induction n with
  | zero =>
    intro p A X G mn mu L1 x11 x12 x13 x14 x15 x16 h1 h2 hb hF hG h3 h4 hmu
    exact hend 0 p A X G mn mu L1 _ _ _ _ _ _ (by omega) h2 hb hF hG h3 hmu
  | succ n ih =>
    intro p A X G mn mu L1 x11 x12 x13 x14 x15 x16 h1 h2 hb hF hG h3 h4 hmu
    by_cases hpe : e ≤ p
    · exact hend (n + 1) p A X G mn mu L1 _ _ _ _ _ _ hpe h2 hb hF hG h3 hmu
    have hp : p < e := by omega
    have he := hb.2.1
    rw [prs_step hp]
    refine rd_field hb hp h3 h4 (fun hbad G' hG' g3 => ?_) (fun hgood G' x15 x16 hG' g3 g4 => ?_)
    · rw [if_neg hbad]
      exact ⟨_, _, rfl, fF_g hF (hG.tr hG'), Or.inl ⟨hbad, rfl, by rw [va_up_self]; exact g3⟩⟩
    · rw [if_pos hgood]
      obtain ⟨hok, k2, k3, k4⟩ := mkf_ok hb hp hgood
      obtain ⟨q1, -, q3⟩ := okf_key hok
      have q1 : 8 * (pf b e p).2.2.1 + (pf b e p).2.2.2.1 < 2 ^ 8 := q1
      have q3 : (8 * (pf b e p).2.2.1 + (pf b e p).2.2.2.1) % 8 = (pf b e p).2.2.2.1 := q3
      have hv : (pf b e p).2.2.2.2 < 2 ^ 32 := hok.2.2.2.1
      have hx1 : (mkf b (pf b e p)).1 = (pf b e p).2.2.1 := rfl
      have hx2 : (mkf b (pf b e p)).2.1 = (pf b e p).2.2.2.1 := rfl
      have hx3 : (mkf b (pf b e p)).2.2.1 = (pf b e p).2.2.2.2 := rfl
      have hx4 : (mkf b (pf b e p)).2.2.2 = if (pf b e p).2.2.2.1 = 2 then bys b ((pf b e p).2.1 - (pf b e p).2.2.2.2) (pf b e p).2.2.2.2 else [] := rfl
      generalize mkf b (pf b e p) = xn at hok hx1 hx2 hx3 hx4 ⊢
      generalize (pf b e p).2.1 = nx at *
      generalize (pf b e p).2.2.1 = tg_ at *
      generalize (pf b e p).2.2.2.1 = ty at *
      generalize (pf b e p).2.2.2.2 = v at *
      dsimp only
      rw [show L1 ++ xn :: (prs b e n nx).1 = (L1 ++ [xn]) ++ (prs b e n nx).1 by simp]
      have h9 := ih nx
      have hmuch : ∀ mn' x11 x12 x13 x14 x15 x16, (∀ L2, ¬ small ((L1 ++ [xn]) ++ L2)) → mw_W mm_L_reads 1 0 0 16 [some (.ref (43 + r)), some (.int (nI e)), some (.ref 46), some (.ref 47), some (.ref 48), some (.ref 49), some (.ref 50), some (.ref 54), some (.int (nI m)), some (.int (mn')), some (.int (1)), x11, x12, x13, x14, x15, x16] [] (gl H (va_up A 11 G') X) (rM H m A0 X0 ((L1 ++ [xn]) ++ (prs b e n nx).1) (prs b e n nx).2.1 (prs b e n nx).2.2) :=
        fun mn' x11 x12 x13 x14 x15 x16 hns => h9 A X G' mn' 1 (L1 ++ [xn]) _ _ _ _ _ _ (by omega) k3 hb hF (hG.tr hG') g3 g4 (Or.inr ⟨rfl, hns⟩)
      rcases hmu with ⟨rfl, rfl, hR⟩ | ⟨rfl, hmu⟩
      · have hl12 := hR.1
        by_cases hc : nI L1.length = 12 ∨ (8 * tg_ + ty) % 8 = 2 ∧ ¬ nI v ≤ 16
        · refine rd_much (by omega) hv 1 (Or.inl ⟨rfl, hc⟩) ?_
          rw [show (0 : Int32) ||| 1 = 1 by decide]
          refine mw_iload (i := 10) dL_reads_345 rfl ?_
          refine mw_if_ne (tgt := 16) dL_reads_347 (by decide) (fun _ => ?_) (fun c9 => absurd c9 (by first | decide | exact (fun q => q rfl)))
          refine hmuch _ _ _ _ _ _ _ (fun L2 hs => ?_)
          rcases hc with hc | ⟨c1, c2⟩
          · have : L1.length = 12 := (nI_eq (b := 12) (by omega) (by decide)).mp hc
            have h12 := hs.1
            rw [List.length_append, List.length_append, List.length_singleton] at h12
            omega
          · have h16 := hs.2 xn (by simp) (by omega)
            exact c2 (nI_le (b := 16) (by omega) (by decide))
        · refine rd_much (by omega) hv 0 (Or.inr ⟨rfl, hc⟩) ?_
          have hne : L1.length ≠ 12 := fun z => hc (Or.inl (by rw [z]; rfl))
          have hb16 : ty = 2 → v ≤ 16 := fun z => by
            rcases Nat.lt_or_ge 16 v with z2 | z2
            · exfalso
              refine hc (Or.inr ⟨by omega, ?_⟩)
              have := hok.2.2.2.2.1 (by omega)
              have := k4 z
              exact nI_ge (a := 16) z2 (by omega)
            · exact z2
          rw [show (0 : Int32) ||| 0 = 0 by decide]
          refine mw_iload (i := 10) dL_reads_345 rfl ?_
          refine mw_if_ne (tgt := 16) dL_reads_347 (by decide) (fun c9 => absurd c9 (by first | decide | exact (fun q => q rfl))) (fun _ => ?_)
          refine mw_iload (i := 8) dL_reads_350 rfl ?_
          refine mw_if_ge (tgt := 358) dL_reads_352 (by decide) (fun _ => ?_) (fun c9 => absurd c9 (cq_nle (a := 0) (Nat.zero_le _) (by omega)))
          refine mw_bipush (v := 12) dL_reads_358 (by decide) ?_
          refine mw_iload (i := 8) dL_reads_360 rfl ?_
          refine mw_imul dL_reads_362 ?_
          refine mw_iload (i := 9) dL_reads_363 rfl ?_
          refine mw_iadd dL_reads_365 ?_
          rw [mx_12]
          refine mw_istore_15 dL_reads_366 (by decide) ?_
          refine mw_aload_n (i := 3) dL_reads_368 rfl rfl ?_
          refine mw_iload (i := 15) dL_reads_369 rfl ?_
          refine mw_iload (i := 12) dL_reads_371 rfl ?_
          refine gl_st4G dL_reads_373 (mw_ix rfl (by omega) (by decide)) ?_
          refine mw_aload (i := 4) dL_reads_374 rfl ?_
          refine mw_iload (i := 15) dL_reads_376 rfl ?_
          refine mw_iload (i := 13) dL_reads_378 rfl ?_
          refine gl_st5G dL_reads_380 (mw_ix rfl (by omega) (by decide)) ?_
          refine mw_aload (i := 5) dL_reads_381 rfl ?_
          refine mw_iload (i := 15) dL_reads_383 rfl ?_
          refine mw_lconst (v := 0) dL_reads_385 (by decide) ?_
          refine gl_st6 dL_reads_386 (mw_ix rfl (by omega) (by decide)) ?_
          refine mw_aload (i := 6) dL_reads_387 rfl ?_
          refine mw_iload (i := 15) dL_reads_389 rfl ?_
          refine mw_lconst (v := 0) dL_reads_391 (by decide) ?_
          refine gl_st7 dL_reads_392 (mw_ix rfl (by omega) (by decide)) ?_
          refine mw_iconst (v := 0) dL_reads_393 (by decide) ?_
          refine mw_istore_16 dL_reads_394 (by decide) ?_
          refine mw_hp (h' := gl H (va_up (va_up (va_up A 4 (upd (A 4) (12 * m + L1.length) (nI (8 * tg_ + ty)))) 5 (upd (A 5) (12 * m + L1.length) (nI v))) 11 G') (va_up (va_up X 6 (vf_upd (X 6) (12 * m + L1.length) 0)) 7 (vf_upd (X 7) (12 * m + L1.length) 0))) (gl_cong rfl rfl) ?_
          generalize hA2 : va_up (va_up A 4 (upd (A 4) (12 * m + L1.length) (nI (8 * tg_ + ty)))) 5 (upd (A 5) (12 * m + L1.length) (nI v)) = A2
          generalize hX2 : va_up (va_up X 6 (vf_upd (X 6) (12 * m + L1.length) 0)) 7 (vf_upd (X 7) (12 * m + L1.length) 0) = X2
          have a4 : A2 4 = upd (A 4) (12 * m + L1.length) (nI (8 * tg_ + ty)) := by rw [← hA2]; rfl
          have a5 : A2 5 = upd (A 5) (12 * m + L1.length) (nI v) := by rw [← hA2]; rfl
          have an : ∀ j, j ≠ 4 → j ≠ 5 → A2 j = A j := fun j z4 z5 => by rw [← hA2, va_up_ne _ _ z5, va_up_ne _ _ z4]
          have x6 : X2 6 = vf_upd (X 6) (12 * m + L1.length) 0 := by rw [← hX2]; rfl
          have x7 : X2 7 = vf_upd (X 7) (12 * m + L1.length) 0 := by rw [← hX2]; rfl
          have hb2 : bR A2 r e b := bR_cong hb (an 8 (by decide) (by decide)) (an 9 (by decide) (by decide))
          have hkk : ∀ X' x16, (∀ q, q ≠ 12 * m + L1.length → X' 6 q = X2 6 q ∧ X' 7 q = X2 7 q) → (ty = 2 → ∀ j, j < 16 → bt2 X' (12 * m + L1.length) j = if j < v then b (nx - v + j) else 0) → mw_W mm_L_reads 1 0 0 475 [some (.ref (43 + r)), some (.int (nI e)), some (.ref 46), some (.ref 47), some (.ref 48), some (.ref 49), some (.ref 50), some (.ref 54), some (.int (nI m)), some (.int (nI L1.length)), some (.int (0)), some (.int (nI p)), some (.int (nI (8 * tg_ + ty))), some (.int (nI v)), some (.int (nI (nx - if ty = 2 then v else 0))), some (.int (nI (12 * m + L1.length))), x16] [] (gl H (va_up A2 11 G') X') (rM H m A0 X0 ((L1 ++ [xn]) ++ (prs b e n nx).1) (prs b e n nx).2.1 (prs b e n nx).2.2) := by
            intro X' x16 hX' hbt
            refine mw_iinc_9 dL_reads_475 (by decide) rfl ?_
            refine mw_goto (tgt := 16) dL_reads_478 (by decide) ?_
            rw [show nI L1.length + Int32.ofInt 1 = nI (L1.length + 1) from nI_1 _]
            refine h9 A2 X' G' _ 0 (L1 ++ [xn]) _ _ _ _ _ _ (by omega) k3 hb2 ?_ (hG.tr hG') g3 g4 (Or.inl ⟨rfl, by rw [List.length_append, List.length_singleton], ?_⟩)
            · refine hF.tr ⟨fun j _ z4 z5 _ => an j z4 z5, fun j _ => by rw [an 11 (by decide) (by decide)], fun m' _ => by rw [an 3 (by decide) (by decide)], fun q hq => ?_⟩
              have hq' : q ≠ 12 * m + L1.length := by omega
              obtain ⟨y1, y2⟩ := hX' q hq'
              rw [a4, a5, y1, y2, x6, x7]
              exact ⟨pk_un hq', pk_un hq', vf_n hq', vf_n hq'⟩
            · refine ⟨by rw [List.length_append, List.length_singleton]; omega, fun j y hj => ?_⟩
              by_cases c : j < L1.length
              · rw [List.getElem?_append_left c] at hj
                have hq' : 12 * m + j ≠ 12 * m + L1.length := by omega
                obtain ⟨y1, y2⟩ := hX' _ hq'
                refine fC_cong (hR.2 j y hj) ?_ ?_ ?_ ?_
                · rw [a4]; exact pk_un hq'
                · rw [a5]; exact pk_un hq'
                · rw [y1, x6]; exact vf_n hq'
                · rw [y2, x7]; exact vf_n hq'
              · rw [List.getElem?_append_right (by omega)] at hj
                have hj0 := (List.getElem?_eq_some_iff.mp hj).1
                rw [List.length_singleton] at hj0
                have ej : j = L1.length := by omega
                subst ej
                rw [Nat.sub_self] at hj
                cases hj
                refine ⟨by rw [a4, pk_us, hx1, hx2], by rw [a5, pk_us, hx3], fun z => ?_⟩
                have z : ty = 2 := by omega
                refine ⟨by rw [hx3]; exact hb16 z, fun j hj => ?_⟩
                rw [hbt z j hj, hx4, if_pos z, bys_get]
          have hk7 : nI (8 * tg_ + ty) &&& 7 = nI ((8 * tg_ + ty) % 8) := pk_andN (by omega) 3 (by decide)
          by_cases h2t : ty = 2
          · rw [if_pos h2t] at hkk ⊢
            have hv16 := hb16 h2t
            have hvn := k4 h2t
            have hfrom : nx - v + v ≤ e := by omega
            have h98 := fun (kk) => lp_bytes (Po := rM H m A0 X0 ((L1 ++ [xn]) ++ (prs b e n nx).1) (prs b e n nx).2.1 (prs b e n nx).2.2) (H := H) (A := A2) (X := X2) (G := G') (mn := nI L1.length) (mu := 0) (x11 := some (.int (nI p))) (m := m) hb2 (at_ := 12 * m + L1.length) (v := v) (fr := nx - v) (by omega) hv16 hfrom (k := 8 * tg_ + ty) (by omega) (by omega) kk v 0 X2 (by omega) (fun _ _ => ⟨rfl, rfl⟩) (fun j hj => by
              unfold bt2
              rw [x6, x7, vf_s, vf_s, lb_0, lb_0, if_neg (Nat.not_lt_zero _)]
              split <;> rfl)
            exact h98 (fun X' x16 a b => hkk X' x16 a (fun _ => b))
          · refine mw_iload (i := 12) dL_reads_396 rfl ?_
            refine mw_bipush (v := 7) dL_reads_398 (by decide) ?_
            refine mw_iand dL_reads_400 ?_
            rw [hk7]
            refine mw_iconst (v := 2) dL_reads_401 (by decide) ?_
            refine mw_icmp_ne (tgt := 475) dL_reads_402 (by decide) (fun _ => ?_) (fun c9 => absurd c9 (by first | decide | exact (fun q => q rfl) | ((try simp only [fa_lit]); first | exact cq_le (by omega) (by omega) | exact cq_nle (by omega) (by omega) | exact cq_lt (by omega) (by omega) | exact cq_nlt (by omega) (by omega) | exact cq_eq (by omega) (by omega) (by omega) | exact cq_neq (by omega))))
            exact hkk X2 _ (fun _ _ => ⟨rfl, rfl⟩) (fun z => absurd z h2t)
      · by_cases hc : mn = 12 ∨ (8 * tg_ + ty) % 8 = 2 ∧ ¬ nI v ≤ 16
        · refine rd_much (by omega) hv 1 (Or.inl ⟨rfl, hc⟩) ?_
          rw [show (1 : Int32) ||| 1 = 1 by decide]
          refine mw_iload (i := 10) dL_reads_345 rfl ?_
          refine mw_if_ne (tgt := 16) dL_reads_347 (by decide) (fun _ => ?_) (fun c9 => absurd c9 (by first | decide | exact (fun q => q rfl)))
          exact hmuch _ _ _ _ _ _ _ (fun L2 => by rw [List.append_assoc]; exact hmu _)
        · refine rd_much (by omega) hv 0 (Or.inr ⟨rfl, hc⟩) ?_
          rw [show (1 : Int32) ||| 0 = 1 by decide]
          refine mw_iload (i := 10) dL_reads_345 rfl ?_
          refine mw_if_ne (tgt := 16) dL_reads_347 (by decide) (fun _ => ?_) (fun c9 => absurd c9 (by first | decide | exact (fun q => q rfl)))
          exact hmuch _ _ _ _ _ _ _ (fun L2 => by rw [List.append_assoc]; exact hmu _)
theorem c_readsM (hm : m < 5) (hb : bR A r e b) : mw_Con mm_L_reads 1 0 0 [.ref (43 + r), .int (nI e), .ref 46, .ref 47, .ref 48, .ref 49, .ref 50, .ref 54, .int (nI m)] (gl H A X) (rM H m A X (prs b e 60 0).1 (prs b e 60 0).2.1 (prs b e 60 0).2.2) := by
  have he := hb.2.1
  refine gm_con pl_L rfl rfl (Nat.le_of_ble_eq_true rfl) rfl ?_
  refine mw_hp (h' := gl H (va_up A 11 (A 11)) X) (gl_cong (up_same A 11).symm rfl) ?_
  refine mw_aload (i := 7) dL_reads_0 rfl ?_
  refine mw_iconst (v := 3) dL_reads_2 (by decide) ?_
  refine mw_iconst (v := 0) dL_reads_3 (by decide) ?_
  refine gl_stG dL_reads_4 (mw_ix (j := 3) rfl (by decide) (by decide)) ?_
  refine mw_aload (i := 7) dL_reads_5 rfl ?_
  refine mw_iconst (v := 4) dL_reads_7 (by decide) ?_
  refine mw_iconst (v := 0) dL_reads_8 (by decide) ?_
  refine gl_stG dL_reads_9 (mw_ix (j := 4) rfl (by decide) (by decide)) ?_
  refine mw_iconst (v := 0) dL_reads_10 (by decide) ?_
  refine mw_istore_9 dL_reads_11 (by decide) ?_
  refine mw_iconst (v := 0) dL_reads_13 (by decide) ?_
  refine mw_istore_10 dL_reads_14 (by decide) ?_
  have h9 := lp_readsM (H := H) (r := r) (b := b) hm (A0 := A) (X0 := X) 60 0 A X _ 0 0 [] none none none none none none (by omega) (Nat.zero_le _) hb fF.rf (((gK.rf (G := A 11)).u (by decide) 0).u (q := 4) (by decide) 0) ((pk_un (by decide)).trans pk_us) pk_us (Or.inl ⟨rfl, rfl, Nat.zero_le _, fun i x h => by cases h⟩)
  rw [List.nil_append] at h9
  exact h9
end LH8
