/-! the law's entry: what the tables and the Statement give of the start (the skeleton's names) -/
def R_law : String := "SchemabridgeLaw"
def lw_P (b : Addr) (xs : List Int32) (args : Array Value) (s : State) : Prop := args = #[.ref b] ∧ s.IntsAt b xs ∧ xs.length ≤ 260 ∧ (Jvm.Cond.and given_1 narrow_1).before args s = true
def lw_Q (_ : Array Value) (s : State) (o : Outcome) (t : State) : Prop := o = .returned (some (.int 1)) ∧ Framed s o t [] 821460 6637243
def lw_Z (below : List Frame) (a : Array Value) (s : State) : State → Prop := fun t => ∃ o, t.status = .running ∧ Ended t below o ∧ lw_Q a s o t
/-- what holds at the law's entry: the machine, the code, the tables' words (any of lw_tbl by 'hts w (by decide +kernel)'), the script of L ints xs at the cell b, what the Statement gives of the start (any of its parts by flat_of_before) -/
def lw_At (p : Program) (s : State) (m : MethodId) (meth : Method) (c : Code) (b L : Nat) (xs : Nat → Int32) : Prop :=
  (c.exceptionTable.toList = [] ∧ meth.name = "law") ∧ p.tables.exec = Jvm.exec ∧ c.code = code ∧ meth.sig.returnType = ret ∧ c.maxLocals = 17 ∧ s.vm.findClass R_law = some m.cls ∧ (∀ w ∈ lw_tbl, w.before #[Value.ref b] s = true) ∧ va_X b L xs s s.heap ∧ b < s.heap.size ∧ meth.locks = false ∧ (Jvm.Cond.and given_1 narrow_1).before #[Value.ref b] s = true
theorem st_strs : ∀ q ∈ mw_strs, Cond.stringRef q.1 q.2.1 q.2.2 ∈ lw_tbl := by decide +kernel
theorem st_exact : ∀ q ∈ mw_strs, Cond.exactly (.string q.1 q.2.1) "java/lang/String" ∈ flatC (Jvm.Cond.and given_1 narrow_1) := by decide +kernel
theorem st_ncs : ∀ q ∈ mw_ncs, Cond.not (.castable q.1 q.2) ∈ flatC (Jvm.Cond.and given_1 narrow_1) := by decide +kernel
theorem st_z : (Cond.laysStatic Bundle.tN "UNASSIGNED_STACK" Bundle.steD ∈ lw_tbl ∧ Cond.laysStatic Bundle.tN "SUPPRESSED_SENTINEL" Bundle.listD ∈ lw_tbl ∧ Cond.initialized Bundle.tN ∈ lw_tbl) ∧ Cond.isRef (.static Bundle.tN "UNASSIGNED_STACK" Bundle.steD) ∈ flatC (Jvm.Cond.and given_1 narrow_1) ∧ Cond.isRef (.static Bundle.tN "SUPPRESSED_SENTINEL" Bundle.listD) ∈ flatC (Jvm.Cond.and given_1 narrow_1) := by decide +kernel
theorem st_ins : Cond.instantiable "java/lang/IllegalStateException" 6 ∈ lw_tbl ∧ Cond.instantiable "java/lang/IllegalArgumentException" 6 ∈ lw_tbl ∧ Cond.instantiable "java/lang/IndexOutOfBoundsException" 6 ∈ lw_tbl ∧ Cond.instantiable "java/util/NoSuchElementException" 6 ∈ lw_tbl := by decide +kernel
theorem st_arr {args : Array Value} {s : State} {ty : FieldType} (hn : ∀ C, ty ≠ .object C) (h : (Cond.arrayClass ty).before args s = true) : ∃ cA : ClassId, ArrOfT s cA ty ∧ va_RA s cA ty := by
  obtain ⟨cA, kA, comp, h1, h2, h3⟩ := Cond.arrayClass_spec h
  refine ⟨cA, fun n z => ⟨fun k h => (by cases h), kA, h2, comp, h3⟩, ?_⟩
  cases ty with
  | object C => exact absurd rfl (hn C)
  | _ => exact h1
theorem st_arrO {args : Array Value} {s : State} {C : String} (h : (Cond.arrayOver (.object C)).before args s = true) : ∃ cA : ClassId, ArrOfT s cA (.object C) ∧ va_RA s cA (.object C) := by
  obtain ⟨comp, cA, kA, h1, h2, h3, h4, h5⟩ := Cond.arrayOver_spec h
  exact ⟨cA, fun n z => ⟨fun k h => (by cases h), kA, h3, comp, h4⟩, kA, comp, h3, h4, h1, h5⟩
theorem st_K {s : State} {args : Array Value} (hts : ∀ w ∈ lw_tbl, w.before args s = true) : ∃ (dC : Nat → ClassId) (dI : Nat → Nat → Nat), ∀ (k : Nat) (q : vw_C), mw_cl[k]? = some q → u_Kn s q.1 q.2.1 q.2.2 (dC k) (dI k) := by
  have hk : ∀ k : Nat, ∃ (c : ClassId) (i : Nat → Nat), ∀ q : vw_C, mw_cl[k]? = some q → u_Kn s q.1 q.2.1 q.2.2 c i := by
    intro k
    have hw : ∀ (C : String) (T : u_T) (N n : Nat), (∀ w ∈ u_ws C T N, w ∈ lw_tbl) → Cond.instantiable C n ∈ lw_tbl → mw_cl[k]? = some (C, T, N) → ∃ (c : ClassId) (i : Nat → Nat), ∀ q : vw_C, mw_cl[k]? = some q → u_Kn s q.1 q.2.1 q.2.2 c i := by
      intro C T N n h1 h2 h3
      obtain ⟨c, i, hc⟩ := u_known (C := C) (T := T) (N := N) (n := n) hts h1 (hts _ h2)
      exact ⟨c, i, fun q hq => by rw [h3] at hq; cases hq; exact hc⟩
    have hE : ∀ E : String, ∀ w ∈ u_ws E mw_T0 0, w ∈ lw_tbl := fun E w hw => by cases hw
    match k with
    | 0 => exact hw _ _ _ 2 cf_0.1 nw_X2_24.2.1 rfl
    | 1 => exact hw _ _ _ 4 cf_1.1 nw_X6_42.2.1 rfl
    | 2 => exact hw _ _ _ 10 cf_2.1 nw_X1_9.2.1 rfl
    | 3 => exact hw _ _ _ 2 cf_3.1 nw_X6_15.2.1 rfl
    | 4 => exact hw _ _ _ 4 cf_4.1 nw_X6_28.2.1 rfl
    | 5 => exact hw _ _ _ 5 cf_5.1 nw_X6_9.2.1 rfl
    | 6 => exact hw _ _ _ 11 cf_6.1 nw_L_9.2.1 rfl
    | 7 => exact hw _ _ _ 2 cf_0.1 nw_X2_24.2.1 rfl
    | 8 => exact hw _ _ _ 6 (hE _) st_ins.1 rfl
    | 9 => exact hw _ _ _ 6 (hE _) st_ins.2.1 rfl
    | 10 => exact hw _ _ _ 6 (hE _) st_ins.2.2.1 rfl
    | 11 => exact hw _ _ _ 6 (hE _) st_ins.2.2.2 rfl
    | k + 12 => exact ⟨0, fun _ => 0, fun q hq => by simp at hq⟩
  exact ⟨fun k => (hk k).choose, fun k => (hk k).choose_spec.choose, fun k => (hk k).choose_spec.choose_spec⟩
theorem st_tys {s : State} {args : Array Value} (hts : ∀ w ∈ lw_tbl, w.before args s = true) : ∃ cA : Nat → ClassId, ∀ (k : Nat) (q : ClassId × FieldType), [(cA 0, FieldType.int), (cA 1, .byte), (cA 2, .boolean), (cA 3, .long), (cA 4, .object RX5), (cA 5, .object RX3)][k]? = some q → ArrOfT s q.1 q.2 ∧ va_RA s q.1 q.2 := by
  obtain ⟨c0, h0⟩ := st_arr (ty := .int) (fun C h => by cases h) (hts _ ac_int)
  obtain ⟨c1, h1⟩ := st_arr (ty := .byte) (fun C h => by cases h) (hts _ ac_byte)
  obtain ⟨c2, h2⟩ := st_arr (ty := .boolean) (fun C h => by cases h) (hts _ ac_boolean)
  obtain ⟨c3, h3⟩ := st_arr (ty := .long) (fun C h => by cases h) (hts _ ac_long)
  obtain ⟨c4, h4⟩ := st_arrO (hts _ nq_X6_9.2)
  obtain ⟨c5, h5⟩ := st_arrO (hts _ nq_X6_15.2)
  refine ⟨fun k => match k with | 0 => c0 | 1 => c1 | 2 => c2 | 3 => c3 | 4 => c4 | _ => c5, fun k q hq => ?_⟩
  match k, hq with
  | 0, hq => cases hq; exact h0
  | 1, hq => cases hq; exact h1
  | 2, hq => cases hq; exact h2
  | 3, hq => cases hq; exact h3
  | 4, hq => cases hq; exact h4
  | 5, hq => cases hq; exact h5
  | k + 6, hq => simp at hq
theorem st_K0 {s : State} {b L : Nat} {xs : Nat → Int32} (hts : ∀ w ∈ lw_tbl, w.before #[Value.ref b] s = true) (hX : va_X b L xs s s.heap) (hbl : b < s.heap.size) (hgv : (Jvm.Cond.and given_1 narrow_1).before #[Value.ref b] s = true) : ∃ (D : va_G) (cA : Nat → ClassId), mw_K0 (s, b, (L, xs), D, cA) := by
  obtain ⟨dC, dI, hKn⟩ := st_K hts
  obtain ⟨cA, hT⟩ := st_tys hts
  have hfl := flat_of_before _ hgv
  have hA : ∀ a : Nat, a < s.heap.size → ¬ mw_I (s, b, (L, xs), (dC, dI), cA) a := fun a ha h => Nat.not_le.mpr ha h
  refine ⟨(dC, dI), cA, hts, ⟨hKn, hT⟩, hX, hbl, vx_Zqof (hts _ st_z.1.1) (hts _ st_z.1.2.2) (hfl _ st_z.2.1) hA, vx_Zqof (hts _ st_z.1.2.1) (hts _ st_z.1.2.2) (hfl _ st_z.2.2) hA, fun q hq => ?_, fun q hq => va_Nc.of (hfl _ (st_ncs q hq))⟩
  obtain ⟨a, -, -, -, ha, -⟩ := Cond.exactly_spec (hfl _ (st_exact q hq))
  exact ⟨a, vk_R.of (hts _ (st_strs q hq)) ha⟩
set_option maxRecDepth 100000 in
theorem whole_start {p : Program} {e : Env} {s : State} {m : MethodId} {below : List Frame} {meth : Method} {c : Code} (l : Launch) (hflags : l.flags = flags0) {b L : Nat} {xs : Nat → Int32} (hL : L ≤ 260) (C0 : lw_At p s m meth c b L xs) : W p l e room_1 s m #[Value.ref b] below meth c s.heap [] 0 0 (lw_Z below #[Value.ref b] s) (entryFrame m ([Value.ref b] : List Value).toArray 17) := by
  obtain ⟨⟨htab, hname⟩, hx, hb, hr, hml, hown, hts, hX, hbl, hlocks, hgv⟩ := C0
  obtain ⟨D, cA, hK0⟩ := st_K0 hts hX hbl hgv
  obtain ⟨G, hG⟩ : ∃ z : mw_G, z = (s, b, (L, xs), D, cA) := ⟨_, rfl⟩
  rw [← hG] at hK0
  have hG1 : G.1 = s := by rw [hG]
  have hG2 : G.2.1 = b := by rw [hG]
  have hG3 : G.2.2.1 = (L, xs) := by rw [hG]
  have hb0 : mw_b0 G = s.heap.size := by rw [mw_b0, hG1]
  have hK : mw_K G s := ⟨hK0, by rw [hG1]; exact State.WarmedH.refl s, by rw [hb0]; exact Nat.le_refl _, fun q _ => by rw [hG1]⟩
  have htr : l.stackTraces = false := by
    unfold Launch.stackTraces
    rw [hflags]
    decide
  have hC : mw_C G mm_L_law 12 821460 6637243 p l room_1 s m meth c := ⟨hx, hb, hr, hml, hown, hlocks, htr, htab, hname, by decide, by decide, Nat.le_refl _, Nat.le_refl _, hK⟩
  have hR : mw_R G (1, fun _ => none, (L, xs)) s.heap := ⟨Nat.one_pos, by rw [hb0], hG3.symm, fun a x hx => by cases hx⟩
  have hLo := mw_L_entry (G := G) (n := 17) (as := [.ref 0]) (by decide) (by decide)
  have hV : ([Value.ref 0] : List Value).map (mw_V G) = [.ref b] := by
    show [mw_V G (.ref 0)] = _
    rw [show mw_V G (.ref 0) = .ref G.2.1 from rfl, hG2]
  rw [hV] at hLo
  rw [lg_entry_eq]
  have hw := law_W (sc := (L, xs)) hL G p l e room_1 s m #[Value.ref b] below meth c 821460 6637243 s.heap [] 0 0 _ hC (by decide) (by decide) hR va_S.rf hLo
  intro T hT X
  obtain ⟨t, st, o, hrun, hend, hQ⟩ := hw T hT X
  refine ⟨t, st, o, hrun, hend, ?_⟩
  rcases hQ with ⟨⟨⟨v, h', ho, hv, hR'⟩, hF⟩, Lc, ⟨hret, hW, hsame⟩, hfree⟩ | ⟨q, ho, E, ce, Lc, ⟨⟨h', hp, -⟩, -⟩, -⟩
  · cases hv
    refine ⟨ho, ⟨_, ho⟩, hW, hsame.weaken (l' := []) (fun y hy hlt => ?_) (Nat.le_refl _) (Nat.le_refl _)⟩
    have h9 := hfree y hy
    have h9 : mw_b0 G ≤ y.base := h9
    rw [hb0] at h9
    exact absurd hlt (Nat.not_lt.mpr h9)
  · cases hp
