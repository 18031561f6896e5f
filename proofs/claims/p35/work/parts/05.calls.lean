section MXE
variable {p : Program} {l : Launch} {e : Env} {R : Room} {s : State} {m : MethodId} {args : Array Value} {below : List Frame} {meth : Method} {c : Code} {H : Heap} {locs : List Loc} {cells slots : Nat} {Q : State → Prop}
variable {mc ms : Nat} {free : Addr → Prop} {A0 A1 : Nat → Prop} {H0 : Heap} {a : Array Value} {ls : Array Slot} {st0 rest : List Value}
variable {Qc : Array Value → State → Outcome → State → Prop} {XC : String → State → State → Prop}
theorem mx_throwS {cc : ByteArray} {pc : Nat} (hexec : p.tables.exec = Jvm.exec) (hb : c.code = cc) (hl : l.stackTraces = false) {own cls text : String} {names : List String} {ik is ic mc ms sa : Nat} {A : Nat → Prop}
    (hown : s.vm.findClass own = some m.cls) (hcls : Bundle.fit cls = true) (hnames : ∀ n ∈ names, Bundle.fit n = true)
    (hk : (Cond.classLink own ik cls).before args s = true) (hini : (Cond.initialized cls).before args s = true) (hstr : vk_R own is text sa s) (hat : ∀ w ∈ vx_atS own ic cls names, w.before args s = true)
    (hgood : ∀ w ∈ Cond.classLink own ik cls :: Cond.initialized cls :: vx_atS own ic cls names, vx_ot w = true)
    (hU : vx_Zq Bundle.tN "UNASSIGNED_STACK" Bundle.steD A s s.heap) (hN : vx_Zq Bundle.tN "SUPPRESSED_SENTINEL" Bundle.listD A s s.heap) (hS : va_S A s.heap H locs) (hsize : ls.size = c.maxLocals)
    (d0 : decode cc pc = .ok (.new ik, 3)) (d3 : decode cc (pc + 3) = .ok (.dup, 1)) (d4 : decode cc (pc + 4) = .ok (.ldc is, 2)) (d6 : decode cc (pc + 6) = .ok (.invokespecial ic, 3)) (d9 : decode cc (pc + 9) = .ok (.athrow, 1))
    (hout : ∀ x ∈ c.exceptionTable.toList, covers x (pc + 9) = false)
    (hRframes : names.length + 3 < R.frames) (hRlocals : (rest.map fun v => v.category).sum + (13 * (names.length + 1) + 43) ≤ R.locals) (hRcells : cells + 1 ≤ R.cells) (hRslots : slots + 6 ≤ R.slots) (hlocks : meth.locks = false)
    (hx : ∀ t : State, s.vm.Alike t.vm → t.heap.size = H.size + 1 → (∀ q : Nat, q < H.size → t.heap[q]? = H[q]?) → (∃ ce : Cell, t.heap[H.size]? = some ce ∧ ce.vm = .none ∧ s.vm.findClass cls = some ce.cls) → XC cls s t)
    (hf : ∀ z ∈ locs, free z.base) (hc : cells + 1 ≤ mc) (hs : slots + 6 ≤ ms) :
    W p l e R s m args below meth c H locs cells slots (vx_MQ below Qc XC args s mc ms free) (F0 m pc ls rest) := by
  intro T hT X
  have htr : e.platform.stackTraces = false := (show e.platform.stackTraces = l.stackTraces by rw [X.admits.platform]).trans hl
  have Y := vx_rebase X (R' := { frames := R.frames, locals := R.locals, cells := 1, slots := 6 }) (Nat.le_refl _) (Nat.le_refl _) hRcells hRslots
  obtain ⟨s', hA⟩ : ∃ z, z = (T.setVm s.vm).setFrames (.invoking m args :: below) := ⟨_, rfl⟩
  rw [← hA] at Y
  have hvm : s'.vm = s.vm := by rw [hA]; rfl
  have hhp : s'.heap = H := by rw [hA]; exact hT
  have hW0 : s.WarmedH s'.vm := by rw [hvm]; exact State.WarmedH.refl s
  have hat' : ∀ w ∈ vx_atS own ic cls names, w.before args s' = true := fun w hw => vx_ot_at hW0 hvm.symm (hgood w (List.mem_cons_of_mem _ (List.mem_cons_of_mem _ hw))) (hat w hw)
  have hk' : (Cond.classLink own ik cls).before args s' = true := vx_ot_at hW0 hvm.symm (hgood _ List.mem_cons_self) hk
  have hini' : (Cond.initialized cls).before args s' = true := vx_ot_at hW0 hvm.symm (hgood _ (List.mem_cons_of_mem _ List.mem_cons_self)) hini
  have hU' : vx_Zq Bundle.tN "UNASSIGNED_STACK" Bundle.steD A s' s'.heap := by rw [hhp]; exact vx_Zq.moved hW0.alike (hU.kept hS.2.1)
  have hN' : vx_Zq Bundle.tN "SUPPRESSED_SENTINEL" Bundle.listD A s' s'.heap := by rw [hhp]; exact vx_Zq.moved hW0.alike (hN.kept hS.2.1)
  have h : ∀ w ∈ Bundle.ownAtoms own ic cls names, w.before args s' = true := vx_own hat' (vx_isRefq hU'.1) (vx_isRefq hN'.1) hU'.2.word hN'.2.word
  have hown' : s'.vm.findClass own = some m.cls := by rw [hvm]; exact hown
  have hins : (Cond.instantiable cls 6).before args s' = true := h _ (by simp [Bundle.ownAtoms])
  obtain ⟨vm₁, cX, kX, hfX, hkX, -, -, X₁, st1⟩ := Y.newCold hexec (own := own) (C := cls) (index := ik) (n := 6) hown' hk' hins hini'
    (g := F0 m pc ls rest) rfl (by rw [hb]; exact d0) (Nat.le_refl _) (Nat.le_refl _)
  generalize hT1 : (T.setVm vm₁).pushCell { cls := cX, slots := kX.instanceTypes.map defaultValue, vm := .none } = T1 at X₁ st1
  have hcat : (Value.ref T.heap.size).category = 1 := rfl
  have hcellA : T1.heap[T.heap.size]? = some (freshCell cX kX) := by rw [← hT1]; exact State.heap_pushCell_size _ _
  have d3' : decode c.code (pc + 3) = .ok (.dup, 1) := by rw [hb]; exact d3
  have d4' : decode c.code (pc + 4) = .ok (.ldc is, 2) := by rw [hb]; exact d4
  have hstr' : vk_R own is text sa s' := vk_R.warm hW0 hstr
  obtain ⟨U, hsteps, hrun, hend, hW, hsame, ce, hce, hO⟩ := X₁.ctorThrowS hexec htr (own := own) (cls := cls) (names := names) (ic := ic) hown' hcls hnames h (fun x hx => nomatch hx) hfX hkX hcellA (by rw [hhp, hT]; exact Nat.le_refl _) (msg := .ref sa) rfl
    (g := { method := m, pc := pc + 6, locals := ls, stack := .ref sa :: .ref T.heap.size :: .ref T.heap.size :: rest, locked := none }) rfl hsize rfl rfl (rest := rest) rfl
    (by rw [hb]; exact d6) (by rw [hb]; exact d9) hout hRframes (by simp only [List.map_cons, List.sum_cons, hcat]; omega) hlocks
  obtain ⟨f1, f2⟩ := vx_frame hsame
  rw [hhp] at f1 f2
  have hWs : s.WarmedH U.vm := State.WarmedH.trans hW0 hW
  have hcl : s.vm.findClass cls = some ce.cls := by
    have h9 := hO.cls
    rw [hvm] at h9
    exact h9
  have hall : s.sameButNew ({ U with vm := s.vm } : State) locs mc ms := by
    subst hA
    obtain ⟨e1, e2⟩ := hsame
    rw [State.setFrames_setFrames] at e1
    have h2 : (T.setVm s.vm).sameButNew ({ U with vm := s.vm } : State) [] (0 + 1) (0 + 6) := ⟨e1, e2⟩
    have h3 := X.same.trans h2
    rw [List.append_nil] at h3
    exact h3.mono hc hs
  have f8 : U.heap.size ≤ s'.heap.size + (0 + 1) := hsame.2.2.1
  have f7 : T.heap.size < U.heap.size := (Array.getElem?_eq_some_iff.mp hce).1
  have f9 : U.heap.size = H.size + 1 := by rw [hhp] at f8; rw [hT] at f7; omega
  refine ⟨U, ?_, .threw T.heap.size, hrun, hend, Or.inr ⟨T.heap.size, rfl, cls, ce, locs, hx U hWs.alike f9 (fun q hq => f2 q hq (fun z hz => nomatch hz)) ⟨ce, by rw [← hT]; exact hce, hO.vm, hcl⟩, hce, hO.vm, hcl, hWs, hall, hf⟩⟩
  refine st1 _ ?_
  show Steps p.tables e below (T1.setTop { method := m, pc := pc + 3, locals := ls, stack := .ref T.heap.size :: rest, locked := none }) _
  jvm_step X₁.here [X₁.here.top, hexec, d3', Value.category]
  exact X₁.ldcString hexec (own := own) (text := text) (index := is) (a := sa) hown' hstr'.1 hstr'.2
    (g := { method := m, pc := pc + 4, locals := ls, stack := .ref T.heap.size :: .ref T.heap.size :: rest, locked := none }) rfl d4' _ hsteps
theorem mx_throwSW {cc : ByteArray} {pc : Nat} (hexec : p.tables.exec = Jvm.exec) (hb : c.code = cc) (hl : l.stackTraces = false) {own cls text : String} {names : List String} {ik is ic mc ms sa : Nat} {A : Nat → Prop}
    (hown : s.vm.findClass own = some m.cls) (hcls : Bundle.fit cls = true) (hnames : ∀ n ∈ names, Bundle.fit n = true)
    (hk : (Cond.classLink own ik cls).before args s = true) (hini : (Cond.initialized cls).before args s = true) (hstr : vk_R own is text sa s) (hat : ∀ w ∈ vx_atS own ic cls names, w.before args s = true)
    (hgood : ∀ w ∈ Cond.classLink own ik cls :: Cond.initialized cls :: vx_atS own ic cls names, vx_ot w = true)
    (hU : vx_Zq Bundle.tN "UNASSIGNED_STACK" Bundle.steD A s s.heap) (hN : vx_Zq Bundle.tN "SUPPRESSED_SENTINEL" Bundle.listD A s s.heap) (hS : va_S A s.heap H locs) (hsize : ls.size = c.maxLocals)
    (d0 : decode cc pc = .ok (.new ik, 3)) (d3 : decode cc (pc + 3) = .ok (.dup, 1)) (d4 : decode cc (pc + 4) = .ok (.ldc_w is, 3)) (d7 : decode cc (pc + 7) = .ok (.invokespecial ic, 3)) (d10 : decode cc (pc + 10) = .ok (.athrow, 1))
    (hout : ∀ x ∈ c.exceptionTable.toList, covers x (pc + 10) = false)
    (hRframes : names.length + 3 < R.frames) (hRlocals : (rest.map fun v => v.category).sum + (13 * (names.length + 1) + 43) ≤ R.locals) (hRcells : cells + 1 ≤ R.cells) (hRslots : slots + 6 ≤ R.slots) (hlocks : meth.locks = false)
    (hx : ∀ t : State, s.vm.Alike t.vm → t.heap.size = H.size + 1 → (∀ q : Nat, q < H.size → t.heap[q]? = H[q]?) → (∃ ce : Cell, t.heap[H.size]? = some ce ∧ ce.vm = .none ∧ s.vm.findClass cls = some ce.cls) → XC cls s t)
    (hf : ∀ z ∈ locs, free z.base) (hc : cells + 1 ≤ mc) (hs : slots + 6 ≤ ms) :
    W p l e R s m args below meth c H locs cells slots (vx_MQ below Qc XC args s mc ms free) (F0 m pc ls rest) := by
  intro T hT X
  have htr : e.platform.stackTraces = false := (show e.platform.stackTraces = l.stackTraces by rw [X.admits.platform]).trans hl
  have Y := vx_rebase X (R' := { frames := R.frames, locals := R.locals, cells := 1, slots := 6 }) (Nat.le_refl _) (Nat.le_refl _) hRcells hRslots
  obtain ⟨s', hA⟩ : ∃ z, z = (T.setVm s.vm).setFrames (.invoking m args :: below) := ⟨_, rfl⟩
  rw [← hA] at Y
  have hvm : s'.vm = s.vm := by rw [hA]; rfl
  have hhp : s'.heap = H := by rw [hA]; exact hT
  have hW0 : s.WarmedH s'.vm := by rw [hvm]; exact State.WarmedH.refl s
  have hat' : ∀ w ∈ vx_atS own ic cls names, w.before args s' = true := fun w hw => vx_ot_at hW0 hvm.symm (hgood w (List.mem_cons_of_mem _ (List.mem_cons_of_mem _ hw))) (hat w hw)
  have hk' : (Cond.classLink own ik cls).before args s' = true := vx_ot_at hW0 hvm.symm (hgood _ List.mem_cons_self) hk
  have hini' : (Cond.initialized cls).before args s' = true := vx_ot_at hW0 hvm.symm (hgood _ (List.mem_cons_of_mem _ List.mem_cons_self)) hini
  have hU' : vx_Zq Bundle.tN "UNASSIGNED_STACK" Bundle.steD A s' s'.heap := by rw [hhp]; exact vx_Zq.moved hW0.alike (hU.kept hS.2.1)
  have hN' : vx_Zq Bundle.tN "SUPPRESSED_SENTINEL" Bundle.listD A s' s'.heap := by rw [hhp]; exact vx_Zq.moved hW0.alike (hN.kept hS.2.1)
  have h : ∀ w ∈ Bundle.ownAtoms own ic cls names, w.before args s' = true := vx_own hat' (vx_isRefq hU'.1) (vx_isRefq hN'.1) hU'.2.word hN'.2.word
  have hown' : s'.vm.findClass own = some m.cls := by rw [hvm]; exact hown
  have hins : (Cond.instantiable cls 6).before args s' = true := h _ (by simp [Bundle.ownAtoms])
  obtain ⟨vm₁, cX, kX, hfX, hkX, -, -, X₁, st1⟩ := Y.newCold hexec (own := own) (C := cls) (index := ik) (n := 6) hown' hk' hins hini'
    (g := F0 m pc ls rest) rfl (by rw [hb]; exact d0) (Nat.le_refl _) (Nat.le_refl _)
  generalize hT1 : (T.setVm vm₁).pushCell { cls := cX, slots := kX.instanceTypes.map defaultValue, vm := .none } = T1 at X₁ st1
  have hcat : (Value.ref T.heap.size).category = 1 := rfl
  have hcellA : T1.heap[T.heap.size]? = some (freshCell cX kX) := by rw [← hT1]; exact State.heap_pushCell_size _ _
  have d3' : decode c.code (pc + 3) = .ok (.dup, 1) := by rw [hb]; exact d3
  have d4' : decode c.code (pc + 4) = .ok (.ldc_w is, 3) := by rw [hb]; exact d4
  have hstr' : vk_R own is text sa s' := vk_R.warm hW0 hstr
  obtain ⟨U, hsteps, hrun, hend, hW, hsame, ce, hce, hO⟩ := X₁.ctorThrowS hexec htr (own := own) (cls := cls) (names := names) (ic := ic) hown' hcls hnames h (fun x hx => nomatch hx) hfX hkX hcellA (by rw [hhp, hT]; exact Nat.le_refl _) (msg := .ref sa) rfl
    (g := { method := m, pc := pc + 7, locals := ls, stack := .ref sa :: .ref T.heap.size :: .ref T.heap.size :: rest, locked := none }) rfl hsize rfl rfl (rest := rest) rfl
    (by rw [hb]; exact d7) (by rw [hb]; exact d10) hout hRframes (by simp only [List.map_cons, List.sum_cons, hcat]; omega) hlocks
  obtain ⟨f1, f2⟩ := vx_frame hsame
  rw [hhp] at f1 f2
  have hWs : s.WarmedH U.vm := State.WarmedH.trans hW0 hW
  have hcl : s.vm.findClass cls = some ce.cls := by
    have h9 := hO.cls
    rw [hvm] at h9
    exact h9
  have hall : s.sameButNew ({ U with vm := s.vm } : State) locs mc ms := by
    subst hA
    obtain ⟨e1, e2⟩ := hsame
    rw [State.setFrames_setFrames] at e1
    have h2 : (T.setVm s.vm).sameButNew ({ U with vm := s.vm } : State) [] (0 + 1) (0 + 6) := ⟨e1, e2⟩
    have h3 := X.same.trans h2
    rw [List.append_nil] at h3
    exact h3.mono hc hs
  have f8 : U.heap.size ≤ s'.heap.size + (0 + 1) := hsame.2.2.1
  have f7 : T.heap.size < U.heap.size := (Array.getElem?_eq_some_iff.mp hce).1
  have f9 : U.heap.size = H.size + 1 := by rw [hhp] at f8; rw [hT] at f7; omega
  refine ⟨U, ?_, .threw T.heap.size, hrun, hend, Or.inr ⟨T.heap.size, rfl, cls, ce, locs, hx U hWs.alike f9 (fun q hq => f2 q hq (fun z hz => nomatch hz)) ⟨ce, by rw [← hT]; exact hce, hO.vm, hcl⟩, hce, hO.vm, hcl, hWs, hall, hf⟩⟩
  refine st1 _ ?_
  show Steps p.tables e below (T1.setTop { method := m, pc := pc + 3, locals := ls, stack := .ref T.heap.size :: rest, locked := none }) _
  jvm_step X₁.here [X₁.here.top, hexec, d3', Value.category]
  exact X₁.ldcStringW hexec (own := own) (text := text) (index := is) (a := sa) hown' hstr'.1 hstr'.2
    (g := { method := m, pc := pc + 4, locals := ls, stack := .ref T.heap.size :: .ref T.heap.size :: rest, locked := none }) rfl d4' _ hsteps
end MXE
/-- the word of a method's code -/
def mw_cw (y : mw_M) : Cond := match y.2.2.2.2 with
  | [] => .code y.1 y.2.1 y.2.2.1 y.2.2.2.1
  | hh => .codeWith y.1 y.2.1 y.2.2.1 y.2.2.2.1 hh
theorem mw_cw_nil {y : mw_M} (hn : y.2.2.2.2 = []) : mw_cw y = .code y.1 y.2.1 y.2.2.1 y.2.2.2.1 := by
  unfold mw_cw
  rw [hn]
theorem mw_cw_some {y : mw_M} (hn : y.2.2.2.2 ≠ []) : mw_cw y = .codeWith y.1 y.2.1 y.2.2.1 y.2.2.2.1 y.2.2.2.2 := by
  unfold mw_cw
  cases hh : y.2.2.2.2 with
  | nil => exact absurd hh hn
  | cons a b => rfl
theorem mw_cw_good (y : mw_M) : goodWord (mw_cw y) = true := by
  unfold mw_cw
  split <;> rfl
/-- A CONTRACT: called with as in the mini heap h, the method comes to an end that Po allows; at most kc cells of ks slots are made -/
def mw_Con (y : mw_M) (d kc ks : Nat) (as : List Value) (h : mw_H) (Po : mw_P) : Prop := ∀ (G : mw_G) (l : Launch), l.stackTraces = false →
  vx_Met l y.1 [mw_cw y] { frames := d, cells := kc, slots := ks, locals := 40 * d } (fun v U => v = (as.map (mw_V G)).toArray ∧ mw_K G U ∧ mw_R G h U.heap) (mw_Q G Po) (mw_X G Po) kc ks (mw_I G)
theorem mw_K_go {G : mw_G} {s U : State} {H : Heap} {locs : List Loc} (hK : mw_K G s) (hS : va_S (mw_I G) s.heap H locs) (hU : U.heap = H) (hW : s.WarmedH U.vm) : mw_K G U := by
  refine ⟨hK.1, State.WarmedH.trans hK.2.1 hW, by rw [hU]; exact Nat.le_trans hK.2.2.1 hS.1, fun q hq => ?_⟩
  rw [hU, hS.2.1 q (Nat.lt_of_lt_of_le hq hK.2.2.1) (Nat.not_le.mpr hq)]
  exact hK.2.2.2 q hq
/-- a method's arguments as they lie in its places: one of two words and a place of which nothing is known -/
def mw_exp : List Value → List (Option Value)
  | [] => []
  | v :: vs => if v.category = 2 then some v :: none :: mw_exp vs else some v :: mw_exp vs
theorem mw_exp_1 : ∀ (as : List Value), (∀ v ∈ as, v.category = 1) → mw_exp as = as.map some
  | [], _ => rfl
  | v :: vs, h => by
    have h1 := h v List.mem_cons_self
    show (if v.category = 2 then _ else _) = _
    rw [if_neg (by rw [h1]; decide), mw_exp_1 vs (fun w hw => h w (List.mem_cons_of_mem _ hw))]
    rfl
theorem mw_exp_len {G : mw_G} : ∀ (as : List Value), (lg_sl (as.map (mw_V G))).length = (mw_exp as).length
  | [] => rfl
  | v :: vs => by
    have h2 := mw_exp_len (G := G) vs
    have h3 : (mw_V G v).category = v.category := mw_cat v
    show (lg_sl (mw_V G v :: vs.map (mw_V G))).length = (if v.category = 2 then _ else _ : List (Option Value)).length
    simp only [lg_sl, List.flatMap_cons, List.length_append] at h2 ⊢
    rw [h2]
    by_cases e : v.category = 2
    · rw [if_pos e]; simp [h3, e]; omega
    · rw [if_neg e]; simp [h3, e]; omega
theorem mw_exp_mem {G : mw_G} : ∀ (as : List Value) (k i : Nat) (v : Value), (mw_exp as)[i]? = some (some v) → (k + i, mw_V G v) ∈ lv_args k (as.map (mw_V G))
  | [], k, i, v, h => by cases h
  | w :: ws, k, i, v, h => by
    have h3 : (mw_V G w).category = w.category := mw_cat w
    show _ ∈ (k, mw_V G w) :: lv_args (if (mw_V G w).category = 2 then k + 2 else k + 1) (ws.map (mw_V G))
    have h : (if w.category = 2 then some w :: none :: mw_exp ws else some w :: mw_exp ws)[i]? = some (some v) := h
    by_cases e : w.category = 2
    · rw [if_pos e] at h
      rw [if_pos (h3.trans e)]
      match i, h with
      | 0, h => cases h; exact List.mem_cons_self
      | 1, h => cases h
      | j + 2, h =>
        have := mw_exp_mem (G := G) ws (k + 2) j v h
        rw [show k + (j + 2) = k + 2 + j by omega]
        exact List.mem_cons_of_mem _ this
    · rw [if_neg e] at h
      rw [if_neg (by rw [h3]; exact e)]
      match i, h with
      | 0, h => cases h; exact List.mem_cons_self
      | j + 1, h =>
        have := mw_exp_mem (G := G) ws (k + 1) j v h
        rw [show k + (j + 1) = k + 1 + j by omega]
        exact List.mem_cons_of_mem _ this
theorem mw_L_entryJ {G : mw_G} {n : Nat} {as : List Value} (hlen : (mw_exp as).length ≤ n) : mw_L G n (mw_exp as ++ List.replicate (n - (mw_exp as).length) none) ((lg_sl (as.map (mw_V G)) ++ List.replicate (n - (lg_sl (as.map (mw_V G))).length) Slot.unset).toArray) := by
  have hl := lv_entry (as.map (mw_V G)) (n := n) (by rw [mw_exp_len]; exact hlen)
  refine ⟨hl.1, hl.2.1, fun i v hi _ => ?_⟩
  by_cases hia : i < (mw_exp as).length
  · rw [List.getElem?_append_left hia] at hi
    have h9 := mw_exp_mem (G := G) as 0 i v hi
    rw [Nat.zero_add] at h9
    exact hl.2.2 _ h9
  · rw [List.getElem?_append_right (by omega)] at hi
    have := List.eq_of_mem_replicate (List.mem_of_getElem? hi)
    cases this
theorem mw_L_entry {G : mw_G} {n : Nat} {as : List Value} (hcat : ∀ v ∈ as, v.category = 1) (hlen : as.length ≤ n) : mw_L G n (as.map some ++ List.replicate (n - as.length) none) ((lg_sl (as.map (mw_V G)) ++ List.replicate (n - (lg_sl (as.map (mw_V G))).length) Slot.unset).toArray) := by
  have h1 := mw_exp_1 as hcat
  have h2 : (mw_exp as).length = as.length := by rw [h1, List.length_map]
  have h3 := mw_L_entryJ (G := G) (n := n) (as := as) (by rw [h2]; exact hlen)
  rw [h2, h1] at h3
  exact h3
section MWC
variable {y y' : mw_M} {d kc ks pc : Nat} {ls : List (Option Value)} {st rest : List Value} {h : mw_H} {Po : mw_P}
theorem mw_con {as : List Value} (hy : plainName y.1.cls = true) (hn : y.2.2.2.2 = []) (hcat : ∀ v ∈ as, v.category = 1) (hlen : as.length ≤ y.2.2.1) (hls : as.map some ++ List.replicate (y.2.2.1 - as.length) none = ls) (w : mw_W y d kc ks 0 ls [] h Po) : mw_Con y d kc ks as h Po := by
  intro G l hl
  subst hls
  refine vx_ofW (cc := y.2.1) (maxL := y.2.2.1) (ret := y.2.2.2.1) (ws' := []) hy (by rw [mw_cw_nil hn]) ?_
  intro p e s m args below meth c s₁ B hml htab hv
  obtain ⟨rfl, hK, hR⟩ := hv
  rw [lg_entry_eq]
  refine w G p l e _ s m _ below meth c kc ks s.heap [] 0 0 _ ⟨B.exec, B.bytes, B.returns, hml, findClass_of_methodNamed B.named, B.notSynchronized, hl, ?_, (name_of_methodNamed B.named B.method).1, Nat.le_refl _, Nat.le_refl _, Nat.le_refl _, Nat.le_refl _, hK⟩ (by omega) (by omega) hR va_S.rf (mw_L_entry hcat hlen)
  rw [hn]
  cases hq : c.exceptionTable.toList with
  | nil => rfl
  | cons x xs => exact (htab x (by rw [hq]; exact List.mem_cons_self)).elim
theorem mw_conJ {as : List Value} (hy : plainName y.1.cls = true) (hn : y.2.2.2.2 = []) (hlen : (mw_exp as).length ≤ y.2.2.1) (hls : mw_exp as ++ List.replicate (y.2.2.1 - (mw_exp as).length) none = ls) (w : mw_W y d kc ks 0 ls [] h Po) : mw_Con y d kc ks as h Po := by
  intro G l hl
  subst hls
  refine vx_ofW (cc := y.2.1) (maxL := y.2.2.1) (ret := y.2.2.2.1) (ws' := []) hy (by rw [mw_cw_nil hn]) ?_
  intro p e s m args below meth c s₁ B hml htab hv
  obtain ⟨rfl, hK, hR⟩ := hv
  rw [lg_entry_eq]
  refine w G p l e _ s m _ below meth c kc ks s.heap [] 0 0 _ ⟨B.exec, B.bytes, B.returns, hml, findClass_of_methodNamed B.named, B.notSynchronized, hl, ?_, (name_of_methodNamed B.named B.method).1, Nat.le_refl _, Nat.le_refl _, Nat.le_refl _, Nat.le_refl _, hK⟩ (by omega) (by omega) hR va_S.rf (mw_L_entryJ hlen)
  rw [hn]
  cases hq : c.exceptionTable.toList with
  | nil => rfl
  | cons x xs => exact (htab x (by rw [hq]; exact List.mem_cons_self)).elim
theorem mw_conH {as : List Value} (hy : plainName y.1.cls = true) (hn : y.2.2.2.2 ≠ []) (hcat : ∀ v ∈ as, v.category = 1) (hlen : as.length ≤ y.2.2.1) (hls : as.map some ++ List.replicate (y.2.2.1 - as.length) none = ls) (w : mw_W y d kc ks 0 ls [] h Po) : mw_Con y d kc ks as h Po := by
  intro G l hl
  subst hls
  refine vx_ofWH (cc := y.2.1) (maxL := y.2.2.1) (ret := y.2.2.2.1) (ws' := []) (hh := y.2.2.2.2) hy (by rw [mw_cw_some hn]) ?_
  intro p e s m args below meth c s₁ B hml hv
  obtain ⟨rfl, hK, hR⟩ := hv
  have hT : c.exceptionTable.toList = tableOf y.2.2.2.2 := vx_table (x := y.1) B (show (Cond.codeWith y.1 y.2.1 y.2.2.1 y.2.2.2.1 y.2.2.2.2).before _ s = true from by
    have h9 := atoms_spec (ws := [mw_cw y]) B.pre _ List.mem_cons_self
    rw [mw_cw_some hn] at h9
    exact h9)
  rw [lg_entry_eq]
  exact w G p l e _ s m _ below meth c kc ks s.heap [] 0 0 _ ⟨B.exec, B.bytes, B.returns, hml, findClass_of_methodNamed B.named, B.notSynchronized, hl, hT, (name_of_methodNamed B.named B.method).1, Nat.le_refl _, Nat.le_refl _, Nat.le_refl _, Nat.le_refl _, hK⟩ (by omega) (by omega) hR va_S.rf (mw_L_entry hcat hlen)
/-- what a call needs of the method that is called -/
def mw_mO (y : mw_M) (n : Nat) : Prop := mw_cw y ∈ lw_tbl ∧ Cond.initialized y.1.cls ∈ lw_tbl ∧ (y.1.cls ≠ "java/lang/invoke/MethodHandle" ∧ y.1.cls ≠ "java/lang/invoke/VarHandle") ∧ (parseMethodDescriptor y.1.desc).map (fun q => q.parameters.length) = some n ∧ y.2.2.1 ≤ 61
/-- the levels that a call of it takes: a method of many places two -/
def mw_fr (y : mw_M) : Nat := if y.2.2.1 ≤ 21 then 1 else 2
theorem mw_mO_n {n : Nat} (hm : mw_mO y n) : ∀ sig, parseMethodDescriptor y.1.desc = some sig → n = sig.parameters.length := by
  intro sig h9
  have h2 := hm.2.2.2.1
  rw [h9] at h2
  exact (Option.some.inj h2).symm
def mw_mV (own : String) (idx : Nat) (y : mw_M) (n : Nat) : Prop := mw_mO y n ∧ y.2.2.2.2 = [] ∧ Cond.methodLink own idx y.1 ∈ lw_tbl ∧ Cond.instanceMethod y.1 ∈ lw_tbl ∧ Cond.selects y.1.cls y.1 y.1 ∈ lw_tbl
def mw_mS (own : String) (idx : Nat) (y : mw_M) (n : Nat) : Prop := mw_mO y n ∧ y.2.2.2.2 = [] ∧ Cond.methodLink own idx y.1 ∈ lw_tbl ∧ Cond.static y.1 ∈ lw_tbl
def mw_mSX (own : String) (idx : Nat) (y : mw_M) (n : Nat) : Prop := mw_mO y n ∧ y.2.2.2.2 ≠ [] ∧ Cond.methodLink own idx y.1 ∈ lw_tbl ∧ Cond.static y.1 ∈ lw_tbl
def mw_mSN (own : String) (idx : Nat) (y : mw_M) (n : Nat) : Prop := mw_mO y n ∧ y.2.2.2.2 = [] ∧ (∃ host, Cond.methodLinkNest own idx y.1 host ∈ lw_tbl) ∧ Cond.static y.1 ∈ lw_tbl
def mw_mI (own : String) (idx : Nat) (y : mw_M) (n : Nat) : Prop := mw_mO y n ∧ y.2.2.2.2 = [] ∧ y.2.2.2.1 = none ∧ y.1.name = "<init>" ∧ Cond.methodLink own idx y.1 ∈ lw_tbl ∧ Cond.instanceMethod y.1 ∈ lw_tbl
def mw_mIN (own : String) (idx : Nat) (y : mw_M) (n : Nat) : Prop := mw_mO y n ∧ y.2.2.2.2 = [] ∧ y.2.2.2.1 = none ∧ y.1.name = "<init>" ∧ (∃ host, Cond.methodLinkNest own idx y.1 host ∈ lw_tbl) ∧ Cond.instanceMethod y.1 ∈ lw_tbl
theorem mw_pay {G : mw_G} {s : State} (hK : mw_K G s) (y : mw_M) (hm : mw_cw y ∈ lw_tbl) : ∀ w ∈ [mw_cw y], ∀ (a' : Array Value) (U : State), s.WarmedH U.vm → w.before a' U = true := by
  intro w hw a' U hW
  rw [List.mem_singleton] at hw
  subst hw
  exact word_at (State.WarmedH.trans hK.2.1 hW) (good_of_word (mw_cw_good y)) (hK.1.1 _ hm)
theorem mw_nest {G : mw_G} {s : State} (hK : mw_K G s) {own : String} {idx : Nat} {x : MethodName} {host : String} (hw : Cond.methodLinkNest own idx x host ∈ lw_tbl) {args : Array Value} : (Cond.methodLinkNest own idx x host).before args s = true :=
  va_Nw.use rfl (va_Nw.warmM hK.2.1 (va_Nw.of rfl (hK.1.1 _ hw)))
theorem mw_after {G : mw_G} {p : Program} {l : Launch} {e : Env} {R : Room} {s : State} {m : MethodId} {args : Array Value} {below : List Frame} {meth : Method} {c : Code} {mc msl : Nat} {H : Heap} {locs : List Loc} {cells slots k2 s2 kc' ks' : Nat} {lsA : Array Slot} {Po' : mw_P} {as : Array Value} {st0 : List Value}
    (hrun : vx_Run p l e R s m args below meth c H locs cells slots k2 s2 (F0 m pc lsA st0) (rest.map (mw_V G)) (mw_Q G Po' as) (mw_X G Po') (mw_I G))
    (C : mw_C G y d mc msl p l R s m meth c) (hc : cells + k2 + kc' ≤ mc) (hs : slots + s2 + ks' ≤ msl) (hS : va_S (mw_I G) s.heap H locs) (hL : mw_L G y.2.2.1 ls lsA)
    (hx : ∀ E h', Po' (.inr E) h' → mw_T y d kc' ks' pc ls rest h' E Po)
    (hr : ∀ v h', Po' (.inl v) h' → mw_W y d kc' ks' (pc + 3) ls (v.toList ++ rest) h' Po) :
    W p l e R s m args below meth c H locs cells slots (vx_MQ below (mw_Q G Po) (mw_X G Po) args s mc msl (mw_I G)) (F0 m pc lsA st0) := by
  intro T hT X
  rcases hrun T hT X with ⟨v, st₀, t, T', L, h0, X', hL', e1, e2, ⟨⟨v', h', hv, hpo, hR'⟩, hF⟩, go⟩ | ⟨q, st₀, t, T', L, E, ce, h0, X', hL', e1, e2, ⟨⟨h', hpo, hR'⟩, hF⟩, hce, hcv, hcl, go⟩
  · cases hv
    obtain ⟨z1, z2, z3⟩ := vx_keep h0 e1 hS (fun _ _ h9 => h9) (fun _ h9 => h9) hL' hF
    obtain ⟨t2, a1, b1⟩ := hr v' h' hpo G p l e R s m args below meth c mc msl T'.heap (locs ++ L) (cells + k2) (slots + s2) lsA C hc hs (by rw [e1]; exact hR') z3 hL T' rfl X'
    refine ⟨t2, go t2 ?_, b1⟩
    cases v' <;> exact a1
  · obtain ⟨z1, z2, z3⟩ := vx_keep h0 e1 hS (fun _ _ h9 => h9) (fun _ h9 => h9) hL' hF
    obtain ⟨t2, a1, b1⟩ := hx E h' hpo G p l e R s m args below meth c mc msl T'.heap (locs ++ L) (cells + k2) (slots + s2) lsA q ce C hc hs (by rw [e1]; exact hR') z3 hL (by rw [e1]; exact hce) hcv hcl T' rfl X'
    exact ⟨t2, go.trans a1, b1⟩
theorem mw_sum {G : mw_G} (hw : (rest.map fun v => v.category).sum ≤ 8) : 2 * 0 + ((rest.map (mw_V G)).map fun v => v.category).sum ≤ 8 := by
  have e9 : ((rest.map (mw_V G)).map fun v => v.category) = rest.map fun v => v.category := by
    rw [List.map_map]
    exact List.map_congr_left (fun v _ => mw_cat v)
  rw [e9]
  omega
theorem mw_blind {G : mw_G} {as : List Value} : FrameBlind (fun (v : Array Value) (U : State) => v = (as.map (mw_V G)).toArray ∧ mw_K G U ∧ mw_R G h U.heap) := fun _ _ _ _ q => q
theorem mw_callV {idx n d' kc' ks' k2 s2 : Nat} {Po' : mw_P} {a ci : Nat} {fs : List Value} {T : u_T} {N : Nat} {As : List Value} (dg : decode y.2.1 pc = .ok (.invokevirtual idx, 3)) (hm : mw_mV y.1.cls idx y' n) (ho : mw_g h a = some (.inr (ci, fs))) (hci : mw_cl[ci]? = some (y'.1.cls, T, N)) (hC : mw_Con y' d' k2 s2 (.ref a :: As) h Po') (hd : d' + mw_fr y' ≤ d) (hkc : kc' + k2 ≤ kc) (hks : ks' + s2 ≤ ks) (hn : As.length = n) (hst : As.reverse ++ .ref a :: rest = st) (hw : (rest.map fun v => v.category).sum ≤ 8) (hx : ∀ E h', Po' (.inr E) h' → mw_T y d kc' ks' pc ls rest h' E Po) (hr : ∀ v h', Po' (.inl v) h' → mw_W y d kc' ks' (pc + 3) ls (v.toList ++ rest) h' Po) : mw_W y d kc ks pc ls st h Po := by
  intro G p l e R s m args below meth c mc msl H locs cells slots lsA C hc hs hR hS hL
  obtain ⟨hx0, hb, hr0, hml, hown, hlk, htr, htab, hnm, hRf, hRl, hRc, hRs, hK⟩ := id C
  subst hst
  obtain ⟨hmO, hnil, hw1, hw2, hw3⟩ := hm
  have hmn := mw_mO_n hmO
  obtain ⟨hcw, hinz, hpl, -, hml2⟩ := hmO
  have hpay := mw_pay hK y' hcw
  have hd9 : d' + 1 ≤ d ∧ 8 + (y'.2.2.1 + 11) + 40 * d' ≤ 40 * d := by
    unfold mw_fr at hd
    by_cases e9 : y'.2.2.1 ≤ 21
    · rw [if_pos e9] at hd; omega
    · rw [if_neg e9] at hd; omega
  have ecw := mw_cw_nil hnil
  have hcode := mw_word (args := args) hK hcw (mw_cw_good y')
  rw [ecw] at hcode
  have hlen : (As.map (mw_V G)).length = n := by rw [List.length_map]; exact hn
  have estk : (As.reverse ++ .ref a :: rest).map (mw_V G) = (As.map (mw_V G)).reverse ++ .ref (mw_ad G a) :: rest.map (mw_V G) := by rw [List.map_append, List.map_reverse]; rfl
  rw [estk]
  obtain ⟨-, -, r9, hr9, cell9, g1, g2, g3, -⟩ := hR.2.2.2 a _ ho
  have hrec : ∃ cellB : Cell, H[mw_ad G a]? = some cellB ∧ cellB.vm.isStatics = false ∧ s.vm.findClass y'.1.cls = some cellB.cls := ⟨cell9, g1, by rw [g3]; rfl, by rw [g2]; exact ((mw_know hK).1 ci _ hci).2.1⟩
  have hrun := vx_runV (C := y'.1.cls) (As := As.map (mw_V G)) (rest := rest.map (mw_V G)) (b := mw_ad G a) (locs := locs) (cells := cells) (slots := slots) (below := below) (meth := meth) (e := e) (Ts := []) (own := y.1.cls) (g := F0 m pc lsA ((As.map (mw_V G)).reverse ++ .ref (mw_ad G a) :: rest.map (mw_V G))) ⟨hx0, hb, hml, hown, fun _ h9 => nomatch h9⟩ (hC G l htr) ⟨⟨rfl, rfl, (by show d' + 1 ≤ R.frames; omega), (by show 8 + (y'.2.2.1 + 11) + 40 * d' ≤ R.locals; omega), hpay, (by rw [ecw]; exact List.mem_cons_self), hcode, mw_word hK hinz rfl, hpl, hmn, mw_word hK hw1 rfl⟩, mw_word hK hw2 rfl, mw_word hK hw3 rfl⟩ ⟨mw_blind, hrec, fun U hU hW => ⟨rfl, mw_K_go hK hS hU hW, by rw [hU]; exact hR⟩⟩ rfl hlen hL.1 rfl (mw_sum hw) dg (by omega)
  exact mw_after hrun C (by omega) (by omega) hS hL hx hr
theorem mw_callS {idx n d' kc' ks' k2 s2 : Nat} {Po' : mw_P} {As : List Value} (dg : decode y.2.1 pc = .ok (.invokestatic idx, 3)) (hm : mw_mS y.1.cls idx y' n) (hC : mw_Con y' d' k2 s2 As h Po') (hd : d' + mw_fr y' ≤ d) (hkc : kc' + k2 ≤ kc) (hks : ks' + s2 ≤ ks) (hn : As.length = n) (hst : As.reverse ++ rest = st) (hw : (rest.map fun v => v.category).sum ≤ 8) (hx : ∀ E h', Po' (.inr E) h' → mw_T y d kc' ks' pc ls rest h' E Po) (hr : ∀ v h', Po' (.inl v) h' → mw_W y d kc' ks' (pc + 3) ls (v.toList ++ rest) h' Po) : mw_W y d kc ks pc ls st h Po := by
  intro G p l e R s m args below meth c mc msl H locs cells slots lsA C hc hs hR hS hL
  obtain ⟨hx0, hb, hr0, hml, hown, hlk, htr, htab, hnm, hRf, hRl, hRc, hRs, hK⟩ := id C
  subst hst
  obtain ⟨hmO, hnil, hw1, hw2⟩ := hm
  have hmn := mw_mO_n hmO
  obtain ⟨hcw, hinz, hpl, -, hml2⟩ := hmO
  have hpay := mw_pay hK y' hcw
  have hd9 : d' + 1 ≤ d ∧ 8 + (y'.2.2.1 + 11) + 40 * d' ≤ 40 * d := by
    unfold mw_fr at hd
    by_cases e9 : y'.2.2.1 ≤ 21
    · rw [if_pos e9] at hd; omega
    · rw [if_neg e9] at hd; omega
  have ecw := mw_cw_nil hnil
  have hcode := mw_word (args := args) hK hcw (mw_cw_good y')
  rw [ecw] at hcode
  have hlen : (As.map (mw_V G)).length = n := by rw [List.length_map]; exact hn
  have estk : (As.reverse ++ rest).map (mw_V G) = (As.map (mw_V G)).reverse ++ rest.map (mw_V G) := by rw [List.map_append, List.map_reverse]
  rw [estk]
  have hrun := vx_runS (As := As.map (mw_V G)) (rest := rest.map (mw_V G)) (locs := locs) (cells := cells) (slots := slots) (below := below) (meth := meth) (e := e) (Ts := []) (own := y.1.cls) (g := F0 m pc lsA ((As.map (mw_V G)).reverse ++ rest.map (mw_V G))) ⟨hx0, hb, hml, hown, fun _ h9 => nomatch h9⟩ (hC G l htr) ⟨⟨rfl, rfl, (by show d' + 1 ≤ R.frames; omega), (by show 8 + (y'.2.2.1 + 11) + 40 * d' ≤ R.locals; omega), hpay, (by rw [ecw]; exact List.mem_cons_self), hcode, mw_word hK hinz rfl, hpl, hmn, mw_word hK hw1 rfl⟩, mw_word hK hw2 rfl⟩ ⟨mw_blind, fun U hU hW => ⟨rfl, mw_K_go hK hS hU hW, by rw [hU]; exact hR⟩⟩ rfl hlen hL.1 rfl (mw_sum hw) dg (by omega)
  exact mw_after hrun C (by omega) (by omega) hS hL hx hr
theorem mw_callSN {idx n d' kc' ks' k2 s2 : Nat} {Po' : mw_P} {As : List Value} (dg : decode y.2.1 pc = .ok (.invokestatic idx, 3)) (hm : mw_mSN y.1.cls idx y' n) (hC : mw_Con y' d' k2 s2 As h Po') (hd : d' + mw_fr y' ≤ d) (hkc : kc' + k2 ≤ kc) (hks : ks' + s2 ≤ ks) (hn : As.length = n) (hst : As.reverse ++ rest = st) (hw : (rest.map fun v => v.category).sum ≤ 8) (hx : ∀ E h', Po' (.inr E) h' → mw_T y d kc' ks' pc ls rest h' E Po) (hr : ∀ v h', Po' (.inl v) h' → mw_W y d kc' ks' (pc + 3) ls (v.toList ++ rest) h' Po) : mw_W y d kc ks pc ls st h Po := by
  intro G p l e R s m args below meth c mc msl H locs cells slots lsA C hc hs hR hS hL
  obtain ⟨hx0, hb, hr0, hml, hown, hlk, htr, htab, hnm, hRf, hRl, hRc, hRs, hK⟩ := id C
  subst hst
  obtain ⟨hmO, hnil, ⟨host, hw1⟩, hw2⟩ := hm
  have hmn := mw_mO_n hmO
  obtain ⟨hcw, hinz, hpl, -, hml2⟩ := hmO
  have hpay := mw_pay hK y' hcw
  have hd9 : d' + 1 ≤ d ∧ 8 + (y'.2.2.1 + 11) + 40 * d' ≤ 40 * d := by
    unfold mw_fr at hd
    by_cases e9 : y'.2.2.1 ≤ 21
    · rw [if_pos e9] at hd; omega
    · rw [if_neg e9] at hd; omega
  have ecw := mw_cw_nil hnil
  have hcode := mw_word (args := args) hK hcw (mw_cw_good y')
  rw [ecw] at hcode
  have hlen : (As.map (mw_V G)).length = n := by rw [List.length_map]; exact hn
  have estk : (As.reverse ++ rest).map (mw_V G) = (As.map (mw_V G)).reverse ++ rest.map (mw_V G) := by rw [List.map_append, List.map_reverse]
  rw [estk]
  have hrun := vx_runSN (host := host) (As := As.map (mw_V G)) (rest := rest.map (mw_V G)) (locs := locs) (cells := cells) (slots := slots) (below := below) (meth := meth) (e := e) (Ts := []) (own := y.1.cls) (g := F0 m pc lsA ((As.map (mw_V G)).reverse ++ rest.map (mw_V G))) ⟨hx0, hb, hml, hown, fun _ h9 => nomatch h9⟩ (hC G l htr) ⟨⟨⟨rfl, rfl, (by show d' + 1 ≤ R.frames; omega), (by show 8 + (y'.2.2.1 + 11) + 40 * d' ≤ R.locals; omega), hpay, (by rw [ecw]; exact List.mem_cons_self)⟩, hcode, mw_word hK hinz rfl, hpl, hmn, mw_nest hK hw1⟩, mw_word hK hw2 rfl, trivial⟩ ⟨mw_blind, fun U hU hW => ⟨rfl, mw_K_go hK hS hU hW, by rw [hU]; exact hR⟩⟩ rfl hlen hL.1 rfl (mw_sum hw) dg (by omega)
  exact mw_after hrun C (by omega) (by omega) hS hL hx hr
theorem mw_callSX {idx n d' kc' ks' k2 s2 : Nat} {Po' : mw_P} {As : List Value} (dg : decode y.2.1 pc = .ok (.invokestatic idx, 3)) (hm : mw_mSX y.1.cls idx y' n) (hC : mw_Con y' d' k2 s2 As h Po') (hd : d' + mw_fr y' ≤ d) (hkc : kc' + k2 ≤ kc) (hks : ks' + s2 ≤ ks) (hn : As.length = n) (hst : As.reverse ++ rest = st) (hw : (rest.map fun v => v.category).sum ≤ 8) (hx : ∀ E h', Po' (.inr E) h' → mw_T y d kc' ks' pc ls rest h' E Po) (hr : ∀ v h', Po' (.inl v) h' → mw_W y d kc' ks' (pc + 3) ls (v.toList ++ rest) h' Po) : mw_W y d kc ks pc ls st h Po := by
  intro G p l e R s m args below meth c mc msl H locs cells slots lsA C hc hs hR hS hL
  obtain ⟨hx0, hb, hr0, hml, hown, hlk, htr, htab, hnm, hRf, hRl, hRc, hRs, hK⟩ := id C
  subst hst
  obtain ⟨hmO, hnil, hw1, hw2⟩ := hm
  have hmn := mw_mO_n hmO
  obtain ⟨hcw, hinz, hpl, -, hml2⟩ := hmO
  have hpay := mw_pay hK y' hcw
  have hd9 : d' + 1 ≤ d ∧ 8 + (y'.2.2.1 + 11) + 40 * d' ≤ 40 * d := by
    unfold mw_fr at hd
    by_cases e9 : y'.2.2.1 ≤ 21
    · rw [if_pos e9] at hd; omega
    · rw [if_neg e9] at hd; omega
  have ecw := mw_cw_some hnil
  have hcode := mw_word (args := args) hK hcw (mw_cw_good y')
  rw [ecw] at hcode
  have hlen : (As.map (mw_V G)).length = n := by rw [List.length_map]; exact hn
  have estk : (As.reverse ++ rest).map (mw_V G) = (As.map (mw_V G)).reverse ++ rest.map (mw_V G) := by rw [List.map_append, List.map_reverse]
  rw [estk]
  have hrun := vx_runSX (As := As.map (mw_V G)) (rest := rest.map (mw_V G)) (locs := locs) (cells := cells) (slots := slots) (below := below) (meth := meth) (e := e) (Ts := []) (own := y.1.cls) (g := F0 m pc lsA ((As.map (mw_V G)).reverse ++ rest.map (mw_V G))) ⟨hx0, hb, hml, hown, fun _ h9 => nomatch h9⟩ (hC G l htr) ⟨⟨rfl, rfl, (by show d' + 1 ≤ R.frames; omega), (by show 8 + (y'.2.2.1 + 11) + 40 * d' ≤ R.locals; omega), hpay, (by rw [ecw]; exact List.mem_cons_self)⟩, hcode, mw_word hK hinz rfl, hpl, hmn, mw_word hK hw1 rfl, mw_word hK hw2 rfl⟩ ⟨mw_blind, fun U hU hW => ⟨rfl, mw_K_go hK hS hU hW, by rw [hU]; exact hR⟩⟩ rfl hlen hL.1 rfl (mw_sum hw) dg (by omega)
  exact mw_after hrun C (by omega) (by omega) hS hL hx hr
theorem mw_callI {idx n d' kc' ks' k2 s2 : Nat} {Po' : mw_P} {a : Nat} {As : List Value} (dg : decode y.2.1 pc = .ok (.invokespecial idx, 3)) (hm : mw_mI y.1.cls idx y' n) (hC : mw_Con y' d' k2 s2 (.ref a :: As) h Po') (hd : d' + mw_fr y' ≤ d) (hkc : kc' + k2 ≤ kc) (hks : ks' + s2 ≤ ks) (hn : As.length = n) (hst : As.reverse ++ .ref a :: rest = st) (hw : (rest.map fun v => v.category).sum ≤ 8) (hx : ∀ E h', Po' (.inr E) h' → mw_T y d kc' ks' pc ls rest h' E Po) (hr : ∀ v h', Po' (.inl v) h' → mw_W y d kc' ks' (pc + 3) ls (v.toList ++ rest) h' Po) : mw_W y d kc ks pc ls st h Po := by
  intro G p l e R s m args below meth c mc msl H locs cells slots lsA C hc hs hR hS hL
  obtain ⟨hx0, hb, hr0, hml, hown, hlk, htr, htab, hnm, hRf, hRl, hRc, hRs, hK⟩ := id C
  subst hst
  obtain ⟨hmO, hnil, hnone, hinit, hw1, hw2⟩ := hm
  have hmn := mw_mO_n hmO
  obtain ⟨hcw, hinz, hpl, -, hml2⟩ := hmO
  have hpay := mw_pay hK y' hcw
  have hd9 : d' + 1 ≤ d ∧ 8 + (y'.2.2.1 + 11) + 40 * d' ≤ 40 * d := by
    unfold mw_fr at hd
    by_cases e9 : y'.2.2.1 ≤ 21
    · rw [if_pos e9] at hd; omega
    · rw [if_neg e9] at hd; omega
  have ecw := mw_cw_nil hnil
  rw [hnone] at ecw
  have hcode := mw_word (args := args) hK hcw (mw_cw_good y')
  rw [ecw] at hcode
  have hlen : (As.map (mw_V G)).length = n := by rw [List.length_map]; exact hn
  have estk : (As.reverse ++ .ref a :: rest).map (mw_V G) = (As.map (mw_V G)).reverse ++ .ref (mw_ad G a) :: rest.map (mw_V G) := by rw [List.map_append, List.map_reverse]; rfl
  rw [estk]
  have hrun := vx_runI (As := As.map (mw_V G)) (rest := rest.map (mw_V G)) (b := mw_ad G a) (locs := locs) (cells := cells) (slots := slots) (below := below) (meth := meth) (e := e) (Ts := []) (own := y.1.cls) (g := F0 m pc lsA ((As.map (mw_V G)).reverse ++ .ref (mw_ad G a) :: rest.map (mw_V G))) ⟨hx0, hb, hml, hown, fun _ h9 => nomatch h9⟩ (hC G l htr) ⟨⟨rfl, rfl, (by show d' + 1 ≤ R.frames; omega), (by show 8 + (y'.2.2.1 + 11) + 40 * d' ≤ R.locals; omega), hpay, (by rw [ecw]; exact List.mem_cons_self), hcode, mw_word hK hinz rfl, hpl, hmn, mw_word hK hw1 rfl⟩, hinit, mw_word hK hw2 rfl⟩ ⟨mw_blind, fun U hU hW => ⟨rfl, mw_K_go hK hS hU hW, by rw [hU]; exact hR⟩⟩ rfl hlen hL.1 rfl (mw_sum hw) dg (by omega)
  exact mw_after hrun C (by omega) (by omega) hS hL hx hr
theorem mw_callIN {idx n d' kc' ks' k2 s2 : Nat} {Po' : mw_P} {a : Nat} {As : List Value} (dg : decode y.2.1 pc = .ok (.invokespecial idx, 3)) (hm : mw_mIN y.1.cls idx y' n) (hC : mw_Con y' d' k2 s2 (.ref a :: As) h Po') (hd : d' + mw_fr y' ≤ d) (hkc : kc' + k2 ≤ kc) (hks : ks' + s2 ≤ ks) (hn : As.length = n) (hst : As.reverse ++ .ref a :: rest = st) (hw : (rest.map fun v => v.category).sum ≤ 8) (hx : ∀ E h', Po' (.inr E) h' → mw_T y d kc' ks' pc ls rest h' E Po) (hr : ∀ v h', Po' (.inl v) h' → mw_W y d kc' ks' (pc + 3) ls (v.toList ++ rest) h' Po) : mw_W y d kc ks pc ls st h Po := by
  intro G p l e R s m args below meth c mc msl H locs cells slots lsA C hc hs hR hS hL
  obtain ⟨hx0, hb, hr0, hml, hown, hlk, htr, htab, hnm, hRf, hRl, hRc, hRs, hK⟩ := id C
  subst hst
  obtain ⟨hmO, hnil, hnone, hinit, ⟨host, hw1⟩, hw2⟩ := hm
  have hmn := mw_mO_n hmO
  obtain ⟨hcw, hinz, hpl, -, hml2⟩ := hmO
  have hpay := mw_pay hK y' hcw
  have hd9 : d' + 1 ≤ d ∧ 8 + (y'.2.2.1 + 11) + 40 * d' ≤ 40 * d := by
    unfold mw_fr at hd
    by_cases e9 : y'.2.2.1 ≤ 21
    · rw [if_pos e9] at hd; omega
    · rw [if_neg e9] at hd; omega
  have ecw := mw_cw_nil hnil
  rw [hnone] at ecw
  have hcode := mw_word (args := args) hK hcw (mw_cw_good y')
  rw [ecw] at hcode
  have hlen : (As.map (mw_V G)).length = n := by rw [List.length_map]; exact hn
  have estk : (As.reverse ++ .ref a :: rest).map (mw_V G) = (As.map (mw_V G)).reverse ++ .ref (mw_ad G a) :: rest.map (mw_V G) := by rw [List.map_append, List.map_reverse]; rfl
  rw [estk]
  have hrun := vx_runIN (host := host) (As := As.map (mw_V G)) (rest := rest.map (mw_V G)) (b := mw_ad G a) (locs := locs) (cells := cells) (slots := slots) (below := below) (meth := meth) (e := e) (Ts := []) (own := y.1.cls) (g := F0 m pc lsA ((As.map (mw_V G)).reverse ++ .ref (mw_ad G a) :: rest.map (mw_V G))) ⟨hx0, hb, hml, hown, fun _ h9 => nomatch h9⟩ (hC G l htr) ⟨⟨⟨rfl, rfl, (by show d' + 1 ≤ R.frames; omega), (by show 8 + (y'.2.2.1 + 11) + 40 * d' ≤ R.locals; omega), hpay, (by rw [ecw]; exact List.mem_cons_self)⟩, hcode, mw_word hK hinz rfl, hpl, hmn, mw_nest hK hw1⟩, hinit, mw_word hK hw2 rfl⟩ ⟨mw_blind, fun U hU hW => ⟨rfl, mw_K_go hK hS hU hW, by rw [hU]; exact hR⟩⟩ rfl hlen hL.1 rfl (mw_sum hw) dg (by omega)
  exact mw_after hrun C (by omega) (by omega) hS hL hx hr
/-- one answer, one heap -/
def mw_ret (v : Value) (h1 : mw_H) : mw_P := fun r h' => r = .inl (some v) ∧ h' = h1
def mw_void (h1 : mw_H) : mw_P := fun r h' => r = .inl none ∧ h' = h1
theorem mw_ret_x {v : Value} {h1 : mw_H} {kc' ks' : Nat} : ∀ E h', mw_ret v h1 (.inr E) h' → mw_T y d kc' ks' pc ls rest h' E Po := fun E h' q => by cases q.1
theorem mw_void_x {h1 : mw_H} {kc' ks' : Nat} : ∀ E h', mw_void h1 (.inr E) h' → mw_T y d kc' ks' pc ls rest h' E Po := fun E h' q => by cases q.1
theorem mw_ret_r {v : Value} {h1 : mw_H} {kc' ks' : Nat} (k : mw_W y d kc' ks' (pc + 3) ls (v :: rest) h1 Po) : ∀ v' h', mw_ret v h1 (.inl v') h' → mw_W y d kc' ks' (pc + 3) ls (v'.toList ++ rest) h' Po := by
  rintro v' h' ⟨q1, rfl⟩
  cases q1
  exact k
theorem mw_void_r {h1 : mw_H} {kc' ks' : Nat} (k : mw_W y d kc' ks' (pc + 3) ls rest h1 Po) : ∀ v' h', mw_void h1 (.inl v') h' → mw_W y d kc' ks' (pc + 3) ls (v'.toList ++ rest) h' Po := by
  rintro v' h' ⟨q1, rfl⟩
  cases q1
  exact k
theorem mw_callVr {idx n d' kc' ks' k2 s2 : Nat} {v : Value} {h1 : mw_H} {a ci : Nat} {fs : List Value} {T : u_T} {N : Nat} {As : List Value} (dg : decode y.2.1 pc = .ok (.invokevirtual idx, 3)) (hm : mw_mV y.1.cls idx y' n) (ho : mw_g h a = some (.inr (ci, fs))) (hci : mw_cl[ci]? = some (y'.1.cls, T, N)) (hC : mw_Con y' d' k2 s2 (.ref a :: As) h (mw_ret v h1)) (hd : d' + mw_fr y' ≤ d) (hkc : kc' + k2 ≤ kc) (hks : ks' + s2 ≤ ks) (hn : As.length = n) (hst : As.reverse ++ .ref a :: rest = st) (hw : (rest.map fun v => v.category).sum ≤ 8) (k : mw_W y d kc' ks' (pc + 3) ls (v :: rest) h1 Po) : mw_W y d kc ks pc ls st h Po :=
  mw_callV dg hm ho hci hC hd hkc hks hn hst hw mw_ret_x (mw_ret_r k)
theorem mw_callVv {idx n d' kc' ks' k2 s2 : Nat} {h1 : mw_H} {a ci : Nat} {fs : List Value} {T : u_T} {N : Nat} {As : List Value} (dg : decode y.2.1 pc = .ok (.invokevirtual idx, 3)) (hm : mw_mV y.1.cls idx y' n) (ho : mw_g h a = some (.inr (ci, fs))) (hci : mw_cl[ci]? = some (y'.1.cls, T, N)) (hC : mw_Con y' d' k2 s2 (.ref a :: As) h (mw_void h1)) (hd : d' + mw_fr y' ≤ d) (hkc : kc' + k2 ≤ kc) (hks : ks' + s2 ≤ ks) (hn : As.length = n) (hst : As.reverse ++ .ref a :: rest = st) (hw : (rest.map fun v => v.category).sum ≤ 8) (k : mw_W y d kc' ks' (pc + 3) ls (rest) h1 Po) : mw_W y d kc ks pc ls st h Po :=
  mw_callV dg hm ho hci hC hd hkc hks hn hst hw mw_void_x (mw_void_r k)
theorem mw_callSr {idx n d' kc' ks' k2 s2 : Nat} {v : Value} {h1 : mw_H} {As : List Value} (dg : decode y.2.1 pc = .ok (.invokestatic idx, 3)) (hm : mw_mS y.1.cls idx y' n) (hC : mw_Con y' d' k2 s2 As h (mw_ret v h1)) (hd : d' + mw_fr y' ≤ d) (hkc : kc' + k2 ≤ kc) (hks : ks' + s2 ≤ ks) (hn : As.length = n) (hst : As.reverse ++ rest = st) (hw : (rest.map fun v => v.category).sum ≤ 8) (k : mw_W y d kc' ks' (pc + 3) ls (v :: rest) h1 Po) : mw_W y d kc ks pc ls st h Po :=
  mw_callS dg hm hC hd hkc hks hn hst hw mw_ret_x (mw_ret_r k)
theorem mw_callSv {idx n d' kc' ks' k2 s2 : Nat} {h1 : mw_H} {As : List Value} (dg : decode y.2.1 pc = .ok (.invokestatic idx, 3)) (hm : mw_mS y.1.cls idx y' n) (hC : mw_Con y' d' k2 s2 As h (mw_void h1)) (hd : d' + mw_fr y' ≤ d) (hkc : kc' + k2 ≤ kc) (hks : ks' + s2 ≤ ks) (hn : As.length = n) (hst : As.reverse ++ rest = st) (hw : (rest.map fun v => v.category).sum ≤ 8) (k : mw_W y d kc' ks' (pc + 3) ls (rest) h1 Po) : mw_W y d kc ks pc ls st h Po :=
  mw_callS dg hm hC hd hkc hks hn hst hw mw_void_x (mw_void_r k)
theorem mw_callSNr {idx n d' kc' ks' k2 s2 : Nat} {v : Value} {h1 : mw_H} {As : List Value} (dg : decode y.2.1 pc = .ok (.invokestatic idx, 3)) (hm : mw_mSN y.1.cls idx y' n) (hC : mw_Con y' d' k2 s2 As h (mw_ret v h1)) (hd : d' + mw_fr y' ≤ d) (hkc : kc' + k2 ≤ kc) (hks : ks' + s2 ≤ ks) (hn : As.length = n) (hst : As.reverse ++ rest = st) (hw : (rest.map fun v => v.category).sum ≤ 8) (k : mw_W y d kc' ks' (pc + 3) ls (v :: rest) h1 Po) : mw_W y d kc ks pc ls st h Po :=
  mw_callSN dg hm hC hd hkc hks hn hst hw mw_ret_x (mw_ret_r k)
theorem mw_callSNv {idx n d' kc' ks' k2 s2 : Nat} {h1 : mw_H} {As : List Value} (dg : decode y.2.1 pc = .ok (.invokestatic idx, 3)) (hm : mw_mSN y.1.cls idx y' n) (hC : mw_Con y' d' k2 s2 As h (mw_void h1)) (hd : d' + mw_fr y' ≤ d) (hkc : kc' + k2 ≤ kc) (hks : ks' + s2 ≤ ks) (hn : As.length = n) (hst : As.reverse ++ rest = st) (hw : (rest.map fun v => v.category).sum ≤ 8) (k : mw_W y d kc' ks' (pc + 3) ls (rest) h1 Po) : mw_W y d kc ks pc ls st h Po :=
  mw_callSN dg hm hC hd hkc hks hn hst hw mw_void_x (mw_void_r k)
theorem mw_callIv {idx n d' kc' ks' k2 s2 : Nat} {h1 : mw_H} {a : Nat} {As : List Value} (dg : decode y.2.1 pc = .ok (.invokespecial idx, 3)) (hm : mw_mI y.1.cls idx y' n) (hC : mw_Con y' d' k2 s2 (.ref a :: As) h (mw_void h1)) (hd : d' + mw_fr y' ≤ d) (hkc : kc' + k2 ≤ kc) (hks : ks' + s2 ≤ ks) (hn : As.length = n) (hst : As.reverse ++ .ref a :: rest = st) (hw : (rest.map fun v => v.category).sum ≤ 8) (k : mw_W y d kc' ks' (pc + 3) ls (rest) h1 Po) : mw_W y d kc ks pc ls st h Po :=
  mw_callI dg hm hC hd hkc hks hn hst hw mw_void_x (mw_void_r k)
theorem mw_callINv {idx n d' kc' ks' k2 s2 : Nat} {h1 : mw_H} {a : Nat} {As : List Value} (dg : decode y.2.1 pc = .ok (.invokespecial idx, 3)) (hm : mw_mIN y.1.cls idx y' n) (hC : mw_Con y' d' k2 s2 (.ref a :: As) h (mw_void h1)) (hd : d' + mw_fr y' ≤ d) (hkc : kc' + k2 ≤ kc) (hks : ks' + s2 ≤ ks) (hn : As.length = n) (hst : As.reverse ++ .ref a :: rest = st) (hw : (rest.map fun v => v.category).sum ≤ 8) (k : mw_W y d kc' ks' (pc + 3) ls (rest) h1 Po) : mw_W y d kc ks pc ls st h Po :=
  mw_callIN dg hm hC hd hkc hks hn hst hw mw_void_x (mw_void_r k)
/-! throws -/
def mw_nm : List String := ["java/lang/RuntimeException", "java/lang/Exception"]
def mw_TH (own : String) (ik is ic ci : Nat) (cls text : String) : Prop := Bundle.fit cls = true ∧ Cond.classLink own ik cls ∈ lw_tbl ∧ Cond.initialized cls ∈ lw_tbl ∧ (∀ w ∈ vx_atS own ic cls mw_nm, w ∈ lw_tbl ∧ mw_ok w = true) ∧ (own, is, text) ∈ mw_strs ∧ mw_cl[ci]? = some (cls, mw_T0, 0)
theorem mw_nm_fit : ∀ n ∈ mw_nm, Bundle.fit n = true := by decide +kernel
theorem mw_ok_ot {w : Cond} (hg : mw_ok w = true) : vx_ot w = true := by
  simp only [mw_ok, Bool.and_eq_true] at hg
  simp only [vx_ot, hg.1, Bool.true_or]
theorem mw_thrown {G : mw_G} {H : Heap} {s t : State} {locs : List Loc} {cls : String} {ci : Nat} (hK : mw_K G s) (hR : mw_R G h H) (hS : va_S (mw_I G) s.heap H locs) (hcl : mw_cl[ci]? = some (cls, mw_T0, 0)) (hz : t.heap.size = H.size + 1) (oq : ∀ q : Nat, q < H.size → t.heap[q]? = H[q]?) (hce : ∃ ce : Cell, t.heap[H.size]? = some ce ∧ ce.vm = .none ∧ s.vm.findClass cls = some ce.cls) (hp : Po (.inr cls) (mw_n h (.inr (ci, [])))) : mw_X G Po cls s t := by
  obtain ⟨ce, e1, e2, e3⟩ := hce
  refine ⟨⟨_, hp, mw_R_new hR ?_ hz oq⟩, (mw_S_new hS hz oq).F rfl⟩
  refine ⟨_, hcl, ce, e1, ?_, e2, fun k hk => absurd hk (Nat.not_lt_zero k)⟩
  exact Option.some.inj (e3.symm.trans ((mw_know hK).1 ci _ hcl).2.1)
theorem mw_throw {ik is ic ci : Nat} {cls text : String} (hth : mw_TH y.1.cls ik is ic ci cls text) (d0 : decode y.2.1 pc = .ok (.new ik, 3)) (d3 : decode y.2.1 (pc + 3) = .ok (.dup, 1)) (d4 : decode y.2.1 (pc + 4) = .ok (.ldc is, 2)) (d6 : decode y.2.1 (pc + 6) = .ok (.invokespecial ic, 3)) (d9 : decode y.2.1 (pc + 9) = .ok (.athrow, 1)) (hn : y.2.2.2.2 = []) (hd : 6 ≤ d) (hkc : 1 ≤ kc) (hks : 6 ≤ ks) (hst : (st.map fun v => v.category).sum ≤ 8) (hp : Po (.inr cls) (mw_n h (.inr (ci, [])))) : mw_W y d kc ks pc ls st h Po := by
  intro G p l e R s m args below meth c mc msl H locs cells slots lsA C hc hs hR hS hL
  obtain ⟨hx, hb, hr, hml, hown, hlk, htr, htab, hnm, hRf, hRl, hRc, hRs, hK⟩ := id C
  obtain ⟨hfit, hk1, hk2, hat, hstr, hcl⟩ := hth
  obtain ⟨sa, hsa⟩ := hK.1.2.2.2.2.2.2.1 _ hstr
  rw [hn] at htab
  have hsum := mw_sum (G := G) hst
  refine mx_throwS (cls := cls) (names := mw_nm) (sa := sa) (A := mw_I G) hx hb htr hown hfit mw_nm_fit (mw_word hK hk1 rfl) (mw_word hK hk2 rfl) (vk_R.warm hK.2.1 hsa) (fun w hw => mw_wordC hK (hat w hw).1 (hat w hw).2) ?_ (mw_Zq hK hK.1.2.2.2.2.1) (mw_Zq hK hK.1.2.2.2.2.2.1) hS (hL.1.trans hml.symm) d0 d3 d4 d6 d9 (fun x hx9 => by rw [htab] at hx9; cases hx9) (by show 5 < R.frames; omega) (by show _ + (13 * 3 + 43) ≤ R.locals; omega) (by omega) (by omega) hlk (fun t ht hz oq hce => mw_thrown hK hR hS hcl hz oq hce hp) (fun z hz => hS.2.2 z hz) (by omega) (by omega)
  intro w hw
  rcases List.mem_cons.mp hw with rfl | hw
  · rfl
  · rcases List.mem_cons.mp hw with rfl | hw
    · rfl
    · exact mw_ok_ot (hat w hw).2
theorem mw_throwW {ik is ic ci : Nat} {cls text : String} (hth : mw_TH y.1.cls ik is ic ci cls text) (d0 : decode y.2.1 pc = .ok (.new ik, 3)) (d3 : decode y.2.1 (pc + 3) = .ok (.dup, 1)) (d4 : decode y.2.1 (pc + 4) = .ok (.ldc_w is, 3)) (d6 : decode y.2.1 (pc + 7) = .ok (.invokespecial ic, 3)) (d9 : decode y.2.1 (pc + 10) = .ok (.athrow, 1)) (hn : y.2.2.2.2 = []) (hd : 6 ≤ d) (hkc : 1 ≤ kc) (hks : 6 ≤ ks) (hst : (st.map fun v => v.category).sum ≤ 8) (hp : Po (.inr cls) (mw_n h (.inr (ci, [])))) : mw_W y d kc ks pc ls st h Po := by
  intro G p l e R s m args below meth c mc msl H locs cells slots lsA C hc hs hR hS hL
  obtain ⟨hx, hb, hr, hml, hown, hlk, htr, htab, hnm, hRf, hRl, hRc, hRs, hK⟩ := id C
  obtain ⟨hfit, hk1, hk2, hat, hstr, hcl⟩ := hth
  obtain ⟨sa, hsa⟩ := hK.1.2.2.2.2.2.2.1 _ hstr
  rw [hn] at htab
  have hsum := mw_sum (G := G) hst
  refine mx_throwSW (cls := cls) (names := mw_nm) (sa := sa) (A := mw_I G) hx hb htr hown hfit mw_nm_fit (mw_word hK hk1 rfl) (mw_word hK hk2 rfl) (vk_R.warm hK.2.1 hsa) (fun w hw => mw_wordC hK (hat w hw).1 (hat w hw).2) ?_ (mw_Zq hK hK.1.2.2.2.2.1) (mw_Zq hK hK.1.2.2.2.2.2.1) hS (hL.1.trans hml.symm) d0 d3 d4 d6 d9 (fun x hx9 => by rw [htab] at hx9; cases hx9) (by show 5 < R.frames; omega) (by show _ + (13 * 3 + 43) ≤ R.locals; omega) (by omega) (by omega) hlk (fun t ht hz oq hce => mw_thrown hK hR hS hcl hz oq hce hp) (fun z hz => hS.2.2 z hz) (by omega) (by omega)
  intro w hw
  rcases List.mem_cons.mp hw with rfl | hw
  · rfl
  · rcases List.mem_cons.mp hw with rfl | hw
    · rfl
    · exact mw_ok_ot (hat w hw).2
/-! catching: the row q of the table takes it, those ahead don't; what is caught goes into the place i and is not looked at -/
theorem mw_caught {E name : String} (pre suf : List (Nat × Nat × Nat × Nat)) (q : Nat × Nat × Nat × Nat) {i : Nat} {hp len : Nat} (hsplit : y.2.2.2.2 = pre ++ q :: suf) (hpass : ∀ z ∈ pre, z.2.2.2 ≠ 0 ∧ ∃ nm : String, Cond.classLink y.1.cls z.2.2.2 nm ∈ lw_tbl ∧ (E, nm) ∈ mw_ncs) (hcov : q.1 ≤ pc ∧ pc < q.2.1) (h0 : q.2.2.2 ≠ 0) (hl : Cond.classLink y.1.cls q.2.2.2 name ∈ lw_tbl) (hca : Cond.castable E name ∈ lw_tbl) (hhp : q.2.2.1 = hp)
    (dh : (∃ j : Fin 4, (j : Nat) = i ∧ len = 1 ∧ decode y.2.1 hp = .ok (.astore_n j, 1)) ∨ (len = 2 ∧ decode y.2.1 hp = .ok (.astore i, 2))) (hi : i < y.2.2.1) (k : mw_W y d kc ks (hp + len) (ls.set i none) [] h Po) (hone : ls.all (fun o => match o with | some w => w.category == 1 | none => true) = true := by rfl) : mw_T y d kc ks pc ls st h E Po := by
  intro G p l e R s m args below meth c mc msl H locs cells slots lsA q9 ce C hc hs hR hS hL hce hcv hcl
  obtain ⟨hx, hb, hr, hml, hown, hlk, htr, htab, hnm, hRf, hRl, hRc, hRs, hK⟩ := id C
  subst hhp
  have hT : c.exceptionTable.toList = tableOf pre ++ ⟨q.1, q.2.1, q.2.2.1, q.2.2.2⟩ :: tableOf suf := by
    rw [htab, hsplit]
    unfold tableOf
    rw [List.map_append]
    rfl
  refine vx_catch (E := E) (ce := ce) (name := name) hown _ _ _ hT (fun z hz => ?_) (by unfold covers; simp; exact hcov) h0 (mw_word hK hl rfl) (mw_wordC hK hca rfl) hce hcv hcl ?_
  · unfold tableOf at hz
    obtain ⟨z9, hz9, rfl⟩ := List.mem_map.mp hz
    obtain ⟨a1, nm, a2, a3⟩ := hpass z9 hz9
    exact Or.inr ⟨a1, nm, mw_word hK a2 rfl, va_Nc.moved hK.2.1.alike (hK.1.2.2.2.2.2.2.2 _ a3)⟩
  · rcases dh with ⟨j, hj, rfl, dh⟩ | ⟨rfl, dh⟩
    · exact lv_astore_n hx hb dh hj (mw_al_has hL) hi rfl (fun ls9 h9 => k G p l e R s m args below meth c mc msl H locs cells slots ls9 C hc hs hR hS (mw_L_drop hL hone h9))
    · exact lv_astore hx hb dh (mw_al_has hL) hi rfl (fun ls9 h9 => k G p l e R s m args below meth c mc msl H locs cells slots ls9 C hc hs hR hS (mw_L_drop hL hone h9))
end MWC
