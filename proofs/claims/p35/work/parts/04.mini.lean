/-! the mini layer: cells by numbers of their own (0: the script; 1, 2 ..: what the law has made, in this order); a heap is (the next free number, the cells, the script's length and values) -/
abbrev mw_H : Type := Nat × (Nat → Option va_E) × (Nat × (Nat → Int32))
def mw_g (h : mw_H) (a : Nat) : Option va_E := h.2.1 a
def mw_s (h : mw_H) (a : Nat) (x : va_E) : mw_H := (h.1, va_up h.2.1 a (some x), h.2.2)
def mw_n (h : mw_H) (x : va_E) : mw_H := (h.1 + 1, va_up h.2.1 h.1 (some x), h.2.2)
theorem mw_gs {h : mw_H} {a : Nat} {x : va_E} : mw_g (mw_s h a x) a = some x := va_up_self _ _ _
theorem mw_go {h : mw_H} {a b : Nat} {x : va_E} (n : b ≠ a) : mw_g (mw_s h a x) b = mw_g h b := va_up_ne _ _ n
theorem mw_gn {h : mw_H} {x : va_E} : mw_g (mw_n h x) h.1 = some x := va_up_self _ _ _
theorem mw_gm {h : mw_H} {b : Nat} {x : va_E} (n : b ≠ h.1) : mw_g (mw_n h x) b = mw_g h b := va_up_ne _ _ n
/-- the machine's side: the start, the script's address, its length and values, the tables' numbers of classes and slots, of array classes -/
abbrev mw_G : Type := State × Nat × (Nat × (Nat → Int32)) × va_G × (Nat → ClassId)
def mw_b0 (G : mw_G) : Nat := G.1.heap.size
def mw_ad (G : mw_G) : Nat → Nat := fun a => match a with
  | 0 => G.2.1
  | k + 1 => mw_b0 G + k
def mw_V (G : mw_G) : Value → Value := fun v => match v with
  | .ref a => .ref (mw_ad G a)
  | w => w
def mw_A (G : mw_G) : vp_A → vp_A := fun x => match x with
  | (n, .inr (.inr (.inr (.inr g)))) => (n, .inr (.inr (.inr (.inr (fun j => (g j).map (mw_ad G))))))
  | z => z
def mw_E (G : mw_G) : va_E → va_E := fun x => match x with
  | .inl (t, z) => .inl (G.2.2.2.2 t, mw_A G z)
  | .inr (ci, fs) => .inr (ci, fs.map (mw_V G))
def mw_T0 : u_T := fun _ => ("", "", "", false)
abbrev mw_cl : List vw_C := [(RX0, TX0, 2), (RX1, TX1, 4), (RX2, TX2, 10), (RX3, TX3, 2), (RX4, TX4, 4), (RX5, TX5, 5), (RX6, TX6, 11), (RX0, TX0, 2), ("java/lang/IllegalStateException", mw_T0, 0), ("java/lang/IllegalArgumentException", mw_T0, 0), ("java/lang/IndexOutOfBoundsException", mw_T0, 0), ("java/util/NoSuchElementException", mw_T0, 0)]
def mw_tys (G : mw_G) : List (ClassId × FieldType) := [(G.2.2.2.2 0, .int), (G.2.2.2.2 1, .byte), (G.2.2.2.2 2, .boolean), (G.2.2.2.2 3, .long), (G.2.2.2.2 4, .object RX5), (G.2.2.2.2 5, .object RX3)]
def mw_I (G : mw_G) : Nat → Prop := fun q => mw_b0 G ≤ q
/-- a mini heap is the machine's heap, seen from the start -/
def mw_R (G : mw_G) (h : mw_H) (H : Heap) : Prop := 0 < h.1 ∧ H.size + 1 = mw_b0 G + h.1 ∧ h.2.2 = G.2.2.1 ∧ ∀ (a : Nat) (x : va_E), mw_g h a = some x → 0 < a ∧ a < h.1 ∧ va_at G.2.2.2.1 mw_cl (mw_ad G a, mw_E G x) H
def mw_strs : List (String × Nat × String) := [("Schemabridge", 67, "there are 6 schemas"), ("Schemabridge", 84, "there is no such kind"), ("Schemabridge", 99, "the kind of the tag has no default"), ("Schemabridge", 199, "the other message has not the schema of the part"), ("Schemabridge", 233, "there is no such byte"), ("Schemabridge", 247, "the bytes of the part have a fault"), ("Schemabridge", 259, "there is no such unknown field"), ("Schemabridge", 274, "the tape has 120 bytes"), ("Schemabridge", 276, "the tape has no such length"), ("Schemabridge", 285, "the tape has a fault"), ("Schemabridge", 287, "there is no such schema"), ("Schemabridge", 289, "there is no such message"), ("Schemabridge", 294, "tag is not 1 to 31"), ("Schemabridge", 296, "the tag has not PLAIN, SIGNED or FOUR"), ("Schemabridge", 301, "the tag has not TEXT or PART"), ("Schemabridge", 306, "the tag has not PART"), ("Schemabridge", 308, "the message has nothing for the tag"), ("Schemabridge", 313, "there are 12 messages"), ("Schemabridge", 315, "the weight would be above 120")]
def mw_ncs : List (String × String) := [("java/lang/IllegalArgumentException", "java/lang/IllegalStateException"), ("java/lang/IllegalArgumentException", "java/lang/IndexOutOfBoundsException"), ("java/lang/IllegalArgumentException", "java/util/NoSuchElementException"), ("java/lang/IllegalStateException", "java/lang/IllegalArgumentException"), ("java/lang/IllegalStateException", "java/lang/IndexOutOfBoundsException"), ("java/lang/IllegalStateException", "java/util/NoSuchElementException"), ("java/lang/IndexOutOfBoundsException", "java/lang/IllegalArgumentException"), ("java/lang/IndexOutOfBoundsException", "java/lang/IllegalStateException"), ("java/lang/IndexOutOfBoundsException", "java/util/NoSuchElementException"), ("java/util/NoSuchElementException", "java/lang/IllegalArgumentException"), ("java/util/NoSuchElementException", "java/lang/IllegalStateException"), ("java/util/NoSuchElementException", "java/lang/IndexOutOfBoundsException")]
/-- what is given of the start -/
def mw_K0 (G : mw_G) : Prop := (∀ w ∈ lw_tbl, w.before #[Value.ref G.2.1] G.1 = true) ∧ va_K G.2.2.2.1 mw_cl (mw_tys G) G.1 ∧ va_X G.2.1 G.2.2.1.1 G.2.2.1.2 G.1 G.1.heap ∧ G.2.1 < mw_b0 G ∧
  vx_Zq Bundle.tN "UNASSIGNED_STACK" Bundle.steD (mw_I G) G.1 G.1.heap ∧ vx_Zq Bundle.tN "SUPPRESSED_SENTINEL" Bundle.listD (mw_I G) G.1 G.1.heap ∧
  (∀ q ∈ mw_strs, ∃ sa : Nat, vk_R q.1 q.2.1 q.2.2 sa G.1) ∧ (∀ q ∈ mw_ncs, va_Nc q.1 q.2 G.1)
/-- .. and of every later state -/
def mw_K (G : mw_G) (s : State) : Prop := mw_K0 G ∧ G.1.WarmedH s.vm ∧ mw_b0 G ≤ s.heap.size ∧ ∀ q : Nat, q < mw_b0 G → s.heap[q]? = G.1.heap[q]?
theorem mw_ad_inj {G : mw_G} {a b : Nat} (ha : 0 < a) (hb : 0 < b) (e : mw_ad G a = mw_ad G b) : a = b := by
  obtain ⟨a, rfl⟩ : ∃ k, a = k + 1 := ⟨a - 1, by omega⟩
  obtain ⟨b, rfl⟩ : ∃ k, b = k + 1 := ⟨b - 1, by omega⟩
  have e : mw_b0 G + a = mw_b0 G + b := e
  omega
theorem mw_ad_pos {G : mw_G} {a : Nat} (ha : 0 < a) : mw_ad G a = mw_b0 G + (a - 1) := by
  obtain ⟨a, rfl⟩ : ∃ k, a = k + 1 := ⟨a - 1, by omega⟩
  rfl
theorem mw_ad_inj2 {G : mw_G} (hb : G.2.1 < mw_b0 G) {a b : Nat} (e : mw_ad G a = mw_ad G b) : a = b := by
  cases a with
  | zero =>
    cases b with
    | zero => rfl
    | succ b =>
      have e : G.2.1 = mw_b0 G + b := e
      omega
  | succ a =>
    cases b with
    | zero =>
      have e : mw_b0 G + a = G.2.1 := e
      omega
    | succ b =>
      have e : mw_b0 G + a = mw_b0 G + b := e
      omega
theorem mw_R_set {G : mw_G} {h : mw_H} {H H1 : Heap} {a : Nat} {x x0 : va_E} (hR : mw_R G h H) (h0 : mw_g h a = some x0) (he : va_at G.2.2.2.1 mw_cl (mw_ad G a, mw_E G x) H1) (hz : H1.size = H.size) (oq : ∀ q : Nat, q ≠ mw_ad G a → H1[q]? = H[q]?) : mw_R G (mw_s h a x) H1 := by
  obtain ⟨p1, p2, p3, p4⟩ := hR
  obtain ⟨q1, q2, -⟩ := p4 a x0 h0
  refine ⟨p1, by rw [hz]; exact p2, p3, fun b x' hb => ?_⟩
  by_cases e : b = a
  · subst e
    rw [mw_gs] at hb
    cases hb
    exact ⟨q1, q2, he⟩
  · rw [mw_go e] at hb
    obtain ⟨r1, r2, r3⟩ := p4 b x' hb
    exact ⟨r1, r2, r3.kept (oq _ (fun z => e (mw_ad_inj r1 q1 z)))⟩
theorem mw_R_next {G : mw_G} {h : mw_H} {H : Heap} (hR : mw_R G h H) : mw_ad G h.1 = H.size := by
  obtain ⟨p1, p2, -⟩ := hR
  rw [mw_ad_pos p1]
  omega
theorem mw_R_new {G : mw_G} {h : mw_H} {H H1 : Heap} {x : va_E} (hR : mw_R G h H) (he : va_at G.2.2.2.1 mw_cl (H.size, mw_E G x) H1) (hz : H1.size = H.size + 1) (oq : ∀ q : Nat, q < H.size → H1[q]? = H[q]?) : mw_R G (mw_n h x) H1 := by
  have hn := mw_R_next hR
  obtain ⟨p1, p2, p3, p4⟩ := hR
  refine ⟨Nat.succ_pos _, by show H1.size + 1 = mw_b0 G + (h.1 + 1); omega, p3, fun b x' hb => ?_⟩
  by_cases e : b = h.1
  · subst e
    rw [mw_gn] at hb
    cases hb
    exact ⟨p1, Nat.lt_succ_self _, by rw [hn]; exact he⟩
  · rw [mw_gm e] at hb
    obtain ⟨r1, r2, r3⟩ := p4 b x' hb
    exact ⟨r1, Nat.lt_succ_of_lt r2, r3.kept (oq _ r3.lt)⟩
theorem mw_R_in {G : mw_G} {h : mw_H} {H : Heap} (hR : mw_R G h H) {a : Nat} {x : va_E} (h0 : mw_g h a = some x) : mw_I G (mw_ad G a) := by
  obtain ⟨q1, -, -⟩ := hR.2.2.2 a x h0
  show mw_b0 G ≤ mw_ad G a
  rw [mw_ad_pos q1]
  omega
/-- which words stay true -/
def mw_ok (w : Cond) : Bool := w.onTables && w.keepsCast
theorem mw_word {G : mw_G} {s : State} {args : Array Value} (hK : mw_K G s) {w : Cond} (hw : w ∈ lw_tbl) (hg : goodWord w = true) : w.before args s = true := word_at hK.2.1 (good_of_word hg) (hK.1.1 w hw)
theorem mw_wordC {G : mw_G} {s : State} {args : Array Value} (hK : mw_K G s) {w : Cond} (hw : w ∈ lw_tbl) (hg : mw_ok w = true) : w.before args s = true := by
  simp only [mw_ok, Bool.and_eq_true] at hg
  have h1 := Cond.before_shiftedCast (State.Shifted.of_warmed hK.2.1) w hg.2 (hK.1.1 w hw)
  exact va_tabs (u := G.1.setVm s.vm) hg.1 rfl h1
theorem mw_know {G : mw_G} {s : State} (hK : mw_K G s) : va_K G.2.2.2.1 mw_cl (mw_tys G) s := va_K.moved hK.2.1.alike hK.1.2.1
theorem mw_X0 {G : mw_G} {s : State} (hK : mw_K G s) : va_X G.2.1 G.2.2.1.1 G.2.2.1.2 s s.heap := by
  have h1 := va_X.moved hK.2.1.alike hK.1.2.2.1
  exact h1.kept (hK.2.2.2 _ hK.1.2.2.2.1)
theorem mw_Zq {G : mw_G} {s : State} (hK : mw_K G s) {C n d : String} (hz : vx_Zq C n d (mw_I G) G.1 G.1.heap) : vx_Zq C n d (mw_I G) s s.heap := by
  have h1 := vx_Zq.moved hK.2.1.alike hz
  exact h1.kept (fun a ha _ => hK.2.2.2 a ha)
/-- a method: name, code, its places, what it answers, its table -/
abbrev mw_M : Type := MethodName × ByteArray × Nat × Option FieldType × List (Nat × Nat × Nat × Nat)
def mw_C (G : mw_G) (y : mw_M) (d mc msl : Nat) (p : Program) (l : Launch) (R : Room) (s : State) (m : MethodId) (meth : Method) (c : Code) : Prop :=
  p.tables.exec = Jvm.exec ∧ c.code = y.2.1 ∧ meth.sig.returnType = y.2.2.2.1 ∧ c.maxLocals = y.2.2.1 ∧ s.vm.findClass y.1.cls = some m.cls ∧ meth.locks = false ∧ l.stackTraces = false ∧ c.exceptionTable.toList = tableOf y.2.2.2.2 ∧ meth.name = y.1.name ∧ d ≤ R.frames ∧ 40 * d ≤ R.locals ∧ mc ≤ R.cells ∧ msl ≤ R.slots ∧ mw_K G s
/-- a value of two words tells something only while nothing is known of the place behind it -/
def mw_lk (ls : List (Option Value)) (i : Nat) (v : Value) : Bool := v.category == 1 || (match ls[i + 1]? with | some none => true | _ => false)
def mw_L (G : mw_G) (n : Nat) (ls : List (Option Value)) (lsA : Array Slot) : Prop := lsA.size = n ∧ lv_wf lsA ∧ ∀ (i : Nat) (v : Value), ls[i]? = some (some v) → mw_lk ls i v = true → lsA[i]? = some (.val (mw_V G v))
abbrev mw_P : Type := Option Value ⊕ String → mw_H → Prop
def mw_Q (G : mw_G) (Po : mw_P) : Array Value → State → Outcome → State → Prop := fun _ st oc t => (∃ (v : Option Value) (h' : mw_H), oc = .returned (v.map (mw_V G)) ∧ Po (.inl v) h' ∧ mw_R G h' t.heap) ∧ va_F (mw_I G) st t
def mw_X (G : mw_G) (Po : mw_P) : String → State → State → Prop := fun E st t => (∃ h' : mw_H, Po (.inr E) h' ∧ mw_R G h' t.heap) ∧ va_F (mw_I G) st t
/-- THE JUDGEMENT: from here the method comes to an end that Po allows; kc cells and ks slots may still be made, d levels of calls are left -/
def mw_W (y : mw_M) (d kc ks pc : Nat) (ls : List (Option Value)) (st : List Value) (h : mw_H) (Po : mw_P) : Prop :=
  ∀ (G : mw_G) (p : Program) (l : Launch) (e : Env) (R : Room) (s : State) (m : MethodId) (args : Array Value) (below : List Frame) (meth : Method) (c : Code) (mc msl : Nat) (H : Heap) (locs : List Loc) (cells slots : Nat) (lsA : Array Slot),
    mw_C G y d mc msl p l R s m meth c → cells + kc ≤ mc → slots + ks ≤ msl → mw_R G h H → va_S (mw_I G) s.heap H locs → mw_L G y.2.2.1 ls lsA →
    W p l e R s m args below meth c H locs cells slots (vx_MQ below (mw_Q G Po) (mw_X G Po) args s mc msl (mw_I G)) (F0 m pc lsA (st.map (mw_V G)))
/-- .. with an exception of class E thrown over it -/
def mw_T (y : mw_M) (d kc ks pc : Nat) (ls : List (Option Value)) (st : List Value) (h : mw_H) (E : String) (Po : mw_P) : Prop :=
  ∀ (G : mw_G) (p : Program) (l : Launch) (e : Env) (R : Room) (s : State) (m : MethodId) (args : Array Value) (below : List Frame) (meth : Method) (c : Code) (mc msl : Nat) (H : Heap) (locs : List Loc) (cells slots : Nat) (lsA : Array Slot) (q : Nat) (ce : Cell),
    mw_C G y d mc msl p l R s m meth c → cells + kc ≤ mc → slots + ks ≤ msl → mw_R G h H → va_S (mw_I G) s.heap H locs → mw_L G y.2.2.1 ls lsA → H[q]? = some ce → ce.vm = .none → s.vm.findClass E = some ce.cls →
    vx_W p l e R s m args below meth c H locs cells slots (vx_MQ below (mw_Q G Po) (mw_X G Po) args s mc msl (mw_I G)) (F0 m pc lsA (st.map (mw_V G))) q
section MWR
variable {y y' : mw_M} {d kc ks pc : Nat} {ls : List (Option Value)} {st rest : List Value} {h : mw_H} {Po : mw_P}
theorem mw_wf (k : (∀ (a : Nat) (x : va_E), mw_g h a = some x → 0 < a ∧ a < h.1) → mw_W y d kc ks pc ls st h Po) : mw_W y d kc ks pc ls st h Po := by
  intro G p l e R s m args below meth c mc msl H locs cells slots lsA C hc hs hR hS hL
  exact k (fun a x hx => ⟨(hR.2.2.2 a x hx).1, (hR.2.2.2 a x hx).2.1⟩) G p l e R s m args below meth c mc msl H locs cells slots lsA C hc hs hR hS hL
theorem mw_less {kc' ks' : Nat} (h1 : kc' ≤ kc) (h2 : ks' ≤ ks) (k : mw_W y d kc' ks' pc ls st h Po) : mw_W y d kc ks pc ls st h Po := by
  intro G p l e R s m args below meth c mc msl H locs cells slots lsA C hc hs hR hS hL
  exact k G p l e R s m args below meth c mc msl H locs cells slots lsA C (by omega) (by omega) hR hS hL
theorem mw_post {Po' : mw_P} (hp : ∀ r h', Po' r h' → Po r h') (k : mw_W y d kc ks pc ls st h Po') : mw_W y d kc ks pc ls st h Po := by
  intro G p l e R s m args below meth c mc msl H locs cells slots lsA C hc hs hR hS hL T hT X
  obtain ⟨t, a1, oc, b1, b2, b3⟩ := k G p l e R s m args below meth c mc msl H locs cells slots lsA C hc hs hR hS hL T hT X
  refine ⟨t, a1, oc, b1, b2, ?_⟩
  rcases b3 with ⟨⟨⟨v, h', e1, e2, e3⟩, e4⟩, e5⟩ | ⟨q, e1, E, ce, L, ⟨⟨h', e2, e3⟩, e4⟩, e5⟩
  · exact Or.inl ⟨⟨⟨v, h', e1, hp _ _ e2, e3⟩, e4⟩, e5⟩
  · exact Or.inr ⟨q, e1, E, ce, L, ⟨⟨h', hp _ _ e2, e3⟩, e4⟩, e5⟩
theorem mw_iconst {n : Int} {v : Int32} (dg : decode y.2.1 pc = .ok (.iconst n, 1)) (hv : Int32.ofInt n = v) (k : mw_W y d kc ks (pc + 1) ls (.int v :: st) h Po) : mw_W y d kc ks (pc) ls (st) h Po := by
  intro G p l e R s m args below meth c mc msl H locs cells slots lsA C hc hs hR hS hL
  obtain ⟨hx, hb, hr, hml, hown, hlk, htr, htab, hnm, hRf, hRl, hRc, hRs, hK⟩ := id C
  exact lv_iconst hx hb dg hv (k G p l e R s m args below meth c mc msl H locs cells slots lsA C hc hs hR hS hL)
theorem mw_bipush {n : Int} {v : Int32} (dg : decode y.2.1 pc = .ok (.bipush n, 2)) (hv : (Int8.ofInt n).toInt32 = v) (k : mw_W y d kc ks (pc + 2) ls (.int v :: st) h Po) : mw_W y d kc ks (pc) ls (st) h Po := by
  intro G p l e R s m args below meth c mc msl H locs cells slots lsA C hc hs hR hS hL
  obtain ⟨hx, hb, hr, hml, hown, hlk, htr, htab, hnm, hRf, hRl, hRc, hRs, hK⟩ := id C
  exact lv_bipush hx hb dg hv (k G p l e R s m args below meth c mc msl H locs cells slots lsA C hc hs hR hS hL)
theorem mw_sipush {n : Int} {v : Int32} (dg : decode y.2.1 pc = .ok (.sipush n, 3)) (hv : (Int16.ofInt n).toInt32 = v) (k : mw_W y d kc ks (pc + 3) ls (.int v :: st) h Po) : mw_W y d kc ks (pc) ls (st) h Po := by
  intro G p l e R s m args below meth c mc msl H locs cells slots lsA C hc hs hR hS hL
  obtain ⟨hx, hb, hr, hml, hown, hlk, htr, htab, hnm, hRf, hRl, hRc, hRs, hK⟩ := id C
  exact lv_sipush hx hb dg hv (k G p l e R s m args below meth c mc msl H locs cells slots lsA C hc hs hR hS hL)
theorem mw_lconst {n : Fin 2} {v : Int64} (dg : decode y.2.1 pc = .ok (.lconst n, 1)) (hv : Int64.ofNat (n : Nat) = v) (k : mw_W y d kc ks (pc + 1) ls (.long v :: st) h Po) : mw_W y d kc ks (pc) ls (st) h Po := by
  intro G p l e R s m args below meth c mc msl H locs cells slots lsA C hc hs hR hS hL
  obtain ⟨hx, hb, hr, hml, hown, hlk, htr, htab, hnm, hRf, hRl, hRc, hRs, hK⟩ := id C
  exact lv_lconst hx hb dg hv (k G p l e R s m args below meth c mc msl H locs cells slots lsA C hc hs hR hS hL)
theorem mw_null (dg : decode y.2.1 pc = .ok (.aconst_null, 1)) (k : mw_W y d kc ks (pc + 1) ls (.null :: st) h Po) : mw_W y d kc ks (pc) ls (st) h Po := by
  intro G p l e R s m args below meth c mc msl H locs cells slots lsA C hc hs hR hS hL
  obtain ⟨hx, hb, hr, hml, hown, hlk, htr, htab, hnm, hRf, hRl, hRc, hRs, hK⟩ := id C
  exact lv_null hx hb dg (k G p l e R s m args below meth c mc msl H locs cells slots lsA C hc hs hR hS hL)
theorem mw_iload_n {j : Fin 4} {i : Nat} {x : Int32} (dg : decode y.2.1 pc = .ok (.iload_n j, 1)) (hj : (j : Nat) = i) (hi : ls[i]? = some (some (.int x))) (k : mw_W y d kc ks (pc + 1) ls (.int x :: st) h Po) : mw_W y d kc ks (pc) ls (st) h Po := by
  intro G p l e R s m args below meth c mc msl H locs cells slots lsA C hc hs hR hS hL
  obtain ⟨hx, hb, hr, hml, hown, hlk, htr, htab, hnm, hRf, hRl, hRc, hRs, hK⟩ := id C
  exact lv_iload_n hx hb dg hj (hL.2.2 _ _ hi rfl) (k G p l e R s m args below meth c mc msl H locs cells slots lsA C hc hs hR hS hL)
theorem mw_iload {i : Nat} {x : Int32} (dg : decode y.2.1 pc = .ok (.iload i, 2)) (hi : ls[i]? = some (some (.int x))) (k : mw_W y d kc ks (pc + 2) ls (.int x :: st) h Po) : mw_W y d kc ks (pc) ls (st) h Po := by
  intro G p l e R s m args below meth c mc msl H locs cells slots lsA C hc hs hR hS hL
  obtain ⟨hx, hb, hr, hml, hown, hlk, htr, htab, hnm, hRf, hRl, hRc, hRs, hK⟩ := id C
  exact lv_iload hx hb dg (hL.2.2 _ _ hi rfl) (k G p l e R s m args below meth c mc msl H locs cells slots lsA C hc hs hR hS hL)
theorem mw_aload_n {j : Fin 4} {i x : Nat} (dg : decode y.2.1 pc = .ok (.aload_n j, 1)) (hj : (j : Nat) = i) (hi : ls[i]? = some (some (.ref x))) (k : mw_W y d kc ks (pc + 1) ls (.ref x :: st) h Po) : mw_W y d kc ks (pc) ls (st) h Po := by
  intro G p l e R s m args below meth c mc msl H locs cells slots lsA C hc hs hR hS hL
  obtain ⟨hx, hb, hr, hml, hown, hlk, htr, htab, hnm, hRf, hRl, hRc, hRs, hK⟩ := id C
  exact lv_aload_n hx hb dg hj (hL.2.2 _ _ hi rfl) (k G p l e R s m args below meth c mc msl H locs cells slots lsA C hc hs hR hS hL)
theorem mw_aload {i x : Nat} (dg : decode y.2.1 pc = .ok (.aload i, 2)) (hi : ls[i]? = some (some (.ref x))) (k : mw_W y d kc ks (pc + 2) ls (.ref x :: st) h Po) : mw_W y d kc ks (pc) ls (st) h Po := by
  intro G p l e R s m args below meth c mc msl H locs cells slots lsA C hc hs hR hS hL
  obtain ⟨hx, hb, hr, hml, hown, hlk, htr, htab, hnm, hRf, hRl, hRc, hRs, hK⟩ := id C
  exact lv_aload hx hb dg (hL.2.2 _ _ hi rfl) (k G p l e R s m args below meth c mc msl H locs cells slots lsA C hc hs hR hS hL)
theorem mw_aload_nN {j : Fin 4} {i : Nat} (dg : decode y.2.1 pc = .ok (.aload_n j, 1)) (hj : (j : Nat) = i) (hi : ls[i]? = some (some .null)) (k : mw_W y d kc ks (pc + 1) ls (.null :: st) h Po) : mw_W y d kc ks (pc) ls (st) h Po := by
  intro G p l e R s m args below meth c mc msl H locs cells slots lsA C hc hs hR hS hL
  obtain ⟨hx, hb, hr, hml, hown, hlk, htr, htab, hnm, hRf, hRl, hRc, hRs, hK⟩ := id C
  exact lv_aload_nN hx hb dg hj (hL.2.2 _ _ hi rfl) (k G p l e R s m args below meth c mc msl H locs cells slots lsA C hc hs hR hS hL)
theorem mw_aloadN {i : Nat} (dg : decode y.2.1 pc = .ok (.aload i, 2)) (hi : ls[i]? = some (some .null)) (k : mw_W y d kc ks (pc + 2) ls (.null :: st) h Po) : mw_W y d kc ks (pc) ls (st) h Po := by
  intro G p l e R s m args below meth c mc msl H locs cells slots lsA C hc hs hR hS hL
  obtain ⟨hx, hb, hr, hml, hown, hlk, htr, htab, hnm, hRf, hRl, hRc, hRs, hK⟩ := id C
  exact lv_aloadN hx hb dg (hL.2.2 _ _ hi rfl) (k G p l e R s m args below meth c mc msl H locs cells slots lsA C hc hs hR hS hL)
def mw_al (G : mw_G) (ls : List (Option Value)) : List (Nat × Value) := (List.range ls.length).filterMap (fun i => (ls[i]?.join).bind (fun v => if mw_lk ls i v = true then some (i, mw_V G v) else none))
theorem mw_al_mem {G : mw_G} {ls : List (Option Value)} {i : Nat} {v : Value} (hi : ls[i]? = some (some v)) (hk : mw_lk ls i v = true) : (i, mw_V G v) ∈ mw_al G ls := by
  unfold mw_al
  rw [List.mem_filterMap]
  refine ⟨i, List.mem_range.mpr (List.getElem?_eq_some_iff.mp hi).1, ?_⟩
  rw [hi]
  show (if mw_lk ls i v = true then some (i, mw_V G v) else none) = _
  rw [if_pos hk]
theorem mw_al_has {G : mw_G} {n : Nat} {ls : List (Option Value)} {lsA : Array Slot} (hL : mw_L G n ls lsA) : lv_has lsA n (mw_al G ls) := by
  refine ⟨hL.1, hL.2.1, fun q hq => ?_⟩
  unfold mw_al at hq
  rw [List.mem_filterMap] at hq
  obtain ⟨i, -, hi⟩ := hq
  cases hv : ls[i]? with
  | none => rw [hv] at hi; cases hi
  | some w =>
    rw [hv] at hi
    cases w with
    | none => cases hi
    | some v =>
      have hi : (if mw_lk ls i v = true then some (i, mw_V G v) else none) = some q := hi
      by_cases hk : mw_lk ls i v = true
      · rw [if_pos hk] at hi
        cases hi
        exact hL.2.2 i v hv hk
      · rw [if_neg hk] at hi
        cases hi
theorem mw_cat {G : mw_G} (v : Value) : (mw_V G v).category = v.category := by cases v <;> rfl
theorem mw_cat12 (v : Value) : v.category = 1 ∨ v.category = 2 := by cases v <;> first | exact Or.inl rfl | exact Or.inr rfl
theorem mw_lk_1 {ls : List (Option Value)} {i : Nat} {v : Value} (h : v.category = 1) : mw_lk ls i v = true := by
  unfold mw_lk
  rw [h]
  rfl
theorem mw_lk_2 {ls : List (Option Value)} {i : Nat} {v : Value} (h : ls[i + 1]? = some none) : mw_lk ls i v = true := by
  unfold mw_lk
  rw [h, Bool.or_true]
theorem mw_lk_of {ls : List (Option Value)} {i : Nat} {v : Value} (h : mw_lk ls i v = true) : v.category = 1 ∨ ls[i + 1]? = some none := by
  rcases mw_cat12 v with h1 | h1
  · exact Or.inl h1
  · right
    unfold mw_lk at h
    rw [h1] at h
    have h : (match ls[i + 1]? with | some none => true | _ => false) = true := h
    cases h2 : ls[i + 1]? with
    | none => rw [h2] at h; cases h
    | some o =>
      cases o with
      | none => rfl
      | some z => rw [h2] at h; cases h
theorem mw_L_set {G : mw_G} {n : Nat} {ls : List (Option Value)} {lsA lsB : Array Slot} {i : Nat} {v : Value} {v' : Value} (hL : mw_L G n ls lsA) (hv : mw_V G v = v') (hc : v.category = 1) (hB : lv_has lsB n ((i, v') :: (mw_al G ls).filter (fun q => !(q.1 == i) && !(q.1 + 1 == i && q.2.category == 2)))) : mw_L G n (ls.set i (some v)) lsB := by
  subst hv
  refine ⟨hB.1, hB.2.1, fun j w hj hk => ?_⟩
  by_cases e : j = i
  · subst e
    rw [List.getElem?_set_self'] at hj
    cases hq : ls[j]? with
    | none => rw [hq] at hj; cases hj
    | some z =>
      rw [hq] at hj
      cases hj
      exact hB.2.2 _ List.mem_cons_self
  · rw [List.getElem?_set_ne (fun z => e z.symm)] at hj
    have h3 : w.category = 1 ∨ j + 1 ≠ i ∧ ls[j + 1]? = some none := by
      rcases mw_lk_of hk with h | h
      · exact Or.inl h
      · right
        by_cases e2 : j + 1 = i
        · subst e2
          rw [List.getElem?_set_self'] at h
          cases hq : ls[j + 1]? with
          | none => rw [hq] at h; cases h
          | some z => rw [hq] at h; cases h
        · rw [List.getElem?_set_ne (fun z => e2 z.symm)] at h
          exact ⟨e2, h⟩
    have h4 : mw_lk ls j w = true := by
      rcases h3 with h | ⟨-, h⟩
      · exact mw_lk_1 h
      · exact mw_lk_2 h
    refine hB.2.2 (j, mw_V G w) (List.mem_cons_of_mem _ (List.mem_filter.mpr ⟨mw_al_mem hj h4, ?_⟩))
    rcases h3 with h | ⟨h, -⟩
    · have h3 : (mw_V G w).category = 1 := by rw [mw_cat]; exact h
      simp [e, h3]
    · simp [e, h]
theorem mw_L_set2 {G : mw_G} {n : Nat} {ls : List (Option Value)} {lsA lsB : Array Slot} {i : Nat} {v : Value} {v' : Value} (hL : mw_L G n ls lsA) (hv : mw_V G v = v') (hB : lv_has lsB n ((i, v') :: (mw_al G ls).filter (fun q => !(q.1 == i) && (!(q.1 == i + 1) && !(q.1 + 1 == i && q.2.category == 2))))) : mw_L G n ((ls.set i (some v)).set (i + 1) none) lsB := by
  subst hv
  refine ⟨hB.1, hB.2.1, fun j w hj hk => ?_⟩
  by_cases e1 : j = i + 1
  · subst e1
    rw [List.getElem?_set_self'] at hj
    cases hq : (ls.set i (some v))[i + 1]? with
    | none => rw [hq] at hj; cases hj
    | some z => rw [hq] at hj; cases hj
  rw [List.getElem?_set_ne (fun z => e1 z.symm)] at hj
  by_cases e : j = i
  · subst e
    rw [List.getElem?_set_self'] at hj
    cases hq : ls[j]? with
    | none => rw [hq] at hj; cases hj
    | some z =>
      rw [hq] at hj
      cases hj
      exact hB.2.2 _ List.mem_cons_self
  · rw [List.getElem?_set_ne (fun z => e z.symm)] at hj
    have h3 : w.category = 1 ∨ j + 1 ≠ i ∧ ls[j + 1]? = some none := by
      rcases mw_lk_of hk with h | h
      · exact Or.inl h
      · right
        rw [List.getElem?_set_ne (by omega)] at h
        by_cases e2 : j + 1 = i
        · subst e2
          rw [List.getElem?_set_self'] at h
          cases hq : ls[j + 1]? with
          | none => rw [hq] at h; cases h
          | some z => rw [hq] at h; cases h
        · rw [List.getElem?_set_ne (fun z => e2 z.symm)] at h
          exact ⟨e2, h⟩
    have h4 : mw_lk ls j w = true := by
      rcases h3 with h | ⟨-, h⟩
      · exact mw_lk_1 h
      · exact mw_lk_2 h
    refine hB.2.2 (j, mw_V G w) (List.mem_cons_of_mem _ (List.mem_filter.mpr ⟨mw_al_mem hj h4, ?_⟩))
    rcases h3 with h | ⟨h, -⟩
    · have h3 : (mw_V G w).category = 1 := by rw [mw_cat]; exact h
      simp [e, e1, h3]
    · simp [e, e1, h]
theorem mw_L_drop {G : mw_G} {n : Nat} {ls : List (Option Value)} {lsA lsB : Array Slot} {i : Nat} {v' : Value} (hL : mw_L G n ls lsA) (hone : ls.all (fun o => match o with | some w => w.category == 1 | none => true) = true) (hB : lv_has lsB n ((i, v') :: (mw_al G ls).filter (fun q => !(q.1 == i) && !(q.1 + 1 == i && q.2.category == 2)))) : mw_L G n (ls.set i none) lsB := by
  refine ⟨hB.1, hB.2.1, fun j w hj hk => ?_⟩
  by_cases e : j = i
  · subst e
    rw [List.getElem?_set_self'] at hj
    cases hq : ls[j]? with
    | none => rw [hq] at hj; cases hj
    | some z => rw [hq] at hj; cases hj
  · rw [List.getElem?_set_ne (fun z => e z.symm)] at hj
    have h1 : w.category = 1 := by
      have h9 := List.all_eq_true.mp hone _ (List.mem_of_getElem? hj)
      have h9 : (w.category == 1) = true := h9
      simpa using h9
    refine hB.2.2 (j, mw_V G w) (List.mem_cons_of_mem _ (List.mem_filter.mpr ⟨mw_al_mem hj (mw_lk_1 h1), ?_⟩))
    have h3 : (mw_V G w).category = 1 := by rw [mw_cat]; exact h1
    simp [e, h3]
theorem mw_istore_0 {a0 : Option Value} {r : List (Option Value)} {x : Int32} (dg : decode y.2.1 pc = .ok (.istore_n 0, 1)) (hn : 0 < y.2.2.1) (k : mw_W y d kc ks (pc + 1) (some (.int x) :: r) (st) h Po) : mw_W y d kc ks (pc) (a0 :: r) (.int x :: st) h Po := by
  intro G p l e R s m args below meth c mc msl H locs cells slots lsA C hc hs hR hS hL
  obtain ⟨hx, hb, hr, hml, hown, hlk, htr, htab, hnm, hRf, hRl, hRc, hRs, hK⟩ := id C
  exact lv_istore_n (x := x) hx hb dg rfl (mw_al_has hL) hn rfl (fun ls9 h9 => k G p l e R s m args below meth c mc msl H locs cells slots ls9 C hc hs hR hS (mw_L_set (ls := a0 :: r) (i := 0) (v := .int x) hL rfl rfl h9))
theorem mw_astore_0 {a0 : Option Value} {r : List (Option Value)} {x : Nat} (dg : decode y.2.1 pc = .ok (.astore_n 0, 1)) (hn : 0 < y.2.2.1) (k : mw_W y d kc ks (pc + 1) (some (.ref x) :: r) (st) h Po) : mw_W y d kc ks (pc) (a0 :: r) (.ref x :: st) h Po := by
  intro G p l e R s m args below meth c mc msl H locs cells slots lsA C hc hs hR hS hL
  obtain ⟨hx, hb, hr, hml, hown, hlk, htr, htab, hnm, hRf, hRl, hRc, hRs, hK⟩ := id C
  exact lv_astore_n hx hb dg rfl (mw_al_has hL) hn rfl (fun ls9 h9 => k G p l e R s m args below meth c mc msl H locs cells slots ls9 C hc hs hR hS (mw_L_set (ls := a0 :: r) (i := 0) (v := .ref x) hL rfl rfl h9))
theorem mw_astoreN_0 {a0 : Option Value} {r : List (Option Value)} (dg : decode y.2.1 pc = .ok (.astore_n 0, 1)) (hn : 0 < y.2.2.1) (k : mw_W y d kc ks (pc + 1) (some (.null) :: r) (st) h Po) : mw_W y d kc ks (pc) (a0 :: r) (.null :: st) h Po := by
  intro G p l e R s m args below meth c mc msl H locs cells slots lsA C hc hs hR hS hL
  obtain ⟨hx, hb, hr, hml, hown, hlk, htr, htab, hnm, hRf, hRl, hRc, hRs, hK⟩ := id C
  exact lv_astore_nN hx hb dg rfl (mw_al_has hL) hn rfl (fun ls9 h9 => k G p l e R s m args below meth c mc msl H locs cells slots ls9 C hc hs hR hS (mw_L_set (ls := a0 :: r) (i := 0) (v := .null) hL rfl rfl h9))
theorem mw_iinc_0 {n : Int} {x v : Int32} {r : List (Option Value)} (dg : decode y.2.1 pc = .ok (.iinc 0 n, 3)) (hn : 0 < y.2.2.1) (hv : x + Int32.ofInt n = v) (k : mw_W y d kc ks (pc + 3) (some (.int v) :: r) (st) h Po) : mw_W y d kc ks (pc) (some (.int x) :: r) (st) h Po := by
  intro G p l e R s m args below meth c mc msl H locs cells slots lsA C hc hs hR hS hL
  obtain ⟨hx, hb, hr, hml, hown, hlk, htr, htab, hnm, hRf, hRl, hRc, hRs, hK⟩ := id C
  obtain ⟨k9, hk9⟩ := List.getElem?_of_mem (mw_al_mem (G := G) (ls := some (.int x) :: r) (i := 0) (v := .int x) rfl rfl)
  exact lv_iinc hx hb dg (mw_al_has hL) hk9 hv hn rfl (fun ls9 h9 => k G p l e R s m args below meth c mc msl H locs cells slots ls9 C hc hs hR hS (mw_L_set (ls := some (.int x) :: r) (i := 0) (v := .int v) hL rfl rfl h9))
theorem mw_istore_1 {a0 a1 : Option Value} {r : List (Option Value)} {x : Int32} (dg : decode y.2.1 pc = .ok (.istore_n 1, 1)) (hn : 1 < y.2.2.1) (k : mw_W y d kc ks (pc + 1) (a0 :: some (.int x) :: r) (st) h Po) : mw_W y d kc ks (pc) (a0 :: a1 :: r) (.int x :: st) h Po := by
  intro G p l e R s m args below meth c mc msl H locs cells slots lsA C hc hs hR hS hL
  obtain ⟨hx, hb, hr, hml, hown, hlk, htr, htab, hnm, hRf, hRl, hRc, hRs, hK⟩ := id C
  exact lv_istore_n (x := x) hx hb dg rfl (mw_al_has hL) hn rfl (fun ls9 h9 => k G p l e R s m args below meth c mc msl H locs cells slots ls9 C hc hs hR hS (mw_L_set (ls := a0 :: a1 :: r) (i := 1) (v := .int x) hL rfl rfl h9))
theorem mw_astore_1 {a0 a1 : Option Value} {r : List (Option Value)} {x : Nat} (dg : decode y.2.1 pc = .ok (.astore_n 1, 1)) (hn : 1 < y.2.2.1) (k : mw_W y d kc ks (pc + 1) (a0 :: some (.ref x) :: r) (st) h Po) : mw_W y d kc ks (pc) (a0 :: a1 :: r) (.ref x :: st) h Po := by
  intro G p l e R s m args below meth c mc msl H locs cells slots lsA C hc hs hR hS hL
  obtain ⟨hx, hb, hr, hml, hown, hlk, htr, htab, hnm, hRf, hRl, hRc, hRs, hK⟩ := id C
  exact lv_astore_n hx hb dg rfl (mw_al_has hL) hn rfl (fun ls9 h9 => k G p l e R s m args below meth c mc msl H locs cells slots ls9 C hc hs hR hS (mw_L_set (ls := a0 :: a1 :: r) (i := 1) (v := .ref x) hL rfl rfl h9))
theorem mw_astoreN_1 {a0 a1 : Option Value} {r : List (Option Value)} (dg : decode y.2.1 pc = .ok (.astore_n 1, 1)) (hn : 1 < y.2.2.1) (k : mw_W y d kc ks (pc + 1) (a0 :: some (.null) :: r) (st) h Po) : mw_W y d kc ks (pc) (a0 :: a1 :: r) (.null :: st) h Po := by
  intro G p l e R s m args below meth c mc msl H locs cells slots lsA C hc hs hR hS hL
  obtain ⟨hx, hb, hr, hml, hown, hlk, htr, htab, hnm, hRf, hRl, hRc, hRs, hK⟩ := id C
  exact lv_astore_nN hx hb dg rfl (mw_al_has hL) hn rfl (fun ls9 h9 => k G p l e R s m args below meth c mc msl H locs cells slots ls9 C hc hs hR hS (mw_L_set (ls := a0 :: a1 :: r) (i := 1) (v := .null) hL rfl rfl h9))
theorem mw_iinc_1 {n : Int} {x v : Int32} {a0 : Option Value} {r : List (Option Value)} (dg : decode y.2.1 pc = .ok (.iinc 1 n, 3)) (hn : 1 < y.2.2.1) (hv : x + Int32.ofInt n = v) (k : mw_W y d kc ks (pc + 3) (a0 :: some (.int v) :: r) (st) h Po) : mw_W y d kc ks (pc) (a0 :: some (.int x) :: r) (st) h Po := by
  intro G p l e R s m args below meth c mc msl H locs cells slots lsA C hc hs hR hS hL
  obtain ⟨hx, hb, hr, hml, hown, hlk, htr, htab, hnm, hRf, hRl, hRc, hRs, hK⟩ := id C
  obtain ⟨k9, hk9⟩ := List.getElem?_of_mem (mw_al_mem (G := G) (ls := a0 :: some (.int x) :: r) (i := 1) (v := .int x) rfl rfl)
  exact lv_iinc hx hb dg (mw_al_has hL) hk9 hv hn rfl (fun ls9 h9 => k G p l e R s m args below meth c mc msl H locs cells slots ls9 C hc hs hR hS (mw_L_set (ls := a0 :: some (.int x) :: r) (i := 1) (v := .int v) hL rfl rfl h9))
theorem mw_istore_2 {a0 a1 a2 : Option Value} {r : List (Option Value)} {x : Int32} (dg : decode y.2.1 pc = .ok (.istore_n 2, 1)) (hn : 2 < y.2.2.1) (k : mw_W y d kc ks (pc + 1) (a0 :: a1 :: some (.int x) :: r) (st) h Po) : mw_W y d kc ks (pc) (a0 :: a1 :: a2 :: r) (.int x :: st) h Po := by
  intro G p l e R s m args below meth c mc msl H locs cells slots lsA C hc hs hR hS hL
  obtain ⟨hx, hb, hr, hml, hown, hlk, htr, htab, hnm, hRf, hRl, hRc, hRs, hK⟩ := id C
  exact lv_istore_n (x := x) hx hb dg rfl (mw_al_has hL) hn rfl (fun ls9 h9 => k G p l e R s m args below meth c mc msl H locs cells slots ls9 C hc hs hR hS (mw_L_set (ls := a0 :: a1 :: a2 :: r) (i := 2) (v := .int x) hL rfl rfl h9))
theorem mw_astore_2 {a0 a1 a2 : Option Value} {r : List (Option Value)} {x : Nat} (dg : decode y.2.1 pc = .ok (.astore_n 2, 1)) (hn : 2 < y.2.2.1) (k : mw_W y d kc ks (pc + 1) (a0 :: a1 :: some (.ref x) :: r) (st) h Po) : mw_W y d kc ks (pc) (a0 :: a1 :: a2 :: r) (.ref x :: st) h Po := by
  intro G p l e R s m args below meth c mc msl H locs cells slots lsA C hc hs hR hS hL
  obtain ⟨hx, hb, hr, hml, hown, hlk, htr, htab, hnm, hRf, hRl, hRc, hRs, hK⟩ := id C
  exact lv_astore_n hx hb dg rfl (mw_al_has hL) hn rfl (fun ls9 h9 => k G p l e R s m args below meth c mc msl H locs cells slots ls9 C hc hs hR hS (mw_L_set (ls := a0 :: a1 :: a2 :: r) (i := 2) (v := .ref x) hL rfl rfl h9))
theorem mw_astoreN_2 {a0 a1 a2 : Option Value} {r : List (Option Value)} (dg : decode y.2.1 pc = .ok (.astore_n 2, 1)) (hn : 2 < y.2.2.1) (k : mw_W y d kc ks (pc + 1) (a0 :: a1 :: some (.null) :: r) (st) h Po) : mw_W y d kc ks (pc) (a0 :: a1 :: a2 :: r) (.null :: st) h Po := by
  intro G p l e R s m args below meth c mc msl H locs cells slots lsA C hc hs hR hS hL
  obtain ⟨hx, hb, hr, hml, hown, hlk, htr, htab, hnm, hRf, hRl, hRc, hRs, hK⟩ := id C
  exact lv_astore_nN hx hb dg rfl (mw_al_has hL) hn rfl (fun ls9 h9 => k G p l e R s m args below meth c mc msl H locs cells slots ls9 C hc hs hR hS (mw_L_set (ls := a0 :: a1 :: a2 :: r) (i := 2) (v := .null) hL rfl rfl h9))
theorem mw_iinc_2 {n : Int} {x v : Int32} {a0 a1 : Option Value} {r : List (Option Value)} (dg : decode y.2.1 pc = .ok (.iinc 2 n, 3)) (hn : 2 < y.2.2.1) (hv : x + Int32.ofInt n = v) (k : mw_W y d kc ks (pc + 3) (a0 :: a1 :: some (.int v) :: r) (st) h Po) : mw_W y d kc ks (pc) (a0 :: a1 :: some (.int x) :: r) (st) h Po := by
  intro G p l e R s m args below meth c mc msl H locs cells slots lsA C hc hs hR hS hL
  obtain ⟨hx, hb, hr, hml, hown, hlk, htr, htab, hnm, hRf, hRl, hRc, hRs, hK⟩ := id C
  obtain ⟨k9, hk9⟩ := List.getElem?_of_mem (mw_al_mem (G := G) (ls := a0 :: a1 :: some (.int x) :: r) (i := 2) (v := .int x) rfl rfl)
  exact lv_iinc hx hb dg (mw_al_has hL) hk9 hv hn rfl (fun ls9 h9 => k G p l e R s m args below meth c mc msl H locs cells slots ls9 C hc hs hR hS (mw_L_set (ls := a0 :: a1 :: some (.int x) :: r) (i := 2) (v := .int v) hL rfl rfl h9))
theorem mw_istore_3 {a0 a1 a2 a3 : Option Value} {r : List (Option Value)} {x : Int32} (dg : decode y.2.1 pc = .ok (.istore_n 3, 1)) (hn : 3 < y.2.2.1) (k : mw_W y d kc ks (pc + 1) (a0 :: a1 :: a2 :: some (.int x) :: r) (st) h Po) : mw_W y d kc ks (pc) (a0 :: a1 :: a2 :: a3 :: r) (.int x :: st) h Po := by
  intro G p l e R s m args below meth c mc msl H locs cells slots lsA C hc hs hR hS hL
  obtain ⟨hx, hb, hr, hml, hown, hlk, htr, htab, hnm, hRf, hRl, hRc, hRs, hK⟩ := id C
  exact lv_istore_n (x := x) hx hb dg rfl (mw_al_has hL) hn rfl (fun ls9 h9 => k G p l e R s m args below meth c mc msl H locs cells slots ls9 C hc hs hR hS (mw_L_set (ls := a0 :: a1 :: a2 :: a3 :: r) (i := 3) (v := .int x) hL rfl rfl h9))
theorem mw_astore_3 {a0 a1 a2 a3 : Option Value} {r : List (Option Value)} {x : Nat} (dg : decode y.2.1 pc = .ok (.astore_n 3, 1)) (hn : 3 < y.2.2.1) (k : mw_W y d kc ks (pc + 1) (a0 :: a1 :: a2 :: some (.ref x) :: r) (st) h Po) : mw_W y d kc ks (pc) (a0 :: a1 :: a2 :: a3 :: r) (.ref x :: st) h Po := by
  intro G p l e R s m args below meth c mc msl H locs cells slots lsA C hc hs hR hS hL
  obtain ⟨hx, hb, hr, hml, hown, hlk, htr, htab, hnm, hRf, hRl, hRc, hRs, hK⟩ := id C
  exact lv_astore_n hx hb dg rfl (mw_al_has hL) hn rfl (fun ls9 h9 => k G p l e R s m args below meth c mc msl H locs cells slots ls9 C hc hs hR hS (mw_L_set (ls := a0 :: a1 :: a2 :: a3 :: r) (i := 3) (v := .ref x) hL rfl rfl h9))
theorem mw_astoreN_3 {a0 a1 a2 a3 : Option Value} {r : List (Option Value)} (dg : decode y.2.1 pc = .ok (.astore_n 3, 1)) (hn : 3 < y.2.2.1) (k : mw_W y d kc ks (pc + 1) (a0 :: a1 :: a2 :: some (.null) :: r) (st) h Po) : mw_W y d kc ks (pc) (a0 :: a1 :: a2 :: a3 :: r) (.null :: st) h Po := by
  intro G p l e R s m args below meth c mc msl H locs cells slots lsA C hc hs hR hS hL
  obtain ⟨hx, hb, hr, hml, hown, hlk, htr, htab, hnm, hRf, hRl, hRc, hRs, hK⟩ := id C
  exact lv_astore_nN hx hb dg rfl (mw_al_has hL) hn rfl (fun ls9 h9 => k G p l e R s m args below meth c mc msl H locs cells slots ls9 C hc hs hR hS (mw_L_set (ls := a0 :: a1 :: a2 :: a3 :: r) (i := 3) (v := .null) hL rfl rfl h9))
theorem mw_iinc_3 {n : Int} {x v : Int32} {a0 a1 a2 : Option Value} {r : List (Option Value)} (dg : decode y.2.1 pc = .ok (.iinc 3 n, 3)) (hn : 3 < y.2.2.1) (hv : x + Int32.ofInt n = v) (k : mw_W y d kc ks (pc + 3) (a0 :: a1 :: a2 :: some (.int v) :: r) (st) h Po) : mw_W y d kc ks (pc) (a0 :: a1 :: a2 :: some (.int x) :: r) (st) h Po := by
  intro G p l e R s m args below meth c mc msl H locs cells slots lsA C hc hs hR hS hL
  obtain ⟨hx, hb, hr, hml, hown, hlk, htr, htab, hnm, hRf, hRl, hRc, hRs, hK⟩ := id C
  obtain ⟨k9, hk9⟩ := List.getElem?_of_mem (mw_al_mem (G := G) (ls := a0 :: a1 :: a2 :: some (.int x) :: r) (i := 3) (v := .int x) rfl rfl)
  exact lv_iinc hx hb dg (mw_al_has hL) hk9 hv hn rfl (fun ls9 h9 => k G p l e R s m args below meth c mc msl H locs cells slots ls9 C hc hs hR hS (mw_L_set (ls := a0 :: a1 :: a2 :: some (.int x) :: r) (i := 3) (v := .int v) hL rfl rfl h9))
theorem mw_istore_4 {a0 a1 a2 a3 a4 : Option Value} {r : List (Option Value)} {x : Int32} (dg : decode y.2.1 pc = .ok (.istore 4, 2)) (hn : 4 < y.2.2.1) (k : mw_W y d kc ks (pc + 2) (a0 :: a1 :: a2 :: a3 :: some (.int x) :: r) (st) h Po) : mw_W y d kc ks (pc) (a0 :: a1 :: a2 :: a3 :: a4 :: r) (.int x :: st) h Po := by
  intro G p l e R s m args below meth c mc msl H locs cells slots lsA C hc hs hR hS hL
  obtain ⟨hx, hb, hr, hml, hown, hlk, htr, htab, hnm, hRf, hRl, hRc, hRs, hK⟩ := id C
  exact lv_istore (x := x) hx hb dg (mw_al_has hL) hn rfl (fun ls9 h9 => k G p l e R s m args below meth c mc msl H locs cells slots ls9 C hc hs hR hS (mw_L_set (ls := a0 :: a1 :: a2 :: a3 :: a4 :: r) (i := 4) (v := .int x) hL rfl rfl h9))
theorem mw_astore_4 {a0 a1 a2 a3 a4 : Option Value} {r : List (Option Value)} {x : Nat} (dg : decode y.2.1 pc = .ok (.astore 4, 2)) (hn : 4 < y.2.2.1) (k : mw_W y d kc ks (pc + 2) (a0 :: a1 :: a2 :: a3 :: some (.ref x) :: r) (st) h Po) : mw_W y d kc ks (pc) (a0 :: a1 :: a2 :: a3 :: a4 :: r) (.ref x :: st) h Po := by
  intro G p l e R s m args below meth c mc msl H locs cells slots lsA C hc hs hR hS hL
  obtain ⟨hx, hb, hr, hml, hown, hlk, htr, htab, hnm, hRf, hRl, hRc, hRs, hK⟩ := id C
  exact lv_astore hx hb dg (mw_al_has hL) hn rfl (fun ls9 h9 => k G p l e R s m args below meth c mc msl H locs cells slots ls9 C hc hs hR hS (mw_L_set (ls := a0 :: a1 :: a2 :: a3 :: a4 :: r) (i := 4) (v := .ref x) hL rfl rfl h9))
theorem mw_astoreN_4 {a0 a1 a2 a3 a4 : Option Value} {r : List (Option Value)} (dg : decode y.2.1 pc = .ok (.astore 4, 2)) (hn : 4 < y.2.2.1) (k : mw_W y d kc ks (pc + 2) (a0 :: a1 :: a2 :: a3 :: some (.null) :: r) (st) h Po) : mw_W y d kc ks (pc) (a0 :: a1 :: a2 :: a3 :: a4 :: r) (.null :: st) h Po := by
  intro G p l e R s m args below meth c mc msl H locs cells slots lsA C hc hs hR hS hL
  obtain ⟨hx, hb, hr, hml, hown, hlk, htr, htab, hnm, hRf, hRl, hRc, hRs, hK⟩ := id C
  exact lv_astoreN hx hb dg (mw_al_has hL) hn rfl (fun ls9 h9 => k G p l e R s m args below meth c mc msl H locs cells slots ls9 C hc hs hR hS (mw_L_set (ls := a0 :: a1 :: a2 :: a3 :: a4 :: r) (i := 4) (v := .null) hL rfl rfl h9))
theorem mw_iinc_4 {n : Int} {x v : Int32} {a0 a1 a2 a3 : Option Value} {r : List (Option Value)} (dg : decode y.2.1 pc = .ok (.iinc 4 n, 3)) (hn : 4 < y.2.2.1) (hv : x + Int32.ofInt n = v) (k : mw_W y d kc ks (pc + 3) (a0 :: a1 :: a2 :: a3 :: some (.int v) :: r) (st) h Po) : mw_W y d kc ks (pc) (a0 :: a1 :: a2 :: a3 :: some (.int x) :: r) (st) h Po := by
  intro G p l e R s m args below meth c mc msl H locs cells slots lsA C hc hs hR hS hL
  obtain ⟨hx, hb, hr, hml, hown, hlk, htr, htab, hnm, hRf, hRl, hRc, hRs, hK⟩ := id C
  obtain ⟨k9, hk9⟩ := List.getElem?_of_mem (mw_al_mem (G := G) (ls := a0 :: a1 :: a2 :: a3 :: some (.int x) :: r) (i := 4) (v := .int x) rfl rfl)
  exact lv_iinc hx hb dg (mw_al_has hL) hk9 hv hn rfl (fun ls9 h9 => k G p l e R s m args below meth c mc msl H locs cells slots ls9 C hc hs hR hS (mw_L_set (ls := a0 :: a1 :: a2 :: a3 :: some (.int x) :: r) (i := 4) (v := .int v) hL rfl rfl h9))
theorem mw_istore_5 {a0 a1 a2 a3 a4 a5 : Option Value} {r : List (Option Value)} {x : Int32} (dg : decode y.2.1 pc = .ok (.istore 5, 2)) (hn : 5 < y.2.2.1) (k : mw_W y d kc ks (pc + 2) (a0 :: a1 :: a2 :: a3 :: a4 :: some (.int x) :: r) (st) h Po) : mw_W y d kc ks (pc) (a0 :: a1 :: a2 :: a3 :: a4 :: a5 :: r) (.int x :: st) h Po := by
  intro G p l e R s m args below meth c mc msl H locs cells slots lsA C hc hs hR hS hL
  obtain ⟨hx, hb, hr, hml, hown, hlk, htr, htab, hnm, hRf, hRl, hRc, hRs, hK⟩ := id C
  exact lv_istore (x := x) hx hb dg (mw_al_has hL) hn rfl (fun ls9 h9 => k G p l e R s m args below meth c mc msl H locs cells slots ls9 C hc hs hR hS (mw_L_set (ls := a0 :: a1 :: a2 :: a3 :: a4 :: a5 :: r) (i := 5) (v := .int x) hL rfl rfl h9))
theorem mw_astore_5 {a0 a1 a2 a3 a4 a5 : Option Value} {r : List (Option Value)} {x : Nat} (dg : decode y.2.1 pc = .ok (.astore 5, 2)) (hn : 5 < y.2.2.1) (k : mw_W y d kc ks (pc + 2) (a0 :: a1 :: a2 :: a3 :: a4 :: some (.ref x) :: r) (st) h Po) : mw_W y d kc ks (pc) (a0 :: a1 :: a2 :: a3 :: a4 :: a5 :: r) (.ref x :: st) h Po := by
  intro G p l e R s m args below meth c mc msl H locs cells slots lsA C hc hs hR hS hL
  obtain ⟨hx, hb, hr, hml, hown, hlk, htr, htab, hnm, hRf, hRl, hRc, hRs, hK⟩ := id C
  exact lv_astore hx hb dg (mw_al_has hL) hn rfl (fun ls9 h9 => k G p l e R s m args below meth c mc msl H locs cells slots ls9 C hc hs hR hS (mw_L_set (ls := a0 :: a1 :: a2 :: a3 :: a4 :: a5 :: r) (i := 5) (v := .ref x) hL rfl rfl h9))
theorem mw_astoreN_5 {a0 a1 a2 a3 a4 a5 : Option Value} {r : List (Option Value)} (dg : decode y.2.1 pc = .ok (.astore 5, 2)) (hn : 5 < y.2.2.1) (k : mw_W y d kc ks (pc + 2) (a0 :: a1 :: a2 :: a3 :: a4 :: some (.null) :: r) (st) h Po) : mw_W y d kc ks (pc) (a0 :: a1 :: a2 :: a3 :: a4 :: a5 :: r) (.null :: st) h Po := by
  intro G p l e R s m args below meth c mc msl H locs cells slots lsA C hc hs hR hS hL
  obtain ⟨hx, hb, hr, hml, hown, hlk, htr, htab, hnm, hRf, hRl, hRc, hRs, hK⟩ := id C
  exact lv_astoreN hx hb dg (mw_al_has hL) hn rfl (fun ls9 h9 => k G p l e R s m args below meth c mc msl H locs cells slots ls9 C hc hs hR hS (mw_L_set (ls := a0 :: a1 :: a2 :: a3 :: a4 :: a5 :: r) (i := 5) (v := .null) hL rfl rfl h9))
theorem mw_iinc_5 {n : Int} {x v : Int32} {a0 a1 a2 a3 a4 : Option Value} {r : List (Option Value)} (dg : decode y.2.1 pc = .ok (.iinc 5 n, 3)) (hn : 5 < y.2.2.1) (hv : x + Int32.ofInt n = v) (k : mw_W y d kc ks (pc + 3) (a0 :: a1 :: a2 :: a3 :: a4 :: some (.int v) :: r) (st) h Po) : mw_W y d kc ks (pc) (a0 :: a1 :: a2 :: a3 :: a4 :: some (.int x) :: r) (st) h Po := by
  intro G p l e R s m args below meth c mc msl H locs cells slots lsA C hc hs hR hS hL
  obtain ⟨hx, hb, hr, hml, hown, hlk, htr, htab, hnm, hRf, hRl, hRc, hRs, hK⟩ := id C
  obtain ⟨k9, hk9⟩ := List.getElem?_of_mem (mw_al_mem (G := G) (ls := a0 :: a1 :: a2 :: a3 :: a4 :: some (.int x) :: r) (i := 5) (v := .int x) rfl rfl)
  exact lv_iinc hx hb dg (mw_al_has hL) hk9 hv hn rfl (fun ls9 h9 => k G p l e R s m args below meth c mc msl H locs cells slots ls9 C hc hs hR hS (mw_L_set (ls := a0 :: a1 :: a2 :: a3 :: a4 :: some (.int x) :: r) (i := 5) (v := .int v) hL rfl rfl h9))
theorem mw_istore_6 {a0 a1 a2 a3 a4 a5 a6 : Option Value} {r : List (Option Value)} {x : Int32} (dg : decode y.2.1 pc = .ok (.istore 6, 2)) (hn : 6 < y.2.2.1) (k : mw_W y d kc ks (pc + 2) (a0 :: a1 :: a2 :: a3 :: a4 :: a5 :: some (.int x) :: r) (st) h Po) : mw_W y d kc ks (pc) (a0 :: a1 :: a2 :: a3 :: a4 :: a5 :: a6 :: r) (.int x :: st) h Po := by
  intro G p l e R s m args below meth c mc msl H locs cells slots lsA C hc hs hR hS hL
  obtain ⟨hx, hb, hr, hml, hown, hlk, htr, htab, hnm, hRf, hRl, hRc, hRs, hK⟩ := id C
  exact lv_istore (x := x) hx hb dg (mw_al_has hL) hn rfl (fun ls9 h9 => k G p l e R s m args below meth c mc msl H locs cells slots ls9 C hc hs hR hS (mw_L_set (ls := a0 :: a1 :: a2 :: a3 :: a4 :: a5 :: a6 :: r) (i := 6) (v := .int x) hL rfl rfl h9))
theorem mw_astore_6 {a0 a1 a2 a3 a4 a5 a6 : Option Value} {r : List (Option Value)} {x : Nat} (dg : decode y.2.1 pc = .ok (.astore 6, 2)) (hn : 6 < y.2.2.1) (k : mw_W y d kc ks (pc + 2) (a0 :: a1 :: a2 :: a3 :: a4 :: a5 :: some (.ref x) :: r) (st) h Po) : mw_W y d kc ks (pc) (a0 :: a1 :: a2 :: a3 :: a4 :: a5 :: a6 :: r) (.ref x :: st) h Po := by
  intro G p l e R s m args below meth c mc msl H locs cells slots lsA C hc hs hR hS hL
  obtain ⟨hx, hb, hr, hml, hown, hlk, htr, htab, hnm, hRf, hRl, hRc, hRs, hK⟩ := id C
  exact lv_astore hx hb dg (mw_al_has hL) hn rfl (fun ls9 h9 => k G p l e R s m args below meth c mc msl H locs cells slots ls9 C hc hs hR hS (mw_L_set (ls := a0 :: a1 :: a2 :: a3 :: a4 :: a5 :: a6 :: r) (i := 6) (v := .ref x) hL rfl rfl h9))
theorem mw_astoreN_6 {a0 a1 a2 a3 a4 a5 a6 : Option Value} {r : List (Option Value)} (dg : decode y.2.1 pc = .ok (.astore 6, 2)) (hn : 6 < y.2.2.1) (k : mw_W y d kc ks (pc + 2) (a0 :: a1 :: a2 :: a3 :: a4 :: a5 :: some (.null) :: r) (st) h Po) : mw_W y d kc ks (pc) (a0 :: a1 :: a2 :: a3 :: a4 :: a5 :: a6 :: r) (.null :: st) h Po := by
  intro G p l e R s m args below meth c mc msl H locs cells slots lsA C hc hs hR hS hL
  obtain ⟨hx, hb, hr, hml, hown, hlk, htr, htab, hnm, hRf, hRl, hRc, hRs, hK⟩ := id C
  exact lv_astoreN hx hb dg (mw_al_has hL) hn rfl (fun ls9 h9 => k G p l e R s m args below meth c mc msl H locs cells slots ls9 C hc hs hR hS (mw_L_set (ls := a0 :: a1 :: a2 :: a3 :: a4 :: a5 :: a6 :: r) (i := 6) (v := .null) hL rfl rfl h9))
theorem mw_iinc_6 {n : Int} {x v : Int32} {a0 a1 a2 a3 a4 a5 : Option Value} {r : List (Option Value)} (dg : decode y.2.1 pc = .ok (.iinc 6 n, 3)) (hn : 6 < y.2.2.1) (hv : x + Int32.ofInt n = v) (k : mw_W y d kc ks (pc + 3) (a0 :: a1 :: a2 :: a3 :: a4 :: a5 :: some (.int v) :: r) (st) h Po) : mw_W y d kc ks (pc) (a0 :: a1 :: a2 :: a3 :: a4 :: a5 :: some (.int x) :: r) (st) h Po := by
  intro G p l e R s m args below meth c mc msl H locs cells slots lsA C hc hs hR hS hL
  obtain ⟨hx, hb, hr, hml, hown, hlk, htr, htab, hnm, hRf, hRl, hRc, hRs, hK⟩ := id C
  obtain ⟨k9, hk9⟩ := List.getElem?_of_mem (mw_al_mem (G := G) (ls := a0 :: a1 :: a2 :: a3 :: a4 :: a5 :: some (.int x) :: r) (i := 6) (v := .int x) rfl rfl)
  exact lv_iinc hx hb dg (mw_al_has hL) hk9 hv hn rfl (fun ls9 h9 => k G p l e R s m args below meth c mc msl H locs cells slots ls9 C hc hs hR hS (mw_L_set (ls := a0 :: a1 :: a2 :: a3 :: a4 :: a5 :: some (.int x) :: r) (i := 6) (v := .int v) hL rfl rfl h9))
theorem mw_istore_7 {a0 a1 a2 a3 a4 a5 a6 a7 : Option Value} {r : List (Option Value)} {x : Int32} (dg : decode y.2.1 pc = .ok (.istore 7, 2)) (hn : 7 < y.2.2.1) (k : mw_W y d kc ks (pc + 2) (a0 :: a1 :: a2 :: a3 :: a4 :: a5 :: a6 :: some (.int x) :: r) (st) h Po) : mw_W y d kc ks (pc) (a0 :: a1 :: a2 :: a3 :: a4 :: a5 :: a6 :: a7 :: r) (.int x :: st) h Po := by
  intro G p l e R s m args below meth c mc msl H locs cells slots lsA C hc hs hR hS hL
  obtain ⟨hx, hb, hr, hml, hown, hlk, htr, htab, hnm, hRf, hRl, hRc, hRs, hK⟩ := id C
  exact lv_istore (x := x) hx hb dg (mw_al_has hL) hn rfl (fun ls9 h9 => k G p l e R s m args below meth c mc msl H locs cells slots ls9 C hc hs hR hS (mw_L_set (ls := a0 :: a1 :: a2 :: a3 :: a4 :: a5 :: a6 :: a7 :: r) (i := 7) (v := .int x) hL rfl rfl h9))
theorem mw_astore_7 {a0 a1 a2 a3 a4 a5 a6 a7 : Option Value} {r : List (Option Value)} {x : Nat} (dg : decode y.2.1 pc = .ok (.astore 7, 2)) (hn : 7 < y.2.2.1) (k : mw_W y d kc ks (pc + 2) (a0 :: a1 :: a2 :: a3 :: a4 :: a5 :: a6 :: some (.ref x) :: r) (st) h Po) : mw_W y d kc ks (pc) (a0 :: a1 :: a2 :: a3 :: a4 :: a5 :: a6 :: a7 :: r) (.ref x :: st) h Po := by
  intro G p l e R s m args below meth c mc msl H locs cells slots lsA C hc hs hR hS hL
  obtain ⟨hx, hb, hr, hml, hown, hlk, htr, htab, hnm, hRf, hRl, hRc, hRs, hK⟩ := id C
  exact lv_astore hx hb dg (mw_al_has hL) hn rfl (fun ls9 h9 => k G p l e R s m args below meth c mc msl H locs cells slots ls9 C hc hs hR hS (mw_L_set (ls := a0 :: a1 :: a2 :: a3 :: a4 :: a5 :: a6 :: a7 :: r) (i := 7) (v := .ref x) hL rfl rfl h9))
theorem mw_astoreN_7 {a0 a1 a2 a3 a4 a5 a6 a7 : Option Value} {r : List (Option Value)} (dg : decode y.2.1 pc = .ok (.astore 7, 2)) (hn : 7 < y.2.2.1) (k : mw_W y d kc ks (pc + 2) (a0 :: a1 :: a2 :: a3 :: a4 :: a5 :: a6 :: some (.null) :: r) (st) h Po) : mw_W y d kc ks (pc) (a0 :: a1 :: a2 :: a3 :: a4 :: a5 :: a6 :: a7 :: r) (.null :: st) h Po := by
  intro G p l e R s m args below meth c mc msl H locs cells slots lsA C hc hs hR hS hL
  obtain ⟨hx, hb, hr, hml, hown, hlk, htr, htab, hnm, hRf, hRl, hRc, hRs, hK⟩ := id C
  exact lv_astoreN hx hb dg (mw_al_has hL) hn rfl (fun ls9 h9 => k G p l e R s m args below meth c mc msl H locs cells slots ls9 C hc hs hR hS (mw_L_set (ls := a0 :: a1 :: a2 :: a3 :: a4 :: a5 :: a6 :: a7 :: r) (i := 7) (v := .null) hL rfl rfl h9))
theorem mw_lstore_7 {a0 a1 a2 a3 a4 a5 a6 a7 a8 : Option Value} {r : List (Option Value)} {x : Int64} (dg : decode y.2.1 pc = .ok (.lstore 7, 2)) (hn : 7 + 1 < y.2.2.1) (k : mw_W y d kc ks (pc + 2) (a0 :: a1 :: a2 :: a3 :: a4 :: a5 :: a6 :: some (.long x) :: none :: r) (st) h Po) : mw_W y d kc ks (pc) (a0 :: a1 :: a2 :: a3 :: a4 :: a5 :: a6 :: a7 :: a8 :: r) (.long x :: st) h Po := by
  intro G p l e R s m args below meth c mc msl H locs cells slots lsA C hc hs hR hS hL
  obtain ⟨hx, hb, hr, hml, hown, hlk, htr, htab, hnm, hRf, hRl, hRc, hRs, hK⟩ := id C
  exact lv_lstore (x := x) hx hb dg (mw_al_has hL) hn rfl (fun ls9 h9 => k G p l e R s m args below meth c mc msl H locs cells slots ls9 C hc hs hR hS (mw_L_set2 (ls := a0 :: a1 :: a2 :: a3 :: a4 :: a5 :: a6 :: a7 :: a8 :: r) (i := 7) (v := .long x) hL rfl h9))
theorem mw_iinc_7 {n : Int} {x v : Int32} {a0 a1 a2 a3 a4 a5 a6 : Option Value} {r : List (Option Value)} (dg : decode y.2.1 pc = .ok (.iinc 7 n, 3)) (hn : 7 < y.2.2.1) (hv : x + Int32.ofInt n = v) (k : mw_W y d kc ks (pc + 3) (a0 :: a1 :: a2 :: a3 :: a4 :: a5 :: a6 :: some (.int v) :: r) (st) h Po) : mw_W y d kc ks (pc) (a0 :: a1 :: a2 :: a3 :: a4 :: a5 :: a6 :: some (.int x) :: r) (st) h Po := by
  intro G p l e R s m args below meth c mc msl H locs cells slots lsA C hc hs hR hS hL
  obtain ⟨hx, hb, hr, hml, hown, hlk, htr, htab, hnm, hRf, hRl, hRc, hRs, hK⟩ := id C
  obtain ⟨k9, hk9⟩ := List.getElem?_of_mem (mw_al_mem (G := G) (ls := a0 :: a1 :: a2 :: a3 :: a4 :: a5 :: a6 :: some (.int x) :: r) (i := 7) (v := .int x) rfl rfl)
  exact lv_iinc hx hb dg (mw_al_has hL) hk9 hv hn rfl (fun ls9 h9 => k G p l e R s m args below meth c mc msl H locs cells slots ls9 C hc hs hR hS (mw_L_set (ls := a0 :: a1 :: a2 :: a3 :: a4 :: a5 :: a6 :: some (.int x) :: r) (i := 7) (v := .int v) hL rfl rfl h9))
theorem mw_istore_8 {a0 a1 a2 a3 a4 a5 a6 a7 a8 : Option Value} {r : List (Option Value)} {x : Int32} (dg : decode y.2.1 pc = .ok (.istore 8, 2)) (hn : 8 < y.2.2.1) (k : mw_W y d kc ks (pc + 2) (a0 :: a1 :: a2 :: a3 :: a4 :: a5 :: a6 :: a7 :: some (.int x) :: r) (st) h Po) : mw_W y d kc ks (pc) (a0 :: a1 :: a2 :: a3 :: a4 :: a5 :: a6 :: a7 :: a8 :: r) (.int x :: st) h Po := by
  intro G p l e R s m args below meth c mc msl H locs cells slots lsA C hc hs hR hS hL
  obtain ⟨hx, hb, hr, hml, hown, hlk, htr, htab, hnm, hRf, hRl, hRc, hRs, hK⟩ := id C
  exact lv_istore (x := x) hx hb dg (mw_al_has hL) hn rfl (fun ls9 h9 => k G p l e R s m args below meth c mc msl H locs cells slots ls9 C hc hs hR hS (mw_L_set (ls := a0 :: a1 :: a2 :: a3 :: a4 :: a5 :: a6 :: a7 :: a8 :: r) (i := 8) (v := .int x) hL rfl rfl h9))
theorem mw_astore_8 {a0 a1 a2 a3 a4 a5 a6 a7 a8 : Option Value} {r : List (Option Value)} {x : Nat} (dg : decode y.2.1 pc = .ok (.astore 8, 2)) (hn : 8 < y.2.2.1) (k : mw_W y d kc ks (pc + 2) (a0 :: a1 :: a2 :: a3 :: a4 :: a5 :: a6 :: a7 :: some (.ref x) :: r) (st) h Po) : mw_W y d kc ks (pc) (a0 :: a1 :: a2 :: a3 :: a4 :: a5 :: a6 :: a7 :: a8 :: r) (.ref x :: st) h Po := by
  intro G p l e R s m args below meth c mc msl H locs cells slots lsA C hc hs hR hS hL
  obtain ⟨hx, hb, hr, hml, hown, hlk, htr, htab, hnm, hRf, hRl, hRc, hRs, hK⟩ := id C
  exact lv_astore hx hb dg (mw_al_has hL) hn rfl (fun ls9 h9 => k G p l e R s m args below meth c mc msl H locs cells slots ls9 C hc hs hR hS (mw_L_set (ls := a0 :: a1 :: a2 :: a3 :: a4 :: a5 :: a6 :: a7 :: a8 :: r) (i := 8) (v := .ref x) hL rfl rfl h9))
theorem mw_astoreN_8 {a0 a1 a2 a3 a4 a5 a6 a7 a8 : Option Value} {r : List (Option Value)} (dg : decode y.2.1 pc = .ok (.astore 8, 2)) (hn : 8 < y.2.2.1) (k : mw_W y d kc ks (pc + 2) (a0 :: a1 :: a2 :: a3 :: a4 :: a5 :: a6 :: a7 :: some (.null) :: r) (st) h Po) : mw_W y d kc ks (pc) (a0 :: a1 :: a2 :: a3 :: a4 :: a5 :: a6 :: a7 :: a8 :: r) (.null :: st) h Po := by
  intro G p l e R s m args below meth c mc msl H locs cells slots lsA C hc hs hR hS hL
  obtain ⟨hx, hb, hr, hml, hown, hlk, htr, htab, hnm, hRf, hRl, hRc, hRs, hK⟩ := id C
  exact lv_astoreN hx hb dg (mw_al_has hL) hn rfl (fun ls9 h9 => k G p l e R s m args below meth c mc msl H locs cells slots ls9 C hc hs hR hS (mw_L_set (ls := a0 :: a1 :: a2 :: a3 :: a4 :: a5 :: a6 :: a7 :: a8 :: r) (i := 8) (v := .null) hL rfl rfl h9))
theorem mw_iinc_8 {n : Int} {x v : Int32} {a0 a1 a2 a3 a4 a5 a6 a7 : Option Value} {r : List (Option Value)} (dg : decode y.2.1 pc = .ok (.iinc 8 n, 3)) (hn : 8 < y.2.2.1) (hv : x + Int32.ofInt n = v) (k : mw_W y d kc ks (pc + 3) (a0 :: a1 :: a2 :: a3 :: a4 :: a5 :: a6 :: a7 :: some (.int v) :: r) (st) h Po) : mw_W y d kc ks (pc) (a0 :: a1 :: a2 :: a3 :: a4 :: a5 :: a6 :: a7 :: some (.int x) :: r) (st) h Po := by
  intro G p l e R s m args below meth c mc msl H locs cells slots lsA C hc hs hR hS hL
  obtain ⟨hx, hb, hr, hml, hown, hlk, htr, htab, hnm, hRf, hRl, hRc, hRs, hK⟩ := id C
  obtain ⟨k9, hk9⟩ := List.getElem?_of_mem (mw_al_mem (G := G) (ls := a0 :: a1 :: a2 :: a3 :: a4 :: a5 :: a6 :: a7 :: some (.int x) :: r) (i := 8) (v := .int x) rfl rfl)
  exact lv_iinc hx hb dg (mw_al_has hL) hk9 hv hn rfl (fun ls9 h9 => k G p l e R s m args below meth c mc msl H locs cells slots ls9 C hc hs hR hS (mw_L_set (ls := a0 :: a1 :: a2 :: a3 :: a4 :: a5 :: a6 :: a7 :: some (.int x) :: r) (i := 8) (v := .int v) hL rfl rfl h9))
theorem mw_istore_9 {a0 a1 a2 a3 a4 a5 a6 a7 a8 a9 : Option Value} {r : List (Option Value)} {x : Int32} (dg : decode y.2.1 pc = .ok (.istore 9, 2)) (hn : 9 < y.2.2.1) (k : mw_W y d kc ks (pc + 2) (a0 :: a1 :: a2 :: a3 :: a4 :: a5 :: a6 :: a7 :: a8 :: some (.int x) :: r) (st) h Po) : mw_W y d kc ks (pc) (a0 :: a1 :: a2 :: a3 :: a4 :: a5 :: a6 :: a7 :: a8 :: a9 :: r) (.int x :: st) h Po := by
  intro G p l e R s m args below meth c mc msl H locs cells slots lsA C hc hs hR hS hL
  obtain ⟨hx, hb, hr, hml, hown, hlk, htr, htab, hnm, hRf, hRl, hRc, hRs, hK⟩ := id C
  exact lv_istore (x := x) hx hb dg (mw_al_has hL) hn rfl (fun ls9 h9 => k G p l e R s m args below meth c mc msl H locs cells slots ls9 C hc hs hR hS (mw_L_set (ls := a0 :: a1 :: a2 :: a3 :: a4 :: a5 :: a6 :: a7 :: a8 :: a9 :: r) (i := 9) (v := .int x) hL rfl rfl h9))
theorem mw_astore_9 {a0 a1 a2 a3 a4 a5 a6 a7 a8 a9 : Option Value} {r : List (Option Value)} {x : Nat} (dg : decode y.2.1 pc = .ok (.astore 9, 2)) (hn : 9 < y.2.2.1) (k : mw_W y d kc ks (pc + 2) (a0 :: a1 :: a2 :: a3 :: a4 :: a5 :: a6 :: a7 :: a8 :: some (.ref x) :: r) (st) h Po) : mw_W y d kc ks (pc) (a0 :: a1 :: a2 :: a3 :: a4 :: a5 :: a6 :: a7 :: a8 :: a9 :: r) (.ref x :: st) h Po := by
  intro G p l e R s m args below meth c mc msl H locs cells slots lsA C hc hs hR hS hL
  obtain ⟨hx, hb, hr, hml, hown, hlk, htr, htab, hnm, hRf, hRl, hRc, hRs, hK⟩ := id C
  exact lv_astore hx hb dg (mw_al_has hL) hn rfl (fun ls9 h9 => k G p l e R s m args below meth c mc msl H locs cells slots ls9 C hc hs hR hS (mw_L_set (ls := a0 :: a1 :: a2 :: a3 :: a4 :: a5 :: a6 :: a7 :: a8 :: a9 :: r) (i := 9) (v := .ref x) hL rfl rfl h9))
theorem mw_astoreN_9 {a0 a1 a2 a3 a4 a5 a6 a7 a8 a9 : Option Value} {r : List (Option Value)} (dg : decode y.2.1 pc = .ok (.astore 9, 2)) (hn : 9 < y.2.2.1) (k : mw_W y d kc ks (pc + 2) (a0 :: a1 :: a2 :: a3 :: a4 :: a5 :: a6 :: a7 :: a8 :: some (.null) :: r) (st) h Po) : mw_W y d kc ks (pc) (a0 :: a1 :: a2 :: a3 :: a4 :: a5 :: a6 :: a7 :: a8 :: a9 :: r) (.null :: st) h Po := by
  intro G p l e R s m args below meth c mc msl H locs cells slots lsA C hc hs hR hS hL
  obtain ⟨hx, hb, hr, hml, hown, hlk, htr, htab, hnm, hRf, hRl, hRc, hRs, hK⟩ := id C
  exact lv_astoreN hx hb dg (mw_al_has hL) hn rfl (fun ls9 h9 => k G p l e R s m args below meth c mc msl H locs cells slots ls9 C hc hs hR hS (mw_L_set (ls := a0 :: a1 :: a2 :: a3 :: a4 :: a5 :: a6 :: a7 :: a8 :: a9 :: r) (i := 9) (v := .null) hL rfl rfl h9))
theorem mw_iinc_9 {n : Int} {x v : Int32} {a0 a1 a2 a3 a4 a5 a6 a7 a8 : Option Value} {r : List (Option Value)} (dg : decode y.2.1 pc = .ok (.iinc 9 n, 3)) (hn : 9 < y.2.2.1) (hv : x + Int32.ofInt n = v) (k : mw_W y d kc ks (pc + 3) (a0 :: a1 :: a2 :: a3 :: a4 :: a5 :: a6 :: a7 :: a8 :: some (.int v) :: r) (st) h Po) : mw_W y d kc ks (pc) (a0 :: a1 :: a2 :: a3 :: a4 :: a5 :: a6 :: a7 :: a8 :: some (.int x) :: r) (st) h Po := by
  intro G p l e R s m args below meth c mc msl H locs cells slots lsA C hc hs hR hS hL
  obtain ⟨hx, hb, hr, hml, hown, hlk, htr, htab, hnm, hRf, hRl, hRc, hRs, hK⟩ := id C
  obtain ⟨k9, hk9⟩ := List.getElem?_of_mem (mw_al_mem (G := G) (ls := a0 :: a1 :: a2 :: a3 :: a4 :: a5 :: a6 :: a7 :: a8 :: some (.int x) :: r) (i := 9) (v := .int x) rfl rfl)
  exact lv_iinc hx hb dg (mw_al_has hL) hk9 hv hn rfl (fun ls9 h9 => k G p l e R s m args below meth c mc msl H locs cells slots ls9 C hc hs hR hS (mw_L_set (ls := a0 :: a1 :: a2 :: a3 :: a4 :: a5 :: a6 :: a7 :: a8 :: some (.int x) :: r) (i := 9) (v := .int v) hL rfl rfl h9))
theorem mw_istore_10 {a0 a1 a2 a3 a4 a5 a6 a7 a8 a9 a10 : Option Value} {r : List (Option Value)} {x : Int32} (dg : decode y.2.1 pc = .ok (.istore 10, 2)) (hn : 10 < y.2.2.1) (k : mw_W y d kc ks (pc + 2) (a0 :: a1 :: a2 :: a3 :: a4 :: a5 :: a6 :: a7 :: a8 :: a9 :: some (.int x) :: r) (st) h Po) : mw_W y d kc ks (pc) (a0 :: a1 :: a2 :: a3 :: a4 :: a5 :: a6 :: a7 :: a8 :: a9 :: a10 :: r) (.int x :: st) h Po := by
  intro G p l e R s m args below meth c mc msl H locs cells slots lsA C hc hs hR hS hL
  obtain ⟨hx, hb, hr, hml, hown, hlk, htr, htab, hnm, hRf, hRl, hRc, hRs, hK⟩ := id C
  exact lv_istore (x := x) hx hb dg (mw_al_has hL) hn rfl (fun ls9 h9 => k G p l e R s m args below meth c mc msl H locs cells slots ls9 C hc hs hR hS (mw_L_set (ls := a0 :: a1 :: a2 :: a3 :: a4 :: a5 :: a6 :: a7 :: a8 :: a9 :: a10 :: r) (i := 10) (v := .int x) hL rfl rfl h9))
theorem mw_astore_10 {a0 a1 a2 a3 a4 a5 a6 a7 a8 a9 a10 : Option Value} {r : List (Option Value)} {x : Nat} (dg : decode y.2.1 pc = .ok (.astore 10, 2)) (hn : 10 < y.2.2.1) (k : mw_W y d kc ks (pc + 2) (a0 :: a1 :: a2 :: a3 :: a4 :: a5 :: a6 :: a7 :: a8 :: a9 :: some (.ref x) :: r) (st) h Po) : mw_W y d kc ks (pc) (a0 :: a1 :: a2 :: a3 :: a4 :: a5 :: a6 :: a7 :: a8 :: a9 :: a10 :: r) (.ref x :: st) h Po := by
  intro G p l e R s m args below meth c mc msl H locs cells slots lsA C hc hs hR hS hL
  obtain ⟨hx, hb, hr, hml, hown, hlk, htr, htab, hnm, hRf, hRl, hRc, hRs, hK⟩ := id C
  exact lv_astore hx hb dg (mw_al_has hL) hn rfl (fun ls9 h9 => k G p l e R s m args below meth c mc msl H locs cells slots ls9 C hc hs hR hS (mw_L_set (ls := a0 :: a1 :: a2 :: a3 :: a4 :: a5 :: a6 :: a7 :: a8 :: a9 :: a10 :: r) (i := 10) (v := .ref x) hL rfl rfl h9))
theorem mw_astoreN_10 {a0 a1 a2 a3 a4 a5 a6 a7 a8 a9 a10 : Option Value} {r : List (Option Value)} (dg : decode y.2.1 pc = .ok (.astore 10, 2)) (hn : 10 < y.2.2.1) (k : mw_W y d kc ks (pc + 2) (a0 :: a1 :: a2 :: a3 :: a4 :: a5 :: a6 :: a7 :: a8 :: a9 :: some (.null) :: r) (st) h Po) : mw_W y d kc ks (pc) (a0 :: a1 :: a2 :: a3 :: a4 :: a5 :: a6 :: a7 :: a8 :: a9 :: a10 :: r) (.null :: st) h Po := by
  intro G p l e R s m args below meth c mc msl H locs cells slots lsA C hc hs hR hS hL
  obtain ⟨hx, hb, hr, hml, hown, hlk, htr, htab, hnm, hRf, hRl, hRc, hRs, hK⟩ := id C
  exact lv_astoreN hx hb dg (mw_al_has hL) hn rfl (fun ls9 h9 => k G p l e R s m args below meth c mc msl H locs cells slots ls9 C hc hs hR hS (mw_L_set (ls := a0 :: a1 :: a2 :: a3 :: a4 :: a5 :: a6 :: a7 :: a8 :: a9 :: a10 :: r) (i := 10) (v := .null) hL rfl rfl h9))
theorem mw_iinc_10 {n : Int} {x v : Int32} {a0 a1 a2 a3 a4 a5 a6 a7 a8 a9 : Option Value} {r : List (Option Value)} (dg : decode y.2.1 pc = .ok (.iinc 10 n, 3)) (hn : 10 < y.2.2.1) (hv : x + Int32.ofInt n = v) (k : mw_W y d kc ks (pc + 3) (a0 :: a1 :: a2 :: a3 :: a4 :: a5 :: a6 :: a7 :: a8 :: a9 :: some (.int v) :: r) (st) h Po) : mw_W y d kc ks (pc) (a0 :: a1 :: a2 :: a3 :: a4 :: a5 :: a6 :: a7 :: a8 :: a9 :: some (.int x) :: r) (st) h Po := by
  intro G p l e R s m args below meth c mc msl H locs cells slots lsA C hc hs hR hS hL
  obtain ⟨hx, hb, hr, hml, hown, hlk, htr, htab, hnm, hRf, hRl, hRc, hRs, hK⟩ := id C
  obtain ⟨k9, hk9⟩ := List.getElem?_of_mem (mw_al_mem (G := G) (ls := a0 :: a1 :: a2 :: a3 :: a4 :: a5 :: a6 :: a7 :: a8 :: a9 :: some (.int x) :: r) (i := 10) (v := .int x) rfl rfl)
  exact lv_iinc hx hb dg (mw_al_has hL) hk9 hv hn rfl (fun ls9 h9 => k G p l e R s m args below meth c mc msl H locs cells slots ls9 C hc hs hR hS (mw_L_set (ls := a0 :: a1 :: a2 :: a3 :: a4 :: a5 :: a6 :: a7 :: a8 :: a9 :: some (.int x) :: r) (i := 10) (v := .int v) hL rfl rfl h9))
theorem mw_istore_11 {a0 a1 a2 a3 a4 a5 a6 a7 a8 a9 a10 a11 : Option Value} {r : List (Option Value)} {x : Int32} (dg : decode y.2.1 pc = .ok (.istore 11, 2)) (hn : 11 < y.2.2.1) (k : mw_W y d kc ks (pc + 2) (a0 :: a1 :: a2 :: a3 :: a4 :: a5 :: a6 :: a7 :: a8 :: a9 :: a10 :: some (.int x) :: r) (st) h Po) : mw_W y d kc ks (pc) (a0 :: a1 :: a2 :: a3 :: a4 :: a5 :: a6 :: a7 :: a8 :: a9 :: a10 :: a11 :: r) (.int x :: st) h Po := by
  intro G p l e R s m args below meth c mc msl H locs cells slots lsA C hc hs hR hS hL
  obtain ⟨hx, hb, hr, hml, hown, hlk, htr, htab, hnm, hRf, hRl, hRc, hRs, hK⟩ := id C
  exact lv_istore (x := x) hx hb dg (mw_al_has hL) hn rfl (fun ls9 h9 => k G p l e R s m args below meth c mc msl H locs cells slots ls9 C hc hs hR hS (mw_L_set (ls := a0 :: a1 :: a2 :: a3 :: a4 :: a5 :: a6 :: a7 :: a8 :: a9 :: a10 :: a11 :: r) (i := 11) (v := .int x) hL rfl rfl h9))
theorem mw_astore_11 {a0 a1 a2 a3 a4 a5 a6 a7 a8 a9 a10 a11 : Option Value} {r : List (Option Value)} {x : Nat} (dg : decode y.2.1 pc = .ok (.astore 11, 2)) (hn : 11 < y.2.2.1) (k : mw_W y d kc ks (pc + 2) (a0 :: a1 :: a2 :: a3 :: a4 :: a5 :: a6 :: a7 :: a8 :: a9 :: a10 :: some (.ref x) :: r) (st) h Po) : mw_W y d kc ks (pc) (a0 :: a1 :: a2 :: a3 :: a4 :: a5 :: a6 :: a7 :: a8 :: a9 :: a10 :: a11 :: r) (.ref x :: st) h Po := by
  intro G p l e R s m args below meth c mc msl H locs cells slots lsA C hc hs hR hS hL
  obtain ⟨hx, hb, hr, hml, hown, hlk, htr, htab, hnm, hRf, hRl, hRc, hRs, hK⟩ := id C
  exact lv_astore hx hb dg (mw_al_has hL) hn rfl (fun ls9 h9 => k G p l e R s m args below meth c mc msl H locs cells slots ls9 C hc hs hR hS (mw_L_set (ls := a0 :: a1 :: a2 :: a3 :: a4 :: a5 :: a6 :: a7 :: a8 :: a9 :: a10 :: a11 :: r) (i := 11) (v := .ref x) hL rfl rfl h9))
theorem mw_astoreN_11 {a0 a1 a2 a3 a4 a5 a6 a7 a8 a9 a10 a11 : Option Value} {r : List (Option Value)} (dg : decode y.2.1 pc = .ok (.astore 11, 2)) (hn : 11 < y.2.2.1) (k : mw_W y d kc ks (pc + 2) (a0 :: a1 :: a2 :: a3 :: a4 :: a5 :: a6 :: a7 :: a8 :: a9 :: a10 :: some (.null) :: r) (st) h Po) : mw_W y d kc ks (pc) (a0 :: a1 :: a2 :: a3 :: a4 :: a5 :: a6 :: a7 :: a8 :: a9 :: a10 :: a11 :: r) (.null :: st) h Po := by
  intro G p l e R s m args below meth c mc msl H locs cells slots lsA C hc hs hR hS hL
  obtain ⟨hx, hb, hr, hml, hown, hlk, htr, htab, hnm, hRf, hRl, hRc, hRs, hK⟩ := id C
  exact lv_astoreN hx hb dg (mw_al_has hL) hn rfl (fun ls9 h9 => k G p l e R s m args below meth c mc msl H locs cells slots ls9 C hc hs hR hS (mw_L_set (ls := a0 :: a1 :: a2 :: a3 :: a4 :: a5 :: a6 :: a7 :: a8 :: a9 :: a10 :: a11 :: r) (i := 11) (v := .null) hL rfl rfl h9))
theorem mw_iinc_11 {n : Int} {x v : Int32} {a0 a1 a2 a3 a4 a5 a6 a7 a8 a9 a10 : Option Value} {r : List (Option Value)} (dg : decode y.2.1 pc = .ok (.iinc 11 n, 3)) (hn : 11 < y.2.2.1) (hv : x + Int32.ofInt n = v) (k : mw_W y d kc ks (pc + 3) (a0 :: a1 :: a2 :: a3 :: a4 :: a5 :: a6 :: a7 :: a8 :: a9 :: a10 :: some (.int v) :: r) (st) h Po) : mw_W y d kc ks (pc) (a0 :: a1 :: a2 :: a3 :: a4 :: a5 :: a6 :: a7 :: a8 :: a9 :: a10 :: some (.int x) :: r) (st) h Po := by
  intro G p l e R s m args below meth c mc msl H locs cells slots lsA C hc hs hR hS hL
  obtain ⟨hx, hb, hr, hml, hown, hlk, htr, htab, hnm, hRf, hRl, hRc, hRs, hK⟩ := id C
  obtain ⟨k9, hk9⟩ := List.getElem?_of_mem (mw_al_mem (G := G) (ls := a0 :: a1 :: a2 :: a3 :: a4 :: a5 :: a6 :: a7 :: a8 :: a9 :: a10 :: some (.int x) :: r) (i := 11) (v := .int x) rfl rfl)
  exact lv_iinc hx hb dg (mw_al_has hL) hk9 hv hn rfl (fun ls9 h9 => k G p l e R s m args below meth c mc msl H locs cells slots ls9 C hc hs hR hS (mw_L_set (ls := a0 :: a1 :: a2 :: a3 :: a4 :: a5 :: a6 :: a7 :: a8 :: a9 :: a10 :: some (.int x) :: r) (i := 11) (v := .int v) hL rfl rfl h9))
theorem mw_istore_12 {a0 a1 a2 a3 a4 a5 a6 a7 a8 a9 a10 a11 a12 : Option Value} {r : List (Option Value)} {x : Int32} (dg : decode y.2.1 pc = .ok (.istore 12, 2)) (hn : 12 < y.2.2.1) (k : mw_W y d kc ks (pc + 2) (a0 :: a1 :: a2 :: a3 :: a4 :: a5 :: a6 :: a7 :: a8 :: a9 :: a10 :: a11 :: some (.int x) :: r) (st) h Po) : mw_W y d kc ks (pc) (a0 :: a1 :: a2 :: a3 :: a4 :: a5 :: a6 :: a7 :: a8 :: a9 :: a10 :: a11 :: a12 :: r) (.int x :: st) h Po := by
  intro G p l e R s m args below meth c mc msl H locs cells slots lsA C hc hs hR hS hL
  obtain ⟨hx, hb, hr, hml, hown, hlk, htr, htab, hnm, hRf, hRl, hRc, hRs, hK⟩ := id C
  exact lv_istore (x := x) hx hb dg (mw_al_has hL) hn rfl (fun ls9 h9 => k G p l e R s m args below meth c mc msl H locs cells slots ls9 C hc hs hR hS (mw_L_set (ls := a0 :: a1 :: a2 :: a3 :: a4 :: a5 :: a6 :: a7 :: a8 :: a9 :: a10 :: a11 :: a12 :: r) (i := 12) (v := .int x) hL rfl rfl h9))
theorem mw_astore_12 {a0 a1 a2 a3 a4 a5 a6 a7 a8 a9 a10 a11 a12 : Option Value} {r : List (Option Value)} {x : Nat} (dg : decode y.2.1 pc = .ok (.astore 12, 2)) (hn : 12 < y.2.2.1) (k : mw_W y d kc ks (pc + 2) (a0 :: a1 :: a2 :: a3 :: a4 :: a5 :: a6 :: a7 :: a8 :: a9 :: a10 :: a11 :: some (.ref x) :: r) (st) h Po) : mw_W y d kc ks (pc) (a0 :: a1 :: a2 :: a3 :: a4 :: a5 :: a6 :: a7 :: a8 :: a9 :: a10 :: a11 :: a12 :: r) (.ref x :: st) h Po := by
  intro G p l e R s m args below meth c mc msl H locs cells slots lsA C hc hs hR hS hL
  obtain ⟨hx, hb, hr, hml, hown, hlk, htr, htab, hnm, hRf, hRl, hRc, hRs, hK⟩ := id C
  exact lv_astore hx hb dg (mw_al_has hL) hn rfl (fun ls9 h9 => k G p l e R s m args below meth c mc msl H locs cells slots ls9 C hc hs hR hS (mw_L_set (ls := a0 :: a1 :: a2 :: a3 :: a4 :: a5 :: a6 :: a7 :: a8 :: a9 :: a10 :: a11 :: a12 :: r) (i := 12) (v := .ref x) hL rfl rfl h9))
theorem mw_astoreN_12 {a0 a1 a2 a3 a4 a5 a6 a7 a8 a9 a10 a11 a12 : Option Value} {r : List (Option Value)} (dg : decode y.2.1 pc = .ok (.astore 12, 2)) (hn : 12 < y.2.2.1) (k : mw_W y d kc ks (pc + 2) (a0 :: a1 :: a2 :: a3 :: a4 :: a5 :: a6 :: a7 :: a8 :: a9 :: a10 :: a11 :: some (.null) :: r) (st) h Po) : mw_W y d kc ks (pc) (a0 :: a1 :: a2 :: a3 :: a4 :: a5 :: a6 :: a7 :: a8 :: a9 :: a10 :: a11 :: a12 :: r) (.null :: st) h Po := by
  intro G p l e R s m args below meth c mc msl H locs cells slots lsA C hc hs hR hS hL
  obtain ⟨hx, hb, hr, hml, hown, hlk, htr, htab, hnm, hRf, hRl, hRc, hRs, hK⟩ := id C
  exact lv_astoreN hx hb dg (mw_al_has hL) hn rfl (fun ls9 h9 => k G p l e R s m args below meth c mc msl H locs cells slots ls9 C hc hs hR hS (mw_L_set (ls := a0 :: a1 :: a2 :: a3 :: a4 :: a5 :: a6 :: a7 :: a8 :: a9 :: a10 :: a11 :: a12 :: r) (i := 12) (v := .null) hL rfl rfl h9))
theorem mw_iinc_12 {n : Int} {x v : Int32} {a0 a1 a2 a3 a4 a5 a6 a7 a8 a9 a10 a11 : Option Value} {r : List (Option Value)} (dg : decode y.2.1 pc = .ok (.iinc 12 n, 3)) (hn : 12 < y.2.2.1) (hv : x + Int32.ofInt n = v) (k : mw_W y d kc ks (pc + 3) (a0 :: a1 :: a2 :: a3 :: a4 :: a5 :: a6 :: a7 :: a8 :: a9 :: a10 :: a11 :: some (.int v) :: r) (st) h Po) : mw_W y d kc ks (pc) (a0 :: a1 :: a2 :: a3 :: a4 :: a5 :: a6 :: a7 :: a8 :: a9 :: a10 :: a11 :: some (.int x) :: r) (st) h Po := by
  intro G p l e R s m args below meth c mc msl H locs cells slots lsA C hc hs hR hS hL
  obtain ⟨hx, hb, hr, hml, hown, hlk, htr, htab, hnm, hRf, hRl, hRc, hRs, hK⟩ := id C
  obtain ⟨k9, hk9⟩ := List.getElem?_of_mem (mw_al_mem (G := G) (ls := a0 :: a1 :: a2 :: a3 :: a4 :: a5 :: a6 :: a7 :: a8 :: a9 :: a10 :: a11 :: some (.int x) :: r) (i := 12) (v := .int x) rfl rfl)
  exact lv_iinc hx hb dg (mw_al_has hL) hk9 hv hn rfl (fun ls9 h9 => k G p l e R s m args below meth c mc msl H locs cells slots ls9 C hc hs hR hS (mw_L_set (ls := a0 :: a1 :: a2 :: a3 :: a4 :: a5 :: a6 :: a7 :: a8 :: a9 :: a10 :: a11 :: some (.int x) :: r) (i := 12) (v := .int v) hL rfl rfl h9))
theorem mw_istore_13 {a0 a1 a2 a3 a4 a5 a6 a7 a8 a9 a10 a11 a12 a13 : Option Value} {r : List (Option Value)} {x : Int32} (dg : decode y.2.1 pc = .ok (.istore 13, 2)) (hn : 13 < y.2.2.1) (k : mw_W y d kc ks (pc + 2) (a0 :: a1 :: a2 :: a3 :: a4 :: a5 :: a6 :: a7 :: a8 :: a9 :: a10 :: a11 :: a12 :: some (.int x) :: r) (st) h Po) : mw_W y d kc ks (pc) (a0 :: a1 :: a2 :: a3 :: a4 :: a5 :: a6 :: a7 :: a8 :: a9 :: a10 :: a11 :: a12 :: a13 :: r) (.int x :: st) h Po := by
  intro G p l e R s m args below meth c mc msl H locs cells slots lsA C hc hs hR hS hL
  obtain ⟨hx, hb, hr, hml, hown, hlk, htr, htab, hnm, hRf, hRl, hRc, hRs, hK⟩ := id C
  exact lv_istore (x := x) hx hb dg (mw_al_has hL) hn rfl (fun ls9 h9 => k G p l e R s m args below meth c mc msl H locs cells slots ls9 C hc hs hR hS (mw_L_set (ls := a0 :: a1 :: a2 :: a3 :: a4 :: a5 :: a6 :: a7 :: a8 :: a9 :: a10 :: a11 :: a12 :: a13 :: r) (i := 13) (v := .int x) hL rfl rfl h9))
theorem mw_astore_13 {a0 a1 a2 a3 a4 a5 a6 a7 a8 a9 a10 a11 a12 a13 : Option Value} {r : List (Option Value)} {x : Nat} (dg : decode y.2.1 pc = .ok (.astore 13, 2)) (hn : 13 < y.2.2.1) (k : mw_W y d kc ks (pc + 2) (a0 :: a1 :: a2 :: a3 :: a4 :: a5 :: a6 :: a7 :: a8 :: a9 :: a10 :: a11 :: a12 :: some (.ref x) :: r) (st) h Po) : mw_W y d kc ks (pc) (a0 :: a1 :: a2 :: a3 :: a4 :: a5 :: a6 :: a7 :: a8 :: a9 :: a10 :: a11 :: a12 :: a13 :: r) (.ref x :: st) h Po := by
  intro G p l e R s m args below meth c mc msl H locs cells slots lsA C hc hs hR hS hL
  obtain ⟨hx, hb, hr, hml, hown, hlk, htr, htab, hnm, hRf, hRl, hRc, hRs, hK⟩ := id C
  exact lv_astore hx hb dg (mw_al_has hL) hn rfl (fun ls9 h9 => k G p l e R s m args below meth c mc msl H locs cells slots ls9 C hc hs hR hS (mw_L_set (ls := a0 :: a1 :: a2 :: a3 :: a4 :: a5 :: a6 :: a7 :: a8 :: a9 :: a10 :: a11 :: a12 :: a13 :: r) (i := 13) (v := .ref x) hL rfl rfl h9))
theorem mw_astoreN_13 {a0 a1 a2 a3 a4 a5 a6 a7 a8 a9 a10 a11 a12 a13 : Option Value} {r : List (Option Value)} (dg : decode y.2.1 pc = .ok (.astore 13, 2)) (hn : 13 < y.2.2.1) (k : mw_W y d kc ks (pc + 2) (a0 :: a1 :: a2 :: a3 :: a4 :: a5 :: a6 :: a7 :: a8 :: a9 :: a10 :: a11 :: a12 :: some (.null) :: r) (st) h Po) : mw_W y d kc ks (pc) (a0 :: a1 :: a2 :: a3 :: a4 :: a5 :: a6 :: a7 :: a8 :: a9 :: a10 :: a11 :: a12 :: a13 :: r) (.null :: st) h Po := by
  intro G p l e R s m args below meth c mc msl H locs cells slots lsA C hc hs hR hS hL
  obtain ⟨hx, hb, hr, hml, hown, hlk, htr, htab, hnm, hRf, hRl, hRc, hRs, hK⟩ := id C
  exact lv_astoreN hx hb dg (mw_al_has hL) hn rfl (fun ls9 h9 => k G p l e R s m args below meth c mc msl H locs cells slots ls9 C hc hs hR hS (mw_L_set (ls := a0 :: a1 :: a2 :: a3 :: a4 :: a5 :: a6 :: a7 :: a8 :: a9 :: a10 :: a11 :: a12 :: a13 :: r) (i := 13) (v := .null) hL rfl rfl h9))
theorem mw_istore_14 {a0 a1 a2 a3 a4 a5 a6 a7 a8 a9 a10 a11 a12 a13 a14 : Option Value} {r : List (Option Value)} {x : Int32} (dg : decode y.2.1 pc = .ok (.istore 14, 2)) (hn : 14 < y.2.2.1) (k : mw_W y d kc ks (pc + 2) (a0 :: a1 :: a2 :: a3 :: a4 :: a5 :: a6 :: a7 :: a8 :: a9 :: a10 :: a11 :: a12 :: a13 :: some (.int x) :: r) (st) h Po) : mw_W y d kc ks (pc) (a0 :: a1 :: a2 :: a3 :: a4 :: a5 :: a6 :: a7 :: a8 :: a9 :: a10 :: a11 :: a12 :: a13 :: a14 :: r) (.int x :: st) h Po := by
  intro G p l e R s m args below meth c mc msl H locs cells slots lsA C hc hs hR hS hL
  obtain ⟨hx, hb, hr, hml, hown, hlk, htr, htab, hnm, hRf, hRl, hRc, hRs, hK⟩ := id C
  exact lv_istore (x := x) hx hb dg (mw_al_has hL) hn rfl (fun ls9 h9 => k G p l e R s m args below meth c mc msl H locs cells slots ls9 C hc hs hR hS (mw_L_set (ls := a0 :: a1 :: a2 :: a3 :: a4 :: a5 :: a6 :: a7 :: a8 :: a9 :: a10 :: a11 :: a12 :: a13 :: a14 :: r) (i := 14) (v := .int x) hL rfl rfl h9))
theorem mw_iinc_14 {n : Int} {x v : Int32} {a0 a1 a2 a3 a4 a5 a6 a7 a8 a9 a10 a11 a12 a13 : Option Value} {r : List (Option Value)} (dg : decode y.2.1 pc = .ok (.iinc 14 n, 3)) (hn : 14 < y.2.2.1) (hv : x + Int32.ofInt n = v) (k : mw_W y d kc ks (pc + 3) (a0 :: a1 :: a2 :: a3 :: a4 :: a5 :: a6 :: a7 :: a8 :: a9 :: a10 :: a11 :: a12 :: a13 :: some (.int v) :: r) (st) h Po) : mw_W y d kc ks (pc) (a0 :: a1 :: a2 :: a3 :: a4 :: a5 :: a6 :: a7 :: a8 :: a9 :: a10 :: a11 :: a12 :: a13 :: some (.int x) :: r) (st) h Po := by
  intro G p l e R s m args below meth c mc msl H locs cells slots lsA C hc hs hR hS hL
  obtain ⟨hx, hb, hr, hml, hown, hlk, htr, htab, hnm, hRf, hRl, hRc, hRs, hK⟩ := id C
  obtain ⟨k9, hk9⟩ := List.getElem?_of_mem (mw_al_mem (G := G) (ls := a0 :: a1 :: a2 :: a3 :: a4 :: a5 :: a6 :: a7 :: a8 :: a9 :: a10 :: a11 :: a12 :: a13 :: some (.int x) :: r) (i := 14) (v := .int x) rfl rfl)
  exact lv_iinc hx hb dg (mw_al_has hL) hk9 hv hn rfl (fun ls9 h9 => k G p l e R s m args below meth c mc msl H locs cells slots ls9 C hc hs hR hS (mw_L_set (ls := a0 :: a1 :: a2 :: a3 :: a4 :: a5 :: a6 :: a7 :: a8 :: a9 :: a10 :: a11 :: a12 :: a13 :: some (.int x) :: r) (i := 14) (v := .int v) hL rfl rfl h9))
theorem mw_istore_15 {a0 a1 a2 a3 a4 a5 a6 a7 a8 a9 a10 a11 a12 a13 a14 a15 : Option Value} {r : List (Option Value)} {x : Int32} (dg : decode y.2.1 pc = .ok (.istore 15, 2)) (hn : 15 < y.2.2.1) (k : mw_W y d kc ks (pc + 2) (a0 :: a1 :: a2 :: a3 :: a4 :: a5 :: a6 :: a7 :: a8 :: a9 :: a10 :: a11 :: a12 :: a13 :: a14 :: some (.int x) :: r) (st) h Po) : mw_W y d kc ks (pc) (a0 :: a1 :: a2 :: a3 :: a4 :: a5 :: a6 :: a7 :: a8 :: a9 :: a10 :: a11 :: a12 :: a13 :: a14 :: a15 :: r) (.int x :: st) h Po := by
  intro G p l e R s m args below meth c mc msl H locs cells slots lsA C hc hs hR hS hL
  obtain ⟨hx, hb, hr, hml, hown, hlk, htr, htab, hnm, hRf, hRl, hRc, hRs, hK⟩ := id C
  exact lv_istore (x := x) hx hb dg (mw_al_has hL) hn rfl (fun ls9 h9 => k G p l e R s m args below meth c mc msl H locs cells slots ls9 C hc hs hR hS (mw_L_set (ls := a0 :: a1 :: a2 :: a3 :: a4 :: a5 :: a6 :: a7 :: a8 :: a9 :: a10 :: a11 :: a12 :: a13 :: a14 :: a15 :: r) (i := 15) (v := .int x) hL rfl rfl h9))
theorem mw_iinc_15 {n : Int} {x v : Int32} {a0 a1 a2 a3 a4 a5 a6 a7 a8 a9 a10 a11 a12 a13 a14 : Option Value} {r : List (Option Value)} (dg : decode y.2.1 pc = .ok (.iinc 15 n, 3)) (hn : 15 < y.2.2.1) (hv : x + Int32.ofInt n = v) (k : mw_W y d kc ks (pc + 3) (a0 :: a1 :: a2 :: a3 :: a4 :: a5 :: a6 :: a7 :: a8 :: a9 :: a10 :: a11 :: a12 :: a13 :: a14 :: some (.int v) :: r) (st) h Po) : mw_W y d kc ks (pc) (a0 :: a1 :: a2 :: a3 :: a4 :: a5 :: a6 :: a7 :: a8 :: a9 :: a10 :: a11 :: a12 :: a13 :: a14 :: some (.int x) :: r) (st) h Po := by
  intro G p l e R s m args below meth c mc msl H locs cells slots lsA C hc hs hR hS hL
  obtain ⟨hx, hb, hr, hml, hown, hlk, htr, htab, hnm, hRf, hRl, hRc, hRs, hK⟩ := id C
  obtain ⟨k9, hk9⟩ := List.getElem?_of_mem (mw_al_mem (G := G) (ls := a0 :: a1 :: a2 :: a3 :: a4 :: a5 :: a6 :: a7 :: a8 :: a9 :: a10 :: a11 :: a12 :: a13 :: a14 :: some (.int x) :: r) (i := 15) (v := .int x) rfl rfl)
  exact lv_iinc hx hb dg (mw_al_has hL) hk9 hv hn rfl (fun ls9 h9 => k G p l e R s m args below meth c mc msl H locs cells slots ls9 C hc hs hR hS (mw_L_set (ls := a0 :: a1 :: a2 :: a3 :: a4 :: a5 :: a6 :: a7 :: a8 :: a9 :: a10 :: a11 :: a12 :: a13 :: a14 :: some (.int x) :: r) (i := 15) (v := .int v) hL rfl rfl h9))
theorem mw_istore_16 {a0 a1 a2 a3 a4 a5 a6 a7 a8 a9 a10 a11 a12 a13 a14 a15 a16 : Option Value} {r : List (Option Value)} {x : Int32} (dg : decode y.2.1 pc = .ok (.istore 16, 2)) (hn : 16 < y.2.2.1) (k : mw_W y d kc ks (pc + 2) (a0 :: a1 :: a2 :: a3 :: a4 :: a5 :: a6 :: a7 :: a8 :: a9 :: a10 :: a11 :: a12 :: a13 :: a14 :: a15 :: some (.int x) :: r) (st) h Po) : mw_W y d kc ks (pc) (a0 :: a1 :: a2 :: a3 :: a4 :: a5 :: a6 :: a7 :: a8 :: a9 :: a10 :: a11 :: a12 :: a13 :: a14 :: a15 :: a16 :: r) (.int x :: st) h Po := by
  intro G p l e R s m args below meth c mc msl H locs cells slots lsA C hc hs hR hS hL
  obtain ⟨hx, hb, hr, hml, hown, hlk, htr, htab, hnm, hRf, hRl, hRc, hRs, hK⟩ := id C
  exact lv_istore (x := x) hx hb dg (mw_al_has hL) hn rfl (fun ls9 h9 => k G p l e R s m args below meth c mc msl H locs cells slots ls9 C hc hs hR hS (mw_L_set (ls := a0 :: a1 :: a2 :: a3 :: a4 :: a5 :: a6 :: a7 :: a8 :: a9 :: a10 :: a11 :: a12 :: a13 :: a14 :: a15 :: a16 :: r) (i := 16) (v := .int x) hL rfl rfl h9))
theorem mw_iinc_16 {n : Int} {x v : Int32} {a0 a1 a2 a3 a4 a5 a6 a7 a8 a9 a10 a11 a12 a13 a14 a15 : Option Value} {r : List (Option Value)} (dg : decode y.2.1 pc = .ok (.iinc 16 n, 3)) (hn : 16 < y.2.2.1) (hv : x + Int32.ofInt n = v) (k : mw_W y d kc ks (pc + 3) (a0 :: a1 :: a2 :: a3 :: a4 :: a5 :: a6 :: a7 :: a8 :: a9 :: a10 :: a11 :: a12 :: a13 :: a14 :: a15 :: some (.int v) :: r) (st) h Po) : mw_W y d kc ks (pc) (a0 :: a1 :: a2 :: a3 :: a4 :: a5 :: a6 :: a7 :: a8 :: a9 :: a10 :: a11 :: a12 :: a13 :: a14 :: a15 :: some (.int x) :: r) (st) h Po := by
  intro G p l e R s m args below meth c mc msl H locs cells slots lsA C hc hs hR hS hL
  obtain ⟨hx, hb, hr, hml, hown, hlk, htr, htab, hnm, hRf, hRl, hRc, hRs, hK⟩ := id C
  obtain ⟨k9, hk9⟩ := List.getElem?_of_mem (mw_al_mem (G := G) (ls := a0 :: a1 :: a2 :: a3 :: a4 :: a5 :: a6 :: a7 :: a8 :: a9 :: a10 :: a11 :: a12 :: a13 :: a14 :: a15 :: some (.int x) :: r) (i := 16) (v := .int x) rfl rfl)
  exact lv_iinc hx hb dg (mw_al_has hL) hk9 hv hn rfl (fun ls9 h9 => k G p l e R s m args below meth c mc msl H locs cells slots ls9 C hc hs hR hS (mw_L_set (ls := a0 :: a1 :: a2 :: a3 :: a4 :: a5 :: a6 :: a7 :: a8 :: a9 :: a10 :: a11 :: a12 :: a13 :: a14 :: a15 :: some (.int x) :: r) (i := 16) (v := .int v) hL rfl rfl h9))
theorem mw_istore_17 {a0 a1 a2 a3 a4 a5 a6 a7 a8 a9 a10 a11 a12 a13 a14 a15 a16 a17 : Option Value} {r : List (Option Value)} {x : Int32} (dg : decode y.2.1 pc = .ok (.istore 17, 2)) (hn : 17 < y.2.2.1) (k : mw_W y d kc ks (pc + 2) (a0 :: a1 :: a2 :: a3 :: a4 :: a5 :: a6 :: a7 :: a8 :: a9 :: a10 :: a11 :: a12 :: a13 :: a14 :: a15 :: a16 :: some (.int x) :: r) (st) h Po) : mw_W y d kc ks (pc) (a0 :: a1 :: a2 :: a3 :: a4 :: a5 :: a6 :: a7 :: a8 :: a9 :: a10 :: a11 :: a12 :: a13 :: a14 :: a15 :: a16 :: a17 :: r) (.int x :: st) h Po := by
  intro G p l e R s m args below meth c mc msl H locs cells slots lsA C hc hs hR hS hL
  obtain ⟨hx, hb, hr, hml, hown, hlk, htr, htab, hnm, hRf, hRl, hRc, hRs, hK⟩ := id C
  exact lv_istore (x := x) hx hb dg (mw_al_has hL) hn rfl (fun ls9 h9 => k G p l e R s m args below meth c mc msl H locs cells slots ls9 C hc hs hR hS (mw_L_set (ls := a0 :: a1 :: a2 :: a3 :: a4 :: a5 :: a6 :: a7 :: a8 :: a9 :: a10 :: a11 :: a12 :: a13 :: a14 :: a15 :: a16 :: a17 :: r) (i := 17) (v := .int x) hL rfl rfl h9))
theorem mw_iinc_17 {n : Int} {x v : Int32} {a0 a1 a2 a3 a4 a5 a6 a7 a8 a9 a10 a11 a12 a13 a14 a15 a16 : Option Value} {r : List (Option Value)} (dg : decode y.2.1 pc = .ok (.iinc 17 n, 3)) (hn : 17 < y.2.2.1) (hv : x + Int32.ofInt n = v) (k : mw_W y d kc ks (pc + 3) (a0 :: a1 :: a2 :: a3 :: a4 :: a5 :: a6 :: a7 :: a8 :: a9 :: a10 :: a11 :: a12 :: a13 :: a14 :: a15 :: a16 :: some (.int v) :: r) (st) h Po) : mw_W y d kc ks (pc) (a0 :: a1 :: a2 :: a3 :: a4 :: a5 :: a6 :: a7 :: a8 :: a9 :: a10 :: a11 :: a12 :: a13 :: a14 :: a15 :: a16 :: some (.int x) :: r) (st) h Po := by
  intro G p l e R s m args below meth c mc msl H locs cells slots lsA C hc hs hR hS hL
  obtain ⟨hx, hb, hr, hml, hown, hlk, htr, htab, hnm, hRf, hRl, hRc, hRs, hK⟩ := id C
  obtain ⟨k9, hk9⟩ := List.getElem?_of_mem (mw_al_mem (G := G) (ls := a0 :: a1 :: a2 :: a3 :: a4 :: a5 :: a6 :: a7 :: a8 :: a9 :: a10 :: a11 :: a12 :: a13 :: a14 :: a15 :: a16 :: some (.int x) :: r) (i := 17) (v := .int x) rfl rfl)
  exact lv_iinc hx hb dg (mw_al_has hL) hk9 hv hn rfl (fun ls9 h9 => k G p l e R s m args below meth c mc msl H locs cells slots ls9 C hc hs hR hS (mw_L_set (ls := a0 :: a1 :: a2 :: a3 :: a4 :: a5 :: a6 :: a7 :: a8 :: a9 :: a10 :: a11 :: a12 :: a13 :: a14 :: a15 :: a16 :: some (.int x) :: r) (i := 17) (v := .int v) hL rfl rfl h9))
theorem mw_istore_18 {a0 a1 a2 a3 a4 a5 a6 a7 a8 a9 a10 a11 a12 a13 a14 a15 a16 a17 a18 : Option Value} {r : List (Option Value)} {x : Int32} (dg : decode y.2.1 pc = .ok (.istore 18, 2)) (hn : 18 < y.2.2.1) (k : mw_W y d kc ks (pc + 2) (a0 :: a1 :: a2 :: a3 :: a4 :: a5 :: a6 :: a7 :: a8 :: a9 :: a10 :: a11 :: a12 :: a13 :: a14 :: a15 :: a16 :: a17 :: some (.int x) :: r) (st) h Po) : mw_W y d kc ks (pc) (a0 :: a1 :: a2 :: a3 :: a4 :: a5 :: a6 :: a7 :: a8 :: a9 :: a10 :: a11 :: a12 :: a13 :: a14 :: a15 :: a16 :: a17 :: a18 :: r) (.int x :: st) h Po := by
  intro G p l e R s m args below meth c mc msl H locs cells slots lsA C hc hs hR hS hL
  obtain ⟨hx, hb, hr, hml, hown, hlk, htr, htab, hnm, hRf, hRl, hRc, hRs, hK⟩ := id C
  exact lv_istore (x := x) hx hb dg (mw_al_has hL) hn rfl (fun ls9 h9 => k G p l e R s m args below meth c mc msl H locs cells slots ls9 C hc hs hR hS (mw_L_set (ls := a0 :: a1 :: a2 :: a3 :: a4 :: a5 :: a6 :: a7 :: a8 :: a9 :: a10 :: a11 :: a12 :: a13 :: a14 :: a15 :: a16 :: a17 :: a18 :: r) (i := 18) (v := .int x) hL rfl rfl h9))
theorem mw_iinc_18 {n : Int} {x v : Int32} {a0 a1 a2 a3 a4 a5 a6 a7 a8 a9 a10 a11 a12 a13 a14 a15 a16 a17 : Option Value} {r : List (Option Value)} (dg : decode y.2.1 pc = .ok (.iinc 18 n, 3)) (hn : 18 < y.2.2.1) (hv : x + Int32.ofInt n = v) (k : mw_W y d kc ks (pc + 3) (a0 :: a1 :: a2 :: a3 :: a4 :: a5 :: a6 :: a7 :: a8 :: a9 :: a10 :: a11 :: a12 :: a13 :: a14 :: a15 :: a16 :: a17 :: some (.int v) :: r) (st) h Po) : mw_W y d kc ks (pc) (a0 :: a1 :: a2 :: a3 :: a4 :: a5 :: a6 :: a7 :: a8 :: a9 :: a10 :: a11 :: a12 :: a13 :: a14 :: a15 :: a16 :: a17 :: some (.int x) :: r) (st) h Po := by
  intro G p l e R s m args below meth c mc msl H locs cells slots lsA C hc hs hR hS hL
  obtain ⟨hx, hb, hr, hml, hown, hlk, htr, htab, hnm, hRf, hRl, hRc, hRs, hK⟩ := id C
  obtain ⟨k9, hk9⟩ := List.getElem?_of_mem (mw_al_mem (G := G) (ls := a0 :: a1 :: a2 :: a3 :: a4 :: a5 :: a6 :: a7 :: a8 :: a9 :: a10 :: a11 :: a12 :: a13 :: a14 :: a15 :: a16 :: a17 :: some (.int x) :: r) (i := 18) (v := .int x) rfl rfl)
  exact lv_iinc hx hb dg (mw_al_has hL) hk9 hv hn rfl (fun ls9 h9 => k G p l e R s m args below meth c mc msl H locs cells slots ls9 C hc hs hR hS (mw_L_set (ls := a0 :: a1 :: a2 :: a3 :: a4 :: a5 :: a6 :: a7 :: a8 :: a9 :: a10 :: a11 :: a12 :: a13 :: a14 :: a15 :: a16 :: a17 :: some (.int x) :: r) (i := 18) (v := .int v) hL rfl rfl h9))
theorem mw_istore_19 {a0 a1 a2 a3 a4 a5 a6 a7 a8 a9 a10 a11 a12 a13 a14 a15 a16 a17 a18 a19 : Option Value} {r : List (Option Value)} {x : Int32} (dg : decode y.2.1 pc = .ok (.istore 19, 2)) (hn : 19 < y.2.2.1) (k : mw_W y d kc ks (pc + 2) (a0 :: a1 :: a2 :: a3 :: a4 :: a5 :: a6 :: a7 :: a8 :: a9 :: a10 :: a11 :: a12 :: a13 :: a14 :: a15 :: a16 :: a17 :: a18 :: some (.int x) :: r) (st) h Po) : mw_W y d kc ks (pc) (a0 :: a1 :: a2 :: a3 :: a4 :: a5 :: a6 :: a7 :: a8 :: a9 :: a10 :: a11 :: a12 :: a13 :: a14 :: a15 :: a16 :: a17 :: a18 :: a19 :: r) (.int x :: st) h Po := by
  intro G p l e R s m args below meth c mc msl H locs cells slots lsA C hc hs hR hS hL
  obtain ⟨hx, hb, hr, hml, hown, hlk, htr, htab, hnm, hRf, hRl, hRc, hRs, hK⟩ := id C
  exact lv_istore (x := x) hx hb dg (mw_al_has hL) hn rfl (fun ls9 h9 => k G p l e R s m args below meth c mc msl H locs cells slots ls9 C hc hs hR hS (mw_L_set (ls := a0 :: a1 :: a2 :: a3 :: a4 :: a5 :: a6 :: a7 :: a8 :: a9 :: a10 :: a11 :: a12 :: a13 :: a14 :: a15 :: a16 :: a17 :: a18 :: a19 :: r) (i := 19) (v := .int x) hL rfl rfl h9))
theorem mw_istore_20 {a0 a1 a2 a3 a4 a5 a6 a7 a8 a9 a10 a11 a12 a13 a14 a15 a16 a17 a18 a19 a20 : Option Value} {r : List (Option Value)} {x : Int32} (dg : decode y.2.1 pc = .ok (.istore 20, 2)) (hn : 20 < y.2.2.1) (k : mw_W y d kc ks (pc + 2) (a0 :: a1 :: a2 :: a3 :: a4 :: a5 :: a6 :: a7 :: a8 :: a9 :: a10 :: a11 :: a12 :: a13 :: a14 :: a15 :: a16 :: a17 :: a18 :: a19 :: some (.int x) :: r) (st) h Po) : mw_W y d kc ks (pc) (a0 :: a1 :: a2 :: a3 :: a4 :: a5 :: a6 :: a7 :: a8 :: a9 :: a10 :: a11 :: a12 :: a13 :: a14 :: a15 :: a16 :: a17 :: a18 :: a19 :: a20 :: r) (.int x :: st) h Po := by
  intro G p l e R s m args below meth c mc msl H locs cells slots lsA C hc hs hR hS hL
  obtain ⟨hx, hb, hr, hml, hown, hlk, htr, htab, hnm, hRf, hRl, hRc, hRs, hK⟩ := id C
  exact lv_istore (x := x) hx hb dg (mw_al_has hL) hn rfl (fun ls9 h9 => k G p l e R s m args below meth c mc msl H locs cells slots ls9 C hc hs hR hS (mw_L_set (ls := a0 :: a1 :: a2 :: a3 :: a4 :: a5 :: a6 :: a7 :: a8 :: a9 :: a10 :: a11 :: a12 :: a13 :: a14 :: a15 :: a16 :: a17 :: a18 :: a19 :: a20 :: r) (i := 20) (v := .int x) hL rfl rfl h9))
theorem mw_istore_21 {a0 a1 a2 a3 a4 a5 a6 a7 a8 a9 a10 a11 a12 a13 a14 a15 a16 a17 a18 a19 a20 a21 : Option Value} {r : List (Option Value)} {x : Int32} (dg : decode y.2.1 pc = .ok (.istore 21, 2)) (hn : 21 < y.2.2.1) (k : mw_W y d kc ks (pc + 2) (a0 :: a1 :: a2 :: a3 :: a4 :: a5 :: a6 :: a7 :: a8 :: a9 :: a10 :: a11 :: a12 :: a13 :: a14 :: a15 :: a16 :: a17 :: a18 :: a19 :: a20 :: some (.int x) :: r) (st) h Po) : mw_W y d kc ks (pc) (a0 :: a1 :: a2 :: a3 :: a4 :: a5 :: a6 :: a7 :: a8 :: a9 :: a10 :: a11 :: a12 :: a13 :: a14 :: a15 :: a16 :: a17 :: a18 :: a19 :: a20 :: a21 :: r) (.int x :: st) h Po := by
  intro G p l e R s m args below meth c mc msl H locs cells slots lsA C hc hs hR hS hL
  obtain ⟨hx, hb, hr, hml, hown, hlk, htr, htab, hnm, hRf, hRl, hRc, hRs, hK⟩ := id C
  exact lv_istore (x := x) hx hb dg (mw_al_has hL) hn rfl (fun ls9 h9 => k G p l e R s m args below meth c mc msl H locs cells slots ls9 C hc hs hR hS (mw_L_set (ls := a0 :: a1 :: a2 :: a3 :: a4 :: a5 :: a6 :: a7 :: a8 :: a9 :: a10 :: a11 :: a12 :: a13 :: a14 :: a15 :: a16 :: a17 :: a18 :: a19 :: a20 :: a21 :: r) (i := 21) (v := .int x) hL rfl rfl h9))
theorem mw_iinc_21 {n : Int} {x v : Int32} {a0 a1 a2 a3 a4 a5 a6 a7 a8 a9 a10 a11 a12 a13 a14 a15 a16 a17 a18 a19 a20 : Option Value} {r : List (Option Value)} (dg : decode y.2.1 pc = .ok (.iinc 21 n, 3)) (hn : 21 < y.2.2.1) (hv : x + Int32.ofInt n = v) (k : mw_W y d kc ks (pc + 3) (a0 :: a1 :: a2 :: a3 :: a4 :: a5 :: a6 :: a7 :: a8 :: a9 :: a10 :: a11 :: a12 :: a13 :: a14 :: a15 :: a16 :: a17 :: a18 :: a19 :: a20 :: some (.int v) :: r) (st) h Po) : mw_W y d kc ks (pc) (a0 :: a1 :: a2 :: a3 :: a4 :: a5 :: a6 :: a7 :: a8 :: a9 :: a10 :: a11 :: a12 :: a13 :: a14 :: a15 :: a16 :: a17 :: a18 :: a19 :: a20 :: some (.int x) :: r) (st) h Po := by
  intro G p l e R s m args below meth c mc msl H locs cells slots lsA C hc hs hR hS hL
  obtain ⟨hx, hb, hr, hml, hown, hlk, htr, htab, hnm, hRf, hRl, hRc, hRs, hK⟩ := id C
  obtain ⟨k9, hk9⟩ := List.getElem?_of_mem (mw_al_mem (G := G) (ls := a0 :: a1 :: a2 :: a3 :: a4 :: a5 :: a6 :: a7 :: a8 :: a9 :: a10 :: a11 :: a12 :: a13 :: a14 :: a15 :: a16 :: a17 :: a18 :: a19 :: a20 :: some (.int x) :: r) (i := 21) (v := .int x) rfl rfl)
  exact lv_iinc hx hb dg (mw_al_has hL) hk9 hv hn rfl (fun ls9 h9 => k G p l e R s m args below meth c mc msl H locs cells slots ls9 C hc hs hR hS (mw_L_set (ls := a0 :: a1 :: a2 :: a3 :: a4 :: a5 :: a6 :: a7 :: a8 :: a9 :: a10 :: a11 :: a12 :: a13 :: a14 :: a15 :: a16 :: a17 :: a18 :: a19 :: a20 :: some (.int x) :: r) (i := 21) (v := .int v) hL rfl rfl h9))
theorem mw_istore_22 {a0 a1 a2 a3 a4 a5 a6 a7 a8 a9 a10 a11 a12 a13 a14 a15 a16 a17 a18 a19 a20 a21 a22 : Option Value} {r : List (Option Value)} {x : Int32} (dg : decode y.2.1 pc = .ok (.istore 22, 2)) (hn : 22 < y.2.2.1) (k : mw_W y d kc ks (pc + 2) (a0 :: a1 :: a2 :: a3 :: a4 :: a5 :: a6 :: a7 :: a8 :: a9 :: a10 :: a11 :: a12 :: a13 :: a14 :: a15 :: a16 :: a17 :: a18 :: a19 :: a20 :: a21 :: some (.int x) :: r) (st) h Po) : mw_W y d kc ks (pc) (a0 :: a1 :: a2 :: a3 :: a4 :: a5 :: a6 :: a7 :: a8 :: a9 :: a10 :: a11 :: a12 :: a13 :: a14 :: a15 :: a16 :: a17 :: a18 :: a19 :: a20 :: a21 :: a22 :: r) (.int x :: st) h Po := by
  intro G p l e R s m args below meth c mc msl H locs cells slots lsA C hc hs hR hS hL
  obtain ⟨hx, hb, hr, hml, hown, hlk, htr, htab, hnm, hRf, hRl, hRc, hRs, hK⟩ := id C
  exact lv_istore (x := x) hx hb dg (mw_al_has hL) hn rfl (fun ls9 h9 => k G p l e R s m args below meth c mc msl H locs cells slots ls9 C hc hs hR hS (mw_L_set (ls := a0 :: a1 :: a2 :: a3 :: a4 :: a5 :: a6 :: a7 :: a8 :: a9 :: a10 :: a11 :: a12 :: a13 :: a14 :: a15 :: a16 :: a17 :: a18 :: a19 :: a20 :: a21 :: a22 :: r) (i := 22) (v := .int x) hL rfl rfl h9))
theorem mw_iinc_22 {n : Int} {x v : Int32} {a0 a1 a2 a3 a4 a5 a6 a7 a8 a9 a10 a11 a12 a13 a14 a15 a16 a17 a18 a19 a20 a21 : Option Value} {r : List (Option Value)} (dg : decode y.2.1 pc = .ok (.iinc 22 n, 3)) (hn : 22 < y.2.2.1) (hv : x + Int32.ofInt n = v) (k : mw_W y d kc ks (pc + 3) (a0 :: a1 :: a2 :: a3 :: a4 :: a5 :: a6 :: a7 :: a8 :: a9 :: a10 :: a11 :: a12 :: a13 :: a14 :: a15 :: a16 :: a17 :: a18 :: a19 :: a20 :: a21 :: some (.int v) :: r) (st) h Po) : mw_W y d kc ks (pc) (a0 :: a1 :: a2 :: a3 :: a4 :: a5 :: a6 :: a7 :: a8 :: a9 :: a10 :: a11 :: a12 :: a13 :: a14 :: a15 :: a16 :: a17 :: a18 :: a19 :: a20 :: a21 :: some (.int x) :: r) (st) h Po := by
  intro G p l e R s m args below meth c mc msl H locs cells slots lsA C hc hs hR hS hL
  obtain ⟨hx, hb, hr, hml, hown, hlk, htr, htab, hnm, hRf, hRl, hRc, hRs, hK⟩ := id C
  obtain ⟨k9, hk9⟩ := List.getElem?_of_mem (mw_al_mem (G := G) (ls := a0 :: a1 :: a2 :: a3 :: a4 :: a5 :: a6 :: a7 :: a8 :: a9 :: a10 :: a11 :: a12 :: a13 :: a14 :: a15 :: a16 :: a17 :: a18 :: a19 :: a20 :: a21 :: some (.int x) :: r) (i := 22) (v := .int x) rfl rfl)
  exact lv_iinc hx hb dg (mw_al_has hL) hk9 hv hn rfl (fun ls9 h9 => k G p l e R s m args below meth c mc msl H locs cells slots ls9 C hc hs hR hS (mw_L_set (ls := a0 :: a1 :: a2 :: a3 :: a4 :: a5 :: a6 :: a7 :: a8 :: a9 :: a10 :: a11 :: a12 :: a13 :: a14 :: a15 :: a16 :: a17 :: a18 :: a19 :: a20 :: a21 :: some (.int x) :: r) (i := 22) (v := .int v) hL rfl rfl h9))
theorem mw_istore_23 {a0 a1 a2 a3 a4 a5 a6 a7 a8 a9 a10 a11 a12 a13 a14 a15 a16 a17 a18 a19 a20 a21 a22 a23 : Option Value} {r : List (Option Value)} {x : Int32} (dg : decode y.2.1 pc = .ok (.istore 23, 2)) (hn : 23 < y.2.2.1) (k : mw_W y d kc ks (pc + 2) (a0 :: a1 :: a2 :: a3 :: a4 :: a5 :: a6 :: a7 :: a8 :: a9 :: a10 :: a11 :: a12 :: a13 :: a14 :: a15 :: a16 :: a17 :: a18 :: a19 :: a20 :: a21 :: a22 :: some (.int x) :: r) (st) h Po) : mw_W y d kc ks (pc) (a0 :: a1 :: a2 :: a3 :: a4 :: a5 :: a6 :: a7 :: a8 :: a9 :: a10 :: a11 :: a12 :: a13 :: a14 :: a15 :: a16 :: a17 :: a18 :: a19 :: a20 :: a21 :: a22 :: a23 :: r) (.int x :: st) h Po := by
  intro G p l e R s m args below meth c mc msl H locs cells slots lsA C hc hs hR hS hL
  obtain ⟨hx, hb, hr, hml, hown, hlk, htr, htab, hnm, hRf, hRl, hRc, hRs, hK⟩ := id C
  exact lv_istore (x := x) hx hb dg (mw_al_has hL) hn rfl (fun ls9 h9 => k G p l e R s m args below meth c mc msl H locs cells slots ls9 C hc hs hR hS (mw_L_set (ls := a0 :: a1 :: a2 :: a3 :: a4 :: a5 :: a6 :: a7 :: a8 :: a9 :: a10 :: a11 :: a12 :: a13 :: a14 :: a15 :: a16 :: a17 :: a18 :: a19 :: a20 :: a21 :: a22 :: a23 :: r) (i := 23) (v := .int x) hL rfl rfl h9))
theorem mw_istore_24 {a0 a1 a2 a3 a4 a5 a6 a7 a8 a9 a10 a11 a12 a13 a14 a15 a16 a17 a18 a19 a20 a21 a22 a23 a24 : Option Value} {r : List (Option Value)} {x : Int32} (dg : decode y.2.1 pc = .ok (.istore 24, 2)) (hn : 24 < y.2.2.1) (k : mw_W y d kc ks (pc + 2) (a0 :: a1 :: a2 :: a3 :: a4 :: a5 :: a6 :: a7 :: a8 :: a9 :: a10 :: a11 :: a12 :: a13 :: a14 :: a15 :: a16 :: a17 :: a18 :: a19 :: a20 :: a21 :: a22 :: a23 :: some (.int x) :: r) (st) h Po) : mw_W y d kc ks (pc) (a0 :: a1 :: a2 :: a3 :: a4 :: a5 :: a6 :: a7 :: a8 :: a9 :: a10 :: a11 :: a12 :: a13 :: a14 :: a15 :: a16 :: a17 :: a18 :: a19 :: a20 :: a21 :: a22 :: a23 :: a24 :: r) (.int x :: st) h Po := by
  intro G p l e R s m args below meth c mc msl H locs cells slots lsA C hc hs hR hS hL
  obtain ⟨hx, hb, hr, hml, hown, hlk, htr, htab, hnm, hRf, hRl, hRc, hRs, hK⟩ := id C
  exact lv_istore (x := x) hx hb dg (mw_al_has hL) hn rfl (fun ls9 h9 => k G p l e R s m args below meth c mc msl H locs cells slots ls9 C hc hs hR hS (mw_L_set (ls := a0 :: a1 :: a2 :: a3 :: a4 :: a5 :: a6 :: a7 :: a8 :: a9 :: a10 :: a11 :: a12 :: a13 :: a14 :: a15 :: a16 :: a17 :: a18 :: a19 :: a20 :: a21 :: a22 :: a23 :: a24 :: r) (i := 24) (v := .int x) hL rfl rfl h9))
theorem mw_istore_25 {a0 a1 a2 a3 a4 a5 a6 a7 a8 a9 a10 a11 a12 a13 a14 a15 a16 a17 a18 a19 a20 a21 a22 a23 a24 a25 : Option Value} {r : List (Option Value)} {x : Int32} (dg : decode y.2.1 pc = .ok (.istore 25, 2)) (hn : 25 < y.2.2.1) (k : mw_W y d kc ks (pc + 2) (a0 :: a1 :: a2 :: a3 :: a4 :: a5 :: a6 :: a7 :: a8 :: a9 :: a10 :: a11 :: a12 :: a13 :: a14 :: a15 :: a16 :: a17 :: a18 :: a19 :: a20 :: a21 :: a22 :: a23 :: a24 :: some (.int x) :: r) (st) h Po) : mw_W y d kc ks (pc) (a0 :: a1 :: a2 :: a3 :: a4 :: a5 :: a6 :: a7 :: a8 :: a9 :: a10 :: a11 :: a12 :: a13 :: a14 :: a15 :: a16 :: a17 :: a18 :: a19 :: a20 :: a21 :: a22 :: a23 :: a24 :: a25 :: r) (.int x :: st) h Po := by
  intro G p l e R s m args below meth c mc msl H locs cells slots lsA C hc hs hR hS hL
  obtain ⟨hx, hb, hr, hml, hown, hlk, htr, htab, hnm, hRf, hRl, hRc, hRs, hK⟩ := id C
  exact lv_istore (x := x) hx hb dg (mw_al_has hL) hn rfl (fun ls9 h9 => k G p l e R s m args below meth c mc msl H locs cells slots ls9 C hc hs hR hS (mw_L_set (ls := a0 :: a1 :: a2 :: a3 :: a4 :: a5 :: a6 :: a7 :: a8 :: a9 :: a10 :: a11 :: a12 :: a13 :: a14 :: a15 :: a16 :: a17 :: a18 :: a19 :: a20 :: a21 :: a22 :: a23 :: a24 :: a25 :: r) (i := 25) (v := .int x) hL rfl rfl h9))
theorem mw_istore_26 {a0 a1 a2 a3 a4 a5 a6 a7 a8 a9 a10 a11 a12 a13 a14 a15 a16 a17 a18 a19 a20 a21 a22 a23 a24 a25 a26 : Option Value} {r : List (Option Value)} {x : Int32} (dg : decode y.2.1 pc = .ok (.istore 26, 2)) (hn : 26 < y.2.2.1) (k : mw_W y d kc ks (pc + 2) (a0 :: a1 :: a2 :: a3 :: a4 :: a5 :: a6 :: a7 :: a8 :: a9 :: a10 :: a11 :: a12 :: a13 :: a14 :: a15 :: a16 :: a17 :: a18 :: a19 :: a20 :: a21 :: a22 :: a23 :: a24 :: a25 :: some (.int x) :: r) (st) h Po) : mw_W y d kc ks (pc) (a0 :: a1 :: a2 :: a3 :: a4 :: a5 :: a6 :: a7 :: a8 :: a9 :: a10 :: a11 :: a12 :: a13 :: a14 :: a15 :: a16 :: a17 :: a18 :: a19 :: a20 :: a21 :: a22 :: a23 :: a24 :: a25 :: a26 :: r) (.int x :: st) h Po := by
  intro G p l e R s m args below meth c mc msl H locs cells slots lsA C hc hs hR hS hL
  obtain ⟨hx, hb, hr, hml, hown, hlk, htr, htab, hnm, hRf, hRl, hRc, hRs, hK⟩ := id C
  exact lv_istore (x := x) hx hb dg (mw_al_has hL) hn rfl (fun ls9 h9 => k G p l e R s m args below meth c mc msl H locs cells slots ls9 C hc hs hR hS (mw_L_set (ls := a0 :: a1 :: a2 :: a3 :: a4 :: a5 :: a6 :: a7 :: a8 :: a9 :: a10 :: a11 :: a12 :: a13 :: a14 :: a15 :: a16 :: a17 :: a18 :: a19 :: a20 :: a21 :: a22 :: a23 :: a24 :: a25 :: a26 :: r) (i := 26) (v := .int x) hL rfl rfl h9))
theorem mw_lstore_27 {a0 a1 a2 a3 a4 a5 a6 a7 a8 a9 a10 a11 a12 a13 a14 a15 a16 a17 a18 a19 a20 a21 a22 a23 a24 a25 a26 a27 a28 : Option Value} {r : List (Option Value)} {x : Int64} (dg : decode y.2.1 pc = .ok (.lstore 27, 2)) (hn : 27 + 1 < y.2.2.1) (k : mw_W y d kc ks (pc + 2) (a0 :: a1 :: a2 :: a3 :: a4 :: a5 :: a6 :: a7 :: a8 :: a9 :: a10 :: a11 :: a12 :: a13 :: a14 :: a15 :: a16 :: a17 :: a18 :: a19 :: a20 :: a21 :: a22 :: a23 :: a24 :: a25 :: a26 :: some (.long x) :: none :: r) (st) h Po) : mw_W y d kc ks (pc) (a0 :: a1 :: a2 :: a3 :: a4 :: a5 :: a6 :: a7 :: a8 :: a9 :: a10 :: a11 :: a12 :: a13 :: a14 :: a15 :: a16 :: a17 :: a18 :: a19 :: a20 :: a21 :: a22 :: a23 :: a24 :: a25 :: a26 :: a27 :: a28 :: r) (.long x :: st) h Po := by
  intro G p l e R s m args below meth c mc msl H locs cells slots lsA C hc hs hR hS hL
  obtain ⟨hx, hb, hr, hml, hown, hlk, htr, htab, hnm, hRf, hRl, hRc, hRs, hK⟩ := id C
  exact lv_lstore (x := x) hx hb dg (mw_al_has hL) hn rfl (fun ls9 h9 => k G p l e R s m args below meth c mc msl H locs cells slots ls9 C hc hs hR hS (mw_L_set2 (ls := a0 :: a1 :: a2 :: a3 :: a4 :: a5 :: a6 :: a7 :: a8 :: a9 :: a10 :: a11 :: a12 :: a13 :: a14 :: a15 :: a16 :: a17 :: a18 :: a19 :: a20 :: a21 :: a22 :: a23 :: a24 :: a25 :: a26 :: a27 :: a28 :: r) (i := 27) (v := .long x) hL rfl h9))
theorem mw_lstore_29 {a0 a1 a2 a3 a4 a5 a6 a7 a8 a9 a10 a11 a12 a13 a14 a15 a16 a17 a18 a19 a20 a21 a22 a23 a24 a25 a26 a27 a28 a29 a30 : Option Value} {r : List (Option Value)} {x : Int64} (dg : decode y.2.1 pc = .ok (.lstore 29, 2)) (hn : 29 + 1 < y.2.2.1) (k : mw_W y d kc ks (pc + 2) (a0 :: a1 :: a2 :: a3 :: a4 :: a5 :: a6 :: a7 :: a8 :: a9 :: a10 :: a11 :: a12 :: a13 :: a14 :: a15 :: a16 :: a17 :: a18 :: a19 :: a20 :: a21 :: a22 :: a23 :: a24 :: a25 :: a26 :: a27 :: a28 :: some (.long x) :: none :: r) (st) h Po) : mw_W y d kc ks (pc) (a0 :: a1 :: a2 :: a3 :: a4 :: a5 :: a6 :: a7 :: a8 :: a9 :: a10 :: a11 :: a12 :: a13 :: a14 :: a15 :: a16 :: a17 :: a18 :: a19 :: a20 :: a21 :: a22 :: a23 :: a24 :: a25 :: a26 :: a27 :: a28 :: a29 :: a30 :: r) (.long x :: st) h Po := by
  intro G p l e R s m args below meth c mc msl H locs cells slots lsA C hc hs hR hS hL
  obtain ⟨hx, hb, hr, hml, hown, hlk, htr, htab, hnm, hRf, hRl, hRc, hRs, hK⟩ := id C
  exact lv_lstore (x := x) hx hb dg (mw_al_has hL) hn rfl (fun ls9 h9 => k G p l e R s m args below meth c mc msl H locs cells slots ls9 C hc hs hR hS (mw_L_set2 (ls := a0 :: a1 :: a2 :: a3 :: a4 :: a5 :: a6 :: a7 :: a8 :: a9 :: a10 :: a11 :: a12 :: a13 :: a14 :: a15 :: a16 :: a17 :: a18 :: a19 :: a20 :: a21 :: a22 :: a23 :: a24 :: a25 :: a26 :: a27 :: a28 :: a29 :: a30 :: r) (i := 29) (v := .long x) hL rfl h9))
theorem mw_istore_31 {a0 a1 a2 a3 a4 a5 a6 a7 a8 a9 a10 a11 a12 a13 a14 a15 a16 a17 a18 a19 a20 a21 a22 a23 a24 a25 a26 a27 a28 a29 a30 a31 : Option Value} {r : List (Option Value)} {x : Int32} (dg : decode y.2.1 pc = .ok (.istore 31, 2)) (hn : 31 < y.2.2.1) (k : mw_W y d kc ks (pc + 2) (a0 :: a1 :: a2 :: a3 :: a4 :: a5 :: a6 :: a7 :: a8 :: a9 :: a10 :: a11 :: a12 :: a13 :: a14 :: a15 :: a16 :: a17 :: a18 :: a19 :: a20 :: a21 :: a22 :: a23 :: a24 :: a25 :: a26 :: a27 :: a28 :: a29 :: a30 :: some (.int x) :: r) (st) h Po) : mw_W y d kc ks (pc) (a0 :: a1 :: a2 :: a3 :: a4 :: a5 :: a6 :: a7 :: a8 :: a9 :: a10 :: a11 :: a12 :: a13 :: a14 :: a15 :: a16 :: a17 :: a18 :: a19 :: a20 :: a21 :: a22 :: a23 :: a24 :: a25 :: a26 :: a27 :: a28 :: a29 :: a30 :: a31 :: r) (.int x :: st) h Po := by
  intro G p l e R s m args below meth c mc msl H locs cells slots lsA C hc hs hR hS hL
  obtain ⟨hx, hb, hr, hml, hown, hlk, htr, htab, hnm, hRf, hRl, hRc, hRs, hK⟩ := id C
  exact lv_istore (x := x) hx hb dg (mw_al_has hL) hn rfl (fun ls9 h9 => k G p l e R s m args below meth c mc msl H locs cells slots ls9 C hc hs hR hS (mw_L_set (ls := a0 :: a1 :: a2 :: a3 :: a4 :: a5 :: a6 :: a7 :: a8 :: a9 :: a10 :: a11 :: a12 :: a13 :: a14 :: a15 :: a16 :: a17 :: a18 :: a19 :: a20 :: a21 :: a22 :: a23 :: a24 :: a25 :: a26 :: a27 :: a28 :: a29 :: a30 :: a31 :: r) (i := 31) (v := .int x) hL rfl rfl h9))
theorem mw_istore_32 {a0 a1 a2 a3 a4 a5 a6 a7 a8 a9 a10 a11 a12 a13 a14 a15 a16 a17 a18 a19 a20 a21 a22 a23 a24 a25 a26 a27 a28 a29 a30 a31 a32 : Option Value} {r : List (Option Value)} {x : Int32} (dg : decode y.2.1 pc = .ok (.istore 32, 2)) (hn : 32 < y.2.2.1) (k : mw_W y d kc ks (pc + 2) (a0 :: a1 :: a2 :: a3 :: a4 :: a5 :: a6 :: a7 :: a8 :: a9 :: a10 :: a11 :: a12 :: a13 :: a14 :: a15 :: a16 :: a17 :: a18 :: a19 :: a20 :: a21 :: a22 :: a23 :: a24 :: a25 :: a26 :: a27 :: a28 :: a29 :: a30 :: a31 :: some (.int x) :: r) (st) h Po) : mw_W y d kc ks (pc) (a0 :: a1 :: a2 :: a3 :: a4 :: a5 :: a6 :: a7 :: a8 :: a9 :: a10 :: a11 :: a12 :: a13 :: a14 :: a15 :: a16 :: a17 :: a18 :: a19 :: a20 :: a21 :: a22 :: a23 :: a24 :: a25 :: a26 :: a27 :: a28 :: a29 :: a30 :: a31 :: a32 :: r) (.int x :: st) h Po := by
  intro G p l e R s m args below meth c mc msl H locs cells slots lsA C hc hs hR hS hL
  obtain ⟨hx, hb, hr, hml, hown, hlk, htr, htab, hnm, hRf, hRl, hRc, hRs, hK⟩ := id C
  exact lv_istore (x := x) hx hb dg (mw_al_has hL) hn rfl (fun ls9 h9 => k G p l e R s m args below meth c mc msl H locs cells slots ls9 C hc hs hR hS (mw_L_set (ls := a0 :: a1 :: a2 :: a3 :: a4 :: a5 :: a6 :: a7 :: a8 :: a9 :: a10 :: a11 :: a12 :: a13 :: a14 :: a15 :: a16 :: a17 :: a18 :: a19 :: a20 :: a21 :: a22 :: a23 :: a24 :: a25 :: a26 :: a27 :: a28 :: a29 :: a30 :: a31 :: a32 :: r) (i := 32) (v := .int x) hL rfl rfl h9))
theorem mw_lstore_33 {a0 a1 a2 a3 a4 a5 a6 a7 a8 a9 a10 a11 a12 a13 a14 a15 a16 a17 a18 a19 a20 a21 a22 a23 a24 a25 a26 a27 a28 a29 a30 a31 a32 a33 a34 : Option Value} {r : List (Option Value)} {x : Int64} (dg : decode y.2.1 pc = .ok (.lstore 33, 2)) (hn : 33 + 1 < y.2.2.1) (k : mw_W y d kc ks (pc + 2) (a0 :: a1 :: a2 :: a3 :: a4 :: a5 :: a6 :: a7 :: a8 :: a9 :: a10 :: a11 :: a12 :: a13 :: a14 :: a15 :: a16 :: a17 :: a18 :: a19 :: a20 :: a21 :: a22 :: a23 :: a24 :: a25 :: a26 :: a27 :: a28 :: a29 :: a30 :: a31 :: a32 :: some (.long x) :: none :: r) (st) h Po) : mw_W y d kc ks (pc) (a0 :: a1 :: a2 :: a3 :: a4 :: a5 :: a6 :: a7 :: a8 :: a9 :: a10 :: a11 :: a12 :: a13 :: a14 :: a15 :: a16 :: a17 :: a18 :: a19 :: a20 :: a21 :: a22 :: a23 :: a24 :: a25 :: a26 :: a27 :: a28 :: a29 :: a30 :: a31 :: a32 :: a33 :: a34 :: r) (.long x :: st) h Po := by
  intro G p l e R s m args below meth c mc msl H locs cells slots lsA C hc hs hR hS hL
  obtain ⟨hx, hb, hr, hml, hown, hlk, htr, htab, hnm, hRf, hRl, hRc, hRs, hK⟩ := id C
  exact lv_lstore (x := x) hx hb dg (mw_al_has hL) hn rfl (fun ls9 h9 => k G p l e R s m args below meth c mc msl H locs cells slots ls9 C hc hs hR hS (mw_L_set2 (ls := a0 :: a1 :: a2 :: a3 :: a4 :: a5 :: a6 :: a7 :: a8 :: a9 :: a10 :: a11 :: a12 :: a13 :: a14 :: a15 :: a16 :: a17 :: a18 :: a19 :: a20 :: a21 :: a22 :: a23 :: a24 :: a25 :: a26 :: a27 :: a28 :: a29 :: a30 :: a31 :: a32 :: a33 :: a34 :: r) (i := 33) (v := .long x) hL rfl h9))
theorem mw_lstore_35 {a0 a1 a2 a3 a4 a5 a6 a7 a8 a9 a10 a11 a12 a13 a14 a15 a16 a17 a18 a19 a20 a21 a22 a23 a24 a25 a26 a27 a28 a29 a30 a31 a32 a33 a34 a35 a36 : Option Value} {r : List (Option Value)} {x : Int64} (dg : decode y.2.1 pc = .ok (.lstore 35, 2)) (hn : 35 + 1 < y.2.2.1) (k : mw_W y d kc ks (pc + 2) (a0 :: a1 :: a2 :: a3 :: a4 :: a5 :: a6 :: a7 :: a8 :: a9 :: a10 :: a11 :: a12 :: a13 :: a14 :: a15 :: a16 :: a17 :: a18 :: a19 :: a20 :: a21 :: a22 :: a23 :: a24 :: a25 :: a26 :: a27 :: a28 :: a29 :: a30 :: a31 :: a32 :: a33 :: a34 :: some (.long x) :: none :: r) (st) h Po) : mw_W y d kc ks (pc) (a0 :: a1 :: a2 :: a3 :: a4 :: a5 :: a6 :: a7 :: a8 :: a9 :: a10 :: a11 :: a12 :: a13 :: a14 :: a15 :: a16 :: a17 :: a18 :: a19 :: a20 :: a21 :: a22 :: a23 :: a24 :: a25 :: a26 :: a27 :: a28 :: a29 :: a30 :: a31 :: a32 :: a33 :: a34 :: a35 :: a36 :: r) (.long x :: st) h Po := by
  intro G p l e R s m args below meth c mc msl H locs cells slots lsA C hc hs hR hS hL
  obtain ⟨hx, hb, hr, hml, hown, hlk, htr, htab, hnm, hRf, hRl, hRc, hRs, hK⟩ := id C
  exact lv_lstore (x := x) hx hb dg (mw_al_has hL) hn rfl (fun ls9 h9 => k G p l e R s m args below meth c mc msl H locs cells slots ls9 C hc hs hR hS (mw_L_set2 (ls := a0 :: a1 :: a2 :: a3 :: a4 :: a5 :: a6 :: a7 :: a8 :: a9 :: a10 :: a11 :: a12 :: a13 :: a14 :: a15 :: a16 :: a17 :: a18 :: a19 :: a20 :: a21 :: a22 :: a23 :: a24 :: a25 :: a26 :: a27 :: a28 :: a29 :: a30 :: a31 :: a32 :: a33 :: a34 :: a35 :: a36 :: r) (i := 35) (v := .long x) hL rfl h9))
theorem mw_istore_37 {a0 a1 a2 a3 a4 a5 a6 a7 a8 a9 a10 a11 a12 a13 a14 a15 a16 a17 a18 a19 a20 a21 a22 a23 a24 a25 a26 a27 a28 a29 a30 a31 a32 a33 a34 a35 a36 a37 : Option Value} {r : List (Option Value)} {x : Int32} (dg : decode y.2.1 pc = .ok (.istore 37, 2)) (hn : 37 < y.2.2.1) (k : mw_W y d kc ks (pc + 2) (a0 :: a1 :: a2 :: a3 :: a4 :: a5 :: a6 :: a7 :: a8 :: a9 :: a10 :: a11 :: a12 :: a13 :: a14 :: a15 :: a16 :: a17 :: a18 :: a19 :: a20 :: a21 :: a22 :: a23 :: a24 :: a25 :: a26 :: a27 :: a28 :: a29 :: a30 :: a31 :: a32 :: a33 :: a34 :: a35 :: a36 :: some (.int x) :: r) (st) h Po) : mw_W y d kc ks (pc) (a0 :: a1 :: a2 :: a3 :: a4 :: a5 :: a6 :: a7 :: a8 :: a9 :: a10 :: a11 :: a12 :: a13 :: a14 :: a15 :: a16 :: a17 :: a18 :: a19 :: a20 :: a21 :: a22 :: a23 :: a24 :: a25 :: a26 :: a27 :: a28 :: a29 :: a30 :: a31 :: a32 :: a33 :: a34 :: a35 :: a36 :: a37 :: r) (.int x :: st) h Po := by
  intro G p l e R s m args below meth c mc msl H locs cells slots lsA C hc hs hR hS hL
  obtain ⟨hx, hb, hr, hml, hown, hlk, htr, htab, hnm, hRf, hRl, hRc, hRs, hK⟩ := id C
  exact lv_istore (x := x) hx hb dg (mw_al_has hL) hn rfl (fun ls9 h9 => k G p l e R s m args below meth c mc msl H locs cells slots ls9 C hc hs hR hS (mw_L_set (ls := a0 :: a1 :: a2 :: a3 :: a4 :: a5 :: a6 :: a7 :: a8 :: a9 :: a10 :: a11 :: a12 :: a13 :: a14 :: a15 :: a16 :: a17 :: a18 :: a19 :: a20 :: a21 :: a22 :: a23 :: a24 :: a25 :: a26 :: a27 :: a28 :: a29 :: a30 :: a31 :: a32 :: a33 :: a34 :: a35 :: a36 :: a37 :: r) (i := 37) (v := .int x) hL rfl rfl h9))
theorem mw_iinc_37 {n : Int} {x v : Int32} {a0 a1 a2 a3 a4 a5 a6 a7 a8 a9 a10 a11 a12 a13 a14 a15 a16 a17 a18 a19 a20 a21 a22 a23 a24 a25 a26 a27 a28 a29 a30 a31 a32 a33 a34 a35 a36 : Option Value} {r : List (Option Value)} (dg : decode y.2.1 pc = .ok (.iinc 37 n, 3)) (hn : 37 < y.2.2.1) (hv : x + Int32.ofInt n = v) (k : mw_W y d kc ks (pc + 3) (a0 :: a1 :: a2 :: a3 :: a4 :: a5 :: a6 :: a7 :: a8 :: a9 :: a10 :: a11 :: a12 :: a13 :: a14 :: a15 :: a16 :: a17 :: a18 :: a19 :: a20 :: a21 :: a22 :: a23 :: a24 :: a25 :: a26 :: a27 :: a28 :: a29 :: a30 :: a31 :: a32 :: a33 :: a34 :: a35 :: a36 :: some (.int v) :: r) (st) h Po) : mw_W y d kc ks (pc) (a0 :: a1 :: a2 :: a3 :: a4 :: a5 :: a6 :: a7 :: a8 :: a9 :: a10 :: a11 :: a12 :: a13 :: a14 :: a15 :: a16 :: a17 :: a18 :: a19 :: a20 :: a21 :: a22 :: a23 :: a24 :: a25 :: a26 :: a27 :: a28 :: a29 :: a30 :: a31 :: a32 :: a33 :: a34 :: a35 :: a36 :: some (.int x) :: r) (st) h Po := by
  intro G p l e R s m args below meth c mc msl H locs cells slots lsA C hc hs hR hS hL
  obtain ⟨hx, hb, hr, hml, hown, hlk, htr, htab, hnm, hRf, hRl, hRc, hRs, hK⟩ := id C
  obtain ⟨k9, hk9⟩ := List.getElem?_of_mem (mw_al_mem (G := G) (ls := a0 :: a1 :: a2 :: a3 :: a4 :: a5 :: a6 :: a7 :: a8 :: a9 :: a10 :: a11 :: a12 :: a13 :: a14 :: a15 :: a16 :: a17 :: a18 :: a19 :: a20 :: a21 :: a22 :: a23 :: a24 :: a25 :: a26 :: a27 :: a28 :: a29 :: a30 :: a31 :: a32 :: a33 :: a34 :: a35 :: a36 :: some (.int x) :: r) (i := 37) (v := .int x) rfl rfl)
  exact lv_iinc hx hb dg (mw_al_has hL) hk9 hv hn rfl (fun ls9 h9 => k G p l e R s m args below meth c mc msl H locs cells slots ls9 C hc hs hR hS (mw_L_set (ls := a0 :: a1 :: a2 :: a3 :: a4 :: a5 :: a6 :: a7 :: a8 :: a9 :: a10 :: a11 :: a12 :: a13 :: a14 :: a15 :: a16 :: a17 :: a18 :: a19 :: a20 :: a21 :: a22 :: a23 :: a24 :: a25 :: a26 :: a27 :: a28 :: a29 :: a30 :: a31 :: a32 :: a33 :: a34 :: a35 :: a36 :: some (.int x) :: r) (i := 37) (v := .int v) hL rfl rfl h9))
theorem mw_istore_38 {a0 a1 a2 a3 a4 a5 a6 a7 a8 a9 a10 a11 a12 a13 a14 a15 a16 a17 a18 a19 a20 a21 a22 a23 a24 a25 a26 a27 a28 a29 a30 a31 a32 a33 a34 a35 a36 a37 a38 : Option Value} {r : List (Option Value)} {x : Int32} (dg : decode y.2.1 pc = .ok (.istore 38, 2)) (hn : 38 < y.2.2.1) (k : mw_W y d kc ks (pc + 2) (a0 :: a1 :: a2 :: a3 :: a4 :: a5 :: a6 :: a7 :: a8 :: a9 :: a10 :: a11 :: a12 :: a13 :: a14 :: a15 :: a16 :: a17 :: a18 :: a19 :: a20 :: a21 :: a22 :: a23 :: a24 :: a25 :: a26 :: a27 :: a28 :: a29 :: a30 :: a31 :: a32 :: a33 :: a34 :: a35 :: a36 :: a37 :: some (.int x) :: r) (st) h Po) : mw_W y d kc ks (pc) (a0 :: a1 :: a2 :: a3 :: a4 :: a5 :: a6 :: a7 :: a8 :: a9 :: a10 :: a11 :: a12 :: a13 :: a14 :: a15 :: a16 :: a17 :: a18 :: a19 :: a20 :: a21 :: a22 :: a23 :: a24 :: a25 :: a26 :: a27 :: a28 :: a29 :: a30 :: a31 :: a32 :: a33 :: a34 :: a35 :: a36 :: a37 :: a38 :: r) (.int x :: st) h Po := by
  intro G p l e R s m args below meth c mc msl H locs cells slots lsA C hc hs hR hS hL
  obtain ⟨hx, hb, hr, hml, hown, hlk, htr, htab, hnm, hRf, hRl, hRc, hRs, hK⟩ := id C
  exact lv_istore (x := x) hx hb dg (mw_al_has hL) hn rfl (fun ls9 h9 => k G p l e R s m args below meth c mc msl H locs cells slots ls9 C hc hs hR hS (mw_L_set (ls := a0 :: a1 :: a2 :: a3 :: a4 :: a5 :: a6 :: a7 :: a8 :: a9 :: a10 :: a11 :: a12 :: a13 :: a14 :: a15 :: a16 :: a17 :: a18 :: a19 :: a20 :: a21 :: a22 :: a23 :: a24 :: a25 :: a26 :: a27 :: a28 :: a29 :: a30 :: a31 :: a32 :: a33 :: a34 :: a35 :: a36 :: a37 :: a38 :: r) (i := 38) (v := .int x) hL rfl rfl h9))
theorem mw_iinc_38 {n : Int} {x v : Int32} {a0 a1 a2 a3 a4 a5 a6 a7 a8 a9 a10 a11 a12 a13 a14 a15 a16 a17 a18 a19 a20 a21 a22 a23 a24 a25 a26 a27 a28 a29 a30 a31 a32 a33 a34 a35 a36 a37 : Option Value} {r : List (Option Value)} (dg : decode y.2.1 pc = .ok (.iinc 38 n, 3)) (hn : 38 < y.2.2.1) (hv : x + Int32.ofInt n = v) (k : mw_W y d kc ks (pc + 3) (a0 :: a1 :: a2 :: a3 :: a4 :: a5 :: a6 :: a7 :: a8 :: a9 :: a10 :: a11 :: a12 :: a13 :: a14 :: a15 :: a16 :: a17 :: a18 :: a19 :: a20 :: a21 :: a22 :: a23 :: a24 :: a25 :: a26 :: a27 :: a28 :: a29 :: a30 :: a31 :: a32 :: a33 :: a34 :: a35 :: a36 :: a37 :: some (.int v) :: r) (st) h Po) : mw_W y d kc ks (pc) (a0 :: a1 :: a2 :: a3 :: a4 :: a5 :: a6 :: a7 :: a8 :: a9 :: a10 :: a11 :: a12 :: a13 :: a14 :: a15 :: a16 :: a17 :: a18 :: a19 :: a20 :: a21 :: a22 :: a23 :: a24 :: a25 :: a26 :: a27 :: a28 :: a29 :: a30 :: a31 :: a32 :: a33 :: a34 :: a35 :: a36 :: a37 :: some (.int x) :: r) (st) h Po := by
  intro G p l e R s m args below meth c mc msl H locs cells slots lsA C hc hs hR hS hL
  obtain ⟨hx, hb, hr, hml, hown, hlk, htr, htab, hnm, hRf, hRl, hRc, hRs, hK⟩ := id C
  obtain ⟨k9, hk9⟩ := List.getElem?_of_mem (mw_al_mem (G := G) (ls := a0 :: a1 :: a2 :: a3 :: a4 :: a5 :: a6 :: a7 :: a8 :: a9 :: a10 :: a11 :: a12 :: a13 :: a14 :: a15 :: a16 :: a17 :: a18 :: a19 :: a20 :: a21 :: a22 :: a23 :: a24 :: a25 :: a26 :: a27 :: a28 :: a29 :: a30 :: a31 :: a32 :: a33 :: a34 :: a35 :: a36 :: a37 :: some (.int x) :: r) (i := 38) (v := .int x) rfl rfl)
  exact lv_iinc hx hb dg (mw_al_has hL) hk9 hv hn rfl (fun ls9 h9 => k G p l e R s m args below meth c mc msl H locs cells slots ls9 C hc hs hR hS (mw_L_set (ls := a0 :: a1 :: a2 :: a3 :: a4 :: a5 :: a6 :: a7 :: a8 :: a9 :: a10 :: a11 :: a12 :: a13 :: a14 :: a15 :: a16 :: a17 :: a18 :: a19 :: a20 :: a21 :: a22 :: a23 :: a24 :: a25 :: a26 :: a27 :: a28 :: a29 :: a30 :: a31 :: a32 :: a33 :: a34 :: a35 :: a36 :: a37 :: some (.int x) :: r) (i := 38) (v := .int v) hL rfl rfl h9))
theorem mw_istore_39 {a0 a1 a2 a3 a4 a5 a6 a7 a8 a9 a10 a11 a12 a13 a14 a15 a16 a17 a18 a19 a20 a21 a22 a23 a24 a25 a26 a27 a28 a29 a30 a31 a32 a33 a34 a35 a36 a37 a38 a39 : Option Value} {r : List (Option Value)} {x : Int32} (dg : decode y.2.1 pc = .ok (.istore 39, 2)) (hn : 39 < y.2.2.1) (k : mw_W y d kc ks (pc + 2) (a0 :: a1 :: a2 :: a3 :: a4 :: a5 :: a6 :: a7 :: a8 :: a9 :: a10 :: a11 :: a12 :: a13 :: a14 :: a15 :: a16 :: a17 :: a18 :: a19 :: a20 :: a21 :: a22 :: a23 :: a24 :: a25 :: a26 :: a27 :: a28 :: a29 :: a30 :: a31 :: a32 :: a33 :: a34 :: a35 :: a36 :: a37 :: a38 :: some (.int x) :: r) (st) h Po) : mw_W y d kc ks (pc) (a0 :: a1 :: a2 :: a3 :: a4 :: a5 :: a6 :: a7 :: a8 :: a9 :: a10 :: a11 :: a12 :: a13 :: a14 :: a15 :: a16 :: a17 :: a18 :: a19 :: a20 :: a21 :: a22 :: a23 :: a24 :: a25 :: a26 :: a27 :: a28 :: a29 :: a30 :: a31 :: a32 :: a33 :: a34 :: a35 :: a36 :: a37 :: a38 :: a39 :: r) (.int x :: st) h Po := by
  intro G p l e R s m args below meth c mc msl H locs cells slots lsA C hc hs hR hS hL
  obtain ⟨hx, hb, hr, hml, hown, hlk, htr, htab, hnm, hRf, hRl, hRc, hRs, hK⟩ := id C
  exact lv_istore (x := x) hx hb dg (mw_al_has hL) hn rfl (fun ls9 h9 => k G p l e R s m args below meth c mc msl H locs cells slots ls9 C hc hs hR hS (mw_L_set (ls := a0 :: a1 :: a2 :: a3 :: a4 :: a5 :: a6 :: a7 :: a8 :: a9 :: a10 :: a11 :: a12 :: a13 :: a14 :: a15 :: a16 :: a17 :: a18 :: a19 :: a20 :: a21 :: a22 :: a23 :: a24 :: a25 :: a26 :: a27 :: a28 :: a29 :: a30 :: a31 :: a32 :: a33 :: a34 :: a35 :: a36 :: a37 :: a38 :: a39 :: r) (i := 39) (v := .int x) hL rfl rfl h9))
theorem mw_iinc_39 {n : Int} {x v : Int32} {a0 a1 a2 a3 a4 a5 a6 a7 a8 a9 a10 a11 a12 a13 a14 a15 a16 a17 a18 a19 a20 a21 a22 a23 a24 a25 a26 a27 a28 a29 a30 a31 a32 a33 a34 a35 a36 a37 a38 : Option Value} {r : List (Option Value)} (dg : decode y.2.1 pc = .ok (.iinc 39 n, 3)) (hn : 39 < y.2.2.1) (hv : x + Int32.ofInt n = v) (k : mw_W y d kc ks (pc + 3) (a0 :: a1 :: a2 :: a3 :: a4 :: a5 :: a6 :: a7 :: a8 :: a9 :: a10 :: a11 :: a12 :: a13 :: a14 :: a15 :: a16 :: a17 :: a18 :: a19 :: a20 :: a21 :: a22 :: a23 :: a24 :: a25 :: a26 :: a27 :: a28 :: a29 :: a30 :: a31 :: a32 :: a33 :: a34 :: a35 :: a36 :: a37 :: a38 :: some (.int v) :: r) (st) h Po) : mw_W y d kc ks (pc) (a0 :: a1 :: a2 :: a3 :: a4 :: a5 :: a6 :: a7 :: a8 :: a9 :: a10 :: a11 :: a12 :: a13 :: a14 :: a15 :: a16 :: a17 :: a18 :: a19 :: a20 :: a21 :: a22 :: a23 :: a24 :: a25 :: a26 :: a27 :: a28 :: a29 :: a30 :: a31 :: a32 :: a33 :: a34 :: a35 :: a36 :: a37 :: a38 :: some (.int x) :: r) (st) h Po := by
  intro G p l e R s m args below meth c mc msl H locs cells slots lsA C hc hs hR hS hL
  obtain ⟨hx, hb, hr, hml, hown, hlk, htr, htab, hnm, hRf, hRl, hRc, hRs, hK⟩ := id C
  obtain ⟨k9, hk9⟩ := List.getElem?_of_mem (mw_al_mem (G := G) (ls := a0 :: a1 :: a2 :: a3 :: a4 :: a5 :: a6 :: a7 :: a8 :: a9 :: a10 :: a11 :: a12 :: a13 :: a14 :: a15 :: a16 :: a17 :: a18 :: a19 :: a20 :: a21 :: a22 :: a23 :: a24 :: a25 :: a26 :: a27 :: a28 :: a29 :: a30 :: a31 :: a32 :: a33 :: a34 :: a35 :: a36 :: a37 :: a38 :: some (.int x) :: r) (i := 39) (v := .int x) rfl rfl)
  exact lv_iinc hx hb dg (mw_al_has hL) hk9 hv hn rfl (fun ls9 h9 => k G p l e R s m args below meth c mc msl H locs cells slots ls9 C hc hs hR hS (mw_L_set (ls := a0 :: a1 :: a2 :: a3 :: a4 :: a5 :: a6 :: a7 :: a8 :: a9 :: a10 :: a11 :: a12 :: a13 :: a14 :: a15 :: a16 :: a17 :: a18 :: a19 :: a20 :: a21 :: a22 :: a23 :: a24 :: a25 :: a26 :: a27 :: a28 :: a29 :: a30 :: a31 :: a32 :: a33 :: a34 :: a35 :: a36 :: a37 :: a38 :: some (.int x) :: r) (i := 39) (v := .int v) hL rfl rfl h9))
theorem mw_istore_40 {a0 a1 a2 a3 a4 a5 a6 a7 a8 a9 a10 a11 a12 a13 a14 a15 a16 a17 a18 a19 a20 a21 a22 a23 a24 a25 a26 a27 a28 a29 a30 a31 a32 a33 a34 a35 a36 a37 a38 a39 a40 : Option Value} {r : List (Option Value)} {x : Int32} (dg : decode y.2.1 pc = .ok (.istore 40, 2)) (hn : 40 < y.2.2.1) (k : mw_W y d kc ks (pc + 2) (a0 :: a1 :: a2 :: a3 :: a4 :: a5 :: a6 :: a7 :: a8 :: a9 :: a10 :: a11 :: a12 :: a13 :: a14 :: a15 :: a16 :: a17 :: a18 :: a19 :: a20 :: a21 :: a22 :: a23 :: a24 :: a25 :: a26 :: a27 :: a28 :: a29 :: a30 :: a31 :: a32 :: a33 :: a34 :: a35 :: a36 :: a37 :: a38 :: a39 :: some (.int x) :: r) (st) h Po) : mw_W y d kc ks (pc) (a0 :: a1 :: a2 :: a3 :: a4 :: a5 :: a6 :: a7 :: a8 :: a9 :: a10 :: a11 :: a12 :: a13 :: a14 :: a15 :: a16 :: a17 :: a18 :: a19 :: a20 :: a21 :: a22 :: a23 :: a24 :: a25 :: a26 :: a27 :: a28 :: a29 :: a30 :: a31 :: a32 :: a33 :: a34 :: a35 :: a36 :: a37 :: a38 :: a39 :: a40 :: r) (.int x :: st) h Po := by
  intro G p l e R s m args below meth c mc msl H locs cells slots lsA C hc hs hR hS hL
  obtain ⟨hx, hb, hr, hml, hown, hlk, htr, htab, hnm, hRf, hRl, hRc, hRs, hK⟩ := id C
  exact lv_istore (x := x) hx hb dg (mw_al_has hL) hn rfl (fun ls9 h9 => k G p l e R s m args below meth c mc msl H locs cells slots ls9 C hc hs hR hS (mw_L_set (ls := a0 :: a1 :: a2 :: a3 :: a4 :: a5 :: a6 :: a7 :: a8 :: a9 :: a10 :: a11 :: a12 :: a13 :: a14 :: a15 :: a16 :: a17 :: a18 :: a19 :: a20 :: a21 :: a22 :: a23 :: a24 :: a25 :: a26 :: a27 :: a28 :: a29 :: a30 :: a31 :: a32 :: a33 :: a34 :: a35 :: a36 :: a37 :: a38 :: a39 :: a40 :: r) (i := 40) (v := .int x) hL rfl rfl h9))
theorem mw_iinc_40 {n : Int} {x v : Int32} {a0 a1 a2 a3 a4 a5 a6 a7 a8 a9 a10 a11 a12 a13 a14 a15 a16 a17 a18 a19 a20 a21 a22 a23 a24 a25 a26 a27 a28 a29 a30 a31 a32 a33 a34 a35 a36 a37 a38 a39 : Option Value} {r : List (Option Value)} (dg : decode y.2.1 pc = .ok (.iinc 40 n, 3)) (hn : 40 < y.2.2.1) (hv : x + Int32.ofInt n = v) (k : mw_W y d kc ks (pc + 3) (a0 :: a1 :: a2 :: a3 :: a4 :: a5 :: a6 :: a7 :: a8 :: a9 :: a10 :: a11 :: a12 :: a13 :: a14 :: a15 :: a16 :: a17 :: a18 :: a19 :: a20 :: a21 :: a22 :: a23 :: a24 :: a25 :: a26 :: a27 :: a28 :: a29 :: a30 :: a31 :: a32 :: a33 :: a34 :: a35 :: a36 :: a37 :: a38 :: a39 :: some (.int v) :: r) (st) h Po) : mw_W y d kc ks (pc) (a0 :: a1 :: a2 :: a3 :: a4 :: a5 :: a6 :: a7 :: a8 :: a9 :: a10 :: a11 :: a12 :: a13 :: a14 :: a15 :: a16 :: a17 :: a18 :: a19 :: a20 :: a21 :: a22 :: a23 :: a24 :: a25 :: a26 :: a27 :: a28 :: a29 :: a30 :: a31 :: a32 :: a33 :: a34 :: a35 :: a36 :: a37 :: a38 :: a39 :: some (.int x) :: r) (st) h Po := by
  intro G p l e R s m args below meth c mc msl H locs cells slots lsA C hc hs hR hS hL
  obtain ⟨hx, hb, hr, hml, hown, hlk, htr, htab, hnm, hRf, hRl, hRc, hRs, hK⟩ := id C
  obtain ⟨k9, hk9⟩ := List.getElem?_of_mem (mw_al_mem (G := G) (ls := a0 :: a1 :: a2 :: a3 :: a4 :: a5 :: a6 :: a7 :: a8 :: a9 :: a10 :: a11 :: a12 :: a13 :: a14 :: a15 :: a16 :: a17 :: a18 :: a19 :: a20 :: a21 :: a22 :: a23 :: a24 :: a25 :: a26 :: a27 :: a28 :: a29 :: a30 :: a31 :: a32 :: a33 :: a34 :: a35 :: a36 :: a37 :: a38 :: a39 :: some (.int x) :: r) (i := 40) (v := .int x) rfl rfl)
  exact lv_iinc hx hb dg (mw_al_has hL) hk9 hv hn rfl (fun ls9 h9 => k G p l e R s m args below meth c mc msl H locs cells slots ls9 C hc hs hR hS (mw_L_set (ls := a0 :: a1 :: a2 :: a3 :: a4 :: a5 :: a6 :: a7 :: a8 :: a9 :: a10 :: a11 :: a12 :: a13 :: a14 :: a15 :: a16 :: a17 :: a18 :: a19 :: a20 :: a21 :: a22 :: a23 :: a24 :: a25 :: a26 :: a27 :: a28 :: a29 :: a30 :: a31 :: a32 :: a33 :: a34 :: a35 :: a36 :: a37 :: a38 :: a39 :: some (.int x) :: r) (i := 40) (v := .int v) hL rfl rfl h9))
theorem mw_istore_41 {a0 a1 a2 a3 a4 a5 a6 a7 a8 a9 a10 a11 a12 a13 a14 a15 a16 a17 a18 a19 a20 a21 a22 a23 a24 a25 a26 a27 a28 a29 a30 a31 a32 a33 a34 a35 a36 a37 a38 a39 a40 a41 : Option Value} {r : List (Option Value)} {x : Int32} (dg : decode y.2.1 pc = .ok (.istore 41, 2)) (hn : 41 < y.2.2.1) (k : mw_W y d kc ks (pc + 2) (a0 :: a1 :: a2 :: a3 :: a4 :: a5 :: a6 :: a7 :: a8 :: a9 :: a10 :: a11 :: a12 :: a13 :: a14 :: a15 :: a16 :: a17 :: a18 :: a19 :: a20 :: a21 :: a22 :: a23 :: a24 :: a25 :: a26 :: a27 :: a28 :: a29 :: a30 :: a31 :: a32 :: a33 :: a34 :: a35 :: a36 :: a37 :: a38 :: a39 :: a40 :: some (.int x) :: r) (st) h Po) : mw_W y d kc ks (pc) (a0 :: a1 :: a2 :: a3 :: a4 :: a5 :: a6 :: a7 :: a8 :: a9 :: a10 :: a11 :: a12 :: a13 :: a14 :: a15 :: a16 :: a17 :: a18 :: a19 :: a20 :: a21 :: a22 :: a23 :: a24 :: a25 :: a26 :: a27 :: a28 :: a29 :: a30 :: a31 :: a32 :: a33 :: a34 :: a35 :: a36 :: a37 :: a38 :: a39 :: a40 :: a41 :: r) (.int x :: st) h Po := by
  intro G p l e R s m args below meth c mc msl H locs cells slots lsA C hc hs hR hS hL
  obtain ⟨hx, hb, hr, hml, hown, hlk, htr, htab, hnm, hRf, hRl, hRc, hRs, hK⟩ := id C
  exact lv_istore (x := x) hx hb dg (mw_al_has hL) hn rfl (fun ls9 h9 => k G p l e R s m args below meth c mc msl H locs cells slots ls9 C hc hs hR hS (mw_L_set (ls := a0 :: a1 :: a2 :: a3 :: a4 :: a5 :: a6 :: a7 :: a8 :: a9 :: a10 :: a11 :: a12 :: a13 :: a14 :: a15 :: a16 :: a17 :: a18 :: a19 :: a20 :: a21 :: a22 :: a23 :: a24 :: a25 :: a26 :: a27 :: a28 :: a29 :: a30 :: a31 :: a32 :: a33 :: a34 :: a35 :: a36 :: a37 :: a38 :: a39 :: a40 :: a41 :: r) (i := 41) (v := .int x) hL rfl rfl h9))
theorem mw_lload {i : Nat} {x : Int64} (dg : decode y.2.1 pc = .ok (.lload i, 2)) (hi : ls[i]? = some (some (.long x))) (hj : ls[i + 1]? = some none) (k : mw_W y d kc ks (pc + 2) ls (.long x :: st) h Po) : mw_W y d kc ks (pc) ls (st) h Po := by
  intro G p l e R s m args below meth c mc msl H locs cells slots lsA C hc hs hR hS hL
  obtain ⟨hx, hb, hr, hml, hown, hlk, htr, htab, hnm, hRf, hRl, hRc, hRs, hK⟩ := id C
  exact lv_lload hx hb dg (hL.2.2 _ _ hi (mw_lk_2 hj)) (k G p l e R s m args below meth c mc msl H locs cells slots lsA C hc hs hR hS hL)
theorem mw_idiv {x z : Int32} (dg : decode y.2.1 pc = .ok (.idiv, 1)) (hne : ¬ z = 0) (k : mw_W y d kc ks (pc + 1) ls (.int (x / z) :: st) h Po) : mw_W y d kc ks (pc) ls (.int z :: .int x :: st) h Po := by
  intro G p l e R s m args below meth c mc msl H locs cells slots lsA C hc hs hR hS hL
  obtain ⟨hx, hb, hr, hml, hown, hlk, htr, htab, hnm, hRf, hRl, hRc, hRs, hK⟩ := id C
  exact lv_idiv hx hb dg hne (k G p l e R s m args below meth c mc msl H locs cells slots lsA C hc hs hR hS hL)
theorem mw_irem {x z : Int32} (dg : decode y.2.1 pc = .ok (.irem, 1)) (hne : ¬ z = 0) (k : mw_W y d kc ks (pc + 1) ls (.int (x - x / z * z) :: st) h Po) : mw_W y d kc ks (pc) ls (.int z :: .int x :: st) h Po := by
  intro G p l e R s m args below meth c mc msl H locs cells slots lsA C hc hs hR hS hL
  obtain ⟨hx, hb, hr, hml, hown, hlk, htr, htab, hnm, hRf, hRl, hRc, hRs, hK⟩ := id C
  exact lv_irem hx hb dg hne (k G p l e R s m args below meth c mc msl H locs cells slots lsA C hc hs hR hS hL)
theorem mw_lor {x z : Int64} (dg : decode y.2.1 pc = .ok (.lor, 1)) (k : mw_W y d kc ks (pc + 1) ls (.long (x ||| z) :: st) h Po) : mw_W y d kc ks (pc) ls (.long z :: .long x :: st) h Po := by
  intro G p l e R s m args below meth c mc msl H locs cells slots lsA C hc hs hR hS hL
  obtain ⟨hx, hb, hr, hml, hown, hlk, htr, htab, hnm, hRf, hRl, hRc, hRs, hK⟩ := id C
  exact lv_lor hx hb dg (k G p l e R s m args below meth c mc msl H locs cells slots lsA C hc hs hR hS hL)
theorem mw_land {x z : Int64} (dg : decode y.2.1 pc = .ok (.land, 1)) (k : mw_W y d kc ks (pc + 1) ls (.long (x &&& z) :: st) h Po) : mw_W y d kc ks (pc) ls (.long z :: .long x :: st) h Po := by
  intro G p l e R s m args below meth c mc msl H locs cells slots lsA C hc hs hR hS hL
  obtain ⟨hx, hb, hr, hml, hown, hlk, htr, htab, hnm, hRf, hRl, hRc, hRs, hK⟩ := id C
  exact lv_land hx hb dg (k G p l e R s m args below meth c mc msl H locs cells slots lsA C hc hs hR hS hL)
theorem mw_lxor {x z : Int64} (dg : decode y.2.1 pc = .ok (.lxor, 1)) (k : mw_W y d kc ks (pc + 1) ls (.long (x ^^^ z) :: st) h Po) : mw_W y d kc ks (pc) ls (.long z :: .long x :: st) h Po := by
  intro G p l e R s m args below meth c mc msl H locs cells slots lsA C hc hs hR hS hL
  obtain ⟨hx, hb, hr, hml, hown, hlk, htr, htab, hnm, hRf, hRl, hRc, hRs, hK⟩ := id C
  exact lv_lxor hx hb dg (k G p l e R s m args below meth c mc msl H locs cells slots lsA C hc hs hR hS hL)
theorem mw_lshl {x v : Int64} {z : Int32} (dg : decode y.2.1 pc = .ok (.lshl, 1)) (hv : x <<< (z.toInt64 &&& 63) = v) (k : mw_W y d kc ks (pc + 1) ls (.long v :: st) h Po) : mw_W y d kc ks (pc) ls (.int z :: .long x :: st) h Po := by
  intro G p l e R s m args below meth c mc msl H locs cells slots lsA C hc hs hR hS hL
  obtain ⟨hx, hb, hr, hml, hown, hlk, htr, htab, hnm, hRf, hRl, hRc, hRs, hK⟩ := id C
  exact lv_lshl hx hb dg hv (k G p l e R s m args below meth c mc msl H locs cells slots lsA C hc hs hR hS hL)
theorem mw_lshr {x v : Int64} {z : Int32} (dg : decode y.2.1 pc = .ok (.lshr, 1)) (hv : x >>> (z.toInt64 &&& 63) = v) (k : mw_W y d kc ks (pc + 1) ls (.long v :: st) h Po) : mw_W y d kc ks (pc) ls (.int z :: .long x :: st) h Po := by
  intro G p l e R s m args below meth c mc msl H locs cells slots lsA C hc hs hR hS hL
  obtain ⟨hx, hb, hr, hml, hown, hlk, htr, htab, hnm, hRf, hRl, hRc, hRs, hK⟩ := id C
  exact lv_lshr hx hb dg hv (k G p l e R s m args below meth c mc msl H locs cells slots lsA C hc hs hR hS hL)
theorem mw_l2i {x : Int64} {v : Int32} (dg : decode y.2.1 pc = .ok (.l2i, 1)) (hv : x.toInt32 = v) (k : mw_W y d kc ks (pc + 1) ls (.int v :: st) h Po) : mw_W y d kc ks (pc) ls (.long x :: st) h Po := by
  intro G p l e R s m args below meth c mc msl H locs cells slots lsA C hc hs hR hS hL
  obtain ⟨hx, hb, hr, hml, hown, hlk, htr, htab, hnm, hRf, hRl, hRc, hRs, hK⟩ := id C
  exact lv_l2i hx hb dg hv (k G p l e R s m args below meth c mc msl H locs cells slots lsA C hc hs hR hS hL)
theorem mw_ldc {idx : Nat} {v : Int32} (dg : decode y.2.1 pc = .ok (.ldc idx, 2)) (hw : Cond.constant y.1.cls idx v ∈ lw_tbl) (k : mw_W y d kc ks (pc + 2) ls (.int v :: st) h Po) : mw_W y d kc ks (pc) ls (st) h Po := by
  intro G p l e R s m args below meth c mc msl H locs cells slots lsA C hc hs hR hS hL
  obtain ⟨hx, hb, hr, hml, hown, hlk, htr, htab, hnm, hRf, hRl, hRc, hRs, hK⟩ := id C
  exact lv_ldc hx hb hown (mw_word hK hw rfl) dg (k G p l e R s m args below meth c mc msl H locs cells slots lsA C hc hs hR hS hL)
theorem mw_ldc2 {idx : Nat} {v : Int64} (dg : decode y.2.1 pc = .ok (.ldc2_w idx, 3)) (hw : Cond.constantLong y.1.cls idx v ∈ lw_tbl) (k : mw_W y d kc ks (pc + 3) ls (.long v :: st) h Po) : mw_W y d kc ks (pc) ls (st) h Po := by
  intro G p l e R s m args below meth c mc msl H locs cells slots lsA C hc hs hR hS hL
  obtain ⟨hx, hb, hr, hml, hown, hlk, htr, htab, hnm, hRf, hRl, hRc, hRs, hK⟩ := id C
  exact lv_ldc2 hx hb hown (mw_word hK hw rfl) dg (k G p l e R s m args below meth c mc msl H locs cells slots lsA C hc hs hR hS hL)
theorem mw_dup2 {v1 v2 : Value} (dg : decode y.2.1 pc = .ok (.dup2, 1)) (h1 : v1.category = 1) (h2 : v2.category = 1) (k : mw_W y d kc ks (pc + 1) ls (v1 :: v2 :: v1 :: v2 :: st) h Po) : mw_W y d kc ks (pc) ls (v1 :: v2 :: st) h Po := by
  intro G p l e R s m args below meth c mc msl H locs cells slots lsA C hc hs hR hS hL
  obtain ⟨hx, hb, hr, hml, hown, hlk, htr, htab, hnm, hRf, hRl, hRc, hRs, hK⟩ := id C
  exact lv_dup2_11 hx hb dg ((mw_cat v1).trans h1) ((mw_cat v2).trans h2) (k G p l e R s m args below meth c mc msl H locs cells slots lsA C hc hs hR hS hL)
theorem mw_pop {v1 : Value} (dg : decode y.2.1 pc = .ok (.pop, 1)) (h1 : v1.category = 1) (k : mw_W y d kc ks (pc + 1) ls (st) h Po) : mw_W y d kc ks (pc) ls (v1 :: st) h Po := by
  intro G p l e R s m args below meth c mc msl H locs cells slots lsA C hc hs hR hS hL
  obtain ⟨hx, hb, hr, hml, hown, hlk, htr, htab, hnm, hRf, hRl, hRc, hRs, hK⟩ := id C
  exact lv_pop hx hb dg ((mw_cat v1).trans h1) (k G p l e R s m args below meth c mc msl H locs cells slots lsA C hc hs hR hS hL)
theorem mw_iadd {x z : Int32} (dg : decode y.2.1 pc = .ok (.iadd, 1)) (k : mw_W y d kc ks (pc + 1) ls (.int (x + z) :: st) h Po) : mw_W y d kc ks (pc) ls (.int z :: .int x :: st) h Po := by
  intro G p l e R s m args below meth c mc msl H locs cells slots lsA C hc hs hR hS hL
  obtain ⟨hx, hb, hr, hml, hown, hlk, htr, htab, hnm, hRf, hRl, hRc, hRs, hK⟩ := id C
  exact lv_iadd hx hb dg (k G p l e R s m args below meth c mc msl H locs cells slots lsA C hc hs hR hS hL)
theorem mw_isub {x z : Int32} (dg : decode y.2.1 pc = .ok (.isub, 1)) (k : mw_W y d kc ks (pc + 1) ls (.int (x - z) :: st) h Po) : mw_W y d kc ks (pc) ls (.int z :: .int x :: st) h Po := by
  intro G p l e R s m args below meth c mc msl H locs cells slots lsA C hc hs hR hS hL
  obtain ⟨hx, hb, hr, hml, hown, hlk, htr, htab, hnm, hRf, hRl, hRc, hRs, hK⟩ := id C
  exact lv_isub hx hb dg (k G p l e R s m args below meth c mc msl H locs cells slots lsA C hc hs hR hS hL)
theorem mw_imul {x z : Int32} (dg : decode y.2.1 pc = .ok (.imul, 1)) (k : mw_W y d kc ks (pc + 1) ls (.int (x * z) :: st) h Po) : mw_W y d kc ks (pc) ls (.int z :: .int x :: st) h Po := by
  intro G p l e R s m args below meth c mc msl H locs cells slots lsA C hc hs hR hS hL
  obtain ⟨hx, hb, hr, hml, hown, hlk, htr, htab, hnm, hRf, hRl, hRc, hRs, hK⟩ := id C
  exact lv_imul hx hb dg (k G p l e R s m args below meth c mc msl H locs cells slots lsA C hc hs hR hS hL)
theorem mw_iand {x z : Int32} (dg : decode y.2.1 pc = .ok (.iand, 1)) (k : mw_W y d kc ks (pc + 1) ls (.int (x &&& z) :: st) h Po) : mw_W y d kc ks (pc) ls (.int z :: .int x :: st) h Po := by
  intro G p l e R s m args below meth c mc msl H locs cells slots lsA C hc hs hR hS hL
  obtain ⟨hx, hb, hr, hml, hown, hlk, htr, htab, hnm, hRf, hRl, hRc, hRs, hK⟩ := id C
  exact lv_iand hx hb dg (k G p l e R s m args below meth c mc msl H locs cells slots lsA C hc hs hR hS hL)
theorem mw_ior {x z : Int32} (dg : decode y.2.1 pc = .ok (.ior, 1)) (k : mw_W y d kc ks (pc + 1) ls (.int (x ||| z) :: st) h Po) : mw_W y d kc ks (pc) ls (.int z :: .int x :: st) h Po := by
  intro G p l e R s m args below meth c mc msl H locs cells slots lsA C hc hs hR hS hL
  obtain ⟨hx, hb, hr, hml, hown, hlk, htr, htab, hnm, hRf, hRl, hRc, hRs, hK⟩ := id C
  exact lv_ior hx hb dg (k G p l e R s m args below meth c mc msl H locs cells slots lsA C hc hs hR hS hL)
theorem mw_ixor {x z : Int32} (dg : decode y.2.1 pc = .ok (.ixor, 1)) (k : mw_W y d kc ks (pc + 1) ls (.int (x ^^^ z) :: st) h Po) : mw_W y d kc ks (pc) ls (.int z :: .int x :: st) h Po := by
  intro G p l e R s m args below meth c mc msl H locs cells slots lsA C hc hs hR hS hL
  obtain ⟨hx, hb, hr, hml, hown, hlk, htr, htab, hnm, hRf, hRl, hRc, hRs, hK⟩ := id C
  exact lv_ixor hx hb dg (k G p l e R s m args below meth c mc msl H locs cells slots lsA C hc hs hR hS hL)
theorem mw_ishl {x z : Int32} (dg : decode y.2.1 pc = .ok (.ishl, 1)) (k : mw_W y d kc ks (pc + 1) ls (.int (x <<< (z &&& 31)) :: st) h Po) : mw_W y d kc ks (pc) ls (.int z :: .int x :: st) h Po := by
  intro G p l e R s m args below meth c mc msl H locs cells slots lsA C hc hs hR hS hL
  obtain ⟨hx, hb, hr, hml, hown, hlk, htr, htab, hnm, hRf, hRl, hRc, hRs, hK⟩ := id C
  exact lv_ishl hx hb dg (k G p l e R s m args below meth c mc msl H locs cells slots lsA C hc hs hR hS hL)
theorem mw_ishr {x z : Int32} (dg : decode y.2.1 pc = .ok (.ishr, 1)) (k : mw_W y d kc ks (pc + 1) ls (.int (x >>> (z &&& 31)) :: st) h Po) : mw_W y d kc ks (pc) ls (.int z :: .int x :: st) h Po := by
  intro G p l e R s m args below meth c mc msl H locs cells slots lsA C hc hs hR hS hL
  obtain ⟨hx, hb, hr, hml, hown, hlk, htr, htab, hnm, hRf, hRl, hRc, hRs, hK⟩ := id C
  exact lv_ishr hx hb dg (k G p l e R s m args below meth c mc msl H locs cells slots lsA C hc hs hR hS hL)
theorem mw_iushr {x z v : Int32} (dg : decode y.2.1 pc = .ok (.iushr, 1)) (hv : (x.toUInt32 >>> (z.toUInt32 &&& Int32.toUInt32 31)).toInt32 = v) (k : mw_W y d kc ks (pc + 1) ls (.int v :: st) h Po) : mw_W y d kc ks (pc) ls (.int z :: .int x :: st) h Po := by
  intro G p l e R s m args below meth c mc msl H locs cells slots lsA C hc hs hR hS hL
  obtain ⟨hx, hb, hr, hml, hown, hlk, htr, htab, hnm, hRf, hRl, hRc, hRs, hK⟩ := id C
  exact lv_iushr hx hb dg hv (k G p l e R s m args below meth c mc msl H locs cells slots lsA C hc hs hR hS hL)
theorem mw_ineg {x : Int32} (dg : decode y.2.1 pc = .ok (.ineg, 1)) (k : mw_W y d kc ks (pc + 1) ls (.int (-x) :: st) h Po) : mw_W y d kc ks (pc) ls (.int x :: st) h Po := by
  intro G p l e R s m args below meth c mc msl H locs cells slots lsA C hc hs hR hS hL
  obtain ⟨hx, hb, hr, hml, hown, hlk, htr, htab, hnm, hRf, hRl, hRc, hRs, hK⟩ := id C
  exact lv_ineg hx hb dg (k G p l e R s m args below meth c mc msl H locs cells slots lsA C hc hs hR hS hL)
theorem mw_i2l {x : Int32} {v : Int64} (dg : decode y.2.1 pc = .ok (.i2l, 1)) (hv : x.toInt64 = v) (k : mw_W y d kc ks (pc + 1) ls (.long v :: st) h Po) : mw_W y d kc ks (pc) ls (.int x :: st) h Po := by
  intro G p l e R s m args below meth c mc msl H locs cells slots lsA C hc hs hR hS hL
  obtain ⟨hx, hb, hr, hml, hown, hlk, htr, htab, hnm, hRf, hRl, hRc, hRs, hK⟩ := id C
  exact lv_i2l hx hb dg hv (k G p l e R s m args below meth c mc msl H locs cells slots lsA C hc hs hR hS hL)
theorem mw_i2b {x v : Int32} (dg : decode y.2.1 pc = .ok (.i2b, 1)) (hv : x.toInt8.toInt32 = v) (k : mw_W y d kc ks (pc + 1) ls (.int v :: st) h Po) : mw_W y d kc ks (pc) ls (.int x :: st) h Po := by
  intro G p l e R s m args below meth c mc msl H locs cells slots lsA C hc hs hR hS hL
  obtain ⟨hx, hb, hr, hml, hown, hlk, htr, htab, hnm, hRf, hRl, hRc, hRs, hK⟩ := id C
  exact lv_i2b hx hb dg hv (k G p l e R s m args below meth c mc msl H locs cells slots lsA C hc hs hR hS hL)
theorem mw_lcmp {x z : Int64} (dg : decode y.2.1 pc = .ok (.lcmp, 1)) (k : mw_W y d kc ks (pc + 1) ls (.int (lg_cmp x z) :: st) h Po) : mw_W y d kc ks (pc) ls (.long z :: .long x :: st) h Po := by
  intro G p l e R s m args below meth c mc msl H locs cells slots lsA C hc hs hR hS hL
  obtain ⟨hx, hb, hr, hml, hown, hlk, htr, htab, hnm, hRf, hRl, hRc, hRs, hK⟩ := id C
  exact W.lcmp hx hb dg (k G p l e R s m args below meth c mc msl H locs cells slots lsA C hc hs hR hS hL)
theorem mw_dup {v : Value} (dg : decode y.2.1 pc = .ok (.dup, 1)) (hv : v.category = 1) (k : mw_W y d kc ks (pc + 1) ls (v :: v :: st) h Po) : mw_W y d kc ks (pc) ls (v :: st) h Po := by
  intro G p l e R s m args below meth c mc msl H locs cells slots lsA C hc hs hR hS hL
  obtain ⟨hx, hb, hr, hml, hown, hlk, htr, htab, hnm, hRf, hRl, hRc, hRs, hK⟩ := id C
  exact lv_dup hx hb dg ((mw_cat v).trans hv) (k G p l e R s m args below meth c mc msl H locs cells slots lsA C hc hs hR hS hL)
theorem mw_goto {off : Int} {tgt : Nat} (dg : decode y.2.1 pc = .ok (.goto off, 3)) (ht : (pc : Int) + off = (tgt : Int)) (k : mw_W y d kc ks (tgt) ls (st) h Po) : mw_W y d kc ks (pc) ls (st) h Po := by
  intro G p l e R s m args below meth c mc msl H locs cells slots lsA C hc hs hR hS hL
  obtain ⟨hx, hb, hr, hml, hown, hlk, htr, htab, hnm, hRf, hRl, hRc, hRs, hK⟩ := id C
  exact lv_goto hx hb dg ht (k G p l e R s m args below meth c mc msl H locs cells slots lsA C hc hs hR hS hL)
theorem mw_if_eq {x : Int32} {off : Int} {tgt : Nat} (dg : decode y.2.1 pc = .ok (.ifCond .eq off, 3)) (ht : (pc : Int) + off = (tgt : Int)) (kt : (x = 0) → mw_W y d kc ks (tgt) ls (st) h Po) (kf : ¬ (x = 0) → mw_W y d kc ks (pc + 3) ls (st) h Po) : mw_W y d kc ks (pc) ls (.int x :: st) h Po := by
  intro G p l e R s m args below meth c mc msl H locs cells slots lsA C hc hs hR hS hL
  obtain ⟨hx, hb, hr, hml, hown, hlk, htr, htab, hnm, hRf, hRl, hRc, hRs, hK⟩ := id C
  exact lv_if_eq hx hb dg ht (fun q => kt q G p l e R s m args below meth c mc msl H locs cells slots lsA C hc hs hR hS hL) (fun q => kf q G p l e R s m args below meth c mc msl H locs cells slots lsA C hc hs hR hS hL)
theorem mw_icmp_eq {x z : Int32} {off : Int} {tgt : Nat} (dg : decode y.2.1 pc = .ok (.if_icmp .eq off, 3)) (ht : (pc : Int) + off = (tgt : Int)) (kt : (x = z) → mw_W y d kc ks (tgt) ls (st) h Po) (kf : ¬ (x = z) → mw_W y d kc ks (pc + 3) ls (st) h Po) : mw_W y d kc ks (pc) ls (.int z :: .int x :: st) h Po := by
  intro G p l e R s m args below meth c mc msl H locs cells slots lsA C hc hs hR hS hL
  obtain ⟨hx, hb, hr, hml, hown, hlk, htr, htab, hnm, hRf, hRl, hRc, hRs, hK⟩ := id C
  exact lv_icmp_eq hx hb dg ht (fun q => kt q G p l e R s m args below meth c mc msl H locs cells slots lsA C hc hs hR hS hL) (fun q => kf q G p l e R s m args below meth c mc msl H locs cells slots lsA C hc hs hR hS hL)
theorem mw_if_ne {x : Int32} {off : Int} {tgt : Nat} (dg : decode y.2.1 pc = .ok (.ifCond .ne off, 3)) (ht : (pc : Int) + off = (tgt : Int)) (kt : (¬ x = 0) → mw_W y d kc ks (tgt) ls (st) h Po) (kf : (x = 0) → mw_W y d kc ks (pc + 3) ls (st) h Po) : mw_W y d kc ks (pc) ls (.int x :: st) h Po := by
  intro G p l e R s m args below meth c mc msl H locs cells slots lsA C hc hs hR hS hL
  obtain ⟨hx, hb, hr, hml, hown, hlk, htr, htab, hnm, hRf, hRl, hRc, hRs, hK⟩ := id C
  exact lv_if_ne hx hb dg ht (fun q => kt q G p l e R s m args below meth c mc msl H locs cells slots lsA C hc hs hR hS hL) (fun q => kf q G p l e R s m args below meth c mc msl H locs cells slots lsA C hc hs hR hS hL)
theorem mw_icmp_ne {x z : Int32} {off : Int} {tgt : Nat} (dg : decode y.2.1 pc = .ok (.if_icmp .ne off, 3)) (ht : (pc : Int) + off = (tgt : Int)) (kt : (¬ x = z) → mw_W y d kc ks (tgt) ls (st) h Po) (kf : (x = z) → mw_W y d kc ks (pc + 3) ls (st) h Po) : mw_W y d kc ks (pc) ls (.int z :: .int x :: st) h Po := by
  intro G p l e R s m args below meth c mc msl H locs cells slots lsA C hc hs hR hS hL
  obtain ⟨hx, hb, hr, hml, hown, hlk, htr, htab, hnm, hRf, hRl, hRc, hRs, hK⟩ := id C
  exact lv_icmp_ne hx hb dg ht (fun q => kt q G p l e R s m args below meth c mc msl H locs cells slots lsA C hc hs hR hS hL) (fun q => kf q G p l e R s m args below meth c mc msl H locs cells slots lsA C hc hs hR hS hL)
theorem mw_if_lt {x : Int32} {off : Int} {tgt : Nat} (dg : decode y.2.1 pc = .ok (.ifCond .lt off, 3)) (ht : (pc : Int) + off = (tgt : Int)) (kt : (x < 0) → mw_W y d kc ks (tgt) ls (st) h Po) (kf : ¬ (x < 0) → mw_W y d kc ks (pc + 3) ls (st) h Po) : mw_W y d kc ks (pc) ls (.int x :: st) h Po := by
  intro G p l e R s m args below meth c mc msl H locs cells slots lsA C hc hs hR hS hL
  obtain ⟨hx, hb, hr, hml, hown, hlk, htr, htab, hnm, hRf, hRl, hRc, hRs, hK⟩ := id C
  exact lv_if_lt hx hb dg ht (fun q => kt q G p l e R s m args below meth c mc msl H locs cells slots lsA C hc hs hR hS hL) (fun q => kf q G p l e R s m args below meth c mc msl H locs cells slots lsA C hc hs hR hS hL)
theorem mw_icmp_lt {x z : Int32} {off : Int} {tgt : Nat} (dg : decode y.2.1 pc = .ok (.if_icmp .lt off, 3)) (ht : (pc : Int) + off = (tgt : Int)) (kt : (x < z) → mw_W y d kc ks (tgt) ls (st) h Po) (kf : ¬ (x < z) → mw_W y d kc ks (pc + 3) ls (st) h Po) : mw_W y d kc ks (pc) ls (.int z :: .int x :: st) h Po := by
  intro G p l e R s m args below meth c mc msl H locs cells slots lsA C hc hs hR hS hL
  obtain ⟨hx, hb, hr, hml, hown, hlk, htr, htab, hnm, hRf, hRl, hRc, hRs, hK⟩ := id C
  exact lv_icmp_lt hx hb dg ht (fun q => kt q G p l e R s m args below meth c mc msl H locs cells slots lsA C hc hs hR hS hL) (fun q => kf q G p l e R s m args below meth c mc msl H locs cells slots lsA C hc hs hR hS hL)
theorem mw_if_ge {x : Int32} {off : Int} {tgt : Nat} (dg : decode y.2.1 pc = .ok (.ifCond .ge off, 3)) (ht : (pc : Int) + off = (tgt : Int)) (kt : (0 ≤ x) → mw_W y d kc ks (tgt) ls (st) h Po) (kf : ¬ (0 ≤ x) → mw_W y d kc ks (pc + 3) ls (st) h Po) : mw_W y d kc ks (pc) ls (.int x :: st) h Po := by
  intro G p l e R s m args below meth c mc msl H locs cells slots lsA C hc hs hR hS hL
  obtain ⟨hx, hb, hr, hml, hown, hlk, htr, htab, hnm, hRf, hRl, hRc, hRs, hK⟩ := id C
  exact lv_if_ge hx hb dg ht (fun q => kt q G p l e R s m args below meth c mc msl H locs cells slots lsA C hc hs hR hS hL) (fun q => kf q G p l e R s m args below meth c mc msl H locs cells slots lsA C hc hs hR hS hL)
theorem mw_icmp_ge {x z : Int32} {off : Int} {tgt : Nat} (dg : decode y.2.1 pc = .ok (.if_icmp .ge off, 3)) (ht : (pc : Int) + off = (tgt : Int)) (kt : (z ≤ x) → mw_W y d kc ks (tgt) ls (st) h Po) (kf : ¬ (z ≤ x) → mw_W y d kc ks (pc + 3) ls (st) h Po) : mw_W y d kc ks (pc) ls (.int z :: .int x :: st) h Po := by
  intro G p l e R s m args below meth c mc msl H locs cells slots lsA C hc hs hR hS hL
  obtain ⟨hx, hb, hr, hml, hown, hlk, htr, htab, hnm, hRf, hRl, hRc, hRs, hK⟩ := id C
  exact lv_icmp_ge hx hb dg ht (fun q => kt q G p l e R s m args below meth c mc msl H locs cells slots lsA C hc hs hR hS hL) (fun q => kf q G p l e R s m args below meth c mc msl H locs cells slots lsA C hc hs hR hS hL)
theorem mw_if_gt {x : Int32} {off : Int} {tgt : Nat} (dg : decode y.2.1 pc = .ok (.ifCond .gt off, 3)) (ht : (pc : Int) + off = (tgt : Int)) (kt : (0 < x) → mw_W y d kc ks (tgt) ls (st) h Po) (kf : ¬ (0 < x) → mw_W y d kc ks (pc + 3) ls (st) h Po) : mw_W y d kc ks (pc) ls (.int x :: st) h Po := by
  intro G p l e R s m args below meth c mc msl H locs cells slots lsA C hc hs hR hS hL
  obtain ⟨hx, hb, hr, hml, hown, hlk, htr, htab, hnm, hRf, hRl, hRc, hRs, hK⟩ := id C
  exact lv_if_gt hx hb dg ht (fun q => kt q G p l e R s m args below meth c mc msl H locs cells slots lsA C hc hs hR hS hL) (fun q => kf q G p l e R s m args below meth c mc msl H locs cells slots lsA C hc hs hR hS hL)
theorem mw_icmp_gt {x z : Int32} {off : Int} {tgt : Nat} (dg : decode y.2.1 pc = .ok (.if_icmp .gt off, 3)) (ht : (pc : Int) + off = (tgt : Int)) (kt : (z < x) → mw_W y d kc ks (tgt) ls (st) h Po) (kf : ¬ (z < x) → mw_W y d kc ks (pc + 3) ls (st) h Po) : mw_W y d kc ks (pc) ls (.int z :: .int x :: st) h Po := by
  intro G p l e R s m args below meth c mc msl H locs cells slots lsA C hc hs hR hS hL
  obtain ⟨hx, hb, hr, hml, hown, hlk, htr, htab, hnm, hRf, hRl, hRc, hRs, hK⟩ := id C
  exact lv_icmp_gt hx hb dg ht (fun q => kt q G p l e R s m args below meth c mc msl H locs cells slots lsA C hc hs hR hS hL) (fun q => kf q G p l e R s m args below meth c mc msl H locs cells slots lsA C hc hs hR hS hL)
theorem mw_if_le {x : Int32} {off : Int} {tgt : Nat} (dg : decode y.2.1 pc = .ok (.ifCond .le off, 3)) (ht : (pc : Int) + off = (tgt : Int)) (kt : (x ≤ 0) → mw_W y d kc ks (tgt) ls (st) h Po) (kf : ¬ (x ≤ 0) → mw_W y d kc ks (pc + 3) ls (st) h Po) : mw_W y d kc ks (pc) ls (.int x :: st) h Po := by
  intro G p l e R s m args below meth c mc msl H locs cells slots lsA C hc hs hR hS hL
  obtain ⟨hx, hb, hr, hml, hown, hlk, htr, htab, hnm, hRf, hRl, hRc, hRs, hK⟩ := id C
  exact lv_if_le hx hb dg ht (fun q => kt q G p l e R s m args below meth c mc msl H locs cells slots lsA C hc hs hR hS hL) (fun q => kf q G p l e R s m args below meth c mc msl H locs cells slots lsA C hc hs hR hS hL)
theorem mw_icmp_le {x z : Int32} {off : Int} {tgt : Nat} (dg : decode y.2.1 pc = .ok (.if_icmp .le off, 3)) (ht : (pc : Int) + off = (tgt : Int)) (kt : (x ≤ z) → mw_W y d kc ks (tgt) ls (st) h Po) (kf : ¬ (x ≤ z) → mw_W y d kc ks (pc + 3) ls (st) h Po) : mw_W y d kc ks (pc) ls (.int z :: .int x :: st) h Po := by
  intro G p l e R s m args below meth c mc msl H locs cells slots lsA C hc hs hR hS hL
  obtain ⟨hx, hb, hr, hml, hown, hlk, htr, htab, hnm, hRf, hRl, hRc, hRs, hK⟩ := id C
  exact lv_icmp_le hx hb dg ht (fun q => kt q G p l e R s m args below meth c mc msl H locs cells slots lsA C hc hs hR hS hL) (fun q => kf q G p l e R s m args below meth c mc msl H locs cells slots lsA C hc hs hR hS hL)
theorem mw_ifnull {x : Nat} {off : Int} (dg : decode y.2.1 pc = .ok (.ifnull off, 3)) (k : mw_W y d kc ks (pc + 3) ls (st) h Po) : mw_W y d kc ks (pc) ls (.ref x :: st) h Po := by
  intro G p l e R s m args below meth c mc msl H locs cells slots lsA C hc hs hR hS hL
  obtain ⟨hx, hb, hr, hml, hown, hlk, htr, htab, hnm, hRf, hRl, hRc, hRs, hK⟩ := id C
  exact lv_ifnull hx hb dg (k G p l e R s m args below meth c mc msl H locs cells slots lsA C hc hs hR hS hL)
theorem mw_ifnullN {off : Int} {tgt : Nat} (dg : decode y.2.1 pc = .ok (.ifnull off, 3)) (ht : (pc : Int) + off = (tgt : Int)) (k : mw_W y d kc ks (tgt) ls (st) h Po) : mw_W y d kc ks (pc) ls (.null :: st) h Po := by
  intro G p l e R s m args below meth c mc msl H locs cells slots lsA C hc hs hR hS hL
  obtain ⟨hx, hb, hr, hml, hown, hlk, htr, htab, hnm, hRf, hRl, hRc, hRs, hK⟩ := id C
  exact lv_ifnullN hx hb dg ht (k G p l e R s m args below meth c mc msl H locs cells slots lsA C hc hs hR hS hL)
theorem mw_ifnonnull {x : Nat} {off : Int} {tgt : Nat} (dg : decode y.2.1 pc = .ok (.ifnonnull off, 3)) (ht : (pc : Int) + off = (tgt : Int)) (k : mw_W y d kc ks (tgt) ls (st) h Po) : mw_W y d kc ks (pc) ls (.ref x :: st) h Po := by
  intro G p l e R s m args below meth c mc msl H locs cells slots lsA C hc hs hR hS hL
  obtain ⟨hx, hb, hr, hml, hown, hlk, htr, htab, hnm, hRf, hRl, hRc, hRs, hK⟩ := id C
  exact lv_ifnonnull hx hb dg ht (k G p l e R s m args below meth c mc msl H locs cells slots lsA C hc hs hR hS hL)
theorem mw_ifnonnullN {off : Int} (dg : decode y.2.1 pc = .ok (.ifnonnull off, 3)) (k : mw_W y d kc ks (pc + 3) ls (st) h Po) : mw_W y d kc ks (pc) ls (.null :: st) h Po := by
  intro G p l e R s m args below meth c mc msl H locs cells slots lsA C hc hs hR hS hL
  obtain ⟨hx, hb, hr, hml, hown, hlk, htr, htab, hnm, hRf, hRl, hRc, hRs, hK⟩ := id C
  exact lv_ifnonnullN hx hb dg (k G p l e R s m args below meth c mc msl H locs cells slots lsA C hc hs hR hS hL)
theorem mw_rf {G : mw_G} (r : Option Nat) : mw_V G (va_rf r) = va_rf (r.map (mw_ad G)) := by cases r <;> rfl
theorem mw_rf_eq {G : mw_G} (hb : G.2.1 < mw_b0 G) {r z : Option Nat} (e : r.map (mw_ad G) = z.map (mw_ad G)) : r = z := by
  cases r <;> cases z
  · rfl
  · cases e
  · cases e
  · rw [Option.map_some, Option.map_some, Option.some.injEq] at e
    rw [mw_ad_inj2 hb e]
theorem mw_acmp_eq {r z : Option Nat} {off : Int} {tgt : Nat} (dg : decode y.2.1 pc = .ok (.if_acmp .eq off, 3)) (ht : (pc : Int) + off = (tgt : Int)) (kt : r = z → mw_W y d kc ks tgt ls st h Po) (kf : ¬ r = z → mw_W y d kc ks (pc + 3) ls st h Po) : mw_W y d kc ks pc ls (va_rf z :: va_rf r :: st) h Po := by
  intro G p l e R s m args below meth c mc msl H locs cells slots lsA C hc hs hR hS hL
  obtain ⟨hx, hb, hr, hml, hown, hlk, htr, htab, hnm, hRf, hRl, hRc, hRs, hK⟩ := id C
  show W _ _ _ _ _ _ _ _ _ _ _ _ _ _ _ (F0 m pc lsA (mw_V G (va_rf z) :: mw_V G (va_rf r) :: st.map (mw_V G)))
  rw [mw_rf, mw_rf]
  exact lv_acmp_eq hx hb dg ht (fun q => kt (mw_rf_eq hK.1.2.2.2.1 q) G p l e R s m args below meth c mc msl H locs cells slots lsA C hc hs hR hS hL) (fun q => kf (fun z9 => q (by rw [z9])) G p l e R s m args below meth c mc msl H locs cells slots lsA C hc hs hR hS hL)
theorem mw_tableIn {dflt lo hi : Int} {offs : Array Int} {len : Nat} {x : Int32} {off : Int} {tgt : Nat} (dg : decode y.2.1 pc = .ok (.tableswitch dflt lo hi offs, len)) (h1 : ¬ x.toInt < lo) (h2 : ¬ hi < x.toInt) (ho : offs[(x.toInt - lo).toNat]? = some off) (ht : (pc : Int) + off = (tgt : Int)) (k : mw_W y d kc ks tgt ls st h Po) : mw_W y d kc ks pc ls (.int x :: st) h Po := by
  intro G p l e R s m args below meth c mc msl H locs cells slots lsA C hc hs hR hS hL
  obtain ⟨hx, hb, hr, hml, hown, hlk, htr, htab, hnm, hRf, hRl, hRc, hRs, hK⟩ := id C
  exact lv_tableIn hx hb dg h1 h2 ho ht (k G p l e R s m args below meth c mc msl H locs cells slots lsA C hc hs hR hS hL)
theorem mw_tableOut {dflt lo hi : Int} {offs : Array Int} {len : Nat} {x : Int32} {tgt : Nat} (dg : decode y.2.1 pc = .ok (.tableswitch dflt lo hi offs, len)) (h9 : x.toInt < lo ∨ hi < x.toInt) (ht : (pc : Int) + dflt = (tgt : Int)) (k : mw_W y d kc ks tgt ls st h Po) : mw_W y d kc ks pc ls (.int x :: st) h Po := by
  intro G p l e R s m args below meth c mc msl H locs cells slots lsA C hc hs hR hS hL
  obtain ⟨hx, hb, hr, hml, hown, hlk, htr, htab, hnm, hRf, hRl, hRc, hRs, hK⟩ := id C
  exact lv_tableOut hx hb dg h9 ht (k G p l e R s m args below meth c mc msl H locs cells slots lsA C hc hs hR hS hL)
/-- a class whose objects the mini heap holds: its rows in the tables -/
def mw_CF (C : String) (T : u_T) (N : Nat) (ty : Nat → FieldType) : Prop := (∀ w ∈ u_ws C T N, w ∈ lw_tbl) ∧ (u_ws C T N).all goodWord = true ∧ (∀ k, k < N → parseFieldDescriptor (T k).2.2.1 = some (ty k)) ∧ (∀ a, a < N → ∀ b, b < N → a ≠ b → (T a).2.1 ≠ (T b).2.1)
/-- the field that a class's pool entry names: of the class ci the k-th, its type, final or not -/
def mw_F (own : String) (idx ci k : Nat) (tk : FieldType) (fin : Bool) : Prop := ∃ (C : String) (T : u_T) (N : Nat) (ty : Nat → FieldType), mw_cl[ci]? = some (C, T, N) ∧ mw_CF C T N ty ∧ k < N ∧ ty k = tk ∧ (T k).2.2.2 = fin ∧ (T k).1 = C ∧ Cond.fieldLink own idx (T k).1 (T k).2.1 (T k).2.2.1 ∈ lw_tbl
theorem mw_one {G : mw_G} {H : Heap} {a : Nat} {x : va_E} (ha : va_at G.2.2.2.1 mw_cl (mw_ad G a, mw_E G x) H) : va_P G.2.2.2.1 mw_cl [(mw_ad G a, mw_E G x)] H := by
  intro k q hk
  have hz : k < 1 := (List.getElem?_eq_some_iff.mp hk).1
  rw [show k = 0 by omega] at hk
  cases hk
  exact ha
theorem mw_get {a ci kf idx : Nat} {tk : FieldType} {fin : Bool} {fs : List Value} {v : Value} (dg : decode y.2.1 pc = .ok (.getfield idx, 3)) (hf : mw_F y.1.cls idx ci kf tk fin) (ho : mw_g h a = some (.inr (ci, fs))) (hv : fs[kf]? = some v) (k : mw_W y d kc ks (pc + 3) ls (v :: st) h Po) : mw_W y d kc ks pc ls (.ref a :: st) h Po := by
  intro G p l e R s m args below meth c mc msl H locs cells slots lsA C hc hs hR hS hL
  obtain ⟨hx, hb, hr, hml, hown, hlk, htr, htab, hnm, hRf, hRl, hRc, hRs, hK⟩ := id C
  obtain ⟨Cn, T, N, ty, hcl, ⟨hin, hgd, hty, hnmm⟩, hkN, -, -, -, hlk9⟩ := hf
  have hts : ∀ w ∈ u_ws Cn T N, w.before args s = true := fun w h9 => mw_word hK (hin w h9) (List.all_eq_true.mp hgd w h9)
  exact va_get (D := G.2.2.2.1) (cl := mw_cl) (tys := mw_tys G) (ws := [(mw_ad G a, mw_E G (.inr (ci, fs)))]) (ci := ci) (fs := fs.map (mw_V G)) (v := mw_V G v) hx hb hts (fun _ h9 => h9) hown (mw_know hK) (mw_one (hR.2.2.2 a _ ho).2.2) 0 rfl hcl kf hkN (mw_word hK hlk9 rfl) (fun _ h9 => h9) (by rw [List.getElem?_map, hv]; rfl) dg (k G p l e R s m args below meth c mc msl H locs cells slots lsA C hc hs hR hS hL)
theorem mw_put {a ci kf idx : Nat} {tk : FieldType} {fs : List Value} {v : Value} (dg : decode y.2.1 pc = .ok (.putfield idx, 3)) (hf : mw_F y.1.cls idx ci kf tk false) (ho : mw_g h a = some (.inr (ci, fs))) (hl : kf < fs.length) (hq : ∀ G : mw_G, narrow tk (mw_V G v) = mw_V G v ∧ fits tk (mw_V G v) = true) (k : mw_W y d kc ks (pc + 3) ls st (mw_s h a (.inr (ci, fs.set kf v))) Po) : mw_W y d kc ks pc ls (v :: .ref a :: st) h Po := by
  intro G p l e R s m args below meth c mc msl H locs cells slots lsA C hc hs hR hS hL
  obtain ⟨hx, hb, hr, hml, hown, hlk, htr, htab, hnm, hRf, hRl, hRc, hRs, hK⟩ := id C
  obtain ⟨Cn, T, N, ty, hcl, ⟨hin, hgd, hty, hnmm⟩, hkN, htk, hfin, -, hlk9⟩ := hf
  have hts : ∀ w ∈ u_ws Cn T N, w.before args s = true := fun w h9 => mw_word hK (hin w h9) (List.all_eq_true.mp hgd w h9)
  have hKn := mw_know hK
  have hap := va_apart (own := y.1.cls) hts (fun _ h9 => h9) ty hty hnmm hKn hcl
  obtain ⟨-, -, r, h1, cell, q1, q2, q3, q4⟩ := hR.2.2.2 a _ ho
  have hr9 : r = (Cn, T, N) := Option.some.inj (h1.symm.trans hcl)
  subst hr9
  obtain ⟨hS1, hfc, kC, hkC, hkind⟩ := hKn.1 ci _ hcl
  obtain ⟨cf, kf9, fi, f, hi, hsl⟩ := hS1 kf hkN
  have hlay := hts _ (u_in_lay hkN)
  unfold u_lay at hlay
  rw [if_neg (by rw [hfin]; decide)] at hlay
  have hst := (u_facts hfc hkC (u_lays hts (fun _ h9 => h9) hkN) hi).1
  have h6 := u_store hfc hkC hkind hlay hi (by rw [← htk]; exact hty kf hkN) (hq G).1 (hq G).2
  refine W.putK hx hb (f := f) ⟨hown, mw_word hK hlk9 rfl, ⟨_, _, _, hi⟩, hst⟩ (by rw [q2]; exact h6) q1 q3 (by rw [hsl]; exact k2_hasslot (q4 kf hkN)) rfl rfl dg fun H' e1 e2 e3 => ?_
  rw [hsl] at e1 ⊢
  refine k G p l e R s m args below meth c mc msl H' _ cells slots lsA C hc hs (mw_R_set hR ho ?_ e2 e3) (hS.put e2 e3 (mw_R_in hR ho)) hL
  refine ⟨_, hcl, t_OB.to (V := updV (vp_V (fs.map (mw_V G))) kf (mw_V G v)) ⟨_, e1, q2, q3, t_set q4 hap hkN _⟩ (fun j _ => ?_)⟩
  rw [vp_updV_set (by rw [List.length_map]; exact hl)]
  show vp_V _ j = vp_V ((fs.set kf v).map (mw_V G)) j
  rw [List.map_set]
theorem mw_putF {a ci kf idx : Nat} {tk : FieldType} {fs : List Value} {v : Value} (dg : decode y.2.1 pc = .ok (.putfield idx, 3)) (hf : mw_F y.1.cls idx ci kf tk true) (hcd : (mw_cl[ci]?).map (fun q => q.1) = some y.1.cls) (hini : y.1.name = "<init>") (ho : mw_g h a = some (.inr (ci, fs))) (hl : kf < fs.length) (hq : ∀ G : mw_G, narrow tk (mw_V G v) = mw_V G v ∧ fits tk (mw_V G v) = true) (k : mw_W y d kc ks (pc + 3) ls st (mw_s h a (.inr (ci, fs.set kf v))) Po) : mw_W y d kc ks pc ls (v :: .ref a :: st) h Po := by
  intro G p l e R s m args below meth c mc msl H locs cells slots lsA C hc hs hR hS hL
  obtain ⟨hx, hb, hr, hml, hown, hlk, htr, htab, hnm, hRf, hRl, hRc, hRs, hK⟩ := id C
  obtain ⟨Cn, T, N, ty, hcl, ⟨hin, hgd, hty, hnmm⟩, hkN, htk, hfin, hTC, hlk9⟩ := hf
  have hts : ∀ w ∈ u_ws Cn T N, w.before args s = true := fun w h9 => mw_word hK (hin w h9) (List.all_eq_true.mp hgd w h9)
  have hKn := mw_know hK
  have hap := va_apart (own := y.1.cls) hts (fun _ h9 => h9) ty hty hnmm hKn hcl
  have hCy : Cn = y.1.cls := by rw [hcl] at hcd; exact Option.some.inj hcd
  obtain ⟨-, -, r, h1, cell, q1, q2, q3, q4⟩ := hR.2.2.2 a _ ho
  have hr9 : r = (Cn, T, N) := Option.some.inj (h1.symm.trans hcl)
  subst hr9
  obtain ⟨hS1, hfc, kC, hkC, hkind⟩ := hKn.1 ci _ hcl
  obtain ⟨cf, kf9, fi, f, hi, hsl⟩ := hS1 kf hkN
  have hlay := hts _ (u_in_lay hkN)
  unfold u_lay at hlay
  rw [if_pos hfin] at hlay
  have hst := (u_facts hfc hkC (u_lays hts (fun _ h9 => h9) hkN) hi).1
  have hcf : m.cls = cf := by
    obtain ⟨_, _, c', _, _, _, -, -, hf', -, -, -, hown2, -⟩ := Cond.laysFinal_spec hlay
    have e1 : c' = cf := by have := hi.symm.trans hf'; simp at this; exact this.1.symm
    rw [hTC, hCy] at hown2
    rw [← e1]; exact Option.some.inj (hown.symm.trans hown2)
  have h6 := u_fits hfc hkC hkind (Or.inr hlay) hi (by rw [← htk]; exact hty kf hkN) (hq G).1 (hq G).2
  refine W.putFinK hx hb hown (mw_word hK hlk9 rfl) hi hst hcf (hnm.trans hini) (by rw [q2]; exact h6) q1 q3 (by rw [hsl]; exact k2_hasslot (q4 kf hkN)) rfl rfl dg fun H' e1 e2 e3 => ?_
  rw [hsl] at e1 ⊢
  refine k G p l e R s m args below meth c mc msl H' _ cells slots lsA C hc hs (mw_R_set hR ho ?_ e2 e3) (hS.put e2 e3 (mw_R_in hR ho)) hL
  refine ⟨_, hcl, t_OB.to (V := updV (vp_V (fs.map (mw_V G))) kf (mw_V G v)) ⟨_, e1, q2, q3, t_set q4 hap hkN _⟩ (fun j _ => ?_)⟩
  rw [vp_updV_set (by rw [List.length_map]; exact hl)]
  show vp_V _ j = vp_V ((fs.set kf v).map (mw_V G)) j
  rw [List.map_set]
theorem mw_ix {i : Int32} {j n : Nat} (hi : i = nI j) (hj : j < n) (hn : n < 2 ^ 31) : vp_in i n ∧ i.toNatClampNeg = j := by
  subst hi
  exact ⟨vp_in_nI hj hn, nI_clamp (by omega)⟩
theorem mw_iald {a n j : Nat} {f : Nat → Int32} {i : Int32} (dg : decode y.2.1 pc = .ok (.iaload, 1)) (ho : mw_g h a = some (.inl (0, (n, .inl f)))) (hi : vp_in i n ∧ i.toNatClampNeg = j) (k : mw_W y d kc ks (pc + 1) ls (.int (f j) :: st) h Po) : mw_W y d kc ks pc ls (.int i :: .ref a :: st) h Po := by
  intro G p l e R s m args below meth c mc msl H locs cells slots lsA C hc hs hR hS hL
  obtain ⟨hx, hb, hr, hml, hown, hlk, htr, htab, hnm, hRf, hRl, hRc, hRs, hK⟩ := id C
  refine va_iald (D := G.2.2.2.1) (cl := mw_cl) (tys := mw_tys G) (ws := [(mw_ad G a, mw_E G (.inl (0, (n, .inl f))))]) (f := f) hx hb (mw_know hK) (mw_one (hR.2.2.2 a _ ho).2.2) 0 0 rfl rfl hi.1 dg ?_
  rw [hi.2]
  exact k G p l e R s m args below meth c mc msl H locs cells slots lsA C hc hs hR hS hL
theorem mw_bald {a n j : Nat} {f : Nat → Int32} {i : Int32} (dg : decode y.2.1 pc = .ok (.baload, 1)) (ho : mw_g h a = some (.inl (1, (n, .inl f)))) (hi : vp_in i n ∧ i.toNatClampNeg = j) (k : mw_W y d kc ks (pc + 1) ls (.int (f j) :: st) h Po) : mw_W y d kc ks pc ls (.int i :: .ref a :: st) h Po := by
  intro G p l e R s m args below meth c mc msl H locs cells slots lsA C hc hs hR hS hL
  obtain ⟨hx, hb, hr, hml, hown, hlk, htr, htab, hnm, hRf, hRl, hRc, hRs, hK⟩ := id C
  refine va_bald (D := G.2.2.2.1) (cl := mw_cl) (tys := mw_tys G) (ws := [(mw_ad G a, mw_E G (.inl (1, (n, .inl f))))]) (f := f) hx hb (mw_know hK) (mw_one (hR.2.2.2 a _ ho).2.2) 0 1 rfl rfl hi.1 dg ?_
  rw [hi.2]
  exact k G p l e R s m args below meth c mc msl H locs cells slots lsA C hc hs hR hS hL
theorem mw_zald {a n j : Nat} {f : Nat → Int32} {i : Int32} (dg : decode y.2.1 pc = .ok (.baload, 1)) (ho : mw_g h a = some (.inl (2, (n, .inl f)))) (hi : vp_in i n ∧ i.toNatClampNeg = j) (k : mw_W y d kc ks (pc + 1) ls (.int (f j) :: st) h Po) : mw_W y d kc ks pc ls (.int i :: .ref a :: st) h Po := by
  intro G p l e R s m args below meth c mc msl H locs cells slots lsA C hc hs hR hS hL
  obtain ⟨hx, hb, hr, hml, hown, hlk, htr, htab, hnm, hRf, hRl, hRc, hRs, hK⟩ := id C
  refine va_zald (D := G.2.2.2.1) (cl := mw_cl) (tys := mw_tys G) (ws := [(mw_ad G a, mw_E G (.inl (2, (n, .inl f))))]) (f := f) hx hb (mw_know hK) (mw_one (hR.2.2.2 a _ ho).2.2) 0 2 rfl rfl hi.1 dg ?_
  rw [hi.2]
  exact k G p l e R s m args below meth c mc msl H locs cells slots lsA C hc hs hR hS hL
theorem mw_lald {a n j : Nat} {f : Nat → Int64} {i : Int32} (dg : decode y.2.1 pc = .ok (.laload, 1)) (ho : mw_g h a = some (.inl (3, (n, .inr (.inl f))))) (hi : vp_in i n ∧ i.toNatClampNeg = j) (k : mw_W y d kc ks (pc + 1) ls (.long (f j) :: st) h Po) : mw_W y d kc ks pc ls (.int i :: .ref a :: st) h Po := by
  intro G p l e R s m args below meth c mc msl H locs cells slots lsA C hc hs hR hS hL
  obtain ⟨hx, hb, hr, hml, hown, hlk, htr, htab, hnm, hRf, hRl, hRc, hRs, hK⟩ := id C
  refine va_lald (D := G.2.2.2.1) (cl := mw_cl) (tys := mw_tys G) (ws := [(mw_ad G a, mw_E G (.inl (3, (n, .inr (.inl f)))))]) (f := f) hx hb (mw_know hK) (mw_one (hR.2.2.2 a _ ho).2.2) 0 3 rfl rfl hi.1 dg ?_
  rw [hi.2]
  exact k G p l e R s m args below meth c mc msl H locs cells slots lsA C hc hs hR hS hL
theorem mw_aald {a n j t : Nat} {Cn : String} {g : Nat → Option Nat} {i : Int32} (ht : ∀ G : mw_G, (mw_tys G)[t]? = some (G.2.2.2.2 t, .object Cn)) (dg : decode y.2.1 pc = .ok (.aaload, 1)) (ho : mw_g h a = some (.inl (t, (n, .inr (.inr (.inr (.inr g))))))) (hi : vp_in i n ∧ i.toNatClampNeg = j) (k : mw_W y d kc ks (pc + 1) ls (va_rf (g j) :: st) h Po) : mw_W y d kc ks pc ls (.int i :: .ref a :: st) h Po := by
  intro G p l e R s m args below meth c mc msl H locs cells slots lsA C hc hs hR hS hL
  obtain ⟨hx, hb, hr, hml, hown, hlk, htr, htab, hnm, hRf, hRl, hRc, hRs, hK⟩ := id C
  refine va_aldq (D := G.2.2.2.1) (cl := mw_cl) (tys := mw_tys G) (ws := [(mw_ad G a, mw_E G (.inl (t, (n, .inr (.inr (.inr (.inr g)))))))]) (f := fun q => (g q).map (mw_ad G)) hx hb (mw_know hK) (mw_one (hR.2.2.2 a _ ho).2.2) 0 t rfl (ht G) hi.1 dg ?_
  rw [hi.2, ← mw_rf]
  exact k G p l e R s m args below meth c mc msl H locs cells slots lsA C hc hs hR hS hL
theorem mw_alen {a n t : Nat} {z : (Nat → Int32) ⊕ (Nat → Int64) ⊕ (Nat → UInt32) ⊕ (Nat → UInt64) ⊕ (Nat → Option Nat)} {tk : FieldType} (ht : ∀ G : mw_G, (mw_tys G)[t]? = some (G.2.2.2.2 t, tk)) (dg : decode y.2.1 pc = .ok (.arraylength, 1)) (ho : mw_g h a = some (.inl (t, (n, z)))) (k : mw_W y d kc ks (pc + 1) ls (.int (nI n) :: st) h Po) : mw_W y d kc ks pc ls (.ref a :: st) h Po := by
  intro G p l e R s m args below meth c mc msl H locs cells slots lsA C hc hs hR hS hL
  obtain ⟨hx, hb, hr, hml, hown, hlk, htr, htab, hnm, hRf, hRl, hRc, hRs, hK⟩ := id C
  refine va_alen (D := G.2.2.2.1) (cl := mw_cl) (tys := mw_tys G) (ws := [(mw_ad G a, mw_E G (.inl (t, (n, z))))]) hx hb (mw_know hK) (mw_one (hR.2.2.2 a _ ho).2.2) 0 t (x := mw_A G (n, z)) rfl (ht G) (v := nI n) ?_ dg (k G p l e R s m args below meth c mc msl H locs cells slots lsA C hc hs hR hS hL)
  obtain f | f | f | f | f := z <;> rfl
theorem mw_sld {j : Nat} {i : Int32} (dg : decode y.2.1 pc = .ok (.iaload, 1)) (hi : vp_in i h.2.2.1 ∧ i.toNatClampNeg = j) (k : mw_W y d kc ks (pc + 1) ls (.int (h.2.2.2 j) :: st) h Po) : mw_W y d kc ks pc ls (.int i :: .ref 0 :: st) h Po := by
  intro G p l e R s m args below meth c mc msl H locs cells slots lsA C hc hs hR hS hL
  obtain ⟨hx, hb, hr, hml, hown, hlk, htr, htab, hnm, hRf, hRl, hRc, hRs, hK⟩ := id C
  have e9 := hR.2.2.1
  refine va_sld (A := mw_I G) hx hb (mw_X0 hK) (Nat.lt_of_lt_of_le hK.1.2.2.2.1 hK.2.2.1) (Nat.not_le.mpr hK.1.2.2.2.1) hS (by rw [← e9]; exact hi.1) dg ?_
  rw [hi.2, ← e9]
  exact k G p l e R s m args below meth c mc msl H locs cells slots lsA C hc hs hR hS hL
theorem mw_slen (dg : decode y.2.1 pc = .ok (.arraylength, 1)) (k : mw_W y d kc ks (pc + 1) ls (.int (nI h.2.2.1) :: st) h Po) : mw_W y d kc ks pc ls (.ref 0 :: st) h Po := by
  intro G p l e R s m args below meth c mc msl H locs cells slots lsA C hc hs hR hS hL
  obtain ⟨hx, hb, hr, hml, hown, hlk, htr, htab, hnm, hRf, hRl, hRc, hRs, hK⟩ := id C
  have e9 := hR.2.2.1
  refine va_slen (A := mw_I G) hx hb (mw_X0 hK) (Nat.lt_of_lt_of_le hK.1.2.2.2.1 hK.2.2.1) (Nat.not_le.mpr hK.1.2.2.2.1) hS dg ?_
  have k9 := k G p l e R s m args below meth c mc msl H locs cells slots lsA C hc hs hR hS hL
  rw [e9] at k9
  exact k9
theorem mw_iast {a n j : Nat} {f : Nat → Int32} {i : Int32} {x : Int32} (dg : decode y.2.1 pc = .ok (.iastore, 1)) (ho : mw_g h a = some (.inl (0, (n, .inl f)))) (hi : vp_in i n ∧ i.toNatClampNeg = j) (k : mw_W y d kc ks (pc + 1) ls st (mw_s h a (.inl (0, (n, .inl (upd f j x))))) Po) : mw_W y d kc ks pc ls (.int x :: .int i :: .ref a :: st) h Po := by
  intro G p l e R s m args below meth c mc msl H locs cells slots lsA C hc hs hR hS hL
  obtain ⟨hx, hb, hr, hml, hown, hlk, htr, htab, hnm, hRf, hRl, hRc, hRs, hK⟩ := id C
  obtain ⟨-, -, hat⟩ := hR.2.2.2 a _ ho
  refine W.iast hx hb hat (((mw_know hK).2 0 _ rfl).1 n (fun q => .int (f q))) (fun q => by cases q) (by show ¬ (i < 0 ∨ (arrV _ _ _).slots.size ≤ _); rw [arrV_size]; exact hi.1) rfl rfl dg fun H1 e1 e2 e3 => ?_
  refine k G p l e R s m args below meth c mc msl H1 _ cells slots lsA C hc hs (mw_R_set hR ho ?_ e2 e3) (hS.put e2 e3 (mw_R_in hR ho)) hL
  show H1[mw_ad G a]? = some (vp_cell (G.2.2.2.2 0) (n, .inl (upd f j x)))
  rw [e1]
  show some ((vp_cell (G.2.2.2.2 0) (n, .inl f)).setSlot _ (.int x)) = _
  rw [vp_cell_i, vp_cell_i, arrV_store, hi.2]
  congr 2
  funext q
  by_cases hq : q = j
  · subst hq
    simp [updV, upd]
  · simp [updV, upd, hq]
theorem mw_bast {a n j : Nat} {f : Nat → Int32} {i : Int32} {x : Int32} (dg : decode y.2.1 pc = .ok (.bastore, 1)) (ho : mw_g h a = some (.inl (1, (n, .inl f)))) (hi : vp_in i n ∧ i.toNatClampNeg = j) (k : mw_W y d kc ks (pc + 1) ls st (mw_s h a (.inl (1, (n, .inl (upd f j (vp_nar .byte x)))))) Po) : mw_W y d kc ks pc ls (.int x :: .int i :: .ref a :: st) h Po := by
  intro G p l e R s m args below meth c mc msl H locs cells slots lsA C hc hs hR hS hL
  obtain ⟨hx, hb, hr, hml, hown, hlk, htr, htab, hnm, hRf, hRl, hRc, hRs, hK⟩ := id C
  obtain ⟨-, -, hat⟩ := hR.2.2.2 a _ ho
  refine W.bast hx hb hat (((mw_know hK).2 1 _ rfl).1 n (fun q => .int (f q))) (fun q => by cases q) (by show ¬ (i < 0 ∨ (arrV _ _ _).slots.size ≤ _); rw [arrV_size]; exact hi.1) rfl rfl dg fun H1 e1 e2 e3 => ?_
  refine k G p l e R s m args below meth c mc msl H1 _ cells slots lsA C hc hs (mw_R_set hR ho ?_ e2 e3) (hS.put e2 e3 (mw_R_in hR ho)) hL
  show H1[mw_ad G a]? = some (vp_cell (G.2.2.2.2 1) (n, .inl (upd f j (vp_nar .byte x))))
  rw [e1]
  show some ((vp_cell (G.2.2.2.2 1) (n, .inl f)).setSlot _ (.int (vp_nar .byte x))) = _
  rw [vp_cell_i, vp_cell_i, arrV_store, hi.2]
  congr 2
  funext q
  by_cases hq : q = j
  · subst hq
    simp [updV, upd]
  · simp [updV, upd, hq]
theorem mw_zast {a n j : Nat} {f : Nat → Int32} {i : Int32} {x : Int32} (dg : decode y.2.1 pc = .ok (.bastore, 1)) (ho : mw_g h a = some (.inl (2, (n, .inl f)))) (hi : vp_in i n ∧ i.toNatClampNeg = j) (k : mw_W y d kc ks (pc + 1) ls st (mw_s h a (.inl (2, (n, .inl (upd f j (vp_nar .boolean x)))))) Po) : mw_W y d kc ks pc ls (.int x :: .int i :: .ref a :: st) h Po := by
  intro G p l e R s m args below meth c mc msl H locs cells slots lsA C hc hs hR hS hL
  obtain ⟨hx, hb, hr, hml, hown, hlk, htr, htab, hnm, hRf, hRl, hRc, hRs, hK⟩ := id C
  obtain ⟨-, -, hat⟩ := hR.2.2.2 a _ ho
  refine W.zast hx hb hat (((mw_know hK).2 2 _ rfl).1 n (fun q => .int (f q))) (fun q => by cases q) (by show ¬ (i < 0 ∨ (arrV _ _ _).slots.size ≤ _); rw [arrV_size]; exact hi.1) rfl rfl dg fun H1 e1 e2 e3 => ?_
  refine k G p l e R s m args below meth c mc msl H1 _ cells slots lsA C hc hs (mw_R_set hR ho ?_ e2 e3) (hS.put e2 e3 (mw_R_in hR ho)) hL
  show H1[mw_ad G a]? = some (vp_cell (G.2.2.2.2 2) (n, .inl (upd f j (vp_nar .boolean x))))
  rw [e1]
  show some ((vp_cell (G.2.2.2.2 2) (n, .inl f)).setSlot _ (.int (vp_nar .boolean x))) = _
  rw [vp_cell_i, vp_cell_i, arrV_store, hi.2]
  congr 2
  funext q
  by_cases hq : q = j
  · subst hq
    simp [updV, upd]
  · simp [updV, upd, hq]
theorem mw_last {a n j : Nat} {f : Nat → Int64} {i : Int32} {x : Int64} (dg : decode y.2.1 pc = .ok (.lastore, 1)) (ho : mw_g h a = some (.inl (3, (n, .inr (.inl f))))) (hi : vp_in i n ∧ i.toNatClampNeg = j) (k : mw_W y d kc ks (pc + 1) ls st (mw_s h a (.inl (3, (n, .inr (.inl (vf_upd f j x)))))) Po) : mw_W y d kc ks pc ls (.long x :: .int i :: .ref a :: st) h Po := by
  intro G p l e R s m args below meth c mc msl H locs cells slots lsA C hc hs hR hS hL
  obtain ⟨hx, hb, hr, hml, hown, hlk, htr, htab, hnm, hRf, hRl, hRc, hRs, hK⟩ := id C
  obtain ⟨-, -, hat⟩ := hR.2.2.2 a _ ho
  refine W.last hx hb hat (((mw_know hK).2 3 _ rfl).1 n (fun q => .long (f q))) (fun q => by cases q) (by show ¬ (i < 0 ∨ (arrV _ _ _).slots.size ≤ _); rw [arrV_size]; exact hi.1) rfl rfl dg fun H1 e1 e2 e3 => ?_
  refine k G p l e R s m args below meth c mc msl H1 _ cells slots lsA C hc hs (mw_R_set hR ho ?_ e2 e3) (hS.put e2 e3 (mw_R_in hR ho)) hL
  show H1[mw_ad G a]? = some (vp_cell (G.2.2.2.2 3) (n, .inr (.inl (vf_upd f j x))))
  rw [e1]
  show some ((vp_cell (G.2.2.2.2 3) (n, .inr (.inl f))).setSlot _ (.long x)) = _
  rw [vp_cell_l, vp_cell_l, arrV_store, hi.2]
  congr 2
  funext q
  by_cases hq : q = j
  · subst hq
    simp [updV, vf_upd]
  · simp [updV, vf_upd, hq]
theorem mw_aast {a n j t b cj : Nat} {Cn : String} {T : u_T} {N : Nat} {g : Nat → Option Nat} {i : Int32} {vs : List Value} (ht : ∀ G : mw_G, (mw_tys G)[t]? = some (G.2.2.2.2 t, .object Cn)) (dg : decode y.2.1 pc = .ok (.aastore, 1)) (ho : mw_g h a = some (.inl (t, (n, .inr (.inr (.inr (.inr g))))))) (hi : vp_in i n ∧ i.toNatClampNeg = j) (hv : mw_g h b = some (.inr (cj, vs))) (hcj : mw_cl[cj]? = some (Cn, T, N)) (k : mw_W y d kc ks (pc + 1) ls st (mw_s h a (.inl (t, (n, .inr (.inr (.inr (.inr (va_up g j (some b))))))))) Po) : mw_W y d kc ks pc ls (.ref b :: .int i :: .ref a :: st) h Po := by
  intro G p l e R s m args below meth c mc msl H locs cells slots lsA C hc hs hR hS hL
  obtain ⟨hx, hb, hr, hml, hown, hlk, htr, htab, hnm, hRf, hRl, hRc, hRs, hK⟩ := id C
  obtain ⟨-, -, hat⟩ := hR.2.2.2 a _ ho
  obtain ⟨-, -, r', hr', cellV, g1, g2, g3, -⟩ := hR.2.2.2 b _ hv
  have hKn := mw_know hK
  have hcls := (hKn.1 cj _ hcj).2
  obtain ⟨kA, comp, k1, k2, k3, -⟩ := (hKn.2 t _ (ht G)).2
  have hcomp : comp = G.2.2.2.1.1 cj := Option.some.inj (k3.symm.trans hcls.1)
  subst hcomp
  obtain ⟨kC, hkC, -⟩ := hcls.2
  have hlt : i.toNatClampNeg < n := Nat.not_le.mp fun q => hi.1 (Or.inr q)
  have h0 : ¬ i < 0 := fun q => hi.1 (Or.inl q)
  refine W.aast hx hb hat (fun q h9 => by cases h9) (fun h9 => by cases h9) k1 k2 rfl hkC ⟨h0, by show _ < (arrV _ _ _).slots.size; rw [arrV_size]; exact hlt⟩ g1 (fun q h9 => by rw [g3] at h9; cases h9) (by rw [g2]; exact hkC) (by rw [g2]; exact va_assign hcls) rfl rfl dg fun H1 e1 e2 e3 => ?_
  refine k G p l e R s m args below meth c mc msl H1 _ cells slots lsA C hc hs (mw_R_set hR ho ?_ e2 e3) (hS.put e2 e3 (mw_R_in hR ho)) hL
  show H1[mw_ad G a]? = some (vp_cell (G.2.2.2.2 t) (n, .inr (.inr (.inr (.inr (fun q => (va_up g j (some b) q).map (mw_ad G)))))))
  rw [e1]
  show some ((vp_cell (G.2.2.2.2 t) (n, .inr (.inr (.inr (.inr (fun q => (g q).map (mw_ad G))))))).setSlot _ _) = _
  rw [vp_cell_q, vp_cell_q, arrV_store, hi.2]
  congr 2
  funext q
  by_cases hq : q = j
  · subst hq
    simp [updV, va_up, va_rf, mw_V]
  · simp [updV, va_up, hq]
theorem mw_aastN {a n j t : Nat} {Cn : String} {g : Nat → Option Nat} {i : Int32} (ht : ∀ G : mw_G, (mw_tys G)[t]? = some (G.2.2.2.2 t, .object Cn)) (dg : decode y.2.1 pc = .ok (.aastore, 1)) (ho : mw_g h a = some (.inl (t, (n, .inr (.inr (.inr (.inr g))))))) (hi : vp_in i n ∧ i.toNatClampNeg = j) (k : mw_W y d kc ks (pc + 1) ls st (mw_s h a (.inl (t, (n, .inr (.inr (.inr (.inr (va_up g j none)))))))) Po) : mw_W y d kc ks pc ls (.null :: .int i :: .ref a :: st) h Po := by
  intro G p l e R s m args below meth c mc msl H locs cells slots lsA C hc hs hR hS hL
  obtain ⟨hx, hb, hr, hml, hown, hlk, htr, htab, hnm, hRf, hRl, hRc, hRs, hK⟩ := id C
  obtain ⟨-, -, hat⟩ := hR.2.2.2 a _ ho
  have hKn := mw_know hK
  refine va_WaastN (C := Cn) hx hb hat ((hKn.2 t _ (ht G)).1 n (fun q => va_rf ((g q).map (mw_ad G)))) (fun h9 => by cases h9) (by show ¬ (i < 0 ∨ (arrV _ _ _).slots.size ≤ _); rw [arrV_size]; exact hi.1) rfl rfl dg fun H1 e1 e2 e3 => ?_
  refine k G p l e R s m args below meth c mc msl H1 _ cells slots lsA C hc hs (mw_R_set hR ho ?_ e2 e3) (hS.put e2 e3 (mw_R_in hR ho)) hL
  show H1[mw_ad G a]? = some (vp_cell (G.2.2.2.2 t) (n, .inr (.inr (.inr (.inr (fun q => (va_up g j none q).map (mw_ad G)))))))
  rw [e1]
  show some ((vp_cell (G.2.2.2.2 t) (n, .inr (.inr (.inr (.inr (fun q => (g q).map (mw_ad G))))))).setSlot _ _) = _
  rw [vp_cell_q, vp_cell_q, arrV_store, hi.2]
  congr 2
  funext q
  by_cases hq : q = j
  · subst hq
    simp [updV, va_up, va_rf]
  · simp [updV, va_up, hq]
/-- a cell more: nothing old has changed -/
theorem mw_S_new {G : mw_G} {H0 H H1 : Heap} {locs : List Loc} (hS : va_S (mw_I G) H0 H locs) (hz : H1.size = H.size + 1) (oq : ∀ q : Nat, q < H.size → H1[q]? = H[q]?) : va_S (mw_I G) H0 H1 locs :=
  ⟨Nat.le_trans hS.1 (by omega), fun x h1 h2 => (oq x (Nat.lt_of_lt_of_le h1 hS.1)).trans (hS.2.1 x h1 h2), hS.2.2⟩
theorem mw_ref {G : mw_G} {h : mw_H} {H : Heap} (hR : mw_R G h H) (st : List Value) : (Value.ref h.1 :: st).map (mw_V G) = .ref H.size :: st.map (mw_V G) := by
  show Value.ref (mw_ad G h.1) :: _ = _
  rw [mw_R_next hR]
theorem mw_new {ci idx N kc' ks' : Nat} {Cn : String} {T : u_T} {ty : Nat → FieldType} {fs : List Value} (hcl : mw_cl[ci]? = some (Cn, T, N)) (hcf : mw_CF Cn T N ty) (hw : Cond.classLink y.1.cls idx Cn ∈ lw_tbl ∧ Cond.instantiable Cn N ∈ lw_tbl ∧ Cond.initialized Cn ∈ lw_tbl) (hfs : ∀ j, j < N → defaultValue (ty j) = vp_V fs j) (hfm : ∀ G : mw_G, fs.map (mw_V G) = fs) (dg : decode y.2.1 pc = .ok (.new idx, 3)) (hkc : kc' + 1 ≤ kc) (hks : ks' + N ≤ ks)
    (k : mw_W y d kc' ks' (pc + 3) ls (.ref h.1 :: st) (mw_n h (.inr (ci, fs))) Po) : mw_W y d kc ks pc ls st h Po := by
  intro G p l e R s m args below meth c mc msl H locs cells slots lsA C hc hs hR hS hL
  obtain ⟨hx, hb, hr, hml, hown, hlk, htr, htab, hnm, hRf, hRl, hRc, hRs, hK⟩ := id C
  obtain ⟨hin, hgd, hty, hnmm⟩ := hcf
  have hts : ∀ w ∈ u_ws Cn T N, w.before args s = true := fun w h9 => mw_word hK (hin w h9) (List.all_eq_true.mp hgd w h9)
  have hKn := (mw_know hK).1 ci _ hcl
  refine W.newcK hx hb hown (mw_word hK hw.1 rfl) (mw_word hK hw.2.1 rfl) (mw_word hK hw.2.2 rfl) rfl dg (by omega) (by omega) hKn.2.1 rfl fun H1 kC hkC e1 z1 o1 => ?_
  have k9 := k G p l e R s m args below meth c mc msl H1 locs (cells + 1) (slots + N) lsA C (by omega) (by omega) (mw_R_new hR ?_ z1 o1) (mw_S_new hS z1 o1) hL
  · rw [mw_ref hR] at k9
    exact k9
  · refine ⟨_, hcl, ?_⟩
    show t_OB _ _ _ _ _ (vp_V (fs.map (mw_V G)))
    rw [hfm]
    exact (u_born ty hts (fun _ h9 => h9) hKn hkC e1 hty).to hfs
theorem mw_newI {N kc' ks' : Nat} {n : Int32} (hw : Cond.arrayClass .int ∈ lw_tbl) (dg : decode y.2.1 pc = .ok (.newarray .int, 2)) (hn : ¬ n < 0) (hN : n.toNatClampNeg = N) (hby : N ≤ 60000) (hkc : kc' + 1 ≤ kc) (hks : ks' + N ≤ ks)
    (k : mw_W y d kc' ks' (pc + 2) ls (.ref h.1 :: st) (mw_n h (.inl (0, (N, .inl (fun _ => 0))))) Po) : mw_W y d kc ks pc ls (.int n :: st) h Po := by
  intro G p l e R s m args below meth c mc msl H locs cells slots lsA C hc hs hR hS hL
  obtain ⟨hx, hb, hr, hml, hown, hlk, htr, htab, hnm, hRf, hRl, hRc, hRs, hK⟩ := id C
  refine va_newaK (atype := .int) hx hb (mw_word hK hw rfl) rfl dg rfl hn hN (by show N * 4 ≤ 536870912; omega) (by omega) (by omega) rfl fun H1 cA e1 z1 o1 hAr hNm => ?_
  have hcA : cA = G.2.2.2.2 0 := Option.some.inj (hNm.symm.trans ((mw_know hK).2 0 _ rfl).2)
  subst hcA
  have k9 := k G p l e R s m args below meth c mc msl H1 locs (cells + 1) (slots + N) lsA C (by omega) (by omega) (mw_R_new hR ?_ z1 o1) (mw_S_new hS z1 o1) hL
  · rw [mw_ref hR] at k9
    exact k9
  · exact e1
theorem mw_newB {N kc' ks' : Nat} {n : Int32} (hw : Cond.arrayClass .byte ∈ lw_tbl) (dg : decode y.2.1 pc = .ok (.newarray .byte, 2)) (hn : ¬ n < 0) (hN : n.toNatClampNeg = N) (hby : N ≤ 60000) (hkc : kc' + 1 ≤ kc) (hks : ks' + N ≤ ks)
    (k : mw_W y d kc' ks' (pc + 2) ls (.ref h.1 :: st) (mw_n h (.inl (1, (N, .inl (fun _ => 0))))) Po) : mw_W y d kc ks pc ls (.int n :: st) h Po := by
  intro G p l e R s m args below meth c mc msl H locs cells slots lsA C hc hs hR hS hL
  obtain ⟨hx, hb, hr, hml, hown, hlk, htr, htab, hnm, hRf, hRl, hRc, hRs, hK⟩ := id C
  refine va_newaK (atype := .byte) hx hb (mw_word hK hw rfl) rfl dg rfl hn hN (by show N * 1 ≤ 536870912; omega) (by omega) (by omega) rfl fun H1 cA e1 z1 o1 hAr hNm => ?_
  have hcA : cA = G.2.2.2.2 1 := Option.some.inj (hNm.symm.trans ((mw_know hK).2 1 _ rfl).2)
  subst hcA
  have k9 := k G p l e R s m args below meth c mc msl H1 locs (cells + 1) (slots + N) lsA C (by omega) (by omega) (mw_R_new hR ?_ z1 o1) (mw_S_new hS z1 o1) hL
  · rw [mw_ref hR] at k9
    exact k9
  · exact e1
theorem mw_newZ {N kc' ks' : Nat} {n : Int32} (hw : Cond.arrayClass .boolean ∈ lw_tbl) (dg : decode y.2.1 pc = .ok (.newarray .boolean, 2)) (hn : ¬ n < 0) (hN : n.toNatClampNeg = N) (hby : N ≤ 60000) (hkc : kc' + 1 ≤ kc) (hks : ks' + N ≤ ks)
    (k : mw_W y d kc' ks' (pc + 2) ls (.ref h.1 :: st) (mw_n h (.inl (2, (N, .inl (fun _ => 0))))) Po) : mw_W y d kc ks pc ls (.int n :: st) h Po := by
  intro G p l e R s m args below meth c mc msl H locs cells slots lsA C hc hs hR hS hL
  obtain ⟨hx, hb, hr, hml, hown, hlk, htr, htab, hnm, hRf, hRl, hRc, hRs, hK⟩ := id C
  refine va_newaK (atype := .boolean) hx hb (mw_word hK hw rfl) rfl dg rfl hn hN (by show N * 1 ≤ 536870912; omega) (by omega) (by omega) rfl fun H1 cA e1 z1 o1 hAr hNm => ?_
  have hcA : cA = G.2.2.2.2 2 := Option.some.inj (hNm.symm.trans ((mw_know hK).2 2 _ rfl).2)
  subst hcA
  have k9 := k G p l e R s m args below meth c mc msl H1 locs (cells + 1) (slots + N) lsA C (by omega) (by omega) (mw_R_new hR ?_ z1 o1) (mw_S_new hS z1 o1) hL
  · rw [mw_ref hR] at k9
    exact k9
  · exact e1
theorem mw_newL {N kc' ks' : Nat} {n : Int32} (hw : Cond.arrayClass .long ∈ lw_tbl) (dg : decode y.2.1 pc = .ok (.newarray .long, 2)) (hn : ¬ n < 0) (hN : n.toNatClampNeg = N) (hby : N ≤ 60000) (hkc : kc' + 1 ≤ kc) (hks : ks' + N ≤ ks)
    (k : mw_W y d kc' ks' (pc + 2) ls (.ref h.1 :: st) (mw_n h (.inl (3, (N, .inr (.inl (fun _ => 0)))))) Po) : mw_W y d kc ks pc ls (.int n :: st) h Po := by
  intro G p l e R s m args below meth c mc msl H locs cells slots lsA C hc hs hR hS hL
  obtain ⟨hx, hb, hr, hml, hown, hlk, htr, htab, hnm, hRf, hRl, hRc, hRs, hK⟩ := id C
  refine va_newaK (atype := .long) hx hb (mw_word hK hw rfl) rfl dg rfl hn hN (by show N * 8 ≤ 536870912; omega) (by omega) (by omega) rfl fun H1 cA e1 z1 o1 hAr hNm => ?_
  have hcA : cA = G.2.2.2.2 3 := Option.some.inj (hNm.symm.trans ((mw_know hK).2 3 _ rfl).2)
  subst hcA
  have k9 := k G p l e R s m args below meth c mc msl H1 locs (cells + 1) (slots + N) lsA C (by omega) (by omega) (mw_R_new hR ?_ z1 o1) (mw_S_new hS z1 o1) hL
  · rw [mw_ref hR] at k9
    exact k9
  · exact e1
theorem mw_newq {N t idx kc' ks' : Nat} {n : Int32} {Cn : String} (ht : ∀ G : mw_G, (mw_tys G)[t]? = some (G.2.2.2.2 t, .object Cn)) (hw : Cond.classLink y.1.cls idx Cn ∈ lw_tbl ∧ Cond.arrayOver (.object Cn) ∈ lw_tbl) (dg : decode y.2.1 pc = .ok (.anewarray idx, 3)) (hn : ¬ n < 0) (hN : n.toNatClampNeg = N) (hby : N ≤ 60000) (hkc : kc' + 1 ≤ kc) (hks : ks' + N ≤ ks)
    (k : mw_W y d kc' ks' (pc + 3) ls (.ref h.1 :: st) (mw_n h (.inl (t, (N, .inr (.inr (.inr (.inr (fun _ => none)))))))) Po) : mw_W y d kc ks pc ls (.int n :: st) h Po := by
  intro G p l e R s m args below meth c mc msl H locs cells slots lsA C hc hs hR hS hL
  obtain ⟨hx, hb, hr, hml, hown, hlk, htr, htab, hnm, hRf, hRl, hRc, hRs, hK⟩ := id C
  subst hN
  have hAO : va_AO Cn s := va_AO.moved hK.2.1.alike (va_AO.of (hK.1.1 _ hw.2))
  refine W.anew hx hb hown (mw_word hK hw.1 rfl) (va_AO.use hAO) rfl dg rfl hn (by omega) (by omega) (by omega) fun cA kA comp f1 f2 f3 f4 => ?_
  generalize hH1 : H.push ({ cls := cA, slots := Array.replicate n.toNatClampNeg .null, vm := .none } : Cell) = H1
  have z1 : H1.size = H.size + 1 := by rw [← hH1, Array.size_push]
  have e1 : H1[H.size]? = some (arrV cA n.toNatClampNeg (fun _ => .null)) := by rw [← hH1, Array.getElem?_push_size, ← arrV_new]
  have o1 : ∀ q : Nat, q < H.size → H1[q]? = H[q]? := fun q hq => by rw [← hH1, Array.getElem?_push, if_neg (Nat.ne_of_lt hq)]
  obtain ⟨kA9, comp9, g1, g2, g3, g4⟩ := ((mw_know hK).2 t _ (ht G)).2
  have hcA : cA = G.2.2.2.2 t := Option.some.inj (f1.symm.trans g4)
  subst hcA
  have k9 := k G p l e R s m args below meth c mc msl H1 locs (cells + 1) (slots + n.toNatClampNeg) lsA C (by omega) (by omega) (mw_R_new hR ?_ z1 o1) (mw_S_new hS z1 o1) hL
  · rw [mw_ref hR] at k9
    exact k9
  · exact e1
/-- Object's own constructor -/
theorem mw_obj {idx a : Nat} (hw : Cond.methodLink y.1.cls idx objectInit ∈ lw_tbl ∧ Cond.instanceMethod objectInit ∈ lw_tbl ∧ Cond.code objectInit ⟨#[0xb1]⟩ 1 none ∈ lw_tbl) (dg : decode y.2.1 pc = .ok (.invokespecial idx, 3)) (hd : 1 ≤ d) (hst : (st.map fun v => v.category).sum ≤ 8) (k : mw_W y d kc ks (pc + 3) ls st h Po) : mw_W y d kc ks pc ls (.ref a :: st) h Po := by
  intro G p l e R s m args below meth c mc msl H locs cells slots lsA C hc hs hR hS hL
  obtain ⟨hx, hb, hr, hml, hown, hlk, htr, htab, hnm, hRf, hRl, hRc, hRs, hK⟩ := id C
  refine W.objInit hx hb hown (mw_word hK hw.1 rfl) (mw_word hK hw.2.1 rfl) (mw_word hK hw.2.2 rfl) rfl (by show lsA.size = _; rw [hml]; exact hL.1) rfl dg (by omega) ?_ (k G p l e R s m args below meth c mc msl H locs cells slots lsA C hc hs hR hS hL)
  have e9 : ((st.map (mw_V G)).map fun v => v.category) = st.map fun v => v.category := by
    rw [List.map_map]
    exact List.map_congr_left (fun v _ => mw_cat v)
  show 2 * 0 + ((st.map (mw_V G)).map fun v => v.category).sum + 12 ≤ R.locals
  rw [e9]
  omega
/-! ends -/
theorem mw_F_S {G : mw_G} {s t : State} {H : Heap} {locs : List Loc} (hS : va_S (mw_I G) s.heap H locs) (ht : t.heap = H) : va_F (mw_I G) s t := hS.F ht
theorem mw_ireturn {x : Int32} (dg : decode y.2.1 pc = .ok (.ireturn, 1)) (hty : ∃ ty, y.2.2.2.1 = some ty ∧ narrow ty (.int x) = .int x) (hp : Po (.inl (some (.int x))) h) : mw_W y d kc ks pc ls [.int x] h Po := by
  intro G p l e R s m args below meth c mc msl H locs cells slots lsA C hc hs hR hS hL
  obtain ⟨hx, hb, hr, hml, hown, hlk, htr, htab, hnm, hRf, hRl, hRc, hRs, hK⟩ := id C
  obtain ⟨ty, ht1, ht2⟩ := hty
  refine W.widen (k := mc) (n := msl) (by omega) (by omega) ?_
  exact vx_ret (W.zret (ty := ty) hx hb (hr.trans ht1) ht2 (fun t ht _ => ⟨⟨some (.int x), h, rfl, hp, by rw [ht]; exact hR⟩, hS.F ht⟩) (fun q hq => hS.2.2 q hq) dg hlk)
theorem mw_areturn {a : Nat} (dg : decode y.2.1 pc = .ok (.areturn, 1)) (hty : ∃ Cn, y.2.2.2.1 = some (.object Cn)) (hp : Po (.inl (some (.ref a))) h) : mw_W y d kc ks pc ls [.ref a] h Po := by
  intro G p l e R s m args below meth c mc msl H locs cells slots lsA C hc hs hR hS hL
  obtain ⟨hx, hb, hr, hml, hown, hlk, htr, htab, hnm, hRf, hRl, hRc, hRs, hK⟩ := id C
  obtain ⟨Cn, ht1⟩ := hty
  refine W.widen (k := mc) (n := msl) (by omega) (by omega) ?_
  exact vx_ret (W.aret (rt := .object Cn) (v := .ref (mw_ad G a)) hx hb (hr.trans ht1) (Or.inl ⟨_, rfl⟩) (Or.inr ⟨_, rfl⟩) (fun t ht _ => ⟨⟨some (.ref a), h, rfl, hp, by rw [ht]; exact hR⟩, hS.F ht⟩) (fun q hq => hS.2.2 q hq) dg hlk)
theorem mw_areturnN (dg : decode y.2.1 pc = .ok (.areturn, 1)) (hty : ∃ Cn, y.2.2.2.1 = some (.object Cn)) (hp : Po (.inl (some .null)) h) : mw_W y d kc ks pc ls [.null] h Po := by
  intro G p l e R s m args below meth c mc msl H locs cells slots lsA C hc hs hR hS hL
  obtain ⟨hx, hb, hr, hml, hown, hlk, htr, htab, hnm, hRf, hRl, hRc, hRs, hK⟩ := id C
  obtain ⟨Cn, ht1⟩ := hty
  refine W.widen (k := mc) (n := msl) (by omega) (by omega) ?_
  exact vx_ret (W.aret (rt := .object Cn) (v := .null) hx hb (hr.trans ht1) (Or.inl ⟨_, rfl⟩) (Or.inl rfl) (fun t ht _ => ⟨⟨some .null, h, rfl, hp, by rw [ht]; exact hR⟩, hS.F ht⟩) (fun q hq => hS.2.2 q hq) dg hlk)
theorem mw_return (dg : decode y.2.1 pc = .ok (.return_, 1)) (hty : y.2.2.2.1 = none) (hp : Po (.inl none) h) : mw_W y d kc ks pc ls [] h Po := by
  intro G p l e R s m args below meth c mc msl H locs cells slots lsA C hc hs hR hS hL
  obtain ⟨hx, hb, hr, hml, hown, hlk, htr, htab, hnm, hRf, hRl, hRc, hRs, hK⟩ := id C
  refine W.widen (k := mc) (n := msl) (by omega) (by omega) ?_
  exact vx_ret (W.vret hx hb (hr.trans hty) (fun t ht _ => ⟨⟨none, h, rfl, hp, by rw [ht]; exact hR⟩, hS.F ht⟩) (fun q hq => hS.2.2 q hq) dg hlk)
theorem mw_out {E : String} (hn : y.2.2.2.2 = []) (hp : Po (.inr E) h) : mw_T y d kc ks pc ls st h E Po := by
  intro G p l e R s m args below meth c mc msl H locs cells slots lsA q ce C hc hs hR hS hL hce hcv hcl
  obtain ⟨hx, hb, hr, hml, hown, hlk, htr, htab, hnm, hRf, hRl, hRc, hRs, hK⟩ := id C
  rw [hn] at htab
  exact vx_out (E := E) (ce := ce) (fun x hx9 => by rw [htab] at hx9; cases hx9) hlk hce hcv hcl (fun t ht _ => ⟨⟨h, hp, by rw [ht]; exact hR⟩, hS.F ht⟩) (fun z hz => hS.2.2 z hz) (by omega) (by omega)
end MWR
