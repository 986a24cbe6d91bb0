/-! the throw: PictureRows.follows with a kind that is none -/
def thN : List String := ["java/lang/IndexOutOfBoundsException", "java/lang/RuntimeException", "java/lang/Exception"]
def thAll : List Cond := Jvm.Bundle.ownAtoms RX4 85 RJx00060 thN
def thD : List MethodName := [Jvm.Bundle.initS "java/lang/IndexOutOfBoundsException", Jvm.Bundle.initS "java/lang/RuntimeException", Jvm.Bundle.initS "java/lang/Exception", Jvm.Bundle.initS Jvm.Bundle.tN]
def thK : List Cond := thAll.filter (fun w => w.onTables && w.keeps)
def wsFT : List Cond := wsX4_follows ++ thK
/-- a static row of Throwable that nobody writes -/
def TS (n d : String) (A : Nat → Prop) (U : State) (H : Heap) : Prop := ∃ (c : ClassId) (k : Class) (i : Nat) (f : Field) (a : Nat) (cell : Cell) (v : Value), U.vm.findClass Jvm.Bundle.tN = some c ∧ U.fieldFound? Jvm.Bundle.tN n d = some (c, k, i, f) ∧ f.isStatic = true ∧ k.statics = some a ∧ H[a]? = some cell ∧ cell.vm.isStatics = true ∧ cell.cls = c ∧ f.slot < cell.slots.size ∧ k.staticTypes[f.slot]? = some f.type ∧ cell.slots[f.slot]? = some v ∧ v.isRef = true ∧ ¬ A a
theorem TS.moved {n d : String} {A : Nat → Prop} {u U : State} {H : Heap} (hvm : u.vm.Alike U.vm) (h : TS n d A u H) : TS n d A U H := by
  obtain ⟨c, k, i, f, a, cell, v, h0, h1, h2, h4, h5, h6, h7, h8, h9, h10⟩ := h
  obtain ⟨k', hi', he⟩ := State.fieldFound?_setVm hvm h1
  exact ⟨c, k', i, f, a, cell, v, by rw [hvm.findClass]; exact h0, hi', h2, by rw [he]; exact h4, h5, h6, h7, h8, by rw [he]; exact h9, h10⟩
theorem TS.kept {n d : String} {A : Nat → Prop} {U : State} {H H1 : Heap} (h : TS n d A U H) (hq : ∀ a : Nat, a < H.size → ¬ A a → H1[a]? = H[a]?) : TS n d A U H1 := by
  obtain ⟨c, k, i, f, a, cell, v, h0, h1, h2, h4, h5, h6, h7, h8, h9, h10, h11, h12⟩ := h
  exact ⟨c, k, i, f, a, cell, v, h0, h1, h2, h4, by rw [hq a (Array.getElem?_eq_some_iff.mp h5).1 h12]; exact h5, h6, h7, h8, h9, h10, h11, h12⟩
theorem TS.narrow {n d : String} {A B : Nat → Prop} {U : State} {H : Heap} (h : TS n d A U H) (hAB : ∀ q, B q → A q) : TS n d B U H := by
  obtain ⟨c, k, i, f, a, cell, v, h0, h1, h2, h4, h5, h6, h7, h8, h9, h10, h11, h12⟩ := h
  exact ⟨c, k, i, f, a, cell, v, h0, h1, h2, h4, h5, h6, h7, h8, h9, h10, h11, fun z => h12 (hAB a z)⟩
theorem TS.lays {n d : String} {A : Nat → Prop} {U : State} {args : Array Value} (h : TS n d A U U.heap) : (Cond.laysStatic Jvm.Bundle.tN n d).before args U = true := by
  obtain ⟨c, k, i, f, a, cell, v, h0, h1, h2, h4, h5, h6, h7, h8, h9, h10, h11, h12⟩ := h
  simp [Cond.before, Cond.holds, Cond.value, h0, h1, h4, h5, h2, h6, h7, h8, h9]
theorem TS.isRef {n d : String} {A : Nat → Prop} {U : State} {args : Array Value} (h : TS n d A U U.heap) : (Cond.isRef (.static Jvm.Bundle.tN n d)).before args U = true := by
  obtain ⟨c, k, i, f, a, cell, v, h0, h1, h2, h4, h5, h6, h7, h8, h9, h10, h11, h12⟩ := h
  have : (Term.static Jvm.Bundle.tN n d).eval args U none [] U = some v := by
    simp [Term.eval, State.fieldNamed?, h1, h2, h4, h5, h6, h10]
  cases v <;> first | (simp [Cond.before, Cond.holds, Cond.value, this]; done) | (cases h11)
theorem TS.of {n d : String} {A : Nat → Prop} {s : State} {args : Array Value} (hl : (Cond.laysStatic Jvm.Bundle.tN n d).before args s = true) (hr : (Cond.isRef (.static Jvm.Bundle.tN n d)).before args s = true) (hA : ∀ a : Nat, a < s.heap.size → ¬ A a) : TS n d A s s.heap := by
  obtain ⟨c, k, i, f, a, cell, hc, hi, hst, ha, hcell, hs, hcls, hlt, hty⟩ := Cond.laysStatic_spec hl
  cases hv : (Term.static Jvm.Bundle.tN n d).eval args s none [] s with
  | none => simp [Cond.before, Cond.holds, Cond.value, hv] at hr
  | some w =>
    obtain ⟨hst', a', cell', ha', hcell', -, hslot⟩ := Term.static_spec hi hv
    cases ha.symm.trans ha'
    cases hcell.symm.trans hcell'
    refine ⟨c, k, i, f, a, cell, w, hc, hi, hst, ha, hcell, hs, hcls, hlt, hty, hslot, ?_, hA a (Array.getElem?_eq_some_iff.mp hcell).1⟩
    cases w <;> first | rfl | (simp [Cond.before, Cond.holds, Cond.value, hv] at hr)
/-- what the throw needs of the start beside the tables' words -/
def THc (A : Nat → Prop) (U : State) (H : Heap) : Prop := (∀ x ∈ thD, va_Nw (.declares x) U) ∧ va_Nw (.castable RJx00060 RJx00060) U ∧ TS "UNASSIGNED_STACK" Jvm.Bundle.steD A U H ∧ TS "SUPPRESSED_SENTINEL" Jvm.Bundle.listD A U H
theorem THc.warm {A : Nat → Prop} {s U : State} {H : Heap} (hW : s.WarmedH U.vm) (h : THc A s H) : THc A U H := ⟨fun x hx => va_Nw.warmD hW (h.1 x hx), va_Nw.warmC hW h.2.1, h.2.2.1.moved hW.alike, h.2.2.2.moved hW.alike⟩
theorem THc.calls {A : Nat → Prop} {U : State} {H : Heap} {g : JFrame} {mk : MethodId} {a : Array Value} (h : THc A U H) : THc A (U.calling g mk a) H := ⟨fun x hx => va_Nw.same rfl rfl (h.1 x hx), va_Nw.same rfl rfl h.2.1, h.2.2.1.moved (Vm.Alike.refl U.vm), h.2.2.2.moved (Vm.Alike.refl U.vm)⟩
theorem THc.kept {A : Nat → Prop} {U : State} {H H1 : Heap} (h : THc A U H) (hq : ∀ a : Nat, a < H.size → ¬ A a → H1[a]? = H[a]?) : THc A U H1 := ⟨h.1, h.2.1, h.2.2.1.kept hq, h.2.2.2.kept hq⟩
theorem THc.narrow {A B : Nat → Prop} {U : State} {H : Heap} (h : THc A U H) (hAB : ∀ q, B q → A q) : THc B U H := ⟨h.1, h.2.1, h.2.2.1.narrow hAB, h.2.2.2.narrow hAB⟩
/-- every word of the throw is one of the tables, or of THc -/
def thX (w : Cond) : Bool := decide (w ∈ thK) || decide (w ∈ thD.map Cond.declares) || decide (w = .castable RJx00060 RJx00060) || decide (w = .laysStatic Jvm.Bundle.tN "UNASSIGNED_STACK" Jvm.Bundle.steD) || decide (w = .laysStatic Jvm.Bundle.tN "SUPPRESSED_SENTINEL" Jvm.Bundle.listD) || decide (w = .isRef (.static Jvm.Bundle.tN "UNASSIGNED_STACK" Jvm.Bundle.steD)) || decide (w = .isRef (.static Jvm.Bundle.tN "SUPPRESSED_SENTINEL" Jvm.Bundle.listD))
theorem thX_all : thAll.all thX = true := by decide +kernel
theorem th_words {U : State} {args : Array Value} (hw : ∀ w ∈ thK, w.before args U = true) (hT : THc nA U U.heap) : ∀ w ∈ thAll, w.before args U = true := by
  intro w hm
  have h := List.all_eq_true.mp thX_all w hm
  unfold thX at h
  simp only [Bool.or_eq_true, decide_eq_true_eq] at h
  rcases h with (((((h | h) | h) | h) | h) | h) | h
  · exact hw w h
  · obtain ⟨x, hx, rfl⟩ := List.mem_map.mp h
    exact va_any rfl (hT.1 x hx)
  · subst h; exact va_any rfl hT.2.1
  · subst h; exact hT.2.2.1.lays
  · subst h; exact hT.2.2.2.lays
  · subst h; exact hT.2.2.1.isRef
  · subst h; exact hT.2.2.2.isRef
/-- what the throw leaves -/
def QT (st : State) (o : Outcome) (t : State) : Prop := ∃ (x : Nat) (ce : Cell), o = .threw x ∧ st.heap.size ≤ x ∧ t.heap[x]? = some ce ∧ st.vm.findClass RJx00060 = some ce.cls ∧ ce.vm.isStatics = false ∧ st.vm.assignable ce.cls ce.cls = true ∧ st.WarmedH t.vm ∧ st.sameButNew ({ t with vm := st.vm } : State) [] 1 6
def QTs (below : List Frame) (s : State) : State → Prop := fun t => ∃ o, t.status = .running ∧ Ended t below o ∧ QT s o t
section THR
variable {p : Program} {l : Launch} {e : Env} {R : Room} {s : State} {m : MethodId} {args : Array Value} {below : List Frame} {meth : Method} {c : Code}
set_option maxHeartbeats 4000000 in
theorem thr_14 (hl : l.stackTraces = false) (hx : p.tables.exec = Jvm.exec) (hb : c.code = cX4_follows) (hml : c.maxLocals = 3) (hown : s.vm.findClass RX4 = some m.cls) (hlocks : meth.locks = false) (hnoh : c.exceptionTable.isEmpty = true) (hw : ∀ w ∈ thAll, w.before args s = true) (hcl : (Cond.classLink RX4 81 RJx00060).before args s = true) (hini : (Cond.initialized RJx00060).before args s = true) {ad : Nat} (hR2 : vk_R "PictureRows" 83 evT2 ad s) (hRf : 6 < R.frames) (hRl : 100 ≤ R.locals) (hRc : 1 ≤ R.cells) (hRs : 6 ≤ R.slots) {ls : Array Slot} (hls : ls.size = 3) :
    W p l e R s m args below meth c s.heap [] 0 0 (QTs below s) (F0 m 14 ls []) := by
  intro T hT X
  have htr : e.platform.stackTraces = false := by rw [Jvm.Example.NoTraceControls.admits_follows X.admits]; exact hl
  have hinst : (Cond.instantiable RJx00060 6).before args s = true := hw _ (by unfold thAll Jvm.Bundle.ownAtoms; simp)
  obtain ⟨vm₁, cX, kX, hfX, hkX, -, -, X₁, st1⟩ := X.newCold hx (own := RX4) (C := RJx00060) (index := 81) (n := 6) hown hcl hinst hini (g := F0 m 14 ls []) rfl (by rw [hb]; exact dX4_follows_14) (by omega) (by omega)
  generalize hT2 : (T.setVm vm₁).pushCell { cls := cX, slots := kX.instanceTypes.map defaultValue, vm := .none } = T2 at X₁ st1
  have hcellA : T2.heap[T.heap.size]? = some (freshCell cX kX) := by rw [← hT2]; exact State.heap_pushCell_size _ _
  obtain ⟨U, hsteps, hrun, hend, hW, hsame, ce, hce, K⟩ := X₁.ctorThrowS hx htr (own := RX4) (cls := RJx00060) (names := thN) (ic := 85) hown (by decide +kernel) (by decide +kernel) hw (fun y hy => by cases hy) hfX hkX hcellA (by rw [hT]; exact Nat.le_refl _) (msg := .ref ad) rfl
    (g := F0 m 20 ls [.ref ad, .ref T.heap.size, .ref T.heap.size]) rfl (by rw [hml]; exact hls) rfl rfl (rest := []) rfl (by rw [hb]; exact dX4_follows_20) (by rw [hb]; exact dX4_follows_23) (covers_of_empty hnoh _) (by show 3 + 3 < R.frames; omega) (by show 0 + 1 + (13 * (3 + 1) + 42) ≤ R.locals; omega)
  refine ⟨U, ?_, .threw T.heap.size, hrun, hend, T.heap.size, ce, rfl, by rw [hT]; exact Nat.le_refl _, hce, K.cls, by rw [K.vm]; rfl, K.self, hW, ?_⟩
  · refine st1 _ ?_
    show Steps p.tables e below (T2.setTop (F0 m 17 ls [.ref T.heap.size])) _
    jvm_step X₁.here [X₁.here.top, hx, hb, dX4_follows_17, Value.category]
    exact X₁.ldcString hx (own := RX4) (text := evT2) (index := 83) (a := ad) hown hR2.1 hR2.2 (g := F0 m 18 ls [.ref T.heap.size, .ref T.heap.size]) rfl (by rw [hb]; exact dX4_follows_18) _ hsteps
  · exact hsame
end THR
