/-! a note laid over a standing frame; a handler table of one row, whose class may not be resolved yet -/
section CO
variable {p : Program} {l : Launch} {e : Env} {R : Room} {s : State} {m : MethodId} {args : Array Value} {below : List Frame} {meth : Method} {c : Code} {T : State} {locs : List Loc} {cells slots : Nat}
theorem co_note (X : Stand p l e R s m args below meth c T locs cells slots) (g : JFrame) (n : Frame) : (T.setTop g).pushFrame n = T.setFrames (n :: .java g :: below) := by
  obtain ⟨g9, h9⟩ := X.frames_eq
  show (T.setTop g).setFrames (n :: (T.setTop g).frames) = _
  rw [State.frames_setTop g h9, State.setTop_of_frames g h9]
  exact State.setFrames_setFrames _ _ _
/-- the table's one row has the pc, and its class links to one that the thrown object is of: one step to the handler -/
theorem co_step {S : State} {f : JFrame} {r : List Frame} {a : Nat} {x : ExceptionTableEntry} {cT : ClassId} {ce : Cell} (hm : S.vm.method? f.method = some meth) (hc : meth.code = some c) (ht : c.exceptionTable.toList = [x])
    (h1 : x.startPc ≤ f.pc) (h2 : f.pc < x.endPc) (h0 : x.catchType ≠ 0) (hl : S.vm.ClassLinks e.platform f.method.cls x.catchType cT) (ha : S.heap[a]? = some ce) (hn : ce.vm.isStatics = false) (hk : ∃ k, S.vm.classes[cT]? = some k) (hf : S.vm.assignable ce.cls cT = true) :
    (stepThrowing e S a (.java f :: r)).1 = (S.setVm (S.vm.noted f.method.cls x.catchType (.cls cT))).setFrames (.java { f with pc := x.handlerPc, stack := [.ref a] } :: r) := by
  have hG := resolveClass_links e.toSetting hl
  have hA : S.vm.Alike (S.vm.noted f.method.cls x.catchType (.cls cT)) := (Vm.Alike.refl S.vm).noted _ _ _
  have hsz : (S.vm.noted f.method.cls x.catchType (.cls cT)).classes.size ≤ S.vm.classes.size := by simp
  generalize S.vm.noted f.method.cls x.catchType (.cls cT) = V at hG hA hsz ⊢
  have hfV : V.assignable ce.cls cT = true := by rw [hA.assignable]; exact hf
  obtain ⟨kT, hkT⟩ := hk
  obtain ⟨kV, hkV, -⟩ := hA.2.2 _ _ hkT
  obtain ⟨kO, hkO⟩ := Vm.classAt_of_assignable hfV ⟨kV, hkV⟩
  obtain ⟨g1, g2⟩ := hG.op (op := VmOp.resolveClass f.method.cls x.catchType) rfl
  have g3 := VmOp.lands_eq g2 hsz
  have hno := VmData.ne_statics_of hn
  have hF : ∀ (Q : Handler → Jvm.Pre) (E : Jvm.CtlPost) (d : Bool) (acts : List Action), Sem.wp (findHandler f a) Q E e d acts S ↔ Q (.found x.handlerPc) d acts (S.setVm V) := by
    intro Q E d acts
    rw [Jvm.W.findHandler_eq hm hc, ht]
    simp [findHandler.go, h1, h2, h0, g1, g3, ha, hno, hkV, hkO, hfV, VmOp.dirties, VmOp.acts]
  simp only [stepThrowing, searchFrame, vmDo]
  generalize hr : Sem.go _ e false [] S = res
  obtain ⟨as, rfl, -⟩ := Sem.eq_ok_of hr (a := Handler.found x.handlerPc) (s' := S.setVm V) (acts' := []) (by simp [hF])
  rfl
/-- what is thrown over a standing frame comes to the handler -/
theorem co_catch (X : Stand p l e R s m args below meth c T locs cells slots) {a : Nat} {g : JFrame} (hg : g.method = m) {own name : String} (hown : s.vm.findClass own = some m.cls) {x : ExceptionTableEntry} (ht : c.exceptionTable.toList = [x])
    (h1 : x.startPc ≤ g.pc) (h2 : g.pc < x.endPc) (h0 : x.catchType ≠ 0) (hlink : (Cond.classLink own x.catchType name).before args s = true) {ce : Cell} (ha : T.heap[a]? = some ce) (hn : ce.vm.isStatics = false) (hce : s.vm.findClass name = some ce.cls) (hf : s.vm.assignable ce.cls ce.cls = true) :
    ∃ V, Stand p l e R s m args below meth c (T.setVm V) locs cells slots ∧ ∀ t, Steps p.tables e below ((T.setVm V).setTop { g with pc := x.handlerPc, stack := [.ref a] }) t → Steps p.tables e below (T.setFrames (.throwing a :: .java g :: below)) t := by
  subst hg
  obtain ⟨cT, hcT, hcl⟩ := Cond.classLink_spec hown hlink e.platform (by rw [X.admits.platform])
  cases hce.symm.trans hcT
  have hal := X.warmed.alike
  obtain ⟨dk, _, _, _, hd, _, _, _, _, _, _, hres⟩ := hcl.here
  have hW : s.WarmedH (T.vm.noted g.method.cls x.catchType (.cls ce.cls)) := X.warmed.noted hd hres (State.rightAt_cls hcl)
  refine ⟨_, X.noted hW, fun t h => ?_⟩
  obtain ⟨g9, h9⟩ := X.frames_eq
  obtain ⟨k1, hk1⟩ := Vm.classAt_of_findClass hce
  obtain ⟨k2, hk2, -⟩ := hal.2.2 _ _ hk1
  obtain ⟨hgo, hin⟩ := X.here.throwing a
  rw [co_note X] at hgo hin
  refine Steps.head hgo hin ?_
  rw [stepThread_throwing (State.frames_setFrames _ (State.cur_lt_of_frames h9)), co_step (S := T.setFrames (.throwing a :: .java g :: below)) X.method' X.code ht h1 h2 h0 (X.warmed.classLinks hcl) ha hn ⟨k2, hk2⟩ (by show T.vm.assignable _ _ = true; rw [hal.assignable]; exact hf)]
  have h' := h
  rw [State.setTop_of_frames (s := T.setVm (T.vm.noted g.method.cls x.catchType (.cls ce.cls))) _ h9] at h'
  show Steps p.tables e below (((T.setVm (T.vm.noted g.method.cls x.catchType (.cls ce.cls))).setFrames (.throwing a :: .java g :: below)).setFrames _) t
  rw [State.setFrames_setFrames]
  exact h'
end CO
