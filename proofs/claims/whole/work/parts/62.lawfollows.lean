/-! the law's own follows: the call that returns, and the call that throws -/
def wsLF : List Cond := wsL_follows ++ (.classLink RL 13 RJx00060 :: thK)
section CT
variable {p : Program} {l : Launch} {e : Env} {R : Room} {s : State} {m : MethodId} {args : Array Value} {below : List Frame} {meth : Method} {c : Code} {H : Heap} {locs : List Loc} {cells slots : Nat} {Q : State → Prop}
/-- PictureRows.follows throws: what stands behind the call -/
theorem ft_thrown {T : State} {Pc : Array Value → State → Prop} (X : Stand p l e R s m args below meth c T locs cells slots) (hM : MetFree l yX4_follows (headSpec wsFT rmFT) Pc (fun _ _ _ _ _ => True) (fun _ st o t => QT st o t)) (hblind : FrameBlind Pc) (hfr : 8 ≤ R.frames) (hlo : 122 ≤ R.locals)
    (hws : ∀ w ∈ wsFT, ∀ (a' : Array Value) (U : State), s.WarmedH U.vm → w.before a' U = true) (hini : ∀ (a' : Array Value) (U : State), s.WarmedH U.vm → (Cond.initialized yX4_follows.cls).before a' U = true)
    {g : JFrame} (hg : g.method = m) (hsize : g.locals.size = c.maxLocals) {ig : Instr} {len : Nat} (hdg : decode c.code g.pc = .ok (ig, len)) (h8 : 2 * g.monitorRoom + (g.stack.map fun v => v.category).sum ≤ 8) {mk : MethodId} {a : Array Value} (hn : T.methodNamed? yX4_follows = some mk) (hcl : cells + 1 ≤ R.cells) (hsl : slots + 6 ≤ R.slots) (hp : Pc a T) :
    ∃ (x : Nat) (V : Vm) (K : Heap) (k : Nat) (ce : Cell), Stand p l e R s m args below meth c (({ T with heap := K, slotsUsed := k } : State).setVm V) locs (cells + 1) (slots + 6) ∧ (∀ (q : Nat) (cy : Cell), T.heap[q]? = some cy → K[q]? = some cy) ∧ K[x]? = some ce ∧ T.vm.findClass RJx00060 = some ce.cls ∧ ce.vm.isStatics = false ∧ T.vm.assignable ce.cls ce.cls = true ∧
      Steps p.tables e below (doInvoke e (T.setTop g) [] mk a).1 ((({ T with heap := K, slotsUsed := k } : State).setVm V).setFrames (.throwing x :: .java g :: below)) := by
  subst hg
  obtain ⟨mY, cY, hmY, hcY, -, hlY, -⟩ := Cond.code_spec hn (hws (.code yX4_follows cX4_follows 3 (some .boolean)) (List.mem_append_left _ List.mem_cons_self) a T X.warmed)
  obtain ⟨kY, hkY, -⟩ := className_of_methodNamed hn
  have hiY : kY.init = .initialized := Cond.initialized_spec (findClass_of_methodNamed hn) hkY (hini a T X.warmed)
  have hroom : (T.calling g mk a).hasRoom e.platform rmFT = true := X.room_calling (R' := rmFT) hsize hmY hcY hfr (by rw [hlY]; show _ + (3 + 11) + 100 ≤ R.locals; omega) hcl hsl
  have happ := Spec.appliesLoose_calling (S := headSpec wsFT rmFT) (args := a) X.here hdg hn hkY hiY hroom (atoms_intro fun w h => hws w h _ _ X.warmed)
  obtain ⟨g9, h9⟩ := X.frames_eq
  have hF : (T.setTop g).frames = [.java g] ++ below := State.frames_setTop g h9
  obtain ⟨o, t, hst, -, hen, x, ce, rfl, -, h3, h4, h5, h6, hwm, hsm⟩ := Jvm.Free.Steps.callFree hM p X.admits X.cas X.clock (acts := []) hF happ (hblind _ _ _ _ hp) trivial
  have hfr9 : t.frames = .throwing x :: .java g :: below := by
    have h : t.frames = .throwing x :: (T.setTop g).frames := hen
    rw [h, hF]
    rfl
  have he : t = (({ T with heap := t.heap, slotsUsed := t.slotsUsed } : State).setVm t.vm).setFrames (.throwing x :: .java g :: below) := by
    have h : ({ t with vm := T.vm } : State) = { ((T.setTop g).pushFrame (.invoking mk a)).setFrames t.frames with heap := t.heap, slotsUsed := t.slotsUsed } := hsm.1
    rw [co_note X, State.setFrames_setFrames, hfr9] at h
    exact congrArg (fun z : State => z.setVm t.vm) h
  have hself : T = T.setFrames T.frames := by
    obtain ⟨th, hth, -⟩ := State.frames_cons h9
    exact (State.setFrames_self hth).symm
  have hwm9 : T.WarmedH t.vm := hwm
  have hsf := congrArg (fun z : State => ({ z with heap := t.heap, slotsUsed := t.slotsUsed, vm := s.vm } : State)) hself
  have hsame : (T.setVm s.vm).sameButNew ((({ T with heap := t.heap, slotsUsed := t.slotsUsed } : State).setVm t.vm).setVm s.vm) [] 1 6 :=
    ⟨hsf, hsm.2⟩
  have hall := X.same.trans hsame
  rw [List.append_nil] at hall
  refine ⟨x, t.vm, t.heap, t.slotsUsed, ce, { admits := X.admits, cas := X.cas, clock := X.clock, frames := X.frames, room := X.room, hears := X.hears, method := X.method, code := X.code, here := (X.here.setHeapUsed t.heap t.slotsUsed).setVm hwm9.alike, tail := X.tail, warmed := X.warmed.trans hwm9, limits := X.limits, bytes := X.bytes, same := hall }, fun q cy h => ?_, h3, h4, h5, h6, ?_⟩
  · have := State.sameButNew.old_cell hsm (a := q) (c := cy) h
    exact this
  · rw [← he]
    exact hst
theorem wsFT_good (hts : ∀ w ∈ wsLF, w.before args s = true) : ∀ w ∈ wsFT, ∀ (a' : Array Value) (U : State), s.WarmedH U.vm → w.before a' U = true := by
  intro w hw a' U hW
  rcases List.mem_append.mp hw with h | h
  · exact pay_in (fun w h => hts w (List.mem_append_left _ h)) ggL_follows_X4_follows w h a' U hW
  · exact word_at hW (Or.inl (List.mem_filter.mp h).2) (hts w (List.mem_append_right _ (List.mem_cons_of_mem _ h)))
/-- the call at 5 throws, and the handler at 20 has it -/
theorem ft_catch {Pc : Array Value → State → Prop} (hM : MetFree l yX4_follows (headSpec wsFT rmFT) Pc (fun _ _ _ _ _ => True) (fun _ st o t => QT st o t)) (hblind : FrameBlind Pc) (hfr : 8 ≤ R.frames) (hlo : 122 ≤ R.locals) (hx : p.tables.exec = Jvm.exec) (hb : c.code = cL_follows) (hml : c.maxLocals = 5)
    (htab : c.exceptionTable.toList.map (fun h => (h.startPc, h.endPc, h.handlerPc, h.catchType)) = [(0, 17, 20, 13)]) (hown : s.vm.findClass RL = some m.cls) (hts : ∀ w ∈ wsLF, w.before args s = true) {ls : Array Slot} (hls : ls.size = 5) {a b : Int32} {h0 ou : Nat}
    (hrv : ∃ cell : Cell, H[h0]? = some cell ∧ cell.vm.isStatics = false ∧ s.vm.findClass RX4 = some cell.cls) (hPc : ∀ U : State, U.heap = H → s.WarmedH U.vm → Pc [.ref h0, .int a, .int b].toArray U) (hc : cells + 1 ≤ R.cells) (hn : slots + 6 ≤ R.slots)
    (kk : ∀ (x : Nat) (H1 : Heap), (∀ (q : Nat) (cy : Cell), H[q]? = some cy → H1[q]? = some cy) → W p l e R s m args below meth c H1 locs (cells + 1) (slots + 6) Q (F0 m 20 ls [.ref x])) :
    W p l e R s m args below meth c H locs cells slots Q (F0 m 5 ls [.int b, .int a, .ref h0, .int 0, .ref ou]) := by
  intro T hT X
  obtain ⟨cellB, hcB, hoB, hclB⟩ := hrv
  obtain ⟨mk, methM, hnm, hmm, hstM, habM⟩ := Cond.instanceMethod_spec (hts (.instanceMethod yX4_follows) (by decide +kernel))
  obtain ⟨methM', cM, hmm', -, -, -, -, -, -, hsig⟩ := Cond.code_spec hnm (hts (.code yX4_follows cX4_follows 3 (some .boolean)) (by decide +kernel))
  cases hmm.symm.trans hmm'
  have hlen : 2 = methM.sig.parameters.length := by
    rw [show parseMethodDescriptor yX4_follows.desc = some ⟨[.int, .int], some .boolean⟩ from by decide +kernel] at hsig
    rw [← Option.some.inj hsig]
    rfl
  obtain ⟨c2, r2, m2, q1, q2, q3, q4, kP, hkP, hkPi⟩ := Cond.selects_spec (hts (.selects RX4 yX4_follows yX4_follows) (by decide +kernel))
  cases hclB.symm.trans q1
  cases (State.methodFound?_of_named hnm (by decide)).symm.trans q2
  cases hnm.symm.trans q3
  obtain ⟨vm₁, X₁, hs₁⟩ := X.invokevirtual hx (index := 7) hown (hts (.methodLink RL 7 yX4_follows) (by decide +kernel)) hnm hmm hstM hkP hkPi (by decide) (a := h0) (cell := cellB) (by rw [hT]; exact hcB) (fun z h => by rw [h] at hoB; cases hoB) (by rw [Launch.admits_selectMethod X.admits]; exact q4) hmm habM hkP hkPi
    (g := F0 m 5 ls [.int b, .int a, .ref h0, .int 0, .ref ou]) rfl (argsL := [.int a, .int b]) (rest := [.int 0, .ref ou]) hlen rfl (by rw [hb]; exact dL_follows_5)
  obtain ⟨x, V, K, k, ce, XB, hold, hce, hfc, hst, has, hsteps⟩ := ft_thrown X₁ hM hblind hfr hlo (wsFT_good hts) (fun a' U hW => word_at hW (Or.inl (by decide)) (hts (.initialized RX4) (by decide +kernel))) (g := F0 m 5 ls [.int 0, .ref ou]) rfl (hls.trans hml.symm) (by rw [hb]; exact dL_follows_5) (by show 2 * 0 + (1 + (1 + 0)) ≤ 8; decide) (X₁.named hnm) (a := [.ref h0, .int a, .int b].toArray) hc hn (hPc (T.setVm vm₁) hT X₁.warmed)
  obtain ⟨x0, hx1, hx0⟩ : ∃ x0, c.exceptionTable.toList = [x0] ∧ (x0.startPc, x0.endPc, x0.handlerPc, x0.catchType) = (0, 17, 20, 13) := by
    cases hL : c.exceptionTable.toList with
    | nil => rw [hL] at htab; cases htab
    | cons x0 r =>
      rw [hL] at htab
      cases r with
      | nil => exact ⟨x0, rfl, (List.cons.inj htab).1⟩
      | cons y r => cases (List.cons.inj htab).2
  obtain ⟨p1, p2, p3, p4⟩ : x0.startPc = 0 ∧ x0.endPc = 17 ∧ x0.handlerPc = 20 ∧ x0.catchType = 13 := by
    simp only [Prod.mk.injEq] at hx0; exact hx0
  have hal := X₁.warmed.alike
  have hcT : s.vm.findClass RJx00060 = some ce.cls := by rw [← hal.findClass]; exact hfc
  have hfit : s.vm.assignable ce.cls ce.cls = true := by rw [← hal.assignable]; exact has
  obtain ⟨V2, XV, st⟩ := co_catch XB (a := x) (g := F0 m 5 ls [.int 0, .ref ou]) rfl hown hx1 (by rw [p1]; exact Nat.zero_le _) (by rw [p2]; show 5 < 17; decide) (by rw [p4]; decide) (by rw [p4]; exact hts (.classLink RL 13 RJx00060) (List.mem_append_right _ List.mem_cons_self)) hce hst hcT hfit
  obtain ⟨t, a1, b1⟩ := kk x K (fun q cy h => hold q cy (by rw [← hT] at h; exact h)) _ rfl XV
  refine ⟨t, hs₁ _ fun acts => ?_, b1⟩
  rw [doInvoke_state]
  refine hsteps.trans (st t ?_)
  rw [p3]
  exact a1
end CT
def i64 (b : Bool) : Int64 := if b = true then 1 else 0
theorem va_longEq {D : va_G} {cl : List vw_C} {a : Nat} {cL : ClassId} {f g : Nat → Int64} {H : Heap} (h : f 0 = g 0) (h9 : va_at D cl (a, .inl (cL, 1, .inr (.inl f))) H) : va_at D cl (a, .inl (cL, 1, .inr (.inl g))) H := by
  have e : arrV cL 1 (fun j => Value.long (f j)) = arrV cL 1 (fun j => Value.long (g j)) := by
    have e2 : (fun j : Fin 1 => Value.long (f j.val)) = (fun j : Fin 1 => Value.long (g j.val)) := by
      funext j
      have : j.val = 0 := by omega
      rw [this, h]
    unfold arrV
    rw [e2]
  show H[a]? = some (arrV cL 1 (fun j => Value.long (g j)))
  rw [← e]
  exact h9
set_option maxHeartbeats 4000000 in
set_option maxRecDepth 100000 in
theorem c_L_follows_b (l : Launch) (hlt : l.stackTraces = false) (dC : Nat → ClassId) (dI : Nat → Nat → Nat) (la : Option Nat) (h0 h1 h2 h3 kc : Nat) (cu : Int32) (a b : Int32) (ou : Nat) (cL : ClassId) (f : Nat → Int64) (zz : Nat) (hab : ¬ (m_X4_isKind a = true ∧ m_X4_isKind b = true)) : Met l yL_follows wsLF ({ frames := 8, cells := 1, slots := 6, locals := 122 } : Room) (va_Pc [.ref h0, .int a, .int b, .ref ou] (fun U => wr_P (dC, dI) vwCl [(h0, .inr (5, [.ref h1, .ref h2, .ref h3, .int (nI kc), va_rf la, .int cu])), (ou, .inl (cL, 1, .inr (.inl f)))] [(cL, .long)] zz U ∧ THc nA U U.heap)) (va_Qi (S := Unit) (fun r _ => r = 1) (wr_B (dC, dI) vwCl (fun _ => [(h0, .inr (5, [.ref h1, .ref h2, .ref h3, .int (nI kc), va_rf la, .int cu])), (ou, .inl (cL, 1, .inr (.inl f)))]) [(cL, .long)] (va_A [(h0, .inr (5, [.ref h1, .ref h2, .ref h3, .int (nI kc), va_rf la, .int cu])), (ou, .inl (cL, 1, .inr (.inl f)))] zz)) (va_A [(h0, .inr (5, [.ref h1, .ref h2, .ref h3, .int (nI kc), va_rf la, .int cu])), (ou, .inl (cL, 1, .inr (.inl f)))] zz)) 1 6 (va_A [(h0, .inr (5, [.ref h1, .ref h2, .ref h3, .int (nI kc), va_rf la, .int cu])), (ou, .inl (cL, 1, .inr (.inl f)))] zz) := by
  refine va_MetW (cc := cL_follows) (maxL := 5) (ret := (some .int)) (hh := [(0, 17, 20, 13)]) (by decide) rfl ?_
  intro p e s m args below meth c s₁ B hml hv
  obtain ⟨rfl, ⟨hsz0, hE, hP, hK, hD0⟩, hTH⟩ := hv
  have hx := B.exec
  have hb := B.bytes
  have hr := B.returns
  have hts := atoms_spec (ws := wsLF) B.pre
  have hown : s.vm.findClass RL = some m.cls := findClass_of_methodNamed B.named
  have hlocks := B.notSynchronized
  obtain ⟨m9, meth9, c9, hn9, hm9, hc9, -, -, htab, -⟩ := Cond.codeWith_spec (hts (.codeWith yL_follows cL_follows 5 (some .int) [(0, 17, 20, 13)]) List.mem_cons_self)
  cases B.named.symm.trans hn9
  cases B.method.symm.trans hm9
  cases (Stand.of_body B).code.symm.trans hc9
  subst hsz0
  have hD := hD0.self (sz := s.heap.size)
  generalize hA : va_A [(h0, .inr (5, [.ref h1, .ref h2, .ref h3, .int (nI kc), va_rf la, .int cu])), (ou, .inl (cL, 1, .inr (.inl f)))] s.heap.size = A at hE hD ⊢
  have hl := lv_entry ([.ref h0, .int a, .int b, .ref ou]) (n := 5) (Nat.le_of_ble_eq_true rfl)
  rw [lg_entry_eq]
  generalize (lg_sl ([.ref h0, .int a, .int b, .ref ou]) ++ List.replicate (5 - (lg_sl ([.ref h0, .int a, .int b, .ref ou])).length) Slot.unset).toArray = ls at hl ⊢
  have hl : lv_has ls 5 [(0, .ref h0), (1, .int a), (2, .int b), (3, .ref ou)] := hl
  refine lv_aload_n hx hb dL_follows_0 rfl (lv_at hl 3 rfl) ?_
  refine lv_iconst hx hb (v := 0) dL_follows_1 rfl ?_
  refine lv_aload_n hx hb dL_follows_2 rfl (lv_at hl 0 rfl) ?_
  refine lv_iload_n hx hb dL_follows_3 rfl (lv_at hl 1 rfl) ?_
  refine lv_iload_n hx hb dL_follows_4 rfl (lv_at hl 2 rfl) ?_
  refine ft_catch (c_X4_follows_t l hlt dC dI la h0 h1 h2 h3 kc cu a b hab) (fun a9 U g mk q => ⟨q.1, (rd_blind (av := [.ref h0, .int a, .int b]) a9 U g mk ⟨q.1, q.2.1⟩).2, q.2.2.calls⟩) (Nat.le_of_ble_eq_true rfl) (Nat.le_of_ble_eq_true rfl) hx hb hml htab hown hts hl.1 (va_recv hK hP (ci := 5) (q0 := 0) rfl rfl)
    (fun U hU hW => ⟨rfl, ⟨by rw [hU]; exact (hE.narrow (fun _ h => h.elim)).warm hW, by rw [hU]; exact hP.sub [0] rfl, va_K.moved hW.alike (hK.sub [] rfl)⟩, by rw [hU]; exact hTH.warm hW⟩) (Nat.le_of_ble_eq_true rfl) (Nat.le_of_ble_eq_true rfl) (fun x H1 hold => ?_)
  refine lv_astore hx hb dL_follows_20 hl (by decide) rfl (fun ls1 hl1 => ?_)
  refine lv_iconst hx hb (v := 1) dL_follows_22 rfl ?_
  have hlt9 : ∀ q : Nat, q < s.heap.size → H1[q]? = s.heap[q]? := fun q hq => by
    have : s.heap[q]? = some s.heap[q] := Array.getElem?_eq_getElem hq
    rw [this]; exact hold q _ this
  have hsz : s.heap.size ≤ H1.size := by
    rcases Nat.eq_zero_or_pos s.heap.size with h | h
    · omega
    · have g1 := hlt9 (s.heap.size - 1) (by omega)
      have g2 : s.heap[s.heap.size - 1]? = some s.heap[s.heap.size - 1] := Array.getElem?_eq_getElem (by omega)
      rw [g2] at g1
      have := (Array.getElem?_eq_some_iff.mp g1).1
      omega
  have hP1 : va_P (dC, dI) vwCl _ H1 := hP.kept (fun k q hk => by
    exact hlt9 _ (hP k q hk).lt)
  exact wr_iret (v := 1) (w1 := fun _ => [(h0, .inr (5, [.ref h1, .ref h2, .ref h3, .int (nI kc), va_rf la, .int cu])), (ou, .inl (cL, 1, .inr (.inl f)))]) () hx hb hr hlocks hK ⟨hsz, fun q h _ => hlt9 q h, fun _ h => nomatch h⟩ rfl hP1 hD dL_follows_23
set_option maxHeartbeats 4000000 in
set_option maxRecDepth 100000 in
theorem c_L_follows_g (l : Launch) (dC : Nat → ClassId) (dI : Nat → Nat → Nat) (la : Option Nat) (h0 h1 h2 h3 kc : Nat) (cu : Int32) (a b : Int32) (ou : Nat) (cL : ClassId) (f : Nat → Int64) (zz : Nat) (ha : m_X4_isKind a = true) (hb9 : m_X4_isKind b = true) : Met l yL_follows wsLF ({ frames := 2, cells := 0, slots := 0, locals := 43 } : Room) (va_Pc [.ref h0, .int a, .int b, .ref ou] (wr_P (dC, dI) vwCl [(h0, .inr (5, [.ref h1, .ref h2, .ref h3, .int (nI kc), va_rf la, .int cu])), (ou, .inl (cL, 1, .inr (.inl f)))] [(cL, .long)] zz)) (va_Qi (S := Unit) (fun r _ => r = 0) (wr_B (dC, dI) vwCl (fun _ => [(h0, .inr (5, [.ref h1, .ref h2, .ref h3, .int (nI kc), va_rf la, .int cu])), (ou, .inl (cL, 1, .inr (.inl (fun _ => i64 (m_X4_follows a b)))))]) [(cL, .long)] (va_A [(h0, .inr (5, [.ref h1, .ref h2, .ref h3, .int (nI kc), va_rf la, .int cu])), (ou, .inl (cL, 1, .inr (.inl f)))] zz)) (va_A [(h0, .inr (5, [.ref h1, .ref h2, .ref h3, .int (nI kc), va_rf la, .int cu])), (ou, .inl (cL, 1, .inr (.inl f)))] zz)) 0 0 (va_A [(h0, .inr (5, [.ref h1, .ref h2, .ref h3, .int (nI kc), va_rf la, .int cu])), (ou, .inl (cL, 1, .inr (.inl f)))] zz) := by
  refine va_MetW (cc := cL_follows) (maxL := 5) (ret := (some .int)) (hh := [(0, 17, 20, 13)]) (by decide) rfl ?_
  intro p e s m args below meth c s₁ B hml hv
  obtain ⟨rfl, hsz0, hE, hP, hK, hD0⟩ := hv
  have hx := B.exec
  have hb := B.bytes
  have hr := B.returns
  have hts0 := atoms_spec (ws := wsLF) B.pre
  have hts : ∀ w ∈ wsL_follows, w.before _ s = true := fun w h => hts0 w (List.mem_append_left _ h)
  have hown : s.vm.findClass RL = some m.cls := findClass_of_methodNamed B.named
  have hlocks := B.notSynchronized
  subst hsz0
  have hD := hD0.self (sz := s.heap.size)
  generalize hA : va_A [(h0, .inr (5, [.ref h1, .ref h2, .ref h3, .int (nI kc), va_rf la, .int cu])), (ou, .inl (cL, 1, .inr (.inl f)))] s.heap.size = A at hE hD ⊢
  have hS : va_S A s.heap s.heap [] := va_S.rf
  have hl := lv_entry ([.ref h0, .int a, .int b, .ref ou]) (n := 5) (Nat.le_of_ble_eq_true rfl)
  rw [lg_entry_eq]
  generalize (lg_sl ([.ref h0, .int a, .int b, .ref ou]) ++ List.replicate (5 - (lg_sl ([.ref h0, .int a, .int b, .ref ou])).length) Slot.unset).toArray = ls at hl ⊢
  have hl : lv_has ls 5 [(0, .ref h0), (1, .int a), (2, .int b), (3, .ref ou)] := hl
  refine lv_aload_n hx hb dL_follows_0 rfl (lv_at hl 3 rfl) ?_
  refine lv_iconst hx hb (v := 0) dL_follows_1 rfl ?_
  refine lv_aload_n hx hb dL_follows_2 rfl (lv_at hl 0 rfl) ?_
  refine lv_iload_n hx hb dL_follows_3 rfl (lv_at hl 1 rfl) ?_
  refine lv_iload_n hx hb dL_follows_4 rfl (lv_at hl 2 rfl) ?_
  refine rd_callV (As := [.int a, .int b]) (rest := [.int 0, .ref ou]) ⟨hx, hb, hml, hown, hts⟩ (hE.rd hS) (c_X4_follows l dC dI la h0 h1 h2 h3 kc cu a b ha hb9) (cwV 2 hts gL_follows_X4_follows rfl rfl rfl (by decide +kernel) ⟨Nat.le_of_ble_eq_true rfl, Nat.le_of_ble_eq_true rfl⟩) (hP.sub [0] rfl) (hK.sub [] rfl) (va_recv hK hP (ci := 5) (q0 := 0) rfl rfl) rfl hl.1 rfl (Nat.le_of_ble_eq_true rfl) dL_follows_5 ⟨Nat.zero_le _, Nat.zero_le _⟩ (fun r9 hr9 => ?_)
  subst hr9
  have fin : ∀ v : Int64, v = i64 (m_X4_follows a b) → W p l e (headSpec wsLF ({ frames := 2, cells := 0, slots := 0, locals := 43 } : Room)).room s m ([.ref h0, .int a, .int b, .ref ou] : List Value).toArray below meth c s.heap [] 0 0 (MQ below (va_Qi (S := Unit) (fun r _ => r = 0) (wr_B (dC, dI) vwCl (fun _ => [(h0, .inr (5, [.ref h1, .ref h2, .ref h3, .int (nI kc), va_rf la, .int cu])), (ou, .inl (cL, 1, .inr (.inl (fun _ => i64 (m_X4_follows a b)))))]) [(cL, .long)] A) A) ([.ref h0, .int a, .int b, .ref ou] : List Value).toArray s 0 0 A) (F0 m 16 ls [.long v, .int 0, .ref ou]) := by
    intro v hv
    refine va_last hx hb hK hP hD hS 1 0 rfl rfl (i := 0) (vp_in_nI (n := 0) (N := 1) (by decide) (by decide)) dL_follows_16 (fun H1 locs1 hP1 hD1 hS1 => ?_)
    refine lv_goto (tgt := 24) hx hb dL_follows_17 (by decide) ?_
    refine lv_iconst hx hb (v := 0) dL_follows_24 rfl ?_
    have hP2 : va_P (dC, dI) vwCl [(h0, .inr (5, [.ref h1, .ref h2, .ref h3, .int (nI kc), va_rf la, .int cu])), (ou, .inl (cL, 1, .inr (.inl (fun _ => i64 (m_X4_follows a b)))))] H1 := fun k q hk => by
      match k, hk with
      | 0, hk => exact hP1 0 q hk
      | 1, hk =>
        cases hk
        have h9 := hP1 1 _ rfl
        exact va_longEq (by show (if (0 : Nat) = (0 : Int32).toNatClampNeg then v else f 0) = _; rw [if_pos (by decide), hv]) h9
    exact wr_iret (v := 0) (w1 := fun _ => [(h0, .inr (5, [.ref h1, .ref h2, .ref h3, .int (nI kc), va_rf la, .int cu])), (ou, .inl (cL, 1, .inr (.inl (fun _ => i64 (m_X4_follows a b)))))]) () hx hb hr hlocks hK hS1 rfl hP2 (by exact (hD1.set (p := 1) (e := .inl (cL, 1, .inr (.inl (fun _ => i64 (m_X4_follows a b))))) rfl)) dL_follows_25
  refine lv_if_eq (tgt := 15) hx hb dL_follows_8 (by decide) (fun c_1 => ?_) (fun c_1 => ?_)
  · have c_1 := bI_0 c_1
    refine lv_lconst hx hb (v := 0) dL_follows_15 rfl ?_
    exact fin 0 (by rw [c_1]; rfl)
  · have c_1 := bI_n0 c_1
    refine lv_lconst hx hb (v := 1) dL_follows_11 rfl ?_
    refine lv_goto (tgt := 16) hx hb dL_follows_12 (by decide) ?_
    exact fin 1 (by revert c_1; cases m_X4_follows a b <;> simp [i64])
