/-! my own small kit: booleans as numbers, the environment that every contract carries, readers' calls and ends -/
def bI (b : Bool) : Int32 := if b = true then 1 else 0
theorem bI_0 {b : Bool} (h : bI b = 0) : b = false := by cases b with | true => exact absurd h (by decide) | false => rfl
theorem bI_n0 {b : Bool} (h : ¬ bI b = 0) : ¬ b = false := fun e => h (by rw [e]; rfl)
theorem bI_nar (b : Bool) : narrow .boolean (.int (bI b)) = .int (bI b) := by cases b <;> rfl
/-- the words on private members of nest mates -/
def nwF : List (String × Nat × String × String × String) := [("PictureRows", 103, "PictureRows$Picture", "effect", "LPictureRows$Effect;"), ("PictureRows", 58, "PictureRows$Picture", "signCount", "I"), ("PictureRows", 61, "PictureRows$Picture", "category", "I"), ("PictureRows", 68, "PictureRows$Picture", "digitsAhead", "I"), ("PictureRows", 71, "PictureRows$Picture", "digitsBehind", "I"), ("PictureRows", 74, "PictureRows$Picture", "scale", "I"), ("PictureRows$Picture", 28, "PictureRows$Runs", "signs", "[I"), ("PictureRows$Picture", 41, "PictureRows$Runs", "times", "[I"), ("PictureRows$Picture", 45, "PictureRows$Runs", "kinds", "[I"), ("PictureRows$Picture", 9, "PictureRows$Runs", "size", "I"), ("PictureRows$Runs", 31, "PictureRows$Text", "length", "I"), ("PictureRows$Runs", 79, "PictureRows", "MAY_COME_BEHIND", "[I"), ("PictureRows", 133, "PictureRows$Text", "length", "I")]
def nwM : List (String × Nat × MethodName) := [("PictureRows", 11, yX3_init), ("PictureRows", 18, yX2_init), ("PictureRows$Picture", 74, yX4_holds), ("PictureRows$Picture", 78, yX2_countOf), ("PictureRows$Picture", 98, yX4_widthOf), ("PictureRows$Runs", 40, yX4_widthOf), ("PictureRows$Runs", 67, yX4_holds), ("PictureRows$Runs", 75, yX4_isKind), ("PictureRows$Runs", 85, yX4_signsCounted), ("PictureRows$Text", 23, yX4_greatOf)]
def NW (U : State) : Prop := (∀ q ∈ nwF, va_Nw (.fieldLinkNest q.1 q.2.1 q.2.2.1 q.2.2.2.1 q.2.2.2.2 "PictureRows") U) ∧ ∀ q ∈ nwM, va_Nw (.methodLinkNest q.1 q.2.1 q.2.2 "PictureRows") U
theorem NW.warm {s U : State} (hW : s.WarmedH U.vm) (h : NW s) : NW U := ⟨fun q hq => va_Nw.warmF hW (h.1 q hq), fun q hq => va_Nw.warmM hW (h.2 q hq)⟩
theorem NW.same {u U : State} (hv : u.vm = U.vm) (h : NW u) : NW U := ⟨fun q hq => va_Nw.same rfl hv (h.1 q hq), fun q hq => va_Nw.same rfl hv (h.2 q hq)⟩
/-- the table of kinds, and the three texts -/
def tbL : List Int32 := [442327, 171991, 6803, 236775, 0, 234455, 168151, 147, 168711, 515, 171031, 2067, 176151, 12289, 233472, 72339, 72339, 163856, 262145]
def evT0 : String := "AX9Z*B0/,.+-SVPN"
def evT1 : String := "ABCDENPRSVXZ0123456789*+-,./;()='\""
def evT2 : String := "no such kind"
def evByt : List (List Int32) := [[65, 88, 57, 90, 42, 66, 48, 47, 44, 46, 43, 45, 83, 86, 80, 78], [65, 66, 67, 68, 69, 78, 80, 82, 83, 86, 88, 90, 48, 49, 50, 51, 52, 53, 54, 55, 56, 57, 42, 43, 45, 44, 46, 47, 59, 40, 41, 61, 39, 34], [110, 111, 32, 115, 117, 99, 104, 32, 107, 105, 110, 100]]
def evLen : List Nat := [16, 34, 12]
def EV (A : Nat → Prop) (U : State) (H : Heap) : Prop := NW U ∧ (∃ t : Nat, va_Z "PictureRows" "MAY_COME_BEHIND" "[I" (.ref t) A U H ∧ va_T .int t 19 (fun j => .int (tbL.getD j 0)) A U H) ∧ va_Z "java/lang/String" "COMPACT_STRINGS" "Z" (.int 1) A U H ∧ ∃ adK adV : Nat → Nat, vk_S 3 evLen evByt adK adV A U H ∧ vk_R "PictureRows$Text" 26 evT0 (adK 0) U ∧ vk_R "PictureRows" 136 evT1 (adK 1) U ∧ vk_R "PictureRows" 83 evT2 (adK 2) U ∧ va_Nw (.castable "[I" "java/lang/Cloneable") U ∧ va_AO "PictureRows$Picture" U
theorem EV.warm {A : Nat → Prop} {s U : State} {H : Heap} (hW : s.WarmedH U.vm) (h : EV A s H) : EV A U H := by
  obtain ⟨h1, ⟨t, h2, h3⟩, h4, adK, adV, h5, h6, h7, h8, h9, h10⟩ := h
  exact ⟨h1.warm hW, ⟨t, h2.moved hW.alike, h3.moved hW.alike⟩, h4.moved hW.alike, adK, adV, h5.moved hW.alike, h6.warm hW, h7.warm hW, h8.warm hW, va_Nw.warmC hW h9, h10.moved hW.alike⟩
theorem EV.calls {A : Nat → Prop} {U : State} {H : Heap} {g : JFrame} {mk : MethodId} {a : Array Value} (h : EV A U H) : EV A (U.calling g mk a) H := by
  obtain ⟨h1, ⟨t, h2, h3⟩, h4, adK, adV, h5, h6, h7, h8, h9, h10⟩ := h
  exact ⟨h1.same rfl, ⟨t, h2.moved (Vm.Alike.refl U.vm), h3.moved (Vm.Alike.refl U.vm)⟩, h4.moved (Vm.Alike.refl U.vm), adK, adV, h5.moved (Vm.Alike.refl U.vm), h6.same rfl, h7.same rfl, h8.same rfl, va_Nw.same rfl rfl h9, h10.moved (Vm.Alike.refl U.vm)⟩
theorem EV.kept {A : Nat → Prop} {U : State} {H H1 : Heap} (h : EV A U H) (hq : ∀ a : Nat, a < H.size → ¬ A a → H1[a]? = H[a]?) : EV A U H1 := by
  obtain ⟨h1, ⟨t, h2, h3⟩, h4, adK, adV, h5, h6⟩ := h
  exact ⟨h1, ⟨t, h2.kept hq, h3.kept hq⟩, h4.kept hq, adK, adV, h5.kept hq, h6⟩
theorem EV.narrow {A B : Nat → Prop} {U : State} {H : Heap} (h : EV A U H) (hAB : ∀ q, B q → A q) : EV B U H := by
  obtain ⟨h1, ⟨t, h2, h3⟩, h4, adK, adV, h5, h6⟩ := h
  exact ⟨h1, ⟨t, h2.narrow hAB, h3.narrow hAB⟩, h4.narrow hAB, adK, adV, h5.narrow hAB, h6⟩
abbrev nA : Nat → Prop := fun _ => False
/-- a reader's start: the environment, the cells that it reads -/
def rd_P (D : va_G) (cl : List vw_C) (wc : va_W) (tc : List (ClassId × FieldType)) : State → Prop := fun U => EV nA U U.heap ∧ va_P D cl wc U.heap ∧ va_K D cl tc U
theorem rd_blind {av : List Value} {D : va_G} {cl : List vw_C} {wc : va_W} {tc : List (ClassId × FieldType)} : FrameBlind (va_Pc av (rd_P D cl wc tc)) := fun a U g mk q => by
  obtain ⟨q0, qE, qP, qK⟩ := q
  exact ⟨q0, qE.calls, qP, va_K.moved (u := U) (U := U.calling g mk a) (Vm.Alike.refl U.vm) qK⟩
section RD
variable {p : Program} {l : Launch} {e : Env} {R : Room} {s : State} {m : MethodId} {args : Array Value} {below : List Frame} {meth : Method} {c : Code} {H : Heap} {locs : List Loc} {cells slots : Nat} {Q : State → Prop}
variable {pc : Nat} {ls : Array Slot} {rest st0 : List Value} {cc bytes : ByteArray} {nL maxL index n : Nat} {ret : Option FieldType} {wsY : List Cond} {rm : Room} {own C host : String} {y : MethodName} {b : Nat} {As : List Value} {Ts : List Cond} {D : va_G} {cl : List vw_C} {wc : va_W} {tc : List (ClassId × FieldType)}
theorem rd_callV {post : Int32 → Prop} (S : CallFix p m c cc nL s args Ts own) (hE : EV nA s H) (hM : Met l y wsY rm (va_Pc (.ref b :: As) (rd_P D cl wc tc)) (vp_Si post) 0 0 (fun _ => False)) (cw : CallW R s args own C index y bytes maxL ret wsY rm 0 0 n) (hPc : va_P D cl wc H) (hKc : va_K D cl tc s) (hrv : ∃ cell : Cell, H[b]? = some cell ∧ cell.vm.isStatics = false ∧ s.vm.findClass C = some cell.cls) (hn : As.length = n) (hsz : ls.size = nL) (hst : st0 = As.reverse ++ .ref b :: rest) (hW : (rest.map fun v => v.category).sum ≤ 8) (hdg : decode cc pc = .ok (.invokevirtual index, 3)) (hf : cells ≤ R.cells ∧ slots ≤ R.slots)
    (kk : ∀ r : Int32, post r → W p l e R s m args below meth c H locs cells slots Q (F0 m (pc + 3) ls (.int r :: rest))) : W p l e R s m args below meth c H locs cells slots Q (F0 m pc ls st0) :=
  vp_callSi (W.runV (g := F0 m pc ls st0) S hM cw ⟨rd_blind, hrv, fun U hU hW => ⟨rfl, by rw [hU]; exact hE.warm hW, by rw [hU]; exact hPc, va_K.moved hW.alike hKc⟩⟩ rfl hn hsz hst (lv_room hW) hdg hf) kk
theorem rd_callS {post : Int32 → Prop} (S : CallFix p m c cc nL s args Ts own) (hE : EV nA s H) (hM : Met l y wsY rm (va_Pc As (rd_P D cl wc tc)) (vp_Si post) 0 0 (fun _ => False)) (cw : CallB R s args own index y bytes maxL ret wsY rm 0 0 n ∧ (Cond.static y).before args s = true) (hPc : va_P D cl wc H) (hKc : va_K D cl tc s) (hn : As.length = n) (hsz : ls.size = nL) (hst : st0 = As.reverse ++ rest) (hW : (rest.map fun v => v.category).sum ≤ 8) (hdg : decode cc pc = .ok (.invokestatic index, 3)) (hf : cells ≤ R.cells ∧ slots ≤ R.slots)
    (kk : ∀ r : Int32, post r → W p l e R s m args below meth c H locs cells slots Q (F0 m (pc + 3) ls (.int r :: rest))) : W p l e R s m args below meth c H locs cells slots Q (F0 m pc ls st0) :=
  vp_callSi (W.runS (g := F0 m pc ls st0) S hM cw ⟨rd_blind, fun U hU hW => ⟨rfl, by rw [hU]; exact hE.warm hW, by rw [hU]; exact hPc, va_K.moved hW.alike hKc⟩⟩ rfl hn hsz hst (lv_room hW) hdg hf) kk
theorem rd_callVN {post : Int32 → Prop} (S : CallFix p m c cc nL s args Ts own) (hE : EV nA s H) (hM : Met l y wsY rm (va_Pc (.ref b :: As) (rd_P D cl wc tc)) (vp_Si post) 0 0 (fun _ => False)) (cw : va_CN R s args own index y host bytes maxL ret wsY rm 0 0 n ∧ (Cond.instanceMethod y).before args s = true ∧ (Cond.selects C y y).before args s = true) (hPc : va_P D cl wc H) (hKc : va_K D cl tc s) (hrv : ∃ cell : Cell, H[b]? = some cell ∧ cell.vm.isStatics = false ∧ s.vm.findClass C = some cell.cls) (hn : As.length = n) (hsz : ls.size = nL) (hst : st0 = As.reverse ++ .ref b :: rest) (hW : (rest.map fun v => v.category).sum ≤ 8) (hdg : decode cc pc = .ok (.invokevirtual index, 3)) (hf : cells ≤ R.cells ∧ slots ≤ R.slots)
    (kk : ∀ r : Int32, post r → W p l e R s m args below meth c H locs cells slots Q (F0 m (pc + 3) ls (.int r :: rest))) : W p l e R s m args below meth c H locs cells slots Q (F0 m pc ls st0) :=
  vp_callSi (va_Run.run (va_runVN (g := F0 m pc ls st0) S hM cw ⟨rd_blind, hrv, fun U hU hW => ⟨rfl, by rw [hU]; exact hE.warm hW, by rw [hU]; exact hPc, va_K.moved hW.alike hKc⟩⟩ rfl hn hsz hst (lv_room hW) hdg hf)) kk
theorem rd_callSN {post : Int32 → Prop} (S : CallFix p m c cc nL s args Ts own) (hE : EV nA s H) (hM : Met l y wsY rm (va_Pc As (rd_P D cl wc tc)) (vp_Si post) 0 0 (fun _ => False)) (cw : va_CN R s args own index y host bytes maxL ret wsY rm 0 0 n ∧ (Cond.static y).before args s = true ∧ True) (hPc : va_P D cl wc H) (hKc : va_K D cl tc s) (hn : As.length = n) (hsz : ls.size = nL) (hst : st0 = As.reverse ++ rest) (hW : (rest.map fun v => v.category).sum ≤ 8) (hdg : decode cc pc = .ok (.invokestatic index, 3)) (hf : cells ≤ R.cells ∧ slots ≤ R.slots)
    (kk : ∀ r : Int32, post r → W p l e R s m args below meth c H locs cells slots Q (F0 m (pc + 3) ls (.int r :: rest))) : W p l e R s m args below meth c H locs cells slots Q (F0 m pc ls st0) :=
  vp_callSi (va_Run.run (va_runSN (g := F0 m pc ls st0) S hM cw ⟨rd_blind, fun U hU hW => ⟨rfl, by rw [hU]; exact hE.warm hW, by rw [hU]; exact hPc, va_K.moved hW.alike hKc⟩⟩ rfl hn hsz hst (lv_room hW) hdg hf)) kk
/-- a reader's ends -/
theorem rd_iret {post : Int32 → Prop} {v : Int32} (hx : p.tables.exec = Jvm.exec) (hb : c.code = cc) (hr : meth.sig.returnType = some .int) (hlocks : meth.locks = false) (hpost : post v) (hdg : decode cc pc = .ok (.ireturn, 1)) : W p l e R s m args below meth c s.heap [] 0 0 (MQ below (vp_Si post) args s 0 0 (fun _ => False)) (F0 m pc ls [.int v]) :=
  W.iret (v := v) hx hb hr (fun t ht hW => ⟨v, rfl, hpost, ht⟩) (fun q h => by cases h) hdg hlocks
theorem rd_zret {post : Int32 → Prop} {v : Int32} (hx : p.tables.exec = Jvm.exec) (hb : c.code = cc) (hr : meth.sig.returnType = some .boolean) (hlocks : meth.locks = false) (hnar : narrow .boolean (.int v) = .int v) (hpost : post v) (hdg : decode cc pc = .ok (.ireturn, 1)) : W p l e R s m args below meth c s.heap [] 0 0 (MQ below (vp_Si post) args s 0 0 (fun _ => False)) (F0 m pc ls [.int v]) :=
  W.zret (v := v) hx hb hr hnar (fun t ht hW => ⟨v, rfl, hpost, ht⟩) (fun q h => by cases h) hdg hlocks
/-- an array's place that is a number -/
theorem rd_iald {a : Nat} {tys : List (ClassId × FieldType)} {ws : va_W} (hx : p.tables.exec = Jvm.exec) (hb : c.code = cc) (hK : va_K D cl tys s) (hP : va_P D cl ws H) (q0 t0 : Nat) {cA : ClassId} {k : Nat} {f : Nat → Int32} (ha : ws[q0]? = some (a, .inl (cA, k, .inl f))) (ht : tys[t0]? = some (cA, .int)) (j : Nat) (hj : j < k) (hk : k < 2 ^ 31) (hdg : decode cc pc = .ok (.iaload, 1))
    (kk : W p l e R s m args below meth c H locs cells slots Q (F0 m (pc + 1) ls (.int (f j) :: rest))) : W p l e R s m args below meth c H locs cells slots Q (F0 m pc ls (.int (nI j) :: .ref a :: rest)) :=
  va_iald hx hb hK hP q0 t0 ha ht (vp_in_nI hj hk) hdg (by rw [nI_clamp (by omega)]; exact kk)
theorem rd_iadd (hx : p.tables.exec = Jvm.exec) (hb : c.code = cc) (i j : Nat) (hdg : decode cc pc = .ok (.iadd, 1))
    (kk : W p l e R s m args below meth c H locs cells slots Q (F0 m (pc + 1) ls (.int (nI (i + j)) :: rest))) : W p l e R s m args below meth c H locs cells slots Q (F0 m pc ls (.int (nI j) :: .int (nI i) :: rest)) :=
  lv_iadd hx hb hdg (by rw [nI_add]; exact kk)
theorem rd_isub (hx : p.tables.exec = Jvm.exec) (hb : c.code = cc) (i j : Nat) (h : j ≤ i) (hdg : decode cc pc = .ok (.isub, 1))
    (kk : W p l e R s m args below meth c H locs cells slots Q (F0 m (pc + 1) ls (.int (nI (i - j)) :: rest))) : W p l e R s m args below meth c H locs cells slots Q (F0 m pc ls (.int (nI j) :: .int (nI i) :: rest)) :=
  lv_isub hx hb hdg (by rw [pk_sub h]; exact kk)
end RD
theorem rg_in {x N : Int32} {n : Nat} (hN : N.toInt = n) (h0 : ¬ x < 0) (h1 : ¬ N ≤ x) : vp_in x n := by
  rw [vp_in_iff]
  have a : ¬ x.toInt < 0 := fun q => h0 (Int32.lt_iff_toInt_lt.mpr (by rw [Int32.toInt_zero]; exact q))
  have b : ¬ (n : Int) ≤ x.toInt := fun q => h1 (Int32.le_iff_toInt_le.mpr (by rw [hN]; exact q))
  omega
theorem rg_in2 {x N : Int32} {n : Nat} (hN : N.toInt = n) (h0 : ¬ x < 0) (h1 : x < N) : vp_in x n := by
  rw [vp_in_iff]
  have a : ¬ x.toInt < 0 := fun q => h0 (Int32.lt_iff_toInt_lt.mpr (by rw [Int32.toInt_zero]; exact q))
  have b : x.toInt < (n : Int) := by rw [← hN]; exact Int32.lt_iff_toInt_lt.mp h1
  omega
theorem nb_lt {x : Int32} {i B : Nat} (h : ¬ x ≤ nI i) (hc : x.toInt ≤ B) (hB : B < 2 ^ 31) (hi : i ≤ B) : i + 1 ≤ B := by
  have a : ¬ x.toInt ≤ (nI i).toInt := fun q => h (Int32.le_iff_toInt_le.mpr q)
  rw [nI_toInt (by omega)] at a
  omega
theorem nI_nm1 {n : Nat} (h : n < 2 ^ 31) : ¬ nI n = -1 := fun q => by
  have a := nI_toInt h
  rw [q] at a
  have b : (-1 : Int32).toInt = -1 := by decide
  omega
