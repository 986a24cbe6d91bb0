/-! texts: what the JDK's own methods need of the three literals -/
def st_P (adK adV : Nat → Nat) : State → Prop := fun U => va_Z "java/lang/String" "COMPACT_STRINGS" "Z" (.int 1) nA U U.heap ∧ vk_S 3 evLen evByt adK adV nA U U.heap
theorem st_blind {av : List Value} {adK adV : Nat → Nat} : FrameBlind (va_Pc av (st_P adK adV)) := fun a U g mk q => by
  obtain ⟨q0, q1, q2⟩ := q
  exact ⟨q0, q1.moved (Vm.Alike.refl U.vm), q2.moved (Vm.Alike.refl U.vm)⟩
section ST
variable {p : Program} {l : Launch} {e : Env} {R : Room} {s : State} {m : MethodId} {args : Array Value} {below : List Frame} {meth : Method} {c : Code} {H : Heap} {locs : List Loc} {cells slots : Nat} {Q : State → Prop}
variable {pc : Nat} {ls : Array Slot} {rest st0 : List Value} {cc bytes : ByteArray} {nL maxL index n : Nat} {ret : Option FieldType} {wsY : List Cond} {rm : Room} {own C : String} {y : MethodName} {b : Nat} {As : List Value} {Ts : List Cond} {adK adV : Nat → Nat}
theorem st_callV {post : Int32 → Prop} (S : CallFix p m c cc nL s args Ts own) (hZc : va_Z "java/lang/String" "COMPACT_STRINGS" "Z" (.int 1) nA s H) (hSt : vk_S 3 evLen evByt adK adV nA s H) (hM : Met l y wsY rm (va_Pc (.ref b :: As) (st_P adK adV)) (vp_Si post) 0 0 (fun _ => False)) (cw : CallW R s args own C index y bytes maxL ret wsY rm 0 0 n) (hrv : ∃ cell : Cell, H[b]? = some cell ∧ cell.vm.isStatics = false ∧ s.vm.findClass C = some cell.cls) (hn : As.length = n) (hsz : ls.size = nL) (hst : st0 = As.reverse ++ .ref b :: rest) (hW : (rest.map fun v => v.category).sum ≤ 8) (hdg : decode cc pc = .ok (.invokevirtual index, 3)) (hf : cells ≤ R.cells ∧ slots ≤ R.slots)
    (kk : ∀ r : Int32, post r → W p l e R s m args below meth c H locs cells slots Q (F0 m (pc + 3) ls (.int r :: rest))) : W p l e R s m args below meth c H locs cells slots Q (F0 m pc ls st0) :=
  vp_callSi (W.runV (g := F0 m pc ls st0) S hM cw ⟨st_blind, hrv, fun U hU hW => ⟨rfl, by rw [hU]; exact hZc.moved hW.alike, by rw [hU]; exact hSt.moved hW.alike⟩⟩ rfl hn hsz hst (lv_room hW) hdg hf) kk
theorem st_callS {post : Int32 → Prop} (S : CallFix p m c cc nL s args Ts own) (hZc : va_Z "java/lang/String" "COMPACT_STRINGS" "Z" (.int 1) nA s H) (hSt : vk_S 3 evLen evByt adK adV nA s H) (hM : Met l y wsY rm (va_Pc As (st_P adK adV)) (vp_Si post) 0 0 (fun _ => False)) (cw : CallB R s args own index y bytes maxL ret wsY rm 0 0 n ∧ (Cond.static y).before args s = true) (hn : As.length = n) (hsz : ls.size = nL) (hst : st0 = As.reverse ++ rest) (hW : (rest.map fun v => v.category).sum ≤ 8) (hdg : decode cc pc = .ok (.invokestatic index, 3)) (hf : cells ≤ R.cells ∧ slots ≤ R.slots)
    (kk : ∀ r : Int32, post r → W p l e R s m args below meth c H locs cells slots Q (F0 m (pc + 3) ls (.int r :: rest))) : W p l e R s m args below meth c H locs cells slots Q (F0 m pc ls st0) :=
  vp_callSi (W.runS (g := F0 m pc ls st0) S hM cw ⟨st_blind, fun U hU hW => ⟨rfl, by rw [hU]; exact hZc.moved hW.alike, by rw [hU]; exact hSt.moved hW.alike⟩⟩ rfl hn hsz hst (lv_room hW) hdg hf) kk
theorem st_baload {ad : Nat} {N : Nat} {f : Nat → Int32} (hx : p.tables.exec = Jvm.exec) (hb : c.code = cc) (hT : va_T .byte ad N (fun j => .int (f j)) nA s s.heap) (j : Nat) (hj : j < N) (hN : N < 2 ^ 31) (hdg : decode cc pc = .ok (.baload, 1))
    (kk : W p l e R s m args below meth c s.heap [] cells slots Q (F0 m (pc + 1) ls (.int (f j) :: rest))) : W p l e R s m args below meth c s.heap [] cells slots Q (F0 m pc ls (.int (nI j) :: .ref ad :: rest)) :=
  va_tb (v := .int (f j)) hx hb hT va_S.rf (vp_in_nI hj hN) (by rw [nI_clamp (by omega)]) hdg kk
theorem lv_topc {x v : Int32} (h : x = v) (k : W p l e R s m args below meth c H locs cells slots Q (F0 m pc ls (.int v :: rest))) : W p l e R s m args below meth c H locs cells slots Q (F0 m pc ls (.int x :: rest)) := by rw [h]; exact k
theorem rd_yret {post : Int32 → Prop} {v : Int32} {ty : FieldType} (hx : p.tables.exec = Jvm.exec) (hb : c.code = cc) (hr : meth.sig.returnType = some ty) (hlocks : meth.locks = false) (hnar : narrow ty (.int v) = .int v) (hpost : post v) (hdg : decode cc pc = .ok (.ireturn, 1)) : W p l e R s m args below meth c s.heap [] 0 0 (MQ below (vp_Si post) args s 0 0 (fun _ => False)) (F0 m pc ls [.int v]) :=
  W.zret (v := v) hx hb hr hnar (fun t ht hW => ⟨v, rfl, hpost, ht⟩) (fun q h => by cases h) hdg hlocks
end ST
theorem evLen_lt (i : Nat) : evLen.getD i 0 ≤ 34 := by
  match i with
  | 0 => decide
  | 1 => decide
  | 2 => decide
  | n + 3 => simp [evLen]
theorem vp_cell0 (cA : ClassId) (N : Nat) : vp_cell cA (N, .inl (fun _ => 0)) = arrV cA N (fun _ => defaultValue .int) := rfl
