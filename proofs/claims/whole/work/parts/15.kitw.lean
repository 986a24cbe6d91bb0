/-! writers: their starts, ends and calls -/
def wr_P (D : va_G) (cl : List vw_C) (ws : va_W) (tys : List (ClassId × FieldType)) (zz : Nat) : State → Prop := fun U => U.heap.size = zz ∧ EV (va_A ws zz) U U.heap ∧ va_P D cl ws U.heap ∧ va_K D cl tys U ∧ va_D (fun _ => True) ws
def wr_B {S : Type} (D : va_G) (cl : List vw_C) (w1 : S → va_W) (tys : List (ClassId × FieldType)) (A : Nat → Prop) : S → State → Prop := fun u t => va_P D cl (w1 u) t.heap ∧ va_K D cl tys t ∧ va_D A (w1 u)
theorem wr_blind {av : List Value} {D : va_G} {cl : List vw_C} {ws : va_W} {tys : List (ClassId × FieldType)} {zz : Nat} : FrameBlind (va_Pc av (wr_P D cl ws tys zz)) := fun a U g mk q => by
  obtain ⟨q0, qz, qE, qP, qK, qD⟩ := q
  exact ⟨q0, qz, qE.calls, qP, va_K.moved (u := U) (U := U.calling g mk a) (Vm.Alike.refl U.vm) qK, qD⟩
theorem wr_pre {av : List Value} {D : va_G} {cl : List vw_C} {wc : va_W} {tc : List (ClassId × FieldType)} {A : Nat → Prop} {s : State} {H : Heap} {locs : List Loc} (hE : EV A s s.heap) (hS : va_S A s.heap H locs) (hF : ∀ q, va_A wc H.size q → A q) (hPc : va_P D cl wc H) (hKc : va_K D cl tc s) (hDc : va_D A wc) : ∀ U : State, U.heap = H → s.WarmedH U.vm → va_Pc av (wr_P D cl wc tc H.size) av.toArray U := fun U hU hW =>
  ⟨rfl, by rw [hU], by rw [hU]; exact ((hE.kept hS.2.1).narrow hF).warm hW, by rw [hU]; exact hPc, va_K.moved hW.alike hKc, hDc.weaken (fun _ _ _ _ => trivial)⟩
theorem EV.rd {A : Nat → Prop} {s : State} {H : Heap} {locs : List Loc} (hE : EV A s s.heap) (hS : va_S A s.heap H locs) : EV nA s H := (hE.kept hS.2.1).narrow (fun _ h => h.elim)
section WR
variable {p : Program} {l : Launch} {e : Env} {R : Room} {s : State} {m : MethodId} {args : Array Value} {below : List Frame} {meth : Method} {c : Code} {H : Heap} {locs : List Loc} {cells slots mc ms : Nat} {Q : State → Prop}
variable {pc : Nat} {ls : Array Slot} {rest st0 : List Value} {cc : ByteArray} {D : va_G} {cl : List vw_C} {wc wr ws : va_W} {tc tys : List (ClassId × FieldType)} {a : Array Value} {A : Nat → Prop} {S : Type}
theorem wr_goV {post : S → Prop} {w1 : S → va_W} (hr : va_Run p l e R s m args below meth c H locs cells slots mc ms (F0 m pc ls st0) rest (va_Qv post (wr_B D cl w1 tc (va_A wc H.size)) (va_A wc H.size) a) (va_A wc H.size)) (hP : va_P D cl ws H) (hD : va_D A ws) (hS : va_S A s.heap H locs) (hF : ∀ q, va_A wc H.size q → A q) (isC isR : List Nat) (hC : isC.map (fun i => ws[i]?) = wc.map some) (hR : isR.map (fun i => ws[i]?) = wr.map some) (hn : va_nd isR = true) (hdis : ∀ i ∈ isR, i ∉ isC)
    (kk : ∀ (u : S) (H1 : Heap) (locs1 : List Loc), post u → va_P D cl (wr ++ w1 u) H1 → va_D A (wr ++ w1 u) → va_S A s.heap H1 locs1 → W p l e R s m args below meth c H1 locs1 (cells + mc) (slots + ms) Q (F0 m (pc + 3) ls rest)) : W p l e R s m args below meth c H locs cells slots Q (F0 m pc ls st0) :=
  va_callv hr hS (fun q _ h => hF q h) hF (fun u t H1 locs1 ht hvm hw hB hz1 hk1 hS1 => by
    obtain ⟨hP1, hK1, hD1⟩ := hB
    rw [ht] at hP1
    obtain ⟨hP2, hD2⟩ := va_join hP hD isC isR hC hR hn hdis hk1 hF hP1 hD1
    exact kk u H1 locs1 hw hP2 hD2 hS1)
theorem wr_goI {post : Int32 → S → Prop} {w1 : S → va_W} (hr : va_Run p l e R s m args below meth c H locs cells slots mc ms (F0 m pc ls st0) rest (va_Qi post (wr_B D cl w1 tc (va_A wc H.size)) (va_A wc H.size) a) (va_A wc H.size)) (hP : va_P D cl ws H) (hD : va_D A ws) (hS : va_S A s.heap H locs) (hF : ∀ q, va_A wc H.size q → A q) (isC isR : List Nat) (hC : isC.map (fun i => ws[i]?) = wc.map some) (hR : isR.map (fun i => ws[i]?) = wr.map some) (hn : va_nd isR = true) (hdis : ∀ i ∈ isR, i ∉ isC)
    (kk : ∀ (r : Int32) (u : S) (H1 : Heap) (locs1 : List Loc), post r u → va_P D cl (wr ++ w1 u) H1 → va_D A (wr ++ w1 u) → va_S A s.heap H1 locs1 → W p l e R s m args below meth c H1 locs1 (cells + mc) (slots + ms) Q (F0 m (pc + 3) ls (.int r :: rest))) : W p l e R s m args below meth c H locs cells slots Q (F0 m pc ls st0) :=
  va_calli hr hS (fun q _ h => hF q h) hF (fun r u t H1 locs1 ht hvm hw hB hz1 hk1 hS1 => by
    obtain ⟨hP1, hK1, hD1⟩ := hB
    rw [ht] at hP1
    obtain ⟨hP2, hD2⟩ := va_join hP hD isC isR hC hR hn hdis hk1 hF hP1 hD1
    exact kk r u H1 locs1 hw hP2 hD2 hS1)
theorem wr_vret {post : S → Prop} {w1 : S → va_W} (u : S) (hx : p.tables.exec = Jvm.exec) (hb : c.code = cc) (hr : meth.sig.returnType = none) (hlocks : meth.locks = false) (hK : va_K D cl tys s) (hS : va_S A s.heap H locs) (hp : post u) (hP : va_P D cl (w1 u) H) (hD : va_D A (w1 u)) (hdg : decode cc pc = .ok (.return_, 1)) : W p l e R s m args below meth c H locs cells slots (MQ below (va_Qv post (wr_B D cl w1 tys A) A) args s cells slots A) (F0 m pc ls []) :=
  W.vret hx hb hr (fun t ht hW => ⟨⟨u, rfl, hp, by rw [ht]; exact hP, va_K.moved hW.alike hK, hD⟩, hS.F ht⟩) hS.2.2 hdg hlocks
theorem wr_iret {post : Int32 → S → Prop} {w1 : S → va_W} {v : Int32} (u : S) (hx : p.tables.exec = Jvm.exec) (hb : c.code = cc) (hr : meth.sig.returnType = some .int) (hlocks : meth.locks = false) (hK : va_K D cl tys s) (hS : va_S A s.heap H locs) (hp : post v u) (hP : va_P D cl (w1 u) H) (hD : va_D A (w1 u)) (hdg : decode cc pc = .ok (.ireturn, 1)) : W p l e R s m args below meth c H locs cells slots (MQ below (va_Qi post (wr_B D cl w1 tys A) A) args s cells slots A) (F0 m pc ls [.int v]) :=
  W.iret hx hb hr (fun t ht hW => ⟨⟨v, u, rfl, hp, by rw [ht]; exact hP, va_K.moved hW.alike hK, hD⟩, hS.F ht⟩) hS.2.2 hdg hlocks
theorem wr_zret {post : Int32 → S → Prop} {w1 : S → va_W} {v : Int32} (u : S) (hx : p.tables.exec = Jvm.exec) (hb : c.code = cc) (hr : meth.sig.returnType = some .boolean) (hlocks : meth.locks = false) (hnar : narrow .boolean (.int v) = .int v) (hK : va_K D cl tys s) (hS : va_S A s.heap H locs) (hp : post v u) (hP : va_P D cl (w1 u) H) (hD : va_D A (w1 u)) (hdg : decode cc pc = .ok (.ireturn, 1)) : W p l e R s m args below meth c H locs cells slots (MQ below (va_Qi post (wr_B D cl w1 tys A) A) args s cells slots A) (F0 m pc ls [.int v]) :=
  W.zret hx hb hr hnar (fun t ht hW => ⟨⟨v, u, rfl, hp, by rw [ht]; exact hP, va_K.moved hW.alike hK, hD⟩, hS.F ht⟩) hS.2.2 hdg hlocks
theorem wr_iast {ad : Nat} (hx : p.tables.exec = Jvm.exec) (hb : c.code = cc) (hK : va_K D cl tys s) (hP : va_P D cl ws H) (hD : va_D A ws) (hS : va_S A s.heap H locs) (q0 t0 : Nat) {cA : ClassId} {n : Nat} {f : Nat → Int32} (ha : ws[q0]? = some (ad, .inl (cA, n, .inl f))) (ht : tys[t0]? = some (cA, .int)) {x : Int32} (j : Nat) (hj : j < n) (hn : n < 2 ^ 31) (hdg : decode cc pc = .ok (.iastore, 1))
    (kk : ∀ (H1 : Heap) (locs1 : List Loc), va_P D cl (ws.set q0 (ad, .inl (cA, n, .inl (upd f j x)))) H1 → va_D A (ws.set q0 (ad, .inl (cA, n, .inl (upd f j x)))) → va_S A s.heap H1 locs1 → W p l e R s m args below meth c H1 locs1 cells slots Q (F0 m (pc + 1) ls rest)) : W p l e R s m args below meth c H locs cells slots Q (F0 m pc ls (.int x :: .int (nI j) :: .ref ad :: rest)) :=
  va_iast hx hb hK hP hD hS q0 t0 ha ht (vp_in_nI hj hn) hdg (by rw [nI_clamp (by omega)]; exact kk)
theorem lv_topn {x : Int32} {n : Nat} (h : x = nI n) (k : W p l e R s m args below meth c H locs cells slots Q (F0 m pc ls (.int (nI n) :: rest))) : W p l e R s m args below meth c H locs cells slots Q (F0 m pc ls (.int x :: rest)) := by rw [h]; exact k
end WR
theorem wr_cA {D : va_G} {cl : List vw_C} {tys : List (ClassId × FieldType)} {cA cB : ClassId} {s : State} (t0 : Nat) (h : tys[t0]? = some (cA, .int)) (hK : va_K D cl (tys ++ [(cB, .int)]) s) : cB = cA := by
  have h1 : (tys ++ [(cB, FieldType.int)])[t0]? = some (cA, .int) := by
    rw [List.getElem?_append_left (List.getElem?_eq_some_iff.mp h).1]; exact h
  have h2 : (tys ++ [(cB, FieldType.int)])[tys.length]? = some (cB, .int) := by
    rw [List.getElem?_append_right (Nat.le_refl _), Nat.sub_self]; rfl
  exact Option.some.inj ((hK.2 _ _ h2).2.symm.trans (hK.2 _ _ h1).2)
theorem wr_cP {D : va_G} {cl : List vw_C} {tys : List (ClassId × FieldType)} {cA cB : ClassId} {C : String} {s : State} (t0 : Nat) (h : tys[t0]? = some (cA, .object C)) (hK : va_K D cl (tys ++ [(cB, .object C)]) s) : cB = cA := by
  have h1 : (tys ++ [(cB, FieldType.object C)])[t0]? = some (cA, .object C) := by
    rw [List.getElem?_append_left (List.getElem?_eq_some_iff.mp h).1]; exact h
  have h2 : (tys ++ [(cB, FieldType.object C)])[tys.length]? = some (cB, .object C) := by
    rw [List.getElem?_append_right (Nat.le_refl _), Nat.sub_self]; rfl
  obtain ⟨_, _, _, _, _, a⟩ := (hK.2 _ _ h2).2
  obtain ⟨_, _, _, _, _, b⟩ := (hK.2 _ _ h1).2
  exact Option.some.inj (a.symm.trans b)
section WM
variable {p : Program} {l : Launch} {e : Env} {R : Room} {s : State} {m : MethodId} {args : Array Value} {below : List Frame} {meth : Method} {c : Code} {H : Heap} {locs : List Loc} {cells slots : Nat} {Q : State → Prop}
variable {pc : Nat} {ls : Array Slot} {rest : List Value} {cc : ByteArray}
theorem rd_imul (hx : p.tables.exec = Jvm.exec) (hb : c.code = cc) (i j : Nat) (hdg : decode cc pc = .ok (.imul, 1))
    (kk : W p l e R s m args below meth c H locs cells slots Q (F0 m (pc + 1) ls (.int (nI (i * j)) :: rest))) : W p l e R s m args below meth c H locs cells slots Q (F0 m pc ls (.int (nI j) :: .int (nI i) :: rest)) :=
  lv_imul hx hb hdg (by rw [pk_mul]; exact kk)
end WM
theorem rg_w {x : Int32} {a n : Nat} (h0 : ¬ x < 0) (h1 : x < nI a) (ha : a ≤ n) (hn : n < 2 ^ 31) : vp_in x n := by
  rw [vp_in_iff]
  have b0 : ¬ x.toInt < 0 := fun q => h0 (Int32.lt_iff_toInt_lt.mpr (by rw [Int32.toInt_zero]; exact q))
  have b1 := Int32.lt_iff_toInt_lt.mp h1
  rw [nI_toInt (by omega)] at b1
  omega
theorem rg_t {x : Int32} (h0 : ¬ x < 0) : x = nI x.toNatClampNeg := by
  obtain ⟨j, hj, rfl⟩ := nI_of h0
  rw [nI_clamp hj]
theorem rg_tl {x : Int32} {a : Nat} (h0 : ¬ x < 0) (h1 : x < nI a) (ha : a < 2 ^ 31) : x.toNatClampNeg < a := by
  obtain ⟨j, hj, rfl⟩ := nI_of h0
  rw [nI_clamp hj]
  exact (nI_ltI hj ha).mp h1
