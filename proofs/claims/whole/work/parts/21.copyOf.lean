/-! Arrays.copyOf of an int array of 80 places: the first n of them -/
def cpo (f : Nat → Int32) (n : Nat) : Nat → Int32 := if n = 80 then f else va_cpy f (fun _ => 0) 0 0 n
theorem cpo_at {f : Nat → Int32} {n j : Nat} (h : j < n) : cpo f n j = f j := by
  unfold cpo
  split
  · rfl
  · rw [pk_cpy_in (Nat.zero_le _) (by omega)]
    simp
def wr_R (D : va_G) (cl : List vw_C) (w1 : Nat → va_W) (tys : List (ClassId × FieldType)) (A : Nat → Prop) : Unit → Nat → State → Prop := fun _ q t => va_P D cl (w1 q) t.heap ∧ va_K D cl tys t ∧ va_D A (w1 q)
section WRR
variable {p : Program} {l : Launch} {e : Env} {R : Room} {s : State} {m : MethodId} {args : Array Value} {below : List Frame} {meth : Method} {c : Code} {H : Heap} {locs : List Loc} {cells slots mc ms : Nat} {Q : State → Prop}
variable {pc : Nat} {ls : Array Slot} {rest st0 : List Value} {cc : ByteArray} {D : va_G} {cl : List vw_C} {wc wr ws : va_W} {tc tys : List (ClassId × FieldType)} {a : Array Value} {A : Nat → Prop}
theorem wr_goR {w1 : Nat → va_W} (hr : va_Run p l e R s m args below meth c H locs cells slots mc ms (F0 m pc ls st0) rest (va_Qr (fun _ => True) (wr_R D cl w1 tc (va_A wc H.size)) (va_A wc H.size) a) (va_A wc H.size)) (hP : va_P D cl ws H) (hD : va_D A ws) (hS : va_S A s.heap H locs) (hF : ∀ q, va_A wc H.size q → A q) (isC isR : List Nat) (hC : isC.map (fun i => ws[i]?) = wc.map some) (hR : isR.map (fun i => ws[i]?) = wr.map some) (hn : va_nd isR = true) (hdis : ∀ i ∈ isR, i ∉ isC)
    (kk : ∀ (q : Nat) (H1 : Heap) (locs1 : List Loc), va_P D cl (wr ++ w1 q) H1 → va_D A (wr ++ w1 q) → va_S A s.heap H1 locs1 → W p l e R s m args below meth c H1 locs1 (cells + mc) (slots + ms) Q (F0 m (pc + 3) ls (.ref q :: rest))) : W p l e R s m args below meth c H locs cells slots Q (F0 m pc ls st0) :=
  va_callr hr hS (fun q _ h => hF q h) hF (fun u ra t H1 locs1 ht hvm hw hB hz1 hk1 hS1 => by
    obtain ⟨hP1, hK1, hD1⟩ := hB
    rw [ht] at hP1
    obtain ⟨hP2, hD2⟩ := va_join hP hD isC isR hC hR hn hdis hk1 hF hP1 hD1
    exact kk ra H1 locs1 hP2 hD2 hS1)
theorem wr_aret {w1 : Nat → va_W} {q : Nat} {rt : FieldType} (hx : p.tables.exec = Jvm.exec) (hb : c.code = cc) (hr : meth.sig.returnType = some rt) (hrt : (∃ n, rt = .object n) ∨ ∃ t, rt = .array t) (hlocks : meth.locks = false) (hK : va_K D cl tys s) (hS : va_S A s.heap H locs) (hP : va_P D cl (w1 q) H) (hD : va_D A (w1 q)) (hdg : decode cc pc = .ok (.areturn, 1)) : W p l e R s m args below meth c H locs cells slots (MQ below (va_Qr (fun _ => True) (wr_R D cl w1 tys A) A) args s cells slots A) (F0 m pc ls [.ref q]) :=
  W.aret hx hb hr hrt (Or.inr ⟨q, rfl⟩) (fun t ht hW => ⟨⟨(), q, rfl, trivial, by rw [ht]; exact hP, va_K.moved hW.alike hK, hD⟩, hS.F ht⟩) hS.2.2 hdg hlocks
end WRR
theorem cell_fits {cA : ClassId} {n : Nat} {f : Nat → Int32} (i : Nat) (v : Value) (h : (vp_cell cA (n, .inl f)).slots[i]? = some v) : fits .int v = true := by
  rw [vp_cell_i] at h
  have hi : i < n := by
    have := (Array.getElem?_eq_some_iff.mp h).1
    rwa [arrV_size] at this
  rw [arrV_read cA _ hi] at h
  cases h
  rfl
set_option maxHeartbeats 4000000 in
set_option maxRecDepth 100000 in
theorem c_J7_copyOf_59c91 (l : Launch) (dC : Nat → ClassId) (dI : Nat → Nat → Nat) (h0 : Nat) (cA : ClassId) (f : Nat → Int32) (n : Nat) (zz : Nat) (hn : n ≤ 80) : Met l yJ7_copyOf_59c91 wsJ7_copyOf_59c91 ({ frames := 1, cells := 1, slots := 80, locals := 60 } : Room) (va_Pc [.ref h0, .int (nI n)] (wr_P (dC, dI) vwCl [(h0, .inl (cA, 80, .inl f))] [(cA, .int)] zz)) (va_Qr (fun _ => True) (wr_R (dC, dI) vwCl (fun q => [(h0, .inl (cA, 80, .inl f)), (q, .inl (cA, n, .inl (cpo f n)))]) [(cA, .int)] (va_A [(h0, .inl (cA, 80, .inl f))] zz)) (va_A [(h0, .inl (cA, 80, .inl f))] zz)) 1 80 (va_A [(h0, .inl (cA, 80, .inl f))] zz) := by
  refine Met.ofW (cc := cJ7_copyOf_59c91) (maxL := 3) (ret := (some (.array .int))) (by decide) rfl ?_
  intro p e s m args below meth c s₁ B hml hv
  obtain ⟨rfl, hsz0, hE, hP, hK, hD0⟩ := hv
  have hx := B.exec
  have hb := B.bytes
  have hr := B.returns
  have hts := atoms_spec (ws := wsJ7_copyOf_59c91) B.pre
  have hown : s.vm.findClass RJ7 = some m.cls := findClass_of_methodNamed B.named
  have hlocks := B.notSynchronized
  subst hsz0
  have hD := hD0.self (sz := s.heap.size)
  generalize hAe : va_A [(h0, .inl (cA, 80, .inl f))] s.heap.size = A at hD hE ⊢
  have hA : ∀ q : Nat, s.heap.size ≤ q → A q := fun q h => by rw [← hAe]; exact Or.inr h
  have hS : va_S A s.heap s.heap [] := va_S.rf
  have hP : va_P (dC, dI) vwCl [(h0, .inl (cA, 80, .inl f))] s.heap := hP
  have hl := lv_entry ([.ref h0, .int (nI n)]) (n := 3) (Nat.le_of_ble_eq_true rfl)
  rw [lg_entry_eq]
  generalize (lg_sl ([.ref h0, .int (nI n)]) ++ List.replicate (3 - (lg_sl ([.ref h0, .int (nI n)])).length) Slot.unset).toArray = ls at hl ⊢
  have hl : lv_has ls 3 [(0, .ref h0), (1, .int (nI n))] := hl
  have hfc : s.vm.findClass "[I" = some cA := (hK.2 0 _ rfl).2
  refine lv_iload_n hx hb dJ7_copyOf_59c91_0 rfl (lv_at hl 1 rfl) ?_
  refine lv_aload_n hx hb dJ7_copyOf_59c91_1 rfl (lv_at hl 0 rfl) ?_
  refine va_alen (v := nI 80) hx hb hK hP 0 0 rfl rfl rfl dJ7_copyOf_59c91_2 ?_
  refine lv_icmp_ne (tgt := 14) hx hb dJ7_copyOf_59c91_3 (by decide) (fun c1 => ?_) (fun c1 => ?_)
  · have c1 : ¬ n = 80 := fun q => c1 ((nI_eq (by omega) (by omega)).mpr q)
    refine lv_iload_n hx hb dJ7_copyOf_59c91_14 rfl (lv_at hl 1 rfl) ?_
    refine va_newa (atype := .int) (ty := .int) (a0 := (n, .inl (fun _ => 0))) (N' := n) hx hb (hts (.arrayClass .int) (by decide +kernel)) rfl hK hP hD hS hA (fun cB => vp_cell0 cB n) (nI_pos (n := n) (by omega)) (nI_clamp (n := n) (by omega)) (show n * 4 ≤ 536870912 by omega) (Nat.le_of_ble_eq_true rfl) (show 0 + n ≤ 80 by omega) dJ7_copyOf_59c91_15 (fun q cB H hK9 hP hD hS => ?_)
    rw [wr_cA 0 rfl hK9] at hP hD
    have hP : va_P (dC, dI) vwCl [(h0, .inl (cA, 80, .inl f)), (q, .inl (cA, n, .inl (fun _ => 0)))] H := hP
    have hD : va_D A [(h0, .inl (cA, 80, .inl f)), (q, .inl (cA, n, .inl (fun _ => 0)))] := hD
    refine W.widen (k := 1) (n := 80) (by omega) (by omega) ?_
    refine lv_astore_n (lv' := [(2, .ref q), (0, .ref h0), (1, .int (nI n))]) hx hb dJ7_copyOf_59c91_17 rfl hl (by decide) rfl (fun ls hl => ?_)
    refine lv_aload_n hx hb dJ7_copyOf_59c91_18 rfl (lv_at hl 1 rfl) ?_
    refine lv_iconst (v := 0) hx hb dJ7_copyOf_59c91_19 (by decide) ?_
    refine lv_aload_n hx hb dJ7_copyOf_59c91_20 rfl (lv_at hl 0 rfl) ?_
    refine lv_iconst (v := 0) hx hb dJ7_copyOf_59c91_21 (by decide) ?_
    refine lv_aload_n hx hb dJ7_copyOf_59c91_22 rfl (lv_at hl 1 rfl) ?_
    refine va_alen (v := nI 80) hx hb hK hP 0 0 rfl rfl rfl dJ7_copyOf_59c91_23 ?_
    refine lv_iload_n hx hb dJ7_copyOf_59c91_24 rfl (lv_at hl 2 rfl) ?_
    refine va_mmin (x := nI 80) (y := nI n) hx hb (hml.trans hl.1.symm) hown (hts (.methodLink RJ7 304 Lib.Math.min.name) (by decide +kernel)) (hts (.static Lib.Math.min.name) (by decide +kernel)) (hts (.initialized "java/lang/Math") (by decide +kernel)) (hts (.code Lib.Math.min.name Lib.Math.min.code 2 (some .int)) (by decide +kernel)) (Nat.le_of_ble_eq_true rfl) (Nat.le_of_ble_eq_true rfl) (Nat.le_of_ble_eq_true rfl) (Nat.le_of_ble_eq_true rfl) dJ7_copyOf_59c91_25 ?_
    rw [if_pos (nI_lt (a := n) (b := 80) (by omega) (by omega))]
    refine va_copyi hx hb (hml.trans hl.1.symm) hown (hts (.methodLink RJ7 150 arraycopyName) (by decide +kernel)) (hts (.native arraycopyName) (by decide +kernel)) (hts (.static arraycopyName) (by decide +kernel)) (hts (.initialized "java/lang/System") (by decide +kernel)) hK hP hD hS 0 1 0 0 rfl rfl rfl rfl rfl (by decide) (by decide) (nI_pos (by omega)) (by rw [nI_clamp (by omega)]; show 0 + n ≤ 80; omega) (by rw [nI_clamp (by omega)]; show 0 + n ≤ n; omega) (fun _ _ => rfl) (Nat.le_of_ble_eq_true rfl) (Nat.le_of_ble_eq_true rfl) dJ7_copyOf_59c91_28 (fun H locs hP hD hS => ?_)
    rw [nI_clamp (by omega)] at hP hD
    have eC : cpo f n = va_cpy f (fun _ => 0) 0 0 n := by unfold cpo; rw [if_neg c1]
    have hP : va_P (dC, dI) vwCl [(h0, .inl (cA, 80, .inl f)), (q, .inl (cA, n, .inl (cpo f n)))] H := by rw [eC]; exact hP
    have hD : va_D A [(h0, .inl (cA, 80, .inl f)), (q, .inl (cA, n, .inl (cpo f n)))] := by rw [eC]; exact hD
    refine lv_aload_n hx hb dJ7_copyOf_59c91_31 rfl (lv_at hl 0 rfl) ?_
    exact wr_aret (w1 := fun q => [(h0, .inl (cA, 80, .inl f)), (q, .inl (cA, n, .inl (cpo f n)))]) hx hb hr (Or.inr ⟨_, rfl⟩) hlocks hK hS hP hD dJ7_copyOf_59c91_32
  · have c1 : n = 80 := (nI_eq (by omega) (by omega)).mp c1
    subst c1
    refine lv_aload_n hx hb dJ7_copyOf_59c91_6 rfl (lv_at hl 0 rfl) ?_
    refine va_clone hx hb (hml.trans hl.1.symm) hown (hts (.methodLink RJ7 316 ⟨"[I", "clone", "()Ljava/lang/Object;"⟩) (by decide +kernel)) (hts (.sameMethod "[I" "java/lang/Object" "clone" "()Ljava/lang/Object;") (by decide +kernel)) (hts (.native ⟨"java/lang/Object", "clone", "()Ljava/lang/Object;"⟩) (by decide +kernel)) (hts (.instanceMethod ⟨"java/lang/Object", "clone", "()Ljava/lang/Object;"⟩) (by decide +kernel)) (hts (.selects "[I" ⟨"[I", "clone", "()Ljava/lang/Object;"⟩ ⟨"java/lang/Object", "clone", "()Ljava/lang/Object;"⟩) (by decide +kernel)) hE.2.2.2.choose_spec.choose_spec.2.2.2.2.1 hK hP hD hS hA 0 0 rfl rfl hfc (fun i v h => cell_fits i v h) (Nat.le_of_ble_eq_true rfl) (Nat.le_of_ble_eq_true rfl) (Nat.le_of_ble_eq_true rfl) (Nat.le_of_ble_eq_true rfl) dJ7_copyOf_59c91_7 (fun q H hK9 hP hD hS => ?_)
    have eC : cpo f 80 = f := by unfold cpo; rw [if_pos rfl]
    have hP : va_P (dC, dI) vwCl [(h0, .inl (cA, 80, .inl f)), (q, .inl (cA, 80, .inl (cpo f 80)))] H := by rw [eC]; exact hP
    have hD : va_D A [(h0, .inl (cA, 80, .inl f)), (q, .inl (cA, 80, .inl (cpo f 80)))] := by rw [eC]; exact hD
    refine W.widen (k := 1) (n := 80) (by omega) (by show 0 + 80 ≤ 80; omega) ?_
    refine va_castA hx hb hown (hts (.classLink RJ7 317 "[I") (by decide +kernel)) hP 1 rfl hfc dJ7_copyOf_59c91_10 ?_
    exact wr_aret (w1 := fun q => [(h0, .inl (cA, 80, .inl f)), (q, .inl (cA, 80, .inl (cpo f 80)))]) hx hb hr (Or.inr ⟨_, rfl⟩) hlocks hK hS hP hD dJ7_copyOf_59c91_13
section WQ
variable {p : Program} {l : Launch} {e : Env} {R : Room} {s : State} {m : MethodId} {args : Array Value} {below : List Frame} {meth : Method} {c : Code} {H : Heap} {locs : List Loc} {cells slots : Nat} {Q : State → Prop}
variable {pc : Nat} {ls : Array Slot} {rest : List Value} {cc : ByteArray} {D : va_G} {cl : List vw_C} {ws : va_W} {tys : List (ClassId × FieldType)} {A : Nat → Prop} {ad : Nat}
theorem rd_aald {r : Nat} (hx : p.tables.exec = Jvm.exec) (hb : c.code = cc) (hK : va_K D cl tys s) (hP : va_P D cl ws H) (q0 t0 : Nat) {cA : ClassId} {C : String} {n : Nat} {f : Nat → Option Nat} (ha : ws[q0]? = some (ad, .inl (cA, n, .inr (.inr (.inr (.inr f)))))) (ht : tys[t0]? = some (cA, .object C)) (j : Nat) (hj : j < n) (hn : n < 2 ^ 31) (hr : f j = some r) (hdg : decode cc pc = .ok (.aaload, 1))
    (kk : W p l e R s m args below meth c H locs cells slots Q (F0 m (pc + 1) ls (.ref r :: rest))) : W p l e R s m args below meth c H locs cells slots Q (F0 m pc ls (.int (nI j) :: .ref ad :: rest)) :=
  va_aldq hx hb hK hP q0 t0 ha ht (vp_in_nI hj hn) hdg (by rw [nI_clamp (by omega), hr]; exact kk)
theorem wr_aast (hx : p.tables.exec = Jvm.exec) (hb : c.code = cc) (hK : va_K D cl tys s) (hP : va_P D cl ws H) (hD : va_D A ws) (hS : va_S A s.heap H locs) (q0 t0 qk ci : Nat) {cA : ClassId} {r : vw_C} {n v : Nat} {vs : List Value} {f : Nat → Option Nat} (ha : ws[q0]? = some (ad, .inl (cA, n, .inr (.inr (.inr (.inr f)))))) (ht : tys[t0]? = some (cA, .object r.1)) (hv : ws[qk]? = some (v, .inr (ci, vs))) (hc : cl[ci]? = some r) (j : Nat) (hj : j < n) (hn : n < 2 ^ 31) (hdg : decode cc pc = .ok (.aastore, 1))
    (kk : ∀ (H1 : Heap) (locs1 : List Loc), va_P D cl (ws.set q0 (ad, .inl (cA, n, .inr (.inr (.inr (.inr (va_up f j (some v)))))))) H1 → va_D A (ws.set q0 (ad, .inl (cA, n, .inr (.inr (.inr (.inr (va_up f j (some v)))))))) → va_S A s.heap H1 locs1 → W p l e R s m args below meth c H1 locs1 cells slots Q (F0 m (pc + 1) ls rest)) : W p l e R s m args below meth c H locs cells slots Q (F0 m pc ls (.ref v :: .int (nI j) :: .ref ad :: rest)) :=
  va_astq hx hb hK hP hD hS q0 t0 qk ci ha ht hv hc (vp_in_nI hj hn) hdg (by rw [nI_clamp (by omega)]; exact kk)
end WQ
