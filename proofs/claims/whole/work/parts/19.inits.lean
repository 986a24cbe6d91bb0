set_option maxHeartbeats 4000000 in
set_option maxRecDepth 100000 in
theorem c_X3_init (l : Launch) (dC : Nat → ClassId) (dI : Nat → Nat → Nat) (h0 : Nat) (cA : ClassId) (f1 : Int32) (zz : Nat) : Met l yX3_init wsX3_init ({ frames := 1, cells := 1, slots := 80, locals := 24 } : Room) (va_Pc [.ref h0] (wr_P (dC, dI) vwCl [(h0, .inr (4, [.null, .int f1]))] [(cA, .int)] zz)) (va_Qv (S := Nat) (fun _ => True) (wr_B (dC, dI) vwCl (fun u9 => [(h0, .inr (4, [.ref u9, .int 0])), (u9, .inl (cA, 80, .inl (fun _ => 0)))]) [(cA, .int)] (va_A [(h0, .inr (4, [.null, .int f1]))] zz)) (va_A [(h0, .inr (4, [.null, .int f1]))] zz)) 1 80 (va_A [(h0, .inr (4, [.null, .int f1]))] zz) := by
  refine Met.ofW (cc := cX3_init) (maxL := 1) (ret := none) (by decide) rfl ?_
  intro p e s m args below meth c s₁ B hml hv
  obtain ⟨rfl, hsz0, hE, hP, hK, hD0⟩ := hv
  have hx := B.exec
  have hb := B.bytes
  have hr := B.returns
  have hts := atoms_spec (ws := wsX3_init) B.pre
  have hown : s.vm.findClass RX3 = some m.cls := findClass_of_methodNamed B.named
  have hlocks := B.notSynchronized
  have hin : meth.name = "<init>" := (name_of_methodNamed B.named B.method).1
  subst hsz0
  have hD := hD0.self (sz := s.heap.size)
  generalize hAe : va_A [(h0, .inr (4, [.null, .int f1]))] s.heap.size = A at hD hE ⊢
  have hA : ∀ q : Nat, s.heap.size ≤ q → A q := fun q h => by rw [← hAe]; exact Or.inr h
  have hS : va_S A s.heap s.heap [] := va_S.rf
  have hP : va_P (dC, dI) vwCl [(h0, .inr (4, [.null, .int f1]))] s.heap := hP
  have hl := lv_entry ([.ref h0]) (n := 1) (Nat.le_of_ble_eq_true rfl)
  rw [lg_entry_eq]
  generalize (lg_sl ([.ref h0]) ++ List.replicate (1 - (lg_sl ([.ref h0])).length) Slot.unset).toArray = ls at hl ⊢
  have hl : lv_has ls 1 [(0, .ref h0)] := hl
  refine lv_aload_n hx hb dX3_init_0 rfl (lv_at hl 0 rfl) ?_
  refine W.objInit hx hb hown (hts (.methodLink RX3 3 objectInit) (by decide +kernel)) (hts (.instanceMethod objectInit) (by decide +kernel)) (hts (.code objectInit ⟨#[0xb1]⟩ 1 none) (by decide +kernel)) rfl (by rw [hml]; exact hl.1) rfl dX3_init_1 (Nat.le_of_ble_eq_true rfl) (Nat.le_of_ble_eq_true rfl) ?_
  refine W.eq (g2 := F0 m 4 ls []) rfl ?_
  refine lv_aload_n hx hb dX3_init_4 rfl (lv_at hl 0 rfl) ?_
  refine lv_bipush (v := 80) hx hb dX3_init_5 (by decide) ?_
  refine va_newa (atype := .int) (ty := .int) (a0 := (80, .inl (fun _ => 0))) (N' := 80) hx hb (hts (.arrayClass .int) (by decide +kernel)) rfl hK hP hD hS hA (fun cB => vp_cell0 cB (80)) (nI_pos (n := 80) (by omega)) (nI_clamp (n := 80) (by omega)) (show 80 * 4 ≤ 536870912 by omega) (Nat.le_of_ble_eq_true rfl) (show 0 + 80 ≤ 80 by omega) dX3_init_7 (fun q1 cB H hK9 hP hD hS => ?_)
  rw [wr_cA 0 rfl hK9] at hP hD
  have hP : va_P (dC, dI) vwCl [(h0, .inr (4, [.null, .int f1])), (q1, .inl (cA, 80, .inl (fun _ => 0)))] H := hP
  have hD : va_D A [(h0, .inr (4, [.null, .int f1])), (q1, .inl (cA, 80, .inl (fun _ => 0)))] := hD
  refine W.widen (k := 1) (n := 80) (by omega) (by omega) ?_
  refine va_putF (D := (dC, dI)) (ci := 4) (v := .ref q1) (ty := .array .int) (C := RX3) (T := TX3) (N := 2) hx hb hts (by decide +kernel) tyX3 tyX3_ok nmX3 hown hK hP hD hS 0 rfl rfl 0 (by decide) (hts (.fieldLink RX3 9 "PictureRows$Text" "characters" "[I") (by decide +kernel)) (fun _ h9 => h9) rfl hin rfl (by decide +kernel) rfl rfl (Nat.le_of_ble_eq_true rfl) dX3_init_9 (fun H locs hP hD hS => ?_)
  have hP : va_P (dC, dI) vwCl [(h0, .inr (4, [.ref q1, .int f1])), (q1, .inl (cA, 80, .inl (fun _ => 0)))] H := hP
  have hD : va_D A [(h0, .inr (4, [.ref q1, .int f1])), (q1, .inl (cA, 80, .inl (fun _ => 0)))] := hD
  refine lv_aload_n hx hb dX3_init_12 rfl (lv_at hl 0 rfl) ?_
  refine lv_iconst (v := 0) hx hb dX3_init_13 (by decide) ?_
  refine va_put (D := (dC, dI)) (ci := 4) (v := .int 0) (ty := .int) (C := RX3) (T := TX3) (N := 2) hx hb hts (by decide +kernel) tyX3 tyX3_ok nmX3 hown hK hP hD hS 0 rfl rfl 1 (by decide) (hts (.fieldLink RX3 15 "PictureRows$Text" "length" "I") (by decide +kernel)) (fun _ h9 => h9) rfl (by decide +kernel) rfl rfl (Nat.le_of_ble_eq_true rfl) dX3_init_14 (fun H locs hP hD hS => ?_)
  have hP : va_P (dC, dI) vwCl [(h0, .inr (4, [.ref q1, .int 0])), (q1, .inl (cA, 80, .inl (fun _ => 0)))] H := hP
  have hD : va_D A [(h0, .inr (4, [.ref q1, .int 0])), (q1, .inl (cA, 80, .inl (fun _ => 0)))] := hD
  refine W.widen (k := 1) (n := 80) (by omega) (by omega) ?_
  exact wr_vret q1 hx hb hr hlocks hK hS trivial hP hD dX3_init_17
set_option maxHeartbeats 4000000 in
set_option maxRecDepth 100000 in
theorem c_X2_init (l : Launch) (dC : Nat → ClassId) (dI : Nat → Nat → Nat) (h0 : Nat) (cA : ClassId) (f1 : Int32) (zz : Nat) : Met l yX2_init wsX2_init ({ frames := 1, cells := 5, slots := 400, locals := 24 } : Room) (va_Pc [.ref h0] (wr_P (dC, dI) vwCl [(h0, .inr (3, [.null, .null, .null, .null, .null, .int f1]))] [(cA, .int)] zz)) (va_Qv (S := Nat × Nat × Nat × Nat × Nat) (fun _ => True) (wr_B (dC, dI) vwCl (fun u9 => [(h0, .inr (3, [.ref u9.1, .ref u9.2.1, .ref u9.2.2.1, .ref u9.2.2.2.1, .ref u9.2.2.2.2, .int 0])), (u9.1, .inl (cA, 80, .inl (fun _ => 0))), (u9.2.1, .inl (cA, 80, .inl (fun _ => 0))), (u9.2.2.1, .inl (cA, 80, .inl (fun _ => 0))), (u9.2.2.2.1, .inl (cA, 80, .inl (fun _ => 0))), (u9.2.2.2.2, .inl (cA, 80, .inl (fun _ => 0)))]) [(cA, .int)] (va_A [(h0, .inr (3, [.null, .null, .null, .null, .null, .int f1]))] zz)) (va_A [(h0, .inr (3, [.null, .null, .null, .null, .null, .int f1]))] zz)) 5 400 (va_A [(h0, .inr (3, [.null, .null, .null, .null, .null, .int f1]))] zz) := by
  refine Met.ofW (cc := cX2_init) (maxL := 1) (ret := none) (by decide) rfl ?_
  intro p e s m args below meth c s₁ B hml hv
  obtain ⟨rfl, hsz0, hE, hP, hK, hD0⟩ := hv
  have hx := B.exec
  have hb := B.bytes
  have hr := B.returns
  have hts := atoms_spec (ws := wsX2_init) B.pre
  have hown : s.vm.findClass RX2 = some m.cls := findClass_of_methodNamed B.named
  have hlocks := B.notSynchronized
  have hin : meth.name = "<init>" := (name_of_methodNamed B.named B.method).1
  subst hsz0
  have hD := hD0.self (sz := s.heap.size)
  generalize hAe : va_A [(h0, .inr (3, [.null, .null, .null, .null, .null, .int f1]))] s.heap.size = A at hD hE ⊢
  have hA : ∀ q : Nat, s.heap.size ≤ q → A q := fun q h => by rw [← hAe]; exact Or.inr h
  have hS : va_S A s.heap s.heap [] := va_S.rf
  have hP : va_P (dC, dI) vwCl [(h0, .inr (3, [.null, .null, .null, .null, .null, .int f1]))] s.heap := hP
  have hl := lv_entry ([.ref h0]) (n := 1) (Nat.le_of_ble_eq_true rfl)
  rw [lg_entry_eq]
  generalize (lg_sl ([.ref h0]) ++ List.replicate (1 - (lg_sl ([.ref h0])).length) Slot.unset).toArray = ls at hl ⊢
  have hl : lv_has ls 1 [(0, .ref h0)] := hl
  refine lv_aload_n hx hb dX2_init_0 rfl (lv_at hl 0 rfl) ?_
  refine W.objInit hx hb hown (hts (.methodLink RX2 3 objectInit) (by decide +kernel)) (hts (.instanceMethod objectInit) (by decide +kernel)) (hts (.code objectInit ⟨#[0xb1]⟩ 1 none) (by decide +kernel)) rfl (by rw [hml]; exact hl.1) rfl dX2_init_1 (Nat.le_of_ble_eq_true rfl) (Nat.le_of_ble_eq_true rfl) ?_
  refine W.eq (g2 := F0 m 4 ls []) rfl ?_
  refine lv_aload_n hx hb dX2_init_4 rfl (lv_at hl 0 rfl) ?_
  refine lv_bipush (v := 80) hx hb dX2_init_5 (by decide) ?_
  refine va_newa (atype := .int) (ty := .int) (a0 := (80, .inl (fun _ => 0))) (N' := 80) hx hb (hts (.arrayClass .int) (by decide +kernel)) rfl hK hP hD hS hA (fun cB => vp_cell0 cB (80)) (nI_pos (n := 80) (by omega)) (nI_clamp (n := 80) (by omega)) (show 80 * 4 ≤ 536870912 by omega) (Nat.le_of_ble_eq_true rfl) (show 0 + 80 ≤ 400 by omega) dX2_init_7 (fun q1 cB H hK9 hP hD hS => ?_)
  rw [wr_cA 0 rfl hK9] at hP hD
  have hP : va_P (dC, dI) vwCl [(h0, .inr (3, [.null, .null, .null, .null, .null, .int f1])), (q1, .inl (cA, 80, .inl (fun _ => 0)))] H := hP
  have hD : va_D A [(h0, .inr (3, [.null, .null, .null, .null, .null, .int f1])), (q1, .inl (cA, 80, .inl (fun _ => 0)))] := hD
  refine W.widen (k := 1) (n := 80) (by omega) (by omega) ?_
  refine va_putF (D := (dC, dI)) (ci := 3) (v := .ref q1) (ty := .array .int) (C := RX2) (T := TX2) (N := 6) hx hb hts (by decide +kernel) tyX2 tyX2_ok nmX2 hown hK hP hD hS 0 rfl rfl 0 (by decide) (hts (.fieldLink RX2 9 "PictureRows$Runs" "signs" "[I") (by decide +kernel)) (fun _ h9 => h9) rfl hin rfl (by decide +kernel) rfl rfl (Nat.le_of_ble_eq_true rfl) dX2_init_9 (fun H locs hP hD hS => ?_)
  have hP : va_P (dC, dI) vwCl [(h0, .inr (3, [.ref q1, .null, .null, .null, .null, .int f1])), (q1, .inl (cA, 80, .inl (fun _ => 0)))] H := hP
  have hD : va_D A [(h0, .inr (3, [.ref q1, .null, .null, .null, .null, .int f1])), (q1, .inl (cA, 80, .inl (fun _ => 0)))] := hD
  refine lv_aload_n hx hb dX2_init_12 rfl (lv_at hl 0 rfl) ?_
  refine lv_bipush (v := 80) hx hb dX2_init_13 (by decide) ?_
  refine va_newa (atype := .int) (ty := .int) (a0 := (80, .inl (fun _ => 0))) (N' := 80) hx hb (hts (.arrayClass .int) (by decide +kernel)) rfl hK hP hD hS hA (fun cB => vp_cell0 cB (80)) (nI_pos (n := 80) (by omega)) (nI_clamp (n := 80) (by omega)) (show 80 * 4 ≤ 536870912 by omega) (Nat.le_of_ble_eq_true rfl) (show 80 + 80 ≤ 400 by omega) dX2_init_15 (fun q2 cB H hK9 hP hD hS => ?_)
  rw [wr_cA 0 rfl hK9] at hP hD
  have hP : va_P (dC, dI) vwCl [(h0, .inr (3, [.ref q1, .null, .null, .null, .null, .int f1])), (q1, .inl (cA, 80, .inl (fun _ => 0))), (q2, .inl (cA, 80, .inl (fun _ => 0)))] H := hP
  have hD : va_D A [(h0, .inr (3, [.ref q1, .null, .null, .null, .null, .int f1])), (q1, .inl (cA, 80, .inl (fun _ => 0))), (q2, .inl (cA, 80, .inl (fun _ => 0)))] := hD
  refine W.widen (k := 2) (n := 160) (by omega) (by omega) ?_
  refine va_putF (D := (dC, dI)) (ci := 3) (v := .ref q2) (ty := .array .int) (C := RX2) (T := TX2) (N := 6) hx hb hts (by decide +kernel) tyX2 tyX2_ok nmX2 hown hK hP hD hS 0 rfl rfl 1 (by decide) (hts (.fieldLink RX2 15 "PictureRows$Runs" "times" "[I") (by decide +kernel)) (fun _ h9 => h9) rfl hin rfl (by decide +kernel) rfl rfl (Nat.le_of_ble_eq_true rfl) dX2_init_17 (fun H locs hP hD hS => ?_)
  have hP : va_P (dC, dI) vwCl [(h0, .inr (3, [.ref q1, .ref q2, .null, .null, .null, .int f1])), (q1, .inl (cA, 80, .inl (fun _ => 0))), (q2, .inl (cA, 80, .inl (fun _ => 0)))] H := hP
  have hD : va_D A [(h0, .inr (3, [.ref q1, .ref q2, .null, .null, .null, .int f1])), (q1, .inl (cA, 80, .inl (fun _ => 0))), (q2, .inl (cA, 80, .inl (fun _ => 0)))] := hD
  refine lv_aload_n hx hb dX2_init_20 rfl (lv_at hl 0 rfl) ?_
  refine lv_bipush (v := 80) hx hb dX2_init_21 (by decide) ?_
  refine va_newa (atype := .int) (ty := .int) (a0 := (80, .inl (fun _ => 0))) (N' := 80) hx hb (hts (.arrayClass .int) (by decide +kernel)) rfl hK hP hD hS hA (fun cB => vp_cell0 cB (80)) (nI_pos (n := 80) (by omega)) (nI_clamp (n := 80) (by omega)) (show 80 * 4 ≤ 536870912 by omega) (Nat.le_of_ble_eq_true rfl) (show 160 + 80 ≤ 400 by omega) dX2_init_23 (fun q3 cB H hK9 hP hD hS => ?_)
  rw [wr_cA 0 rfl hK9] at hP hD
  have hP : va_P (dC, dI) vwCl [(h0, .inr (3, [.ref q1, .ref q2, .null, .null, .null, .int f1])), (q1, .inl (cA, 80, .inl (fun _ => 0))), (q2, .inl (cA, 80, .inl (fun _ => 0))), (q3, .inl (cA, 80, .inl (fun _ => 0)))] H := hP
  have hD : va_D A [(h0, .inr (3, [.ref q1, .ref q2, .null, .null, .null, .int f1])), (q1, .inl (cA, 80, .inl (fun _ => 0))), (q2, .inl (cA, 80, .inl (fun _ => 0))), (q3, .inl (cA, 80, .inl (fun _ => 0)))] := hD
  refine W.widen (k := 3) (n := 240) (by omega) (by omega) ?_
  refine va_putF (D := (dC, dI)) (ci := 3) (v := .ref q3) (ty := .array .int) (C := RX2) (T := TX2) (N := 6) hx hb hts (by decide +kernel) tyX2 tyX2_ok nmX2 hown hK hP hD hS 0 rfl rfl 2 (by decide) (hts (.fieldLink RX2 18 "PictureRows$Runs" "places" "[I") (by decide +kernel)) (fun _ h9 => h9) rfl hin rfl (by decide +kernel) rfl rfl (Nat.le_of_ble_eq_true rfl) dX2_init_25 (fun H locs hP hD hS => ?_)
  have hP : va_P (dC, dI) vwCl [(h0, .inr (3, [.ref q1, .ref q2, .ref q3, .null, .null, .int f1])), (q1, .inl (cA, 80, .inl (fun _ => 0))), (q2, .inl (cA, 80, .inl (fun _ => 0))), (q3, .inl (cA, 80, .inl (fun _ => 0)))] H := hP
  have hD : va_D A [(h0, .inr (3, [.ref q1, .ref q2, .ref q3, .null, .null, .int f1])), (q1, .inl (cA, 80, .inl (fun _ => 0))), (q2, .inl (cA, 80, .inl (fun _ => 0))), (q3, .inl (cA, 80, .inl (fun _ => 0)))] := hD
  refine lv_aload_n hx hb dX2_init_28 rfl (lv_at hl 0 rfl) ?_
  refine lv_bipush (v := 80) hx hb dX2_init_29 (by decide) ?_
  refine va_newa (atype := .int) (ty := .int) (a0 := (80, .inl (fun _ => 0))) (N' := 80) hx hb (hts (.arrayClass .int) (by decide +kernel)) rfl hK hP hD hS hA (fun cB => vp_cell0 cB (80)) (nI_pos (n := 80) (by omega)) (nI_clamp (n := 80) (by omega)) (show 80 * 4 ≤ 536870912 by omega) (Nat.le_of_ble_eq_true rfl) (show 240 + 80 ≤ 400 by omega) dX2_init_31 (fun q4 cB H hK9 hP hD hS => ?_)
  rw [wr_cA 0 rfl hK9] at hP hD
  have hP : va_P (dC, dI) vwCl [(h0, .inr (3, [.ref q1, .ref q2, .ref q3, .null, .null, .int f1])), (q1, .inl (cA, 80, .inl (fun _ => 0))), (q2, .inl (cA, 80, .inl (fun _ => 0))), (q3, .inl (cA, 80, .inl (fun _ => 0))), (q4, .inl (cA, 80, .inl (fun _ => 0)))] H := hP
  have hD : va_D A [(h0, .inr (3, [.ref q1, .ref q2, .ref q3, .null, .null, .int f1])), (q1, .inl (cA, 80, .inl (fun _ => 0))), (q2, .inl (cA, 80, .inl (fun _ => 0))), (q3, .inl (cA, 80, .inl (fun _ => 0))), (q4, .inl (cA, 80, .inl (fun _ => 0)))] := hD
  refine W.widen (k := 4) (n := 320) (by omega) (by omega) ?_
  refine va_putF (D := (dC, dI)) (ci := 3) (v := .ref q4) (ty := .array .int) (C := RX2) (T := TX2) (N := 6) hx hb hts (by decide +kernel) tyX2 tyX2_ok nmX2 hown hK hP hD hS 0 rfl rfl 3 (by decide) (hts (.fieldLink RX2 21 "PictureRows$Runs" "kinds" "[I") (by decide +kernel)) (fun _ h9 => h9) rfl hin rfl (by decide +kernel) rfl rfl (Nat.le_of_ble_eq_true rfl) dX2_init_33 (fun H locs hP hD hS => ?_)
  have hP : va_P (dC, dI) vwCl [(h0, .inr (3, [.ref q1, .ref q2, .ref q3, .ref q4, .null, .int f1])), (q1, .inl (cA, 80, .inl (fun _ => 0))), (q2, .inl (cA, 80, .inl (fun _ => 0))), (q3, .inl (cA, 80, .inl (fun _ => 0))), (q4, .inl (cA, 80, .inl (fun _ => 0)))] H := hP
  have hD : va_D A [(h0, .inr (3, [.ref q1, .ref q2, .ref q3, .ref q4, .null, .int f1])), (q1, .inl (cA, 80, .inl (fun _ => 0))), (q2, .inl (cA, 80, .inl (fun _ => 0))), (q3, .inl (cA, 80, .inl (fun _ => 0))), (q4, .inl (cA, 80, .inl (fun _ => 0)))] := hD
  refine lv_aload_n hx hb dX2_init_36 rfl (lv_at hl 0 rfl) ?_
  refine lv_bipush (v := 80) hx hb dX2_init_37 (by decide) ?_
  refine va_newa (atype := .int) (ty := .int) (a0 := (80, .inl (fun _ => 0))) (N' := 80) hx hb (hts (.arrayClass .int) (by decide +kernel)) rfl hK hP hD hS hA (fun cB => vp_cell0 cB (80)) (nI_pos (n := 80) (by omega)) (nI_clamp (n := 80) (by omega)) (show 80 * 4 ≤ 536870912 by omega) (Nat.le_of_ble_eq_true rfl) (show 320 + 80 ≤ 400 by omega) dX2_init_39 (fun q5 cB H hK9 hP hD hS => ?_)
  rw [wr_cA 0 rfl hK9] at hP hD
  have hP : va_P (dC, dI) vwCl [(h0, .inr (3, [.ref q1, .ref q2, .ref q3, .ref q4, .null, .int f1])), (q1, .inl (cA, 80, .inl (fun _ => 0))), (q2, .inl (cA, 80, .inl (fun _ => 0))), (q3, .inl (cA, 80, .inl (fun _ => 0))), (q4, .inl (cA, 80, .inl (fun _ => 0))), (q5, .inl (cA, 80, .inl (fun _ => 0)))] H := hP
  have hD : va_D A [(h0, .inr (3, [.ref q1, .ref q2, .ref q3, .ref q4, .null, .int f1])), (q1, .inl (cA, 80, .inl (fun _ => 0))), (q2, .inl (cA, 80, .inl (fun _ => 0))), (q3, .inl (cA, 80, .inl (fun _ => 0))), (q4, .inl (cA, 80, .inl (fun _ => 0))), (q5, .inl (cA, 80, .inl (fun _ => 0)))] := hD
  refine W.widen (k := 5) (n := 400) (by omega) (by omega) ?_
  refine va_putF (D := (dC, dI)) (ci := 3) (v := .ref q5) (ty := .array .int) (C := RX2) (T := TX2) (N := 6) hx hb hts (by decide +kernel) tyX2 tyX2_ok nmX2 hown hK hP hD hS 0 rfl rfl 4 (by decide) (hts (.fieldLink RX2 24 "PictureRows$Runs" "digitCounts" "[I") (by decide +kernel)) (fun _ h9 => h9) rfl hin rfl (by decide +kernel) rfl rfl (Nat.le_of_ble_eq_true rfl) dX2_init_41 (fun H locs hP hD hS => ?_)
  have hP : va_P (dC, dI) vwCl [(h0, .inr (3, [.ref q1, .ref q2, .ref q3, .ref q4, .ref q5, .int f1])), (q1, .inl (cA, 80, .inl (fun _ => 0))), (q2, .inl (cA, 80, .inl (fun _ => 0))), (q3, .inl (cA, 80, .inl (fun _ => 0))), (q4, .inl (cA, 80, .inl (fun _ => 0))), (q5, .inl (cA, 80, .inl (fun _ => 0)))] H := hP
  have hD : va_D A [(h0, .inr (3, [.ref q1, .ref q2, .ref q3, .ref q4, .ref q5, .int f1])), (q1, .inl (cA, 80, .inl (fun _ => 0))), (q2, .inl (cA, 80, .inl (fun _ => 0))), (q3, .inl (cA, 80, .inl (fun _ => 0))), (q4, .inl (cA, 80, .inl (fun _ => 0))), (q5, .inl (cA, 80, .inl (fun _ => 0)))] := hD
  refine lv_aload_n hx hb dX2_init_44 rfl (lv_at hl 0 rfl) ?_
  refine lv_iconst (v := 0) hx hb dX2_init_45 (by decide) ?_
  refine va_put (D := (dC, dI)) (ci := 3) (v := .int 0) (ty := .int) (C := RX2) (T := TX2) (N := 6) hx hb hts (by decide +kernel) tyX2 tyX2_ok nmX2 hown hK hP hD hS 0 rfl rfl 5 (by decide) (hts (.fieldLink RX2 27 "PictureRows$Runs" "size" "I") (by decide +kernel)) (fun _ h9 => h9) rfl (by decide +kernel) rfl rfl (Nat.le_of_ble_eq_true rfl) dX2_init_46 (fun H locs hP hD hS => ?_)
  have hP : va_P (dC, dI) vwCl [(h0, .inr (3, [.ref q1, .ref q2, .ref q3, .ref q4, .ref q5, .int 0])), (q1, .inl (cA, 80, .inl (fun _ => 0))), (q2, .inl (cA, 80, .inl (fun _ => 0))), (q3, .inl (cA, 80, .inl (fun _ => 0))), (q4, .inl (cA, 80, .inl (fun _ => 0))), (q5, .inl (cA, 80, .inl (fun _ => 0)))] H := hP
  have hD : va_D A [(h0, .inr (3, [.ref q1, .ref q2, .ref q3, .ref q4, .ref q5, .int 0])), (q1, .inl (cA, 80, .inl (fun _ => 0))), (q2, .inl (cA, 80, .inl (fun _ => 0))), (q3, .inl (cA, 80, .inl (fun _ => 0))), (q4, .inl (cA, 80, .inl (fun _ => 0))), (q5, .inl (cA, 80, .inl (fun _ => 0)))] := hD
  refine W.widen (k := 5) (n := 400) (by omega) (by omega) ?_
  exact wr_vret (q1, q2, q3, q4, q5) hx hb hr hlocks hK hS trivial hP hD dX2_init_49
set_option maxHeartbeats 4000000 in
set_option maxRecDepth 100000 in
theorem c_X0_init (l : Launch) (dC : Nat → ClassId) (dI : Nat → Nat → Nat) (h0 : Nat) (cA : ClassId) (f1 : Int32) (n : Nat) (zz : Nat) (hn : n ≤ 80) : Met l yX0_init wsX0_init ({ frames := 1, cells := 2, slots := 160, locals := 24 } : Room) (va_Pc [.ref h0, .int (nI n)] (wr_P (dC, dI) vwCl [(h0, .inr (1, [.null, .null, .int f1]))] [(cA, .int)] zz)) (va_Qv (S := Nat × Nat) (fun _ => True) (wr_B (dC, dI) vwCl (fun u9 => [(h0, .inr (1, [.ref u9.1, .ref u9.2, .int 0])), (u9.1, .inl (cA, n, .inl (fun _ => 0))), (u9.2, .inl (cA, n, .inl (fun _ => 0)))]) [(cA, .int)] (va_A [(h0, .inr (1, [.null, .null, .int f1]))] zz)) (va_A [(h0, .inr (1, [.null, .null, .int f1]))] zz)) 2 160 (va_A [(h0, .inr (1, [.null, .null, .int f1]))] zz) := by
  refine Met.ofW (cc := cX0_init) (maxL := 2) (ret := none) (by decide) rfl ?_
  intro p e s m args below meth c s₁ B hml hv
  obtain ⟨rfl, hsz0, hE, hP, hK, hD0⟩ := hv
  have hx := B.exec
  have hb := B.bytes
  have hr := B.returns
  have hts := atoms_spec (ws := wsX0_init) B.pre
  have hown : s.vm.findClass RX0 = some m.cls := findClass_of_methodNamed B.named
  have hlocks := B.notSynchronized
  have hin : meth.name = "<init>" := (name_of_methodNamed B.named B.method).1
  subst hsz0
  have hD := hD0.self (sz := s.heap.size)
  generalize hAe : va_A [(h0, .inr (1, [.null, .null, .int f1]))] s.heap.size = A at hD hE ⊢
  have hA : ∀ q : Nat, s.heap.size ≤ q → A q := fun q h => by rw [← hAe]; exact Or.inr h
  have hS : va_S A s.heap s.heap [] := va_S.rf
  have hP : va_P (dC, dI) vwCl [(h0, .inr (1, [.null, .null, .int f1]))] s.heap := hP
  have hl := lv_entry ([.ref h0, .int (nI n)]) (n := 2) (Nat.le_of_ble_eq_true rfl)
  rw [lg_entry_eq]
  generalize (lg_sl ([.ref h0, .int (nI n)]) ++ List.replicate (2 - (lg_sl ([.ref h0, .int (nI n)])).length) Slot.unset).toArray = ls at hl ⊢
  have hl : lv_has ls 2 [(0, .ref h0), (1, .int (nI n))] := hl
  refine lv_aload_n hx hb dX0_init_0 rfl (lv_at hl 0 rfl) ?_
  refine W.objInit hx hb hown (hts (.methodLink RX0 3 objectInit) (by decide +kernel)) (hts (.instanceMethod objectInit) (by decide +kernel)) (hts (.code objectInit ⟨#[0xb1]⟩ 1 none) (by decide +kernel)) rfl (by rw [hml]; exact hl.1) rfl dX0_init_1 (Nat.le_of_ble_eq_true rfl) (Nat.le_of_ble_eq_true rfl) ?_
  refine W.eq (g2 := F0 m 4 ls []) rfl ?_
  refine lv_aload_n hx hb dX0_init_4 rfl (lv_at hl 0 rfl) ?_
  refine lv_iconst (v := 0) hx hb dX0_init_5 (by decide) ?_
  refine va_put (D := (dC, dI)) (ci := 1) (v := .int 0) (ty := .int) (C := RX0) (T := TX0) (N := 3) hx hb hts (by decide +kernel) tyX0 tyX0_ok nmX0 hown hK hP hD hS 0 rfl rfl 2 (by decide) (hts (.fieldLink RX0 9 "PictureRows$Effect" "size" "I") (by decide +kernel)) (fun _ h9 => h9) rfl (by decide +kernel) rfl rfl (Nat.le_of_ble_eq_true rfl) dX0_init_6 (fun H locs hP hD hS => ?_)
  have hP : va_P (dC, dI) vwCl [(h0, .inr (1, [.null, .null, .int 0]))] H := hP
  have hD : va_D A [(h0, .inr (1, [.null, .null, .int 0]))] := hD
  refine lv_aload_n hx hb dX0_init_9 rfl (lv_at hl 0 rfl) ?_
  refine lv_iload_n hx hb dX0_init_10 rfl (lv_at hl 1 rfl) ?_
  refine lv_iconst (v := 0) hx hb dX0_init_11 (by decide) ?_
  refine va_mmax (rest := [.ref h0]) (x := nI n) (y := 0) hx hb (hml.trans hl.1.symm) hown (hts (.methodLink RX0 15 Lib.Math.max.name) (by decide +kernel)) (hts (.static Lib.Math.max.name) (by decide +kernel)) (hts (.initialized "java/lang/Math") (by decide +kernel)) (hts (.code Lib.Math.max.name Lib.Math.max.code 2 (some .int)) (by decide +kernel)) (Nat.le_of_ble_eq_true rfl) (Nat.le_of_ble_eq_true rfl) (Nat.le_of_ble_eq_true rfl) (Nat.le_of_ble_eq_true rfl) dX0_init_12 ?_
  rw [if_neg (nI_pos (n := n) (by omega))]
  refine va_newa (atype := .int) (ty := .int) (a0 := (n, .inl (fun _ => 0))) (N' := n) hx hb (hts (.arrayClass .int) (by decide +kernel)) rfl hK hP hD hS hA (fun cB => vp_cell0 cB (n)) (nI_pos (n := n) (by omega)) (nI_clamp (n := n) (by omega)) (show n * 4 ≤ 536870912 by omega) (Nat.le_of_ble_eq_true rfl) (show 0 + n ≤ 160 by omega) dX0_init_15 (fun q1 cB H hK9 hP hD hS => ?_)
  rw [wr_cA 0 rfl hK9] at hP hD
  have hP : va_P (dC, dI) vwCl [(h0, .inr (1, [.null, .null, .int 0])), (q1, .inl (cA, n, .inl (fun _ => 0)))] H := hP
  have hD : va_D A [(h0, .inr (1, [.null, .null, .int 0])), (q1, .inl (cA, n, .inl (fun _ => 0)))] := hD
  refine W.widen (k := 1) (n := 80) (by omega) (by omega) ?_
  refine va_putF (D := (dC, dI)) (ci := 1) (v := .ref q1) (ty := .array .int) (C := RX0) (T := TX0) (N := 3) hx hb hts (by decide +kernel) tyX0 tyX0_ok nmX0 hown hK hP hD hS 0 rfl rfl 0 (by decide) (hts (.fieldLink RX0 21 "PictureRows$Effect" "signs" "[I") (by decide +kernel)) (fun _ h9 => h9) rfl hin rfl (by decide +kernel) rfl rfl (Nat.le_of_ble_eq_true rfl) dX0_init_17 (fun H locs hP hD hS => ?_)
  have hP : va_P (dC, dI) vwCl [(h0, .inr (1, [.ref q1, .null, .int 0])), (q1, .inl (cA, n, .inl (fun _ => 0)))] H := hP
  have hD : va_D A [(h0, .inr (1, [.ref q1, .null, .int 0])), (q1, .inl (cA, n, .inl (fun _ => 0)))] := hD
  refine lv_aload_n hx hb dX0_init_20 rfl (lv_at hl 0 rfl) ?_
  refine lv_iload_n hx hb dX0_init_21 rfl (lv_at hl 1 rfl) ?_
  refine lv_iconst (v := 0) hx hb dX0_init_22 (by decide) ?_
  refine va_mmax (rest := [.ref h0]) (x := nI n) (y := 0) hx hb (hml.trans hl.1.symm) hown (hts (.methodLink RX0 15 Lib.Math.max.name) (by decide +kernel)) (hts (.static Lib.Math.max.name) (by decide +kernel)) (hts (.initialized "java/lang/Math") (by decide +kernel)) (hts (.code Lib.Math.max.name Lib.Math.max.code 2 (some .int)) (by decide +kernel)) (Nat.le_of_ble_eq_true rfl) (Nat.le_of_ble_eq_true rfl) (Nat.le_of_ble_eq_true rfl) (Nat.le_of_ble_eq_true rfl) dX0_init_23 ?_
  rw [if_neg (nI_pos (n := n) (by omega))]
  refine va_newa (atype := .int) (ty := .int) (a0 := (n, .inl (fun _ => 0))) (N' := n) hx hb (hts (.arrayClass .int) (by decide +kernel)) rfl hK hP hD hS hA (fun cB => vp_cell0 cB (n)) (nI_pos (n := n) (by omega)) (nI_clamp (n := n) (by omega)) (show n * 4 ≤ 536870912 by omega) (Nat.le_of_ble_eq_true rfl) (show 80 + n ≤ 160 by omega) dX0_init_26 (fun q2 cB H hK9 hP hD hS => ?_)
  rw [wr_cA 0 rfl hK9] at hP hD
  have hP : va_P (dC, dI) vwCl [(h0, .inr (1, [.ref q1, .null, .int 0])), (q1, .inl (cA, n, .inl (fun _ => 0))), (q2, .inl (cA, n, .inl (fun _ => 0)))] H := hP
  have hD : va_D A [(h0, .inr (1, [.ref q1, .null, .int 0])), (q1, .inl (cA, n, .inl (fun _ => 0))), (q2, .inl (cA, n, .inl (fun _ => 0)))] := hD
  refine W.widen (k := 2) (n := 160) (by omega) (by omega) ?_
  refine va_putF (D := (dC, dI)) (ci := 1) (v := .ref q2) (ty := .array .int) (C := RX0) (T := TX0) (N := 3) hx hb hts (by decide +kernel) tyX0 tyX0_ok nmX0 hown hK hP hD hS 0 rfl rfl 1 (by decide) (hts (.fieldLink RX0 25 "PictureRows$Effect" "times" "[I") (by decide +kernel)) (fun _ h9 => h9) rfl hin rfl (by decide +kernel) rfl rfl (Nat.le_of_ble_eq_true rfl) dX0_init_28 (fun H locs hP hD hS => ?_)
  have hP : va_P (dC, dI) vwCl [(h0, .inr (1, [.ref q1, .ref q2, .int 0])), (q1, .inl (cA, n, .inl (fun _ => 0))), (q2, .inl (cA, n, .inl (fun _ => 0)))] H := hP
  have hD : va_D A [(h0, .inr (1, [.ref q1, .ref q2, .int 0])), (q1, .inl (cA, n, .inl (fun _ => 0))), (q2, .inl (cA, n, .inl (fun _ => 0)))] := hD
  refine W.widen (k := 2) (n := 160) (by omega) (by omega) ?_
  exact wr_vret (q1, q2) hx hb hr hlocks hK hS trivial hP hD dX0_init_31
set_option maxHeartbeats 4000000 in
set_option maxRecDepth 100000 in
theorem c_X4_init (l : Launch) (dC : Nat → ClassId) (dI : Nat → Nat → Nat) (h0 : Nat) (cA : ClassId) (cP : ClassId) (f1 : Int32) (f2 : Int32) (zz : Nat) : Met l yX4_init wsX4_init ({ frames := 2, cells := 9, slots := 528, locals := 44 } : Room) (va_Pc [.ref h0] (wr_P (dC, dI) vwCl [(h0, .inr (5, [.null, .null, .null, .int f1, .null, .int f2]))] [(cA, .int), (cP, .object "PictureRows$Picture")] zz)) (va_Qv (S := Nat × Nat × Nat × Nat × Nat × Nat × Nat × Nat × Nat) (fun _ => True) (wr_B (dC, dI) vwCl (fun u9 => [(h0, .inr (5, [.ref u9.1, .ref u9.2.2.1, .ref u9.2.2.2.2.2.2.2.2, .int 0, .null, .int 36])), (u9.1, .inr (4, [.ref u9.2.1, .int 0])), (u9.2.1, .inl (cA, 80, .inl (fun _ => 0))), (u9.2.2.1, .inr (3, [.ref u9.2.2.2.1, .ref u9.2.2.2.2.1, .ref u9.2.2.2.2.2.1, .ref u9.2.2.2.2.2.2.1, .ref u9.2.2.2.2.2.2.2.1, .int 0])), (u9.2.2.2.1, .inl (cA, 80, .inl (fun _ => 0))), (u9.2.2.2.2.1, .inl (cA, 80, .inl (fun _ => 0))), (u9.2.2.2.2.2.1, .inl (cA, 80, .inl (fun _ => 0))), (u9.2.2.2.2.2.2.1, .inl (cA, 80, .inl (fun _ => 0))), (u9.2.2.2.2.2.2.2.1, .inl (cA, 80, .inl (fun _ => 0))), (u9.2.2.2.2.2.2.2.2, .inl (cP, 40, .inr (.inr (.inr (.inr (fun _ => none))))))]) [(cA, .int), (cP, .object "PictureRows$Picture")] (va_A [(h0, .inr (5, [.null, .null, .null, .int f1, .null, .int f2]))] zz)) (va_A [(h0, .inr (5, [.null, .null, .null, .int f1, .null, .int f2]))] zz)) 9 528 (va_A [(h0, .inr (5, [.null, .null, .null, .int f1, .null, .int f2]))] zz) := by
  refine Met.ofW (cc := cX4_init) (maxL := 1) (ret := none) (by decide) rfl ?_
  intro p e s m args below meth c s₁ B hml hv
  obtain ⟨rfl, hsz0, hE, hP, hK, hD0⟩ := hv
  have hx := B.exec
  have hb := B.bytes
  have hr := B.returns
  have hts := atoms_spec (ws := wsX4_init) B.pre
  have hown : s.vm.findClass RX4 = some m.cls := findClass_of_methodNamed B.named
  have hlocks := B.notSynchronized
  have hin : meth.name = "<init>" := (name_of_methodNamed B.named B.method).1
  subst hsz0
  have hD := hD0.self (sz := s.heap.size)
  generalize hAe : va_A [(h0, .inr (5, [.null, .null, .null, .int f1, .null, .int f2]))] s.heap.size = A at hD hE ⊢
  have hA : ∀ q : Nat, s.heap.size ≤ q → A q := fun q h => by rw [← hAe]; exact Or.inr h
  have hS : va_S A s.heap s.heap [] := va_S.rf
  have hP : va_P (dC, dI) vwCl [(h0, .inr (5, [.null, .null, .null, .int f1, .null, .int f2]))] s.heap := hP
  have hl := lv_entry ([.ref h0]) (n := 1) (Nat.le_of_ble_eq_true rfl)
  rw [lg_entry_eq]
  generalize (lg_sl ([.ref h0]) ++ List.replicate (1 - (lg_sl ([.ref h0])).length) Slot.unset).toArray = ls at hl ⊢
  have hl : lv_has ls 1 [(0, .ref h0)] := hl
  refine lv_aload_n hx hb dX4_init_0 rfl (lv_at hl 0 rfl) ?_
  refine W.objInit hx hb hown (hts (.methodLink RX4 3 objectInit) (by decide +kernel)) (hts (.instanceMethod objectInit) (by decide +kernel)) (hts (.code objectInit ⟨#[0xb1]⟩ 1 none) (by decide +kernel)) rfl (by rw [hml]; exact hl.1) rfl dX4_init_1 (Nat.le_of_ble_eq_true rfl) (Nat.le_of_ble_eq_true rfl) ?_
  refine W.eq (g2 := F0 m 4 ls []) rfl ?_
  refine lv_aload_n hx hb dX4_init_4 rfl (lv_at hl 0 rfl) ?_
  refine va_new (ci := 4) (fs := [.null, .int 0]) (C := RX3) (T := TX3) (N := 2) hx hb hts (by decide +kernel) tyX3 tyX3_ok hown (hts (.classLink RX4 9 RX3) (by decide +kernel)) (hts (.instantiable RX3 2) (by decide +kernel)) (hts (.initialized RX3) (by decide +kernel)) hK hP hD hS hA rfl (fun j hj => by rcases (show j = 0 ∨ j = 1 by omega) with rfl | rfl <;> rfl) (Nat.le_of_ble_eq_true rfl) (Nat.le_of_ble_eq_true rfl) dX4_init_5 (fun q1 H hP hD hS => ?_)
  have hP : va_P (dC, dI) vwCl [(h0, .inr (5, [.null, .null, .null, .int f1, .null, .int f2])), (q1, .inr (4, [.null, .int 0]))] H := hP
  have hD : va_D A [(h0, .inr (5, [.null, .null, .null, .int f1, .null, .int f2])), (q1, .inr (4, [.null, .int 0]))] := hD
  refine W.widen (k := 1) (n := 2) (by omega) (by omega) ?_
  refine lv_dup hx hb dX4_init_8 rfl ?_
  have hFc := va_free (wc := [(q1, .inr (4, [.null, .int 0]))]) hD hS hA [1] rfl
  refine wr_goV (wr := [(h0, .inr (5, [.null, .null, .null, .int f1, .null, .int f2]))]) (w1 := fun (u9 : Nat) => [(q1, .inr (4, [.ref u9, .int 0])), (u9, .inl (cA, 80, .inl (fun _ => 0)))]) (va_runIN (As := []) (rest := [.ref q1, .ref h0]) ⟨hx, hb, hml, hown, hts⟩ (c_X3_init l dC dI q1 cA 0 H.size ) ⟨va_cnB 0 hts gX4_init_X3_init_n11 rfl rfl rfl (hE.1.2 ("PictureRows", 11, yX3_init) (by decide)) (hts (.initialized RX3) (by decide +kernel)) (by decide +kernel) ⟨Nat.le_of_ble_eq_true rfl, Nat.le_of_ble_eq_true rfl⟩, rfl, hts (.instanceMethod yX3_init) (by decide +kernel)⟩ ⟨wr_blind, (wr_pre hE hS hFc (hP.sub [1] rfl) (hK.sub (tys' := [(cA, .int)]) [0] rfl) (hD.sub (ws' := [(q1, .inr (4, [.null, .int 0]))]) [1] (by decide) rfl))⟩ rfl rfl hl.1 rfl (lv_room (Nat.le_of_ble_eq_true rfl)) dX4_init_9 ⟨Nat.le_of_ble_eq_true rfl, Nat.le_of_ble_eq_true rfl⟩) hP hD hS hFc [1] [0] rfl rfl (by decide) (by decide) (fun u9 H locs hw9 hP hD hS => ?_)
  obtain ⟨q2, rfl⟩ : ∃ z_, z_ = u9 := ⟨_, rfl⟩
  have hP := hP.sub (ws' := [(h0, .inr (5, [.null, .null, .null, .int f1, .null, .int f2])), (q1, .inr (4, [.ref q2, .int 0])), (q2, .inl (cA, 80, .inl (fun _ => 0)))]) [0, 1, 2] rfl
  have hD := hD.sub (ws' := [(h0, .inr (5, [.null, .null, .null, .int f1, .null, .int f2])), (q1, .inr (4, [.ref q2, .int 0])), (q2, .inl (cA, 80, .inl (fun _ => 0)))]) [0, 1, 2] (by decide) rfl
  refine W.widen (k := 2) (n := 82) (by omega) (by omega) ?_
  refine va_putF (D := (dC, dI)) (ci := 5) (v := .ref q1) (ty := .object "PictureRows$Text") (C := RX4) (T := TX4) (N := 6) hx hb hts (by decide +kernel) tyX4 tyX4_ok nmX4 hown hK hP hD hS 0 rfl rfl 0 (by decide) (hts (.fieldLink RX4 12 "PictureRows" "text" "LPictureRows$Text;") (by decide +kernel)) (fun _ h9 => h9) rfl hin rfl (by decide +kernel) rfl rfl (Nat.le_of_ble_eq_true rfl) dX4_init_12 (fun H locs hP hD hS => ?_)
  have hP : va_P (dC, dI) vwCl [(h0, .inr (5, [.ref q1, .null, .null, .int f1, .null, .int f2])), (q1, .inr (4, [.ref q2, .int 0])), (q2, .inl (cA, 80, .inl (fun _ => 0)))] H := hP
  have hD : va_D A [(h0, .inr (5, [.ref q1, .null, .null, .int f1, .null, .int f2])), (q1, .inr (4, [.ref q2, .int 0])), (q2, .inl (cA, 80, .inl (fun _ => 0)))] := hD
  refine lv_aload_n hx hb dX4_init_15 rfl (lv_at hl 0 rfl) ?_
  refine va_new (ci := 3) (fs := [.null, .null, .null, .null, .null, .int 0]) (C := RX2) (T := TX2) (N := 6) hx hb hts (by decide +kernel) tyX2 tyX2_ok hown (hts (.classLink RX4 16 RX2) (by decide +kernel)) (hts (.instantiable RX2 6) (by decide +kernel)) (hts (.initialized RX2) (by decide +kernel)) hK hP hD hS hA rfl (fun j hj => by rcases (show j = 0 ∨ j = 1 ∨ j = 2 ∨ j = 3 ∨ j = 4 ∨ j = 5 by omega) with rfl | rfl | rfl | rfl | rfl | rfl <;> rfl) (Nat.le_of_ble_eq_true rfl) (Nat.le_of_ble_eq_true rfl) dX4_init_16 (fun q3 H hP hD hS => ?_)
  have hP : va_P (dC, dI) vwCl [(h0, .inr (5, [.ref q1, .null, .null, .int f1, .null, .int f2])), (q1, .inr (4, [.ref q2, .int 0])), (q2, .inl (cA, 80, .inl (fun _ => 0))), (q3, .inr (3, [.null, .null, .null, .null, .null, .int 0]))] H := hP
  have hD : va_D A [(h0, .inr (5, [.ref q1, .null, .null, .int f1, .null, .int f2])), (q1, .inr (4, [.ref q2, .int 0])), (q2, .inl (cA, 80, .inl (fun _ => 0))), (q3, .inr (3, [.null, .null, .null, .null, .null, .int 0]))] := hD
  refine W.widen (k := 3) (n := 88) (by omega) (by omega) ?_
  refine lv_dup hx hb dX4_init_19 rfl ?_
  have hFc := va_free (wc := [(q3, .inr (3, [.null, .null, .null, .null, .null, .int 0]))]) hD hS hA [3] rfl
  refine wr_goV (wr := [(h0, .inr (5, [.ref q1, .null, .null, .int f1, .null, .int f2])), (q1, .inr (4, [.ref q2, .int 0])), (q2, .inl (cA, 80, .inl (fun _ => 0)))]) (w1 := fun (u9 : Nat × Nat × Nat × Nat × Nat) => [(q3, .inr (3, [.ref u9.1, .ref u9.2.1, .ref u9.2.2.1, .ref u9.2.2.2.1, .ref u9.2.2.2.2, .int 0])), (u9.1, .inl (cA, 80, .inl (fun _ => 0))), (u9.2.1, .inl (cA, 80, .inl (fun _ => 0))), (u9.2.2.1, .inl (cA, 80, .inl (fun _ => 0))), (u9.2.2.2.1, .inl (cA, 80, .inl (fun _ => 0))), (u9.2.2.2.2, .inl (cA, 80, .inl (fun _ => 0)))]) (va_runIN (As := []) (rest := [.ref q3, .ref h0]) ⟨hx, hb, hml, hown, hts⟩ (c_X2_init l dC dI q3 cA 0 H.size ) ⟨va_cnB 0 hts gX4_init_X2_init_n18 rfl rfl rfl (hE.1.2 ("PictureRows", 18, yX2_init) (by decide)) (hts (.initialized RX2) (by decide +kernel)) (by decide +kernel) ⟨Nat.le_of_ble_eq_true rfl, Nat.le_of_ble_eq_true rfl⟩, rfl, hts (.instanceMethod yX2_init) (by decide +kernel)⟩ ⟨wr_blind, (wr_pre hE hS hFc (hP.sub [3] rfl) (hK.sub (tys' := [(cA, .int)]) [0] rfl) (hD.sub (ws' := [(q3, .inr (3, [.null, .null, .null, .null, .null, .int 0]))]) [3] (by decide) rfl))⟩ rfl rfl hl.1 rfl (lv_room (Nat.le_of_ble_eq_true rfl)) dX4_init_20 ⟨Nat.le_of_ble_eq_true rfl, Nat.le_of_ble_eq_true rfl⟩) hP hD hS hFc [3] [0, 1, 2] rfl rfl (by decide) (by decide) (fun u9 H locs hw9 hP hD hS => ?_)
  obtain ⟨q4, q5, q6, q7, q8⟩ := u9
  have hP := hP.sub (ws' := [(h0, .inr (5, [.ref q1, .null, .null, .int f1, .null, .int f2])), (q1, .inr (4, [.ref q2, .int 0])), (q2, .inl (cA, 80, .inl (fun _ => 0))), (q3, .inr (3, [.ref q4, .ref q5, .ref q6, .ref q7, .ref q8, .int 0])), (q4, .inl (cA, 80, .inl (fun _ => 0))), (q5, .inl (cA, 80, .inl (fun _ => 0))), (q6, .inl (cA, 80, .inl (fun _ => 0))), (q7, .inl (cA, 80, .inl (fun _ => 0))), (q8, .inl (cA, 80, .inl (fun _ => 0)))]) [0, 1, 2, 3, 4, 5, 6, 7, 8] rfl
  have hD := hD.sub (ws' := [(h0, .inr (5, [.ref q1, .null, .null, .int f1, .null, .int f2])), (q1, .inr (4, [.ref q2, .int 0])), (q2, .inl (cA, 80, .inl (fun _ => 0))), (q3, .inr (3, [.ref q4, .ref q5, .ref q6, .ref q7, .ref q8, .int 0])), (q4, .inl (cA, 80, .inl (fun _ => 0))), (q5, .inl (cA, 80, .inl (fun _ => 0))), (q6, .inl (cA, 80, .inl (fun _ => 0))), (q7, .inl (cA, 80, .inl (fun _ => 0))), (q8, .inl (cA, 80, .inl (fun _ => 0)))]) [0, 1, 2, 3, 4, 5, 6, 7, 8] (by decide) rfl
  refine W.widen (k := 8) (n := 488) (by omega) (by omega) ?_
  refine va_putF (D := (dC, dI)) (ci := 5) (v := .ref q3) (ty := .object "PictureRows$Runs") (C := RX4) (T := TX4) (N := 6) hx hb hts (by decide +kernel) tyX4 tyX4_ok nmX4 hown hK hP hD hS 0 rfl rfl 1 (by decide) (hts (.fieldLink RX4 19 "PictureRows" "runs" "LPictureRows$Runs;") (by decide +kernel)) (fun _ h9 => h9) rfl hin rfl (by decide +kernel) rfl rfl (Nat.le_of_ble_eq_true rfl) dX4_init_23 (fun H locs hP hD hS => ?_)
  have hP : va_P (dC, dI) vwCl [(h0, .inr (5, [.ref q1, .ref q3, .null, .int f1, .null, .int f2])), (q1, .inr (4, [.ref q2, .int 0])), (q2, .inl (cA, 80, .inl (fun _ => 0))), (q3, .inr (3, [.ref q4, .ref q5, .ref q6, .ref q7, .ref q8, .int 0])), (q4, .inl (cA, 80, .inl (fun _ => 0))), (q5, .inl (cA, 80, .inl (fun _ => 0))), (q6, .inl (cA, 80, .inl (fun _ => 0))), (q7, .inl (cA, 80, .inl (fun _ => 0))), (q8, .inl (cA, 80, .inl (fun _ => 0)))] H := hP
  have hD : va_D A [(h0, .inr (5, [.ref q1, .ref q3, .null, .int f1, .null, .int f2])), (q1, .inr (4, [.ref q2, .int 0])), (q2, .inl (cA, 80, .inl (fun _ => 0))), (q3, .inr (3, [.ref q4, .ref q5, .ref q6, .ref q7, .ref q8, .int 0])), (q4, .inl (cA, 80, .inl (fun _ => 0))), (q5, .inl (cA, 80, .inl (fun _ => 0))), (q6, .inl (cA, 80, .inl (fun _ => 0))), (q7, .inl (cA, 80, .inl (fun _ => 0))), (q8, .inl (cA, 80, .inl (fun _ => 0)))] := hD
  refine lv_aload_n hx hb dX4_init_26 rfl (lv_at hl 0 rfl) ?_
  refine lv_bipush (v := 40) hx hb dX4_init_27 (by decide) ?_
  refine va_newq (N' := 40) hx hb hown (hts (.classLink RX4 23 RX1) (by decide +kernel)) hE.2.2.2.choose_spec.choose_spec.2.2.2.2.2 hK hP hD hS hA (nI_pos (n := 40) (by omega)) (nI_clamp (n := 40) (by omega)) (by decide) (Nat.le_of_ble_eq_true rfl) (Nat.le_of_ble_eq_true rfl) dX4_init_29 (fun q9 cB H hK9 hP hD hS => ?_)
  rw [wr_cP 1 rfl hK9] at hP hD
  have hP : va_P (dC, dI) vwCl [(h0, .inr (5, [.ref q1, .ref q3, .null, .int f1, .null, .int f2])), (q1, .inr (4, [.ref q2, .int 0])), (q2, .inl (cA, 80, .inl (fun _ => 0))), (q3, .inr (3, [.ref q4, .ref q5, .ref q6, .ref q7, .ref q8, .int 0])), (q4, .inl (cA, 80, .inl (fun _ => 0))), (q5, .inl (cA, 80, .inl (fun _ => 0))), (q6, .inl (cA, 80, .inl (fun _ => 0))), (q7, .inl (cA, 80, .inl (fun _ => 0))), (q8, .inl (cA, 80, .inl (fun _ => 0))), (q9, .inl (cP, 40, .inr (.inr (.inr (.inr (fun _ => none))))))] H := hP
  have hD : va_D A [(h0, .inr (5, [.ref q1, .ref q3, .null, .int f1, .null, .int f2])), (q1, .inr (4, [.ref q2, .int 0])), (q2, .inl (cA, 80, .inl (fun _ => 0))), (q3, .inr (3, [.ref q4, .ref q5, .ref q6, .ref q7, .ref q8, .int 0])), (q4, .inl (cA, 80, .inl (fun _ => 0))), (q5, .inl (cA, 80, .inl (fun _ => 0))), (q6, .inl (cA, 80, .inl (fun _ => 0))), (q7, .inl (cA, 80, .inl (fun _ => 0))), (q8, .inl (cA, 80, .inl (fun _ => 0))), (q9, .inl (cP, 40, .inr (.inr (.inr (.inr (fun _ => none))))))] := hD
  refine W.widen (k := 9) (n := 528) (by omega) (by omega) ?_
  refine va_putF (D := (dC, dI)) (ci := 5) (v := .ref q9) (ty := .array (.object "PictureRows$Picture")) (C := RX4) (T := TX4) (N := 6) hx hb hts (by decide +kernel) tyX4 tyX4_ok nmX4 hown hK hP hD hS 0 rfl rfl 2 (by decide) (hts (.fieldLink RX4 25 "PictureRows" "kept" "[LPictureRows$Picture;") (by decide +kernel)) (fun _ h9 => h9) rfl hin rfl (by decide +kernel) rfl rfl (Nat.le_of_ble_eq_true rfl) dX4_init_32 (fun H locs hP hD hS => ?_)
  have hP : va_P (dC, dI) vwCl [(h0, .inr (5, [.ref q1, .ref q3, .ref q9, .int f1, .null, .int f2])), (q1, .inr (4, [.ref q2, .int 0])), (q2, .inl (cA, 80, .inl (fun _ => 0))), (q3, .inr (3, [.ref q4, .ref q5, .ref q6, .ref q7, .ref q8, .int 0])), (q4, .inl (cA, 80, .inl (fun _ => 0))), (q5, .inl (cA, 80, .inl (fun _ => 0))), (q6, .inl (cA, 80, .inl (fun _ => 0))), (q7, .inl (cA, 80, .inl (fun _ => 0))), (q8, .inl (cA, 80, .inl (fun _ => 0))), (q9, .inl (cP, 40, .inr (.inr (.inr (.inr (fun _ => none))))))] H := hP
  have hD : va_D A [(h0, .inr (5, [.ref q1, .ref q3, .ref q9, .int f1, .null, .int f2])), (q1, .inr (4, [.ref q2, .int 0])), (q2, .inl (cA, 80, .inl (fun _ => 0))), (q3, .inr (3, [.ref q4, .ref q5, .ref q6, .ref q7, .ref q8, .int 0])), (q4, .inl (cA, 80, .inl (fun _ => 0))), (q5, .inl (cA, 80, .inl (fun _ => 0))), (q6, .inl (cA, 80, .inl (fun _ => 0))), (q7, .inl (cA, 80, .inl (fun _ => 0))), (q8, .inl (cA, 80, .inl (fun _ => 0))), (q9, .inl (cP, 40, .inr (.inr (.inr (.inr (fun _ => none))))))] := hD
  refine lv_aload_n hx hb dX4_init_35 rfl (lv_at hl 0 rfl) ?_
  refine lv_iconst (v := 0) hx hb dX4_init_36 (by decide) ?_
  refine va_put (D := (dC, dI)) (ci := 5) (v := .int 0) (ty := .int) (C := RX4) (T := TX4) (N := 6) hx hb hts (by decide +kernel) tyX4 tyX4_ok nmX4 hown hK hP hD hS 0 rfl rfl 3 (by decide) (hts (.fieldLink RX4 29 "PictureRows" "keptCount" "I") (by decide +kernel)) (fun _ h9 => h9) rfl (by decide +kernel) rfl rfl (Nat.le_of_ble_eq_true rfl) dX4_init_37 (fun H locs hP hD hS => ?_)
  have hP : va_P (dC, dI) vwCl [(h0, .inr (5, [.ref q1, .ref q3, .ref q9, .int 0, .null, .int f2])), (q1, .inr (4, [.ref q2, .int 0])), (q2, .inl (cA, 80, .inl (fun _ => 0))), (q3, .inr (3, [.ref q4, .ref q5, .ref q6, .ref q7, .ref q8, .int 0])), (q4, .inl (cA, 80, .inl (fun _ => 0))), (q5, .inl (cA, 80, .inl (fun _ => 0))), (q6, .inl (cA, 80, .inl (fun _ => 0))), (q7, .inl (cA, 80, .inl (fun _ => 0))), (q8, .inl (cA, 80, .inl (fun _ => 0))), (q9, .inl (cP, 40, .inr (.inr (.inr (.inr (fun _ => none))))))] H := hP
  have hD : va_D A [(h0, .inr (5, [.ref q1, .ref q3, .ref q9, .int 0, .null, .int f2])), (q1, .inr (4, [.ref q2, .int 0])), (q2, .inl (cA, 80, .inl (fun _ => 0))), (q3, .inr (3, [.ref q4, .ref q5, .ref q6, .ref q7, .ref q8, .int 0])), (q4, .inl (cA, 80, .inl (fun _ => 0))), (q5, .inl (cA, 80, .inl (fun _ => 0))), (q6, .inl (cA, 80, .inl (fun _ => 0))), (q7, .inl (cA, 80, .inl (fun _ => 0))), (q8, .inl (cA, 80, .inl (fun _ => 0))), (q9, .inl (cP, 40, .inr (.inr (.inr (.inr (fun _ => none))))))] := hD
  refine lv_aload_n hx hb dX4_init_40 rfl (lv_at hl 0 rfl) ?_
  refine lv_null hx hb dX4_init_41 ?_
  refine va_put (D := (dC, dI)) (ci := 5) (v := .null) (ty := .object "PictureRows$Picture") (C := RX4) (T := TX4) (N := 6) hx hb hts (by decide +kernel) tyX4 tyX4_ok nmX4 hown hK hP hD hS 0 rfl rfl 4 (by decide) (hts (.fieldLink RX4 33 "PictureRows" "latest" "LPictureRows$Picture;") (by decide +kernel)) (fun _ h9 => h9) rfl (by decide +kernel) rfl rfl (Nat.le_of_ble_eq_true rfl) dX4_init_42 (fun H locs hP hD hS => ?_)
  have hP : va_P (dC, dI) vwCl [(h0, .inr (5, [.ref q1, .ref q3, .ref q9, .int 0, .null, .int f2])), (q1, .inr (4, [.ref q2, .int 0])), (q2, .inl (cA, 80, .inl (fun _ => 0))), (q3, .inr (3, [.ref q4, .ref q5, .ref q6, .ref q7, .ref q8, .int 0])), (q4, .inl (cA, 80, .inl (fun _ => 0))), (q5, .inl (cA, 80, .inl (fun _ => 0))), (q6, .inl (cA, 80, .inl (fun _ => 0))), (q7, .inl (cA, 80, .inl (fun _ => 0))), (q8, .inl (cA, 80, .inl (fun _ => 0))), (q9, .inl (cP, 40, .inr (.inr (.inr (.inr (fun _ => none))))))] H := hP
  have hD : va_D A [(h0, .inr (5, [.ref q1, .ref q3, .ref q9, .int 0, .null, .int f2])), (q1, .inr (4, [.ref q2, .int 0])), (q2, .inl (cA, 80, .inl (fun _ => 0))), (q3, .inr (3, [.ref q4, .ref q5, .ref q6, .ref q7, .ref q8, .int 0])), (q4, .inl (cA, 80, .inl (fun _ => 0))), (q5, .inl (cA, 80, .inl (fun _ => 0))), (q6, .inl (cA, 80, .inl (fun _ => 0))), (q7, .inl (cA, 80, .inl (fun _ => 0))), (q8, .inl (cA, 80, .inl (fun _ => 0))), (q9, .inl (cP, 40, .inr (.inr (.inr (.inr (fun _ => none))))))] := hD
  refine lv_aload_n hx hb dX4_init_45 rfl (lv_at hl 0 rfl) ?_
  refine lv_bipush (v := 36) hx hb dX4_init_46 (by decide) ?_
  refine va_put (D := (dC, dI)) (ci := 5) (v := .int 36) (ty := .int) (C := RX4) (T := TX4) (N := 6) hx hb hts (by decide +kernel) tyX4 tyX4_ok nmX4 hown hK hP hD hS 0 rfl rfl 5 (by decide) (hts (.fieldLink RX4 37 "PictureRows" "currencySign" "I") (by decide +kernel)) (fun _ h9 => h9) rfl (by decide +kernel) rfl rfl (Nat.le_of_ble_eq_true rfl) dX4_init_48 (fun H locs hP hD hS => ?_)
  have hP : va_P (dC, dI) vwCl [(h0, .inr (5, [.ref q1, .ref q3, .ref q9, .int 0, .null, .int 36])), (q1, .inr (4, [.ref q2, .int 0])), (q2, .inl (cA, 80, .inl (fun _ => 0))), (q3, .inr (3, [.ref q4, .ref q5, .ref q6, .ref q7, .ref q8, .int 0])), (q4, .inl (cA, 80, .inl (fun _ => 0))), (q5, .inl (cA, 80, .inl (fun _ => 0))), (q6, .inl (cA, 80, .inl (fun _ => 0))), (q7, .inl (cA, 80, .inl (fun _ => 0))), (q8, .inl (cA, 80, .inl (fun _ => 0))), (q9, .inl (cP, 40, .inr (.inr (.inr (.inr (fun _ => none))))))] H := hP
  have hD : va_D A [(h0, .inr (5, [.ref q1, .ref q3, .ref q9, .int 0, .null, .int 36])), (q1, .inr (4, [.ref q2, .int 0])), (q2, .inl (cA, 80, .inl (fun _ => 0))), (q3, .inr (3, [.ref q4, .ref q5, .ref q6, .ref q7, .ref q8, .int 0])), (q4, .inl (cA, 80, .inl (fun _ => 0))), (q5, .inl (cA, 80, .inl (fun _ => 0))), (q6, .inl (cA, 80, .inl (fun _ => 0))), (q7, .inl (cA, 80, .inl (fun _ => 0))), (q8, .inl (cA, 80, .inl (fun _ => 0))), (q9, .inl (cP, 40, .inr (.inr (.inr (.inr (fun _ => none))))))] := hD
  refine W.widen (k := 9) (n := 528) (by omega) (by omega) ?_
  exact wr_vret (q1, q2, q3, q4, q5, q6, q7, q8, q9) hx hb hr hlocks hK hS trivial hP hD dX4_init_51
