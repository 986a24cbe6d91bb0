def m_X3_append_j41_s0 (ch : Int32) : Int32 := if ch < 1 then 0 else (if 126 < ch then 0 else ch)
def m_X3_append (cs : Nat → Int32) (len : Nat) (ch : Int32) : (Nat → Int32) × Nat := if len < 80 then ((upd cs len (m_X3_append_j41_s0 ch), len + 1)) else ((cs, len))
set_option maxHeartbeats 4000000 in
set_option maxRecDepth 100000 in
theorem c_X3_append (l : Launch) (dC : Nat → ClassId) (dI : Nat → Nat → Nat) (h0 : Nat) (h1 : Nat) (cA : ClassId) (cs : Nat → Int32) (len : Nat) (ch : Int32) (zz : Nat) (hlen : len ≤ 80) : Met l yX3_append wsX3_append ({ frames := 0, cells := 0, slots := 0, locals := 0 } : Room) (va_Pc [.ref h0, .int ch] (wr_P (dC, dI) vwCl [(h0, .inr (4, [.ref h1, .int (nI len)])), (h1, .inl (cA, 80, .inl cs))] [(cA, .int)] zz)) (va_Qv (S := Unit) (fun _ => True) (wr_B (dC, dI) vwCl (fun u9 => [(h0, .inr (4, [.ref h1, .int (nI ((m_X3_append cs len ch).2))])), (h1, .inl (cA, 80, .inl ((m_X3_append cs len ch).1)))]) [(cA, .int)] (va_A [(h0, .inr (4, [.ref h1, .int (nI len)])), (h1, .inl (cA, 80, .inl cs))] zz)) (va_A [(h0, .inr (4, [.ref h1, .int (nI len)])), (h1, .inl (cA, 80, .inl cs))] zz)) 0 0 (va_A [(h0, .inr (4, [.ref h1, .int (nI len)])), (h1, .inl (cA, 80, .inl cs))] zz) := by
  refine Met.ofW (cc := cX3_append) (maxL := 2) (ret := none) (by decide) rfl ?_
  intro p e s m args below meth c s₁ B hml hv
  obtain ⟨rfl, hsz0, hE, hP, hK, hD0⟩ := hv
  have hx := B.exec
  have hb := B.bytes
  have hr := B.returns
  have hts := atoms_spec (ws := wsX3_append) B.pre
  have hown : s.vm.findClass RX3 = some m.cls := findClass_of_methodNamed B.named
  have hlocks := B.notSynchronized
  subst hsz0
  have hD := hD0.self (sz := s.heap.size)
  generalize hAe : va_A [(h0, .inr (4, [.ref h1, .int (nI len)])), (h1, .inl (cA, 80, .inl cs))] s.heap.size = A at hD hE ⊢
  have hA : ∀ q : Nat, s.heap.size ≤ q → A q := fun q h => by rw [← hAe]; exact Or.inr h
  have hS : va_S A s.heap s.heap [] := va_S.rf
  have hP : va_P (dC, dI) vwCl [(h0, .inr (4, [.ref h1, .int (nI len)])), (h1, .inl (cA, 80, .inl cs))] s.heap := hP
  have hl := lv_entry ([.ref h0, .int ch]) (n := 2) (Nat.le_of_ble_eq_true rfl)
  rw [lg_entry_eq]
  generalize (lg_sl ([.ref h0, .int ch]) ++ List.replicate (2 - (lg_sl ([.ref h0, .int ch])).length) Slot.unset).toArray = ls at hl ⊢
  have hl : lv_has ls 2 [(0, .ref h0), (1, .int ch)] := hl
  refine lv_aload_n hx hb dX3_append_0 rfl (lv_at hl 0 rfl) ?_
  refine va_get (D := (dC, dI)) (ci := 4) (v := .int (nI len)) (C := RX3) (T := TX3) (N := 2) hx hb hts (by decide +kernel) hown hK hP 0 rfl rfl 1 (by decide) (hts (.fieldLink RX3 15 "PictureRows$Text" "length" "I") (by decide +kernel)) (fun _ h9 => h9) rfl dX3_append_1 ?_
  refine lv_if_lt (tgt := 16) hx hb dX3_append_4 (by decide) (fun c_1 => ?_) (fun c_1 => ?_)
  · skip
    have c_1 : len < 0 := (nI_ltI (a := len) (b := 0) (by omega) (by omega)).mp c_1
    exfalso; omega
  · skip
    have c_1 : ¬ len < 0 := (fun q_ => c_1 ((nI_ltI (a := len) (b := 0) (by omega) (by omega)).mpr q_))
    refine lv_aload_n hx hb dX3_append_7 rfl (lv_at hl 0 rfl) ?_
    refine va_get (D := (dC, dI)) (ci := 4) (v := .int (nI len)) (C := RX3) (T := TX3) (N := 2) hx hb hts (by decide +kernel) hown hK hP 0 rfl rfl 1 (by decide) (hts (.fieldLink RX3 15 "PictureRows$Text" "length" "I") (by decide +kernel)) (fun _ h9 => h9) rfl dX3_append_8 ?_
    refine lv_bipush (v := 80) hx hb dX3_append_11 (by decide) ?_
    refine lv_icmp_lt (tgt := 17) hx hb dX3_append_13 (by decide) (fun c_2 => ?_) (fun c_2 => ?_)
    · skip
      have c_2 : len < 80 := (nI_ltI (a := len) (b := 80) (by omega) (by omega)).mp c_2
      refine lv_aload_n hx hb dX3_append_17 rfl (lv_at hl 0 rfl) ?_
      refine va_get (D := (dC, dI)) (ci := 4) (v := .ref h1) (C := RX3) (T := TX3) (N := 2) hx hb hts (by decide +kernel) hown hK hP 0 rfl rfl 0 (by decide) (hts (.fieldLink RX3 9 "PictureRows$Text" "characters" "[I") (by decide +kernel)) (fun _ h9 => h9) rfl dX3_append_18 ?_
      refine lv_aload_n hx hb dX3_append_21 rfl (lv_at hl 0 rfl) ?_
      refine va_get (D := (dC, dI)) (ci := 4) (v := .int (nI len)) (C := RX3) (T := TX3) (N := 2) hx hb hts (by decide +kernel) hown hK hP 0 rfl rfl 1 (by decide) (hts (.fieldLink RX3 15 "PictureRows$Text" "length" "I") (by decide +kernel)) (fun _ h9 => h9) rfl dX3_append_22 ?_
      refine lv_iload_n hx hb dX3_append_25 rfl (lv_at hl 1 rfl) ?_
      refine lv_iconst (v := 1) hx hb dX3_append_26 (by decide) ?_
      have j_3 : ∀ (y0_j_3 : Int32), y0_j_3 = m_X3_append_j41_s0 ch → ∀ (ls : Array Slot), lv_has ls 2 [(0, .ref h0), (1, .int ch)] → W p l e (headSpec wsX3_append ({ frames := 0, cells := 0, slots := 0, locals := 0 } : Room)).room s m (([.ref h0, .int ch] : List Value).toArray) below meth c s.heap [] 0 0 (MQ below (va_Qv (S := Unit) (fun _ => True) (wr_B (dC, dI) vwCl (fun u9 => [(h0, .inr (4, [.ref h1, .int (nI ((m_X3_append cs len ch).2))])), (h1, .inl (cA, 80, .inl ((m_X3_append cs len ch).1)))]) [(cA, .int)] A) A) (([.ref h0, .int ch] : List Value).toArray) s 0 0 A) (F0 m 41 ls [.int y0_j_3, .int (nI len), .ref h1]) := by
        intro y0_j_3 ey0_j_3 ls hl
        subst ey0_j_3
        refine wr_iast (x := m_X3_append_j41_s0 ch) hx hb hK hP hD hS 1 0 rfl rfl (len) (by omega) (by omega) dX3_append_41 (fun H locs hP hD hS => ?_)
        have hP : va_P (dC, dI) vwCl [(h0, .inr (4, [.ref h1, .int (nI len)])), (h1, .inl (cA, 80, .inl (upd cs len (m_X3_append_j41_s0 ch))))] H := hP
        have hD : va_D A [(h0, .inr (4, [.ref h1, .int (nI len)])), (h1, .inl (cA, 80, .inl (upd cs len (m_X3_append_j41_s0 ch))))] := hD
        refine lv_aload_n hx hb dX3_append_42 rfl (lv_at hl 0 rfl) ?_
        refine lv_dup hx hb dX3_append_43 rfl ?_
        refine va_get (D := (dC, dI)) (ci := 4) (v := .int (nI len)) (C := RX3) (T := TX3) (N := 2) hx hb hts (by decide +kernel) hown hK hP 0 rfl rfl 1 (by decide) (hts (.fieldLink RX3 15 "PictureRows$Text" "length" "I") (by decide +kernel)) (fun _ h9 => h9) rfl dX3_append_44 ?_
        refine lv_iconst (v := 1) hx hb dX3_append_47 (by decide) ?_
        refine rd_iadd hx hb (len) (1) dX3_append_48 ?_
        refine va_put (D := (dC, dI)) (ci := 4) (v := .int (nI (len + 1))) (ty := .int) (C := RX3) (T := TX3) (N := 2) hx hb hts (by decide +kernel) tyX3 tyX3_ok nmX3 hown hK hP hD hS 0 rfl rfl 1 (by decide) (hts (.fieldLink RX3 15 "PictureRows$Text" "length" "I") (by decide +kernel)) (fun _ h9 => h9) rfl (by decide +kernel) rfl rfl (Nat.le_of_ble_eq_true rfl) dX3_append_49 (fun H locs hP hD hS => ?_)
        have hP : va_P (dC, dI) vwCl [(h0, .inr (4, [.ref h1, .int (nI (len + 1))])), (h1, .inl (cA, 80, .inl (upd cs len (m_X3_append_j41_s0 ch))))] H := hP
        have hD : va_D A [(h0, .inr (4, [.ref h1, .int (nI (len + 1))])), (h1, .inl (cA, 80, .inl (upd cs len (m_X3_append_j41_s0 ch))))] := hD
        have hmE : m_X3_append cs len ch = (upd cs len (m_X3_append_j41_s0 ch), len + 1) := by simp only [m_X3_append, if_pos c_2]
        exact wr_vret () hx hb hr hlocks hK hS trivial (by rw [hmE]; exact hP) (by rw [hmE]; exact hD) dX3_append_52
      refine lv_icmp_lt (tgt := 40) hx hb dX3_append_27 (by decide) (fun c_4 => ?_) (fun c_4 => ?_)
      · skip
        refine lv_iconst (v := 0) hx hb dX3_append_40 (by decide) ?_
        exact j_3 0 (by simp only [m_X3_append_j41_s0, if_pos c_4]) ls (lv_sub hl [0, 1] rfl)
      · skip
        refine lv_iload_n hx hb dX3_append_30 rfl (lv_at hl 1 rfl) ?_
        refine lv_bipush (v := 126) hx hb dX3_append_31 (by decide) ?_
        refine lv_icmp_gt (tgt := 40) hx hb dX3_append_33 (by decide) (fun c_5 => ?_) (fun c_5 => ?_)
        · skip
          refine lv_iconst (v := 0) hx hb dX3_append_40 (by decide) ?_
          exact j_3 0 (by simp only [m_X3_append_j41_s0, if_neg c_4, if_pos c_5]) ls (lv_sub hl [0, 1] rfl)
        · skip
          refine lv_iload_n hx hb dX3_append_36 rfl (lv_at hl 1 rfl) ?_
          refine lv_goto (tgt := 41) hx hb dX3_append_37 (by decide) ?_
          exact j_3 ch (by simp only [m_X3_append_j41_s0, if_neg c_4, if_neg c_5]) ls (lv_sub hl [0, 1] rfl)
    · skip
      have c_2 : ¬ len < 80 := (fun q_ => c_2 ((nI_ltI (a := len) (b := 80) (by omega) (by omega)).mpr q_))
      have hmE : m_X3_append cs len ch = (cs, len) := by simp only [m_X3_append, if_neg c_2]
      exact wr_vret () hx hb hr hlocks hK hS trivial (by rw [hmE]; exact hP) (by rw [hmE]; exact hD) dX3_append_16
set_option maxHeartbeats 4000000 in
set_option maxRecDepth 100000 in
theorem c_X3_clear (l : Launch) (dC : Nat → ClassId) (dI : Nat → Nat → Nat) (h0 : Nat) (h1 : Nat) (len : Nat) (zz : Nat) : Met l yX3_clear wsX3_clear ({ frames := 0, cells := 0, slots := 0, locals := 0 } : Room) (va_Pc [.ref h0] (wr_P (dC, dI) vwCl [(h0, .inr (4, [.ref h1, .int (nI len)]))] [] zz)) (va_Qv (S := Unit) (fun _ => True) (wr_B (dC, dI) vwCl (fun u9 => [(h0, .inr (4, [.ref h1, .int 0]))]) [] (va_A [(h0, .inr (4, [.ref h1, .int (nI len)]))] zz)) (va_A [(h0, .inr (4, [.ref h1, .int (nI len)]))] zz)) 0 0 (va_A [(h0, .inr (4, [.ref h1, .int (nI len)]))] zz) := by
  refine Met.ofW (cc := cX3_clear) (maxL := 1) (ret := none) (by decide) rfl ?_
  intro p e s m args below meth c s₁ B hml hv
  obtain ⟨rfl, hsz0, hE, hP, hK, hD0⟩ := hv
  have hx := B.exec
  have hb := B.bytes
  have hr := B.returns
  have hts := atoms_spec (ws := wsX3_clear) B.pre
  have hown : s.vm.findClass RX3 = some m.cls := findClass_of_methodNamed B.named
  have hlocks := B.notSynchronized
  subst hsz0
  have hD := hD0.self (sz := s.heap.size)
  generalize hAe : va_A [(h0, .inr (4, [.ref h1, .int (nI len)]))] s.heap.size = A at hD hE ⊢
  have hA : ∀ q : Nat, s.heap.size ≤ q → A q := fun q h => by rw [← hAe]; exact Or.inr h
  have hS : va_S A s.heap s.heap [] := va_S.rf
  have hP : va_P (dC, dI) vwCl [(h0, .inr (4, [.ref h1, .int (nI len)]))] s.heap := hP
  have hl := lv_entry ([.ref h0]) (n := 1) (Nat.le_of_ble_eq_true rfl)
  rw [lg_entry_eq]
  generalize (lg_sl ([.ref h0]) ++ List.replicate (1 - (lg_sl ([.ref h0])).length) Slot.unset).toArray = ls at hl ⊢
  have hl : lv_has ls 1 [(0, .ref h0)] := hl
  refine lv_aload_n hx hb dX3_clear_0 rfl (lv_at hl 0 rfl) ?_
  refine lv_iconst (v := 0) hx hb dX3_clear_1 (by decide) ?_
  refine va_put (D := (dC, dI)) (ci := 4) (v := .int 0) (ty := .int) (C := RX3) (T := TX3) (N := 2) hx hb hts (by decide +kernel) tyX3 tyX3_ok nmX3 hown hK hP hD hS 0 rfl rfl 1 (by decide) (hts (.fieldLink RX3 15 "PictureRows$Text" "length" "I") (by decide +kernel)) (fun _ h9 => h9) rfl (by decide +kernel) rfl rfl (Nat.le_of_ble_eq_true rfl) dX3_clear_2 (fun H locs hP hD hS => ?_)
  have hP : va_P (dC, dI) vwCl [(h0, .inr (4, [.ref h1, .int 0]))] H := hP
  have hD : va_D A [(h0, .inr (4, [.ref h1, .int 0]))] := hD
  exact wr_vret () hx hb hr hlocks hK hS trivial hP hD dX3_clear_5
set_option maxHeartbeats 4000000 in
set_option maxRecDepth 100000 in
theorem c_X2_add (l : Launch) (dC : Nat → ClassId) (dI : Nat → Nat → Nat) (h0 : Nat) (h1 : Nat) (h2 : Nat) (h3 : Nat) (h4 : Nat) (h5 : Nat) (cA : ClassId) (ss : Nat → Int32) (ts : Nat → Int32) (ps : Nat → Int32) (sz : Nat) (sg : Int32) (tm : Int32) (pl : Int32) (zz : Nat) (hsz : sz < 80) : Met l yX2_add wsX2_add ({ frames := 0, cells := 0, slots := 0, locals := 0 } : Room) (va_Pc [.ref h0, .int sg, .int tm, .int pl] (wr_P (dC, dI) vwCl [(h0, .inr (3, [.ref h1, .ref h2, .ref h3, .ref h4, .ref h5, .int (nI sz)])), (h1, .inl (cA, 80, .inl ss)), (h2, .inl (cA, 80, .inl ts)), (h3, .inl (cA, 80, .inl ps))] [(cA, .int)] zz)) (va_Qv (S := Unit) (fun _ => True) (wr_B (dC, dI) vwCl (fun u9 => [(h0, .inr (3, [.ref h1, .ref h2, .ref h3, .ref h4, .ref h5, .int (nI (sz + 1))])), (h1, .inl (cA, 80, .inl (upd ss sz sg))), (h2, .inl (cA, 80, .inl (upd ts sz tm))), (h3, .inl (cA, 80, .inl (upd ps sz pl)))]) [(cA, .int)] (va_A [(h0, .inr (3, [.ref h1, .ref h2, .ref h3, .ref h4, .ref h5, .int (nI sz)])), (h1, .inl (cA, 80, .inl ss)), (h2, .inl (cA, 80, .inl ts)), (h3, .inl (cA, 80, .inl ps))] zz)) (va_A [(h0, .inr (3, [.ref h1, .ref h2, .ref h3, .ref h4, .ref h5, .int (nI sz)])), (h1, .inl (cA, 80, .inl ss)), (h2, .inl (cA, 80, .inl ts)), (h3, .inl (cA, 80, .inl ps))] zz)) 0 0 (va_A [(h0, .inr (3, [.ref h1, .ref h2, .ref h3, .ref h4, .ref h5, .int (nI sz)])), (h1, .inl (cA, 80, .inl ss)), (h2, .inl (cA, 80, .inl ts)), (h3, .inl (cA, 80, .inl ps))] zz) := by
  refine Met.ofW (cc := cX2_add) (maxL := 4) (ret := none) (by decide) rfl ?_
  intro p e s m args below meth c s₁ B hml hv
  obtain ⟨rfl, hsz0, hE, hP, hK, hD0⟩ := hv
  have hx := B.exec
  have hb := B.bytes
  have hr := B.returns
  have hts := atoms_spec (ws := wsX2_add) B.pre
  have hown : s.vm.findClass RX2 = some m.cls := findClass_of_methodNamed B.named
  have hlocks := B.notSynchronized
  subst hsz0
  have hD := hD0.self (sz := s.heap.size)
  generalize hAe : va_A [(h0, .inr (3, [.ref h1, .ref h2, .ref h3, .ref h4, .ref h5, .int (nI sz)])), (h1, .inl (cA, 80, .inl ss)), (h2, .inl (cA, 80, .inl ts)), (h3, .inl (cA, 80, .inl ps))] s.heap.size = A at hD hE ⊢
  have hA : ∀ q : Nat, s.heap.size ≤ q → A q := fun q h => by rw [← hAe]; exact Or.inr h
  have hS : va_S A s.heap s.heap [] := va_S.rf
  have hP : va_P (dC, dI) vwCl [(h0, .inr (3, [.ref h1, .ref h2, .ref h3, .ref h4, .ref h5, .int (nI sz)])), (h1, .inl (cA, 80, .inl ss)), (h2, .inl (cA, 80, .inl ts)), (h3, .inl (cA, 80, .inl ps))] s.heap := hP
  have hl := lv_entry ([.ref h0, .int sg, .int tm, .int pl]) (n := 4) (Nat.le_of_ble_eq_true rfl)
  rw [lg_entry_eq]
  generalize (lg_sl ([.ref h0, .int sg, .int tm, .int pl]) ++ List.replicate (4 - (lg_sl ([.ref h0, .int sg, .int tm, .int pl])).length) Slot.unset).toArray = ls at hl ⊢
  have hl : lv_has ls 4 [(0, .ref h0), (1, .int sg), (2, .int tm), (3, .int pl)] := hl
  refine lv_aload_n hx hb dX2_add_0 rfl (lv_at hl 0 rfl) ?_
  refine va_get (D := (dC, dI)) (ci := 3) (v := .int (nI sz)) (C := RX2) (T := TX2) (N := 6) hx hb hts (by decide +kernel) hown hK hP 0 rfl rfl 5 (by decide) (hts (.fieldLink RX2 27 "PictureRows$Runs" "size" "I") (by decide +kernel)) (fun _ h9 => h9) rfl dX2_add_1 ?_
  refine lv_if_lt (tgt := 16) hx hb dX2_add_4 (by decide) (fun c_1 => ?_) (fun c_1 => ?_)
  · skip
    have c_1 : sz < 0 := (nI_ltI (a := sz) (b := 0) (by omega) (by omega)).mp c_1
    exfalso; omega
  · skip
    have c_1 : ¬ sz < 0 := (fun q_ => c_1 ((nI_ltI (a := sz) (b := 0) (by omega) (by omega)).mpr q_))
    refine lv_aload_n hx hb dX2_add_7 rfl (lv_at hl 0 rfl) ?_
    refine va_get (D := (dC, dI)) (ci := 3) (v := .int (nI sz)) (C := RX2) (T := TX2) (N := 6) hx hb hts (by decide +kernel) hown hK hP 0 rfl rfl 5 (by decide) (hts (.fieldLink RX2 27 "PictureRows$Runs" "size" "I") (by decide +kernel)) (fun _ h9 => h9) rfl dX2_add_8 ?_
    refine lv_bipush (v := 80) hx hb dX2_add_11 (by decide) ?_
    refine lv_icmp_lt (tgt := 17) hx hb dX2_add_13 (by decide) (fun c_2 => ?_) (fun c_2 => ?_)
    · skip
      have c_2 : sz < 80 := (nI_ltI (a := sz) (b := 80) (by omega) (by omega)).mp c_2
      refine lv_aload_n hx hb dX2_add_17 rfl (lv_at hl 0 rfl) ?_
      refine va_get (D := (dC, dI)) (ci := 3) (v := .ref h1) (C := RX2) (T := TX2) (N := 6) hx hb hts (by decide +kernel) hown hK hP 0 rfl rfl 0 (by decide) (hts (.fieldLink RX2 9 "PictureRows$Runs" "signs" "[I") (by decide +kernel)) (fun _ h9 => h9) rfl dX2_add_18 ?_
      refine lv_aload_n hx hb dX2_add_21 rfl (lv_at hl 0 rfl) ?_
      refine va_get (D := (dC, dI)) (ci := 3) (v := .int (nI sz)) (C := RX2) (T := TX2) (N := 6) hx hb hts (by decide +kernel) hown hK hP 0 rfl rfl 5 (by decide) (hts (.fieldLink RX2 27 "PictureRows$Runs" "size" "I") (by decide +kernel)) (fun _ h9 => h9) rfl dX2_add_22 ?_
      refine lv_iload_n hx hb dX2_add_25 rfl (lv_at hl 1 rfl) ?_
      refine wr_iast (x := sg) hx hb hK hP hD hS 1 0 rfl rfl (sz) (by omega) (by omega) dX2_add_26 (fun H locs hP hD hS => ?_)
      have hP : va_P (dC, dI) vwCl [(h0, .inr (3, [.ref h1, .ref h2, .ref h3, .ref h4, .ref h5, .int (nI sz)])), (h1, .inl (cA, 80, .inl (upd ss sz sg))), (h2, .inl (cA, 80, .inl ts)), (h3, .inl (cA, 80, .inl ps))] H := hP
      have hD : va_D A [(h0, .inr (3, [.ref h1, .ref h2, .ref h3, .ref h4, .ref h5, .int (nI sz)])), (h1, .inl (cA, 80, .inl (upd ss sz sg))), (h2, .inl (cA, 80, .inl ts)), (h3, .inl (cA, 80, .inl ps))] := hD
      refine lv_aload_n hx hb dX2_add_27 rfl (lv_at hl 0 rfl) ?_
      refine va_get (D := (dC, dI)) (ci := 3) (v := .ref h2) (C := RX2) (T := TX2) (N := 6) hx hb hts (by decide +kernel) hown hK hP 0 rfl rfl 1 (by decide) (hts (.fieldLink RX2 15 "PictureRows$Runs" "times" "[I") (by decide +kernel)) (fun _ h9 => h9) rfl dX2_add_28 ?_
      refine lv_aload_n hx hb dX2_add_31 rfl (lv_at hl 0 rfl) ?_
      refine va_get (D := (dC, dI)) (ci := 3) (v := .int (nI sz)) (C := RX2) (T := TX2) (N := 6) hx hb hts (by decide +kernel) hown hK hP 0 rfl rfl 5 (by decide) (hts (.fieldLink RX2 27 "PictureRows$Runs" "size" "I") (by decide +kernel)) (fun _ h9 => h9) rfl dX2_add_32 ?_
      refine lv_iload_n hx hb dX2_add_35 rfl (lv_at hl 2 rfl) ?_
      refine wr_iast (x := tm) hx hb hK hP hD hS 2 0 rfl rfl (sz) (by omega) (by omega) dX2_add_36 (fun H locs hP hD hS => ?_)
      have hP : va_P (dC, dI) vwCl [(h0, .inr (3, [.ref h1, .ref h2, .ref h3, .ref h4, .ref h5, .int (nI sz)])), (h1, .inl (cA, 80, .inl (upd ss sz sg))), (h2, .inl (cA, 80, .inl (upd ts sz tm))), (h3, .inl (cA, 80, .inl ps))] H := hP
      have hD : va_D A [(h0, .inr (3, [.ref h1, .ref h2, .ref h3, .ref h4, .ref h5, .int (nI sz)])), (h1, .inl (cA, 80, .inl (upd ss sz sg))), (h2, .inl (cA, 80, .inl (upd ts sz tm))), (h3, .inl (cA, 80, .inl ps))] := hD
      refine lv_aload_n hx hb dX2_add_37 rfl (lv_at hl 0 rfl) ?_
      refine va_get (D := (dC, dI)) (ci := 3) (v := .ref h3) (C := RX2) (T := TX2) (N := 6) hx hb hts (by decide +kernel) hown hK hP 0 rfl rfl 2 (by decide) (hts (.fieldLink RX2 18 "PictureRows$Runs" "places" "[I") (by decide +kernel)) (fun _ h9 => h9) rfl dX2_add_38 ?_
      refine lv_aload_n hx hb dX2_add_41 rfl (lv_at hl 0 rfl) ?_
      refine va_get (D := (dC, dI)) (ci := 3) (v := .int (nI sz)) (C := RX2) (T := TX2) (N := 6) hx hb hts (by decide +kernel) hown hK hP 0 rfl rfl 5 (by decide) (hts (.fieldLink RX2 27 "PictureRows$Runs" "size" "I") (by decide +kernel)) (fun _ h9 => h9) rfl dX2_add_42 ?_
      refine lv_iload_n hx hb dX2_add_45 rfl (lv_at hl 3 rfl) ?_
      refine wr_iast (x := pl) hx hb hK hP hD hS 3 0 rfl rfl (sz) (by omega) (by omega) dX2_add_46 (fun H locs hP hD hS => ?_)
      have hP : va_P (dC, dI) vwCl [(h0, .inr (3, [.ref h1, .ref h2, .ref h3, .ref h4, .ref h5, .int (nI sz)])), (h1, .inl (cA, 80, .inl (upd ss sz sg))), (h2, .inl (cA, 80, .inl (upd ts sz tm))), (h3, .inl (cA, 80, .inl (upd ps sz pl)))] H := hP
      have hD : va_D A [(h0, .inr (3, [.ref h1, .ref h2, .ref h3, .ref h4, .ref h5, .int (nI sz)])), (h1, .inl (cA, 80, .inl (upd ss sz sg))), (h2, .inl (cA, 80, .inl (upd ts sz tm))), (h3, .inl (cA, 80, .inl (upd ps sz pl)))] := hD
      refine lv_aload_n hx hb dX2_add_47 rfl (lv_at hl 0 rfl) ?_
      refine lv_dup hx hb dX2_add_48 rfl ?_
      refine va_get (D := (dC, dI)) (ci := 3) (v := .int (nI sz)) (C := RX2) (T := TX2) (N := 6) hx hb hts (by decide +kernel) hown hK hP 0 rfl rfl 5 (by decide) (hts (.fieldLink RX2 27 "PictureRows$Runs" "size" "I") (by decide +kernel)) (fun _ h9 => h9) rfl dX2_add_49 ?_
      refine lv_iconst (v := 1) hx hb dX2_add_52 (by decide) ?_
      refine rd_iadd hx hb (sz) (1) dX2_add_53 ?_
      refine va_put (D := (dC, dI)) (ci := 3) (v := .int (nI (sz + 1))) (ty := .int) (C := RX2) (T := TX2) (N := 6) hx hb hts (by decide +kernel) tyX2 tyX2_ok nmX2 hown hK hP hD hS 0 rfl rfl 5 (by decide) (hts (.fieldLink RX2 27 "PictureRows$Runs" "size" "I") (by decide +kernel)) (fun _ h9 => h9) rfl (by decide +kernel) rfl rfl (Nat.le_of_ble_eq_true rfl) dX2_add_54 (fun H locs hP hD hS => ?_)
      have hP : va_P (dC, dI) vwCl [(h0, .inr (3, [.ref h1, .ref h2, .ref h3, .ref h4, .ref h5, .int (nI (sz + 1))])), (h1, .inl (cA, 80, .inl (upd ss sz sg))), (h2, .inl (cA, 80, .inl (upd ts sz tm))), (h3, .inl (cA, 80, .inl (upd ps sz pl)))] H := hP
      have hD : va_D A [(h0, .inr (3, [.ref h1, .ref h2, .ref h3, .ref h4, .ref h5, .int (nI (sz + 1))])), (h1, .inl (cA, 80, .inl (upd ss sz sg))), (h2, .inl (cA, 80, .inl (upd ts sz tm))), (h3, .inl (cA, 80, .inl (upd ps sz pl)))] := hD
      exact wr_vret () hx hb hr hlocks hK hS trivial hP hD dX2_add_57
    · skip
      have c_2 : ¬ sz < 80 := (fun q_ => c_2 ((nI_ltI (a := sz) (b := 80) (by omega) (by omega)).mpr q_))
      exfalso; omega
def m_X2_findKinds_j15_s0 (ss : Nat → Int32) (ts : Nat → Int32) (sz : Nat) : Bool := if (m_X2_countOf ss ts sz 43) = 1 then true else false
def m_X2_findKinds_j31_s0 (ss : Nat → Int32) (ts : Nat → Int32) (sz : Nat) : Bool := if (m_X2_countOf ss ts sz 45) = 1 then true else false
def m_X2_findKinds_j47_s0 (ss : Nat → Int32) (ts : Nat → Int32) (sz : Nat) : Bool := if (m_X2_countOf ss ts sz 36) = 1 then true else false
def m_X2_findKinds_j102_s0 (ss : Nat → Int32) (ts : Nat → Int32) (sz : Nat) (i : Nat) : Bool := if (ss i) = 43 then m_X2_findKinds_j15_s0 ss ts sz else (if (ss i) = 45 then m_X2_findKinds_j31_s0 ss ts sz else m_X2_findKinds_j47_s0 ss ts sz)
def m_X2_findKinds_L54 (ss : Nat → Int32) (ts : Nat → Int32) (sz : Nat) : Nat → Nat → Int32 → (Nat → Int32) → (Nat → Int32)
  | 0, _, _, _ => fun _ => 0
  | k54 + 1, i, x4_54, ks_54 => if sz ≤ i then ks_54 else (m_X2_findKinds_L54 ss ts sz k54 (i + 1) (x4_54 ||| (1 <<< (((upd ks_54 i (m_X2_kindOf (ss i) (m_X2_findKinds_j102_s0 ss ts sz i) x4_54)) i) &&& 31))) (upd ks_54 i (m_X2_kindOf (ss i) (m_X2_findKinds_j102_s0 ss ts sz i) x4_54)))
def m_X2_findKinds (ss : Nat → Int32) (ts : Nat → Int32) (ks : Nat → Int32) (sz : Nat) : (Nat → Int32) := m_X2_findKinds_L54 ss ts sz (sz + 1) 0 0 ks
set_option maxHeartbeats 4000000 in
set_option maxRecDepth 100000 in
theorem c_X2_findKinds (l : Launch) (dC : Nat → ClassId) (dI : Nat → Nat → Nat) (h0 : Nat) (h1 : Nat) (h2 : Nat) (h3 : Nat) (h4 : Nat) (h5 : Nat) (cA : ClassId) (ss : Nat → Int32) (ts : Nat → Int32) (ks : Nat → Int32) (sz : Nat) (zz : Nat) (hsz : sz ≤ 80) : Met l yX2_findKinds wsX2_findKinds ({ frames := 1, cells := 0, slots := 0, locals := 23 } : Room) (va_Pc [.ref h0] (wr_P (dC, dI) vwCl [(h0, .inr (3, [.ref h1, .ref h2, .ref h3, .ref h4, .ref h5, .int (nI sz)])), (h1, .inl (cA, 80, .inl ss)), (h2, .inl (cA, 80, .inl ts)), (h4, .inl (cA, 80, .inl ks))] [(cA, .int)] zz)) (va_Qv (S := Unit) (fun _ => True) (wr_B (dC, dI) vwCl (fun u9 => [(h0, .inr (3, [.ref h1, .ref h2, .ref h3, .ref h4, .ref h5, .int (nI sz)])), (h1, .inl (cA, 80, .inl ss)), (h2, .inl (cA, 80, .inl ts)), (h4, .inl (cA, 80, .inl (m_X2_findKinds ss ts ks sz)))]) [(cA, .int)] (va_A [(h0, .inr (3, [.ref h1, .ref h2, .ref h3, .ref h4, .ref h5, .int (nI sz)])), (h1, .inl (cA, 80, .inl ss)), (h2, .inl (cA, 80, .inl ts)), (h4, .inl (cA, 80, .inl ks))] zz)) (va_A [(h0, .inr (3, [.ref h1, .ref h2, .ref h3, .ref h4, .ref h5, .int (nI sz)])), (h1, .inl (cA, 80, .inl ss)), (h2, .inl (cA, 80, .inl ts)), (h4, .inl (cA, 80, .inl ks))] zz)) 0 0 (va_A [(h0, .inr (3, [.ref h1, .ref h2, .ref h3, .ref h4, .ref h5, .int (nI sz)])), (h1, .inl (cA, 80, .inl ss)), (h2, .inl (cA, 80, .inl ts)), (h4, .inl (cA, 80, .inl ks))] zz) := by
  refine Met.ofW (cc := cX2_findKinds) (maxL := 8) (ret := none) (by decide) rfl ?_
  intro p e s m args below meth c s₁ B hml hv
  obtain ⟨rfl, hsz0, hE, hP, hK, hD0⟩ := hv
  have hx := B.exec
  have hb := B.bytes
  have hr := B.returns
  have hts := atoms_spec (ws := wsX2_findKinds) B.pre
  have hown : s.vm.findClass RX2 = some m.cls := findClass_of_methodNamed B.named
  have hlocks := B.notSynchronized
  subst hsz0
  have hD := hD0.self (sz := s.heap.size)
  generalize hAe : va_A [(h0, .inr (3, [.ref h1, .ref h2, .ref h3, .ref h4, .ref h5, .int (nI sz)])), (h1, .inl (cA, 80, .inl ss)), (h2, .inl (cA, 80, .inl ts)), (h4, .inl (cA, 80, .inl ks))] s.heap.size = A at hD hE ⊢
  have hA : ∀ q : Nat, s.heap.size ≤ q → A q := fun q h => by rw [← hAe]; exact Or.inr h
  have hS : va_S A s.heap s.heap [] := va_S.rf
  have hP : va_P (dC, dI) vwCl [(h0, .inr (3, [.ref h1, .ref h2, .ref h3, .ref h4, .ref h5, .int (nI sz)])), (h1, .inl (cA, 80, .inl ss)), (h2, .inl (cA, 80, .inl ts)), (h4, .inl (cA, 80, .inl ks))] s.heap := hP
  have hl := lv_entry ([.ref h0]) (n := 8) (Nat.le_of_ble_eq_true rfl)
  rw [lg_entry_eq]
  generalize (lg_sl ([.ref h0]) ++ List.replicate (8 - (lg_sl ([.ref h0])).length) Slot.unset).toArray = ls at hl ⊢
  have hl : lv_has ls 8 [(0, .ref h0)] := hl
  refine lv_aload_n hx hb dX2_findKinds_0 rfl (lv_at hl 0 rfl) ?_
  refine lv_bipush (v := 43) hx hb dX2_findKinds_1 (by decide) ?_
  refine rd_callV (As := [.int 43]) (rest := []) ⟨hx, hb, hml, hown, hts⟩ (hE.rd hS) (c_X2_countOf l dC dI h0 h1 h2 h3 h4 h5 cA ss ts sz 43 (by omega)) (cwV 1 hts gX2_findKinds_X2_countOf rfl rfl rfl (by decide +kernel) ⟨Nat.le_of_ble_eq_true rfl, Nat.le_of_ble_eq_true rfl⟩) (hP.sub (ws' := [(h0, .inr (3, [.ref h1, .ref h2, .ref h3, .ref h4, .ref h5, .int (nI sz)])), (h1, .inl (cA, 80, .inl ss)), (h2, .inl (cA, 80, .inl ts))]) [0, 1, 2] rfl) (hK.sub [0] rfl) (va_recv hK hP (ci := 3) (q0 := 0) rfl rfl) rfl hl.1 rfl (Nat.le_of_ble_eq_true rfl) dX2_findKinds_3 ⟨Nat.le_of_ble_eq_true rfl, Nat.le_of_ble_eq_true rfl⟩ (fun r9 hr9 => ?_)
  subst hr9
  refine lv_iconst (v := 1) hx hb dX2_findKinds_6 (by decide) ?_
  have j_1 : ∀ (y0_j_1 : Bool), y0_j_1 = m_X2_findKinds_j15_s0 ss ts sz → ∀ (ls : Array Slot), lv_has ls 8 [(0, .ref h0)] → W p l e (headSpec wsX2_findKinds ({ frames := 1, cells := 0, slots := 0, locals := 23 } : Room)).room s m (([.ref h0] : List Value).toArray) below meth c s.heap [] 0 0 (MQ below (va_Qv (S := Unit) (fun _ => True) (wr_B (dC, dI) vwCl (fun u9 => [(h0, .inr (3, [.ref h1, .ref h2, .ref h3, .ref h4, .ref h5, .int (nI sz)])), (h1, .inl (cA, 80, .inl ss)), (h2, .inl (cA, 80, .inl ts)), (h4, .inl (cA, 80, .inl (m_X2_findKinds ss ts ks sz)))]) [(cA, .int)] A) A) (([.ref h0] : List Value).toArray) s 0 0 A) (F0 m 15 ls [.int (bI y0_j_1)]) := by
    intro y0_j_1 ey0_j_1 ls hl
    subst ey0_j_1
    refine lv_istore_n (lv' := [(1, .int (bI (m_X2_findKinds_j15_s0 ss ts sz))), (0, .ref h0)]) hx hb dX2_findKinds_15 rfl hl (by decide) rfl (fun ls hl => ?_)
    refine lv_aload_n hx hb dX2_findKinds_16 rfl (lv_at hl 1 rfl) ?_
    refine lv_bipush (v := 45) hx hb dX2_findKinds_17 (by decide) ?_
    refine rd_callV (As := [.int 45]) (rest := []) ⟨hx, hb, hml, hown, hts⟩ (hE.rd hS) (c_X2_countOf l dC dI h0 h1 h2 h3 h4 h5 cA ss ts sz 45 (by omega)) (cwV 1 hts gX2_findKinds_X2_countOf rfl rfl rfl (by decide +kernel) ⟨Nat.le_of_ble_eq_true rfl, Nat.le_of_ble_eq_true rfl⟩) (hP.sub (ws' := [(h0, .inr (3, [.ref h1, .ref h2, .ref h3, .ref h4, .ref h5, .int (nI sz)])), (h1, .inl (cA, 80, .inl ss)), (h2, .inl (cA, 80, .inl ts))]) [0, 1, 2] rfl) (hK.sub [0] rfl) (va_recv hK hP (ci := 3) (q0 := 0) rfl rfl) rfl hl.1 rfl (Nat.le_of_ble_eq_true rfl) dX2_findKinds_19 ⟨Nat.le_of_ble_eq_true rfl, Nat.le_of_ble_eq_true rfl⟩ (fun r9 hr9 => ?_)
    subst hr9
    refine lv_iconst (v := 1) hx hb dX2_findKinds_22 (by decide) ?_
    have j_2 : ∀ (y0_j_2 : Bool), y0_j_2 = m_X2_findKinds_j31_s0 ss ts sz → ∀ (ls : Array Slot), lv_has ls 8 [(0, .ref h0), (1, .int (bI (m_X2_findKinds_j15_s0 ss ts sz)))] → W p l e (headSpec wsX2_findKinds ({ frames := 1, cells := 0, slots := 0, locals := 23 } : Room)).room s m (([.ref h0] : List Value).toArray) below meth c s.heap [] 0 0 (MQ below (va_Qv (S := Unit) (fun _ => True) (wr_B (dC, dI) vwCl (fun u9 => [(h0, .inr (3, [.ref h1, .ref h2, .ref h3, .ref h4, .ref h5, .int (nI sz)])), (h1, .inl (cA, 80, .inl ss)), (h2, .inl (cA, 80, .inl ts)), (h4, .inl (cA, 80, .inl (m_X2_findKinds ss ts ks sz)))]) [(cA, .int)] A) A) (([.ref h0] : List Value).toArray) s 0 0 A) (F0 m 31 ls [.int (bI y0_j_2)]) := by
      intro y0_j_2 ey0_j_2 ls hl
      subst ey0_j_2
      refine lv_istore_n (lv' := [(2, .int (bI (m_X2_findKinds_j31_s0 ss ts sz))), (0, .ref h0), (1, .int (bI (m_X2_findKinds_j15_s0 ss ts sz)))]) hx hb dX2_findKinds_31 rfl hl (by decide) rfl (fun ls hl => ?_)
      refine lv_aload_n hx hb dX2_findKinds_32 rfl (lv_at hl 1 rfl) ?_
      refine lv_bipush (v := 36) hx hb dX2_findKinds_33 (by decide) ?_
      refine rd_callV (As := [.int 36]) (rest := []) ⟨hx, hb, hml, hown, hts⟩ (hE.rd hS) (c_X2_countOf l dC dI h0 h1 h2 h3 h4 h5 cA ss ts sz 36 (by omega)) (cwV 1 hts gX2_findKinds_X2_countOf rfl rfl rfl (by decide +kernel) ⟨Nat.le_of_ble_eq_true rfl, Nat.le_of_ble_eq_true rfl⟩) (hP.sub (ws' := [(h0, .inr (3, [.ref h1, .ref h2, .ref h3, .ref h4, .ref h5, .int (nI sz)])), (h1, .inl (cA, 80, .inl ss)), (h2, .inl (cA, 80, .inl ts))]) [0, 1, 2] rfl) (hK.sub [0] rfl) (va_recv hK hP (ci := 3) (q0 := 0) rfl rfl) rfl hl.1 rfl (Nat.le_of_ble_eq_true rfl) dX2_findKinds_35 ⟨Nat.le_of_ble_eq_true rfl, Nat.le_of_ble_eq_true rfl⟩ (fun r9 hr9 => ?_)
      subst hr9
      refine lv_iconst (v := 1) hx hb dX2_findKinds_38 (by decide) ?_
      have j_3 : ∀ (y0_j_3 : Bool), y0_j_3 = m_X2_findKinds_j47_s0 ss ts sz → ∀ (ls : Array Slot), lv_has ls 8 [(0, .ref h0), (1, .int (bI (m_X2_findKinds_j15_s0 ss ts sz))), (2, .int (bI (m_X2_findKinds_j31_s0 ss ts sz)))] → W p l e (headSpec wsX2_findKinds ({ frames := 1, cells := 0, slots := 0, locals := 23 } : Room)).room s m (([.ref h0] : List Value).toArray) below meth c s.heap [] 0 0 (MQ below (va_Qv (S := Unit) (fun _ => True) (wr_B (dC, dI) vwCl (fun u9 => [(h0, .inr (3, [.ref h1, .ref h2, .ref h3, .ref h4, .ref h5, .int (nI sz)])), (h1, .inl (cA, 80, .inl ss)), (h2, .inl (cA, 80, .inl ts)), (h4, .inl (cA, 80, .inl (m_X2_findKinds ss ts ks sz)))]) [(cA, .int)] A) A) (([.ref h0] : List Value).toArray) s 0 0 A) (F0 m 47 ls [.int (bI y0_j_3)]) := by
        intro y0_j_3 ey0_j_3 ls hl
        subst ey0_j_3
        refine lv_istore_n (lv' := [(3, .int (bI (m_X2_findKinds_j47_s0 ss ts sz))), (0, .ref h0), (1, .int (bI (m_X2_findKinds_j15_s0 ss ts sz))), (2, .int (bI (m_X2_findKinds_j31_s0 ss ts sz)))]) hx hb dX2_findKinds_47 rfl hl (by decide) rfl (fun ls hl => ?_)
        refine lv_iconst (v := 0) hx hb dX2_findKinds_48 (by decide) ?_
        refine lv_istore (lv' := [(4, .int 0), (3, .int (bI (m_X2_findKinds_j47_s0 ss ts sz))), (0, .ref h0), (1, .int (bI (m_X2_findKinds_j15_s0 ss ts sz))), (2, .int (bI (m_X2_findKinds_j31_s0 ss ts sz)))]) hx hb dX2_findKinds_49 hl (by decide) rfl (fun ls hl => ?_)
        refine lv_iconst (v := 0) hx hb dX2_findKinds_51 (by decide) ?_
        refine lv_istore (lv' := [(5, .int 0), (4, .int 0), (3, .int (bI (m_X2_findKinds_j47_s0 ss ts sz))), (0, .ref h0), (1, .int (bI (m_X2_findKinds_j15_s0 ss ts sz))), (2, .int (bI (m_X2_findKinds_j31_s0 ss ts sz)))]) hx hb dX2_findKinds_52 hl (by decide) rfl (fun ls hl => ?_)
        have lp_54 : ∀ (k54 i : Nat) (x4_54 : Int32) (ks_54 : Nat → Int32), i ≤ sz → sz + 1 ≤ i + k54 → m_X2_findKinds ss ts ks sz = m_X2_findKinds_L54 ss ts sz k54 i x4_54 ks_54 → ∀ (H : Heap) (locs : List Loc), va_P (dC, dI) vwCl [(h0, .inr (3, [.ref h1, .ref h2, .ref h3, .ref h4, .ref h5, .int (nI sz)])), (h1, .inl (cA, 80, .inl ss)), (h2, .inl (cA, 80, .inl ts)), (h4, .inl (cA, 80, .inl ks_54))] H → va_D A [(h0, .inr (3, [.ref h1, .ref h2, .ref h3, .ref h4, .ref h5, .int (nI sz)])), (h1, .inl (cA, 80, .inl ss)), (h2, .inl (cA, 80, .inl ts)), (h4, .inl (cA, 80, .inl ks_54))] → va_S A s.heap H locs → ∀ (ls : Array Slot), lv_has ls 8 [(0, .ref h0), (1, .int (bI (m_X2_findKinds_j15_s0 ss ts sz))), (2, .int (bI (m_X2_findKinds_j31_s0 ss ts sz))), (3, .int (bI (m_X2_findKinds_j47_s0 ss ts sz))), (4, .int x4_54), (5, .int (nI i))] → W p l e (headSpec wsX2_findKinds ({ frames := 1, cells := 0, slots := 0, locals := 23 } : Room)).room s m (([.ref h0] : List Value).toArray) below meth c H locs 0 0 (MQ below (va_Qv (S := Unit) (fun _ => True) (wr_B (dC, dI) vwCl (fun u9 => [(h0, .inr (3, [.ref h1, .ref h2, .ref h3, .ref h4, .ref h5, .int (nI sz)])), (h1, .inl (cA, 80, .inl ss)), (h2, .inl (cA, 80, .inl ts)), (h4, .inl (cA, 80, .inl (m_X2_findKinds ss ts ks sz)))]) [(cA, .int)] A) A) (([.ref h0] : List Value).toArray) s 0 0 A) (F0 m 54 ls []) := by
          intro k54
          induction k54 with
          | zero => intro i x4_54 ks_54 h1_ h2_; exfalso; omega
          | succ k54 ih54 =>
            intro i x4_54 ks_54 hb54 hf54  hm54 H locs hP hD hS ls hl
            refine lv_iload hx hb dX2_findKinds_54 (lv_at hl 5 rfl) ?_
            refine lv_aload_n hx hb dX2_findKinds_56 rfl (lv_at hl 0 rfl) ?_
            refine va_get (D := (dC, dI)) (ci := 3) (v := .int (nI sz)) (C := RX2) (T := TX2) (N := 6) hx hb hts (by decide +kernel) hown hK hP 0 rfl rfl 5 (by decide) (hts (.fieldLink RX2 27 "PictureRows$Runs" "size" "I") (by decide +kernel)) (fun _ h9 => h9) rfl dX2_findKinds_57 ?_
            refine lv_icmp_ge (tgt := 140) hx hb dX2_findKinds_60 (by decide) (fun c_4 => ?_) (fun c_4 => ?_)
            · skip
              have c_4 : sz ≤ i := (nI_leI (a := sz) (b := i) (by omega) (by omega)).mp c_4
              have hmE : m_X2_findKinds ss ts ks sz = ks_54 := hm54.trans (by simp only [m_X2_findKinds_L54, if_pos c_4])
              exact wr_vret () hx hb hr hlocks hK hS trivial (by rw [hmE]; exact hP) (by rw [hmE]; exact hD) dX2_findKinds_140
            · skip
              have c_4 : ¬ sz ≤ i := (fun q_ => c_4 ((nI_leI (a := sz) (b := i) (by omega) (by omega)).mpr q_))
              refine lv_iload hx hb dX2_findKinds_63 (lv_at hl 5 rfl) ?_
              refine lv_bipush (v := 80) hx hb dX2_findKinds_65 (by decide) ?_
              refine lv_icmp_ge (tgt := 140) hx hb dX2_findKinds_67 (by decide) (fun c_5 => ?_) (fun c_5 => ?_)
              · skip
                have c_5 : 80 ≤ i := (nI_leI (a := 80) (b := i) (by omega) (by omega)).mp c_5
                exfalso; omega
              · skip
                have c_5 : ¬ 80 ≤ i := (fun q_ => c_5 ((nI_leI (a := 80) (b := i) (by omega) (by omega)).mpr q_))
                refine lv_aload_n hx hb dX2_findKinds_70 rfl (lv_at hl 0 rfl) ?_
                refine va_get (D := (dC, dI)) (ci := 3) (v := .ref h1) (C := RX2) (T := TX2) (N := 6) hx hb hts (by decide +kernel) hown hK hP 0 rfl rfl 0 (by decide) (hts (.fieldLink RX2 9 "PictureRows$Runs" "signs" "[I") (by decide +kernel)) (fun _ h9 => h9) rfl dX2_findKinds_71 ?_
                refine lv_iload hx hb dX2_findKinds_74 (lv_at hl 5 rfl) ?_
                refine rd_iald hx hb hK hP 1 0 rfl rfl (i) (by omega) (by omega) dX2_findKinds_76 ?_
                refine lv_istore (lv' := [(6, .int (ss i)), (0, .ref h0), (1, .int (bI (m_X2_findKinds_j15_s0 ss ts sz))), (2, .int (bI (m_X2_findKinds_j31_s0 ss ts sz))), (3, .int (bI (m_X2_findKinds_j47_s0 ss ts sz))), (4, .int x4_54), (5, .int (nI i))]) hx hb dX2_findKinds_77 hl (by decide) rfl (fun ls hl => ?_)
                refine lv_iload hx hb dX2_findKinds_79 (lv_at hl 0 rfl) ?_
                refine lv_bipush (v := 43) hx hb dX2_findKinds_81 (by decide) ?_
                have j_6 : ∀ (y0_j_6 : Bool), y0_j_6 = m_X2_findKinds_j102_s0 ss ts sz i → ∀ (ls : Array Slot), lv_has ls 8 [(0, .ref h0), (1, .int (bI (m_X2_findKinds_j15_s0 ss ts sz))), (2, .int (bI (m_X2_findKinds_j31_s0 ss ts sz))), (3, .int (bI (m_X2_findKinds_j47_s0 ss ts sz))), (4, .int x4_54), (5, .int (nI i)), (6, .int (ss i))] → W p l e (headSpec wsX2_findKinds ({ frames := 1, cells := 0, slots := 0, locals := 23 } : Room)).room s m (([.ref h0] : List Value).toArray) below meth c H locs 0 0 (MQ below (va_Qv (S := Unit) (fun _ => True) (wr_B (dC, dI) vwCl (fun u9 => [(h0, .inr (3, [.ref h1, .ref h2, .ref h3, .ref h4, .ref h5, .int (nI sz)])), (h1, .inl (cA, 80, .inl ss)), (h2, .inl (cA, 80, .inl ts)), (h4, .inl (cA, 80, .inl (m_X2_findKinds ss ts ks sz)))]) [(cA, .int)] A) A) (([.ref h0] : List Value).toArray) s 0 0 A) (F0 m 102 ls [.int (bI y0_j_6)]) := by
                  intro y0_j_6 ey0_j_6 ls hl
                  subst ey0_j_6
                  refine lv_istore (lv' := [(7, .int (bI (m_X2_findKinds_j102_s0 ss ts sz i))), (0, .ref h0), (1, .int (bI (m_X2_findKinds_j15_s0 ss ts sz))), (2, .int (bI (m_X2_findKinds_j31_s0 ss ts sz))), (3, .int (bI (m_X2_findKinds_j47_s0 ss ts sz))), (4, .int x4_54), (5, .int (nI i)), (6, .int (ss i))]) hx hb dX2_findKinds_102 hl (by decide) rfl (fun ls hl => ?_)
                  refine lv_aload_n hx hb dX2_findKinds_104 rfl (lv_at hl 1 rfl) ?_
                  refine va_get (D := (dC, dI)) (ci := 3) (v := .ref h4) (C := RX2) (T := TX2) (N := 6) hx hb hts (by decide +kernel) hown hK hP 0 rfl rfl 3 (by decide) (hts (.fieldLink RX2 21 "PictureRows$Runs" "kinds" "[I") (by decide +kernel)) (fun _ h9 => h9) rfl dX2_findKinds_105 ?_
                  refine lv_iload hx hb dX2_findKinds_108 (lv_at hl 6 rfl) ?_
                  refine lv_iload hx hb dX2_findKinds_110 (lv_at hl 7 rfl) ?_
                  refine lv_iload hx hb dX2_findKinds_112 (lv_at hl 0 rfl) ?_
                  refine lv_iload hx hb dX2_findKinds_114 (lv_at hl 5 rfl) ?_
                  refine rd_callS (As := [.int (ss i), .int (bI (m_X2_findKinds_j102_s0 ss ts sz i)), .int x4_54]) (rest := [.int (nI i), .ref h4]) ⟨hx, hb, hml, hown, hts⟩ (hE.rd hS) (c_X2_kindOf l dC dI (ss i) (m_X2_findKinds_j102_s0 ss ts sz i) x4_54 ) (va_cwS 3 hts gX2_findKinds_X2_kindOf rfl rfl rfl (by decide +kernel) ⟨Nat.le_of_ble_eq_true rfl, Nat.le_of_ble_eq_true rfl⟩) (hP.sub (ws' := []) [] rfl) (hK.sub [] rfl) rfl hl.1 rfl (Nat.le_of_ble_eq_true rfl) dX2_findKinds_116 ⟨Nat.le_of_ble_eq_true rfl, Nat.le_of_ble_eq_true rfl⟩ (fun r9 hr9 => ?_)
                  subst hr9
                  refine wr_iast (x := m_X2_kindOf (ss i) (m_X2_findKinds_j102_s0 ss ts sz i) x4_54) hx hb hK hP hD hS 3 0 rfl rfl (i) (by omega) (by omega) dX2_findKinds_119 (fun H locs hP hD hS => ?_)
                  have hP : va_P (dC, dI) vwCl [(h0, .inr (3, [.ref h1, .ref h2, .ref h3, .ref h4, .ref h5, .int (nI sz)])), (h1, .inl (cA, 80, .inl ss)), (h2, .inl (cA, 80, .inl ts)), (h4, .inl (cA, 80, .inl (upd ks_54 i (m_X2_kindOf (ss i) (m_X2_findKinds_j102_s0 ss ts sz i) x4_54))))] H := hP
                  have hD : va_D A [(h0, .inr (3, [.ref h1, .ref h2, .ref h3, .ref h4, .ref h5, .int (nI sz)])), (h1, .inl (cA, 80, .inl ss)), (h2, .inl (cA, 80, .inl ts)), (h4, .inl (cA, 80, .inl (upd ks_54 i (m_X2_kindOf (ss i) (m_X2_findKinds_j102_s0 ss ts sz i) x4_54))))] := hD
                  refine lv_iload hx hb dX2_findKinds_120 (lv_at hl 5 rfl) ?_
                  refine lv_iconst (v := 1) hx hb dX2_findKinds_122 (by decide) ?_
                  refine lv_aload_n hx hb dX2_findKinds_123 rfl (lv_at hl 1 rfl) ?_
                  refine va_get (D := (dC, dI)) (ci := 3) (v := .ref h4) (C := RX2) (T := TX2) (N := 6) hx hb hts (by decide +kernel) hown hK hP 0 rfl rfl 3 (by decide) (hts (.fieldLink RX2 21 "PictureRows$Runs" "kinds" "[I") (by decide +kernel)) (fun _ h9 => h9) rfl dX2_findKinds_124 ?_
                  refine lv_iload hx hb dX2_findKinds_127 (lv_at hl 6 rfl) ?_
                  refine rd_iald hx hb hK hP 3 0 rfl rfl (i) (by omega) (by omega) dX2_findKinds_129 ?_
                  refine lv_ishl hx hb dX2_findKinds_130 ?_
                  refine lv_ior hx hb dX2_findKinds_131 ?_
                  refine lv_istore (lv' := [(4, .int (x4_54 ||| (1 <<< (((upd ks_54 i (m_X2_kindOf (ss i) (m_X2_findKinds_j102_s0 ss ts sz i) x4_54)) i) &&& 31)))), (7, .int (bI (m_X2_findKinds_j102_s0 ss ts sz i))), (0, .ref h0), (1, .int (bI (m_X2_findKinds_j15_s0 ss ts sz))), (2, .int (bI (m_X2_findKinds_j31_s0 ss ts sz))), (3, .int (bI (m_X2_findKinds_j47_s0 ss ts sz))), (5, .int (nI i)), (6, .int (ss i))]) hx hb dX2_findKinds_132 hl (by decide) rfl (fun ls hl => ?_)
                  refine lv_iinc (v := nI (i + 1)) (lv' := [(5, .int (nI (i + 1))), (4, .int (x4_54 ||| (1 <<< (((upd ks_54 i (m_X2_kindOf (ss i) (m_X2_findKinds_j102_s0 ss ts sz i) x4_54)) i) &&& 31)))), (7, .int (bI (m_X2_findKinds_j102_s0 ss ts sz i))), (0, .ref h0), (1, .int (bI (m_X2_findKinds_j15_s0 ss ts sz))), (2, .int (bI (m_X2_findKinds_j31_s0 ss ts sz))), (3, .int (bI (m_X2_findKinds_j47_s0 ss ts sz))), (6, .int (ss i))]) hx hb dX2_findKinds_134 hl (k := 6) rfl (nI_add (i) 1) (by decide) rfl (fun ls hl => ?_)
                  refine lv_goto (tgt := 54) hx hb dX2_findKinds_137 (by decide) ?_
                  exact ih54 (i + 1) (x4_54 ||| (1 <<< (((upd ks_54 i (m_X2_kindOf (ss i) (m_X2_findKinds_j102_s0 ss ts sz i) x4_54)) i) &&& 31))) (upd ks_54 i (m_X2_kindOf (ss i) (m_X2_findKinds_j102_s0 ss ts sz i) x4_54)) (by omega) (by omega)  (hm54.trans (by simp only [m_X2_findKinds_L54, if_neg c_4])) H locs hP hD hS ls (lv_sub hl [3, 4, 5, 6, 1, 0] rfl)
                refine lv_icmp_ne (tgt := 90) hx hb dX2_findKinds_83 (by decide) (fun c_7 => ?_) (fun c_7 => ?_)
                · skip
                  refine lv_iload hx hb dX2_findKinds_90 (lv_at hl 0 rfl) ?_
                  refine lv_bipush (v := 45) hx hb dX2_findKinds_92 (by decide) ?_
                  refine lv_icmp_ne (tgt := 101) hx hb dX2_findKinds_94 (by decide) (fun c_8 => ?_) (fun c_8 => ?_)
                  · skip
                    refine lv_iload_n hx hb dX2_findKinds_101 rfl (lv_at hl 4 rfl) ?_
                    exact j_6 (m_X2_findKinds_j47_s0 ss ts sz) (by simp only [m_X2_findKinds_j102_s0, if_neg c_7, if_neg c_8]) ls (lv_sub hl [1, 2, 3, 4, 5, 6, 0] rfl)
                  · skip
                    refine lv_iload_n hx hb dX2_findKinds_97 rfl (lv_at hl 3 rfl) ?_
                    refine lv_goto (tgt := 102) hx hb dX2_findKinds_98 (by decide) ?_
                    exact j_6 (m_X2_findKinds_j31_s0 ss ts sz) (by simp only [m_X2_findKinds_j102_s0, if_neg c_7, if_pos c_8]) ls (lv_sub hl [1, 2, 3, 4, 5, 6, 0] rfl)
                · skip
                  refine lv_iload_n hx hb dX2_findKinds_86 rfl (lv_at hl 2 rfl) ?_
                  refine lv_goto (tgt := 102) hx hb dX2_findKinds_87 (by decide) ?_
                  exact j_6 (m_X2_findKinds_j15_s0 ss ts sz) (by simp only [m_X2_findKinds_j102_s0, if_pos c_7]) ls (lv_sub hl [1, 2, 3, 4, 5, 6, 0] rfl)
        exact lp_54 (sz + 1) (0) 0 ks (by omega) (by omega)  (show m_X2_findKinds ss ts ks sz = m_X2_findKinds_L54 ss ts sz (sz + 1) 0 0 ks from by simp only [m_X2_findKinds]) s.heap [] hP hD hS ls (lv_sub hl [3, 4, 5, 2, 1, 0] rfl)
      refine lv_icmp_ne (tgt := 46) hx hb dX2_findKinds_39 (by decide) (fun c_9 => ?_) (fun c_9 => ?_)
      · skip
        refine lv_iconst (v := 0) hx hb dX2_findKinds_46 (by decide) ?_
        exact j_3 false (by simp only [m_X2_findKinds_j47_s0, if_neg c_9]) ls (lv_sub hl [1, 2, 0] rfl)
      · skip
        refine lv_iconst (v := 1) hx hb dX2_findKinds_42 (by decide) ?_
        refine lv_goto (tgt := 47) hx hb dX2_findKinds_43 (by decide) ?_
        exact j_3 true (by simp only [m_X2_findKinds_j47_s0, if_pos c_9]) ls (lv_sub hl [1, 2, 0] rfl)
    refine lv_icmp_ne (tgt := 30) hx hb dX2_findKinds_23 (by decide) (fun c_10 => ?_) (fun c_10 => ?_)
    · skip
      refine lv_iconst (v := 0) hx hb dX2_findKinds_30 (by decide) ?_
      exact j_2 false (by simp only [m_X2_findKinds_j31_s0, if_neg c_10]) ls (lv_sub hl [1, 0] rfl)
    · skip
      refine lv_iconst (v := 1) hx hb dX2_findKinds_26 (by decide) ?_
      refine lv_goto (tgt := 31) hx hb dX2_findKinds_27 (by decide) ?_
      exact j_2 true (by simp only [m_X2_findKinds_j31_s0, if_pos c_10]) ls (lv_sub hl [1, 0] rfl)
  refine lv_icmp_ne (tgt := 14) hx hb dX2_findKinds_7 (by decide) (fun c_11 => ?_) (fun c_11 => ?_)
  · skip
    refine lv_iconst (v := 0) hx hb dX2_findKinds_14 (by decide) ?_
    exact j_1 false (by simp only [m_X2_findKinds_j15_s0, if_neg c_11]) ls (lv_sub hl [0] rfl)
  · skip
    refine lv_iconst (v := 1) hx hb dX2_findKinds_10 (by decide) ?_
    refine lv_goto (tgt := 15) hx hb dX2_findKinds_11 (by decide) ?_
    exact j_1 true (by simp only [m_X2_findKinds_j15_s0, if_pos c_11]) ls (lv_sub hl [0] rfl)
def m_X2_findDigits_j89_l2 (ss : Nat → Int32) (ts : Nat → Int32) (ks : Nat → Int32) (i : Nat) : Int32 := if (m_X4_holds 200896 (ks i)) = false then (if (m_X4_holds 3840 (ks i)) = false then 0 else (if (m_X2_standsAhead ss (ss i) i) = false then (ts i) - 1 else ts i)) else ts i
def m_X2_findDigits_j88_s0 (ss : Nat → Int32) (ts : Nat → Int32) (i : Nat) : Int32 := if (m_X2_standsAhead ss (ss i) i) = false then (ts i) - 1 else ts i
def m_X2_findDigits_L2 (ss : Nat → Int32) (ts : Nat → Int32) (ks : Nat → Int32) (sz : Nat) : Nat → Nat → (Nat → Int32) → (Nat → Int32)
  | 0, _, _ => fun _ => 0
  | k2 + 1, i, ds_2 => if sz ≤ i then ds_2 else (m_X2_findDigits_L2 ss ts ks sz k2 (i + 1) (upd ds_2 i (m_X2_findDigits_j89_l2 ss ts ks i)))
def m_X2_findDigits (ss : Nat → Int32) (ts : Nat → Int32) (ks : Nat → Int32) (ds : Nat → Int32) (sz : Nat) : (Nat → Int32) := m_X2_findDigits_L2 ss ts ks sz (sz + 1) 0 ds
set_option maxHeartbeats 4000000 in
set_option maxRecDepth 100000 in
theorem c_X2_findDigits (l : Launch) (dC : Nat → ClassId) (dI : Nat → Nat → Nat) (h0 : Nat) (h1 : Nat) (h2 : Nat) (h3 : Nat) (h4 : Nat) (h5 : Nat) (cA : ClassId) (ss : Nat → Int32) (ts : Nat → Int32) (ks : Nat → Int32) (ds : Nat → Int32) (sz : Nat) (zz : Nat) (hsz : sz ≤ 80) : Met l yX2_findDigits wsX2_findDigits ({ frames := 1, cells := 0, slots := 0, locals := 23 } : Room) (va_Pc [.ref h0] (wr_P (dC, dI) vwCl [(h0, .inr (3, [.ref h1, .ref h2, .ref h3, .ref h4, .ref h5, .int (nI sz)])), (h1, .inl (cA, 80, .inl ss)), (h2, .inl (cA, 80, .inl ts)), (h4, .inl (cA, 80, .inl ks)), (h5, .inl (cA, 80, .inl ds))] [(cA, .int)] zz)) (va_Qv (S := Unit) (fun _ => True) (wr_B (dC, dI) vwCl (fun u9 => [(h0, .inr (3, [.ref h1, .ref h2, .ref h3, .ref h4, .ref h5, .int (nI sz)])), (h1, .inl (cA, 80, .inl ss)), (h2, .inl (cA, 80, .inl ts)), (h4, .inl (cA, 80, .inl ks)), (h5, .inl (cA, 80, .inl (m_X2_findDigits ss ts ks ds sz)))]) [(cA, .int)] (va_A [(h0, .inr (3, [.ref h1, .ref h2, .ref h3, .ref h4, .ref h5, .int (nI sz)])), (h1, .inl (cA, 80, .inl ss)), (h2, .inl (cA, 80, .inl ts)), (h4, .inl (cA, 80, .inl ks)), (h5, .inl (cA, 80, .inl ds))] zz)) (va_A [(h0, .inr (3, [.ref h1, .ref h2, .ref h3, .ref h4, .ref h5, .int (nI sz)])), (h1, .inl (cA, 80, .inl ss)), (h2, .inl (cA, 80, .inl ts)), (h4, .inl (cA, 80, .inl ks)), (h5, .inl (cA, 80, .inl ds))] zz)) 0 0 (va_A [(h0, .inr (3, [.ref h1, .ref h2, .ref h3, .ref h4, .ref h5, .int (nI sz)])), (h1, .inl (cA, 80, .inl ss)), (h2, .inl (cA, 80, .inl ts)), (h4, .inl (cA, 80, .inl ks)), (h5, .inl (cA, 80, .inl ds))] zz) := by
  refine Met.ofW (cc := cX2_findDigits) (maxL := 3) (ret := none) (by decide) rfl ?_
  intro p e s m args below meth c s₁ B hml hv
  obtain ⟨rfl, hsz0, hE, hP, hK, hD0⟩ := hv
  have hx := B.exec
  have hb := B.bytes
  have hr := B.returns
  have hts := atoms_spec (ws := wsX2_findDigits) B.pre
  have hown : s.vm.findClass RX2 = some m.cls := findClass_of_methodNamed B.named
  have hlocks := B.notSynchronized
  subst hsz0
  have hD := hD0.self (sz := s.heap.size)
  generalize hAe : va_A [(h0, .inr (3, [.ref h1, .ref h2, .ref h3, .ref h4, .ref h5, .int (nI sz)])), (h1, .inl (cA, 80, .inl ss)), (h2, .inl (cA, 80, .inl ts)), (h4, .inl (cA, 80, .inl ks)), (h5, .inl (cA, 80, .inl ds))] s.heap.size = A at hD hE ⊢
  have hA : ∀ q : Nat, s.heap.size ≤ q → A q := fun q h => by rw [← hAe]; exact Or.inr h
  have hS : va_S A s.heap s.heap [] := va_S.rf
  have hP : va_P (dC, dI) vwCl [(h0, .inr (3, [.ref h1, .ref h2, .ref h3, .ref h4, .ref h5, .int (nI sz)])), (h1, .inl (cA, 80, .inl ss)), (h2, .inl (cA, 80, .inl ts)), (h4, .inl (cA, 80, .inl ks)), (h5, .inl (cA, 80, .inl ds))] s.heap := hP
  have hl := lv_entry ([.ref h0]) (n := 3) (Nat.le_of_ble_eq_true rfl)
  rw [lg_entry_eq]
  generalize (lg_sl ([.ref h0]) ++ List.replicate (3 - (lg_sl ([.ref h0])).length) Slot.unset).toArray = ls at hl ⊢
  have hl : lv_has ls 3 [(0, .ref h0)] := hl
  refine lv_iconst (v := 0) hx hb dX2_findDigits_0 (by decide) ?_
  refine lv_istore_n (lv' := [(1, .int 0), (0, .ref h0)]) hx hb dX2_findDigits_1 rfl hl (by decide) rfl (fun ls hl => ?_)
  have lp_2 : ∀ (k2 i : Nat) (ds_2 : Nat → Int32), i ≤ sz → sz + 1 ≤ i + k2 → m_X2_findDigits ss ts ks ds sz = m_X2_findDigits_L2 ss ts ks sz k2 i ds_2 → ∀ (H : Heap) (locs : List Loc), va_P (dC, dI) vwCl [(h0, .inr (3, [.ref h1, .ref h2, .ref h3, .ref h4, .ref h5, .int (nI sz)])), (h1, .inl (cA, 80, .inl ss)), (h2, .inl (cA, 80, .inl ts)), (h4, .inl (cA, 80, .inl ks)), (h5, .inl (cA, 80, .inl ds_2))] H → va_D A [(h0, .inr (3, [.ref h1, .ref h2, .ref h3, .ref h4, .ref h5, .int (nI sz)])), (h1, .inl (cA, 80, .inl ss)), (h2, .inl (cA, 80, .inl ts)), (h4, .inl (cA, 80, .inl ks)), (h5, .inl (cA, 80, .inl ds_2))] → va_S A s.heap H locs → ∀ (ls : Array Slot), lv_has ls 3 [(0, .ref h0), (1, .int (nI i))] → W p l e (headSpec wsX2_findDigits ({ frames := 1, cells := 0, slots := 0, locals := 23 } : Room)).room s m (([.ref h0] : List Value).toArray) below meth c H locs 0 0 (MQ below (va_Qv (S := Unit) (fun _ => True) (wr_B (dC, dI) vwCl (fun u9 => [(h0, .inr (3, [.ref h1, .ref h2, .ref h3, .ref h4, .ref h5, .int (nI sz)])), (h1, .inl (cA, 80, .inl ss)), (h2, .inl (cA, 80, .inl ts)), (h4, .inl (cA, 80, .inl ks)), (h5, .inl (cA, 80, .inl (m_X2_findDigits ss ts ks ds sz)))]) [(cA, .int)] A) A) (([.ref h0] : List Value).toArray) s 0 0 A) (F0 m 2 ls []) := by
    intro k2
    induction k2 with
    | zero => intro i ds_2 h1_ h2_; exfalso; omega
    | succ k2 ih2 =>
      intro i ds_2 hb2 hf2  hm2 H locs hP hD hS ls hl
      refine lv_iload_n hx hb dX2_findDigits_2 rfl (lv_at hl 1 rfl) ?_
      refine lv_aload_n hx hb dX2_findDigits_3 rfl (lv_at hl 0 rfl) ?_
      refine va_get (D := (dC, dI)) (ci := 3) (v := .int (nI sz)) (C := RX2) (T := TX2) (N := 6) hx hb hts (by decide +kernel) hown hK hP 0 rfl rfl 5 (by decide) (hts (.fieldLink RX2 27 "PictureRows$Runs" "size" "I") (by decide +kernel)) (fun _ h9 => h9) rfl dX2_findDigits_4 ?_
      refine lv_icmp_ge (tgt := 102) hx hb dX2_findDigits_7 (by decide) (fun c_1 => ?_) (fun c_1 => ?_)
      · skip
        have c_1 : sz ≤ i := (nI_leI (a := sz) (b := i) (by omega) (by omega)).mp c_1
        have hmE : m_X2_findDigits ss ts ks ds sz = ds_2 := hm2.trans (by simp only [m_X2_findDigits_L2, if_pos c_1])
        exact wr_vret () hx hb hr hlocks hK hS trivial (by rw [hmE]; exact hP) (by rw [hmE]; exact hD) dX2_findDigits_102
      · skip
        have c_1 : ¬ sz ≤ i := (fun q_ => c_1 ((nI_leI (a := sz) (b := i) (by omega) (by omega)).mpr q_))
        refine lv_iload_n hx hb dX2_findDigits_10 rfl (lv_at hl 1 rfl) ?_
        refine lv_bipush (v := 80) hx hb dX2_findDigits_11 (by decide) ?_
        refine lv_icmp_ge (tgt := 102) hx hb dX2_findDigits_13 (by decide) (fun c_2 => ?_) (fun c_2 => ?_)
        · skip
          have c_2 : 80 ≤ i := (nI_leI (a := 80) (b := i) (by omega) (by omega)).mp c_2
          exfalso; omega
        · skip
          have c_2 : ¬ 80 ≤ i := (fun q_ => c_2 ((nI_leI (a := 80) (b := i) (by omega) (by omega)).mpr q_))
          refine lv_iconst (v := 0) hx hb dX2_findDigits_16 (by decide) ?_
          refine lv_istore_n (lv' := [(2, .int 0), (0, .ref h0), (1, .int (nI i))]) hx hb dX2_findDigits_17 rfl hl (by decide) rfl (fun ls hl => ?_)
          refine lv_ldc (v := 200896) hx hb hown (hts (.constant RX2 66 200896) (by decide +kernel)) dX2_findDigits_18 ?_
          refine lv_aload_n hx hb dX2_findDigits_20 rfl (lv_at hl 1 rfl) ?_
          refine va_get (D := (dC, dI)) (ci := 3) (v := .ref h4) (C := RX2) (T := TX2) (N := 6) hx hb hts (by decide +kernel) hown hK hP 0 rfl rfl 3 (by decide) (hts (.fieldLink RX2 21 "PictureRows$Runs" "kinds" "[I") (by decide +kernel)) (fun _ h9 => h9) rfl dX2_findDigits_21 ?_
          refine lv_iload_n hx hb dX2_findDigits_24 rfl (lv_at hl 2 rfl) ?_
          refine rd_iald hx hb hK hP 3 0 rfl rfl (i) (by omega) (by omega) dX2_findDigits_25 ?_
          refine rd_callSN (As := [.int 200896, .int (ks i)]) (rest := []) ⟨hx, hb, hml, hown, hts⟩ (hE.rd hS) (c_X4_holds l dC dI 200896 (ks i) ) ⟨va_cnB 2 hts gX2_findDigits_X4_holds_n67 rfl rfl rfl (hE.1.2 ("PictureRows$Runs", 67, yX4_holds) (by decide)) (hts (.initialized RX4) (by decide +kernel)) (by decide +kernel) ⟨Nat.le_of_ble_eq_true rfl, Nat.le_of_ble_eq_true rfl⟩, hts (.static yX4_holds) (by decide +kernel), trivial⟩ (hP.sub (ws' := []) [] rfl) (hK.sub [] rfl) rfl hl.1 rfl (Nat.le_of_ble_eq_true rfl) dX2_findDigits_26 ⟨Nat.le_of_ble_eq_true rfl, Nat.le_of_ble_eq_true rfl⟩ (fun r9 hr9 => ?_)
          subst hr9
          have j_3 : ∀ (y0_j_3 : Int32), y0_j_3 = m_X2_findDigits_j89_l2 ss ts ks i → ∀ (ls : Array Slot), lv_has ls 3 [(0, .ref h0), (1, .int (nI i)), (2, .int y0_j_3)] → W p l e (headSpec wsX2_findDigits ({ frames := 1, cells := 0, slots := 0, locals := 23 } : Room)).room s m (([.ref h0] : List Value).toArray) below meth c H locs 0 0 (MQ below (va_Qv (S := Unit) (fun _ => True) (wr_B (dC, dI) vwCl (fun u9 => [(h0, .inr (3, [.ref h1, .ref h2, .ref h3, .ref h4, .ref h5, .int (nI sz)])), (h1, .inl (cA, 80, .inl ss)), (h2, .inl (cA, 80, .inl ts)), (h4, .inl (cA, 80, .inl ks)), (h5, .inl (cA, 80, .inl (m_X2_findDigits ss ts ks ds sz)))]) [(cA, .int)] A) A) (([.ref h0] : List Value).toArray) s 0 0 A) (F0 m 89 ls []) := by
            intro y0_j_3 ey0_j_3 ls hl
            subst ey0_j_3
            refine lv_aload_n hx hb dX2_findDigits_89 rfl (lv_at hl 0 rfl) ?_
            refine va_get (D := (dC, dI)) (ci := 3) (v := .ref h5) (C := RX2) (T := TX2) (N := 6) hx hb hts (by decide +kernel) hown hK hP 0 rfl rfl 4 (by decide) (hts (.fieldLink RX2 24 "PictureRows$Runs" "digitCounts" "[I") (by decide +kernel)) (fun _ h9 => h9) rfl dX2_findDigits_90 ?_
            refine lv_iload_n hx hb dX2_findDigits_93 rfl (lv_at hl 1 rfl) ?_
            refine lv_iload_n hx hb dX2_findDigits_94 rfl (lv_at hl 2 rfl) ?_
            refine wr_iast (x := m_X2_findDigits_j89_l2 ss ts ks i) hx hb hK hP hD hS 4 0 rfl rfl (i) (by omega) (by omega) dX2_findDigits_95 (fun H locs hP hD hS => ?_)
            have hP : va_P (dC, dI) vwCl [(h0, .inr (3, [.ref h1, .ref h2, .ref h3, .ref h4, .ref h5, .int (nI sz)])), (h1, .inl (cA, 80, .inl ss)), (h2, .inl (cA, 80, .inl ts)), (h4, .inl (cA, 80, .inl ks)), (h5, .inl (cA, 80, .inl (upd ds_2 i (m_X2_findDigits_j89_l2 ss ts ks i))))] H := hP
            have hD : va_D A [(h0, .inr (3, [.ref h1, .ref h2, .ref h3, .ref h4, .ref h5, .int (nI sz)])), (h1, .inl (cA, 80, .inl ss)), (h2, .inl (cA, 80, .inl ts)), (h4, .inl (cA, 80, .inl ks)), (h5, .inl (cA, 80, .inl (upd ds_2 i (m_X2_findDigits_j89_l2 ss ts ks i))))] := hD
            refine lv_iinc (v := nI (i + 1)) (lv' := [(1, .int (nI (i + 1))), (0, .ref h0), (2, .int (m_X2_findDigits_j89_l2 ss ts ks i))]) hx hb dX2_findDigits_96 hl (k := 1) rfl (nI_add (i) 1) (by decide) rfl (fun ls hl => ?_)
            refine lv_goto (tgt := 2) hx hb dX2_findDigits_99 (by decide) ?_
            exact ih2 (i + 1) (upd ds_2 i (m_X2_findDigits_j89_l2 ss ts ks i)) (by omega) (by omega)  (hm2.trans (by simp only [m_X2_findDigits_L2, if_neg c_1])) H locs hP hD hS ls (lv_sub hl [1, 0] rfl)
          refine lv_if_eq (tgt := 42) hx hb dX2_findDigits_29 (by decide) (fun c_4 => ?_) (fun c_4 => ?_)
          · skip
            have c_4 := bI_0 c_4
            refine lv_sipush (v := 3840) hx hb dX2_findDigits_42 (by decide) ?_
            refine lv_aload_n hx hb dX2_findDigits_45 rfl (lv_at hl 1 rfl) ?_
            refine va_get (D := (dC, dI)) (ci := 3) (v := .ref h4) (C := RX2) (T := TX2) (N := 6) hx hb hts (by decide +kernel) hown hK hP 0 rfl rfl 3 (by decide) (hts (.fieldLink RX2 21 "PictureRows$Runs" "kinds" "[I") (by decide +kernel)) (fun _ h9 => h9) rfl dX2_findDigits_46 ?_
            refine lv_iload_n hx hb dX2_findDigits_49 rfl (lv_at hl 2 rfl) ?_
            refine rd_iald hx hb hK hP 3 0 rfl rfl (i) (by omega) (by omega) dX2_findDigits_50 ?_
            refine rd_callSN (As := [.int 3840, .int (ks i)]) (rest := []) ⟨hx, hb, hml, hown, hts⟩ (hE.rd hS) (c_X4_holds l dC dI 3840 (ks i) ) ⟨va_cnB 2 hts gX2_findDigits_X4_holds_n67 rfl rfl rfl (hE.1.2 ("PictureRows$Runs", 67, yX4_holds) (by decide)) (hts (.initialized RX4) (by decide +kernel)) (by decide +kernel) ⟨Nat.le_of_ble_eq_true rfl, Nat.le_of_ble_eq_true rfl⟩, hts (.static yX4_holds) (by decide +kernel), trivial⟩ (hP.sub (ws' := []) [] rfl) (hK.sub [] rfl) rfl hl.1 rfl (Nat.le_of_ble_eq_true rfl) dX2_findDigits_51 ⟨Nat.le_of_ble_eq_true rfl, Nat.le_of_ble_eq_true rfl⟩ (fun r9 hr9 => ?_)
            subst hr9
            refine lv_if_eq (tgt := 89) hx hb dX2_findDigits_54 (by decide) (fun c_5 => ?_) (fun c_5 => ?_)
            · skip
              have c_5 := bI_0 c_5
              exact j_3 0 (by simp only [m_X2_findDigits_j89_l2, if_pos c_4, if_pos c_5]) ls (lv_sub hl [1, 2, 0] rfl)
            · skip
              have c_5 := bI_n0 c_5
              refine lv_aload_n hx hb dX2_findDigits_57 rfl (lv_at hl 1 rfl) ?_
              refine lv_aload_n hx hb dX2_findDigits_58 rfl (lv_at hl 1 rfl) ?_
              refine va_get (D := (dC, dI)) (ci := 3) (v := .ref h1) (C := RX2) (T := TX2) (N := 6) hx hb hts (by decide +kernel) hown hK hP 0 rfl rfl 0 (by decide) (hts (.fieldLink RX2 9 "PictureRows$Runs" "signs" "[I") (by decide +kernel)) (fun _ h9 => h9) rfl dX2_findDigits_59 ?_
              refine lv_iload_n hx hb dX2_findDigits_62 rfl (lv_at hl 2 rfl) ?_
              refine rd_iald hx hb hK hP 1 0 rfl rfl (i) (by omega) (by omega) dX2_findDigits_63 ?_
              refine lv_iload_n hx hb dX2_findDigits_64 rfl (lv_at hl 2 rfl) ?_
              refine rd_callV (As := [.int (ss i), .int (nI i)]) (rest := []) ⟨hx, hb, hml, hown, hts⟩ (hE.rd hS) (c_X2_standsAhead l dC dI h0 h1 h2 h3 h4 h5 cA sz ss (ss i) i (by omega) (by omega)) (cwV 2 hts gX2_findDigits_X2_standsAhead rfl rfl rfl (by decide +kernel) ⟨Nat.le_of_ble_eq_true rfl, Nat.le_of_ble_eq_true rfl⟩) (hP.sub (ws' := [(h0, .inr (3, [.ref h1, .ref h2, .ref h3, .ref h4, .ref h5, .int (nI sz)])), (h1, .inl (cA, 80, .inl ss))]) [0, 1] rfl) (hK.sub [0] rfl) (va_recv hK hP (ci := 3) (q0 := 0) rfl rfl) rfl hl.1 rfl (Nat.le_of_ble_eq_true rfl) dX2_findDigits_65 ⟨Nat.le_of_ble_eq_true rfl, Nat.le_of_ble_eq_true rfl⟩ (fun r9 hr9 => ?_)
              subst hr9
              have j_6 : ∀ (y0_j_6 : Int32), y0_j_6 = m_X2_findDigits_j88_s0 ss ts i → ∀ (ls : Array Slot), lv_has ls 3 [(0, .ref h0), (1, .int (nI i)), (2, .int 0)] → W p l e (headSpec wsX2_findDigits ({ frames := 1, cells := 0, slots := 0, locals := 23 } : Room)).room s m (([.ref h0] : List Value).toArray) below meth c H locs 0 0 (MQ below (va_Qv (S := Unit) (fun _ => True) (wr_B (dC, dI) vwCl (fun u9 => [(h0, .inr (3, [.ref h1, .ref h2, .ref h3, .ref h4, .ref h5, .int (nI sz)])), (h1, .inl (cA, 80, .inl ss)), (h2, .inl (cA, 80, .inl ts)), (h4, .inl (cA, 80, .inl ks)), (h5, .inl (cA, 80, .inl (m_X2_findDigits ss ts ks ds sz)))]) [(cA, .int)] A) A) (([.ref h0] : List Value).toArray) s 0 0 A) (F0 m 88 ls [.int y0_j_6]) := by
                intro y0_j_6 ey0_j_6 ls hl
                subst ey0_j_6
                refine lv_istore_n (lv' := [(2, .int (m_X2_findDigits_j88_s0 ss ts i)), (0, .ref h0), (1, .int (nI i))]) hx hb dX2_findDigits_88 rfl hl (by decide) rfl (fun ls hl => ?_)
                exact j_3 (m_X2_findDigits_j88_s0 ss ts i) (by simp only [m_X2_findDigits_j89_l2, m_X2_findDigits_j88_s0, if_pos c_4, if_neg c_5]) ls (lv_sub hl [1, 2, 0] rfl)
              refine lv_if_eq (tgt := 80) hx hb dX2_findDigits_68 (by decide) (fun c_7 => ?_) (fun c_7 => ?_)
              · skip
                have c_7 := bI_0 c_7
                refine lv_aload_n hx hb dX2_findDigits_80 rfl (lv_at hl 1 rfl) ?_
                refine va_get (D := (dC, dI)) (ci := 3) (v := .ref h2) (C := RX2) (T := TX2) (N := 6) hx hb hts (by decide +kernel) hown hK hP 0 rfl rfl 1 (by decide) (hts (.fieldLink RX2 15 "PictureRows$Runs" "times" "[I") (by decide +kernel)) (fun _ h9 => h9) rfl dX2_findDigits_81 ?_
                refine lv_iload_n hx hb dX2_findDigits_84 rfl (lv_at hl 2 rfl) ?_
                refine rd_iald hx hb hK hP 2 0 rfl rfl (i) (by omega) (by omega) dX2_findDigits_85 ?_
                refine lv_iconst (v := 1) hx hb dX2_findDigits_86 (by decide) ?_
                refine lv_isub hx hb dX2_findDigits_87 ?_
                exact j_6 ((ts i) - 1) (by simp only [m_X2_findDigits_j88_s0, if_pos c_7]) ls (lv_sub hl [1, 2, 0] rfl)
              · skip
                have c_7 := bI_n0 c_7
                refine lv_aload_n hx hb dX2_findDigits_71 rfl (lv_at hl 1 rfl) ?_
                refine va_get (D := (dC, dI)) (ci := 3) (v := .ref h2) (C := RX2) (T := TX2) (N := 6) hx hb hts (by decide +kernel) hown hK hP 0 rfl rfl 1 (by decide) (hts (.fieldLink RX2 15 "PictureRows$Runs" "times" "[I") (by decide +kernel)) (fun _ h9 => h9) rfl dX2_findDigits_72 ?_
                refine lv_iload_n hx hb dX2_findDigits_75 rfl (lv_at hl 2 rfl) ?_
                refine rd_iald hx hb hK hP 2 0 rfl rfl (i) (by omega) (by omega) dX2_findDigits_76 ?_
                refine lv_goto (tgt := 88) hx hb dX2_findDigits_77 (by decide) ?_
                exact j_6 (ts i) (by simp only [m_X2_findDigits_j88_s0, if_neg c_7]) ls (lv_sub hl [1, 2, 0] rfl)
          · skip
            have c_4 := bI_n0 c_4
            refine lv_aload_n hx hb dX2_findDigits_32 rfl (lv_at hl 1 rfl) ?_
            refine va_get (D := (dC, dI)) (ci := 3) (v := .ref h2) (C := RX2) (T := TX2) (N := 6) hx hb hts (by decide +kernel) hown hK hP 0 rfl rfl 1 (by decide) (hts (.fieldLink RX2 15 "PictureRows$Runs" "times" "[I") (by decide +kernel)) (fun _ h9 => h9) rfl dX2_findDigits_33 ?_
            refine lv_iload_n hx hb dX2_findDigits_36 rfl (lv_at hl 2 rfl) ?_
            refine rd_iald hx hb hK hP 2 0 rfl rfl (i) (by omega) (by omega) dX2_findDigits_37 ?_
            refine lv_istore_n (lv' := [(2, .int (ts i)), (0, .ref h0), (1, .int (nI i))]) hx hb dX2_findDigits_38 rfl hl (by decide) rfl (fun ls hl => ?_)
            refine lv_goto (tgt := 89) hx hb dX2_findDigits_39 (by decide) ?_
            exact j_3 (ts i) (by simp only [m_X2_findDigits_j89_l2, m_X2_findDigits_j88_s0, if_neg c_4]) ls (lv_sub hl [1, 2, 0] rfl)
  exact lp_2 (sz + 1) (0) ds (by omega) (by omega)  (show m_X2_findDigits ss ts ks ds sz = m_X2_findDigits_L2 ss ts ks sz (sz + 1) 0 ds from by simp only [m_X2_findDigits]) s.heap [] hP hD hS ls (lv_sub hl [1, 0] rfl)
