def m_X4_holds (a : Int32) (k : Int32) : Bool := if ((a >>> (k &&& 31)) &&& 1) = 0 then false else true
set_option maxHeartbeats 4000000 in
set_option maxRecDepth 100000 in
theorem c_X4_holds (l : Launch) (dC : Nat → ClassId) (dI : Nat → Nat → Nat) (a : Int32) (k : Int32) : Met l yX4_holds wsX4_holds ({ frames := 0, cells := 0, slots := 0, locals := 0 } : Room) (va_Pc [.int a, .int k] (rd_P (dC, dI) vwCl [] [])) (vp_Si (fun r => r = bI (m_X4_holds a k))) 0 0 (fun _ => False) := by
  refine Met.ofW (cc := cX4_holds) (maxL := 2) (ret := (some .boolean)) (by decide) rfl ?_
  intro p e s m args below meth c s₁ B hml hv
  obtain ⟨rfl, hE, hP, hK⟩ := hv
  have hx := B.exec
  have hb := B.bytes
  have hr := B.returns
  have hts := atoms_spec (ws := wsX4_holds) B.pre
  have hown : s.vm.findClass RX4 = some m.cls := findClass_of_methodNamed B.named
  have hlocks := B.notSynchronized
  have hl := lv_entry ([.int a, .int k]) (n := 2) (Nat.le_of_ble_eq_true rfl)
  rw [lg_entry_eq]
  generalize (lg_sl ([.int a, .int k]) ++ List.replicate (2 - (lg_sl ([.int a, .int k])).length) Slot.unset).toArray = ls at hl ⊢
  have hl : lv_has ls 2 [(0, .int a), (1, .int k)] := hl
  refine lv_iload_n hx hb dX4_holds_0 rfl (lv_at hl 0 rfl) ?_
  refine lv_iload_n hx hb dX4_holds_1 rfl (lv_at hl 1 rfl) ?_
  refine lv_ishr hx hb dX4_holds_2 ?_
  refine lv_iconst (v := 1) hx hb dX4_holds_3 (by decide) ?_
  refine lv_iand hx hb dX4_holds_4 ?_
  refine lv_if_eq (tgt := 12) hx hb dX4_holds_5 (by decide) (fun c_1 => ?_) (fun c_1 => ?_)
  · skip
    refine lv_iconst (v := 0) hx hb dX4_holds_12 (by decide) ?_
    exact rd_zret (v := 0) hx hb hr hlocks rfl (by rw [(show m_X4_holds a k = false from by simp only [m_X4_holds, if_pos c_1])]; rfl) dX4_holds_13
  · skip
    refine lv_iconst (v := 1) hx hb dX4_holds_8 (by decide) ?_
    refine lv_goto (tgt := 13) hx hb dX4_holds_9 (by decide) ?_
    exact rd_zret (v := 1) hx hb hr hlocks rfl (by rw [(show m_X4_holds a k = true from by simp only [m_X4_holds, if_neg c_1])]; rfl) dX4_holds_13
def m_X4_isKind (k : Int32) : Bool := if k < 0 then false else (if 19 ≤ k then false else true)
set_option maxHeartbeats 4000000 in
set_option maxRecDepth 100000 in
theorem c_X4_isKind (l : Launch) (dC : Nat → ClassId) (dI : Nat → Nat → Nat) (k : Int32) : Met l yX4_isKind wsX4_isKind ({ frames := 0, cells := 0, slots := 0, locals := 0 } : Room) (va_Pc [.int k] (rd_P (dC, dI) vwCl [] [])) (vp_Si (fun r => r = bI (m_X4_isKind k))) 0 0 (fun _ => False) := by
  refine Met.ofW (cc := cX4_isKind) (maxL := 1) (ret := (some .boolean)) (by decide) rfl ?_
  intro p e s m args below meth c s₁ B hml hv
  obtain ⟨rfl, hE, hP, hK⟩ := hv
  have hx := B.exec
  have hb := B.bytes
  have hr := B.returns
  have hts := atoms_spec (ws := wsX4_isKind) B.pre
  have hown : s.vm.findClass RX4 = some m.cls := findClass_of_methodNamed B.named
  have hlocks := B.notSynchronized
  have hl := lv_entry ([.int k]) (n := 1) (Nat.le_of_ble_eq_true rfl)
  rw [lg_entry_eq]
  generalize (lg_sl ([.int k]) ++ List.replicate (1 - (lg_sl ([.int k])).length) Slot.unset).toArray = ls at hl ⊢
  have hl : lv_has ls 1 [(0, .int k)] := hl
  refine lv_iload_n hx hb dX4_isKind_0 rfl (lv_at hl 0 rfl) ?_
  refine lv_if_lt (tgt := 14) hx hb dX4_isKind_1 (by decide) (fun c_1 => ?_) (fun c_1 => ?_)
  · skip
    refine lv_iconst (v := 0) hx hb dX4_isKind_14 (by decide) ?_
    exact rd_zret (v := 0) hx hb hr hlocks rfl (by rw [(show m_X4_isKind k = false from by simp only [m_X4_isKind, if_pos c_1])]; rfl) dX4_isKind_15
  · skip
    refine lv_iload_n hx hb dX4_isKind_4 rfl (lv_at hl 0 rfl) ?_
    refine lv_bipush (v := 19) hx hb dX4_isKind_5 (by decide) ?_
    refine lv_icmp_ge (tgt := 14) hx hb dX4_isKind_7 (by decide) (fun c_2 => ?_) (fun c_2 => ?_)
    · skip
      refine lv_iconst (v := 0) hx hb dX4_isKind_14 (by decide) ?_
      exact rd_zret (v := 0) hx hb hr hlocks rfl (by rw [(show m_X4_isKind k = false from by simp only [m_X4_isKind, if_neg c_1, if_pos c_2])]; rfl) dX4_isKind_15
    · skip
      refine lv_iconst (v := 1) hx hb dX4_isKind_10 (by decide) ?_
      refine lv_goto (tgt := 15) hx hb dX4_isKind_11 (by decide) ?_
      exact rd_zret (v := 1) hx hb hr hlocks rfl (by rw [(show m_X4_isKind k = true from by simp only [m_X4_isKind, if_neg c_1, if_neg c_2])]; rfl) dX4_isKind_15
def m_X4_greatOf (ch : Int32) : Int32 := if ch < 97 then ch else (if 122 < ch then ch else ((ch - 97) + 65))
set_option maxHeartbeats 4000000 in
set_option maxRecDepth 100000 in
theorem c_X4_greatOf (l : Launch) (dC : Nat → ClassId) (dI : Nat → Nat → Nat) (ch : Int32) : Met l yX4_greatOf wsX4_greatOf ({ frames := 0, cells := 0, slots := 0, locals := 0 } : Room) (va_Pc [.int ch] (rd_P (dC, dI) vwCl [] [])) (vp_Si (fun r => r = m_X4_greatOf ch)) 0 0 (fun _ => False) := by
  refine Met.ofW (cc := cX4_greatOf) (maxL := 1) (ret := (some .int)) (by decide) rfl ?_
  intro p e s m args below meth c s₁ B hml hv
  obtain ⟨rfl, hE, hP, hK⟩ := hv
  have hx := B.exec
  have hb := B.bytes
  have hr := B.returns
  have hts := atoms_spec (ws := wsX4_greatOf) B.pre
  have hown : s.vm.findClass RX4 = some m.cls := findClass_of_methodNamed B.named
  have hlocks := B.notSynchronized
  have hl := lv_entry ([.int ch]) (n := 1) (Nat.le_of_ble_eq_true rfl)
  rw [lg_entry_eq]
  generalize (lg_sl ([.int ch]) ++ List.replicate (1 - (lg_sl ([.int ch])).length) Slot.unset).toArray = ls at hl ⊢
  have hl : lv_has ls 1 [(0, .int ch)] := hl
  refine lv_iload_n hx hb dX4_greatOf_0 rfl (lv_at hl 0 rfl) ?_
  refine lv_bipush (v := 97) hx hb dX4_greatOf_1 (by decide) ?_
  refine lv_icmp_lt (tgt := 22) hx hb dX4_greatOf_3 (by decide) (fun c_1 => ?_) (fun c_1 => ?_)
  · skip
    refine lv_iload_n hx hb dX4_greatOf_22 rfl (lv_at hl 0 rfl) ?_
    exact rd_iret (v := ch) hx hb hr hlocks (show m_X4_greatOf ch = ch from by simp only [m_X4_greatOf, if_pos c_1]).symm dX4_greatOf_23
  · skip
    refine lv_iload_n hx hb dX4_greatOf_6 rfl (lv_at hl 0 rfl) ?_
    refine lv_bipush (v := 122) hx hb dX4_greatOf_7 (by decide) ?_
    refine lv_icmp_gt (tgt := 22) hx hb dX4_greatOf_9 (by decide) (fun c_2 => ?_) (fun c_2 => ?_)
    · skip
      refine lv_iload_n hx hb dX4_greatOf_22 rfl (lv_at hl 0 rfl) ?_
      exact rd_iret (v := ch) hx hb hr hlocks (show m_X4_greatOf ch = ch from by simp only [m_X4_greatOf, if_neg c_1, if_pos c_2]).symm dX4_greatOf_23
    · skip
      refine lv_iload_n hx hb dX4_greatOf_12 rfl (lv_at hl 0 rfl) ?_
      refine lv_bipush (v := 97) hx hb dX4_greatOf_13 (by decide) ?_
      refine lv_isub hx hb dX4_greatOf_15 ?_
      refine lv_bipush (v := 65) hx hb dX4_greatOf_16 (by decide) ?_
      refine lv_iadd hx hb dX4_greatOf_18 ?_
      refine lv_goto (tgt := 23) hx hb dX4_greatOf_19 (by decide) ?_
      exact rd_iret (v := (ch - 97) + 65) hx hb hr hlocks (show m_X4_greatOf ch = (ch - 97) + 65 from by simp only [m_X4_greatOf, if_neg c_1, if_neg c_2]).symm dX4_greatOf_23
def m_X4_widthOf (sg : Int32) : Nat := if sg = 67 then 2 else (if sg = 68 then 2 else 1)
set_option maxHeartbeats 4000000 in
set_option maxRecDepth 100000 in
theorem c_X4_widthOf (l : Launch) (dC : Nat → ClassId) (dI : Nat → Nat → Nat) (sg : Int32) : Met l yX4_widthOf wsX4_widthOf ({ frames := 0, cells := 0, slots := 0, locals := 0 } : Room) (va_Pc [.int sg] (rd_P (dC, dI) vwCl [] [])) (vp_Si (fun r => r = nI (m_X4_widthOf sg))) 0 0 (fun _ => False) := by
  refine Met.ofW (cc := cX4_widthOf) (maxL := 1) (ret := (some .int)) (by decide) rfl ?_
  intro p e s m args below meth c s₁ B hml hv
  obtain ⟨rfl, hE, hP, hK⟩ := hv
  have hx := B.exec
  have hb := B.bytes
  have hr := B.returns
  have hts := atoms_spec (ws := wsX4_widthOf) B.pre
  have hown : s.vm.findClass RX4 = some m.cls := findClass_of_methodNamed B.named
  have hlocks := B.notSynchronized
  have hl := lv_entry ([.int sg]) (n := 1) (Nat.le_of_ble_eq_true rfl)
  rw [lg_entry_eq]
  generalize (lg_sl ([.int sg]) ++ List.replicate (1 - (lg_sl ([.int sg])).length) Slot.unset).toArray = ls at hl ⊢
  have hl : lv_has ls 1 [(0, .int sg)] := hl
  refine lv_iload_n hx hb dX4_widthOf_0 rfl (lv_at hl 0 rfl) ?_
  refine lv_bipush (v := 67) hx hb dX4_widthOf_1 (by decide) ?_
  refine lv_icmp_eq (tgt := 12) hx hb dX4_widthOf_3 (by decide) (fun c_1 => ?_) (fun c_1 => ?_)
  · skip
    refine lv_iconst (v := 2) hx hb dX4_widthOf_12 (by decide) ?_
    refine lv_goto (tgt := 17) hx hb dX4_widthOf_13 (by decide) ?_
    exact rd_iret (v := 2) hx hb hr hlocks (congrArg nI (show m_X4_widthOf sg = 2 from by simp only [m_X4_widthOf, if_pos c_1])).symm dX4_widthOf_17
  · skip
    refine lv_iload_n hx hb dX4_widthOf_6 rfl (lv_at hl 0 rfl) ?_
    refine lv_bipush (v := 68) hx hb dX4_widthOf_7 (by decide) ?_
    refine lv_icmp_ne (tgt := 16) hx hb dX4_widthOf_9 (by decide) (fun c_2 => ?_) (fun c_2 => ?_)
    · skip
      refine lv_iconst (v := 1) hx hb dX4_widthOf_16 (by decide) ?_
      exact rd_iret (v := 1) hx hb hr hlocks (congrArg nI (show m_X4_widthOf sg = 1 from by simp only [m_X4_widthOf, if_neg c_1, if_neg c_2])).symm dX4_widthOf_17
    · skip
      refine lv_iconst (v := 2) hx hb dX4_widthOf_12 (by decide) ?_
      refine lv_goto (tgt := 17) hx hb dX4_widthOf_13 (by decide) ?_
      exact rd_iret (v := 2) hx hb hr hlocks (congrArg nI (show m_X4_widthOf sg = 2 from by simp only [m_X4_widthOf, if_neg c_1, if_pos c_2])).symm dX4_widthOf_17
def m_X4_signsCounted (sg : Int32) (tm : Int32) : Int32 := if sg = 83 then 0 else (if sg = 86 then 0 else (if sg = 80 then 0 else (tm * (nI (m_X4_widthOf sg)))))
set_option maxHeartbeats 4000000 in
set_option maxRecDepth 100000 in
theorem c_X4_signsCounted (l : Launch) (dC : Nat → ClassId) (dI : Nat → Nat → Nat) (sg : Int32) (tm : Int32) : Met l yX4_signsCounted wsX4_signsCounted ({ frames := 1, cells := 0, slots := 0, locals := 20 } : Room) (va_Pc [.int sg, .int tm] (rd_P (dC, dI) vwCl [] [])) (vp_Si (fun r => r = m_X4_signsCounted sg tm)) 0 0 (fun _ => False) := by
  refine Met.ofW (cc := cX4_signsCounted) (maxL := 2) (ret := (some .int)) (by decide) rfl ?_
  intro p e s m args below meth c s₁ B hml hv
  obtain ⟨rfl, hE, hP, hK⟩ := hv
  have hx := B.exec
  have hb := B.bytes
  have hr := B.returns
  have hts := atoms_spec (ws := wsX4_signsCounted) B.pre
  have hown : s.vm.findClass RX4 = some m.cls := findClass_of_methodNamed B.named
  have hlocks := B.notSynchronized
  have hl := lv_entry ([.int sg, .int tm]) (n := 2) (Nat.le_of_ble_eq_true rfl)
  rw [lg_entry_eq]
  generalize (lg_sl ([.int sg, .int tm]) ++ List.replicate (2 - (lg_sl ([.int sg, .int tm])).length) Slot.unset).toArray = ls at hl ⊢
  have hl : lv_has ls 2 [(0, .int sg), (1, .int tm)] := hl
  refine lv_iload_n hx hb dX4_signsCounted_0 rfl (lv_at hl 0 rfl) ?_
  refine lv_bipush (v := 83) hx hb dX4_signsCounted_1 (by decide) ?_
  refine lv_icmp_eq (tgt := 18) hx hb dX4_signsCounted_3 (by decide) (fun c_1 => ?_) (fun c_1 => ?_)
  · skip
    refine lv_iconst (v := 0) hx hb dX4_signsCounted_18 (by decide) ?_
    refine lv_goto (tgt := 28) hx hb dX4_signsCounted_19 (by decide) ?_
    exact rd_iret (v := 0) hx hb hr hlocks (show m_X4_signsCounted sg tm = 0 from by simp only [m_X4_signsCounted, if_pos c_1]).symm dX4_signsCounted_28
  · skip
    refine lv_iload_n hx hb dX4_signsCounted_6 rfl (lv_at hl 0 rfl) ?_
    refine lv_bipush (v := 86) hx hb dX4_signsCounted_7 (by decide) ?_
    refine lv_icmp_eq (tgt := 18) hx hb dX4_signsCounted_9 (by decide) (fun c_2 => ?_) (fun c_2 => ?_)
    · skip
      refine lv_iconst (v := 0) hx hb dX4_signsCounted_18 (by decide) ?_
      refine lv_goto (tgt := 28) hx hb dX4_signsCounted_19 (by decide) ?_
      exact rd_iret (v := 0) hx hb hr hlocks (show m_X4_signsCounted sg tm = 0 from by simp only [m_X4_signsCounted, if_neg c_1, if_pos c_2]).symm dX4_signsCounted_28
    · skip
      refine lv_iload_n hx hb dX4_signsCounted_12 rfl (lv_at hl 0 rfl) ?_
      refine lv_bipush (v := 80) hx hb dX4_signsCounted_13 (by decide) ?_
      refine lv_icmp_ne (tgt := 22) hx hb dX4_signsCounted_15 (by decide) (fun c_3 => ?_) (fun c_3 => ?_)
      · skip
        refine lv_iload_n hx hb dX4_signsCounted_22 rfl (lv_at hl 1 rfl) ?_
        refine lv_iload_n hx hb dX4_signsCounted_23 rfl (lv_at hl 0 rfl) ?_
        refine rd_callS (As := [.int sg]) (rest := [.int tm]) ⟨hx, hb, hml, hown, hts⟩ hE (c_X4_widthOf l dC dI sg ) (va_cwS 1 hts gX4_signsCounted_X4_widthOf rfl rfl rfl (by decide +kernel) ⟨Nat.le_of_ble_eq_true rfl, Nat.le_of_ble_eq_true rfl⟩) (hP.sub (ws' := []) [] rfl) (hK.sub [] rfl) rfl hl.1 rfl (Nat.le_of_ble_eq_true rfl) dX4_signsCounted_24 ⟨Nat.zero_le _, Nat.zero_le _⟩ (fun r9 hr9 => ?_)
        subst hr9
        refine lv_imul hx hb dX4_signsCounted_27 ?_
        exact rd_iret (v := tm * (nI (m_X4_widthOf sg))) hx hb hr hlocks (show m_X4_signsCounted sg tm = tm * (nI (m_X4_widthOf sg)) from by simp only [m_X4_signsCounted, if_neg c_1, if_neg c_2, if_neg c_3]).symm dX4_signsCounted_28
      · skip
        refine lv_iconst (v := 0) hx hb dX4_signsCounted_18 (by decide) ?_
        refine lv_goto (tgt := 28) hx hb dX4_signsCounted_19 (by decide) ?_
        exact rd_iret (v := 0) hx hb hr hlocks (show m_X4_signsCounted sg tm = 0 from by simp only [m_X4_signsCounted, if_neg c_1, if_neg c_2, if_pos c_3]).symm dX4_signsCounted_28
def m_X3_characterAt (cs : Nat → Int32) (len : Nat) (pl : Int32) : Int32 := if pl < 0 then 0 else (if (nI len) ≤ pl then 0 else (if pl < 80 then (cs pl.toNatClampNeg) else 0))
set_option maxHeartbeats 4000000 in
set_option maxRecDepth 100000 in
theorem c_X3_characterAt (l : Launch) (dC : Nat → ClassId) (dI : Nat → Nat → Nat) (h0 : Nat) (h1 : Nat) (cA : ClassId) (cs : Nat → Int32) (len : Nat) (pl : Int32) : Met l yX3_characterAt wsX3_characterAt ({ frames := 0, cells := 0, slots := 0, locals := 0 } : Room) (va_Pc [.ref h0, .int pl] (rd_P (dC, dI) vwCl [(h0, .inr (4, [.ref h1, .int (nI len)])), (h1, .inl (cA, 80, .inl cs))] [(cA, .int)])) (vp_Si (fun r => r = m_X3_characterAt cs len pl)) 0 0 (fun _ => False) := by
  refine Met.ofW (cc := cX3_characterAt) (maxL := 2) (ret := (some .int)) (by decide) rfl ?_
  intro p e s m args below meth c s₁ B hml hv
  obtain ⟨rfl, hE, hP, hK⟩ := hv
  have hx := B.exec
  have hb := B.bytes
  have hr := B.returns
  have hts := atoms_spec (ws := wsX3_characterAt) B.pre
  have hown : s.vm.findClass RX3 = some m.cls := findClass_of_methodNamed B.named
  have hlocks := B.notSynchronized
  have hl := lv_entry ([.ref h0, .int pl]) (n := 2) (Nat.le_of_ble_eq_true rfl)
  rw [lg_entry_eq]
  generalize (lg_sl ([.ref h0, .int pl]) ++ List.replicate (2 - (lg_sl ([.ref h0, .int pl])).length) Slot.unset).toArray = ls at hl ⊢
  have hl : lv_has ls 2 [(0, .ref h0), (1, .int pl)] := hl
  refine lv_iload_n hx hb dX3_characterAt_0 rfl (lv_at hl 1 rfl) ?_
  refine lv_if_lt (tgt := 18) hx hb dX3_characterAt_1 (by decide) (fun c_1 => ?_) (fun c_1 => ?_)
  · skip
    refine lv_iconst (v := 0) hx hb dX3_characterAt_18 (by decide) ?_
    refine lv_goto (tgt := 28) hx hb dX3_characterAt_19 (by decide) ?_
    exact rd_iret (v := 0) hx hb hr hlocks (show m_X3_characterAt cs len pl = 0 from by simp only [m_X3_characterAt, if_pos c_1]).symm dX3_characterAt_28
  · skip
    refine lv_iload_n hx hb dX3_characterAt_4 rfl (lv_at hl 1 rfl) ?_
    refine lv_aload_n hx hb dX3_characterAt_5 rfl (lv_at hl 0 rfl) ?_
    refine va_get (D := (dC, dI)) (ci := 4) (v := .int (nI len)) (C := RX3) (T := TX3) (N := 2) hx hb hts (by decide +kernel) hown hK hP 0 rfl rfl 1 (by decide) (hts (.fieldLink RX3 15 "PictureRows$Text" "length" "I") (by decide +kernel)) (fun _ h9 => h9) rfl dX3_characterAt_6 ?_
    refine lv_icmp_ge (tgt := 18) hx hb dX3_characterAt_9 (by decide) (fun c_2 => ?_) (fun c_2 => ?_)
    · skip
      refine lv_iconst (v := 0) hx hb dX3_characterAt_18 (by decide) ?_
      refine lv_goto (tgt := 28) hx hb dX3_characterAt_19 (by decide) ?_
      exact rd_iret (v := 0) hx hb hr hlocks (show m_X3_characterAt cs len pl = 0 from by simp only [m_X3_characterAt, if_neg c_1, if_pos c_2]).symm dX3_characterAt_28
    · skip
      refine lv_iload_n hx hb dX3_characterAt_12 rfl (lv_at hl 1 rfl) ?_
      refine lv_bipush (v := 80) hx hb dX3_characterAt_13 (by decide) ?_
      refine lv_icmp_lt (tgt := 22) hx hb dX3_characterAt_15 (by decide) (fun c_3 => ?_) (fun c_3 => ?_)
      · skip
        refine lv_aload_n hx hb dX3_characterAt_22 rfl (lv_at hl 0 rfl) ?_
        refine va_get (D := (dC, dI)) (ci := 4) (v := .ref h1) (C := RX3) (T := TX3) (N := 2) hx hb hts (by decide +kernel) hown hK hP 0 rfl rfl 0 (by decide) (hts (.fieldLink RX3 9 "PictureRows$Text" "characters" "[I") (by decide +kernel)) (fun _ h9 => h9) rfl dX3_characterAt_23 ?_
        refine lv_iload_n hx hb dX3_characterAt_26 rfl (lv_at hl 1 rfl) ?_
        refine va_iald hx hb hK hP 1 0 rfl rfl (by exact rg_in2 (N := 80) (by decide) (by assumption) (by assumption)) dX3_characterAt_27 ?_
        exact rd_iret (v := cs pl.toNatClampNeg) hx hb hr hlocks (show m_X3_characterAt cs len pl = cs pl.toNatClampNeg from by simp only [m_X3_characterAt, if_neg c_1, if_neg c_2, if_pos c_3]).symm dX3_characterAt_28
      · skip
        refine lv_iconst (v := 0) hx hb dX3_characterAt_18 (by decide) ?_
        refine lv_goto (tgt := 28) hx hb dX3_characterAt_19 (by decide) ?_
        exact rd_iret (v := 0) hx hb hr hlocks (show m_X3_characterAt cs len pl = 0 from by simp only [m_X3_characterAt, if_neg c_1, if_neg c_2, if_neg c_3]).symm dX3_characterAt_28
def m_X2_countOf_j37_l2 (ss : Nat → Int32) (ts : Nat → Int32) (sg : Int32) (i : Nat) (x2 : Int32) : Int32 := if (ss i) = sg then x2 + (ts i) else x2
def m_X2_countOf_L4 (ss : Nat → Int32) (ts : Nat → Int32) (sz : Nat) (sg : Int32) : Nat → Nat → Int32 → Int32
  | 0, _, _ => 0
  | k4 + 1, i, x2 => if sz ≤ i then x2 else (m_X2_countOf_L4 ss ts sz sg k4 (i + 1) (m_X2_countOf_j37_l2 ss ts sg i x2))
def m_X2_countOf (ss : Nat → Int32) (ts : Nat → Int32) (sz : Nat) (sg : Int32) : Int32 := m_X2_countOf_L4 ss ts sz sg (sz + 1) 0 0
set_option maxHeartbeats 4000000 in
set_option maxRecDepth 100000 in
theorem c_X2_countOf (l : Launch) (dC : Nat → ClassId) (dI : Nat → Nat → Nat) (h0 : Nat) (h1 : Nat) (h2 : Nat) (h3 : Nat) (h4 : Nat) (h5 : Nat) (cA : ClassId) (ss : Nat → Int32) (ts : Nat → Int32) (sz : Nat) (sg : Int32) (hsz : sz ≤ 80) : Met l yX2_countOf wsX2_countOf ({ frames := 0, cells := 0, slots := 0, locals := 0 } : Room) (va_Pc [.ref h0, .int sg] (rd_P (dC, dI) vwCl [(h0, .inr (3, [.ref h1, .ref h2, .ref h3, .ref h4, .ref h5, .int (nI sz)])), (h1, .inl (cA, 80, .inl ss)), (h2, .inl (cA, 80, .inl ts))] [(cA, .int)])) (vp_Si (fun r => r = m_X2_countOf ss ts sz sg)) 0 0 (fun _ => False) := by
  refine Met.ofW (cc := cX2_countOf) (maxL := 4) (ret := (some .int)) (by decide) rfl ?_
  intro p e s m args below meth c s₁ B hml hv
  obtain ⟨rfl, hE, hP, hK⟩ := hv
  have hx := B.exec
  have hb := B.bytes
  have hr := B.returns
  have hts := atoms_spec (ws := wsX2_countOf) B.pre
  have hown : s.vm.findClass RX2 = some m.cls := findClass_of_methodNamed B.named
  have hlocks := B.notSynchronized
  have hl := lv_entry ([.ref h0, .int sg]) (n := 4) (Nat.le_of_ble_eq_true rfl)
  rw [lg_entry_eq]
  generalize (lg_sl ([.ref h0, .int sg]) ++ List.replicate (4 - (lg_sl ([.ref h0, .int sg])).length) Slot.unset).toArray = ls at hl ⊢
  have hl : lv_has ls 4 [(0, .ref h0), (1, .int sg)] := hl
  refine lv_iconst (v := 0) hx hb dX2_countOf_0 (by decide) ?_
  refine lv_istore_n (lv' := [(2, .int 0), (0, .ref h0), (1, .int sg)]) hx hb dX2_countOf_1 rfl hl (by decide) rfl (fun ls hl => ?_)
  refine lv_iconst (v := 0) hx hb dX2_countOf_2 (by decide) ?_
  refine lv_istore_n (lv' := [(3, .int 0), (2, .int 0), (0, .ref h0), (1, .int sg)]) hx hb dX2_countOf_3 rfl hl (by decide) rfl (fun ls hl => ?_)
  have lp_4 : ∀ (k4 i : Nat) (x2 : Int32), i ≤ sz → sz + 1 ≤ i + k4 → m_X2_countOf ss ts sz sg = m_X2_countOf_L4 ss ts sz sg k4 i x2 → ∀ (ls : Array Slot), lv_has ls 4 [(0, .ref h0), (1, .int sg), (2, .int x2), (3, .int (nI i))] → W p l e (headSpec wsX2_countOf ({ frames := 0, cells := 0, slots := 0, locals := 0 } : Room)).room s m (([.ref h0, .int sg] : List Value).toArray) below meth c s.heap [] 0 0 (MQ below (vp_Si (fun r => r = m_X2_countOf ss ts sz sg)) (([.ref h0, .int sg] : List Value).toArray) s 0 0 (fun _ => False)) (F0 m 4 ls []) := by
    intro k4
    induction k4 with
    | zero => intro i x2 h1_ h2_; exfalso; omega
    | succ k4 ih4 =>
      intro i x2 hb4 hf4  hm4 ls hl
      refine lv_iload_n hx hb dX2_countOf_4 rfl (lv_at hl 3 rfl) ?_
      refine lv_aload_n hx hb dX2_countOf_5 rfl (lv_at hl 0 rfl) ?_
      refine va_get (D := (dC, dI)) (ci := 3) (v := .int (nI sz)) (C := RX2) (T := TX2) (N := 6) hx hb hts (by decide +kernel) hown hK hP 0 rfl rfl 5 (by decide) (hts (.fieldLink RX2 27 "PictureRows$Runs" "size" "I") (by decide +kernel)) (fun _ h9 => h9) rfl dX2_countOf_6 ?_
      refine lv_icmp_ge (tgt := 43) hx hb dX2_countOf_9 (by decide) (fun c_1 => ?_) (fun c_1 => ?_)
      · skip
        have c_1 : sz ≤ i := (nI_leI (a := sz) (b := i) (by omega) (by omega)).mp c_1
        refine lv_iload_n hx hb dX2_countOf_43 rfl (lv_at hl 2 rfl) ?_
        exact rd_iret (v := x2) hx hb hr hlocks (show m_X2_countOf ss ts sz sg = x2 from hm4.trans (by simp only [m_X2_countOf_L4, if_pos c_1])).symm dX2_countOf_44
      · skip
        have c_1 : ¬ sz ≤ i := (fun q_ => c_1 ((nI_leI (a := sz) (b := i) (by omega) (by omega)).mpr q_))
        refine lv_iload_n hx hb dX2_countOf_12 rfl (lv_at hl 3 rfl) ?_
        refine lv_bipush (v := 80) hx hb dX2_countOf_13 (by decide) ?_
        refine lv_icmp_ge (tgt := 43) hx hb dX2_countOf_15 (by decide) (fun c_2 => ?_) (fun c_2 => ?_)
        · skip
          have c_2 : 80 ≤ i := (nI_leI (a := 80) (b := i) (by omega) (by omega)).mp c_2
          exfalso; omega
        · skip
          have c_2 : ¬ 80 ≤ i := (fun q_ => c_2 ((nI_leI (a := 80) (b := i) (by omega) (by omega)).mpr q_))
          refine lv_aload_n hx hb dX2_countOf_18 rfl (lv_at hl 0 rfl) ?_
          refine va_get (D := (dC, dI)) (ci := 3) (v := .ref h1) (C := RX2) (T := TX2) (N := 6) hx hb hts (by decide +kernel) hown hK hP 0 rfl rfl 0 (by decide) (hts (.fieldLink RX2 9 "PictureRows$Runs" "signs" "[I") (by decide +kernel)) (fun _ h9 => h9) rfl dX2_countOf_19 ?_
          refine lv_iload_n hx hb dX2_countOf_22 rfl (lv_at hl 3 rfl) ?_
          refine rd_iald hx hb hK hP 1 0 rfl rfl (i) (by omega) (by omega) dX2_countOf_23 ?_
          refine lv_iload_n hx hb dX2_countOf_24 rfl (lv_at hl 1 rfl) ?_
          have j_3 : ∀ (y0_j_3 : Int32), y0_j_3 = m_X2_countOf_j37_l2 ss ts sg i x2 → ∀ (ls : Array Slot), lv_has ls 4 [(0, .ref h0), (1, .int sg), (2, .int y0_j_3), (3, .int (nI i))] → W p l e (headSpec wsX2_countOf ({ frames := 0, cells := 0, slots := 0, locals := 0 } : Room)).room s m (([.ref h0, .int sg] : List Value).toArray) below meth c s.heap [] 0 0 (MQ below (vp_Si (fun r => r = m_X2_countOf ss ts sz sg)) (([.ref h0, .int sg] : List Value).toArray) s 0 0 (fun _ => False)) (F0 m 37 ls []) := by
            intro y0_j_3 ey0_j_3 ls hl
            subst ey0_j_3
            refine lv_iinc (v := nI (i + 1)) (lv' := [(3, .int (nI (i + 1))), (0, .ref h0), (1, .int sg), (2, .int (m_X2_countOf_j37_l2 ss ts sg i x2))]) hx hb dX2_countOf_37 hl (k := 3) rfl (nI_add (i) 1) (by decide) rfl (fun ls hl => ?_)
            refine lv_goto (tgt := 4) hx hb dX2_countOf_40 (by decide) ?_
            exact ih4 (i + 1) (m_X2_countOf_j37_l2 ss ts sg i x2) (by omega) (by omega)  (hm4.trans (by simp only [m_X2_countOf_L4, if_neg c_1])) ls (lv_sub hl [1, 2, 3, 0] rfl)
          refine lv_icmp_ne (tgt := 37) hx hb dX2_countOf_25 (by decide) (fun c_4 => ?_) (fun c_4 => ?_)
          · skip
            exact j_3 x2 (by simp only [m_X2_countOf_j37_l2, if_neg c_4]) ls (lv_sub hl [0, 1, 2, 3] rfl)
          · skip
            refine lv_iload_n hx hb dX2_countOf_28 rfl (lv_at hl 2 rfl) ?_
            refine lv_aload_n hx hb dX2_countOf_29 rfl (lv_at hl 0 rfl) ?_
            refine va_get (D := (dC, dI)) (ci := 3) (v := .ref h2) (C := RX2) (T := TX2) (N := 6) hx hb hts (by decide +kernel) hown hK hP 0 rfl rfl 1 (by decide) (hts (.fieldLink RX2 15 "PictureRows$Runs" "times" "[I") (by decide +kernel)) (fun _ h9 => h9) rfl dX2_countOf_30 ?_
            refine lv_iload_n hx hb dX2_countOf_33 rfl (lv_at hl 3 rfl) ?_
            refine rd_iald hx hb hK hP 2 0 rfl rfl (i) (by omega) (by omega) dX2_countOf_34 ?_
            refine lv_iadd hx hb dX2_countOf_35 ?_
            refine lv_istore_n (lv' := [(2, .int (x2 + (ts i))), (0, .ref h0), (1, .int sg), (3, .int (nI i))]) hx hb dX2_countOf_36 rfl hl (by decide) rfl (fun ls hl => ?_)
            exact j_3 (x2 + (ts i)) (by simp only [m_X2_countOf_j37_l2, if_pos c_4]) ls (lv_sub hl [1, 2, 0, 3] rfl)
  exact lp_4 (sz + 1) (0) 0 (by omega) (by omega)  (show m_X2_countOf ss ts sz sg = m_X2_countOf_L4 ss ts sz sg (sz + 1) 0 0 from by simp only [m_X2_countOf]) ls (lv_sub hl [2, 3, 1, 0] rfl)
def m_X2_standsAhead_L2 (ss : Nat → Int32) (sg : Int32) (en : Nat) : Nat → Nat → Bool
  | 0, _ => false
  | k2 + 1, i => if en ≤ i then false else (if (ss i) = sg then true else (m_X2_standsAhead_L2 ss sg en k2 (i + 1)))
def m_X2_standsAhead (ss : Nat → Int32) (sg : Int32) (en : Nat) : Bool := m_X2_standsAhead_L2 ss sg en (en + 1) 0
set_option maxHeartbeats 4000000 in
set_option maxRecDepth 100000 in
theorem c_X2_standsAhead (l : Launch) (dC : Nat → ClassId) (dI : Nat → Nat → Nat) (h0 : Nat) (h1 : Nat) (h2 : Nat) (h3 : Nat) (h4 : Nat) (h5 : Nat) (cA : ClassId) (sz : Nat) (ss : Nat → Int32) (sg : Int32) (en : Nat) (hsz : sz ≤ 80) (hen : en ≤ 80) : Met l yX2_standsAhead wsX2_standsAhead ({ frames := 0, cells := 0, slots := 0, locals := 0 } : Room) (va_Pc [.ref h0, .int sg, .int (nI en)] (rd_P (dC, dI) vwCl [(h0, .inr (3, [.ref h1, .ref h2, .ref h3, .ref h4, .ref h5, .int (nI sz)])), (h1, .inl (cA, 80, .inl ss))] [(cA, .int)])) (vp_Si (fun r => r = bI (m_X2_standsAhead ss sg en))) 0 0 (fun _ => False) := by
  refine Met.ofW (cc := cX2_standsAhead) (maxL := 4) (ret := (some .boolean)) (by decide) rfl ?_
  intro p e s m args below meth c s₁ B hml hv
  obtain ⟨rfl, hE, hP, hK⟩ := hv
  have hx := B.exec
  have hb := B.bytes
  have hr := B.returns
  have hts := atoms_spec (ws := wsX2_standsAhead) B.pre
  have hown : s.vm.findClass RX2 = some m.cls := findClass_of_methodNamed B.named
  have hlocks := B.notSynchronized
  have hl := lv_entry ([.ref h0, .int sg, .int (nI en)]) (n := 4) (Nat.le_of_ble_eq_true rfl)
  rw [lg_entry_eq]
  generalize (lg_sl ([.ref h0, .int sg, .int (nI en)]) ++ List.replicate (4 - (lg_sl ([.ref h0, .int sg, .int (nI en)])).length) Slot.unset).toArray = ls at hl ⊢
  have hl : lv_has ls 4 [(0, .ref h0), (1, .int sg), (2, .int (nI en))] := hl
  refine lv_iconst (v := 0) hx hb dX2_standsAhead_0 (by decide) ?_
  refine lv_istore_n (lv' := [(3, .int 0), (0, .ref h0), (1, .int sg), (2, .int (nI en))]) hx hb dX2_standsAhead_1 rfl hl (by decide) rfl (fun ls hl => ?_)
  have lp_2 : ∀ (k2 i : Nat), i ≤ en → en + 1 ≤ i + k2 → m_X2_standsAhead ss sg en = m_X2_standsAhead_L2 ss sg en k2 i → ∀ (ls : Array Slot), lv_has ls 4 [(0, .ref h0), (1, .int sg), (2, .int (nI en)), (3, .int (nI i))] → W p l e (headSpec wsX2_standsAhead ({ frames := 0, cells := 0, slots := 0, locals := 0 } : Room)).room s m (([.ref h0, .int sg, .int (nI en)] : List Value).toArray) below meth c s.heap [] 0 0 (MQ below (vp_Si (fun r => r = bI (m_X2_standsAhead ss sg en))) (([.ref h0, .int sg, .int (nI en)] : List Value).toArray) s 0 0 (fun _ => False)) (F0 m 2 ls []) := by
    intro k2
    induction k2 with
    | zero => intro i  h1_ h2_; exfalso; omega
    | succ k2 ih2 =>
      intro i  hb2 hf2  hm2 ls hl
      refine lv_iload_n hx hb dX2_standsAhead_2 rfl (lv_at hl 3 rfl) ?_
      refine lv_iload_n hx hb dX2_standsAhead_3 rfl (lv_at hl 2 rfl) ?_
      refine lv_icmp_ge (tgt := 31) hx hb dX2_standsAhead_4 (by decide) (fun c_1 => ?_) (fun c_1 => ?_)
      · skip
        have c_1 : en ≤ i := (nI_leI (a := en) (b := i) (by omega) (by omega)).mp c_1
        refine lv_iconst (v := 0) hx hb dX2_standsAhead_31 (by decide) ?_
        exact rd_zret (v := 0) hx hb hr hlocks rfl (by rw [(show m_X2_standsAhead ss sg en = false from hm2.trans (by simp only [m_X2_standsAhead_L2, if_pos c_1]))]; rfl) dX2_standsAhead_32
      · skip
        have c_1 : ¬ en ≤ i := (fun q_ => c_1 ((nI_leI (a := en) (b := i) (by omega) (by omega)).mpr q_))
        refine lv_iload_n hx hb dX2_standsAhead_7 rfl (lv_at hl 3 rfl) ?_
        refine lv_bipush (v := 80) hx hb dX2_standsAhead_8 (by decide) ?_
        refine lv_icmp_ge (tgt := 31) hx hb dX2_standsAhead_10 (by decide) (fun c_2 => ?_) (fun c_2 => ?_)
        · skip
          have c_2 : 80 ≤ i := (nI_leI (a := 80) (b := i) (by omega) (by omega)).mp c_2
          exfalso; omega
        · skip
          have c_2 : ¬ 80 ≤ i := (fun q_ => c_2 ((nI_leI (a := 80) (b := i) (by omega) (by omega)).mpr q_))
          refine lv_aload_n hx hb dX2_standsAhead_13 rfl (lv_at hl 0 rfl) ?_
          refine va_get (D := (dC, dI)) (ci := 3) (v := .ref h1) (C := RX2) (T := TX2) (N := 6) hx hb hts (by decide +kernel) hown hK hP 0 rfl rfl 0 (by decide) (hts (.fieldLink RX2 9 "PictureRows$Runs" "signs" "[I") (by decide +kernel)) (fun _ h9 => h9) rfl dX2_standsAhead_14 ?_
          refine lv_iload_n hx hb dX2_standsAhead_17 rfl (lv_at hl 3 rfl) ?_
          refine rd_iald hx hb hK hP 1 0 rfl rfl (i) (by omega) (by omega) dX2_standsAhead_18 ?_
          refine lv_iload_n hx hb dX2_standsAhead_19 rfl (lv_at hl 1 rfl) ?_
          refine lv_icmp_ne (tgt := 25) hx hb dX2_standsAhead_20 (by decide) (fun c_3 => ?_) (fun c_3 => ?_)
          · skip
            refine lv_iinc (v := nI (i + 1)) (lv' := [(3, .int (nI (i + 1))), (0, .ref h0), (1, .int sg), (2, .int (nI en))]) hx hb dX2_standsAhead_25 hl (k := 3) rfl (nI_add (i) 1) (by decide) rfl (fun ls hl => ?_)
            refine lv_goto (tgt := 2) hx hb dX2_standsAhead_28 (by decide) ?_
            exact ih2 (i + 1)  (by omega) (by omega)  (hm2.trans (by simp only [m_X2_standsAhead_L2, if_neg c_1, if_neg c_3])) ls (lv_sub hl [1, 2, 3, 0] rfl)
          · skip
            refine lv_iconst (v := 1) hx hb dX2_standsAhead_23 (by decide) ?_
            exact rd_zret (v := 1) hx hb hr hlocks rfl (by rw [(show m_X2_standsAhead ss sg en = true from hm2.trans (by simp only [m_X2_standsAhead_L2, if_neg c_1, if_pos c_3]))]; rfl) dX2_standsAhead_24
  exact lp_2 (en + 1) (0)  (by omega) (by omega)  (show m_X2_standsAhead ss sg en = m_X2_standsAhead_L2 ss sg en (en + 1) 0 from by simp only [m_X2_standsAhead]) ls (lv_sub hl [1, 2, 3, 0] rfl)
def m_X2_kindsPresent_L4 (ks : Nat → Int32) (sz : Nat) : Nat → Nat → Int32 → Int32
  | 0, _, _ => 0
  | k4 + 1, i, x1 => if sz ≤ i then x1 else (m_X2_kindsPresent_L4 ks sz k4 (i + 1) (x1 ||| (1 <<< ((ks i) &&& 31))))
def m_X2_kindsPresent (ks : Nat → Int32) (sz : Nat) : Int32 := m_X2_kindsPresent_L4 ks sz (sz + 1) 0 0
set_option maxHeartbeats 4000000 in
set_option maxRecDepth 100000 in
theorem c_X2_kindsPresent (l : Launch) (dC : Nat → ClassId) (dI : Nat → Nat → Nat) (h0 : Nat) (h1 : Nat) (h2 : Nat) (h3 : Nat) (h4 : Nat) (h5 : Nat) (cA : ClassId) (ks : Nat → Int32) (sz : Nat) (hsz : sz ≤ 80) : Met l yX2_kindsPresent wsX2_kindsPresent ({ frames := 0, cells := 0, slots := 0, locals := 0 } : Room) (va_Pc [.ref h0] (rd_P (dC, dI) vwCl [(h0, .inr (3, [.ref h1, .ref h2, .ref h3, .ref h4, .ref h5, .int (nI sz)])), (h4, .inl (cA, 80, .inl ks))] [(cA, .int)])) (vp_Si (fun r => r = m_X2_kindsPresent ks sz)) 0 0 (fun _ => False) := by
  refine Met.ofW (cc := cX2_kindsPresent) (maxL := 3) (ret := (some .int)) (by decide) rfl ?_
  intro p e s m args below meth c s₁ B hml hv
  obtain ⟨rfl, hE, hP, hK⟩ := hv
  have hx := B.exec
  have hb := B.bytes
  have hr := B.returns
  have hts := atoms_spec (ws := wsX2_kindsPresent) B.pre
  have hown : s.vm.findClass RX2 = some m.cls := findClass_of_methodNamed B.named
  have hlocks := B.notSynchronized
  have hl := lv_entry ([.ref h0]) (n := 3) (Nat.le_of_ble_eq_true rfl)
  rw [lg_entry_eq]
  generalize (lg_sl ([.ref h0]) ++ List.replicate (3 - (lg_sl ([.ref h0])).length) Slot.unset).toArray = ls at hl ⊢
  have hl : lv_has ls 3 [(0, .ref h0)] := hl
  refine lv_iconst (v := 0) hx hb dX2_kindsPresent_0 (by decide) ?_
  refine lv_istore_n (lv' := [(1, .int 0), (0, .ref h0)]) hx hb dX2_kindsPresent_1 rfl hl (by decide) rfl (fun ls hl => ?_)
  refine lv_iconst (v := 0) hx hb dX2_kindsPresent_2 (by decide) ?_
  refine lv_istore_n (lv' := [(2, .int 0), (1, .int 0), (0, .ref h0)]) hx hb dX2_kindsPresent_3 rfl hl (by decide) rfl (fun ls hl => ?_)
  have lp_4 : ∀ (k4 i : Nat) (x1 : Int32), i ≤ sz → sz + 1 ≤ i + k4 → m_X2_kindsPresent ks sz = m_X2_kindsPresent_L4 ks sz k4 i x1 → ∀ (ls : Array Slot), lv_has ls 3 [(0, .ref h0), (1, .int x1), (2, .int (nI i))] → W p l e (headSpec wsX2_kindsPresent ({ frames := 0, cells := 0, slots := 0, locals := 0 } : Room)).room s m (([.ref h0] : List Value).toArray) below meth c s.heap [] 0 0 (MQ below (vp_Si (fun r => r = m_X2_kindsPresent ks sz)) (([.ref h0] : List Value).toArray) s 0 0 (fun _ => False)) (F0 m 4 ls []) := by
    intro k4
    induction k4 with
    | zero => intro i x1 h1_ h2_; exfalso; omega
    | succ k4 ih4 =>
      intro i x1 hb4 hf4  hm4 ls hl
      refine lv_iload_n hx hb dX2_kindsPresent_4 rfl (lv_at hl 2 rfl) ?_
      refine lv_aload_n hx hb dX2_kindsPresent_5 rfl (lv_at hl 0 rfl) ?_
      refine va_get (D := (dC, dI)) (ci := 3) (v := .int (nI sz)) (C := RX2) (T := TX2) (N := 6) hx hb hts (by decide +kernel) hown hK hP 0 rfl rfl 5 (by decide) (hts (.fieldLink RX2 27 "PictureRows$Runs" "size" "I") (by decide +kernel)) (fun _ h9 => h9) rfl dX2_kindsPresent_6 ?_
      refine lv_icmp_ge (tgt := 35) hx hb dX2_kindsPresent_9 (by decide) (fun c_1 => ?_) (fun c_1 => ?_)
      · skip
        have c_1 : sz ≤ i := (nI_leI (a := sz) (b := i) (by omega) (by omega)).mp c_1
        refine lv_iload_n hx hb dX2_kindsPresent_35 rfl (lv_at hl 1 rfl) ?_
        exact rd_iret (v := x1) hx hb hr hlocks (show m_X2_kindsPresent ks sz = x1 from hm4.trans (by simp only [m_X2_kindsPresent_L4, if_pos c_1])).symm dX2_kindsPresent_36
      · skip
        have c_1 : ¬ sz ≤ i := (fun q_ => c_1 ((nI_leI (a := sz) (b := i) (by omega) (by omega)).mpr q_))
        refine lv_iload_n hx hb dX2_kindsPresent_12 rfl (lv_at hl 2 rfl) ?_
        refine lv_bipush (v := 80) hx hb dX2_kindsPresent_13 (by decide) ?_
        refine lv_icmp_ge (tgt := 35) hx hb dX2_kindsPresent_15 (by decide) (fun c_2 => ?_) (fun c_2 => ?_)
        · skip
          have c_2 : 80 ≤ i := (nI_leI (a := 80) (b := i) (by omega) (by omega)).mp c_2
          exfalso; omega
        · skip
          have c_2 : ¬ 80 ≤ i := (fun q_ => c_2 ((nI_leI (a := 80) (b := i) (by omega) (by omega)).mpr q_))
          refine lv_iload_n hx hb dX2_kindsPresent_18 rfl (lv_at hl 1 rfl) ?_
          refine lv_iconst (v := 1) hx hb dX2_kindsPresent_19 (by decide) ?_
          refine lv_aload_n hx hb dX2_kindsPresent_20 rfl (lv_at hl 0 rfl) ?_
          refine va_get (D := (dC, dI)) (ci := 3) (v := .ref h4) (C := RX2) (T := TX2) (N := 6) hx hb hts (by decide +kernel) hown hK hP 0 rfl rfl 3 (by decide) (hts (.fieldLink RX2 21 "PictureRows$Runs" "kinds" "[I") (by decide +kernel)) (fun _ h9 => h9) rfl dX2_kindsPresent_21 ?_
          refine lv_iload_n hx hb dX2_kindsPresent_24 rfl (lv_at hl 2 rfl) ?_
          refine rd_iald hx hb hK hP 1 0 rfl rfl (i) (by omega) (by omega) dX2_kindsPresent_25 ?_
          refine lv_ishl hx hb dX2_kindsPresent_26 ?_
          refine lv_ior hx hb dX2_kindsPresent_27 ?_
          refine lv_istore_n (lv' := [(1, .int (x1 ||| (1 <<< ((ks i) &&& 31)))), (0, .ref h0), (2, .int (nI i))]) hx hb dX2_kindsPresent_28 rfl hl (by decide) rfl (fun ls hl => ?_)
          refine lv_iinc (v := nI (i + 1)) (lv' := [(2, .int (nI (i + 1))), (1, .int (x1 ||| (1 <<< ((ks i) &&& 31)))), (0, .ref h0)]) hx hb dX2_kindsPresent_29 hl (k := 2) rfl (nI_add (i) 1) (by decide) rfl (fun ls hl => ?_)
          refine lv_goto (tgt := 4) hx hb dX2_kindsPresent_32 (by decide) ?_
          exact ih4 (i + 1) (x1 ||| (1 <<< ((ks i) &&& 31))) (by omega) (by omega)  (hm4.trans (by simp only [m_X2_kindsPresent_L4, if_neg c_1])) ls (lv_sub hl [2, 1, 0] rfl)
  exact lp_4 (sz + 1) (0) 0 (by omega) (by omega)  (show m_X2_kindsPresent ks sz = m_X2_kindsPresent_L4 ks sz (sz + 1) 0 0 from by simp only [m_X2_kindsPresent]) ls (lv_sub hl [2, 1, 0] rfl)
def m_X2_pointRun_L2 (ks : Nat → Int32) (sz : Nat) : Nat → Nat → Nat
  | 0, _ => 0
  | k2 + 1, i => if sz ≤ i then sz else (if (m_X4_holds 98308 (ks i)) = false then (m_X2_pointRun_L2 ks sz k2 (i + 1)) else i)
def m_X2_pointRun (ks : Nat → Int32) (sz : Nat) : Nat := m_X2_pointRun_L2 ks sz (sz + 1) 0
set_option maxHeartbeats 4000000 in
set_option maxRecDepth 100000 in
theorem c_X2_pointRun (l : Launch) (dC : Nat → ClassId) (dI : Nat → Nat → Nat) (h0 : Nat) (h1 : Nat) (h2 : Nat) (h3 : Nat) (h4 : Nat) (h5 : Nat) (cA : ClassId) (ks : Nat → Int32) (sz : Nat) (hsz : sz ≤ 80) : Met l yX2_pointRun wsX2_pointRun ({ frames := 1, cells := 0, slots := 0, locals := 21 } : Room) (va_Pc [.ref h0] (rd_P (dC, dI) vwCl [(h0, .inr (3, [.ref h1, .ref h2, .ref h3, .ref h4, .ref h5, .int (nI sz)])), (h4, .inl (cA, 80, .inl ks))] [(cA, .int)])) (vp_Si (fun r => r = nI (m_X2_pointRun ks sz))) 0 0 (fun _ => False) := by
  refine Met.ofW (cc := cX2_pointRun) (maxL := 2) (ret := (some .int)) (by decide) rfl ?_
  intro p e s m args below meth c s₁ B hml hv
  obtain ⟨rfl, hE, hP, hK⟩ := hv
  have hx := B.exec
  have hb := B.bytes
  have hr := B.returns
  have hts := atoms_spec (ws := wsX2_pointRun) B.pre
  have hown : s.vm.findClass RX2 = some m.cls := findClass_of_methodNamed B.named
  have hlocks := B.notSynchronized
  have hl := lv_entry ([.ref h0]) (n := 2) (Nat.le_of_ble_eq_true rfl)
  rw [lg_entry_eq]
  generalize (lg_sl ([.ref h0]) ++ List.replicate (2 - (lg_sl ([.ref h0])).length) Slot.unset).toArray = ls at hl ⊢
  have hl : lv_has ls 2 [(0, .ref h0)] := hl
  refine lv_iconst (v := 0) hx hb dX2_pointRun_0 (by decide) ?_
  refine lv_istore_n (lv' := [(1, .int 0), (0, .ref h0)]) hx hb dX2_pointRun_1 rfl hl (by decide) rfl (fun ls hl => ?_)
  have lp_2 : ∀ (k2 i : Nat), i ≤ sz → sz + 1 ≤ i + k2 → m_X2_pointRun ks sz = m_X2_pointRun_L2 ks sz k2 i → ∀ (ls : Array Slot), lv_has ls 2 [(0, .ref h0), (1, .int (nI i))] → W p l e (headSpec wsX2_pointRun ({ frames := 1, cells := 0, slots := 0, locals := 21 } : Room)).room s m (([.ref h0] : List Value).toArray) below meth c s.heap [] 0 0 (MQ below (vp_Si (fun r => r = nI (m_X2_pointRun ks sz))) (([.ref h0] : List Value).toArray) s 0 0 (fun _ => False)) (F0 m 2 ls []) := by
    intro k2
    induction k2 with
    | zero => intro i  h1_ h2_; exfalso; omega
    | succ k2 ih2 =>
      intro i  hb2 hf2  hm2 ls hl
      refine lv_iload_n hx hb dX2_pointRun_2 rfl (lv_at hl 1 rfl) ?_
      refine lv_aload_n hx hb dX2_pointRun_3 rfl (lv_at hl 0 rfl) ?_
      refine va_get (D := (dC, dI)) (ci := 3) (v := .int (nI sz)) (C := RX2) (T := TX2) (N := 6) hx hb hts (by decide +kernel) hown hK hP 0 rfl rfl 5 (by decide) (hts (.fieldLink RX2 27 "PictureRows$Runs" "size" "I") (by decide +kernel)) (fun _ h9 => h9) rfl dX2_pointRun_4 ?_
      refine lv_icmp_ge (tgt := 38) hx hb dX2_pointRun_7 (by decide) (fun c_1 => ?_) (fun c_1 => ?_)
      · skip
        have c_1 : sz ≤ i := (nI_leI (a := sz) (b := i) (by omega) (by omega)).mp c_1
        refine lv_aload_n hx hb dX2_pointRun_38 rfl (lv_at hl 0 rfl) ?_
        refine va_get (D := (dC, dI)) (ci := 3) (v := .int (nI sz)) (C := RX2) (T := TX2) (N := 6) hx hb hts (by decide +kernel) hown hK hP 0 rfl rfl 5 (by decide) (hts (.fieldLink RX2 27 "PictureRows$Runs" "size" "I") (by decide +kernel)) (fun _ h9 => h9) rfl dX2_pointRun_39 ?_
        exact rd_iret (v := nI sz) hx hb hr hlocks (congrArg nI (show m_X2_pointRun ks sz = sz from hm2.trans (by simp only [m_X2_pointRun_L2, if_pos c_1]))).symm dX2_pointRun_42
      · skip
        have c_1 : ¬ sz ≤ i := (fun q_ => c_1 ((nI_leI (a := sz) (b := i) (by omega) (by omega)).mpr q_))
        refine lv_iload_n hx hb dX2_pointRun_10 rfl (lv_at hl 1 rfl) ?_
        refine lv_bipush (v := 80) hx hb dX2_pointRun_11 (by decide) ?_
        refine lv_icmp_ge (tgt := 38) hx hb dX2_pointRun_13 (by decide) (fun c_2 => ?_) (fun c_2 => ?_)
        · skip
          have c_2 : 80 ≤ i := (nI_leI (a := 80) (b := i) (by omega) (by omega)).mp c_2
          exfalso; omega
        · skip
          have c_2 : ¬ 80 ≤ i := (fun q_ => c_2 ((nI_leI (a := 80) (b := i) (by omega) (by omega)).mpr q_))
          refine lv_ldc (v := 98308) hx hb hown (hts (.constant RX2 64 98308) (by decide +kernel)) dX2_pointRun_16 ?_
          refine lv_aload_n hx hb dX2_pointRun_18 rfl (lv_at hl 0 rfl) ?_
          refine va_get (D := (dC, dI)) (ci := 3) (v := .ref h4) (C := RX2) (T := TX2) (N := 6) hx hb hts (by decide +kernel) hown hK hP 0 rfl rfl 3 (by decide) (hts (.fieldLink RX2 21 "PictureRows$Runs" "kinds" "[I") (by decide +kernel)) (fun _ h9 => h9) rfl dX2_pointRun_19 ?_
          refine lv_iload_n hx hb dX2_pointRun_22 rfl (lv_at hl 1 rfl) ?_
          refine rd_iald hx hb hK hP 1 0 rfl rfl (i) (by omega) (by omega) dX2_pointRun_23 ?_
          refine rd_callSN (As := [.int 98308, .int (ks i)]) (rest := []) ⟨hx, hb, hml, hown, hts⟩ hE (c_X4_holds l dC dI 98308 (ks i) ) ⟨va_cnB 2 hts gX2_pointRun_X4_holds_n67 rfl rfl rfl (hE.1.2 ("PictureRows$Runs", 67, yX4_holds) (by decide)) (hts (.initialized RX4) (by decide +kernel)) (by decide +kernel) ⟨Nat.le_of_ble_eq_true rfl, Nat.le_of_ble_eq_true rfl⟩, hts (.static yX4_holds) (by decide +kernel), trivial⟩ (hP.sub (ws' := []) [] rfl) (hK.sub [] rfl) rfl hl.1 rfl (Nat.le_of_ble_eq_true rfl) dX2_pointRun_24 ⟨Nat.zero_le _, Nat.zero_le _⟩ (fun r9 hr9 => ?_)
          subst hr9
          refine lv_if_eq (tgt := 32) hx hb dX2_pointRun_27 (by decide) (fun c_3 => ?_) (fun c_3 => ?_)
          · skip
            have c_3 := bI_0 c_3
            refine lv_iinc (v := nI (i + 1)) (lv' := [(1, .int (nI (i + 1))), (0, .ref h0)]) hx hb dX2_pointRun_32 hl (k := 1) rfl (nI_add (i) 1) (by decide) rfl (fun ls hl => ?_)
            refine lv_goto (tgt := 2) hx hb dX2_pointRun_35 (by decide) ?_
            exact ih2 (i + 1)  (by omega) (by omega)  (hm2.trans (by simp only [m_X2_pointRun_L2, if_neg c_1, if_pos c_3])) ls (lv_sub hl [1, 0] rfl)
          · skip
            have c_3 := bI_n0 c_3
            refine lv_iload_n hx hb dX2_pointRun_30 rfl (lv_at hl 1 rfl) ?_
            exact rd_iret (v := nI i) hx hb hr hlocks (congrArg nI (show m_X2_pointRun ks sz = i from hm2.trans (by simp only [m_X2_pointRun_L2, if_neg c_1, if_neg c_3]))).symm dX2_pointRun_31
  exact lp_2 (sz + 1) (0)  (by omega) (by omega)  (show m_X2_pointRun ks sz = m_X2_pointRun_L2 ks sz (sz + 1) 0 from by simp only [m_X2_pointRun]) ls (lv_sub hl [1, 0] rfl)
def m_X2_allSignsCounted_L4 (ss : Nat → Int32) (ts : Nat → Int32) (sz : Nat) : Nat → Nat → Int32 → Int32
  | 0, _, _ => 0
  | k4 + 1, i, x1 => if sz ≤ i then x1 else (m_X2_allSignsCounted_L4 ss ts sz k4 (i + 1) (x1 + (m_X4_signsCounted (ss i) (ts i))))
def m_X2_allSignsCounted (ss : Nat → Int32) (ts : Nat → Int32) (sz : Nat) : Int32 := m_X2_allSignsCounted_L4 ss ts sz (sz + 1) 0 0
set_option maxHeartbeats 4000000 in
set_option maxRecDepth 100000 in
theorem c_X2_allSignsCounted (l : Launch) (dC : Nat → ClassId) (dI : Nat → Nat → Nat) (h0 : Nat) (h1 : Nat) (h2 : Nat) (h3 : Nat) (h4 : Nat) (h5 : Nat) (cA : ClassId) (ss : Nat → Int32) (ts : Nat → Int32) (sz : Nat) (hsz : sz ≤ 80) : Met l yX2_allSignsCounted wsX2_allSignsCounted ({ frames := 2, cells := 0, slots := 0, locals := 41 } : Room) (va_Pc [.ref h0] (rd_P (dC, dI) vwCl [(h0, .inr (3, [.ref h1, .ref h2, .ref h3, .ref h4, .ref h5, .int (nI sz)])), (h1, .inl (cA, 80, .inl ss)), (h2, .inl (cA, 80, .inl ts))] [(cA, .int)])) (vp_Si (fun r => r = m_X2_allSignsCounted ss ts sz)) 0 0 (fun _ => False) := by
  refine Met.ofW (cc := cX2_allSignsCounted) (maxL := 3) (ret := (some .int)) (by decide) rfl ?_
  intro p e s m args below meth c s₁ B hml hv
  obtain ⟨rfl, hE, hP, hK⟩ := hv
  have hx := B.exec
  have hb := B.bytes
  have hr := B.returns
  have hts := atoms_spec (ws := wsX2_allSignsCounted) B.pre
  have hown : s.vm.findClass RX2 = some m.cls := findClass_of_methodNamed B.named
  have hlocks := B.notSynchronized
  have hl := lv_entry ([.ref h0]) (n := 3) (Nat.le_of_ble_eq_true rfl)
  rw [lg_entry_eq]
  generalize (lg_sl ([.ref h0]) ++ List.replicate (3 - (lg_sl ([.ref h0])).length) Slot.unset).toArray = ls at hl ⊢
  have hl : lv_has ls 3 [(0, .ref h0)] := hl
  refine lv_iconst (v := 0) hx hb dX2_allSignsCounted_0 (by decide) ?_
  refine lv_istore_n (lv' := [(1, .int 0), (0, .ref h0)]) hx hb dX2_allSignsCounted_1 rfl hl (by decide) rfl (fun ls hl => ?_)
  refine lv_iconst (v := 0) hx hb dX2_allSignsCounted_2 (by decide) ?_
  refine lv_istore_n (lv' := [(2, .int 0), (1, .int 0), (0, .ref h0)]) hx hb dX2_allSignsCounted_3 rfl hl (by decide) rfl (fun ls hl => ?_)
  have lp_4 : ∀ (k4 i : Nat) (x1 : Int32), i ≤ sz → sz + 1 ≤ i + k4 → m_X2_allSignsCounted ss ts sz = m_X2_allSignsCounted_L4 ss ts sz k4 i x1 → ∀ (ls : Array Slot), lv_has ls 3 [(0, .ref h0), (1, .int x1), (2, .int (nI i))] → W p l e (headSpec wsX2_allSignsCounted ({ frames := 2, cells := 0, slots := 0, locals := 41 } : Room)).room s m (([.ref h0] : List Value).toArray) below meth c s.heap [] 0 0 (MQ below (vp_Si (fun r => r = m_X2_allSignsCounted ss ts sz)) (([.ref h0] : List Value).toArray) s 0 0 (fun _ => False)) (F0 m 4 ls []) := by
    intro k4
    induction k4 with
    | zero => intro i x1 h1_ h2_; exfalso; omega
    | succ k4 ih4 =>
      intro i x1 hb4 hf4  hm4 ls hl
      refine lv_iload_n hx hb dX2_allSignsCounted_4 rfl (lv_at hl 2 rfl) ?_
      refine lv_aload_n hx hb dX2_allSignsCounted_5 rfl (lv_at hl 0 rfl) ?_
      refine va_get (D := (dC, dI)) (ci := 3) (v := .int (nI sz)) (C := RX2) (T := TX2) (N := 6) hx hb hts (by decide +kernel) hown hK hP 0 rfl rfl 5 (by decide) (hts (.fieldLink RX2 27 "PictureRows$Runs" "size" "I") (by decide +kernel)) (fun _ h9 => h9) rfl dX2_allSignsCounted_6 ?_
      refine lv_icmp_ge (tgt := 42) hx hb dX2_allSignsCounted_9 (by decide) (fun c_1 => ?_) (fun c_1 => ?_)
      · skip
        have c_1 : sz ≤ i := (nI_leI (a := sz) (b := i) (by omega) (by omega)).mp c_1
        refine lv_iload_n hx hb dX2_allSignsCounted_42 rfl (lv_at hl 1 rfl) ?_
        exact rd_iret (v := x1) hx hb hr hlocks (show m_X2_allSignsCounted ss ts sz = x1 from hm4.trans (by simp only [m_X2_allSignsCounted_L4, if_pos c_1])).symm dX2_allSignsCounted_43
      · skip
        have c_1 : ¬ sz ≤ i := (fun q_ => c_1 ((nI_leI (a := sz) (b := i) (by omega) (by omega)).mpr q_))
        refine lv_iload_n hx hb dX2_allSignsCounted_12 rfl (lv_at hl 2 rfl) ?_
        refine lv_bipush (v := 80) hx hb dX2_allSignsCounted_13 (by decide) ?_
        refine lv_icmp_ge (tgt := 42) hx hb dX2_allSignsCounted_15 (by decide) (fun c_2 => ?_) (fun c_2 => ?_)
        · skip
          have c_2 : 80 ≤ i := (nI_leI (a := 80) (b := i) (by omega) (by omega)).mp c_2
          exfalso; omega
        · skip
          have c_2 : ¬ 80 ≤ i := (fun q_ => c_2 ((nI_leI (a := 80) (b := i) (by omega) (by omega)).mpr q_))
          refine lv_iload_n hx hb dX2_allSignsCounted_18 rfl (lv_at hl 1 rfl) ?_
          refine lv_aload_n hx hb dX2_allSignsCounted_19 rfl (lv_at hl 0 rfl) ?_
          refine va_get (D := (dC, dI)) (ci := 3) (v := .ref h1) (C := RX2) (T := TX2) (N := 6) hx hb hts (by decide +kernel) hown hK hP 0 rfl rfl 0 (by decide) (hts (.fieldLink RX2 9 "PictureRows$Runs" "signs" "[I") (by decide +kernel)) (fun _ h9 => h9) rfl dX2_allSignsCounted_20 ?_
          refine lv_iload_n hx hb dX2_allSignsCounted_23 rfl (lv_at hl 2 rfl) ?_
          refine rd_iald hx hb hK hP 1 0 rfl rfl (i) (by omega) (by omega) dX2_allSignsCounted_24 ?_
          refine lv_aload_n hx hb dX2_allSignsCounted_25 rfl (lv_at hl 0 rfl) ?_
          refine va_get (D := (dC, dI)) (ci := 3) (v := .ref h2) (C := RX2) (T := TX2) (N := 6) hx hb hts (by decide +kernel) hown hK hP 0 rfl rfl 1 (by decide) (hts (.fieldLink RX2 15 "PictureRows$Runs" "times" "[I") (by decide +kernel)) (fun _ h9 => h9) rfl dX2_allSignsCounted_26 ?_
          refine lv_iload_n hx hb dX2_allSignsCounted_29 rfl (lv_at hl 2 rfl) ?_
          refine rd_iald hx hb hK hP 2 0 rfl rfl (i) (by omega) (by omega) dX2_allSignsCounted_30 ?_
          refine rd_callSN (As := [.int (ss i), .int (ts i)]) (rest := [.int x1]) ⟨hx, hb, hml, hown, hts⟩ hE (c_X4_signsCounted l dC dI (ss i) (ts i) ) ⟨va_cnB 2 hts gX2_allSignsCounted_X4_signsCounted_n85 rfl rfl rfl (hE.1.2 ("PictureRows$Runs", 85, yX4_signsCounted) (by decide)) (hts (.initialized RX4) (by decide +kernel)) (by decide +kernel) ⟨Nat.le_of_ble_eq_true rfl, Nat.le_of_ble_eq_true rfl⟩, hts (.static yX4_signsCounted) (by decide +kernel), trivial⟩ (hP.sub (ws' := []) [] rfl) (hK.sub [] rfl) rfl hl.1 rfl (Nat.le_of_ble_eq_true rfl) dX2_allSignsCounted_31 ⟨Nat.zero_le _, Nat.zero_le _⟩ (fun r9 hr9 => ?_)
          subst hr9
          refine lv_iadd hx hb dX2_allSignsCounted_34 ?_
          refine lv_istore_n (lv' := [(1, .int (x1 + (m_X4_signsCounted (ss i) (ts i)))), (0, .ref h0), (2, .int (nI i))]) hx hb dX2_allSignsCounted_35 rfl hl (by decide) rfl (fun ls hl => ?_)
          refine lv_iinc (v := nI (i + 1)) (lv' := [(2, .int (nI (i + 1))), (1, .int (x1 + (m_X4_signsCounted (ss i) (ts i)))), (0, .ref h0)]) hx hb dX2_allSignsCounted_36 hl (k := 2) rfl (nI_add (i) 1) (by decide) rfl (fun ls hl => ?_)
          refine lv_goto (tgt := 4) hx hb dX2_allSignsCounted_39 (by decide) ?_
          exact ih4 (i + 1) (x1 + (m_X4_signsCounted (ss i) (ts i))) (by omega) (by omega)  (hm4.trans (by simp only [m_X2_allSignsCounted_L4, if_neg c_1])) ls (lv_sub hl [2, 1, 0] rfl)
  exact lp_4 (sz + 1) (0) 0 (by omega) (by omega)  (show m_X2_allSignsCounted ss ts sz = m_X2_allSignsCounted_L4 ss ts sz (sz + 1) 0 0 from by simp only [m_X2_allSignsCounted]) ls (lv_sub hl [2, 1, 0] rfl)
