def m_X5_at0 (tx : Nat → Int32) (len : Nat) (k : Nat) : Int32 := if len ≤ k then ((-1)) else (tx k)
set_option maxHeartbeats 4000000 in
set_option maxRecDepth 100000 in
theorem c_X5_at0 (l : Launch) (dC : Nat → ClassId) (dI : Nat → Nat → Nat) (h0 : Nat) (th : Int32) (t1 : Nat) (mo : Int32) (a4 : Nat) (a5 : Nat) (a6 : Nat) (my : Nat) (pu : Int32) (mi : Int32) (ms : Int32) (a11 : Nat) (a12 : Nat) (a13 : Nat) (la : Int32) (kp : Nat) (sh : Nat) (mf : Int32) (a18 : Nat) (a19 : Nat) (a20 : Nat) (a21 : Nat) (a22 : Nat) (a23 : Nat) (cA : ClassId) (tx : Nat → Int32) (len : Nat) (k : Nat) (hlen : len ≤ 80) (hk : k ≤ 200) : Met l yX5_at0 wsX5_at0 ({ frames := 0, cells := 0, slots := 0, locals := 0 } : Room) (va_Pc [.ref h0, .int (nI k)] (rd_P (dC, dI) vwCl [(h0, .inr (6, [.int th, .ref t1, .int (nI len), .int mo, .ref a4, .ref a5, .ref a6, .int (nI my), .int pu, .int mi, .int ms, .ref a11, .ref a12, .ref a13, .int la, .int (nI kp), .int (nI sh), .int mf, .ref a18, .ref a19, .ref a20, .ref a21, .ref a22, .ref a23])), (t1, .inl (cA, 80, .inl tx))] [(cA, .int)])) (vp_Si (fun r => r = m_X5_at0 tx len k)) 0 0 (fun _ => False) := by
  refine Met.ofW (cc := cX5_at0) (maxL := 2) (ret := (some .int)) (by decide) rfl ?_
  intro p e s m args below meth c s₁ B hml hv
  obtain ⟨rfl, hE, hP, hK⟩ := hv
  have hx := B.exec
  have hb := B.bytes
  have hr := B.returns
  have hts := atoms_spec (ws := wsX5_at0) B.pre
  have hown : s.vm.findClass RX5 = some m.cls := findClass_of_methodNamed B.named
  have hlocks := B.notSynchronized
  have hl := lv_entry ([.ref h0, .int (nI k)]) (n := 2) (Nat.le_of_ble_eq_true rfl)
  rw [lg_entry_eq]
  generalize (lg_sl ([.ref h0, .int (nI k)]) ++ List.replicate (2 - (lg_sl ([.ref h0, .int (nI k)])).length) Slot.unset).toArray = ls at hl ⊢
  have hl : lv_has ls 2 [(0, .ref h0), (1, .int (nI k))] := hl
  refine lv_iload_n hx hb dX5_at0_0 rfl (lv_at hl 1 rfl) ?_
  refine lv_aload_n hx hb dX5_at0_1 rfl (lv_at hl 0 rfl) ?_
  refine va_get (D := (dC, dI)) (ci := 6) (v := .int (nI len)) (C := RX5) (T := TX5) (N := 24) hx hb hts (by decide +kernel) hown hK hP 0 rfl rfl 2 (by decide) (hts (.fieldLink RX5 72 "PictureRowsModel" "length" "I") (by decide +kernel)) (fun _ h9 => h9) rfl dX5_at0_2 ?_
  refine lv_icmp_ge (tgt := 17) hx hb dX5_at0_5 (by decide) (fun c_1 => ?_) (fun c_1 => ?_)
  · skip
    have c_1 : len ≤ k := (nI_leI (a := len) (b := k) (by omega) (by omega)).mp c_1
    refine lv_iconst (v := (-1)) hx hb dX5_at0_17 (by decide) ?_
    exact rd_iret (v := (-1)) hx hb hr hlocks (show m_X5_at0 tx len k = (-1) from by simp only [m_X5_at0, if_pos c_1]).symm dX5_at0_18
  · skip
    have c_1 : ¬ len ≤ k := (fun q_ => c_1 ((nI_leI (a := len) (b := k) (by omega) (by omega)).mpr q_))
    refine lv_aload_n hx hb dX5_at0_8 rfl (lv_at hl 0 rfl) ?_
    refine va_get (D := (dC, dI)) (ci := 6) (v := .ref t1) (C := RX5) (T := TX5) (N := 24) hx hb hts (by decide +kernel) hown hK hP 0 rfl rfl 1 (by decide) (hts (.fieldLink RX5 7 "PictureRowsModel" "text" "[I") (by decide +kernel)) (fun _ h9 => h9) rfl dX5_at0_9 ?_
    refine lv_iload_n hx hb dX5_at0_12 rfl (lv_at hl 1 rfl) ?_
    refine rd_iald hx hb hK hP 1 0 rfl rfl (k) (by omega) (by omega) dX5_at0_13 ?_
    refine lv_goto (tgt := 18) hx hb dX5_at0_14 (by decide) ?_
    exact rd_iret (v := tx k) hx hb hr hlocks (show m_X5_at0 tx len k = tx k from by simp only [m_X5_at0, if_neg c_1]).symm dX5_at0_18
def m_X5_great (ch : Int32) : Int32 := if ch < 97 then ch else (if 122 < ch then ch else (ch - 32))
set_option maxHeartbeats 4000000 in
set_option maxRecDepth 100000 in
theorem c_X5_great (l : Launch) (dC : Nat → ClassId) (dI : Nat → Nat → Nat) (ch : Int32) : Met l yX5_great wsX5_great ({ frames := 0, cells := 0, slots := 0, locals := 0 } : Room) (va_Pc [.int ch] (rd_P (dC, dI) vwCl [] [])) (vp_Si (fun r => r = m_X5_great ch)) 0 0 (fun _ => False) := by
  refine Met.ofW (cc := cX5_great) (maxL := 1) (ret := (some .int)) (by decide) rfl ?_
  intro p e s m args below meth c s₁ B hml hv
  obtain ⟨rfl, hE, hP, hK⟩ := hv
  have hx := B.exec
  have hb := B.bytes
  have hr := B.returns
  have hts := atoms_spec (ws := wsX5_great) B.pre
  have hown : s.vm.findClass RX5 = some m.cls := findClass_of_methodNamed B.named
  have hlocks := B.notSynchronized
  have hl := lv_entry ([.int ch]) (n := 1) (Nat.le_of_ble_eq_true rfl)
  rw [lg_entry_eq]
  generalize (lg_sl ([.int ch]) ++ List.replicate (1 - (lg_sl ([.int ch])).length) Slot.unset).toArray = ls at hl ⊢
  have hl : lv_has ls 1 [(0, .int ch)] := hl
  refine lv_iload_n hx hb dX5_great_0 rfl (lv_at hl 0 rfl) ?_
  refine lv_bipush (v := 97) hx hb dX5_great_1 (by decide) ?_
  refine lv_icmp_lt (tgt := 19) hx hb dX5_great_3 (by decide) (fun c_1 => ?_) (fun c_1 => ?_)
  · skip
    refine lv_iload_n hx hb dX5_great_19 rfl (lv_at hl 0 rfl) ?_
    exact rd_iret (v := ch) hx hb hr hlocks (show m_X5_great ch = ch from by simp only [m_X5_great, if_pos c_1]).symm dX5_great_20
  · skip
    refine lv_iload_n hx hb dX5_great_6 rfl (lv_at hl 0 rfl) ?_
    refine lv_bipush (v := 122) hx hb dX5_great_7 (by decide) ?_
    refine lv_icmp_gt (tgt := 19) hx hb dX5_great_9 (by decide) (fun c_2 => ?_) (fun c_2 => ?_)
    · skip
      refine lv_iload_n hx hb dX5_great_19 rfl (lv_at hl 0 rfl) ?_
      exact rd_iret (v := ch) hx hb hr hlocks (show m_X5_great ch = ch from by simp only [m_X5_great, if_neg c_1, if_pos c_2]).symm dX5_great_20
    · skip
      refine lv_iload_n hx hb dX5_great_12 rfl (lv_at hl 0 rfl) ?_
      refine lv_bipush (v := 32) hx hb dX5_great_13 (by decide) ?_
      refine lv_isub hx hb dX5_great_15 ?_
      refine lv_goto (tgt := 20) hx hb dX5_great_16 (by decide) ?_
      exact rd_iret (v := ch - 32) hx hb hr hlocks (show m_X5_great ch = ch - 32 from by simp only [m_X5_great, if_neg c_1, if_neg c_2]).symm dX5_great_20
def m_X5_signAt_j182_s0 (tx : Nat → Int32) (len : Nat) (k : Nat) : Bool := if (m_X5_great (m_X5_at0 tx len k)) = 65 then true else (if (m_X5_great (m_X5_at0 tx len k)) = 88 then true else (if (m_X5_great (m_X5_at0 tx len k)) = 57 then true else (if (m_X5_great (m_X5_at0 tx len k)) = 90 then true else (if (m_X5_great (m_X5_at0 tx len k)) = 42 then true else (if (m_X5_great (m_X5_at0 tx len k)) = 66 then true else (if (m_X5_great (m_X5_at0 tx len k)) = 48 then true else (if (m_X5_great (m_X5_at0 tx len k)) = 47 then true else (if (m_X5_great (m_X5_at0 tx len k)) = 44 then true else (if (m_X5_great (m_X5_at0 tx len k)) = 46 then true else (if (m_X5_great (m_X5_at0 tx len k)) = 43 then true else (if (m_X5_great (m_X5_at0 tx len k)) = 45 then true else (if (m_X5_great (m_X5_at0 tx len k)) = 83 then true else (if (m_X5_great (m_X5_at0 tx len k)) = 86 then true else (if (m_X5_great (m_X5_at0 tx len k)) = 80 then true else (if (m_X5_great (m_X5_at0 tx len k)) = 78 then true else false)))))))))))))))
def m_X5_signAt (tx : Nat → Int32) (len : Nat) (mo : Int32) (k : Nat) : Int32 := if (m_X5_at0 tx len k) = mo then 202 else (if (m_X5_great (m_X5_at0 tx len k)) = 67 then (if (m_X5_great (m_X5_at0 tx len (k + 1))) = 82 then 200 else ((-1))) else (if (m_X5_great (m_X5_at0 tx len k)) = 68 then (if (m_X5_great (m_X5_at0 tx len (k + 1))) = 66 then 201 else ((-1))) else (if (m_X5_signAt_j182_s0 tx len k) = false then ((-1)) else (m_X5_great (m_X5_at0 tx len k)))))
set_option maxHeartbeats 4000000 in
set_option maxRecDepth 100000 in
theorem c_X5_signAt (l : Launch) (dC : Nat → ClassId) (dI : Nat → Nat → Nat) (h0 : Nat) (th : Int32) (t1 : Nat) (a4 : Nat) (a5 : Nat) (a6 : Nat) (my : Nat) (pu : Int32) (mi : Int32) (ms : Int32) (a11 : Nat) (a12 : Nat) (a13 : Nat) (la : Int32) (kp : Nat) (sh : Nat) (mf : Int32) (a18 : Nat) (a19 : Nat) (a20 : Nat) (a21 : Nat) (a22 : Nat) (a23 : Nat) (cA : ClassId) (tx : Nat → Int32) (len : Nat) (mo : Int32) (k : Nat) (hlen : len ≤ 80) (hk : k ≤ 100) : Met l yX5_signAt wsX5_signAt ({ frames := 1, cells := 0, slots := 0, locals := 21 } : Room) (va_Pc [.ref h0, .int (nI k)] (rd_P (dC, dI) vwCl [(h0, .inr (6, [.int th, .ref t1, .int (nI len), .int mo, .ref a4, .ref a5, .ref a6, .int (nI my), .int pu, .int mi, .int ms, .ref a11, .ref a12, .ref a13, .int la, .int (nI kp), .int (nI sh), .int mf, .ref a18, .ref a19, .ref a20, .ref a21, .ref a22, .ref a23])), (t1, .inl (cA, 80, .inl tx))] [(cA, .int)])) (vp_Si (fun r => r = m_X5_signAt tx len mo k)) 0 0 (fun _ => False) := by
  refine Met.ofW (cc := cX5_signAt) (maxL := 5) (ret := (some .int)) (by decide) rfl ?_
  intro p e s m args below meth c s₁ B hml hv
  obtain ⟨rfl, hE, hP, hK⟩ := hv
  have hx := B.exec
  have hb := B.bytes
  have hr := B.returns
  have hts := atoms_spec (ws := wsX5_signAt) B.pre
  have hown : s.vm.findClass RX5 = some m.cls := findClass_of_methodNamed B.named
  have hlocks := B.notSynchronized
  have hl := lv_entry ([.ref h0, .int (nI k)]) (n := 5) (Nat.le_of_ble_eq_true rfl)
  rw [lg_entry_eq]
  generalize (lg_sl ([.ref h0, .int (nI k)]) ++ List.replicate (5 - (lg_sl ([.ref h0, .int (nI k)])).length) Slot.unset).toArray = ls at hl ⊢
  have hl : lv_has ls 5 [(0, .ref h0), (1, .int (nI k))] := hl
  refine lv_aload_n hx hb dX5_signAt_0 rfl (lv_at hl 0 rfl) ?_
  refine lv_iload_n hx hb dX5_signAt_1 rfl (lv_at hl 1 rfl) ?_
  refine rd_callV (As := [.int (nI k)]) (rest := []) ⟨hx, hb, hml, hown, hts⟩ hE (c_X5_at0 l dC dI h0 th t1 mo a4 a5 a6 my pu mi ms a11 a12 a13 la kp sh mf a18 a19 a20 a21 a22 a23 cA tx len k (by omega) (by omega)) (cwV 1 hts gX5_signAt_X5_at0 rfl rfl rfl (by decide +kernel) ⟨Nat.le_of_ble_eq_true rfl, Nat.le_of_ble_eq_true rfl⟩) (hP.sub (ws' := [(h0, .inr (6, [.int th, .ref t1, .int (nI len), .int mo, .ref a4, .ref a5, .ref a6, .int (nI my), .int pu, .int mi, .int ms, .ref a11, .ref a12, .ref a13, .int la, .int (nI kp), .int (nI sh), .int mf, .ref a18, .ref a19, .ref a20, .ref a21, .ref a22, .ref a23])), (t1, .inl (cA, 80, .inl tx))]) [0, 1] rfl) (hK.sub [0] rfl) (va_recv hK hP (ci := 6) (q0 := 0) rfl rfl) rfl hl.1 rfl (Nat.le_of_ble_eq_true rfl) dX5_signAt_2 ⟨Nat.zero_le _, Nat.zero_le _⟩ (fun r9 hr9 => ?_)
  subst hr9
  refine lv_istore_n (lv' := [(2, .int (m_X5_at0 tx len k)), (0, .ref h0), (1, .int (nI k))]) hx hb dX5_signAt_5 rfl hl (by decide) rfl (fun ls hl => ?_)
  refine lv_iload_n hx hb dX5_signAt_6 rfl (lv_at hl 0 rfl) ?_
  refine lv_aload_n hx hb dX5_signAt_7 rfl (lv_at hl 1 rfl) ?_
  refine va_get (D := (dC, dI)) (ci := 6) (v := .int mo) (C := RX5) (T := TX5) (N := 24) hx hb hts (by decide +kernel) hown hK hP 0 rfl rfl 3 (by decide) (hts (.fieldLink RX5 13 "PictureRowsModel" "money" "I") (by decide +kernel)) (fun _ h9 => h9) rfl dX5_signAt_8 ?_
  refine lv_icmp_ne (tgt := 18) hx hb dX5_signAt_11 (by decide) (fun c_1 => ?_) (fun c_1 => ?_)
  · skip
    refine lv_iload_n hx hb dX5_signAt_18 rfl (lv_at hl 0 rfl) ?_
    refine rd_callS (As := [.int (m_X5_at0 tx len k)]) (rest := []) ⟨hx, hb, hml, hown, hts⟩ hE (c_X5_great l dC dI (m_X5_at0 tx len k) ) (va_cwS 1 hts gX5_signAt_X5_great rfl rfl rfl (by decide +kernel) ⟨Nat.le_of_ble_eq_true rfl, Nat.le_of_ble_eq_true rfl⟩) (hP.sub (ws' := []) [] rfl) (hK.sub [] rfl) rfl hl.1 rfl (Nat.le_of_ble_eq_true rfl) dX5_signAt_19 ⟨Nat.zero_le _, Nat.zero_le _⟩ (fun r9 hr9 => ?_)
    subst hr9
    refine lv_istore_n (lv' := [(3, .int (m_X5_great (m_X5_at0 tx len k))), (2, .int (m_X5_at0 tx len k)), (0, .ref h0), (1, .int (nI k))]) hx hb dX5_signAt_22 rfl hl (by decide) rfl (fun ls hl => ?_)
    refine lv_iload_n hx hb dX5_signAt_23 rfl (lv_at hl 0 rfl) ?_
    refine lv_bipush (v := 67) hx hb dX5_signAt_24 (by decide) ?_
    refine lv_icmp_ne (tgt := 52) hx hb dX5_signAt_26 (by decide) (fun c_2 => ?_) (fun c_2 => ?_)
    · skip
      refine lv_iload_n hx hb dX5_signAt_52 rfl (lv_at hl 0 rfl) ?_
      refine lv_bipush (v := 68) hx hb dX5_signAt_53 (by decide) ?_
      refine lv_icmp_ne (tgt := 81) hx hb dX5_signAt_55 (by decide) (fun c_3 => ?_) (fun c_3 => ?_)
      · skip
        refine lv_iload_n hx hb dX5_signAt_81 rfl (lv_at hl 0 rfl) ?_
        refine lv_bipush (v := 65) hx hb dX5_signAt_82 (by decide) ?_
        have j_4 : ∀ (y0_j_4 : Bool), y0_j_4 = m_X5_signAt_j182_s0 tx len k → ∀ (ls : Array Slot), lv_has ls 5 [(0, .ref h0), (1, .int (nI k)), (2, .int (m_X5_at0 tx len k)), (3, .int (m_X5_great (m_X5_at0 tx len k)))] → W p l e (headSpec wsX5_signAt ({ frames := 1, cells := 0, slots := 0, locals := 21 } : Room)).room s m (([.ref h0, .int (nI k)] : List Value).toArray) below meth c s.heap [] 0 0 (MQ below (vp_Si (fun r => r = m_X5_signAt tx len mo k)) (([.ref h0, .int (nI k)] : List Value).toArray) s 0 0 (fun _ => False)) (F0 m 182 ls [.int (bI y0_j_4)]) := by
          intro y0_j_4 ey0_j_4 ls hl
          subst ey0_j_4
          refine lv_istore (lv' := [(4, .int (bI (m_X5_signAt_j182_s0 tx len k))), (0, .ref h0), (1, .int (nI k)), (2, .int (m_X5_at0 tx len k)), (3, .int (m_X5_great (m_X5_at0 tx len k)))]) hx hb dX5_signAt_182 hl (by decide) rfl (fun ls hl => ?_)
          refine lv_iload hx hb dX5_signAt_184 (lv_at hl 0 rfl) ?_
          refine lv_if_eq (tgt := 193) hx hb dX5_signAt_186 (by decide) (fun c_5 => ?_) (fun c_5 => ?_)
          · skip
            have c_5 := bI_0 c_5
            refine lv_iconst (v := (-1)) hx hb dX5_signAt_193 (by decide) ?_
            exact rd_iret (v := (-1)) hx hb hr hlocks (show m_X5_signAt tx len mo k = (-1) from by simp only [m_X5_signAt, if_neg c_1, if_neg c_2, if_neg c_3, if_pos c_5]).symm dX5_signAt_194
          · skip
            have c_5 := bI_n0 c_5
            refine lv_iload_n hx hb dX5_signAt_189 rfl (lv_at hl 4 rfl) ?_
            refine lv_goto (tgt := 194) hx hb dX5_signAt_190 (by decide) ?_
            exact rd_iret (v := m_X5_great (m_X5_at0 tx len k)) hx hb hr hlocks (show m_X5_signAt tx len mo k = m_X5_great (m_X5_at0 tx len k) from by simp only [m_X5_signAt, if_neg c_1, if_neg c_2, if_neg c_3, if_neg c_5]).symm dX5_signAt_194
        refine lv_icmp_eq (tgt := 177) hx hb dX5_signAt_84 (by decide) (fun c_6 => ?_) (fun c_6 => ?_)
        · skip
          refine lv_iconst (v := 1) hx hb dX5_signAt_177 (by decide) ?_
          refine lv_goto (tgt := 182) hx hb dX5_signAt_178 (by decide) ?_
          exact j_4 true (by simp only [m_X5_signAt_j182_s0, if_pos c_6]) ls (lv_sub hl [2, 3, 1, 0] rfl)
        · skip
          refine lv_iload_n hx hb dX5_signAt_87 rfl (lv_at hl 0 rfl) ?_
          refine lv_bipush (v := 88) hx hb dX5_signAt_88 (by decide) ?_
          refine lv_icmp_eq (tgt := 177) hx hb dX5_signAt_90 (by decide) (fun c_7 => ?_) (fun c_7 => ?_)
          · skip
            refine lv_iconst (v := 1) hx hb dX5_signAt_177 (by decide) ?_
            refine lv_goto (tgt := 182) hx hb dX5_signAt_178 (by decide) ?_
            exact j_4 true (by simp only [m_X5_signAt_j182_s0, if_neg c_6, if_pos c_7]) ls (lv_sub hl [2, 3, 1, 0] rfl)
          · skip
            refine lv_iload_n hx hb dX5_signAt_93 rfl (lv_at hl 0 rfl) ?_
            refine lv_bipush (v := 57) hx hb dX5_signAt_94 (by decide) ?_
            refine lv_icmp_eq (tgt := 177) hx hb dX5_signAt_96 (by decide) (fun c_8 => ?_) (fun c_8 => ?_)
            · skip
              refine lv_iconst (v := 1) hx hb dX5_signAt_177 (by decide) ?_
              refine lv_goto (tgt := 182) hx hb dX5_signAt_178 (by decide) ?_
              exact j_4 true (by simp only [m_X5_signAt_j182_s0, if_neg c_6, if_neg c_7, if_pos c_8]) ls (lv_sub hl [2, 3, 1, 0] rfl)
            · skip
              refine lv_iload_n hx hb dX5_signAt_99 rfl (lv_at hl 0 rfl) ?_
              refine lv_bipush (v := 90) hx hb dX5_signAt_100 (by decide) ?_
              refine lv_icmp_eq (tgt := 177) hx hb dX5_signAt_102 (by decide) (fun c_9 => ?_) (fun c_9 => ?_)
              · skip
                refine lv_iconst (v := 1) hx hb dX5_signAt_177 (by decide) ?_
                refine lv_goto (tgt := 182) hx hb dX5_signAt_178 (by decide) ?_
                exact j_4 true (by simp only [m_X5_signAt_j182_s0, if_neg c_6, if_neg c_7, if_neg c_8, if_pos c_9]) ls (lv_sub hl [2, 3, 1, 0] rfl)
              · skip
                refine lv_iload_n hx hb dX5_signAt_105 rfl (lv_at hl 0 rfl) ?_
                refine lv_bipush (v := 42) hx hb dX5_signAt_106 (by decide) ?_
                refine lv_icmp_eq (tgt := 177) hx hb dX5_signAt_108 (by decide) (fun c_10 => ?_) (fun c_10 => ?_)
                · skip
                  refine lv_iconst (v := 1) hx hb dX5_signAt_177 (by decide) ?_
                  refine lv_goto (tgt := 182) hx hb dX5_signAt_178 (by decide) ?_
                  exact j_4 true (by simp only [m_X5_signAt_j182_s0, if_neg c_6, if_neg c_7, if_neg c_8, if_neg c_9, if_pos c_10]) ls (lv_sub hl [2, 3, 1, 0] rfl)
                · skip
                  refine lv_iload_n hx hb dX5_signAt_111 rfl (lv_at hl 0 rfl) ?_
                  refine lv_bipush (v := 66) hx hb dX5_signAt_112 (by decide) ?_
                  refine lv_icmp_eq (tgt := 177) hx hb dX5_signAt_114 (by decide) (fun c_11 => ?_) (fun c_11 => ?_)
                  · skip
                    refine lv_iconst (v := 1) hx hb dX5_signAt_177 (by decide) ?_
                    refine lv_goto (tgt := 182) hx hb dX5_signAt_178 (by decide) ?_
                    exact j_4 true (by simp only [m_X5_signAt_j182_s0, if_neg c_6, if_neg c_7, if_neg c_8, if_neg c_9, if_neg c_10, if_pos c_11]) ls (lv_sub hl [2, 3, 1, 0] rfl)
                  · skip
                    refine lv_iload_n hx hb dX5_signAt_117 rfl (lv_at hl 0 rfl) ?_
                    refine lv_bipush (v := 48) hx hb dX5_signAt_118 (by decide) ?_
                    refine lv_icmp_eq (tgt := 177) hx hb dX5_signAt_120 (by decide) (fun c_12 => ?_) (fun c_12 => ?_)
                    · skip
                      refine lv_iconst (v := 1) hx hb dX5_signAt_177 (by decide) ?_
                      refine lv_goto (tgt := 182) hx hb dX5_signAt_178 (by decide) ?_
                      exact j_4 true (by simp only [m_X5_signAt_j182_s0, if_neg c_6, if_neg c_7, if_neg c_8, if_neg c_9, if_neg c_10, if_neg c_11, if_pos c_12]) ls (lv_sub hl [2, 3, 1, 0] rfl)
                    · skip
                      refine lv_iload_n hx hb dX5_signAt_123 rfl (lv_at hl 0 rfl) ?_
                      refine lv_bipush (v := 47) hx hb dX5_signAt_124 (by decide) ?_
                      refine lv_icmp_eq (tgt := 177) hx hb dX5_signAt_126 (by decide) (fun c_13 => ?_) (fun c_13 => ?_)
                      · skip
                        refine lv_iconst (v := 1) hx hb dX5_signAt_177 (by decide) ?_
                        refine lv_goto (tgt := 182) hx hb dX5_signAt_178 (by decide) ?_
                        exact j_4 true (by simp only [m_X5_signAt_j182_s0, if_neg c_6, if_neg c_7, if_neg c_8, if_neg c_9, if_neg c_10, if_neg c_11, if_neg c_12, if_pos c_13]) ls (lv_sub hl [2, 3, 1, 0] rfl)
                      · skip
                        refine lv_iload_n hx hb dX5_signAt_129 rfl (lv_at hl 0 rfl) ?_
                        refine lv_bipush (v := 44) hx hb dX5_signAt_130 (by decide) ?_
                        refine lv_icmp_eq (tgt := 177) hx hb dX5_signAt_132 (by decide) (fun c_14 => ?_) (fun c_14 => ?_)
                        · skip
                          refine lv_iconst (v := 1) hx hb dX5_signAt_177 (by decide) ?_
                          refine lv_goto (tgt := 182) hx hb dX5_signAt_178 (by decide) ?_
                          exact j_4 true (by simp only [m_X5_signAt_j182_s0, if_neg c_6, if_neg c_7, if_neg c_8, if_neg c_9, if_neg c_10, if_neg c_11, if_neg c_12, if_neg c_13, if_pos c_14]) ls (lv_sub hl [2, 3, 1, 0] rfl)
                        · skip
                          refine lv_iload_n hx hb dX5_signAt_135 rfl (lv_at hl 0 rfl) ?_
                          refine lv_bipush (v := 46) hx hb dX5_signAt_136 (by decide) ?_
                          refine lv_icmp_eq (tgt := 177) hx hb dX5_signAt_138 (by decide) (fun c_15 => ?_) (fun c_15 => ?_)
                          · skip
                            refine lv_iconst (v := 1) hx hb dX5_signAt_177 (by decide) ?_
                            refine lv_goto (tgt := 182) hx hb dX5_signAt_178 (by decide) ?_
                            exact j_4 true (by simp only [m_X5_signAt_j182_s0, if_neg c_6, if_neg c_7, if_neg c_8, if_neg c_9, if_neg c_10, if_neg c_11, if_neg c_12, if_neg c_13, if_neg c_14, if_pos c_15]) ls (lv_sub hl [2, 3, 1, 0] rfl)
                          · skip
                            refine lv_iload_n hx hb dX5_signAt_141 rfl (lv_at hl 0 rfl) ?_
                            refine lv_bipush (v := 43) hx hb dX5_signAt_142 (by decide) ?_
                            refine lv_icmp_eq (tgt := 177) hx hb dX5_signAt_144 (by decide) (fun c_16 => ?_) (fun c_16 => ?_)
                            · skip
                              refine lv_iconst (v := 1) hx hb dX5_signAt_177 (by decide) ?_
                              refine lv_goto (tgt := 182) hx hb dX5_signAt_178 (by decide) ?_
                              exact j_4 true (by simp only [m_X5_signAt_j182_s0, if_neg c_6, if_neg c_7, if_neg c_8, if_neg c_9, if_neg c_10, if_neg c_11, if_neg c_12, if_neg c_13, if_neg c_14, if_neg c_15, if_pos c_16]) ls (lv_sub hl [2, 3, 1, 0] rfl)
                            · skip
                              refine lv_iload_n hx hb dX5_signAt_147 rfl (lv_at hl 0 rfl) ?_
                              refine lv_bipush (v := 45) hx hb dX5_signAt_148 (by decide) ?_
                              refine lv_icmp_eq (tgt := 177) hx hb dX5_signAt_150 (by decide) (fun c_17 => ?_) (fun c_17 => ?_)
                              · skip
                                refine lv_iconst (v := 1) hx hb dX5_signAt_177 (by decide) ?_
                                refine lv_goto (tgt := 182) hx hb dX5_signAt_178 (by decide) ?_
                                exact j_4 true (by simp only [m_X5_signAt_j182_s0, if_neg c_6, if_neg c_7, if_neg c_8, if_neg c_9, if_neg c_10, if_neg c_11, if_neg c_12, if_neg c_13, if_neg c_14, if_neg c_15, if_neg c_16, if_pos c_17]) ls (lv_sub hl [2, 3, 1, 0] rfl)
                              · skip
                                refine lv_iload_n hx hb dX5_signAt_153 rfl (lv_at hl 0 rfl) ?_
                                refine lv_bipush (v := 83) hx hb dX5_signAt_154 (by decide) ?_
                                refine lv_icmp_eq (tgt := 177) hx hb dX5_signAt_156 (by decide) (fun c_18 => ?_) (fun c_18 => ?_)
                                · skip
                                  refine lv_iconst (v := 1) hx hb dX5_signAt_177 (by decide) ?_
                                  refine lv_goto (tgt := 182) hx hb dX5_signAt_178 (by decide) ?_
                                  exact j_4 true (by simp only [m_X5_signAt_j182_s0, if_neg c_6, if_neg c_7, if_neg c_8, if_neg c_9, if_neg c_10, if_neg c_11, if_neg c_12, if_neg c_13, if_neg c_14, if_neg c_15, if_neg c_16, if_neg c_17, if_pos c_18]) ls (lv_sub hl [2, 3, 1, 0] rfl)
                                · skip
                                  refine lv_iload_n hx hb dX5_signAt_159 rfl (lv_at hl 0 rfl) ?_
                                  refine lv_bipush (v := 86) hx hb dX5_signAt_160 (by decide) ?_
                                  refine lv_icmp_eq (tgt := 177) hx hb dX5_signAt_162 (by decide) (fun c_19 => ?_) (fun c_19 => ?_)
                                  · skip
                                    refine lv_iconst (v := 1) hx hb dX5_signAt_177 (by decide) ?_
                                    refine lv_goto (tgt := 182) hx hb dX5_signAt_178 (by decide) ?_
                                    exact j_4 true (by simp only [m_X5_signAt_j182_s0, if_neg c_6, if_neg c_7, if_neg c_8, if_neg c_9, if_neg c_10, if_neg c_11, if_neg c_12, if_neg c_13, if_neg c_14, if_neg c_15, if_neg c_16, if_neg c_17, if_neg c_18, if_pos c_19]) ls (lv_sub hl [2, 3, 1, 0] rfl)
                                  · skip
                                    refine lv_iload_n hx hb dX5_signAt_165 rfl (lv_at hl 0 rfl) ?_
                                    refine lv_bipush (v := 80) hx hb dX5_signAt_166 (by decide) ?_
                                    refine lv_icmp_eq (tgt := 177) hx hb dX5_signAt_168 (by decide) (fun c_20 => ?_) (fun c_20 => ?_)
                                    · skip
                                      refine lv_iconst (v := 1) hx hb dX5_signAt_177 (by decide) ?_
                                      refine lv_goto (tgt := 182) hx hb dX5_signAt_178 (by decide) ?_
                                      exact j_4 true (by simp only [m_X5_signAt_j182_s0, if_neg c_6, if_neg c_7, if_neg c_8, if_neg c_9, if_neg c_10, if_neg c_11, if_neg c_12, if_neg c_13, if_neg c_14, if_neg c_15, if_neg c_16, if_neg c_17, if_neg c_18, if_neg c_19, if_pos c_20]) ls (lv_sub hl [2, 3, 1, 0] rfl)
                                    · skip
                                      refine lv_iload_n hx hb dX5_signAt_171 rfl (lv_at hl 0 rfl) ?_
                                      refine lv_bipush (v := 78) hx hb dX5_signAt_172 (by decide) ?_
                                      refine lv_icmp_ne (tgt := 181) hx hb dX5_signAt_174 (by decide) (fun c_21 => ?_) (fun c_21 => ?_)
                                      · skip
                                        refine lv_iconst (v := 0) hx hb dX5_signAt_181 (by decide) ?_
                                        exact j_4 false (by simp only [m_X5_signAt_j182_s0, if_neg c_6, if_neg c_7, if_neg c_8, if_neg c_9, if_neg c_10, if_neg c_11, if_neg c_12, if_neg c_13, if_neg c_14, if_neg c_15, if_neg c_16, if_neg c_17, if_neg c_18, if_neg c_19, if_neg c_20, if_neg c_21]) ls (lv_sub hl [2, 3, 1, 0] rfl)
                                      · skip
                                        refine lv_iconst (v := 1) hx hb dX5_signAt_177 (by decide) ?_
                                        refine lv_goto (tgt := 182) hx hb dX5_signAt_178 (by decide) ?_
                                        exact j_4 true (by simp only [m_X5_signAt_j182_s0, if_neg c_6, if_neg c_7, if_neg c_8, if_neg c_9, if_neg c_10, if_neg c_11, if_neg c_12, if_neg c_13, if_neg c_14, if_neg c_15, if_neg c_16, if_neg c_17, if_neg c_18, if_neg c_19, if_neg c_20, if_pos c_21]) ls (lv_sub hl [2, 3, 1, 0] rfl)
      · skip
        refine lv_aload_n hx hb dX5_signAt_58 rfl (lv_at hl 2 rfl) ?_
        refine lv_iload_n hx hb dX5_signAt_59 rfl (lv_at hl 3 rfl) ?_
        refine lv_iconst (v := 1) hx hb dX5_signAt_60 (by decide) ?_
        refine rd_iadd hx hb (k) (1) dX5_signAt_61 ?_
        refine rd_callV (As := [.int (nI (k + 1))]) (rest := []) ⟨hx, hb, hml, hown, hts⟩ hE (c_X5_at0 l dC dI h0 th t1 mo a4 a5 a6 my pu mi ms a11 a12 a13 la kp sh mf a18 a19 a20 a21 a22 a23 cA tx len (k + 1) (by omega) (by omega)) (cwV 1 hts gX5_signAt_X5_at0 rfl rfl rfl (by decide +kernel) ⟨Nat.le_of_ble_eq_true rfl, Nat.le_of_ble_eq_true rfl⟩) (hP.sub (ws' := [(h0, .inr (6, [.int th, .ref t1, .int (nI len), .int mo, .ref a4, .ref a5, .ref a6, .int (nI my), .int pu, .int mi, .int ms, .ref a11, .ref a12, .ref a13, .int la, .int (nI kp), .int (nI sh), .int mf, .ref a18, .ref a19, .ref a20, .ref a21, .ref a22, .ref a23])), (t1, .inl (cA, 80, .inl tx))]) [0, 1] rfl) (hK.sub [0] rfl) (va_recv hK hP (ci := 6) (q0 := 0) rfl rfl) rfl hl.1 rfl (Nat.le_of_ble_eq_true rfl) dX5_signAt_62 ⟨Nat.zero_le _, Nat.zero_le _⟩ (fun r9 hr9 => ?_)
        subst hr9
        refine rd_callS (As := [.int (m_X5_at0 tx len (k + 1))]) (rest := []) ⟨hx, hb, hml, hown, hts⟩ hE (c_X5_great l dC dI (m_X5_at0 tx len (k + 1)) ) (va_cwS 1 hts gX5_signAt_X5_great rfl rfl rfl (by decide +kernel) ⟨Nat.le_of_ble_eq_true rfl, Nat.le_of_ble_eq_true rfl⟩) (hP.sub (ws' := []) [] rfl) (hK.sub [] rfl) rfl hl.1 rfl (Nat.le_of_ble_eq_true rfl) dX5_signAt_65 ⟨Nat.zero_le _, Nat.zero_le _⟩ (fun r9 hr9 => ?_)
        subst hr9
        refine lv_bipush (v := 66) hx hb dX5_signAt_68 (by decide) ?_
        refine lv_icmp_ne (tgt := 79) hx hb dX5_signAt_70 (by decide) (fun c_22 => ?_) (fun c_22 => ?_)
        · skip
          refine lv_iconst (v := (-1)) hx hb dX5_signAt_79 (by decide) ?_
          exact rd_iret (v := (-1)) hx hb hr hlocks (show m_X5_signAt tx len mo k = (-1) from by simp only [m_X5_signAt, if_neg c_1, if_neg c_2, if_pos c_3, if_neg c_22]).symm dX5_signAt_80
        · skip
          refine lv_sipush (v := 201) hx hb dX5_signAt_73 (by decide) ?_
          refine lv_goto (tgt := 80) hx hb dX5_signAt_76 (by decide) ?_
          exact rd_iret (v := 201) hx hb hr hlocks (show m_X5_signAt tx len mo k = 201 from by simp only [m_X5_signAt, if_neg c_1, if_neg c_2, if_pos c_3, if_pos c_22]).symm dX5_signAt_80
    · skip
      refine lv_aload_n hx hb dX5_signAt_29 rfl (lv_at hl 2 rfl) ?_
      refine lv_iload_n hx hb dX5_signAt_30 rfl (lv_at hl 3 rfl) ?_
      refine lv_iconst (v := 1) hx hb dX5_signAt_31 (by decide) ?_
      refine rd_iadd hx hb (k) (1) dX5_signAt_32 ?_
      refine rd_callV (As := [.int (nI (k + 1))]) (rest := []) ⟨hx, hb, hml, hown, hts⟩ hE (c_X5_at0 l dC dI h0 th t1 mo a4 a5 a6 my pu mi ms a11 a12 a13 la kp sh mf a18 a19 a20 a21 a22 a23 cA tx len (k + 1) (by omega) (by omega)) (cwV 1 hts gX5_signAt_X5_at0 rfl rfl rfl (by decide +kernel) ⟨Nat.le_of_ble_eq_true rfl, Nat.le_of_ble_eq_true rfl⟩) (hP.sub (ws' := [(h0, .inr (6, [.int th, .ref t1, .int (nI len), .int mo, .ref a4, .ref a5, .ref a6, .int (nI my), .int pu, .int mi, .int ms, .ref a11, .ref a12, .ref a13, .int la, .int (nI kp), .int (nI sh), .int mf, .ref a18, .ref a19, .ref a20, .ref a21, .ref a22, .ref a23])), (t1, .inl (cA, 80, .inl tx))]) [0, 1] rfl) (hK.sub [0] rfl) (va_recv hK hP (ci := 6) (q0 := 0) rfl rfl) rfl hl.1 rfl (Nat.le_of_ble_eq_true rfl) dX5_signAt_33 ⟨Nat.zero_le _, Nat.zero_le _⟩ (fun r9 hr9 => ?_)
      subst hr9
      refine rd_callS (As := [.int (m_X5_at0 tx len (k + 1))]) (rest := []) ⟨hx, hb, hml, hown, hts⟩ hE (c_X5_great l dC dI (m_X5_at0 tx len (k + 1)) ) (va_cwS 1 hts gX5_signAt_X5_great rfl rfl rfl (by decide +kernel) ⟨Nat.le_of_ble_eq_true rfl, Nat.le_of_ble_eq_true rfl⟩) (hP.sub (ws' := []) [] rfl) (hK.sub [] rfl) rfl hl.1 rfl (Nat.le_of_ble_eq_true rfl) dX5_signAt_36 ⟨Nat.zero_le _, Nat.zero_le _⟩ (fun r9 hr9 => ?_)
      subst hr9
      refine lv_bipush (v := 82) hx hb dX5_signAt_39 (by decide) ?_
      refine lv_icmp_ne (tgt := 50) hx hb dX5_signAt_41 (by decide) (fun c_23 => ?_) (fun c_23 => ?_)
      · skip
        refine lv_iconst (v := (-1)) hx hb dX5_signAt_50 (by decide) ?_
        exact rd_iret (v := (-1)) hx hb hr hlocks (show m_X5_signAt tx len mo k = (-1) from by simp only [m_X5_signAt, if_neg c_1, if_pos c_2, if_neg c_23]).symm dX5_signAt_51
      · skip
        refine lv_sipush (v := 200) hx hb dX5_signAt_44 (by decide) ?_
        refine lv_goto (tgt := 51) hx hb dX5_signAt_47 (by decide) ?_
        exact rd_iret (v := 200) hx hb hr hlocks (show m_X5_signAt tx len mo k = 200 from by simp only [m_X5_signAt, if_neg c_1, if_pos c_2, if_pos c_23]).symm dX5_signAt_51
  · skip
    refine lv_sipush (v := 202) hx hb dX5_signAt_14 (by decide) ?_
    exact rd_iret (v := 202) hx hb hr hlocks (show m_X5_signAt tx len mo k = 202 from by simp only [m_X5_signAt, if_pos c_1]).symm dX5_signAt_17
def m_X5_counted_L6 (tx : Nat → Int32) (len : Nat) (k : Nat) : Nat → Nat → Int32 → Int32
  | 0, _, _ => 0
  | k6 + 1, i, x2 => if (k + 5) ≤ i then x2 else (if (m_X5_at0 tx len i) < 48 then x2 else (if 57 < (m_X5_at0 tx len i) then x2 else (m_X5_counted_L6 tx len k k6 (i + 1) (((10 * x2) + (m_X5_at0 tx len i)) - 48))))
def m_X5_counted (tx : Nat → Int32) (len : Nat) (k : Nat) : Int32 := m_X5_counted_L6 tx len k (k + 5 + 1) (k + 1) 0
set_option maxHeartbeats 4000000 in
set_option maxRecDepth 100000 in
theorem c_X5_counted (l : Launch) (dC : Nat → ClassId) (dI : Nat → Nat → Nat) (h0 : Nat) (th : Int32) (t1 : Nat) (mo : Int32) (a4 : Nat) (a5 : Nat) (a6 : Nat) (my : Nat) (pu : Int32) (mi : Int32) (ms : Int32) (a11 : Nat) (a12 : Nat) (a13 : Nat) (la : Int32) (kp : Nat) (sh : Nat) (mf : Int32) (a18 : Nat) (a19 : Nat) (a20 : Nat) (a21 : Nat) (a22 : Nat) (a23 : Nat) (cA : ClassId) (tx : Nat → Int32) (len : Nat) (k : Nat) (hlen : len ≤ 80) (hk : k ≤ 100) : Met l yX5_counted wsX5_counted ({ frames := 1, cells := 0, slots := 0, locals := 21 } : Room) (va_Pc [.ref h0, .int (nI k)] (rd_P (dC, dI) vwCl [(h0, .inr (6, [.int th, .ref t1, .int (nI len), .int mo, .ref a4, .ref a5, .ref a6, .int (nI my), .int pu, .int mi, .int ms, .ref a11, .ref a12, .ref a13, .int la, .int (nI kp), .int (nI sh), .int mf, .ref a18, .ref a19, .ref a20, .ref a21, .ref a22, .ref a23])), (t1, .inl (cA, 80, .inl tx))] [(cA, .int)])) (vp_Si (fun r => r = m_X5_counted tx len k)) 0 0 (fun _ => False) := by
  refine Met.ofW (cc := cX5_counted) (maxL := 4) (ret := (some .int)) (by decide) rfl ?_
  intro p e s m args below meth c s₁ B hml hv
  obtain ⟨rfl, hE, hP, hK⟩ := hv
  have hx := B.exec
  have hb := B.bytes
  have hr := B.returns
  have hts := atoms_spec (ws := wsX5_counted) B.pre
  have hown : s.vm.findClass RX5 = some m.cls := findClass_of_methodNamed B.named
  have hlocks := B.notSynchronized
  have hl := lv_entry ([.ref h0, .int (nI k)]) (n := 4) (Nat.le_of_ble_eq_true rfl)
  rw [lg_entry_eq]
  generalize (lg_sl ([.ref h0, .int (nI k)]) ++ List.replicate (4 - (lg_sl ([.ref h0, .int (nI k)])).length) Slot.unset).toArray = ls at hl ⊢
  have hl : lv_has ls 4 [(0, .ref h0), (1, .int (nI k))] := hl
  refine lv_iconst (v := 0) hx hb dX5_counted_0 (by decide) ?_
  refine lv_istore_n (lv' := [(2, .int 0), (0, .ref h0), (1, .int (nI k))]) hx hb dX5_counted_1 rfl hl (by decide) rfl (fun ls hl => ?_)
  refine lv_iload_n hx hb dX5_counted_2 rfl (lv_at hl 2 rfl) ?_
  refine lv_iconst (v := 1) hx hb dX5_counted_3 (by decide) ?_
  refine rd_iadd hx hb (k) (1) dX5_counted_4 ?_
  refine lv_istore_n (lv' := [(3, .int (nI (k + 1))), (2, .int 0), (0, .ref h0), (1, .int (nI k))]) hx hb dX5_counted_5 rfl hl (by decide) rfl (fun ls hl => ?_)
  have lp_6 : ∀ (k6 i : Nat) (x2 : Int32), i ≤ k + 5 → k + 5 + 1 ≤ i + k6 → m_X5_counted tx len k = m_X5_counted_L6 tx len k k6 i x2 → ∀ (ls : Array Slot), lv_has ls 4 [(0, .ref h0), (1, .int (nI k)), (2, .int x2), (3, .int (nI i))] → W p l e (headSpec wsX5_counted ({ frames := 1, cells := 0, slots := 0, locals := 21 } : Room)).room s m (([.ref h0, .int (nI k)] : List Value).toArray) below meth c s.heap [] 0 0 (MQ below (vp_Si (fun r => r = m_X5_counted tx len k)) (([.ref h0, .int (nI k)] : List Value).toArray) s 0 0 (fun _ => False)) (F0 m 6 ls []) := by
    intro k6
    induction k6 with
    | zero => intro i x2 h1_ h2_; exfalso; omega
    | succ k6 ih6 =>
      intro i x2 hb6 hf6  hm6 ls hl
      refine lv_iload_n hx hb dX5_counted_6 rfl (lv_at hl 3 rfl) ?_
      refine lv_iload_n hx hb dX5_counted_7 rfl (lv_at hl 1 rfl) ?_
      refine lv_iconst (v := 5) hx hb dX5_counted_8 (by decide) ?_
      refine rd_iadd hx hb (k) (5) dX5_counted_9 ?_
      refine lv_icmp_ge (tgt := 53) hx hb dX5_counted_10 (by decide) (fun c_1 => ?_) (fun c_1 => ?_)
      · skip
        have c_1 : (k + 5) ≤ i := (nI_leI (a := k + 5) (b := i) (by omega) (by omega)).mp c_1
        refine lv_iload_n hx hb dX5_counted_53 rfl (lv_at hl 2 rfl) ?_
        exact rd_iret (v := x2) hx hb hr hlocks (show m_X5_counted tx len k = x2 from hm6.trans (by simp only [m_X5_counted_L6, if_pos c_1])).symm dX5_counted_54
      · skip
        have c_1 : ¬ (k + 5) ≤ i := (fun q_ => c_1 ((nI_leI (a := k + 5) (b := i) (by omega) (by omega)).mpr q_))
        refine lv_aload_n hx hb dX5_counted_13 rfl (lv_at hl 0 rfl) ?_
        refine lv_iload_n hx hb dX5_counted_14 rfl (lv_at hl 3 rfl) ?_
        refine rd_callV (As := [.int (nI i)]) (rest := []) ⟨hx, hb, hml, hown, hts⟩ hE (c_X5_at0 l dC dI h0 th t1 mo a4 a5 a6 my pu mi ms a11 a12 a13 la kp sh mf a18 a19 a20 a21 a22 a23 cA tx len i (by omega) (by omega)) (cwV 1 hts gX5_counted_X5_at0 rfl rfl rfl (by decide +kernel) ⟨Nat.le_of_ble_eq_true rfl, Nat.le_of_ble_eq_true rfl⟩) (hP.sub (ws' := [(h0, .inr (6, [.int th, .ref t1, .int (nI len), .int mo, .ref a4, .ref a5, .ref a6, .int (nI my), .int pu, .int mi, .int ms, .ref a11, .ref a12, .ref a13, .int la, .int (nI kp), .int (nI sh), .int mf, .ref a18, .ref a19, .ref a20, .ref a21, .ref a22, .ref a23])), (t1, .inl (cA, 80, .inl tx))]) [0, 1] rfl) (hK.sub [0] rfl) (va_recv hK hP (ci := 6) (q0 := 0) rfl rfl) rfl hl.1 rfl (Nat.le_of_ble_eq_true rfl) dX5_counted_15 ⟨Nat.zero_le _, Nat.zero_le _⟩ (fun r9 hr9 => ?_)
        subst hr9
        refine lv_bipush (v := 48) hx hb dX5_counted_18 (by decide) ?_
        refine lv_icmp_lt (tgt := 53) hx hb dX5_counted_20 (by decide) (fun c_2 => ?_) (fun c_2 => ?_)
        · skip
          refine lv_iload_n hx hb dX5_counted_53 rfl (lv_at hl 2 rfl) ?_
          exact rd_iret (v := x2) hx hb hr hlocks (show m_X5_counted tx len k = x2 from hm6.trans (by simp only [m_X5_counted_L6, if_neg c_1, if_pos c_2])).symm dX5_counted_54
        · skip
          refine lv_aload_n hx hb dX5_counted_23 rfl (lv_at hl 0 rfl) ?_
          refine lv_iload_n hx hb dX5_counted_24 rfl (lv_at hl 3 rfl) ?_
          refine rd_callV (As := [.int (nI i)]) (rest := []) ⟨hx, hb, hml, hown, hts⟩ hE (c_X5_at0 l dC dI h0 th t1 mo a4 a5 a6 my pu mi ms a11 a12 a13 la kp sh mf a18 a19 a20 a21 a22 a23 cA tx len i (by omega) (by omega)) (cwV 1 hts gX5_counted_X5_at0 rfl rfl rfl (by decide +kernel) ⟨Nat.le_of_ble_eq_true rfl, Nat.le_of_ble_eq_true rfl⟩) (hP.sub (ws' := [(h0, .inr (6, [.int th, .ref t1, .int (nI len), .int mo, .ref a4, .ref a5, .ref a6, .int (nI my), .int pu, .int mi, .int ms, .ref a11, .ref a12, .ref a13, .int la, .int (nI kp), .int (nI sh), .int mf, .ref a18, .ref a19, .ref a20, .ref a21, .ref a22, .ref a23])), (t1, .inl (cA, 80, .inl tx))]) [0, 1] rfl) (hK.sub [0] rfl) (va_recv hK hP (ci := 6) (q0 := 0) rfl rfl) rfl hl.1 rfl (Nat.le_of_ble_eq_true rfl) dX5_counted_25 ⟨Nat.zero_le _, Nat.zero_le _⟩ (fun r9 hr9 => ?_)
          subst hr9
          refine lv_bipush (v := 57) hx hb dX5_counted_28 (by decide) ?_
          refine lv_icmp_gt (tgt := 53) hx hb dX5_counted_30 (by decide) (fun c_3 => ?_) (fun c_3 => ?_)
          · skip
            refine lv_iload_n hx hb dX5_counted_53 rfl (lv_at hl 2 rfl) ?_
            exact rd_iret (v := x2) hx hb hr hlocks (show m_X5_counted tx len k = x2 from hm6.trans (by simp only [m_X5_counted_L6, if_neg c_1, if_neg c_2, if_pos c_3])).symm dX5_counted_54
          · skip
            refine lv_bipush (v := 10) hx hb dX5_counted_33 (by decide) ?_
            refine lv_iload_n hx hb dX5_counted_35 rfl (lv_at hl 2 rfl) ?_
            refine lv_imul hx hb dX5_counted_36 ?_
            refine lv_aload_n hx hb dX5_counted_37 rfl (lv_at hl 0 rfl) ?_
            refine lv_iload_n hx hb dX5_counted_38 rfl (lv_at hl 3 rfl) ?_
            refine rd_callV (As := [.int (nI i)]) (rest := [.int (10 * x2)]) ⟨hx, hb, hml, hown, hts⟩ hE (c_X5_at0 l dC dI h0 th t1 mo a4 a5 a6 my pu mi ms a11 a12 a13 la kp sh mf a18 a19 a20 a21 a22 a23 cA tx len i (by omega) (by omega)) (cwV 1 hts gX5_counted_X5_at0 rfl rfl rfl (by decide +kernel) ⟨Nat.le_of_ble_eq_true rfl, Nat.le_of_ble_eq_true rfl⟩) (hP.sub (ws' := [(h0, .inr (6, [.int th, .ref t1, .int (nI len), .int mo, .ref a4, .ref a5, .ref a6, .int (nI my), .int pu, .int mi, .int ms, .ref a11, .ref a12, .ref a13, .int la, .int (nI kp), .int (nI sh), .int mf, .ref a18, .ref a19, .ref a20, .ref a21, .ref a22, .ref a23])), (t1, .inl (cA, 80, .inl tx))]) [0, 1] rfl) (hK.sub [0] rfl) (va_recv hK hP (ci := 6) (q0 := 0) rfl rfl) rfl hl.1 rfl (Nat.le_of_ble_eq_true rfl) dX5_counted_39 ⟨Nat.zero_le _, Nat.zero_le _⟩ (fun r9 hr9 => ?_)
            subst hr9
            refine lv_iadd hx hb dX5_counted_42 ?_
            refine lv_bipush (v := 48) hx hb dX5_counted_43 (by decide) ?_
            refine lv_isub hx hb dX5_counted_45 ?_
            refine lv_istore_n (lv' := [(2, .int (((10 * x2) + (m_X5_at0 tx len i)) - 48)), (0, .ref h0), (1, .int (nI k)), (3, .int (nI i))]) hx hb dX5_counted_46 rfl hl (by decide) rfl (fun ls hl => ?_)
            refine lv_iinc (v := nI (i + 1)) (lv' := [(3, .int (nI (i + 1))), (2, .int (((10 * x2) + (m_X5_at0 tx len i)) - 48)), (0, .ref h0), (1, .int (nI k))]) hx hb dX5_counted_47 hl (k := 3) rfl (nI_add (i) 1) (by decide) rfl (fun ls hl => ?_)
            refine lv_goto (tgt := 6) hx hb dX5_counted_50 (by decide) ?_
            exact ih6 (i + 1) (((10 * x2) + (m_X5_at0 tx len i)) - 48) (by omega) (by omega)  (hm6.trans (by simp only [m_X5_counted_L6, if_neg c_1, if_neg c_2, if_neg c_3])) ls (lv_sub hl [2, 3, 1, 0] rfl)
  exact lp_6 (k + 5 + 1) (k + 1) 0 (by omega) (by omega)  (show m_X5_counted tx len k = m_X5_counted_L6 tx len k (k + 5 + 1) (k + 1) 0 from by simp only [m_X5_counted]) ls (lv_sub hl [2, 3, 1, 0] rfl)
def m_X5_behindCount_j76_s0 (tx : Nat → Int32) (len : Nat) (k : Nat) (i : Nat) : Bool := if i ≤ (k + 1) then false else (if (m_X5_at0 tx len i) = 41 then (if (m_X5_counted tx len k) ≤ 0 then false else true) else false)
def m_X5_behindCount_j76_s0_2 (tx : Nat → Int32) (len : Nat) (k : Nat) (i : Nat) : Bool := if i ≤ (k + 1) then false else (if (m_X5_at0 tx len i) = 41 then (if (m_X5_counted tx len k) ≤ 0 then false else true) else false)
def m_X5_behindCount_L4 (tx : Nat → Int32) (len : Nat) (k : Nat) : Nat → Nat → Int32
  | 0, _ => 0
  | k4 + 1, i => if 6 ≤ (i - k) then (if i ≤ (k + 1) then ((-1)) else ((-1))) else (if (m_X5_at0 tx len i) < 48 then (if (m_X5_behindCount_j76_s0 tx len k i) = false then ((-1)) else (nI (i + 1))) else (if 57 < (m_X5_at0 tx len i) then (if (m_X5_behindCount_j76_s0_2 tx len k i) = false then ((-1)) else (nI (i + 1))) else (m_X5_behindCount_L4 tx len k k4 (i + 1))))
def m_X5_behindCount (tx : Nat → Int32) (len : Nat) (k : Nat) : Int32 := m_X5_behindCount_L4 tx len k (k + 6 + 1) (k + 1)
set_option maxHeartbeats 4000000 in
set_option maxRecDepth 100000 in
theorem c_X5_behindCount (l : Launch) (dC : Nat → ClassId) (dI : Nat → Nat → Nat) (h0 : Nat) (th : Int32) (t1 : Nat) (mo : Int32) (a4 : Nat) (a5 : Nat) (a6 : Nat) (my : Nat) (pu : Int32) (mi : Int32) (ms : Int32) (a11 : Nat) (a12 : Nat) (a13 : Nat) (la : Int32) (kp : Nat) (sh : Nat) (mf : Int32) (a18 : Nat) (a19 : Nat) (a20 : Nat) (a21 : Nat) (a22 : Nat) (a23 : Nat) (cA : ClassId) (tx : Nat → Int32) (len : Nat) (k : Nat) (hlen : len ≤ 80) (hk : k ≤ 100) : Met l yX5_behindCount wsX5_behindCount ({ frames := 2, cells := 0, slots := 0, locals := 44 } : Room) (va_Pc [.ref h0, .int (nI k)] (rd_P (dC, dI) vwCl [(h0, .inr (6, [.int th, .ref t1, .int (nI len), .int mo, .ref a4, .ref a5, .ref a6, .int (nI my), .int pu, .int mi, .int ms, .ref a11, .ref a12, .ref a13, .int la, .int (nI kp), .int (nI sh), .int mf, .ref a18, .ref a19, .ref a20, .ref a21, .ref a22, .ref a23])), (t1, .inl (cA, 80, .inl tx))] [(cA, .int)])) (vp_Si (fun r => r = m_X5_behindCount tx len k)) 0 0 (fun _ => False) := by
  refine Met.ofW (cc := cX5_behindCount) (maxL := 4) (ret := (some .int)) (by decide) rfl ?_
  intro p e s m args below meth c s₁ B hml hv
  obtain ⟨rfl, hE, hP, hK⟩ := hv
  have hx := B.exec
  have hb := B.bytes
  have hr := B.returns
  have hts := atoms_spec (ws := wsX5_behindCount) B.pre
  have hown : s.vm.findClass RX5 = some m.cls := findClass_of_methodNamed B.named
  have hlocks := B.notSynchronized
  have hl := lv_entry ([.ref h0, .int (nI k)]) (n := 4) (Nat.le_of_ble_eq_true rfl)
  rw [lg_entry_eq]
  generalize (lg_sl ([.ref h0, .int (nI k)]) ++ List.replicate (4 - (lg_sl ([.ref h0, .int (nI k)])).length) Slot.unset).toArray = ls at hl ⊢
  have hl : lv_has ls 4 [(0, .ref h0), (1, .int (nI k))] := hl
  refine lv_iload_n hx hb dX5_behindCount_0 rfl (lv_at hl 1 rfl) ?_
  refine lv_iconst (v := 1) hx hb dX5_behindCount_1 (by decide) ?_
  refine rd_iadd hx hb (k) (1) dX5_behindCount_2 ?_
  refine lv_istore_n (lv' := [(2, .int (nI (k + 1))), (0, .ref h0), (1, .int (nI k))]) hx hb dX5_behindCount_3 rfl hl (by decide) rfl (fun ls hl => ?_)
  have lp_4 : ∀ (k4 i : Nat), i ≤ k + 6 → k + 6 + 1 ≤ i + k4 → k + 1 ≤ i → m_X5_behindCount tx len k = m_X5_behindCount_L4 tx len k k4 i → ∀ (ls : Array Slot), lv_has ls 4 [(0, .ref h0), (1, .int (nI k)), (2, .int (nI i))] → W p l e (headSpec wsX5_behindCount ({ frames := 2, cells := 0, slots := 0, locals := 44 } : Room)).room s m (([.ref h0, .int (nI k)] : List Value).toArray) below meth c s.heap [] 0 0 (MQ below (vp_Si (fun r => r = m_X5_behindCount tx len k)) (([.ref h0, .int (nI k)] : List Value).toArray) s 0 0 (fun _ => False)) (F0 m 4 ls []) := by
    intro k4
    induction k4 with
    | zero => intro i  h1_ h2_; exfalso; omega
    | succ k4 ih4 =>
      intro i  hb4 hf4 hki hm4 ls hl
      refine lv_iload_n hx hb dX5_behindCount_4 rfl (lv_at hl 2 rfl) ?_
      refine lv_iload_n hx hb dX5_behindCount_5 rfl (lv_at hl 1 rfl) ?_
      refine rd_isub hx hb (i) (k) (by omega) dX5_behindCount_6 ?_
      refine lv_bipush (v := 6) hx hb dX5_behindCount_7 (by decide) ?_
      refine lv_icmp_ge (tgt := 38) hx hb dX5_behindCount_9 (by decide) (fun c_1 => ?_) (fun c_1 => ?_)
      · skip
        have c_1 : 6 ≤ (i - k) := (nI_leI (a := 6) (b := i - k) (by omega) (by omega)).mp c_1
        refine lv_iload_n hx hb dX5_behindCount_38 rfl (lv_at hl 2 rfl) ?_
        refine lv_iload_n hx hb dX5_behindCount_39 rfl (lv_at hl 1 rfl) ?_
        refine lv_iconst (v := 1) hx hb dX5_behindCount_40 (by decide) ?_
        refine rd_iadd hx hb (k) (1) dX5_behindCount_41 ?_
        refine lv_icmp_le (tgt := 75) hx hb dX5_behindCount_42 (by decide) (fun c_2 => ?_) (fun c_2 => ?_)
        · skip
          have c_2 : i ≤ (k + 1) := (nI_leI (a := i) (b := k + 1) (by omega) (by omega)).mp c_2
          refine lv_iconst (v := 0) hx hb dX5_behindCount_75 (by decide) ?_
          refine lv_istore_n (lv' := [(3, .int 0), (0, .ref h0), (1, .int (nI k)), (2, .int (nI i))]) hx hb dX5_behindCount_76 rfl hl (by decide) rfl (fun ls hl => ?_)
          refine lv_iload_n hx hb dX5_behindCount_77 rfl (lv_at hl 0 rfl) ?_
          refine lv_if_eq (tgt := 87) hx hb dX5_behindCount_78 (by decide) (fun c_3 => ?_) (fun c_3 => ?_)
          · skip
            refine lv_iconst (v := (-1)) hx hb dX5_behindCount_87 (by decide) ?_
            exact rd_iret (v := (-1)) hx hb hr hlocks (show m_X5_behindCount tx len k = (-1) from hm4.trans (by simp only [m_X5_behindCount_L4, if_pos c_1, if_pos c_2])).symm dX5_behindCount_88
          · skip
            exact absurd (by decide) c_3
        · skip
          have c_2 : ¬ i ≤ (k + 1) := (fun q_ => c_2 ((nI_leI (a := i) (b := k + 1) (by omega) (by omega)).mpr q_))
          refine lv_iload_n hx hb dX5_behindCount_45 rfl (lv_at hl 2 rfl) ?_
          refine lv_iload_n hx hb dX5_behindCount_46 rfl (lv_at hl 1 rfl) ?_
          refine rd_isub hx hb (i) (k) (by omega) dX5_behindCount_47 ?_
          refine lv_bipush (v := 6) hx hb dX5_behindCount_48 (by decide) ?_
          refine lv_icmp_ge (tgt := 75) hx hb dX5_behindCount_50 (by decide) (fun c_4 => ?_) (fun c_4 => ?_)
          · skip
            have c_4 : 6 ≤ (i - k) := (nI_leI (a := 6) (b := i - k) (by omega) (by omega)).mp c_4
            refine lv_iconst (v := 0) hx hb dX5_behindCount_75 (by decide) ?_
            refine lv_istore_n (lv' := [(3, .int 0), (0, .ref h0), (1, .int (nI k)), (2, .int (nI i))]) hx hb dX5_behindCount_76 rfl hl (by decide) rfl (fun ls hl => ?_)
            refine lv_iload_n hx hb dX5_behindCount_77 rfl (lv_at hl 0 rfl) ?_
            refine lv_if_eq (tgt := 87) hx hb dX5_behindCount_78 (by decide) (fun c_5 => ?_) (fun c_5 => ?_)
            · skip
              refine lv_iconst (v := (-1)) hx hb dX5_behindCount_87 (by decide) ?_
              exact rd_iret (v := (-1)) hx hb hr hlocks (show m_X5_behindCount tx len k = (-1) from hm4.trans (by simp only [m_X5_behindCount_L4, if_pos c_1, if_neg c_2])).symm dX5_behindCount_88
            · skip
              exact absurd (by decide) c_5
          · skip
            have c_4 : ¬ 6 ≤ (i - k) := (fun q_ => c_4 ((nI_leI (a := 6) (b := i - k) (by omega) (by omega)).mpr q_))
            exact absurd c_1 c_4
      · skip
        have c_1 : ¬ 6 ≤ (i - k) := (fun q_ => c_1 ((nI_leI (a := 6) (b := i - k) (by omega) (by omega)).mpr q_))
        refine lv_aload_n hx hb dX5_behindCount_12 rfl (lv_at hl 0 rfl) ?_
        refine lv_iload_n hx hb dX5_behindCount_13 rfl (lv_at hl 2 rfl) ?_
        refine rd_callV (As := [.int (nI i)]) (rest := []) ⟨hx, hb, hml, hown, hts⟩ hE (c_X5_at0 l dC dI h0 th t1 mo a4 a5 a6 my pu mi ms a11 a12 a13 la kp sh mf a18 a19 a20 a21 a22 a23 cA tx len i (by omega) (by omega)) (cwV 1 hts gX5_behindCount_X5_at0 rfl rfl rfl (by decide +kernel) ⟨Nat.le_of_ble_eq_true rfl, Nat.le_of_ble_eq_true rfl⟩) (hP.sub (ws' := [(h0, .inr (6, [.int th, .ref t1, .int (nI len), .int mo, .ref a4, .ref a5, .ref a6, .int (nI my), .int pu, .int mi, .int ms, .ref a11, .ref a12, .ref a13, .int la, .int (nI kp), .int (nI sh), .int mf, .ref a18, .ref a19, .ref a20, .ref a21, .ref a22, .ref a23])), (t1, .inl (cA, 80, .inl tx))]) [0, 1] rfl) (hK.sub [0] rfl) (va_recv hK hP (ci := 6) (q0 := 0) rfl rfl) rfl hl.1 rfl (Nat.le_of_ble_eq_true rfl) dX5_behindCount_14 ⟨Nat.zero_le _, Nat.zero_le _⟩ (fun r9 hr9 => ?_)
        subst hr9
        refine lv_bipush (v := 48) hx hb dX5_behindCount_17 (by decide) ?_
        refine lv_icmp_lt (tgt := 38) hx hb dX5_behindCount_19 (by decide) (fun c_6 => ?_) (fun c_6 => ?_)
        · skip
          refine lv_iload_n hx hb dX5_behindCount_38 rfl (lv_at hl 2 rfl) ?_
          refine lv_iload_n hx hb dX5_behindCount_39 rfl (lv_at hl 1 rfl) ?_
          refine lv_iconst (v := 1) hx hb dX5_behindCount_40 (by decide) ?_
          refine rd_iadd hx hb (k) (1) dX5_behindCount_41 ?_
          have j_7 : ∀ (y0_j_7 : Bool), y0_j_7 = m_X5_behindCount_j76_s0 tx len k i → ∀ (ls : Array Slot), lv_has ls 4 [(0, .ref h0), (1, .int (nI k)), (2, .int (nI i))] → W p l e (headSpec wsX5_behindCount ({ frames := 2, cells := 0, slots := 0, locals := 44 } : Room)).room s m (([.ref h0, .int (nI k)] : List Value).toArray) below meth c s.heap [] 0 0 (MQ below (vp_Si (fun r => r = m_X5_behindCount tx len k)) (([.ref h0, .int (nI k)] : List Value).toArray) s 0 0 (fun _ => False)) (F0 m 76 ls [.int (bI y0_j_7)]) := by
            intro y0_j_7 ey0_j_7 ls hl
            subst ey0_j_7
            refine lv_istore_n (lv' := [(3, .int (bI (m_X5_behindCount_j76_s0 tx len k i))), (0, .ref h0), (1, .int (nI k)), (2, .int (nI i))]) hx hb dX5_behindCount_76 rfl hl (by decide) rfl (fun ls hl => ?_)
            refine lv_iload_n hx hb dX5_behindCount_77 rfl (lv_at hl 0 rfl) ?_
            refine lv_if_eq (tgt := 87) hx hb dX5_behindCount_78 (by decide) (fun c_8 => ?_) (fun c_8 => ?_)
            · skip
              have c_8 := bI_0 c_8
              refine lv_iconst (v := (-1)) hx hb dX5_behindCount_87 (by decide) ?_
              exact rd_iret (v := (-1)) hx hb hr hlocks (show m_X5_behindCount tx len k = (-1) from hm4.trans (by simp only [m_X5_behindCount_L4, if_neg c_1, if_pos c_6, if_pos c_8])).symm dX5_behindCount_88
            · skip
              have c_8 := bI_n0 c_8
              refine lv_iload_n hx hb dX5_behindCount_81 rfl (lv_at hl 3 rfl) ?_
              refine lv_iconst (v := 1) hx hb dX5_behindCount_82 (by decide) ?_
              refine rd_iadd hx hb (i) (1) dX5_behindCount_83 ?_
              refine lv_goto (tgt := 88) hx hb dX5_behindCount_84 (by decide) ?_
              exact rd_iret (v := nI (i + 1)) hx hb hr hlocks (show m_X5_behindCount tx len k = nI (i + 1) from hm4.trans (by simp only [m_X5_behindCount_L4, if_neg c_1, if_pos c_6, if_neg c_8])).symm dX5_behindCount_88
          refine lv_icmp_le (tgt := 75) hx hb dX5_behindCount_42 (by decide) (fun c_9 => ?_) (fun c_9 => ?_)
          · skip
            have c_9 : i ≤ (k + 1) := (nI_leI (a := i) (b := k + 1) (by omega) (by omega)).mp c_9
            refine lv_iconst (v := 0) hx hb dX5_behindCount_75 (by decide) ?_
            exact j_7 false (by simp only [m_X5_behindCount_j76_s0, if_pos c_9]) ls (lv_sub hl [0, 1, 2] rfl)
          · skip
            have c_9 : ¬ i ≤ (k + 1) := (fun q_ => c_9 ((nI_leI (a := i) (b := k + 1) (by omega) (by omega)).mpr q_))
            refine lv_iload_n hx hb dX5_behindCount_45 rfl (lv_at hl 2 rfl) ?_
            refine lv_iload_n hx hb dX5_behindCount_46 rfl (lv_at hl 1 rfl) ?_
            refine rd_isub hx hb (i) (k) (by omega) dX5_behindCount_47 ?_
            refine lv_bipush (v := 6) hx hb dX5_behindCount_48 (by decide) ?_
            refine lv_icmp_ge (tgt := 75) hx hb dX5_behindCount_50 (by decide) (fun c_10 => ?_) (fun c_10 => ?_)
            · skip
              have c_10 : 6 ≤ (i - k) := (nI_leI (a := 6) (b := i - k) (by omega) (by omega)).mp c_10
              exact absurd c_10 c_1
            · skip
              have c_10 : ¬ 6 ≤ (i - k) := (fun q_ => c_10 ((nI_leI (a := 6) (b := i - k) (by omega) (by omega)).mpr q_))
              refine lv_aload_n hx hb dX5_behindCount_53 rfl (lv_at hl 0 rfl) ?_
              refine lv_iload_n hx hb dX5_behindCount_54 rfl (lv_at hl 2 rfl) ?_
              refine rd_callV (As := [.int (nI i)]) (rest := []) ⟨hx, hb, hml, hown, hts⟩ hE (c_X5_at0 l dC dI h0 th t1 mo a4 a5 a6 my pu mi ms a11 a12 a13 la kp sh mf a18 a19 a20 a21 a22 a23 cA tx len i (by omega) (by omega)) (cwV 1 hts gX5_behindCount_X5_at0 rfl rfl rfl (by decide +kernel) ⟨Nat.le_of_ble_eq_true rfl, Nat.le_of_ble_eq_true rfl⟩) (hP.sub (ws' := [(h0, .inr (6, [.int th, .ref t1, .int (nI len), .int mo, .ref a4, .ref a5, .ref a6, .int (nI my), .int pu, .int mi, .int ms, .ref a11, .ref a12, .ref a13, .int la, .int (nI kp), .int (nI sh), .int mf, .ref a18, .ref a19, .ref a20, .ref a21, .ref a22, .ref a23])), (t1, .inl (cA, 80, .inl tx))]) [0, 1] rfl) (hK.sub [0] rfl) (va_recv hK hP (ci := 6) (q0 := 0) rfl rfl) rfl hl.1 rfl (Nat.le_of_ble_eq_true rfl) dX5_behindCount_55 ⟨Nat.zero_le _, Nat.zero_le _⟩ (fun r9 hr9 => ?_)
              subst hr9
              refine lv_bipush (v := 41) hx hb dX5_behindCount_58 (by decide) ?_
              refine lv_icmp_ne (tgt := 75) hx hb dX5_behindCount_60 (by decide) (fun c_11 => ?_) (fun c_11 => ?_)
              · skip
                refine lv_iconst (v := 0) hx hb dX5_behindCount_75 (by decide) ?_
                exact j_7 false (by simp only [m_X5_behindCount_j76_s0, if_neg c_9, if_neg c_11]) ls (lv_sub hl [0, 1, 2] rfl)
              · skip
                refine lv_aload_n hx hb dX5_behindCount_63 rfl (lv_at hl 0 rfl) ?_
                refine lv_iload_n hx hb dX5_behindCount_64 rfl (lv_at hl 1 rfl) ?_
                refine rd_callV (As := [.int (nI k)]) (rest := []) ⟨hx, hb, hml, hown, hts⟩ hE (c_X5_counted l dC dI h0 th t1 mo a4 a5 a6 my pu mi ms a11 a12 a13 la kp sh mf a18 a19 a20 a21 a22 a23 cA tx len k (by omega) (by omega)) (cwV 1 hts gX5_behindCount_X5_counted rfl rfl rfl (by decide +kernel) ⟨Nat.le_of_ble_eq_true rfl, Nat.le_of_ble_eq_true rfl⟩) (hP.sub (ws' := [(h0, .inr (6, [.int th, .ref t1, .int (nI len), .int mo, .ref a4, .ref a5, .ref a6, .int (nI my), .int pu, .int mi, .int ms, .ref a11, .ref a12, .ref a13, .int la, .int (nI kp), .int (nI sh), .int mf, .ref a18, .ref a19, .ref a20, .ref a21, .ref a22, .ref a23])), (t1, .inl (cA, 80, .inl tx))]) [0, 1] rfl) (hK.sub [0] rfl) (va_recv hK hP (ci := 6) (q0 := 0) rfl rfl) rfl hl.1 rfl (Nat.le_of_ble_eq_true rfl) dX5_behindCount_65 ⟨Nat.zero_le _, Nat.zero_le _⟩ (fun r9 hr9 => ?_)
                subst hr9
                refine lv_if_le (tgt := 75) hx hb dX5_behindCount_68 (by decide) (fun c_12 => ?_) (fun c_12 => ?_)
                · skip
                  refine lv_iconst (v := 0) hx hb dX5_behindCount_75 (by decide) ?_
                  exact j_7 false (by simp only [m_X5_behindCount_j76_s0, if_neg c_9, if_pos c_11, if_pos c_12]) ls (lv_sub hl [0, 1, 2] rfl)
                · skip
                  refine lv_iconst (v := 1) hx hb dX5_behindCount_71 (by decide) ?_
                  refine lv_goto (tgt := 76) hx hb dX5_behindCount_72 (by decide) ?_
                  exact j_7 true (by simp only [m_X5_behindCount_j76_s0, if_neg c_9, if_pos c_11, if_neg c_12]) ls (lv_sub hl [0, 1, 2] rfl)
        · skip
          refine lv_aload_n hx hb dX5_behindCount_22 rfl (lv_at hl 0 rfl) ?_
          refine lv_iload_n hx hb dX5_behindCount_23 rfl (lv_at hl 2 rfl) ?_
          refine rd_callV (As := [.int (nI i)]) (rest := []) ⟨hx, hb, hml, hown, hts⟩ hE (c_X5_at0 l dC dI h0 th t1 mo a4 a5 a6 my pu mi ms a11 a12 a13 la kp sh mf a18 a19 a20 a21 a22 a23 cA tx len i (by omega) (by omega)) (cwV 1 hts gX5_behindCount_X5_at0 rfl rfl rfl (by decide +kernel) ⟨Nat.le_of_ble_eq_true rfl, Nat.le_of_ble_eq_true rfl⟩) (hP.sub (ws' := [(h0, .inr (6, [.int th, .ref t1, .int (nI len), .int mo, .ref a4, .ref a5, .ref a6, .int (nI my), .int pu, .int mi, .int ms, .ref a11, .ref a12, .ref a13, .int la, .int (nI kp), .int (nI sh), .int mf, .ref a18, .ref a19, .ref a20, .ref a21, .ref a22, .ref a23])), (t1, .inl (cA, 80, .inl tx))]) [0, 1] rfl) (hK.sub [0] rfl) (va_recv hK hP (ci := 6) (q0 := 0) rfl rfl) rfl hl.1 rfl (Nat.le_of_ble_eq_true rfl) dX5_behindCount_24 ⟨Nat.zero_le _, Nat.zero_le _⟩ (fun r9 hr9 => ?_)
          subst hr9
          refine lv_bipush (v := 57) hx hb dX5_behindCount_27 (by decide) ?_
          refine lv_icmp_gt (tgt := 38) hx hb dX5_behindCount_29 (by decide) (fun c_13 => ?_) (fun c_13 => ?_)
          · skip
            refine lv_iload_n hx hb dX5_behindCount_38 rfl (lv_at hl 2 rfl) ?_
            refine lv_iload_n hx hb dX5_behindCount_39 rfl (lv_at hl 1 rfl) ?_
            refine lv_iconst (v := 1) hx hb dX5_behindCount_40 (by decide) ?_
            refine rd_iadd hx hb (k) (1) dX5_behindCount_41 ?_
            have j_14 : ∀ (y0_j_14 : Bool), y0_j_14 = m_X5_behindCount_j76_s0_2 tx len k i → ∀ (ls : Array Slot), lv_has ls 4 [(0, .ref h0), (1, .int (nI k)), (2, .int (nI i))] → W p l e (headSpec wsX5_behindCount ({ frames := 2, cells := 0, slots := 0, locals := 44 } : Room)).room s m (([.ref h0, .int (nI k)] : List Value).toArray) below meth c s.heap [] 0 0 (MQ below (vp_Si (fun r => r = m_X5_behindCount tx len k)) (([.ref h0, .int (nI k)] : List Value).toArray) s 0 0 (fun _ => False)) (F0 m 76 ls [.int (bI y0_j_14)]) := by
              intro y0_j_14 ey0_j_14 ls hl
              subst ey0_j_14
              refine lv_istore_n (lv' := [(3, .int (bI (m_X5_behindCount_j76_s0_2 tx len k i))), (0, .ref h0), (1, .int (nI k)), (2, .int (nI i))]) hx hb dX5_behindCount_76 rfl hl (by decide) rfl (fun ls hl => ?_)
              refine lv_iload_n hx hb dX5_behindCount_77 rfl (lv_at hl 0 rfl) ?_
              refine lv_if_eq (tgt := 87) hx hb dX5_behindCount_78 (by decide) (fun c_15 => ?_) (fun c_15 => ?_)
              · skip
                have c_15 := bI_0 c_15
                refine lv_iconst (v := (-1)) hx hb dX5_behindCount_87 (by decide) ?_
                exact rd_iret (v := (-1)) hx hb hr hlocks (show m_X5_behindCount tx len k = (-1) from hm4.trans (by simp only [m_X5_behindCount_L4, if_neg c_1, if_neg c_6, if_pos c_13, if_pos c_15])).symm dX5_behindCount_88
              · skip
                have c_15 := bI_n0 c_15
                refine lv_iload_n hx hb dX5_behindCount_81 rfl (lv_at hl 3 rfl) ?_
                refine lv_iconst (v := 1) hx hb dX5_behindCount_82 (by decide) ?_
                refine rd_iadd hx hb (i) (1) dX5_behindCount_83 ?_
                refine lv_goto (tgt := 88) hx hb dX5_behindCount_84 (by decide) ?_
                exact rd_iret (v := nI (i + 1)) hx hb hr hlocks (show m_X5_behindCount tx len k = nI (i + 1) from hm4.trans (by simp only [m_X5_behindCount_L4, if_neg c_1, if_neg c_6, if_pos c_13, if_neg c_15])).symm dX5_behindCount_88
            refine lv_icmp_le (tgt := 75) hx hb dX5_behindCount_42 (by decide) (fun c_16 => ?_) (fun c_16 => ?_)
            · skip
              have c_16 : i ≤ (k + 1) := (nI_leI (a := i) (b := k + 1) (by omega) (by omega)).mp c_16
              refine lv_iconst (v := 0) hx hb dX5_behindCount_75 (by decide) ?_
              exact j_14 false (by simp only [m_X5_behindCount_j76_s0_2, if_pos c_16]) ls (lv_sub hl [0, 1, 2] rfl)
            · skip
              have c_16 : ¬ i ≤ (k + 1) := (fun q_ => c_16 ((nI_leI (a := i) (b := k + 1) (by omega) (by omega)).mpr q_))
              refine lv_iload_n hx hb dX5_behindCount_45 rfl (lv_at hl 2 rfl) ?_
              refine lv_iload_n hx hb dX5_behindCount_46 rfl (lv_at hl 1 rfl) ?_
              refine rd_isub hx hb (i) (k) (by omega) dX5_behindCount_47 ?_
              refine lv_bipush (v := 6) hx hb dX5_behindCount_48 (by decide) ?_
              refine lv_icmp_ge (tgt := 75) hx hb dX5_behindCount_50 (by decide) (fun c_17 => ?_) (fun c_17 => ?_)
              · skip
                have c_17 : 6 ≤ (i - k) := (nI_leI (a := 6) (b := i - k) (by omega) (by omega)).mp c_17
                exact absurd c_17 c_1
              · skip
                have c_17 : ¬ 6 ≤ (i - k) := (fun q_ => c_17 ((nI_leI (a := 6) (b := i - k) (by omega) (by omega)).mpr q_))
                refine lv_aload_n hx hb dX5_behindCount_53 rfl (lv_at hl 0 rfl) ?_
                refine lv_iload_n hx hb dX5_behindCount_54 rfl (lv_at hl 2 rfl) ?_
                refine rd_callV (As := [.int (nI i)]) (rest := []) ⟨hx, hb, hml, hown, hts⟩ hE (c_X5_at0 l dC dI h0 th t1 mo a4 a5 a6 my pu mi ms a11 a12 a13 la kp sh mf a18 a19 a20 a21 a22 a23 cA tx len i (by omega) (by omega)) (cwV 1 hts gX5_behindCount_X5_at0 rfl rfl rfl (by decide +kernel) ⟨Nat.le_of_ble_eq_true rfl, Nat.le_of_ble_eq_true rfl⟩) (hP.sub (ws' := [(h0, .inr (6, [.int th, .ref t1, .int (nI len), .int mo, .ref a4, .ref a5, .ref a6, .int (nI my), .int pu, .int mi, .int ms, .ref a11, .ref a12, .ref a13, .int la, .int (nI kp), .int (nI sh), .int mf, .ref a18, .ref a19, .ref a20, .ref a21, .ref a22, .ref a23])), (t1, .inl (cA, 80, .inl tx))]) [0, 1] rfl) (hK.sub [0] rfl) (va_recv hK hP (ci := 6) (q0 := 0) rfl rfl) rfl hl.1 rfl (Nat.le_of_ble_eq_true rfl) dX5_behindCount_55 ⟨Nat.zero_le _, Nat.zero_le _⟩ (fun r9 hr9 => ?_)
                subst hr9
                refine lv_bipush (v := 41) hx hb dX5_behindCount_58 (by decide) ?_
                refine lv_icmp_ne (tgt := 75) hx hb dX5_behindCount_60 (by decide) (fun c_18 => ?_) (fun c_18 => ?_)
                · skip
                  refine lv_iconst (v := 0) hx hb dX5_behindCount_75 (by decide) ?_
                  exact j_14 false (by simp only [m_X5_behindCount_j76_s0_2, if_neg c_16, if_neg c_18]) ls (lv_sub hl [0, 1, 2] rfl)
                · skip
                  refine lv_aload_n hx hb dX5_behindCount_63 rfl (lv_at hl 0 rfl) ?_
                  refine lv_iload_n hx hb dX5_behindCount_64 rfl (lv_at hl 1 rfl) ?_
                  refine rd_callV (As := [.int (nI k)]) (rest := []) ⟨hx, hb, hml, hown, hts⟩ hE (c_X5_counted l dC dI h0 th t1 mo a4 a5 a6 my pu mi ms a11 a12 a13 la kp sh mf a18 a19 a20 a21 a22 a23 cA tx len k (by omega) (by omega)) (cwV 1 hts gX5_behindCount_X5_counted rfl rfl rfl (by decide +kernel) ⟨Nat.le_of_ble_eq_true rfl, Nat.le_of_ble_eq_true rfl⟩) (hP.sub (ws' := [(h0, .inr (6, [.int th, .ref t1, .int (nI len), .int mo, .ref a4, .ref a5, .ref a6, .int (nI my), .int pu, .int mi, .int ms, .ref a11, .ref a12, .ref a13, .int la, .int (nI kp), .int (nI sh), .int mf, .ref a18, .ref a19, .ref a20, .ref a21, .ref a22, .ref a23])), (t1, .inl (cA, 80, .inl tx))]) [0, 1] rfl) (hK.sub [0] rfl) (va_recv hK hP (ci := 6) (q0 := 0) rfl rfl) rfl hl.1 rfl (Nat.le_of_ble_eq_true rfl) dX5_behindCount_65 ⟨Nat.zero_le _, Nat.zero_le _⟩ (fun r9 hr9 => ?_)
                  subst hr9
                  refine lv_if_le (tgt := 75) hx hb dX5_behindCount_68 (by decide) (fun c_19 => ?_) (fun c_19 => ?_)
                  · skip
                    refine lv_iconst (v := 0) hx hb dX5_behindCount_75 (by decide) ?_
                    exact j_14 false (by simp only [m_X5_behindCount_j76_s0_2, if_neg c_16, if_pos c_18, if_pos c_19]) ls (lv_sub hl [0, 1, 2] rfl)
                  · skip
                    refine lv_iconst (v := 1) hx hb dX5_behindCount_71 (by decide) ?_
                    refine lv_goto (tgt := 76) hx hb dX5_behindCount_72 (by decide) ?_
                    exact j_14 true (by simp only [m_X5_behindCount_j76_s0_2, if_neg c_16, if_pos c_18, if_neg c_19]) ls (lv_sub hl [0, 1, 2] rfl)
          · skip
            refine lv_iinc (v := nI (i + 1)) (lv' := [(2, .int (nI (i + 1))), (0, .ref h0), (1, .int (nI k))]) hx hb dX5_behindCount_32 hl (k := 2) rfl (nI_add (i) 1) (by decide) rfl (fun ls hl => ?_)
            refine lv_goto (tgt := 4) hx hb dX5_behindCount_35 (by decide) ?_
            exact ih4 (i + 1)  (by omega) (by omega) (by omega) (hm4.trans (by simp only [m_X5_behindCount_L4, if_neg c_1, if_neg c_6, if_neg c_13])) ls (lv_sub hl [1, 2, 0] rfl)
  exact lp_4 (k + 6 + 1) (k + 1)  (by omega) (by omega) (by omega) (show m_X5_behindCount tx len k = m_X5_behindCount_L4 tx len k (k + 6 + 1) (k + 1) from by simp only [m_X5_behindCount]) ls (lv_sub hl [1, 2, 0] rfl)
def m_X5_isDigit_j89_s0 (rd : Nat → Int32) (k : Nat) (j : Nat) (x3 : Bool) : Bool := if x3 = false then false else (if (rd j) = (rd k) then false else true)
def m_X5_isDigit_L58 (rd : Nat → Int32) (k : Nat) : Nat → Nat → Bool → Bool
  | 0, _, _ => false
  | k58 + 1, j, x3 => if k ≤ j then (if x3 = false then true else false) else (m_X5_isDigit_L58 rd k k58 (j + 1) (m_X5_isDigit_j89_s0 rd k j x3))
def m_X5_isDigit (rd : Nat → Int32) (kd : Nat → Int32) (k : Nat) : Bool := if (kd k) = 12 then true else (if (kd k) = 6 then true else (if (kd k) = 7 then true else (if (kd k) = 16 then true else (if (kd k) = 17 then true else (if (kd k) < 8 then false else (if (kd k) ≤ 11 then (m_X5_isDigit_L58 rd k (k + 1) 0 true) else false))))))
set_option maxHeartbeats 4000000 in
set_option maxRecDepth 100000 in
theorem c_X5_isDigit (l : Launch) (dC : Nat → ClassId) (dI : Nat → Nat → Nat) (h0 : Nat) (th : Int32) (t1 : Nat) (len : Nat) (mo : Int32) (a4 : Nat) (a5 : Nat) (a6 : Nat) (my : Nat) (pu : Int32) (mi : Int32) (ms : Int32) (a11 : Nat) (a12 : Nat) (a13 : Nat) (la : Int32) (kp : Nat) (sh : Nat) (mf : Int32) (a18 : Nat) (a19 : Nat) (a20 : Nat) (a21 : Nat) (a22 : Nat) (a23 : Nat) (cA : ClassId) (rd : Nat → Int32) (kd : Nat → Int32) (k : Nat) (hk : k < 10200) : Met l yX5_isDigit wsX5_isDigit ({ frames := 0, cells := 0, slots := 0, locals := 0 } : Room) (va_Pc [.ref h0, .int (nI k)] (rd_P (dC, dI) vwCl [(h0, .inr (6, [.int th, .ref t1, .int (nI len), .int mo, .ref a4, .ref a5, .ref a6, .int (nI my), .int pu, .int mi, .int ms, .ref a11, .ref a12, .ref a13, .int la, .int (nI kp), .int (nI sh), .int mf, .ref a18, .ref a19, .ref a20, .ref a21, .ref a22, .ref a23])), (a4, .inl (cA, 10200, .inl rd)), (a6, .inl (cA, 10200, .inl kd))] [(cA, .int)])) (vp_Si (fun r => r = bI (m_X5_isDigit rd kd k))) 0 0 (fun _ => False) := by
  refine Met.ofW (cc := cX5_isDigit) (maxL := 5) (ret := (some .boolean)) (by decide) rfl ?_
  intro p e s m args below meth c s₁ B hml hv
  obtain ⟨rfl, hE, hP, hK⟩ := hv
  have hx := B.exec
  have hb := B.bytes
  have hr := B.returns
  have hts := atoms_spec (ws := wsX5_isDigit) B.pre
  have hown : s.vm.findClass RX5 = some m.cls := findClass_of_methodNamed B.named
  have hlocks := B.notSynchronized
  have hl := lv_entry ([.ref h0, .int (nI k)]) (n := 5) (Nat.le_of_ble_eq_true rfl)
  rw [lg_entry_eq]
  generalize (lg_sl ([.ref h0, .int (nI k)]) ++ List.replicate (5 - (lg_sl ([.ref h0, .int (nI k)])).length) Slot.unset).toArray = ls at hl ⊢
  have hl : lv_has ls 5 [(0, .ref h0), (1, .int (nI k))] := hl
  refine lv_aload_n hx hb dX5_isDigit_0 rfl (lv_at hl 0 rfl) ?_
  refine va_get (D := (dC, dI)) (ci := 6) (v := .ref a6) (C := RX5) (T := TX5) (N := 24) hx hb hts (by decide +kernel) hown hK hP 0 rfl rfl 6 (by decide) (hts (.fieldLink RX5 23 "PictureRowsModel" "kind" "[I") (by decide +kernel)) (fun _ h9 => h9) rfl dX5_isDigit_1 ?_
  refine lv_iload_n hx hb dX5_isDigit_4 rfl (lv_at hl 1 rfl) ?_
  refine rd_iald hx hb hK hP 2 0 rfl rfl (k) (by omega) (by omega) dX5_isDigit_5 ?_
  refine lv_istore_n (lv' := [(2, .int (kd k)), (0, .ref h0), (1, .int (nI k))]) hx hb dX5_isDigit_6 rfl hl (by decide) rfl (fun ls hl => ?_)
  refine lv_iload_n hx hb dX5_isDigit_7 rfl (lv_at hl 0 rfl) ?_
  refine lv_bipush (v := 12) hx hb dX5_isDigit_8 (by decide) ?_
  refine lv_icmp_eq (tgt := 37) hx hb dX5_isDigit_10 (by decide) (fun c_1 => ?_) (fun c_1 => ?_)
  · skip
    refine lv_iconst (v := 1) hx hb dX5_isDigit_37 (by decide) ?_
    exact rd_zret (v := 1) hx hb hr hlocks rfl (by rw [(show m_X5_isDigit rd kd k = true from by simp only [m_X5_isDigit, if_pos c_1])]; rfl) dX5_isDigit_38
  · skip
    refine lv_iload_n hx hb dX5_isDigit_13 rfl (lv_at hl 0 rfl) ?_
    refine lv_bipush (v := 6) hx hb dX5_isDigit_14 (by decide) ?_
    refine lv_icmp_eq (tgt := 37) hx hb dX5_isDigit_16 (by decide) (fun c_2 => ?_) (fun c_2 => ?_)
    · skip
      refine lv_iconst (v := 1) hx hb dX5_isDigit_37 (by decide) ?_
      exact rd_zret (v := 1) hx hb hr hlocks rfl (by rw [(show m_X5_isDigit rd kd k = true from by simp only [m_X5_isDigit, if_neg c_1, if_pos c_2])]; rfl) dX5_isDigit_38
    · skip
      refine lv_iload_n hx hb dX5_isDigit_19 rfl (lv_at hl 0 rfl) ?_
      refine lv_bipush (v := 7) hx hb dX5_isDigit_20 (by decide) ?_
      refine lv_icmp_eq (tgt := 37) hx hb dX5_isDigit_22 (by decide) (fun c_3 => ?_) (fun c_3 => ?_)
      · skip
        refine lv_iconst (v := 1) hx hb dX5_isDigit_37 (by decide) ?_
        exact rd_zret (v := 1) hx hb hr hlocks rfl (by rw [(show m_X5_isDigit rd kd k = true from by simp only [m_X5_isDigit, if_neg c_1, if_neg c_2, if_pos c_3])]; rfl) dX5_isDigit_38
      · skip
        refine lv_iload_n hx hb dX5_isDigit_25 rfl (lv_at hl 0 rfl) ?_
        refine lv_bipush (v := 16) hx hb dX5_isDigit_26 (by decide) ?_
        refine lv_icmp_eq (tgt := 37) hx hb dX5_isDigit_28 (by decide) (fun c_4 => ?_) (fun c_4 => ?_)
        · skip
          refine lv_iconst (v := 1) hx hb dX5_isDigit_37 (by decide) ?_
          exact rd_zret (v := 1) hx hb hr hlocks rfl (by rw [(show m_X5_isDigit rd kd k = true from by simp only [m_X5_isDigit, if_neg c_1, if_neg c_2, if_neg c_3, if_pos c_4])]; rfl) dX5_isDigit_38
        · skip
          refine lv_iload_n hx hb dX5_isDigit_31 rfl (lv_at hl 0 rfl) ?_
          refine lv_bipush (v := 17) hx hb dX5_isDigit_32 (by decide) ?_
          refine lv_icmp_ne (tgt := 39) hx hb dX5_isDigit_34 (by decide) (fun c_5 => ?_) (fun c_5 => ?_)
          · skip
            refine lv_iload_n hx hb dX5_isDigit_39 rfl (lv_at hl 0 rfl) ?_
            refine lv_bipush (v := 8) hx hb dX5_isDigit_40 (by decide) ?_
            refine lv_icmp_lt (tgt := 51) hx hb dX5_isDigit_42 (by decide) (fun c_6 => ?_) (fun c_6 => ?_)
            · skip
              refine lv_iconst (v := 0) hx hb dX5_isDigit_51 (by decide) ?_
              exact rd_zret (v := 0) hx hb hr hlocks rfl (by rw [(show m_X5_isDigit rd kd k = false from by simp only [m_X5_isDigit, if_neg c_1, if_neg c_2, if_neg c_3, if_neg c_4, if_neg c_5, if_pos c_6])]; rfl) dX5_isDigit_52
            · skip
              refine lv_iload_n hx hb dX5_isDigit_45 rfl (lv_at hl 0 rfl) ?_
              refine lv_bipush (v := 11) hx hb dX5_isDigit_46 (by decide) ?_
              refine lv_icmp_le (tgt := 53) hx hb dX5_isDigit_48 (by decide) (fun c_7 => ?_) (fun c_7 => ?_)
              · skip
                refine lv_iconst (v := 1) hx hb dX5_isDigit_53 (by decide) ?_
                refine lv_istore_n (lv' := [(3, .int 1), (2, .int (kd k)), (0, .ref h0), (1, .int (nI k))]) hx hb dX5_isDigit_54 rfl hl (by decide) rfl (fun ls hl => ?_)
                refine lv_iconst (v := 0) hx hb dX5_isDigit_55 (by decide) ?_
                refine lv_istore (lv' := [(4, .int 0), (3, .int 1), (2, .int (kd k)), (0, .ref h0), (1, .int (nI k))]) hx hb dX5_isDigit_56 hl (by decide) rfl (fun ls hl => ?_)
                have lp_58 : ∀ (k58 j : Nat) (x3 : Bool), j ≤ k → k + 1 ≤ j + k58 → m_X5_isDigit rd kd k = m_X5_isDigit_L58 rd k k58 j x3 → ∀ (ls : Array Slot), lv_has ls 5 [(0, .ref h0), (1, .int (nI k)), (2, .int (kd k)), (3, .int (bI x3)), (4, .int (nI j))] → W p l e (headSpec wsX5_isDigit ({ frames := 0, cells := 0, slots := 0, locals := 0 } : Room)).room s m (([.ref h0, .int (nI k)] : List Value).toArray) below meth c s.heap [] 0 0 (MQ below (vp_Si (fun r => r = bI (m_X5_isDigit rd kd k))) (([.ref h0, .int (nI k)] : List Value).toArray) s 0 0 (fun _ => False)) (F0 m 58 ls []) := by
                  intro k58
                  induction k58 with
                  | zero => intro j x3 h1_ h2_; exfalso; omega
                  | succ k58 ih58 =>
                    intro j x3 hb58 hf58  hm58 ls hl
                    refine lv_iload hx hb dX5_isDigit_58 (lv_at hl 4 rfl) ?_
                    refine lv_iload_n hx hb dX5_isDigit_60 rfl (lv_at hl 1 rfl) ?_
                    refine lv_icmp_ge (tgt := 96) hx hb dX5_isDigit_61 (by decide) (fun c_8 => ?_) (fun c_8 => ?_)
                    · skip
                      have c_8 : k ≤ j := (nI_leI (a := k) (b := j) (by omega) (by omega)).mp c_8
                      refine lv_iload_n hx hb dX5_isDigit_96 rfl (lv_at hl 3 rfl) ?_
                      refine lv_if_ne (tgt := 104) hx hb dX5_isDigit_97 (by decide) (fun c_9 => ?_) (fun c_9 => ?_)
                      · skip
                        have c_9 := bI_n0 c_9
                        refine lv_iconst (v := 0) hx hb dX5_isDigit_104 (by decide) ?_
                        exact rd_zret (v := 0) hx hb hr hlocks rfl (by rw [(show m_X5_isDigit rd kd k = false from hm58.trans (by simp only [m_X5_isDigit_L58, if_pos c_8, if_neg c_9]))]; rfl) dX5_isDigit_105
                      · skip
                        have c_9 := bI_0 c_9
                        refine lv_iconst (v := 1) hx hb dX5_isDigit_100 (by decide) ?_
                        refine lv_goto (tgt := 105) hx hb dX5_isDigit_101 (by decide) ?_
                        exact rd_zret (v := 1) hx hb hr hlocks rfl (by rw [(show m_X5_isDigit rd kd k = true from hm58.trans (by simp only [m_X5_isDigit_L58, if_pos c_8, if_pos c_9]))]; rfl) dX5_isDigit_105
                    · skip
                      have c_8 : ¬ k ≤ j := (fun q_ => c_8 ((nI_leI (a := k) (b := j) (by omega) (by omega)).mpr q_))
                      refine lv_iload_n hx hb dX5_isDigit_64 rfl (lv_at hl 3 rfl) ?_
                      have j_10 : ∀ (y0_j_10 : Bool), y0_j_10 = m_X5_isDigit_j89_s0 rd k j x3 → ∀ (ls : Array Slot), lv_has ls 5 [(0, .ref h0), (1, .int (nI k)), (2, .int (kd k)), (3, .int (bI x3)), (4, .int (nI j))] → W p l e (headSpec wsX5_isDigit ({ frames := 0, cells := 0, slots := 0, locals := 0 } : Room)).room s m (([.ref h0, .int (nI k)] : List Value).toArray) below meth c s.heap [] 0 0 (MQ below (vp_Si (fun r => r = bI (m_X5_isDigit rd kd k))) (([.ref h0, .int (nI k)] : List Value).toArray) s 0 0 (fun _ => False)) (F0 m 89 ls [.int (bI y0_j_10)]) := by
                        intro y0_j_10 ey0_j_10 ls hl
                        subst ey0_j_10
                        refine lv_istore_n (lv' := [(3, .int (bI (m_X5_isDigit_j89_s0 rd k j x3))), (0, .ref h0), (1, .int (nI k)), (2, .int (kd k)), (4, .int (nI j))]) hx hb dX5_isDigit_89 rfl hl (by decide) rfl (fun ls hl => ?_)
                        refine lv_iinc (v := nI (j + 1)) (lv' := [(4, .int (nI (j + 1))), (3, .int (bI (m_X5_isDigit_j89_s0 rd k j x3))), (0, .ref h0), (1, .int (nI k)), (2, .int (kd k))]) hx hb dX5_isDigit_90 hl (k := 4) rfl (nI_add (j) 1) (by decide) rfl (fun ls hl => ?_)
                        refine lv_goto (tgt := 58) hx hb dX5_isDigit_93 (by decide) ?_
                        exact ih58 (j + 1) (m_X5_isDigit_j89_s0 rd k j x3) (by omega) (by omega)  (hm58.trans (by simp only [m_X5_isDigit_L58, if_neg c_8])) ls (lv_sub hl [2, 3, 4, 1, 0] rfl)
                      refine lv_if_eq (tgt := 88) hx hb dX5_isDigit_65 (by decide) (fun c_11 => ?_) (fun c_11 => ?_)
                      · skip
                        have c_11 := bI_0 c_11
                        refine lv_iconst (v := 0) hx hb dX5_isDigit_88 (by decide) ?_
                        exact j_10 false (by simp only [m_X5_isDigit_j89_s0, if_pos c_11]) ls (lv_sub hl [0, 1, 2, 3, 4] rfl)
                      · skip
                        have c_11 := bI_n0 c_11
                        refine lv_aload_n hx hb dX5_isDigit_68 rfl (lv_at hl 0 rfl) ?_
                        refine va_get (D := (dC, dI)) (ci := 6) (v := .ref a4) (C := RX5) (T := TX5) (N := 24) hx hb hts (by decide +kernel) hown hK hP 0 rfl rfl 4 (by decide) (hts (.fieldLink RX5 17 "PictureRowsModel" "read" "[I") (by decide +kernel)) (fun _ h9 => h9) rfl dX5_isDigit_69 ?_
                        refine lv_iload hx hb dX5_isDigit_72 (lv_at hl 4 rfl) ?_
                        refine rd_iald hx hb hK hP 1 0 rfl rfl (j) (by omega) (by omega) dX5_isDigit_74 ?_
                        refine lv_aload_n hx hb dX5_isDigit_75 rfl (lv_at hl 0 rfl) ?_
                        refine va_get (D := (dC, dI)) (ci := 6) (v := .ref a4) (C := RX5) (T := TX5) (N := 24) hx hb hts (by decide +kernel) hown hK hP 0 rfl rfl 4 (by decide) (hts (.fieldLink RX5 17 "PictureRowsModel" "read" "[I") (by decide +kernel)) (fun _ h9 => h9) rfl dX5_isDigit_76 ?_
                        refine lv_iload_n hx hb dX5_isDigit_79 rfl (lv_at hl 1 rfl) ?_
                        refine rd_iald hx hb hK hP 1 0 rfl rfl (k) (by omega) (by omega) dX5_isDigit_80 ?_
                        refine lv_icmp_eq (tgt := 88) hx hb dX5_isDigit_81 (by decide) (fun c_12 => ?_) (fun c_12 => ?_)
                        · skip
                          refine lv_iconst (v := 0) hx hb dX5_isDigit_88 (by decide) ?_
                          exact j_10 false (by simp only [m_X5_isDigit_j89_s0, if_neg c_11, if_pos c_12]) ls (lv_sub hl [0, 1, 2, 3, 4] rfl)
                        · skip
                          refine lv_iconst (v := 1) hx hb dX5_isDigit_84 (by decide) ?_
                          refine lv_goto (tgt := 89) hx hb dX5_isDigit_85 (by decide) ?_
                          exact j_10 true (by simp only [m_X5_isDigit_j89_s0, if_neg c_11, if_neg c_12]) ls (lv_sub hl [0, 1, 2, 3, 4] rfl)
                exact lp_58 (k + 1) (0) true (by omega) (by omega)  (show m_X5_isDigit rd kd k = m_X5_isDigit_L58 rd k (k + 1) 0 true from by simp only [m_X5_isDigit, if_neg c_1, if_neg c_2, if_neg c_3, if_neg c_4, if_neg c_5, if_neg c_6, if_pos c_7]) ls (lv_sub hl [3, 4, 2, 1, 0] rfl)
              · skip
                refine lv_iconst (v := 0) hx hb dX5_isDigit_51 (by decide) ?_
                exact rd_zret (v := 0) hx hb hr hlocks rfl (by rw [(show m_X5_isDigit rd kd k = false from by simp only [m_X5_isDigit, if_neg c_1, if_neg c_2, if_neg c_3, if_neg c_4, if_neg c_5, if_neg c_6, if_neg c_7])]; rfl) dX5_isDigit_52
          · skip
            refine lv_iconst (v := 1) hx hb dX5_isDigit_37 (by decide) ?_
            exact rd_zret (v := 1) hx hb hr hlocks rfl (by rw [(show m_X5_isDigit rd kd k = true from by simp only [m_X5_isDigit, if_neg c_1, if_neg c_2, if_neg c_3, if_neg c_4, if_pos c_5])]; rfl) dX5_isDigit_38
def m_X5_width (sg : Int32) : Int32 := if sg = 200 then 2 else (if sg = 201 then 2 else (if sg = 83 then 0 else (if sg = 86 then 0 else (if sg = 80 then 0 else 1))))
set_option maxHeartbeats 4000000 in
set_option maxRecDepth 100000 in
theorem c_X5_width (l : Launch) (dC : Nat → ClassId) (dI : Nat → Nat → Nat) (sg : Int32) : Met l yX5_width wsX5_width ({ frames := 0, cells := 0, slots := 0, locals := 0 } : Room) (va_Pc [.int sg] (rd_P (dC, dI) vwCl [] [])) (vp_Si (fun r => r = m_X5_width sg)) 0 0 (fun _ => False) := by
  refine Met.ofW (cc := cX5_width) (maxL := 1) (ret := (some .int)) (by decide) rfl ?_
  intro p e s m args below meth c s₁ B hml hv
  obtain ⟨rfl, hE, hP, hK⟩ := hv
  have hx := B.exec
  have hb := B.bytes
  have hr := B.returns
  have hts := atoms_spec (ws := wsX5_width) B.pre
  have hown : s.vm.findClass RX5 = some m.cls := findClass_of_methodNamed B.named
  have hlocks := B.notSynchronized
  have hl := lv_entry ([.int sg]) (n := 1) (Nat.le_of_ble_eq_true rfl)
  rw [lg_entry_eq]
  generalize (lg_sl ([.int sg]) ++ List.replicate (1 - (lg_sl ([.int sg])).length) Slot.unset).toArray = ls at hl ⊢
  have hl : lv_has ls 1 [(0, .int sg)] := hl
  refine lv_iload_n hx hb dX5_width_0 rfl (lv_at hl 0 rfl) ?_
  refine lv_sipush (v := 200) hx hb dX5_width_1 (by decide) ?_
  refine lv_icmp_eq (tgt := 14) hx hb dX5_width_4 (by decide) (fun c_1 => ?_) (fun c_1 => ?_)
  · skip
    refine lv_iconst (v := 2) hx hb dX5_width_14 (by decide) ?_
    refine lv_goto (tgt := 41) hx hb dX5_width_15 (by decide) ?_
    exact rd_iret (v := 2) hx hb hr hlocks (show m_X5_width sg = 2 from by simp only [m_X5_width, if_pos c_1]).symm dX5_width_41
  · skip
    refine lv_iload_n hx hb dX5_width_7 rfl (lv_at hl 0 rfl) ?_
    refine lv_sipush (v := 201) hx hb dX5_width_8 (by decide) ?_
    refine lv_icmp_ne (tgt := 18) hx hb dX5_width_11 (by decide) (fun c_2 => ?_) (fun c_2 => ?_)
    · skip
      refine lv_iload_n hx hb dX5_width_18 rfl (lv_at hl 0 rfl) ?_
      refine lv_bipush (v := 83) hx hb dX5_width_19 (by decide) ?_
      refine lv_icmp_eq (tgt := 36) hx hb dX5_width_21 (by decide) (fun c_3 => ?_) (fun c_3 => ?_)
      · skip
        refine lv_iconst (v := 0) hx hb dX5_width_36 (by decide) ?_
        refine lv_goto (tgt := 41) hx hb dX5_width_37 (by decide) ?_
        exact rd_iret (v := 0) hx hb hr hlocks (show m_X5_width sg = 0 from by simp only [m_X5_width, if_neg c_1, if_neg c_2, if_pos c_3]).symm dX5_width_41
      · skip
        refine lv_iload_n hx hb dX5_width_24 rfl (lv_at hl 0 rfl) ?_
        refine lv_bipush (v := 86) hx hb dX5_width_25 (by decide) ?_
        refine lv_icmp_eq (tgt := 36) hx hb dX5_width_27 (by decide) (fun c_4 => ?_) (fun c_4 => ?_)
        · skip
          refine lv_iconst (v := 0) hx hb dX5_width_36 (by decide) ?_
          refine lv_goto (tgt := 41) hx hb dX5_width_37 (by decide) ?_
          exact rd_iret (v := 0) hx hb hr hlocks (show m_X5_width sg = 0 from by simp only [m_X5_width, if_neg c_1, if_neg c_2, if_neg c_3, if_pos c_4]).symm dX5_width_41
        · skip
          refine lv_iload_n hx hb dX5_width_30 rfl (lv_at hl 0 rfl) ?_
          refine lv_bipush (v := 80) hx hb dX5_width_31 (by decide) ?_
          refine lv_icmp_ne (tgt := 40) hx hb dX5_width_33 (by decide) (fun c_5 => ?_) (fun c_5 => ?_)
          · skip
            refine lv_iconst (v := 1) hx hb dX5_width_40 (by decide) ?_
            exact rd_iret (v := 1) hx hb hr hlocks (show m_X5_width sg = 1 from by simp only [m_X5_width, if_neg c_1, if_neg c_2, if_neg c_3, if_neg c_4, if_neg c_5]).symm dX5_width_41
          · skip
            refine lv_iconst (v := 0) hx hb dX5_width_36 (by decide) ?_
            refine lv_goto (tgt := 41) hx hb dX5_width_37 (by decide) ?_
            exact rd_iret (v := 0) hx hb hr hlocks (show m_X5_width sg = 0 from by simp only [m_X5_width, if_neg c_1, if_neg c_2, if_neg c_3, if_neg c_4, if_pos c_5]).symm dX5_width_41
    · skip
      refine lv_iconst (v := 2) hx hb dX5_width_14 (by decide) ?_
      refine lv_goto (tgt := 41) hx hb dX5_width_15 (by decide) ?_
      exact rd_iret (v := 2) hx hb hr hlocks (show m_X5_width sg = 2 from by simp only [m_X5_width, if_neg c_1, if_pos c_2]).symm dX5_width_41
def m_X5_isWrong_j181_s0 (kd : Nat → Int32) (k : Nat) : Bool := if (kd k) = 8 then true else (if (kd k) = 9 then true else false)
def m_X5_isWrong_j52_s0 (kd : Nat → Int32) (tb : Nat → Int32) (k : Nat) (j : Nat) : Bool := if (((tb (kd j).toNatClampNeg) >>> ((kd k) &&& 31)) &&& 1) = 0 then true else false
def m_X5_isWrong_j75_s0 (rd : Nat → Int32) (j : Nat) (x3 : Bool) : Bool := if x3 = false then (if (rd j) = 90 then true else false) else true
def m_X5_isWrong_j98_s0 (rd : Nat → Int32) (j : Nat) (x4 : Bool) : Bool := if x4 = false then (if (rd j) = 42 then true else false) else true
def m_X5_isWrong_j122_s0 (rd : Nat → Int32) (j : Nat) (x5 : Bool) : Bool := if x5 = false then (if (rd j) = 43 then true else false) else true
def m_X5_isWrong_j146_s0 (rd : Nat → Int32) (j : Nat) (x6 : Bool) : Bool := if x6 = false then (if (rd j) = 45 then true else false) else true
def m_X5_isWrong_L16 (rd : Nat → Int32) (kd : Nat → Int32) (tb : Nat → Int32) (k : Nat) : Nat → Nat → Int32 → Bool → Bool → Bool → Bool → Bool
  | 0, _, _, _, _, _, _ => false
  | k16 + 1, j, x2, x3, x4, x5, x6 => if k ≤ j then (if 0 < x2 then true else (if (rd k) = 90 then (if x4 = false then (if (rd k) = 42 then (if x3 = false then (if (m_X5_isWrong_j181_s0 kd k) = false then false else (if (rd k) = 43 then (if x6 = false then false else true) else (if x5 = false then false else true))) else true) else (if (m_X5_isWrong_j181_s0 kd k) = false then false else (if (rd k) = 43 then (if x6 = false then false else true) else (if x5 = false then false else true)))) else true) else (if (rd k) = 42 then (if x3 = false then (if (m_X5_isWrong_j181_s0 kd k) = false then false else (if (rd k) = 43 then (if x6 = false then false else true) else (if x5 = false then false else true))) else true) else (if (m_X5_isWrong_j181_s0 kd k) = false then false else (if (rd k) = 43 then (if x6 = false then false else true) else (if x5 = false then false else true)))))) else (m_X5_isWrong_L16 rd kd tb k k16 (j + 1) (x2 ||| (bI (m_X5_isWrong_j52_s0 kd tb k j))) (m_X5_isWrong_j75_s0 rd j x3) (m_X5_isWrong_j98_s0 rd j x4) (m_X5_isWrong_j122_s0 rd j x5) (m_X5_isWrong_j146_s0 rd j x6))
def m_X5_isWrong (rd : Nat → Int32) (kd : Nat → Int32) (tb : Nat → Int32) (k : Nat) : Bool := m_X5_isWrong_L16 rd kd tb k (k + 1) 0 0 false false false false
set_option maxHeartbeats 4000000 in
set_option maxRecDepth 100000 in
theorem c_X5_isWrong (l : Launch) (dC : Nat → ClassId) (dI : Nat → Nat → Nat) (h0 : Nat) (th : Int32) (t1 : Nat) (len : Nat) (mo : Int32) (a4 : Nat) (a5 : Nat) (a6 : Nat) (my : Nat) (pu : Int32) (mi : Int32) (ms : Int32) (a11 : Nat) (a12 : Nat) (a13 : Nat) (la : Int32) (kp : Nat) (sh : Nat) (mf : Int32) (a18 : Nat) (a19 : Nat) (a20 : Nat) (a21 : Nat) (a22 : Nat) (a23 : Nat) (cA : ClassId) (rd : Nat → Int32) (kd : Nat → Int32) (tb : Nat → Int32) (k : Nat) (hk : k < 10200) (hkd : ∀ j : Nat, j < k → vp_in (kd j) 19) : Met l yX5_isWrong wsX5_isWrong ({ frames := 0, cells := 0, slots := 0, locals := 0 } : Room) (va_Pc [.ref h0, .int (nI k)] (rd_P (dC, dI) vwCl [(h0, .inr (6, [.int th, .ref t1, .int (nI len), .int mo, .ref a4, .ref a5, .ref a6, .int (nI my), .int pu, .int mi, .int ms, .ref a11, .ref a12, .ref a13, .int la, .int (nI kp), .int (nI sh), .int mf, .ref a18, .ref a19, .ref a20, .ref a21, .ref a22, .ref a23])), (a4, .inl (cA, 10200, .inl rd)), (a6, .inl (cA, 10200, .inl kd)), (a21, .inl (cA, 19, .inl tb))] [(cA, .int)])) (vp_Si (fun r => r = bI (m_X5_isWrong rd kd tb k))) 0 0 (fun _ => False) := by
  refine Met.ofW (cc := cX5_isWrong) (maxL := 8) (ret := (some .boolean)) (by decide) rfl ?_
  intro p e s m args below meth c s₁ B hml hv
  obtain ⟨rfl, hE, hP, hK⟩ := hv
  have hx := B.exec
  have hb := B.bytes
  have hr := B.returns
  have hts := atoms_spec (ws := wsX5_isWrong) B.pre
  have hown : s.vm.findClass RX5 = some m.cls := findClass_of_methodNamed B.named
  have hlocks := B.notSynchronized
  have hl := lv_entry ([.ref h0, .int (nI k)]) (n := 8) (Nat.le_of_ble_eq_true rfl)
  rw [lg_entry_eq]
  generalize (lg_sl ([.ref h0, .int (nI k)]) ++ List.replicate (8 - (lg_sl ([.ref h0, .int (nI k)])).length) Slot.unset).toArray = ls at hl ⊢
  have hl : lv_has ls 8 [(0, .ref h0), (1, .int (nI k))] := hl
  refine lv_iconst (v := 0) hx hb dX5_isWrong_0 (by decide) ?_
  refine lv_istore_n (lv' := [(2, .int 0), (0, .ref h0), (1, .int (nI k))]) hx hb dX5_isWrong_1 rfl hl (by decide) rfl (fun ls hl => ?_)
  refine lv_iconst (v := 0) hx hb dX5_isWrong_2 (by decide) ?_
  refine lv_istore_n (lv' := [(3, .int 0), (2, .int 0), (0, .ref h0), (1, .int (nI k))]) hx hb dX5_isWrong_3 rfl hl (by decide) rfl (fun ls hl => ?_)
  refine lv_iconst (v := 0) hx hb dX5_isWrong_4 (by decide) ?_
  refine lv_istore (lv' := [(4, .int 0), (3, .int 0), (2, .int 0), (0, .ref h0), (1, .int (nI k))]) hx hb dX5_isWrong_5 hl (by decide) rfl (fun ls hl => ?_)
  refine lv_iconst (v := 0) hx hb dX5_isWrong_7 (by decide) ?_
  refine lv_istore (lv' := [(5, .int 0), (4, .int 0), (3, .int 0), (2, .int 0), (0, .ref h0), (1, .int (nI k))]) hx hb dX5_isWrong_8 hl (by decide) rfl (fun ls hl => ?_)
  refine lv_iconst (v := 0) hx hb dX5_isWrong_10 (by decide) ?_
  refine lv_istore (lv' := [(6, .int 0), (5, .int 0), (4, .int 0), (3, .int 0), (2, .int 0), (0, .ref h0), (1, .int (nI k))]) hx hb dX5_isWrong_11 hl (by decide) rfl (fun ls hl => ?_)
  refine lv_iconst (v := 0) hx hb dX5_isWrong_13 (by decide) ?_
  refine lv_istore (lv' := [(7, .int 0), (6, .int 0), (5, .int 0), (4, .int 0), (3, .int 0), (2, .int 0), (0, .ref h0), (1, .int (nI k))]) hx hb dX5_isWrong_14 hl (by decide) rfl (fun ls hl => ?_)
  have lp_16 : ∀ (k16 j : Nat) (x2 : Int32) (x3 : Bool) (x4 : Bool) (x5 : Bool) (x6 : Bool), j ≤ k → k + 1 ≤ j + k16 → m_X5_isWrong rd kd tb k = m_X5_isWrong_L16 rd kd tb k k16 j x2 x3 x4 x5 x6 → ∀ (ls : Array Slot), lv_has ls 8 [(0, .ref h0), (1, .int (nI k)), (2, .int x2), (3, .int (bI x3)), (4, .int (bI x4)), (5, .int (bI x5)), (6, .int (bI x6)), (7, .int (nI j))] → W p l e (headSpec wsX5_isWrong ({ frames := 0, cells := 0, slots := 0, locals := 0 } : Room)).room s m (([.ref h0, .int (nI k)] : List Value).toArray) below meth c s.heap [] 0 0 (MQ below (vp_Si (fun r => r = bI (m_X5_isWrong rd kd tb k))) (([.ref h0, .int (nI k)] : List Value).toArray) s 0 0 (fun _ => False)) (F0 m 16 ls []) := by
    intro k16
    induction k16 with
    | zero => intro j x2 x3 x4 x5 x6 h1_ h2_; exfalso; omega
    | succ k16 ih16 =>
      intro j x2 x3 x4 x5 x6 hb16 hf16  hm16 ls hl
      refine lv_iload hx hb dX5_isWrong_16 (lv_at hl 7 rfl) ?_
      refine lv_iload_n hx hb dX5_isWrong_18 rfl (lv_at hl 1 rfl) ?_
      refine lv_icmp_ge (tgt := 154) hx hb dX5_isWrong_19 (by decide) (fun c_1 => ?_) (fun c_1 => ?_)
      · skip
        have c_1 : k ≤ j := (nI_leI (a := k) (b := j) (by omega) (by omega)).mp c_1
        refine lv_aload_n hx hb dX5_isWrong_154 rfl (lv_at hl 0 rfl) ?_
        refine va_get (D := (dC, dI)) (ci := 6) (v := .ref a6) (C := RX5) (T := TX5) (N := 24) hx hb hts (by decide +kernel) hown hK hP 0 rfl rfl 6 (by decide) (hts (.fieldLink RX5 23 "PictureRowsModel" "kind" "[I") (by decide +kernel)) (fun _ h9 => h9) rfl dX5_isWrong_155 ?_
        refine lv_iload_n hx hb dX5_isWrong_158 rfl (lv_at hl 1 rfl) ?_
        refine rd_iald hx hb hK hP 2 0 rfl rfl (k) (by omega) (by omega) dX5_isWrong_159 ?_
        refine lv_bipush (v := 8) hx hb dX5_isWrong_160 (by decide) ?_
        have j_2 : ∀ (y0_j_2 : Bool), y0_j_2 = m_X5_isWrong_j181_s0 kd k → ∀ (ls : Array Slot), lv_has ls 8 [(0, .ref h0), (1, .int (nI k)), (2, .int x2), (3, .int (bI x3)), (4, .int (bI x4)), (5, .int (bI x5)), (6, .int (bI x6)), (7, .int (nI j))] → W p l e (headSpec wsX5_isWrong ({ frames := 0, cells := 0, slots := 0, locals := 0 } : Room)).room s m (([.ref h0, .int (nI k)] : List Value).toArray) below meth c s.heap [] 0 0 (MQ below (vp_Si (fun r => r = bI (m_X5_isWrong rd kd tb k))) (([.ref h0, .int (nI k)] : List Value).toArray) s 0 0 (fun _ => False)) (F0 m 181 ls [.int (bI y0_j_2)]) := by
          intro y0_j_2 ey0_j_2 ls hl
          subst ey0_j_2
          refine lv_istore (lv' := [(7, .int (bI (m_X5_isWrong_j181_s0 kd k))), (0, .ref h0), (1, .int (nI k)), (2, .int x2), (3, .int (bI x3)), (4, .int (bI x4)), (5, .int (bI x5)), (6, .int (bI x6))]) hx hb dX5_isWrong_181 hl (by decide) rfl (fun ls hl => ?_)
          refine lv_iload_n hx hb dX5_isWrong_183 rfl (lv_at hl 3 rfl) ?_
          refine lv_if_gt (tgt := 247) hx hb dX5_isWrong_184 (by decide) (fun c_3 => ?_) (fun c_3 => ?_)
          · skip
            refine lv_iconst (v := 1) hx hb dX5_isWrong_247 (by decide) ?_
            refine lv_goto (tgt := 252) hx hb dX5_isWrong_248 (by decide) ?_
            exact rd_zret (v := 1) hx hb hr hlocks rfl (by rw [(show m_X5_isWrong rd kd tb k = true from hm16.trans (by simp only [m_X5_isWrong_L16, if_pos c_1, if_pos c_3]))]; rfl) dX5_isWrong_252
          · skip
            refine lv_aload_n hx hb dX5_isWrong_187 rfl (lv_at hl 1 rfl) ?_
            refine va_get (D := (dC, dI)) (ci := 6) (v := .ref a4) (C := RX5) (T := TX5) (N := 24) hx hb hts (by decide +kernel) hown hK hP 0 rfl rfl 4 (by decide) (hts (.fieldLink RX5 17 "PictureRowsModel" "read" "[I") (by decide +kernel)) (fun _ h9 => h9) rfl dX5_isWrong_188 ?_
            refine lv_iload_n hx hb dX5_isWrong_191 rfl (lv_at hl 2 rfl) ?_
            refine rd_iald hx hb hK hP 1 0 rfl rfl (k) (by omega) (by omega) dX5_isWrong_192 ?_
            refine lv_bipush (v := 90) hx hb dX5_isWrong_193 (by decide) ?_
            refine lv_icmp_ne (tgt := 203) hx hb dX5_isWrong_195 (by decide) (fun c_4 => ?_) (fun c_4 => ?_)
            · skip
              refine lv_aload_n hx hb dX5_isWrong_203 rfl (lv_at hl 1 rfl) ?_
              refine va_get (D := (dC, dI)) (ci := 6) (v := .ref a4) (C := RX5) (T := TX5) (N := 24) hx hb hts (by decide +kernel) hown hK hP 0 rfl rfl 4 (by decide) (hts (.fieldLink RX5 17 "PictureRowsModel" "read" "[I") (by decide +kernel)) (fun _ h9 => h9) rfl dX5_isWrong_204 ?_
              refine lv_iload_n hx hb dX5_isWrong_207 rfl (lv_at hl 2 rfl) ?_
              refine rd_iald hx hb hK hP 1 0 rfl rfl (k) (by omega) (by omega) dX5_isWrong_208 ?_
              refine lv_bipush (v := 42) hx hb dX5_isWrong_209 (by decide) ?_
              refine lv_icmp_ne (tgt := 218) hx hb dX5_isWrong_211 (by decide) (fun c_5 => ?_) (fun c_5 => ?_)
              · skip
                refine lv_iload hx hb dX5_isWrong_218 (lv_at hl 0 rfl) ?_
                refine lv_if_eq (tgt := 251) hx hb dX5_isWrong_220 (by decide) (fun c_6 => ?_) (fun c_6 => ?_)
                · skip
                  have c_6 := bI_0 c_6
                  refine lv_iconst (v := 0) hx hb dX5_isWrong_251 (by decide) ?_
                  exact rd_zret (v := 0) hx hb hr hlocks rfl (by rw [(show m_X5_isWrong rd kd tb k = false from hm16.trans (by simp only [m_X5_isWrong_L16, if_pos c_1, if_neg c_3, if_neg c_4, if_neg c_5, if_pos c_6]))]; rfl) dX5_isWrong_252
                · skip
                  have c_6 := bI_n0 c_6
                  refine lv_aload_n hx hb dX5_isWrong_223 rfl (lv_at hl 1 rfl) ?_
                  refine va_get (D := (dC, dI)) (ci := 6) (v := .ref a4) (C := RX5) (T := TX5) (N := 24) hx hb hts (by decide +kernel) hown hK hP 0 rfl rfl 4 (by decide) (hts (.fieldLink RX5 17 "PictureRowsModel" "read" "[I") (by decide +kernel)) (fun _ h9 => h9) rfl dX5_isWrong_224 ?_
                  refine lv_iload_n hx hb dX5_isWrong_227 rfl (lv_at hl 2 rfl) ?_
                  refine rd_iald hx hb hK hP 1 0 rfl rfl (k) (by omega) (by omega) dX5_isWrong_228 ?_
                  refine lv_bipush (v := 43) hx hb dX5_isWrong_229 (by decide) ?_
                  refine lv_icmp_ne (tgt := 242) hx hb dX5_isWrong_231 (by decide) (fun c_7 => ?_) (fun c_7 => ?_)
                  · skip
                    refine lv_iload hx hb dX5_isWrong_242 (lv_at hl 6 rfl) ?_
                    refine lv_if_eq (tgt := 251) hx hb dX5_isWrong_244 (by decide) (fun c_8 => ?_) (fun c_8 => ?_)
                    · skip
                      have c_8 := bI_0 c_8
                      refine lv_iconst (v := 0) hx hb dX5_isWrong_251 (by decide) ?_
                      exact rd_zret (v := 0) hx hb hr hlocks rfl (by rw [(show m_X5_isWrong rd kd tb k = false from hm16.trans (by simp only [m_X5_isWrong_L16, if_pos c_1, if_neg c_3, if_neg c_4, if_neg c_5, if_neg c_6, if_neg c_7, if_pos c_8]))]; rfl) dX5_isWrong_252
                    · skip
                      have c_8 := bI_n0 c_8
                      refine lv_iconst (v := 1) hx hb dX5_isWrong_247 (by decide) ?_
                      refine lv_goto (tgt := 252) hx hb dX5_isWrong_248 (by decide) ?_
                      exact rd_zret (v := 1) hx hb hr hlocks rfl (by rw [(show m_X5_isWrong rd kd tb k = true from hm16.trans (by simp only [m_X5_isWrong_L16, if_pos c_1, if_neg c_3, if_neg c_4, if_neg c_5, if_neg c_6, if_neg c_7, if_neg c_8]))]; rfl) dX5_isWrong_252
                  · skip
                    refine lv_iload hx hb dX5_isWrong_234 (lv_at hl 7 rfl) ?_
                    refine lv_if_eq (tgt := 251) hx hb dX5_isWrong_236 (by decide) (fun c_9 => ?_) (fun c_9 => ?_)
                    · skip
                      have c_9 := bI_0 c_9
                      refine lv_iconst (v := 0) hx hb dX5_isWrong_251 (by decide) ?_
                      exact rd_zret (v := 0) hx hb hr hlocks rfl (by rw [(show m_X5_isWrong rd kd tb k = false from hm16.trans (by simp only [m_X5_isWrong_L16, if_pos c_1, if_neg c_3, if_neg c_4, if_neg c_5, if_neg c_6, if_pos c_7, if_pos c_9]))]; rfl) dX5_isWrong_252
                    · skip
                      have c_9 := bI_n0 c_9
                      refine lv_goto (tgt := 247) hx hb dX5_isWrong_239 (by decide) ?_
                      refine lv_iconst (v := 1) hx hb dX5_isWrong_247 (by decide) ?_
                      refine lv_goto (tgt := 252) hx hb dX5_isWrong_248 (by decide) ?_
                      exact rd_zret (v := 1) hx hb hr hlocks rfl (by rw [(show m_X5_isWrong rd kd tb k = true from hm16.trans (by simp only [m_X5_isWrong_L16, if_pos c_1, if_neg c_3, if_neg c_4, if_neg c_5, if_neg c_6, if_pos c_7, if_neg c_9]))]; rfl) dX5_isWrong_252
              · skip
                refine lv_iload_n hx hb dX5_isWrong_214 rfl (lv_at hl 4 rfl) ?_
                refine lv_if_ne (tgt := 247) hx hb dX5_isWrong_215 (by decide) (fun c_10 => ?_) (fun c_10 => ?_)
                · skip
                  have c_10 := bI_n0 c_10
                  refine lv_iconst (v := 1) hx hb dX5_isWrong_247 (by decide) ?_
                  refine lv_goto (tgt := 252) hx hb dX5_isWrong_248 (by decide) ?_
                  exact rd_zret (v := 1) hx hb hr hlocks rfl (by rw [(show m_X5_isWrong rd kd tb k = true from hm16.trans (by simp only [m_X5_isWrong_L16, if_pos c_1, if_neg c_3, if_neg c_4, if_pos c_5, if_neg c_10]))]; rfl) dX5_isWrong_252
                · skip
                  have c_10 := bI_0 c_10
                  refine lv_iload hx hb dX5_isWrong_218 (lv_at hl 0 rfl) ?_
                  refine lv_if_eq (tgt := 251) hx hb dX5_isWrong_220 (by decide) (fun c_11 => ?_) (fun c_11 => ?_)
                  · skip
                    have c_11 := bI_0 c_11
                    refine lv_iconst (v := 0) hx hb dX5_isWrong_251 (by decide) ?_
                    exact rd_zret (v := 0) hx hb hr hlocks rfl (by rw [(show m_X5_isWrong rd kd tb k = false from hm16.trans (by simp only [m_X5_isWrong_L16, if_pos c_1, if_neg c_3, if_neg c_4, if_pos c_5, if_pos c_10, if_pos c_11]))]; rfl) dX5_isWrong_252
                  · skip
                    have c_11 := bI_n0 c_11
                    refine lv_aload_n hx hb dX5_isWrong_223 rfl (lv_at hl 1 rfl) ?_
                    refine va_get (D := (dC, dI)) (ci := 6) (v := .ref a4) (C := RX5) (T := TX5) (N := 24) hx hb hts (by decide +kernel) hown hK hP 0 rfl rfl 4 (by decide) (hts (.fieldLink RX5 17 "PictureRowsModel" "read" "[I") (by decide +kernel)) (fun _ h9 => h9) rfl dX5_isWrong_224 ?_
                    refine lv_iload_n hx hb dX5_isWrong_227 rfl (lv_at hl 2 rfl) ?_
                    refine rd_iald hx hb hK hP 1 0 rfl rfl (k) (by omega) (by omega) dX5_isWrong_228 ?_
                    refine lv_bipush (v := 43) hx hb dX5_isWrong_229 (by decide) ?_
                    refine lv_icmp_ne (tgt := 242) hx hb dX5_isWrong_231 (by decide) (fun c_12 => ?_) (fun c_12 => ?_)
                    · skip
                      refine lv_iload hx hb dX5_isWrong_242 (lv_at hl 6 rfl) ?_
                      refine lv_if_eq (tgt := 251) hx hb dX5_isWrong_244 (by decide) (fun c_13 => ?_) (fun c_13 => ?_)
                      · skip
                        have c_13 := bI_0 c_13
                        refine lv_iconst (v := 0) hx hb dX5_isWrong_251 (by decide) ?_
                        exact rd_zret (v := 0) hx hb hr hlocks rfl (by rw [(show m_X5_isWrong rd kd tb k = false from hm16.trans (by simp only [m_X5_isWrong_L16, if_pos c_1, if_neg c_3, if_neg c_4, if_pos c_5, if_pos c_10, if_neg c_11, if_neg c_12, if_pos c_13]))]; rfl) dX5_isWrong_252
                      · skip
                        have c_13 := bI_n0 c_13
                        refine lv_iconst (v := 1) hx hb dX5_isWrong_247 (by decide) ?_
                        refine lv_goto (tgt := 252) hx hb dX5_isWrong_248 (by decide) ?_
                        exact rd_zret (v := 1) hx hb hr hlocks rfl (by rw [(show m_X5_isWrong rd kd tb k = true from hm16.trans (by simp only [m_X5_isWrong_L16, if_pos c_1, if_neg c_3, if_neg c_4, if_pos c_5, if_pos c_10, if_neg c_11, if_neg c_12, if_neg c_13]))]; rfl) dX5_isWrong_252
                    · skip
                      refine lv_iload hx hb dX5_isWrong_234 (lv_at hl 7 rfl) ?_
                      refine lv_if_eq (tgt := 251) hx hb dX5_isWrong_236 (by decide) (fun c_14 => ?_) (fun c_14 => ?_)
                      · skip
                        have c_14 := bI_0 c_14
                        refine lv_iconst (v := 0) hx hb dX5_isWrong_251 (by decide) ?_
                        exact rd_zret (v := 0) hx hb hr hlocks rfl (by rw [(show m_X5_isWrong rd kd tb k = false from hm16.trans (by simp only [m_X5_isWrong_L16, if_pos c_1, if_neg c_3, if_neg c_4, if_pos c_5, if_pos c_10, if_neg c_11, if_pos c_12, if_pos c_14]))]; rfl) dX5_isWrong_252
                      · skip
                        have c_14 := bI_n0 c_14
                        refine lv_goto (tgt := 247) hx hb dX5_isWrong_239 (by decide) ?_
                        refine lv_iconst (v := 1) hx hb dX5_isWrong_247 (by decide) ?_
                        refine lv_goto (tgt := 252) hx hb dX5_isWrong_248 (by decide) ?_
                        exact rd_zret (v := 1) hx hb hr hlocks rfl (by rw [(show m_X5_isWrong rd kd tb k = true from hm16.trans (by simp only [m_X5_isWrong_L16, if_pos c_1, if_neg c_3, if_neg c_4, if_pos c_5, if_pos c_10, if_neg c_11, if_pos c_12, if_neg c_14]))]; rfl) dX5_isWrong_252
            · skip
              refine lv_iload hx hb dX5_isWrong_198 (lv_at hl 5 rfl) ?_
              refine lv_if_ne (tgt := 247) hx hb dX5_isWrong_200 (by decide) (fun c_15 => ?_) (fun c_15 => ?_)
              · skip
                have c_15 := bI_n0 c_15
                refine lv_iconst (v := 1) hx hb dX5_isWrong_247 (by decide) ?_
                refine lv_goto (tgt := 252) hx hb dX5_isWrong_248 (by decide) ?_
                exact rd_zret (v := 1) hx hb hr hlocks rfl (by rw [(show m_X5_isWrong rd kd tb k = true from hm16.trans (by simp only [m_X5_isWrong_L16, if_pos c_1, if_neg c_3, if_pos c_4, if_neg c_15]))]; rfl) dX5_isWrong_252
              · skip
                have c_15 := bI_0 c_15
                refine lv_aload_n hx hb dX5_isWrong_203 rfl (lv_at hl 1 rfl) ?_
                refine va_get (D := (dC, dI)) (ci := 6) (v := .ref a4) (C := RX5) (T := TX5) (N := 24) hx hb hts (by decide +kernel) hown hK hP 0 rfl rfl 4 (by decide) (hts (.fieldLink RX5 17 "PictureRowsModel" "read" "[I") (by decide +kernel)) (fun _ h9 => h9) rfl dX5_isWrong_204 ?_
                refine lv_iload_n hx hb dX5_isWrong_207 rfl (lv_at hl 2 rfl) ?_
                refine rd_iald hx hb hK hP 1 0 rfl rfl (k) (by omega) (by omega) dX5_isWrong_208 ?_
                refine lv_bipush (v := 42) hx hb dX5_isWrong_209 (by decide) ?_
                refine lv_icmp_ne (tgt := 218) hx hb dX5_isWrong_211 (by decide) (fun c_16 => ?_) (fun c_16 => ?_)
                · skip
                  refine lv_iload hx hb dX5_isWrong_218 (lv_at hl 0 rfl) ?_
                  refine lv_if_eq (tgt := 251) hx hb dX5_isWrong_220 (by decide) (fun c_17 => ?_) (fun c_17 => ?_)
                  · skip
                    have c_17 := bI_0 c_17
                    refine lv_iconst (v := 0) hx hb dX5_isWrong_251 (by decide) ?_
                    exact rd_zret (v := 0) hx hb hr hlocks rfl (by rw [(show m_X5_isWrong rd kd tb k = false from hm16.trans (by simp only [m_X5_isWrong_L16, if_pos c_1, if_neg c_3, if_pos c_4, if_pos c_15, if_neg c_16, if_pos c_17]))]; rfl) dX5_isWrong_252
                  · skip
                    have c_17 := bI_n0 c_17
                    refine lv_aload_n hx hb dX5_isWrong_223 rfl (lv_at hl 1 rfl) ?_
                    refine va_get (D := (dC, dI)) (ci := 6) (v := .ref a4) (C := RX5) (T := TX5) (N := 24) hx hb hts (by decide +kernel) hown hK hP 0 rfl rfl 4 (by decide) (hts (.fieldLink RX5 17 "PictureRowsModel" "read" "[I") (by decide +kernel)) (fun _ h9 => h9) rfl dX5_isWrong_224 ?_
                    refine lv_iload_n hx hb dX5_isWrong_227 rfl (lv_at hl 2 rfl) ?_
                    refine rd_iald hx hb hK hP 1 0 rfl rfl (k) (by omega) (by omega) dX5_isWrong_228 ?_
                    refine lv_bipush (v := 43) hx hb dX5_isWrong_229 (by decide) ?_
                    refine lv_icmp_ne (tgt := 242) hx hb dX5_isWrong_231 (by decide) (fun c_18 => ?_) (fun c_18 => ?_)
                    · skip
                      refine lv_iload hx hb dX5_isWrong_242 (lv_at hl 6 rfl) ?_
                      refine lv_if_eq (tgt := 251) hx hb dX5_isWrong_244 (by decide) (fun c_19 => ?_) (fun c_19 => ?_)
                      · skip
                        have c_19 := bI_0 c_19
                        refine lv_iconst (v := 0) hx hb dX5_isWrong_251 (by decide) ?_
                        exact rd_zret (v := 0) hx hb hr hlocks rfl (by rw [(show m_X5_isWrong rd kd tb k = false from hm16.trans (by simp only [m_X5_isWrong_L16, if_pos c_1, if_neg c_3, if_pos c_4, if_pos c_15, if_neg c_16, if_neg c_17, if_neg c_18, if_pos c_19]))]; rfl) dX5_isWrong_252
                      · skip
                        have c_19 := bI_n0 c_19
                        refine lv_iconst (v := 1) hx hb dX5_isWrong_247 (by decide) ?_
                        refine lv_goto (tgt := 252) hx hb dX5_isWrong_248 (by decide) ?_
                        exact rd_zret (v := 1) hx hb hr hlocks rfl (by rw [(show m_X5_isWrong rd kd tb k = true from hm16.trans (by simp only [m_X5_isWrong_L16, if_pos c_1, if_neg c_3, if_pos c_4, if_pos c_15, if_neg c_16, if_neg c_17, if_neg c_18, if_neg c_19]))]; rfl) dX5_isWrong_252
                    · skip
                      refine lv_iload hx hb dX5_isWrong_234 (lv_at hl 7 rfl) ?_
                      refine lv_if_eq (tgt := 251) hx hb dX5_isWrong_236 (by decide) (fun c_20 => ?_) (fun c_20 => ?_)
                      · skip
                        have c_20 := bI_0 c_20
                        refine lv_iconst (v := 0) hx hb dX5_isWrong_251 (by decide) ?_
                        exact rd_zret (v := 0) hx hb hr hlocks rfl (by rw [(show m_X5_isWrong rd kd tb k = false from hm16.trans (by simp only [m_X5_isWrong_L16, if_pos c_1, if_neg c_3, if_pos c_4, if_pos c_15, if_neg c_16, if_neg c_17, if_pos c_18, if_pos c_20]))]; rfl) dX5_isWrong_252
                      · skip
                        have c_20 := bI_n0 c_20
                        refine lv_goto (tgt := 247) hx hb dX5_isWrong_239 (by decide) ?_
                        refine lv_iconst (v := 1) hx hb dX5_isWrong_247 (by decide) ?_
                        refine lv_goto (tgt := 252) hx hb dX5_isWrong_248 (by decide) ?_
                        exact rd_zret (v := 1) hx hb hr hlocks rfl (by rw [(show m_X5_isWrong rd kd tb k = true from hm16.trans (by simp only [m_X5_isWrong_L16, if_pos c_1, if_neg c_3, if_pos c_4, if_pos c_15, if_neg c_16, if_neg c_17, if_pos c_18, if_neg c_20]))]; rfl) dX5_isWrong_252
                · skip
                  refine lv_iload_n hx hb dX5_isWrong_214 rfl (lv_at hl 4 rfl) ?_
                  refine lv_if_ne (tgt := 247) hx hb dX5_isWrong_215 (by decide) (fun c_21 => ?_) (fun c_21 => ?_)
                  · skip
                    have c_21 := bI_n0 c_21
                    refine lv_iconst (v := 1) hx hb dX5_isWrong_247 (by decide) ?_
                    refine lv_goto (tgt := 252) hx hb dX5_isWrong_248 (by decide) ?_
                    exact rd_zret (v := 1) hx hb hr hlocks rfl (by rw [(show m_X5_isWrong rd kd tb k = true from hm16.trans (by simp only [m_X5_isWrong_L16, if_pos c_1, if_neg c_3, if_pos c_4, if_pos c_15, if_pos c_16, if_neg c_21]))]; rfl) dX5_isWrong_252
                  · skip
                    have c_21 := bI_0 c_21
                    refine lv_iload hx hb dX5_isWrong_218 (lv_at hl 0 rfl) ?_
                    refine lv_if_eq (tgt := 251) hx hb dX5_isWrong_220 (by decide) (fun c_22 => ?_) (fun c_22 => ?_)
                    · skip
                      have c_22 := bI_0 c_22
                      refine lv_iconst (v := 0) hx hb dX5_isWrong_251 (by decide) ?_
                      exact rd_zret (v := 0) hx hb hr hlocks rfl (by rw [(show m_X5_isWrong rd kd tb k = false from hm16.trans (by simp only [m_X5_isWrong_L16, if_pos c_1, if_neg c_3, if_pos c_4, if_pos c_15, if_pos c_16, if_pos c_21, if_pos c_22]))]; rfl) dX5_isWrong_252
                    · skip
                      have c_22 := bI_n0 c_22
                      refine lv_aload_n hx hb dX5_isWrong_223 rfl (lv_at hl 1 rfl) ?_
                      refine va_get (D := (dC, dI)) (ci := 6) (v := .ref a4) (C := RX5) (T := TX5) (N := 24) hx hb hts (by decide +kernel) hown hK hP 0 rfl rfl 4 (by decide) (hts (.fieldLink RX5 17 "PictureRowsModel" "read" "[I") (by decide +kernel)) (fun _ h9 => h9) rfl dX5_isWrong_224 ?_
                      refine lv_iload_n hx hb dX5_isWrong_227 rfl (lv_at hl 2 rfl) ?_
                      refine rd_iald hx hb hK hP 1 0 rfl rfl (k) (by omega) (by omega) dX5_isWrong_228 ?_
                      refine lv_bipush (v := 43) hx hb dX5_isWrong_229 (by decide) ?_
                      refine lv_icmp_ne (tgt := 242) hx hb dX5_isWrong_231 (by decide) (fun c_23 => ?_) (fun c_23 => ?_)
                      · skip
                        refine lv_iload hx hb dX5_isWrong_242 (lv_at hl 6 rfl) ?_
                        refine lv_if_eq (tgt := 251) hx hb dX5_isWrong_244 (by decide) (fun c_24 => ?_) (fun c_24 => ?_)
                        · skip
                          have c_24 := bI_0 c_24
                          refine lv_iconst (v := 0) hx hb dX5_isWrong_251 (by decide) ?_
                          exact rd_zret (v := 0) hx hb hr hlocks rfl (by rw [(show m_X5_isWrong rd kd tb k = false from hm16.trans (by simp only [m_X5_isWrong_L16, if_pos c_1, if_neg c_3, if_pos c_4, if_pos c_15, if_pos c_16, if_pos c_21, if_neg c_22, if_neg c_23, if_pos c_24]))]; rfl) dX5_isWrong_252
                        · skip
                          have c_24 := bI_n0 c_24
                          refine lv_iconst (v := 1) hx hb dX5_isWrong_247 (by decide) ?_
                          refine lv_goto (tgt := 252) hx hb dX5_isWrong_248 (by decide) ?_
                          exact rd_zret (v := 1) hx hb hr hlocks rfl (by rw [(show m_X5_isWrong rd kd tb k = true from hm16.trans (by simp only [m_X5_isWrong_L16, if_pos c_1, if_neg c_3, if_pos c_4, if_pos c_15, if_pos c_16, if_pos c_21, if_neg c_22, if_neg c_23, if_neg c_24]))]; rfl) dX5_isWrong_252
                      · skip
                        refine lv_iload hx hb dX5_isWrong_234 (lv_at hl 7 rfl) ?_
                        refine lv_if_eq (tgt := 251) hx hb dX5_isWrong_236 (by decide) (fun c_25 => ?_) (fun c_25 => ?_)
                        · skip
                          have c_25 := bI_0 c_25
                          refine lv_iconst (v := 0) hx hb dX5_isWrong_251 (by decide) ?_
                          exact rd_zret (v := 0) hx hb hr hlocks rfl (by rw [(show m_X5_isWrong rd kd tb k = false from hm16.trans (by simp only [m_X5_isWrong_L16, if_pos c_1, if_neg c_3, if_pos c_4, if_pos c_15, if_pos c_16, if_pos c_21, if_neg c_22, if_pos c_23, if_pos c_25]))]; rfl) dX5_isWrong_252
                        · skip
                          have c_25 := bI_n0 c_25
                          refine lv_goto (tgt := 247) hx hb dX5_isWrong_239 (by decide) ?_
                          refine lv_iconst (v := 1) hx hb dX5_isWrong_247 (by decide) ?_
                          refine lv_goto (tgt := 252) hx hb dX5_isWrong_248 (by decide) ?_
                          exact rd_zret (v := 1) hx hb hr hlocks rfl (by rw [(show m_X5_isWrong rd kd tb k = true from hm16.trans (by simp only [m_X5_isWrong_L16, if_pos c_1, if_neg c_3, if_pos c_4, if_pos c_15, if_pos c_16, if_pos c_21, if_neg c_22, if_pos c_23, if_neg c_25]))]; rfl) dX5_isWrong_252
        refine lv_icmp_eq (tgt := 176) hx hb dX5_isWrong_162 (by decide) (fun c_26 => ?_) (fun c_26 => ?_)
        · skip
          refine lv_iconst (v := 1) hx hb dX5_isWrong_176 (by decide) ?_
          refine lv_goto (tgt := 181) hx hb dX5_isWrong_177 (by decide) ?_
          exact j_2 true (by simp only [m_X5_isWrong_j181_s0, if_pos c_26]) ls (lv_sub hl [0, 1, 2, 3, 4, 5, 6, 7] rfl)
        · skip
          refine lv_aload_n hx hb dX5_isWrong_165 rfl (lv_at hl 0 rfl) ?_
          refine va_get (D := (dC, dI)) (ci := 6) (v := .ref a6) (C := RX5) (T := TX5) (N := 24) hx hb hts (by decide +kernel) hown hK hP 0 rfl rfl 6 (by decide) (hts (.fieldLink RX5 23 "PictureRowsModel" "kind" "[I") (by decide +kernel)) (fun _ h9 => h9) rfl dX5_isWrong_166 ?_
          refine lv_iload_n hx hb dX5_isWrong_169 rfl (lv_at hl 1 rfl) ?_
          refine rd_iald hx hb hK hP 2 0 rfl rfl (k) (by omega) (by omega) dX5_isWrong_170 ?_
          refine lv_bipush (v := 9) hx hb dX5_isWrong_171 (by decide) ?_
          refine lv_icmp_ne (tgt := 180) hx hb dX5_isWrong_173 (by decide) (fun c_27 => ?_) (fun c_27 => ?_)
          · skip
            refine lv_iconst (v := 0) hx hb dX5_isWrong_180 (by decide) ?_
            exact j_2 false (by simp only [m_X5_isWrong_j181_s0, if_neg c_26, if_neg c_27]) ls (lv_sub hl [0, 1, 2, 3, 4, 5, 6, 7] rfl)
          · skip
            refine lv_iconst (v := 1) hx hb dX5_isWrong_176 (by decide) ?_
            refine lv_goto (tgt := 181) hx hb dX5_isWrong_177 (by decide) ?_
            exact j_2 true (by simp only [m_X5_isWrong_j181_s0, if_neg c_26, if_pos c_27]) ls (lv_sub hl [0, 1, 2, 3, 4, 5, 6, 7] rfl)
      · skip
        have c_1 : ¬ k ≤ j := (fun q_ => c_1 ((nI_leI (a := k) (b := j) (by omega) (by omega)).mpr q_))
        refine lv_iload_n hx hb dX5_isWrong_22 rfl (lv_at hl 2 rfl) ?_
        refine lv_aload_n hx hb dX5_isWrong_23 rfl (lv_at hl 0 rfl) ?_
        refine va_get (D := (dC, dI)) (ci := 6) (v := .ref a21) (C := RX5) (T := TX5) (N := 24) hx hb hts (by decide +kernel) hown hK hP 0 rfl rfl 21 (by decide) (hts (.fieldLink RX5 60 "PictureRowsModel" "table" "[I") (by decide +kernel)) (fun _ h9 => h9) rfl dX5_isWrong_24 ?_
        refine lv_aload_n hx hb dX5_isWrong_27 rfl (lv_at hl 0 rfl) ?_
        refine va_get (D := (dC, dI)) (ci := 6) (v := .ref a6) (C := RX5) (T := TX5) (N := 24) hx hb hts (by decide +kernel) hown hK hP 0 rfl rfl 6 (by decide) (hts (.fieldLink RX5 23 "PictureRowsModel" "kind" "[I") (by decide +kernel)) (fun _ h9 => h9) rfl dX5_isWrong_28 ?_
        refine lv_iload hx hb dX5_isWrong_31 (lv_at hl 7 rfl) ?_
        refine rd_iald hx hb hK hP 2 0 rfl rfl (j) (by omega) (by omega) dX5_isWrong_33 ?_
        refine va_iald hx hb hK hP 3 0 rfl rfl (by exact hkd _ (by omega)) dX5_isWrong_34 ?_
        refine lv_aload_n hx hb dX5_isWrong_35 rfl (lv_at hl 0 rfl) ?_
        refine va_get (D := (dC, dI)) (ci := 6) (v := .ref a6) (C := RX5) (T := TX5) (N := 24) hx hb hts (by decide +kernel) hown hK hP 0 rfl rfl 6 (by decide) (hts (.fieldLink RX5 23 "PictureRowsModel" "kind" "[I") (by decide +kernel)) (fun _ h9 => h9) rfl dX5_isWrong_36 ?_
        refine lv_iload_n hx hb dX5_isWrong_39 rfl (lv_at hl 1 rfl) ?_
        refine rd_iald hx hb hK hP 2 0 rfl rfl (k) (by omega) (by omega) dX5_isWrong_40 ?_
        refine lv_ishr hx hb dX5_isWrong_41 ?_
        refine lv_iconst (v := 1) hx hb dX5_isWrong_42 (by decide) ?_
        refine lv_iand hx hb dX5_isWrong_43 ?_
        have j_28 : ∀ (y0_j_28 : Bool), y0_j_28 = m_X5_isWrong_j52_s0 kd tb k j → ∀ (ls : Array Slot), lv_has ls 8 [(0, .ref h0), (1, .int (nI k)), (2, .int x2), (3, .int (bI x3)), (4, .int (bI x4)), (5, .int (bI x5)), (6, .int (bI x6)), (7, .int (nI j))] → W p l e (headSpec wsX5_isWrong ({ frames := 0, cells := 0, slots := 0, locals := 0 } : Room)).room s m (([.ref h0, .int (nI k)] : List Value).toArray) below meth c s.heap [] 0 0 (MQ below (vp_Si (fun r => r = bI (m_X5_isWrong rd kd tb k))) (([.ref h0, .int (nI k)] : List Value).toArray) s 0 0 (fun _ => False)) (F0 m 52 ls [.int (bI y0_j_28), .int x2]) := by
          intro y0_j_28 ey0_j_28 ls hl
          subst ey0_j_28
          refine lv_ior hx hb dX5_isWrong_52 ?_
          refine lv_istore_n (lv' := [(2, .int (x2 ||| (bI (m_X5_isWrong_j52_s0 kd tb k j)))), (0, .ref h0), (1, .int (nI k)), (3, .int (bI x3)), (4, .int (bI x4)), (5, .int (bI x5)), (6, .int (bI x6)), (7, .int (nI j))]) hx hb dX5_isWrong_53 rfl hl (by decide) rfl (fun ls hl => ?_)
          refine lv_iload_n hx hb dX5_isWrong_54 rfl (lv_at hl 3 rfl) ?_
          have j_29 : ∀ (y0_j_29 : Bool), y0_j_29 = m_X5_isWrong_j75_s0 rd j x3 → ∀ (ls : Array Slot), lv_has ls 8 [(0, .ref h0), (1, .int (nI k)), (2, .int (x2 ||| (bI (m_X5_isWrong_j52_s0 kd tb k j)))), (3, .int (bI x3)), (4, .int (bI x4)), (5, .int (bI x5)), (6, .int (bI x6)), (7, .int (nI j))] → W p l e (headSpec wsX5_isWrong ({ frames := 0, cells := 0, slots := 0, locals := 0 } : Room)).room s m (([.ref h0, .int (nI k)] : List Value).toArray) below meth c s.heap [] 0 0 (MQ below (vp_Si (fun r => r = bI (m_X5_isWrong rd kd tb k))) (([.ref h0, .int (nI k)] : List Value).toArray) s 0 0 (fun _ => False)) (F0 m 75 ls [.int (bI y0_j_29)]) := by
            intro y0_j_29 ey0_j_29 ls hl
            subst ey0_j_29
            refine lv_istore_n (lv' := [(3, .int (bI (m_X5_isWrong_j75_s0 rd j x3))), (0, .ref h0), (1, .int (nI k)), (2, .int (x2 ||| (bI (m_X5_isWrong_j52_s0 kd tb k j)))), (4, .int (bI x4)), (5, .int (bI x5)), (6, .int (bI x6)), (7, .int (nI j))]) hx hb dX5_isWrong_75 rfl hl (by decide) rfl (fun ls hl => ?_)
            refine lv_iload hx hb dX5_isWrong_76 (lv_at hl 4 rfl) ?_
            have j_30 : ∀ (y0_j_30 : Bool), y0_j_30 = m_X5_isWrong_j98_s0 rd j x4 → ∀ (ls : Array Slot), lv_has ls 8 [(0, .ref h0), (1, .int (nI k)), (2, .int (x2 ||| (bI (m_X5_isWrong_j52_s0 kd tb k j)))), (3, .int (bI (m_X5_isWrong_j75_s0 rd j x3))), (4, .int (bI x4)), (5, .int (bI x5)), (6, .int (bI x6)), (7, .int (nI j))] → W p l e (headSpec wsX5_isWrong ({ frames := 0, cells := 0, slots := 0, locals := 0 } : Room)).room s m (([.ref h0, .int (nI k)] : List Value).toArray) below meth c s.heap [] 0 0 (MQ below (vp_Si (fun r => r = bI (m_X5_isWrong rd kd tb k))) (([.ref h0, .int (nI k)] : List Value).toArray) s 0 0 (fun _ => False)) (F0 m 98 ls [.int (bI y0_j_30)]) := by
              intro y0_j_30 ey0_j_30 ls hl
              subst ey0_j_30
              refine lv_istore (lv' := [(4, .int (bI (m_X5_isWrong_j98_s0 rd j x4))), (0, .ref h0), (1, .int (nI k)), (2, .int (x2 ||| (bI (m_X5_isWrong_j52_s0 kd tb k j)))), (3, .int (bI (m_X5_isWrong_j75_s0 rd j x3))), (5, .int (bI x5)), (6, .int (bI x6)), (7, .int (nI j))]) hx hb dX5_isWrong_98 hl (by decide) rfl (fun ls hl => ?_)
              refine lv_iload hx hb dX5_isWrong_100 (lv_at hl 5 rfl) ?_
              have j_31 : ∀ (y0_j_31 : Bool), y0_j_31 = m_X5_isWrong_j122_s0 rd j x5 → ∀ (ls : Array Slot), lv_has ls 8 [(0, .ref h0), (1, .int (nI k)), (2, .int (x2 ||| (bI (m_X5_isWrong_j52_s0 kd tb k j)))), (3, .int (bI (m_X5_isWrong_j75_s0 rd j x3))), (4, .int (bI (m_X5_isWrong_j98_s0 rd j x4))), (5, .int (bI x5)), (6, .int (bI x6)), (7, .int (nI j))] → W p l e (headSpec wsX5_isWrong ({ frames := 0, cells := 0, slots := 0, locals := 0 } : Room)).room s m (([.ref h0, .int (nI k)] : List Value).toArray) below meth c s.heap [] 0 0 (MQ below (vp_Si (fun r => r = bI (m_X5_isWrong rd kd tb k))) (([.ref h0, .int (nI k)] : List Value).toArray) s 0 0 (fun _ => False)) (F0 m 122 ls [.int (bI y0_j_31)]) := by
                intro y0_j_31 ey0_j_31 ls hl
                subst ey0_j_31
                refine lv_istore (lv' := [(5, .int (bI (m_X5_isWrong_j122_s0 rd j x5))), (0, .ref h0), (1, .int (nI k)), (2, .int (x2 ||| (bI (m_X5_isWrong_j52_s0 kd tb k j)))), (3, .int (bI (m_X5_isWrong_j75_s0 rd j x3))), (4, .int (bI (m_X5_isWrong_j98_s0 rd j x4))), (6, .int (bI x6)), (7, .int (nI j))]) hx hb dX5_isWrong_122 hl (by decide) rfl (fun ls hl => ?_)
                refine lv_iload hx hb dX5_isWrong_124 (lv_at hl 6 rfl) ?_
                have j_32 : ∀ (y0_j_32 : Bool), y0_j_32 = m_X5_isWrong_j146_s0 rd j x6 → ∀ (ls : Array Slot), lv_has ls 8 [(0, .ref h0), (1, .int (nI k)), (2, .int (x2 ||| (bI (m_X5_isWrong_j52_s0 kd tb k j)))), (3, .int (bI (m_X5_isWrong_j75_s0 rd j x3))), (4, .int (bI (m_X5_isWrong_j98_s0 rd j x4))), (5, .int (bI (m_X5_isWrong_j122_s0 rd j x5))), (6, .int (bI x6)), (7, .int (nI j))] → W p l e (headSpec wsX5_isWrong ({ frames := 0, cells := 0, slots := 0, locals := 0 } : Room)).room s m (([.ref h0, .int (nI k)] : List Value).toArray) below meth c s.heap [] 0 0 (MQ below (vp_Si (fun r => r = bI (m_X5_isWrong rd kd tb k))) (([.ref h0, .int (nI k)] : List Value).toArray) s 0 0 (fun _ => False)) (F0 m 146 ls [.int (bI y0_j_32)]) := by
                  intro y0_j_32 ey0_j_32 ls hl
                  subst ey0_j_32
                  refine lv_istore (lv' := [(6, .int (bI (m_X5_isWrong_j146_s0 rd j x6))), (0, .ref h0), (1, .int (nI k)), (2, .int (x2 ||| (bI (m_X5_isWrong_j52_s0 kd tb k j)))), (3, .int (bI (m_X5_isWrong_j75_s0 rd j x3))), (4, .int (bI (m_X5_isWrong_j98_s0 rd j x4))), (5, .int (bI (m_X5_isWrong_j122_s0 rd j x5))), (7, .int (nI j))]) hx hb dX5_isWrong_146 hl (by decide) rfl (fun ls hl => ?_)
                  refine lv_iinc (v := nI (j + 1)) (lv' := [(7, .int (nI (j + 1))), (6, .int (bI (m_X5_isWrong_j146_s0 rd j x6))), (0, .ref h0), (1, .int (nI k)), (2, .int (x2 ||| (bI (m_X5_isWrong_j52_s0 kd tb k j)))), (3, .int (bI (m_X5_isWrong_j75_s0 rd j x3))), (4, .int (bI (m_X5_isWrong_j98_s0 rd j x4))), (5, .int (bI (m_X5_isWrong_j122_s0 rd j x5)))]) hx hb dX5_isWrong_148 hl (k := 7) rfl (nI_add (j) 1) (by decide) rfl (fun ls hl => ?_)
                  refine lv_goto (tgt := 16) hx hb dX5_isWrong_151 (by decide) ?_
                  exact ih16 (j + 1) (x2 ||| (bI (m_X5_isWrong_j52_s0 kd tb k j))) (m_X5_isWrong_j75_s0 rd j x3) (m_X5_isWrong_j98_s0 rd j x4) (m_X5_isWrong_j122_s0 rd j x5) (m_X5_isWrong_j146_s0 rd j x6) (by omega) (by omega)  (hm16.trans (by simp only [m_X5_isWrong_L16, if_neg c_1])) ls (lv_sub hl [2, 3, 4, 5, 6, 7, 1, 0] rfl)
                refine lv_if_ne (tgt := 141) hx hb dX5_isWrong_126 (by decide) (fun c_33 => ?_) (fun c_33 => ?_)
                · skip
                  have c_33 := bI_n0 c_33
                  refine lv_iconst (v := 1) hx hb dX5_isWrong_141 (by decide) ?_
                  refine lv_goto (tgt := 146) hx hb dX5_isWrong_142 (by decide) ?_
                  exact j_32 true (by simp only [m_X5_isWrong_j146_s0, if_neg c_33]) ls (lv_sub hl [1, 2, 3, 4, 5, 0, 6, 7] rfl)
                · skip
                  have c_33 := bI_0 c_33
                  refine lv_aload_n hx hb dX5_isWrong_129 rfl (lv_at hl 1 rfl) ?_
                  refine va_get (D := (dC, dI)) (ci := 6) (v := .ref a4) (C := RX5) (T := TX5) (N := 24) hx hb hts (by decide +kernel) hown hK hP 0 rfl rfl 4 (by decide) (hts (.fieldLink RX5 17 "PictureRowsModel" "read" "[I") (by decide +kernel)) (fun _ h9 => h9) rfl dX5_isWrong_130 ?_
                  refine lv_iload hx hb dX5_isWrong_133 (lv_at hl 7 rfl) ?_
                  refine rd_iald hx hb hK hP 1 0 rfl rfl (j) (by omega) (by omega) dX5_isWrong_135 ?_
                  refine lv_bipush (v := 45) hx hb dX5_isWrong_136 (by decide) ?_
                  refine lv_icmp_ne (tgt := 145) hx hb dX5_isWrong_138 (by decide) (fun c_34 => ?_) (fun c_34 => ?_)
                  · skip
                    refine lv_iconst (v := 0) hx hb dX5_isWrong_145 (by decide) ?_
                    exact j_32 false (by simp only [m_X5_isWrong_j146_s0, if_pos c_33, if_neg c_34]) ls (lv_sub hl [1, 2, 3, 4, 5, 0, 6, 7] rfl)
                  · skip
                    refine lv_iconst (v := 1) hx hb dX5_isWrong_141 (by decide) ?_
                    refine lv_goto (tgt := 146) hx hb dX5_isWrong_142 (by decide) ?_
                    exact j_32 true (by simp only [m_X5_isWrong_j146_s0, if_pos c_33, if_pos c_34]) ls (lv_sub hl [1, 2, 3, 4, 5, 0, 6, 7] rfl)
              refine lv_if_ne (tgt := 117) hx hb dX5_isWrong_102 (by decide) (fun c_35 => ?_) (fun c_35 => ?_)
              · skip
                have c_35 := bI_n0 c_35
                refine lv_iconst (v := 1) hx hb dX5_isWrong_117 (by decide) ?_
                refine lv_goto (tgt := 122) hx hb dX5_isWrong_118 (by decide) ?_
                exact j_31 true (by simp only [m_X5_isWrong_j122_s0, if_neg c_35]) ls (lv_sub hl [1, 2, 3, 4, 0, 5, 6, 7] rfl)
              · skip
                have c_35 := bI_0 c_35
                refine lv_aload_n hx hb dX5_isWrong_105 rfl (lv_at hl 1 rfl) ?_
                refine va_get (D := (dC, dI)) (ci := 6) (v := .ref a4) (C := RX5) (T := TX5) (N := 24) hx hb hts (by decide +kernel) hown hK hP 0 rfl rfl 4 (by decide) (hts (.fieldLink RX5 17 "PictureRowsModel" "read" "[I") (by decide +kernel)) (fun _ h9 => h9) rfl dX5_isWrong_106 ?_
                refine lv_iload hx hb dX5_isWrong_109 (lv_at hl 7 rfl) ?_
                refine rd_iald hx hb hK hP 1 0 rfl rfl (j) (by omega) (by omega) dX5_isWrong_111 ?_
                refine lv_bipush (v := 43) hx hb dX5_isWrong_112 (by decide) ?_
                refine lv_icmp_ne (tgt := 121) hx hb dX5_isWrong_114 (by decide) (fun c_36 => ?_) (fun c_36 => ?_)
                · skip
                  refine lv_iconst (v := 0) hx hb dX5_isWrong_121 (by decide) ?_
                  exact j_31 false (by simp only [m_X5_isWrong_j122_s0, if_pos c_35, if_neg c_36]) ls (lv_sub hl [1, 2, 3, 4, 0, 5, 6, 7] rfl)
                · skip
                  refine lv_iconst (v := 1) hx hb dX5_isWrong_117 (by decide) ?_
                  refine lv_goto (tgt := 122) hx hb dX5_isWrong_118 (by decide) ?_
                  exact j_31 true (by simp only [m_X5_isWrong_j122_s0, if_pos c_35, if_pos c_36]) ls (lv_sub hl [1, 2, 3, 4, 0, 5, 6, 7] rfl)
            refine lv_if_ne (tgt := 93) hx hb dX5_isWrong_78 (by decide) (fun c_37 => ?_) (fun c_37 => ?_)
            · skip
              have c_37 := bI_n0 c_37
              refine lv_iconst (v := 1) hx hb dX5_isWrong_93 (by decide) ?_
              refine lv_goto (tgt := 98) hx hb dX5_isWrong_94 (by decide) ?_
              exact j_30 true (by simp only [m_X5_isWrong_j98_s0, if_neg c_37]) ls (lv_sub hl [1, 2, 3, 0, 4, 5, 6, 7] rfl)
            · skip
              have c_37 := bI_0 c_37
              refine lv_aload_n hx hb dX5_isWrong_81 rfl (lv_at hl 1 rfl) ?_
              refine va_get (D := (dC, dI)) (ci := 6) (v := .ref a4) (C := RX5) (T := TX5) (N := 24) hx hb hts (by decide +kernel) hown hK hP 0 rfl rfl 4 (by decide) (hts (.fieldLink RX5 17 "PictureRowsModel" "read" "[I") (by decide +kernel)) (fun _ h9 => h9) rfl dX5_isWrong_82 ?_
              refine lv_iload hx hb dX5_isWrong_85 (lv_at hl 7 rfl) ?_
              refine rd_iald hx hb hK hP 1 0 rfl rfl (j) (by omega) (by omega) dX5_isWrong_87 ?_
              refine lv_bipush (v := 42) hx hb dX5_isWrong_88 (by decide) ?_
              refine lv_icmp_ne (tgt := 97) hx hb dX5_isWrong_90 (by decide) (fun c_38 => ?_) (fun c_38 => ?_)
              · skip
                refine lv_iconst (v := 0) hx hb dX5_isWrong_97 (by decide) ?_
                exact j_30 false (by simp only [m_X5_isWrong_j98_s0, if_pos c_37, if_neg c_38]) ls (lv_sub hl [1, 2, 3, 0, 4, 5, 6, 7] rfl)
              · skip
                refine lv_iconst (v := 1) hx hb dX5_isWrong_93 (by decide) ?_
                refine lv_goto (tgt := 98) hx hb dX5_isWrong_94 (by decide) ?_
                exact j_30 true (by simp only [m_X5_isWrong_j98_s0, if_pos c_37, if_pos c_38]) ls (lv_sub hl [1, 2, 3, 0, 4, 5, 6, 7] rfl)
          refine lv_if_ne (tgt := 70) hx hb dX5_isWrong_55 (by decide) (fun c_39 => ?_) (fun c_39 => ?_)
          · skip
            have c_39 := bI_n0 c_39
            refine lv_iconst (v := 1) hx hb dX5_isWrong_70 (by decide) ?_
            refine lv_goto (tgt := 75) hx hb dX5_isWrong_71 (by decide) ?_
            exact j_29 true (by simp only [m_X5_isWrong_j75_s0, if_neg c_39]) ls (lv_sub hl [1, 2, 0, 3, 4, 5, 6, 7] rfl)
          · skip
            have c_39 := bI_0 c_39
            refine lv_aload_n hx hb dX5_isWrong_58 rfl (lv_at hl 1 rfl) ?_
            refine va_get (D := (dC, dI)) (ci := 6) (v := .ref a4) (C := RX5) (T := TX5) (N := 24) hx hb hts (by decide +kernel) hown hK hP 0 rfl rfl 4 (by decide) (hts (.fieldLink RX5 17 "PictureRowsModel" "read" "[I") (by decide +kernel)) (fun _ h9 => h9) rfl dX5_isWrong_59 ?_
            refine lv_iload hx hb dX5_isWrong_62 (lv_at hl 7 rfl) ?_
            refine rd_iald hx hb hK hP 1 0 rfl rfl (j) (by omega) (by omega) dX5_isWrong_64 ?_
            refine lv_bipush (v := 90) hx hb dX5_isWrong_65 (by decide) ?_
            refine lv_icmp_ne (tgt := 74) hx hb dX5_isWrong_67 (by decide) (fun c_40 => ?_) (fun c_40 => ?_)
            · skip
              refine lv_iconst (v := 0) hx hb dX5_isWrong_74 (by decide) ?_
              exact j_29 false (by simp only [m_X5_isWrong_j75_s0, if_pos c_39, if_neg c_40]) ls (lv_sub hl [1, 2, 0, 3, 4, 5, 6, 7] rfl)
            · skip
              refine lv_iconst (v := 1) hx hb dX5_isWrong_70 (by decide) ?_
              refine lv_goto (tgt := 75) hx hb dX5_isWrong_71 (by decide) ?_
              exact j_29 true (by simp only [m_X5_isWrong_j75_s0, if_pos c_39, if_pos c_40]) ls (lv_sub hl [1, 2, 0, 3, 4, 5, 6, 7] rfl)
        refine lv_if_ne (tgt := 51) hx hb dX5_isWrong_44 (by decide) (fun c_41 => ?_) (fun c_41 => ?_)
        · skip
          refine lv_iconst (v := 0) hx hb dX5_isWrong_51 (by decide) ?_
          exact j_28 false (by simp only [m_X5_isWrong_j52_s0, if_neg c_41]) ls (lv_sub hl [0, 1, 2, 3, 4, 5, 6, 7] rfl)
        · skip
          refine lv_iconst (v := 1) hx hb dX5_isWrong_47 (by decide) ?_
          refine lv_goto (tgt := 52) hx hb dX5_isWrong_48 (by decide) ?_
          exact j_28 true (by simp only [m_X5_isWrong_j52_s0, if_pos c_41]) ls (lv_sub hl [0, 1, 2, 3, 4, 5, 6, 7] rfl)
  exact lp_16 (k + 1) (0) 0 false false false false (by omega) (by omega)  (show m_X5_isWrong rd kd tb k = m_X5_isWrong_L16 rd kd tb k (k + 1) 0 0 false false false false from by simp only [m_X5_isWrong]) ls (lv_sub hl [6, 7, 5, 4, 3, 2, 1, 0] rfl)
def m_X5_isDigitFast_j26_s0 (rd : Nat → Int32) (k : Nat) : Bool := if k ≤ 0 then false else (if (rd k) = (rd (k - 1)) then true else false)
def m_X5_isDigitFast (rd : Nat → Int32) (kd : Nat → Int32) (k : Nat) : Bool := if (m_X5_isDigitFast_j26_s0 rd k) = false then (m_X5_isDigit rd kd k) else (if (kd k) = 12 then true else (if (kd k) ≤ 5 then (if (kd k) = 16 then true else (if (kd k) = 17 then true else false)) else (if (kd k) < 12 then true else (if (kd k) = 16 then true else (if (kd k) = 17 then true else false)))))
set_option maxHeartbeats 4000000 in
set_option maxRecDepth 100000 in
theorem c_X5_isDigitFast (l : Launch) (dC : Nat → ClassId) (dI : Nat → Nat → Nat) (h0 : Nat) (th : Int32) (t1 : Nat) (len : Nat) (mo : Int32) (a4 : Nat) (a5 : Nat) (a6 : Nat) (my : Nat) (pu : Int32) (mi : Int32) (ms : Int32) (a11 : Nat) (a12 : Nat) (a13 : Nat) (la : Int32) (kp : Nat) (sh : Nat) (mf : Int32) (a18 : Nat) (a19 : Nat) (a20 : Nat) (a21 : Nat) (a22 : Nat) (a23 : Nat) (cA : ClassId) (rd : Nat → Int32) (kd : Nat → Int32) (k : Nat) (hk : k < 10200) : Met l yX5_isDigitFast wsX5_isDigitFast ({ frames := 1, cells := 0, slots := 0, locals := 24 } : Room) (va_Pc [.ref h0, .int (nI k)] (rd_P (dC, dI) vwCl [(h0, .inr (6, [.int th, .ref t1, .int (nI len), .int mo, .ref a4, .ref a5, .ref a6, .int (nI my), .int pu, .int mi, .int ms, .ref a11, .ref a12, .ref a13, .int la, .int (nI kp), .int (nI sh), .int mf, .ref a18, .ref a19, .ref a20, .ref a21, .ref a22, .ref a23])), (a4, .inl (cA, 10200, .inl rd)), (a6, .inl (cA, 10200, .inl kd))] [(cA, .int)])) (vp_Si (fun r => r = bI (m_X5_isDigitFast rd kd k))) 0 0 (fun _ => False) := by
  refine Met.ofW (cc := cX5_isDigitFast) (maxL := 4) (ret := (some .boolean)) (by decide) rfl ?_
  intro p e s m args below meth c s₁ B hml hv
  obtain ⟨rfl, hE, hP, hK⟩ := hv
  have hx := B.exec
  have hb := B.bytes
  have hr := B.returns
  have hts := atoms_spec (ws := wsX5_isDigitFast) B.pre
  have hown : s.vm.findClass RX5 = some m.cls := findClass_of_methodNamed B.named
  have hlocks := B.notSynchronized
  have hl := lv_entry ([.ref h0, .int (nI k)]) (n := 4) (Nat.le_of_ble_eq_true rfl)
  rw [lg_entry_eq]
  generalize (lg_sl ([.ref h0, .int (nI k)]) ++ List.replicate (4 - (lg_sl ([.ref h0, .int (nI k)])).length) Slot.unset).toArray = ls at hl ⊢
  have hl : lv_has ls 4 [(0, .ref h0), (1, .int (nI k))] := hl
  refine lv_iload_n hx hb dX5_isDigitFast_0 rfl (lv_at hl 1 rfl) ?_
  have j_1 : ∀ (y0_j_1 : Bool), y0_j_1 = m_X5_isDigitFast_j26_s0 rd k → ∀ (ls : Array Slot), lv_has ls 4 [(0, .ref h0), (1, .int (nI k))] → W p l e (headSpec wsX5_isDigitFast ({ frames := 1, cells := 0, slots := 0, locals := 24 } : Room)).room s m (([.ref h0, .int (nI k)] : List Value).toArray) below meth c s.heap [] 0 0 (MQ below (vp_Si (fun r => r = bI (m_X5_isDigitFast rd kd k))) (([.ref h0, .int (nI k)] : List Value).toArray) s 0 0 (fun _ => False)) (F0 m 26 ls [.int (bI y0_j_1)]) := by
    intro y0_j_1 ey0_j_1 ls hl
    subst ey0_j_1
    refine lv_istore_n (lv' := [(2, .int (bI (m_X5_isDigitFast_j26_s0 rd k))), (0, .ref h0), (1, .int (nI k))]) hx hb dX5_isDigitFast_26 rfl hl (by decide) rfl (fun ls hl => ?_)
    refine lv_aload_n hx hb dX5_isDigitFast_27 rfl (lv_at hl 1 rfl) ?_
    refine va_get (D := (dC, dI)) (ci := 6) (v := .ref a6) (C := RX5) (T := TX5) (N := 24) hx hb hts (by decide +kernel) hown hK hP 0 rfl rfl 6 (by decide) (hts (.fieldLink RX5 23 "PictureRowsModel" "kind" "[I") (by decide +kernel)) (fun _ h9 => h9) rfl dX5_isDigitFast_28 ?_
    refine lv_iload_n hx hb dX5_isDigitFast_31 rfl (lv_at hl 2 rfl) ?_
    refine rd_iald hx hb hK hP 2 0 rfl rfl (k) (by omega) (by omega) dX5_isDigitFast_32 ?_
    refine lv_istore_n (lv' := [(3, .int (kd k)), (2, .int (bI (m_X5_isDigitFast_j26_s0 rd k))), (0, .ref h0), (1, .int (nI k))]) hx hb dX5_isDigitFast_33 rfl hl (by decide) rfl (fun ls hl => ?_)
    refine lv_iload_n hx hb dX5_isDigitFast_34 rfl (lv_at hl 1 rfl) ?_
    refine lv_if_eq (tgt := 75) hx hb dX5_isDigitFast_35 (by decide) (fun c_2 => ?_) (fun c_2 => ?_)
    · skip
      have c_2 := bI_0 c_2
      refine lv_aload_n hx hb dX5_isDigitFast_75 rfl (lv_at hl 2 rfl) ?_
      refine lv_iload_n hx hb dX5_isDigitFast_76 rfl (lv_at hl 3 rfl) ?_
      refine rd_callV (As := [.int (nI k)]) (rest := []) ⟨hx, hb, hml, hown, hts⟩ hE (c_X5_isDigit l dC dI h0 th t1 len mo a4 a5 a6 my pu mi ms a11 a12 a13 la kp sh mf a18 a19 a20 a21 a22 a23 cA rd kd k (by omega)) (cwV 1 hts gX5_isDigitFast_X5_isDigit rfl rfl rfl (by decide +kernel) ⟨Nat.le_of_ble_eq_true rfl, Nat.le_of_ble_eq_true rfl⟩) (hP.sub (ws' := [(h0, .inr (6, [.int th, .ref t1, .int (nI len), .int mo, .ref a4, .ref a5, .ref a6, .int (nI my), .int pu, .int mi, .int ms, .ref a11, .ref a12, .ref a13, .int la, .int (nI kp), .int (nI sh), .int mf, .ref a18, .ref a19, .ref a20, .ref a21, .ref a22, .ref a23])), (a4, .inl (cA, 10200, .inl rd)), (a6, .inl (cA, 10200, .inl kd))]) [0, 1, 2] rfl) (hK.sub [0] rfl) (va_recv hK hP (ci := 6) (q0 := 0) rfl rfl) rfl hl.1 rfl (Nat.le_of_ble_eq_true rfl) dX5_isDigitFast_77 ⟨Nat.zero_le _, Nat.zero_le _⟩ (fun r9 hr9 => ?_)
      subst hr9
      exact rd_zret (v := bI (m_X5_isDigit rd kd k)) hx hb hr hlocks (bI_nar _) (by rw [(show m_X5_isDigitFast rd kd k = m_X5_isDigit rd kd k from by simp only [m_X5_isDigitFast, if_pos c_2])]) dX5_isDigitFast_80
    · skip
      have c_2 := bI_n0 c_2
      refine lv_iload_n hx hb dX5_isDigitFast_38 rfl (lv_at hl 0 rfl) ?_
      refine lv_bipush (v := 12) hx hb dX5_isDigitFast_39 (by decide) ?_
      refine lv_icmp_eq (tgt := 67) hx hb dX5_isDigitFast_41 (by decide) (fun c_3 => ?_) (fun c_3 => ?_)
      · skip
        refine lv_iconst (v := 1) hx hb dX5_isDigitFast_67 (by decide) ?_
        refine lv_goto (tgt := 80) hx hb dX5_isDigitFast_68 (by decide) ?_
        exact rd_zret (v := 1) hx hb hr hlocks rfl (by rw [(show m_X5_isDigitFast rd kd k = true from by simp only [m_X5_isDigitFast, if_neg c_2, if_pos c_3])]; rfl) dX5_isDigitFast_80
      · skip
        refine lv_iload_n hx hb dX5_isDigitFast_44 rfl (lv_at hl 0 rfl) ?_
        refine lv_iconst (v := 5) hx hb dX5_isDigitFast_45 (by decide) ?_
        refine lv_icmp_le (tgt := 55) hx hb dX5_isDigitFast_46 (by decide) (fun c_4 => ?_) (fun c_4 => ?_)
        · skip
          refine lv_iload_n hx hb dX5_isDigitFast_55 rfl (lv_at hl 0 rfl) ?_
          refine lv_bipush (v := 16) hx hb dX5_isDigitFast_56 (by decide) ?_
          refine lv_icmp_eq (tgt := 67) hx hb dX5_isDigitFast_58 (by decide) (fun c_5 => ?_) (fun c_5 => ?_)
          · skip
            refine lv_iconst (v := 1) hx hb dX5_isDigitFast_67 (by decide) ?_
            refine lv_goto (tgt := 80) hx hb dX5_isDigitFast_68 (by decide) ?_
            exact rd_zret (v := 1) hx hb hr hlocks rfl (by rw [(show m_X5_isDigitFast rd kd k = true from by simp only [m_X5_isDigitFast, if_neg c_2, if_neg c_3, if_pos c_4, if_pos c_5])]; rfl) dX5_isDigitFast_80
          · skip
            refine lv_iload_n hx hb dX5_isDigitFast_61 rfl (lv_at hl 0 rfl) ?_
            refine lv_bipush (v := 17) hx hb dX5_isDigitFast_62 (by decide) ?_
            refine lv_icmp_ne (tgt := 71) hx hb dX5_isDigitFast_64 (by decide) (fun c_6 => ?_) (fun c_6 => ?_)
            · skip
              refine lv_iconst (v := 0) hx hb dX5_isDigitFast_71 (by decide) ?_
              refine lv_goto (tgt := 80) hx hb dX5_isDigitFast_72 (by decide) ?_
              exact rd_zret (v := 0) hx hb hr hlocks rfl (by rw [(show m_X5_isDigitFast rd kd k = false from by simp only [m_X5_isDigitFast, if_neg c_2, if_neg c_3, if_pos c_4, if_neg c_5, if_neg c_6])]; rfl) dX5_isDigitFast_80
            · skip
              refine lv_iconst (v := 1) hx hb dX5_isDigitFast_67 (by decide) ?_
              refine lv_goto (tgt := 80) hx hb dX5_isDigitFast_68 (by decide) ?_
              exact rd_zret (v := 1) hx hb hr hlocks rfl (by rw [(show m_X5_isDigitFast rd kd k = true from by simp only [m_X5_isDigitFast, if_neg c_2, if_neg c_3, if_pos c_4, if_neg c_5, if_pos c_6])]; rfl) dX5_isDigitFast_80
        · skip
          refine lv_iload_n hx hb dX5_isDigitFast_49 rfl (lv_at hl 0 rfl) ?_
          refine lv_bipush (v := 12) hx hb dX5_isDigitFast_50 (by decide) ?_
          refine lv_icmp_lt (tgt := 67) hx hb dX5_isDigitFast_52 (by decide) (fun c_7 => ?_) (fun c_7 => ?_)
          · skip
            refine lv_iconst (v := 1) hx hb dX5_isDigitFast_67 (by decide) ?_
            refine lv_goto (tgt := 80) hx hb dX5_isDigitFast_68 (by decide) ?_
            exact rd_zret (v := 1) hx hb hr hlocks rfl (by rw [(show m_X5_isDigitFast rd kd k = true from by simp only [m_X5_isDigitFast, if_neg c_2, if_neg c_3, if_neg c_4, if_pos c_7])]; rfl) dX5_isDigitFast_80
          · skip
            refine lv_iload_n hx hb dX5_isDigitFast_55 rfl (lv_at hl 0 rfl) ?_
            refine lv_bipush (v := 16) hx hb dX5_isDigitFast_56 (by decide) ?_
            refine lv_icmp_eq (tgt := 67) hx hb dX5_isDigitFast_58 (by decide) (fun c_8 => ?_) (fun c_8 => ?_)
            · skip
              refine lv_iconst (v := 1) hx hb dX5_isDigitFast_67 (by decide) ?_
              refine lv_goto (tgt := 80) hx hb dX5_isDigitFast_68 (by decide) ?_
              exact rd_zret (v := 1) hx hb hr hlocks rfl (by rw [(show m_X5_isDigitFast rd kd k = true from by simp only [m_X5_isDigitFast, if_neg c_2, if_neg c_3, if_neg c_4, if_neg c_7, if_pos c_8])]; rfl) dX5_isDigitFast_80
            · skip
              refine lv_iload_n hx hb dX5_isDigitFast_61 rfl (lv_at hl 0 rfl) ?_
              refine lv_bipush (v := 17) hx hb dX5_isDigitFast_62 (by decide) ?_
              refine lv_icmp_ne (tgt := 71) hx hb dX5_isDigitFast_64 (by decide) (fun c_9 => ?_) (fun c_9 => ?_)
              · skip
                refine lv_iconst (v := 0) hx hb dX5_isDigitFast_71 (by decide) ?_
                refine lv_goto (tgt := 80) hx hb dX5_isDigitFast_72 (by decide) ?_
                exact rd_zret (v := 0) hx hb hr hlocks rfl (by rw [(show m_X5_isDigitFast rd kd k = false from by simp only [m_X5_isDigitFast, if_neg c_2, if_neg c_3, if_neg c_4, if_neg c_7, if_neg c_8, if_neg c_9])]; rfl) dX5_isDigitFast_80
              · skip
                refine lv_iconst (v := 1) hx hb dX5_isDigitFast_67 (by decide) ?_
                refine lv_goto (tgt := 80) hx hb dX5_isDigitFast_68 (by decide) ?_
                exact rd_zret (v := 1) hx hb hr hlocks rfl (by rw [(show m_X5_isDigitFast rd kd k = true from by simp only [m_X5_isDigitFast, if_neg c_2, if_neg c_3, if_neg c_4, if_neg c_7, if_neg c_8, if_pos c_9])]; rfl) dX5_isDigitFast_80
  refine lv_if_le (tgt := 25) hx hb dX5_isDigitFast_1 (by decide) (fun c_10 => ?_) (fun c_10 => ?_)
  · skip
    have c_10 : k ≤ 0 := (nI_leI (a := k) (b := 0) (by omega) (by omega)).mp c_10
    refine lv_iconst (v := 0) hx hb dX5_isDigitFast_25 (by decide) ?_
    exact j_1 false (by simp only [m_X5_isDigitFast_j26_s0, if_pos c_10]) ls (lv_sub hl [0, 1] rfl)
  · skip
    have c_10 : ¬ k ≤ 0 := (fun q_ => c_10 ((nI_leI (a := k) (b := 0) (by omega) (by omega)).mpr q_))
    refine lv_aload_n hx hb dX5_isDigitFast_4 rfl (lv_at hl 0 rfl) ?_
    refine va_get (D := (dC, dI)) (ci := 6) (v := .ref a4) (C := RX5) (T := TX5) (N := 24) hx hb hts (by decide +kernel) hown hK hP 0 rfl rfl 4 (by decide) (hts (.fieldLink RX5 17 "PictureRowsModel" "read" "[I") (by decide +kernel)) (fun _ h9 => h9) rfl dX5_isDigitFast_5 ?_
    refine lv_iload_n hx hb dX5_isDigitFast_8 rfl (lv_at hl 1 rfl) ?_
    refine rd_iald hx hb hK hP 1 0 rfl rfl (k) (by omega) (by omega) dX5_isDigitFast_9 ?_
    refine lv_aload_n hx hb dX5_isDigitFast_10 rfl (lv_at hl 0 rfl) ?_
    refine va_get (D := (dC, dI)) (ci := 6) (v := .ref a4) (C := RX5) (T := TX5) (N := 24) hx hb hts (by decide +kernel) hown hK hP 0 rfl rfl 4 (by decide) (hts (.fieldLink RX5 17 "PictureRowsModel" "read" "[I") (by decide +kernel)) (fun _ h9 => h9) rfl dX5_isDigitFast_11 ?_
    refine lv_iload_n hx hb dX5_isDigitFast_14 rfl (lv_at hl 1 rfl) ?_
    refine lv_iconst (v := 1) hx hb dX5_isDigitFast_15 (by decide) ?_
    refine rd_isub hx hb (k) (1) (by omega) dX5_isDigitFast_16 ?_
    refine rd_iald hx hb hK hP 1 0 rfl rfl (k - 1) (by omega) (by omega) dX5_isDigitFast_17 ?_
    refine lv_icmp_ne (tgt := 25) hx hb dX5_isDigitFast_18 (by decide) (fun c_11 => ?_) (fun c_11 => ?_)
    · skip
      refine lv_iconst (v := 0) hx hb dX5_isDigitFast_25 (by decide) ?_
      exact j_1 false (by simp only [m_X5_isDigitFast_j26_s0, if_neg c_10, if_neg c_11]) ls (lv_sub hl [0, 1] rfl)
    · skip
      refine lv_iconst (v := 1) hx hb dX5_isDigitFast_21 (by decide) ?_
      refine lv_goto (tgt := 26) hx hb dX5_isDigitFast_22 (by decide) ?_
      exact j_1 true (by simp only [m_X5_isDigitFast_j26_s0, if_neg c_10, if_pos c_11]) ls (lv_sub hl [0, 1] rfl)
def m_X5_hasMain_j53_s0 (kd : Nat → Int32) (i : Nat) (x1 : Bool) : Bool := if x1 = false then (if (kd i) ≤ 5 then (if (kd i) = 18 then true else false) else (if (kd i) < 14 then true else (if (kd i) = 18 then true else false))) else true
def m_X5_hasMain_L4 (kd : Nat → Int32) (my : Nat) : Nat → Nat → Bool → Bool
  | 0, _, _ => false
  | k4 + 1, i, x1 => if my ≤ i then x1 else (m_X5_hasMain_L4 kd my k4 (i + 1) (m_X5_hasMain_j53_s0 kd i x1))
def m_X5_hasMain (kd : Nat → Int32) (my : Nat) : Bool := m_X5_hasMain_L4 kd my (my + 1) 0 false
set_option maxHeartbeats 4000000 in
set_option maxRecDepth 100000 in
theorem c_X5_hasMain (l : Launch) (dC : Nat → ClassId) (dI : Nat → Nat → Nat) (h0 : Nat) (th : Int32) (t1 : Nat) (len : Nat) (mo : Int32) (a4 : Nat) (a5 : Nat) (a6 : Nat) (pu : Int32) (mi : Int32) (ms : Int32) (a11 : Nat) (a12 : Nat) (a13 : Nat) (la : Int32) (kp : Nat) (sh : Nat) (mf : Int32) (a18 : Nat) (a19 : Nat) (a20 : Nat) (a21 : Nat) (a22 : Nat) (a23 : Nat) (cA : ClassId) (kd : Nat → Int32) (my : Nat) (hmy : my ≤ 10200) : Met l yX5_hasMain wsX5_hasMain ({ frames := 0, cells := 0, slots := 0, locals := 0 } : Room) (va_Pc [.ref h0] (rd_P (dC, dI) vwCl [(h0, .inr (6, [.int th, .ref t1, .int (nI len), .int mo, .ref a4, .ref a5, .ref a6, .int (nI my), .int pu, .int mi, .int ms, .ref a11, .ref a12, .ref a13, .int la, .int (nI kp), .int (nI sh), .int mf, .ref a18, .ref a19, .ref a20, .ref a21, .ref a22, .ref a23])), (a6, .inl (cA, 10200, .inl kd))] [(cA, .int)])) (vp_Si (fun r => r = bI (m_X5_hasMain kd my))) 0 0 (fun _ => False) := by
  refine Met.ofW (cc := cX5_hasMain) (maxL := 3) (ret := (some .boolean)) (by decide) rfl ?_
  intro p e s m args below meth c s₁ B hml hv
  obtain ⟨rfl, hE, hP, hK⟩ := hv
  have hx := B.exec
  have hb := B.bytes
  have hr := B.returns
  have hts := atoms_spec (ws := wsX5_hasMain) B.pre
  have hown : s.vm.findClass RX5 = some m.cls := findClass_of_methodNamed B.named
  have hlocks := B.notSynchronized
  have hl := lv_entry ([.ref h0]) (n := 3) (Nat.le_of_ble_eq_true rfl)
  rw [lg_entry_eq]
  generalize (lg_sl ([.ref h0]) ++ List.replicate (3 - (lg_sl ([.ref h0])).length) Slot.unset).toArray = ls at hl ⊢
  have hl : lv_has ls 3 [(0, .ref h0)] := hl
  refine lv_iconst (v := 0) hx hb dX5_hasMain_0 (by decide) ?_
  refine lv_istore_n (lv' := [(1, .int 0), (0, .ref h0)]) hx hb dX5_hasMain_1 rfl hl (by decide) rfl (fun ls hl => ?_)
  refine lv_iconst (v := 0) hx hb dX5_hasMain_2 (by decide) ?_
  refine lv_istore_n (lv' := [(2, .int 0), (1, .int 0), (0, .ref h0)]) hx hb dX5_hasMain_3 rfl hl (by decide) rfl (fun ls hl => ?_)
  have lp_4 : ∀ (k4 i : Nat) (x1 : Bool), i ≤ my → my + 1 ≤ i + k4 → m_X5_hasMain kd my = m_X5_hasMain_L4 kd my k4 i x1 → ∀ (ls : Array Slot), lv_has ls 3 [(0, .ref h0), (1, .int (bI x1)), (2, .int (nI i))] → W p l e (headSpec wsX5_hasMain ({ frames := 0, cells := 0, slots := 0, locals := 0 } : Room)).room s m (([.ref h0] : List Value).toArray) below meth c s.heap [] 0 0 (MQ below (vp_Si (fun r => r = bI (m_X5_hasMain kd my))) (([.ref h0] : List Value).toArray) s 0 0 (fun _ => False)) (F0 m 4 ls []) := by
    intro k4
    induction k4 with
    | zero => intro i x1 h1_ h2_; exfalso; omega
    | succ k4 ih4 =>
      intro i x1 hb4 hf4  hm4 ls hl
      refine lv_iload_n hx hb dX5_hasMain_4 rfl (lv_at hl 2 rfl) ?_
      refine lv_aload_n hx hb dX5_hasMain_5 rfl (lv_at hl 0 rfl) ?_
      refine va_get (D := (dC, dI)) (ci := 6) (v := .int (nI my)) (C := RX5) (T := TX5) (N := 24) hx hb hts (by decide +kernel) hown hK hP 0 rfl rfl 7 (by decide) (hts (.fieldLink RX5 85 "PictureRowsModel" "many" "I") (by decide +kernel)) (fun _ h9 => h9) rfl dX5_hasMain_6 ?_
      refine lv_icmp_ge (tgt := 60) hx hb dX5_hasMain_9 (by decide) (fun c_1 => ?_) (fun c_1 => ?_)
      · skip
        have c_1 : my ≤ i := (nI_leI (a := my) (b := i) (by omega) (by omega)).mp c_1
        refine lv_iload_n hx hb dX5_hasMain_60 rfl (lv_at hl 1 rfl) ?_
        exact rd_zret (v := bI x1) hx hb hr hlocks (bI_nar _) (by rw [(show m_X5_hasMain kd my = x1 from hm4.trans (by simp only [m_X5_hasMain_L4, if_pos c_1]))]) dX5_hasMain_61
      · skip
        have c_1 : ¬ my ≤ i := (fun q_ => c_1 ((nI_leI (a := my) (b := i) (by omega) (by omega)).mpr q_))
        refine lv_iload_n hx hb dX5_hasMain_12 rfl (lv_at hl 1 rfl) ?_
        have j_2 : ∀ (y0_j_2 : Bool), y0_j_2 = m_X5_hasMain_j53_s0 kd i x1 → ∀ (ls : Array Slot), lv_has ls 3 [(0, .ref h0), (1, .int (bI x1)), (2, .int (nI i))] → W p l e (headSpec wsX5_hasMain ({ frames := 0, cells := 0, slots := 0, locals := 0 } : Room)).room s m (([.ref h0] : List Value).toArray) below meth c s.heap [] 0 0 (MQ below (vp_Si (fun r => r = bI (m_X5_hasMain kd my))) (([.ref h0] : List Value).toArray) s 0 0 (fun _ => False)) (F0 m 53 ls [.int (bI y0_j_2)]) := by
          intro y0_j_2 ey0_j_2 ls hl
          subst ey0_j_2
          refine lv_istore_n (lv' := [(1, .int (bI (m_X5_hasMain_j53_s0 kd i x1))), (0, .ref h0), (2, .int (nI i))]) hx hb dX5_hasMain_53 rfl hl (by decide) rfl (fun ls hl => ?_)
          refine lv_iinc (v := nI (i + 1)) (lv' := [(2, .int (nI (i + 1))), (1, .int (bI (m_X5_hasMain_j53_s0 kd i x1))), (0, .ref h0)]) hx hb dX5_hasMain_54 hl (k := 2) rfl (nI_add (i) 1) (by decide) rfl (fun ls hl => ?_)
          refine lv_goto (tgt := 4) hx hb dX5_hasMain_57 (by decide) ?_
          exact ih4 (i + 1) (m_X5_hasMain_j53_s0 kd i x1) (by omega) (by omega)  (hm4.trans (by simp only [m_X5_hasMain_L4, if_neg c_1])) ls (lv_sub hl [2, 1, 0] rfl)
        refine lv_if_ne (tgt := 48) hx hb dX5_hasMain_13 (by decide) (fun c_3 => ?_) (fun c_3 => ?_)
        · skip
          have c_3 := bI_n0 c_3
          refine lv_iconst (v := 1) hx hb dX5_hasMain_48 (by decide) ?_
          refine lv_goto (tgt := 53) hx hb dX5_hasMain_49 (by decide) ?_
          exact j_2 true (by simp only [m_X5_hasMain_j53_s0, if_neg c_3]) ls (lv_sub hl [0, 1, 2] rfl)
        · skip
          have c_3 := bI_0 c_3
          refine lv_aload_n hx hb dX5_hasMain_16 rfl (lv_at hl 0 rfl) ?_
          refine va_get (D := (dC, dI)) (ci := 6) (v := .ref a6) (C := RX5) (T := TX5) (N := 24) hx hb hts (by decide +kernel) hown hK hP 0 rfl rfl 6 (by decide) (hts (.fieldLink RX5 23 "PictureRowsModel" "kind" "[I") (by decide +kernel)) (fun _ h9 => h9) rfl dX5_hasMain_17 ?_
          refine lv_iload_n hx hb dX5_hasMain_20 rfl (lv_at hl 2 rfl) ?_
          refine rd_iald hx hb hK hP 1 0 rfl rfl (i) (by omega) (by omega) dX5_hasMain_21 ?_
          refine lv_iconst (v := 5) hx hb dX5_hasMain_22 (by decide) ?_
          refine lv_icmp_le (tgt := 37) hx hb dX5_hasMain_23 (by decide) (fun c_4 => ?_) (fun c_4 => ?_)
          · skip
            refine lv_aload_n hx hb dX5_hasMain_37 rfl (lv_at hl 0 rfl) ?_
            refine va_get (D := (dC, dI)) (ci := 6) (v := .ref a6) (C := RX5) (T := TX5) (N := 24) hx hb hts (by decide +kernel) hown hK hP 0 rfl rfl 6 (by decide) (hts (.fieldLink RX5 23 "PictureRowsModel" "kind" "[I") (by decide +kernel)) (fun _ h9 => h9) rfl dX5_hasMain_38 ?_
            refine lv_iload_n hx hb dX5_hasMain_41 rfl (lv_at hl 2 rfl) ?_
            refine rd_iald hx hb hK hP 1 0 rfl rfl (i) (by omega) (by omega) dX5_hasMain_42 ?_
            refine lv_bipush (v := 18) hx hb dX5_hasMain_43 (by decide) ?_
            refine lv_icmp_ne (tgt := 52) hx hb dX5_hasMain_45 (by decide) (fun c_5 => ?_) (fun c_5 => ?_)
            · skip
              refine lv_iconst (v := 0) hx hb dX5_hasMain_52 (by decide) ?_
              exact j_2 false (by simp only [m_X5_hasMain_j53_s0, if_pos c_3, if_pos c_4, if_neg c_5]) ls (lv_sub hl [0, 1, 2] rfl)
            · skip
              refine lv_iconst (v := 1) hx hb dX5_hasMain_48 (by decide) ?_
              refine lv_goto (tgt := 53) hx hb dX5_hasMain_49 (by decide) ?_
              exact j_2 true (by simp only [m_X5_hasMain_j53_s0, if_pos c_3, if_pos c_4, if_pos c_5]) ls (lv_sub hl [0, 1, 2] rfl)
          · skip
            refine lv_aload_n hx hb dX5_hasMain_26 rfl (lv_at hl 0 rfl) ?_
            refine va_get (D := (dC, dI)) (ci := 6) (v := .ref a6) (C := RX5) (T := TX5) (N := 24) hx hb hts (by decide +kernel) hown hK hP 0 rfl rfl 6 (by decide) (hts (.fieldLink RX5 23 "PictureRowsModel" "kind" "[I") (by decide +kernel)) (fun _ h9 => h9) rfl dX5_hasMain_27 ?_
            refine lv_iload_n hx hb dX5_hasMain_30 rfl (lv_at hl 2 rfl) ?_
            refine rd_iald hx hb hK hP 1 0 rfl rfl (i) (by omega) (by omega) dX5_hasMain_31 ?_
            refine lv_bipush (v := 14) hx hb dX5_hasMain_32 (by decide) ?_
            refine lv_icmp_lt (tgt := 48) hx hb dX5_hasMain_34 (by decide) (fun c_6 => ?_) (fun c_6 => ?_)
            · skip
              refine lv_iconst (v := 1) hx hb dX5_hasMain_48 (by decide) ?_
              refine lv_goto (tgt := 53) hx hb dX5_hasMain_49 (by decide) ?_
              exact j_2 true (by simp only [m_X5_hasMain_j53_s0, if_pos c_3, if_neg c_4, if_pos c_6]) ls (lv_sub hl [0, 1, 2] rfl)
            · skip
              refine lv_aload_n hx hb dX5_hasMain_37 rfl (lv_at hl 0 rfl) ?_
              refine va_get (D := (dC, dI)) (ci := 6) (v := .ref a6) (C := RX5) (T := TX5) (N := 24) hx hb hts (by decide +kernel) hown hK hP 0 rfl rfl 6 (by decide) (hts (.fieldLink RX5 23 "PictureRowsModel" "kind" "[I") (by decide +kernel)) (fun _ h9 => h9) rfl dX5_hasMain_38 ?_
              refine lv_iload_n hx hb dX5_hasMain_41 rfl (lv_at hl 2 rfl) ?_
              refine rd_iald hx hb hK hP 1 0 rfl rfl (i) (by omega) (by omega) dX5_hasMain_42 ?_
              refine lv_bipush (v := 18) hx hb dX5_hasMain_43 (by decide) ?_
              refine lv_icmp_ne (tgt := 52) hx hb dX5_hasMain_45 (by decide) (fun c_7 => ?_) (fun c_7 => ?_)
              · skip
                refine lv_iconst (v := 0) hx hb dX5_hasMain_52 (by decide) ?_
                exact j_2 false (by simp only [m_X5_hasMain_j53_s0, if_pos c_3, if_neg c_4, if_neg c_6, if_neg c_7]) ls (lv_sub hl [0, 1, 2] rfl)
              · skip
                refine lv_iconst (v := 1) hx hb dX5_hasMain_48 (by decide) ?_
                refine lv_goto (tgt := 53) hx hb dX5_hasMain_49 (by decide) ?_
                exact j_2 true (by simp only [m_X5_hasMain_j53_s0, if_pos c_3, if_neg c_4, if_neg c_6, if_pos c_7]) ls (lv_sub hl [0, 1, 2] rfl)
  exact lp_4 (my + 1) (0) false (by omega) (by omega)  (show m_X5_hasMain kd my = m_X5_hasMain_L4 kd my (my + 1) 0 false from by simp only [m_X5_hasMain]) ls (lv_sub hl [2, 1, 0] rfl)
def m_X5_wrong_j67_s0 (pl : Nat → Int32) (i : Nat) : Bool := if i ≤ 1 then false else (if (pl i) = (pl (i - 1)) then (if (pl i) = (pl (i - 2)) then true else false) else false)
def m_X5_wrong_j106_s0 (rd : Nat → Int32) (kd : Nat → Int32) (i : Nat) : Bool := if (m_X5_isDigitFast rd kd i) = false then false else true
def m_X5_wrong_j106_s0_2 (rd : Nat → Int32) (kd : Nat → Int32) (i : Nat) : Bool := if (m_X5_isDigitFast rd kd i) = false then false else true
def m_X5_wrong_L9 (rd : Nat → Int32) (pl : Nat → Int32) (kd : Nat → Int32) (tb : Nat → Int32) (my : Nat) (len : Nat) : Nat → Nat → Int32 → Int32 → Int32 → Int32
  | 0, _, _, _, _ => 0
  | k9 + 1, i, x1, x2, x3 => if my ≤ i then (if x3 = (-1) then (nI len) else (if (m_X5_hasMain kd my) = false then (nI len) else ((-1)))) else (if (m_X5_wrong_j67_s0 pl i) = false then (if (m_X5_isWrong rd kd tb i) = false then (if 31 < (x1 + (bI (m_X5_wrong_j106_s0_2 rd kd i))) then (pl i) else (if (x2 + (m_X5_width (rd i))) ≤ 9999 then (m_X5_wrong_L9 rd pl kd tb my len k9 (i + 1) (x1 + (bI (m_X5_wrong_j106_s0_2 rd kd i))) (x2 + (m_X5_width (rd i))) (nI i)) else (pl i))) else (pl i)) else (if 31 < (x1 + (bI (m_X5_wrong_j106_s0 rd kd i))) then (pl i) else (if (x2 + (m_X5_width (rd i))) ≤ 9999 then (m_X5_wrong_L9 rd pl kd tb my len k9 (i + 1) (x1 + (bI (m_X5_wrong_j106_s0 rd kd i))) (x2 + (m_X5_width (rd i))) (nI i)) else (pl i))))
def m_X5_wrong (rd : Nat → Int32) (pl : Nat → Int32) (kd : Nat → Int32) (tb : Nat → Int32) (my : Nat) (len : Nat) : Int32 := m_X5_wrong_L9 rd pl kd tb my len (my + 1) 0 0 0 (-1)
set_option maxHeartbeats 4000000 in
set_option maxRecDepth 100000 in
theorem c_X5_wrong (l : Launch) (dC : Nat → ClassId) (dI : Nat → Nat → Nat) (h0 : Nat) (th : Int32) (t1 : Nat) (mo : Int32) (a4 : Nat) (a5 : Nat) (a6 : Nat) (pu : Int32) (mi : Int32) (ms : Int32) (a11 : Nat) (a12 : Nat) (a13 : Nat) (la : Int32) (kp : Nat) (sh : Nat) (mf : Int32) (a18 : Nat) (a19 : Nat) (a20 : Nat) (a21 : Nat) (a22 : Nat) (a23 : Nat) (cA : ClassId) (rd : Nat → Int32) (pl : Nat → Int32) (kd : Nat → Int32) (tb : Nat → Int32) (my : Nat) (len : Nat) (hmy : my ≤ 10200) (hkd : ∀ j : Nat, j < my → vp_in (kd j) 19) : Met l yX5_wrong wsX5_wrong ({ frames := 2, cells := 0, slots := 0, locals := 47 } : Room) (va_Pc [.ref h0] (rd_P (dC, dI) vwCl [(h0, .inr (6, [.int th, .ref t1, .int (nI len), .int mo, .ref a4, .ref a5, .ref a6, .int (nI my), .int pu, .int mi, .int ms, .ref a11, .ref a12, .ref a13, .int la, .int (nI kp), .int (nI sh), .int mf, .ref a18, .ref a19, .ref a20, .ref a21, .ref a22, .ref a23])), (a4, .inl (cA, 10200, .inl rd)), (a5, .inl (cA, 10200, .inl pl)), (a6, .inl (cA, 10200, .inl kd)), (a21, .inl (cA, 19, .inl tb))] [(cA, .int)])) (vp_Si (fun r => r = m_X5_wrong rd pl kd tb my len)) 0 0 (fun _ => False) := by
  refine Met.ofW (cc := cX5_wrong) (maxL := 6) (ret := (some .int)) (by decide) rfl ?_
  intro p e s m args below meth c s₁ B hml hv
  obtain ⟨rfl, hE, hP, hK⟩ := hv
  have hx := B.exec
  have hb := B.bytes
  have hr := B.returns
  have hts := atoms_spec (ws := wsX5_wrong) B.pre
  have hown : s.vm.findClass RX5 = some m.cls := findClass_of_methodNamed B.named
  have hlocks := B.notSynchronized
  have hl := lv_entry ([.ref h0]) (n := 6) (Nat.le_of_ble_eq_true rfl)
  rw [lg_entry_eq]
  generalize (lg_sl ([.ref h0]) ++ List.replicate (6 - (lg_sl ([.ref h0])).length) Slot.unset).toArray = ls at hl ⊢
  have hl : lv_has ls 6 [(0, .ref h0)] := hl
  refine lv_iconst (v := 0) hx hb dX5_wrong_0 (by decide) ?_
  refine lv_istore_n (lv' := [(1, .int 0), (0, .ref h0)]) hx hb dX5_wrong_1 rfl hl (by decide) rfl (fun ls hl => ?_)
  refine lv_iconst (v := 0) hx hb dX5_wrong_2 (by decide) ?_
  refine lv_istore_n (lv' := [(2, .int 0), (1, .int 0), (0, .ref h0)]) hx hb dX5_wrong_3 rfl hl (by decide) rfl (fun ls hl => ?_)
  refine lv_iconst (v := (-1)) hx hb dX5_wrong_4 (by decide) ?_
  refine lv_istore_n (lv' := [(3, .int (-1)), (2, .int 0), (1, .int 0), (0, .ref h0)]) hx hb dX5_wrong_5 rfl hl (by decide) rfl (fun ls hl => ?_)
  refine lv_iconst (v := 0) hx hb dX5_wrong_6 (by decide) ?_
  refine lv_istore (lv' := [(4, .int 0), (3, .int (-1)), (2, .int 0), (1, .int 0), (0, .ref h0)]) hx hb dX5_wrong_7 hl (by decide) rfl (fun ls hl => ?_)
  have lp_9 : ∀ (k9 i : Nat) (x1 : Int32) (x2 : Int32) (x3 : Int32), i ≤ my → my + 1 ≤ i + k9 → m_X5_wrong rd pl kd tb my len = m_X5_wrong_L9 rd pl kd tb my len k9 i x1 x2 x3 → ∀ (ls : Array Slot), lv_has ls 6 [(0, .ref h0), (1, .int x1), (2, .int x2), (3, .int x3), (4, .int (nI i))] → W p l e (headSpec wsX5_wrong ({ frames := 2, cells := 0, slots := 0, locals := 47 } : Room)).room s m (([.ref h0] : List Value).toArray) below meth c s.heap [] 0 0 (MQ below (vp_Si (fun r => r = m_X5_wrong rd pl kd tb my len)) (([.ref h0] : List Value).toArray) s 0 0 (fun _ => False)) (F0 m 9 ls []) := by
    intro k9
    induction k9 with
    | zero => intro i x1 x2 x3 h1_ h2_; exfalso; omega
    | succ k9 ih9 =>
      intro i x1 x2 x3 hb9 hf9  hm9 ls hl
      refine lv_iload hx hb dX5_wrong_9 (lv_at hl 4 rfl) ?_
      refine lv_aload_n hx hb dX5_wrong_11 rfl (lv_at hl 0 rfl) ?_
      refine va_get (D := (dC, dI)) (ci := 6) (v := .int (nI my)) (C := RX5) (T := TX5) (N := 24) hx hb hts (by decide +kernel) hown hK hP 0 rfl rfl 7 (by decide) (hts (.fieldLink RX5 85 "PictureRowsModel" "many" "I") (by decide +kernel)) (fun _ h9 => h9) rfl dX5_wrong_12 ?_
      refine lv_icmp_ge (tgt := 151) hx hb dX5_wrong_15 (by decide) (fun c_1 => ?_) (fun c_1 => ?_)
      · skip
        have c_1 : my ≤ i := (nI_leI (a := my) (b := i) (by omega) (by omega)).mp c_1
        refine lv_iload_n hx hb dX5_wrong_151 rfl (lv_at hl 3 rfl) ?_
        refine lv_iconst (v := (-1)) hx hb dX5_wrong_152 (by decide) ?_
        refine lv_icmp_eq (tgt := 163) hx hb dX5_wrong_153 (by decide) (fun c_2 => ?_) (fun c_2 => ?_)
        · skip
          refine lv_aload_n hx hb dX5_wrong_163 rfl (lv_at hl 0 rfl) ?_
          refine va_get (D := (dC, dI)) (ci := 6) (v := .int (nI len)) (C := RX5) (T := TX5) (N := 24) hx hb hts (by decide +kernel) hown hK hP 0 rfl rfl 2 (by decide) (hts (.fieldLink RX5 72 "PictureRowsModel" "length" "I") (by decide +kernel)) (fun _ h9 => h9) rfl dX5_wrong_164 ?_
          refine lv_goto (tgt := 171) hx hb dX5_wrong_167 (by decide) ?_
          exact rd_iret (v := nI len) hx hb hr hlocks (show m_X5_wrong rd pl kd tb my len = nI len from hm9.trans (by simp only [m_X5_wrong_L9, if_pos c_1, if_pos c_2])).symm dX5_wrong_171
        · skip
          refine lv_aload_n hx hb dX5_wrong_156 rfl (lv_at hl 0 rfl) ?_
          refine rd_callV (As := []) (rest := []) ⟨hx, hb, hml, hown, hts⟩ hE (c_X5_hasMain l dC dI h0 th t1 len mo a4 a5 a6 pu mi ms a11 a12 a13 la kp sh mf a18 a19 a20 a21 a22 a23 cA kd my (by omega)) (cwV 0 hts gX5_wrong_X5_hasMain rfl rfl rfl (by decide +kernel) ⟨Nat.le_of_ble_eq_true rfl, Nat.le_of_ble_eq_true rfl⟩) (hP.sub (ws' := [(h0, .inr (6, [.int th, .ref t1, .int (nI len), .int mo, .ref a4, .ref a5, .ref a6, .int (nI my), .int pu, .int mi, .int ms, .ref a11, .ref a12, .ref a13, .int la, .int (nI kp), .int (nI sh), .int mf, .ref a18, .ref a19, .ref a20, .ref a21, .ref a22, .ref a23])), (a6, .inl (cA, 10200, .inl kd))]) [0, 3] rfl) (hK.sub [0] rfl) (va_recv hK hP (ci := 6) (q0 := 0) rfl rfl) rfl hl.1 rfl (Nat.le_of_ble_eq_true rfl) dX5_wrong_157 ⟨Nat.zero_le _, Nat.zero_le _⟩ (fun r9 hr9 => ?_)
          subst hr9
          refine lv_if_ne (tgt := 170) hx hb dX5_wrong_160 (by decide) (fun c_3 => ?_) (fun c_3 => ?_)
          · skip
            have c_3 := bI_n0 c_3
            refine lv_iconst (v := (-1)) hx hb dX5_wrong_170 (by decide) ?_
            exact rd_iret (v := (-1)) hx hb hr hlocks (show m_X5_wrong rd pl kd tb my len = (-1) from hm9.trans (by simp only [m_X5_wrong_L9, if_pos c_1, if_neg c_2, if_neg c_3])).symm dX5_wrong_171
          · skip
            have c_3 := bI_0 c_3
            refine lv_aload_n hx hb dX5_wrong_163 rfl (lv_at hl 0 rfl) ?_
            refine va_get (D := (dC, dI)) (ci := 6) (v := .int (nI len)) (C := RX5) (T := TX5) (N := 24) hx hb hts (by decide +kernel) hown hK hP 0 rfl rfl 2 (by decide) (hts (.fieldLink RX5 72 "PictureRowsModel" "length" "I") (by decide +kernel)) (fun _ h9 => h9) rfl dX5_wrong_164 ?_
            refine lv_goto (tgt := 171) hx hb dX5_wrong_167 (by decide) ?_
            exact rd_iret (v := nI len) hx hb hr hlocks (show m_X5_wrong rd pl kd tb my len = nI len from hm9.trans (by simp only [m_X5_wrong_L9, if_pos c_1, if_neg c_2, if_pos c_3])).symm dX5_wrong_171
      · skip
        have c_1 : ¬ my ≤ i := (fun q_ => c_1 ((nI_leI (a := my) (b := i) (by omega) (by omega)).mpr q_))
        refine lv_iload hx hb dX5_wrong_18 (lv_at hl 4 rfl) ?_
        refine lv_iconst (v := 1) hx hb dX5_wrong_20 (by decide) ?_
        have j_4 : ∀ (y0_j_4 : Bool), y0_j_4 = m_X5_wrong_j67_s0 pl i → ∀ (ls : Array Slot), lv_has ls 6 [(0, .ref h0), (1, .int x1), (2, .int x2), (3, .int x3), (4, .int (nI i))] → W p l e (headSpec wsX5_wrong ({ frames := 2, cells := 0, slots := 0, locals := 47 } : Room)).room s m (([.ref h0] : List Value).toArray) below meth c s.heap [] 0 0 (MQ below (vp_Si (fun r => r = m_X5_wrong rd pl kd tb my len)) (([.ref h0] : List Value).toArray) s 0 0 (fun _ => False)) (F0 m 67 ls [.int (bI y0_j_4)]) := by
          intro y0_j_4 ey0_j_4 ls hl
          subst ey0_j_4
          refine lv_istore (lv' := [(5, .int (bI (m_X5_wrong_j67_s0 pl i))), (0, .ref h0), (1, .int x1), (2, .int x2), (3, .int x3), (4, .int (nI i))]) hx hb dX5_wrong_67 hl (by decide) rfl (fun ls hl => ?_)
          refine lv_iload hx hb dX5_wrong_69 (lv_at hl 0 rfl) ?_
          refine lv_if_ne (tgt := 91) hx hb dX5_wrong_71 (by decide) (fun c_5 => ?_) (fun c_5 => ?_)
          · skip
            have c_5 := bI_n0 c_5
            refine lv_iload_n hx hb dX5_wrong_91 rfl (lv_at hl 2 rfl) ?_
            refine lv_aload_n hx hb dX5_wrong_92 rfl (lv_at hl 1 rfl) ?_
            refine lv_iload hx hb dX5_wrong_93 (lv_at hl 5 rfl) ?_
            refine rd_callV (As := [.int (nI i)]) (rest := [.int x1]) ⟨hx, hb, hml, hown, hts⟩ hE (c_X5_isDigitFast l dC dI h0 th t1 len mo a4 a5 a6 my pu mi ms a11 a12 a13 la kp sh mf a18 a19 a20 a21 a22 a23 cA rd kd i (by omega)) (cwV 1 hts gX5_wrong_X5_isDigitFast rfl rfl rfl (by decide +kernel) ⟨Nat.le_of_ble_eq_true rfl, Nat.le_of_ble_eq_true rfl⟩) (hP.sub (ws' := [(h0, .inr (6, [.int th, .ref t1, .int (nI len), .int mo, .ref a4, .ref a5, .ref a6, .int (nI my), .int pu, .int mi, .int ms, .ref a11, .ref a12, .ref a13, .int la, .int (nI kp), .int (nI sh), .int mf, .ref a18, .ref a19, .ref a20, .ref a21, .ref a22, .ref a23])), (a4, .inl (cA, 10200, .inl rd)), (a6, .inl (cA, 10200, .inl kd))]) [0, 1, 3] rfl) (hK.sub [0] rfl) (va_recv hK hP (ci := 6) (q0 := 0) rfl rfl) rfl hl.1 rfl (Nat.le_of_ble_eq_true rfl) dX5_wrong_95 ⟨Nat.zero_le _, Nat.zero_le _⟩ (fun r9 hr9 => ?_)
            subst hr9
            have j_6 : ∀ (y0_j_6 : Bool), y0_j_6 = m_X5_wrong_j106_s0 rd kd i → ∀ (ls : Array Slot), lv_has ls 6 [(0, .ref h0), (1, .int x1), (2, .int x2), (3, .int x3), (4, .int (nI i)), (5, .int (bI (m_X5_wrong_j67_s0 pl i)))] → W p l e (headSpec wsX5_wrong ({ frames := 2, cells := 0, slots := 0, locals := 47 } : Room)).room s m (([.ref h0] : List Value).toArray) below meth c s.heap [] 0 0 (MQ below (vp_Si (fun r => r = m_X5_wrong rd pl kd tb my len)) (([.ref h0] : List Value).toArray) s 0 0 (fun _ => False)) (F0 m 106 ls [.int (bI y0_j_6), .int x1]) := by
              intro y0_j_6 ey0_j_6 ls hl
              subst ey0_j_6
              refine lv_iadd hx hb dX5_wrong_106 ?_
              refine lv_istore_n (lv' := [(1, .int (x1 + (bI (m_X5_wrong_j106_s0 rd kd i)))), (0, .ref h0), (2, .int x2), (3, .int x3), (4, .int (nI i)), (5, .int (bI (m_X5_wrong_j67_s0 pl i)))]) hx hb dX5_wrong_107 rfl hl (by decide) rfl (fun ls hl => ?_)
              refine lv_iload_n hx hb dX5_wrong_108 rfl (lv_at hl 2 rfl) ?_
              refine lv_aload_n hx hb dX5_wrong_109 rfl (lv_at hl 1 rfl) ?_
              refine va_get (D := (dC, dI)) (ci := 6) (v := .ref a4) (C := RX5) (T := TX5) (N := 24) hx hb hts (by decide +kernel) hown hK hP 0 rfl rfl 4 (by decide) (hts (.fieldLink RX5 17 "PictureRowsModel" "read" "[I") (by decide +kernel)) (fun _ h9 => h9) rfl dX5_wrong_110 ?_
              refine lv_iload hx hb dX5_wrong_113 (lv_at hl 4 rfl) ?_
              refine rd_iald hx hb hK hP 1 0 rfl rfl (i) (by omega) (by omega) dX5_wrong_115 ?_
              refine rd_callS (As := [.int (rd i)]) (rest := [.int x2]) ⟨hx, hb, hml, hown, hts⟩ hE (c_X5_width l dC dI (rd i) ) (va_cwS 1 hts gX5_wrong_X5_width rfl rfl rfl (by decide +kernel) ⟨Nat.le_of_ble_eq_true rfl, Nat.le_of_ble_eq_true rfl⟩) (hP.sub (ws' := []) [] rfl) (hK.sub [] rfl) rfl hl.1 rfl (Nat.le_of_ble_eq_true rfl) dX5_wrong_116 ⟨Nat.zero_le _, Nat.zero_le _⟩ (fun r9 hr9 => ?_)
              subst hr9
              refine lv_iadd hx hb dX5_wrong_119 ?_
              refine lv_istore_n (lv' := [(2, .int (x2 + (m_X5_width (rd i)))), (1, .int (x1 + (bI (m_X5_wrong_j106_s0 rd kd i)))), (0, .ref h0), (3, .int x3), (4, .int (nI i)), (5, .int (bI (m_X5_wrong_j67_s0 pl i)))]) hx hb dX5_wrong_120 rfl hl (by decide) rfl (fun ls hl => ?_)
              refine lv_iload_n hx hb dX5_wrong_121 rfl (lv_at hl 1 rfl) ?_
              refine lv_bipush (v := 31) hx hb dX5_wrong_122 (by decide) ?_
              refine lv_icmp_gt (tgt := 134) hx hb dX5_wrong_124 (by decide) (fun c_7 => ?_) (fun c_7 => ?_)
              · skip
                refine lv_aload_n hx hb dX5_wrong_134 rfl (lv_at hl 2 rfl) ?_
                refine va_get (D := (dC, dI)) (ci := 6) (v := .ref a5) (C := RX5) (T := TX5) (N := 24) hx hb hts (by decide +kernel) hown hK hP 0 rfl rfl 5 (by decide) (hts (.fieldLink RX5 20 "PictureRowsModel" "place" "[I") (by decide +kernel)) (fun _ h9 => h9) rfl dX5_wrong_135 ?_
                refine lv_iload hx hb dX5_wrong_138 (lv_at hl 4 rfl) ?_
                refine rd_iald hx hb hK hP 2 0 rfl rfl (i) (by omega) (by omega) dX5_wrong_140 ?_
                exact rd_iret (v := pl i) hx hb hr hlocks (show m_X5_wrong rd pl kd tb my len = pl i from hm9.trans (by simp only [m_X5_wrong_L9, if_neg c_1, if_neg c_5, if_pos c_7])).symm dX5_wrong_141
              · skip
                refine lv_iload_n hx hb dX5_wrong_127 rfl (lv_at hl 0 rfl) ?_
                refine lv_sipush (v := 9999) hx hb dX5_wrong_128 (by decide) ?_
                refine lv_icmp_le (tgt := 142) hx hb dX5_wrong_131 (by decide) (fun c_8 => ?_) (fun c_8 => ?_)
                · skip
                  refine lv_iload hx hb dX5_wrong_142 (lv_at hl 4 rfl) ?_
                  refine lv_istore_n (lv' := [(3, .int (nI i)), (2, .int (x2 + (m_X5_width (rd i)))), (1, .int (x1 + (bI (m_X5_wrong_j106_s0 rd kd i)))), (0, .ref h0), (4, .int (nI i)), (5, .int (bI (m_X5_wrong_j67_s0 pl i)))]) hx hb dX5_wrong_144 rfl hl (by decide) rfl (fun ls hl => ?_)
                  refine lv_iinc (v := nI (i + 1)) (lv' := [(4, .int (nI (i + 1))), (3, .int (nI i)), (2, .int (x2 + (m_X5_width (rd i)))), (1, .int (x1 + (bI (m_X5_wrong_j106_s0 rd kd i)))), (0, .ref h0), (5, .int (bI (m_X5_wrong_j67_s0 pl i)))]) hx hb dX5_wrong_145 hl (k := 4) rfl (nI_add (i) 1) (by decide) rfl (fun ls hl => ?_)
                  refine lv_goto (tgt := 9) hx hb dX5_wrong_148 (by decide) ?_
                  exact ih9 (i + 1) (x1 + (bI (m_X5_wrong_j106_s0 rd kd i))) (x2 + (m_X5_width (rd i))) (nI i) (by omega) (by omega)  (hm9.trans (by simp only [m_X5_wrong_L9, if_neg c_1, if_neg c_5, if_neg c_7, if_pos c_8])) ls (lv_sub hl [4, 3, 2, 1, 0] rfl)
                · skip
                  refine lv_aload_n hx hb dX5_wrong_134 rfl (lv_at hl 2 rfl) ?_
                  refine va_get (D := (dC, dI)) (ci := 6) (v := .ref a5) (C := RX5) (T := TX5) (N := 24) hx hb hts (by decide +kernel) hown hK hP 0 rfl rfl 5 (by decide) (hts (.fieldLink RX5 20 "PictureRowsModel" "place" "[I") (by decide +kernel)) (fun _ h9 => h9) rfl dX5_wrong_135 ?_
                  refine lv_iload hx hb dX5_wrong_138 (lv_at hl 4 rfl) ?_
                  refine rd_iald hx hb hK hP 2 0 rfl rfl (i) (by omega) (by omega) dX5_wrong_140 ?_
                  exact rd_iret (v := pl i) hx hb hr hlocks (show m_X5_wrong rd pl kd tb my len = pl i from hm9.trans (by simp only [m_X5_wrong_L9, if_neg c_1, if_neg c_5, if_neg c_7, if_neg c_8])).symm dX5_wrong_141
            refine lv_if_eq (tgt := 105) hx hb dX5_wrong_98 (by decide) (fun c_9 => ?_) (fun c_9 => ?_)
            · skip
              have c_9 := bI_0 c_9
              refine lv_iconst (v := 0) hx hb dX5_wrong_105 (by decide) ?_
              exact j_6 false (by simp only [m_X5_wrong_j106_s0, if_pos c_9]) ls (lv_sub hl [1, 2, 3, 4, 5, 0] rfl)
            · skip
              have c_9 := bI_n0 c_9
              refine lv_iconst (v := 1) hx hb dX5_wrong_101 (by decide) ?_
              refine lv_goto (tgt := 106) hx hb dX5_wrong_102 (by decide) ?_
              exact j_6 true (by simp only [m_X5_wrong_j106_s0, if_neg c_9]) ls (lv_sub hl [1, 2, 3, 4, 5, 0] rfl)
          · skip
            have c_5 := bI_0 c_5
            refine lv_aload_n hx hb dX5_wrong_74 rfl (lv_at hl 1 rfl) ?_
            refine lv_iload hx hb dX5_wrong_75 (lv_at hl 5 rfl) ?_
            refine rd_callV (As := [.int (nI i)]) (rest := []) ⟨hx, hb, hml, hown, hts⟩ hE (c_X5_isWrong l dC dI h0 th t1 len mo a4 a5 a6 my pu mi ms a11 a12 a13 la kp sh mf a18 a19 a20 a21 a22 a23 cA rd kd tb i (by omega) (by exact fun j_ hj_ => hkd j_ (by omega))) (cwV 1 hts gX5_wrong_X5_isWrong rfl rfl rfl (by decide +kernel) ⟨Nat.le_of_ble_eq_true rfl, Nat.le_of_ble_eq_true rfl⟩) (hP.sub (ws' := [(h0, .inr (6, [.int th, .ref t1, .int (nI len), .int mo, .ref a4, .ref a5, .ref a6, .int (nI my), .int pu, .int mi, .int ms, .ref a11, .ref a12, .ref a13, .int la, .int (nI kp), .int (nI sh), .int mf, .ref a18, .ref a19, .ref a20, .ref a21, .ref a22, .ref a23])), (a4, .inl (cA, 10200, .inl rd)), (a6, .inl (cA, 10200, .inl kd)), (a21, .inl (cA, 19, .inl tb))]) [0, 1, 3, 4] rfl) (hK.sub [0] rfl) (va_recv hK hP (ci := 6) (q0 := 0) rfl rfl) rfl hl.1 rfl (Nat.le_of_ble_eq_true rfl) dX5_wrong_77 ⟨Nat.zero_le _, Nat.zero_le _⟩ (fun r9 hr9 => ?_)
            subst hr9
            refine lv_if_eq (tgt := 91) hx hb dX5_wrong_80 (by decide) (fun c_10 => ?_) (fun c_10 => ?_)
            · skip
              have c_10 := bI_0 c_10
              refine lv_iload_n hx hb dX5_wrong_91 rfl (lv_at hl 2 rfl) ?_
              refine lv_aload_n hx hb dX5_wrong_92 rfl (lv_at hl 1 rfl) ?_
              refine lv_iload hx hb dX5_wrong_93 (lv_at hl 5 rfl) ?_
              refine rd_callV (As := [.int (nI i)]) (rest := [.int x1]) ⟨hx, hb, hml, hown, hts⟩ hE (c_X5_isDigitFast l dC dI h0 th t1 len mo a4 a5 a6 my pu mi ms a11 a12 a13 la kp sh mf a18 a19 a20 a21 a22 a23 cA rd kd i (by omega)) (cwV 1 hts gX5_wrong_X5_isDigitFast rfl rfl rfl (by decide +kernel) ⟨Nat.le_of_ble_eq_true rfl, Nat.le_of_ble_eq_true rfl⟩) (hP.sub (ws' := [(h0, .inr (6, [.int th, .ref t1, .int (nI len), .int mo, .ref a4, .ref a5, .ref a6, .int (nI my), .int pu, .int mi, .int ms, .ref a11, .ref a12, .ref a13, .int la, .int (nI kp), .int (nI sh), .int mf, .ref a18, .ref a19, .ref a20, .ref a21, .ref a22, .ref a23])), (a4, .inl (cA, 10200, .inl rd)), (a6, .inl (cA, 10200, .inl kd))]) [0, 1, 3] rfl) (hK.sub [0] rfl) (va_recv hK hP (ci := 6) (q0 := 0) rfl rfl) rfl hl.1 rfl (Nat.le_of_ble_eq_true rfl) dX5_wrong_95 ⟨Nat.zero_le _, Nat.zero_le _⟩ (fun r9 hr9 => ?_)
              subst hr9
              have j_11 : ∀ (y0_j_11 : Bool), y0_j_11 = m_X5_wrong_j106_s0_2 rd kd i → ∀ (ls : Array Slot), lv_has ls 6 [(0, .ref h0), (1, .int x1), (2, .int x2), (3, .int x3), (4, .int (nI i)), (5, .int (bI (m_X5_wrong_j67_s0 pl i)))] → W p l e (headSpec wsX5_wrong ({ frames := 2, cells := 0, slots := 0, locals := 47 } : Room)).room s m (([.ref h0] : List Value).toArray) below meth c s.heap [] 0 0 (MQ below (vp_Si (fun r => r = m_X5_wrong rd pl kd tb my len)) (([.ref h0] : List Value).toArray) s 0 0 (fun _ => False)) (F0 m 106 ls [.int (bI y0_j_11), .int x1]) := by
                intro y0_j_11 ey0_j_11 ls hl
                subst ey0_j_11
                refine lv_iadd hx hb dX5_wrong_106 ?_
                refine lv_istore_n (lv' := [(1, .int (x1 + (bI (m_X5_wrong_j106_s0_2 rd kd i)))), (0, .ref h0), (2, .int x2), (3, .int x3), (4, .int (nI i)), (5, .int (bI (m_X5_wrong_j67_s0 pl i)))]) hx hb dX5_wrong_107 rfl hl (by decide) rfl (fun ls hl => ?_)
                refine lv_iload_n hx hb dX5_wrong_108 rfl (lv_at hl 2 rfl) ?_
                refine lv_aload_n hx hb dX5_wrong_109 rfl (lv_at hl 1 rfl) ?_
                refine va_get (D := (dC, dI)) (ci := 6) (v := .ref a4) (C := RX5) (T := TX5) (N := 24) hx hb hts (by decide +kernel) hown hK hP 0 rfl rfl 4 (by decide) (hts (.fieldLink RX5 17 "PictureRowsModel" "read" "[I") (by decide +kernel)) (fun _ h9 => h9) rfl dX5_wrong_110 ?_
                refine lv_iload hx hb dX5_wrong_113 (lv_at hl 4 rfl) ?_
                refine rd_iald hx hb hK hP 1 0 rfl rfl (i) (by omega) (by omega) dX5_wrong_115 ?_
                refine rd_callS (As := [.int (rd i)]) (rest := [.int x2]) ⟨hx, hb, hml, hown, hts⟩ hE (c_X5_width l dC dI (rd i) ) (va_cwS 1 hts gX5_wrong_X5_width rfl rfl rfl (by decide +kernel) ⟨Nat.le_of_ble_eq_true rfl, Nat.le_of_ble_eq_true rfl⟩) (hP.sub (ws' := []) [] rfl) (hK.sub [] rfl) rfl hl.1 rfl (Nat.le_of_ble_eq_true rfl) dX5_wrong_116 ⟨Nat.zero_le _, Nat.zero_le _⟩ (fun r9 hr9 => ?_)
                subst hr9
                refine lv_iadd hx hb dX5_wrong_119 ?_
                refine lv_istore_n (lv' := [(2, .int (x2 + (m_X5_width (rd i)))), (1, .int (x1 + (bI (m_X5_wrong_j106_s0_2 rd kd i)))), (0, .ref h0), (3, .int x3), (4, .int (nI i)), (5, .int (bI (m_X5_wrong_j67_s0 pl i)))]) hx hb dX5_wrong_120 rfl hl (by decide) rfl (fun ls hl => ?_)
                refine lv_iload_n hx hb dX5_wrong_121 rfl (lv_at hl 1 rfl) ?_
                refine lv_bipush (v := 31) hx hb dX5_wrong_122 (by decide) ?_
                refine lv_icmp_gt (tgt := 134) hx hb dX5_wrong_124 (by decide) (fun c_12 => ?_) (fun c_12 => ?_)
                · skip
                  refine lv_aload_n hx hb dX5_wrong_134 rfl (lv_at hl 2 rfl) ?_
                  refine va_get (D := (dC, dI)) (ci := 6) (v := .ref a5) (C := RX5) (T := TX5) (N := 24) hx hb hts (by decide +kernel) hown hK hP 0 rfl rfl 5 (by decide) (hts (.fieldLink RX5 20 "PictureRowsModel" "place" "[I") (by decide +kernel)) (fun _ h9 => h9) rfl dX5_wrong_135 ?_
                  refine lv_iload hx hb dX5_wrong_138 (lv_at hl 4 rfl) ?_
                  refine rd_iald hx hb hK hP 2 0 rfl rfl (i) (by omega) (by omega) dX5_wrong_140 ?_
                  exact rd_iret (v := pl i) hx hb hr hlocks (show m_X5_wrong rd pl kd tb my len = pl i from hm9.trans (by simp only [m_X5_wrong_L9, if_neg c_1, if_pos c_5, if_pos c_10, if_pos c_12])).symm dX5_wrong_141
                · skip
                  refine lv_iload_n hx hb dX5_wrong_127 rfl (lv_at hl 0 rfl) ?_
                  refine lv_sipush (v := 9999) hx hb dX5_wrong_128 (by decide) ?_
                  refine lv_icmp_le (tgt := 142) hx hb dX5_wrong_131 (by decide) (fun c_13 => ?_) (fun c_13 => ?_)
                  · skip
                    refine lv_iload hx hb dX5_wrong_142 (lv_at hl 4 rfl) ?_
                    refine lv_istore_n (lv' := [(3, .int (nI i)), (2, .int (x2 + (m_X5_width (rd i)))), (1, .int (x1 + (bI (m_X5_wrong_j106_s0_2 rd kd i)))), (0, .ref h0), (4, .int (nI i)), (5, .int (bI (m_X5_wrong_j67_s0 pl i)))]) hx hb dX5_wrong_144 rfl hl (by decide) rfl (fun ls hl => ?_)
                    refine lv_iinc (v := nI (i + 1)) (lv' := [(4, .int (nI (i + 1))), (3, .int (nI i)), (2, .int (x2 + (m_X5_width (rd i)))), (1, .int (x1 + (bI (m_X5_wrong_j106_s0_2 rd kd i)))), (0, .ref h0), (5, .int (bI (m_X5_wrong_j67_s0 pl i)))]) hx hb dX5_wrong_145 hl (k := 4) rfl (nI_add (i) 1) (by decide) rfl (fun ls hl => ?_)
                    refine lv_goto (tgt := 9) hx hb dX5_wrong_148 (by decide) ?_
                    exact ih9 (i + 1) (x1 + (bI (m_X5_wrong_j106_s0_2 rd kd i))) (x2 + (m_X5_width (rd i))) (nI i) (by omega) (by omega)  (hm9.trans (by simp only [m_X5_wrong_L9, if_neg c_1, if_pos c_5, if_pos c_10, if_neg c_12, if_pos c_13])) ls (lv_sub hl [4, 3, 2, 1, 0] rfl)
                  · skip
                    refine lv_aload_n hx hb dX5_wrong_134 rfl (lv_at hl 2 rfl) ?_
                    refine va_get (D := (dC, dI)) (ci := 6) (v := .ref a5) (C := RX5) (T := TX5) (N := 24) hx hb hts (by decide +kernel) hown hK hP 0 rfl rfl 5 (by decide) (hts (.fieldLink RX5 20 "PictureRowsModel" "place" "[I") (by decide +kernel)) (fun _ h9 => h9) rfl dX5_wrong_135 ?_
                    refine lv_iload hx hb dX5_wrong_138 (lv_at hl 4 rfl) ?_
                    refine rd_iald hx hb hK hP 2 0 rfl rfl (i) (by omega) (by omega) dX5_wrong_140 ?_
                    exact rd_iret (v := pl i) hx hb hr hlocks (show m_X5_wrong rd pl kd tb my len = pl i from hm9.trans (by simp only [m_X5_wrong_L9, if_neg c_1, if_pos c_5, if_pos c_10, if_neg c_12, if_neg c_13])).symm dX5_wrong_141
              refine lv_if_eq (tgt := 105) hx hb dX5_wrong_98 (by decide) (fun c_14 => ?_) (fun c_14 => ?_)
              · skip
                have c_14 := bI_0 c_14
                refine lv_iconst (v := 0) hx hb dX5_wrong_105 (by decide) ?_
                exact j_11 false (by simp only [m_X5_wrong_j106_s0_2, if_pos c_14]) ls (lv_sub hl [1, 2, 3, 4, 5, 0] rfl)
              · skip
                have c_14 := bI_n0 c_14
                refine lv_iconst (v := 1) hx hb dX5_wrong_101 (by decide) ?_
                refine lv_goto (tgt := 106) hx hb dX5_wrong_102 (by decide) ?_
                exact j_11 true (by simp only [m_X5_wrong_j106_s0_2, if_neg c_14]) ls (lv_sub hl [1, 2, 3, 4, 5, 0] rfl)
            · skip
              have c_10 := bI_n0 c_10
              refine lv_aload_n hx hb dX5_wrong_83 rfl (lv_at hl 1 rfl) ?_
              refine va_get (D := (dC, dI)) (ci := 6) (v := .ref a5) (C := RX5) (T := TX5) (N := 24) hx hb hts (by decide +kernel) hown hK hP 0 rfl rfl 5 (by decide) (hts (.fieldLink RX5 20 "PictureRowsModel" "place" "[I") (by decide +kernel)) (fun _ h9 => h9) rfl dX5_wrong_84 ?_
              refine lv_iload hx hb dX5_wrong_87 (lv_at hl 5 rfl) ?_
              refine rd_iald hx hb hK hP 2 0 rfl rfl (i) (by omega) (by omega) dX5_wrong_89 ?_
              exact rd_iret (v := pl i) hx hb hr hlocks (show m_X5_wrong rd pl kd tb my len = pl i from hm9.trans (by simp only [m_X5_wrong_L9, if_neg c_1, if_pos c_5, if_neg c_10])).symm dX5_wrong_90
        refine lv_icmp_le (tgt := 66) hx hb dX5_wrong_21 (by decide) (fun c_15 => ?_) (fun c_15 => ?_)
        · skip
          have c_15 : i ≤ 1 := (nI_leI (a := i) (b := 1) (by omega) (by omega)).mp c_15
          refine lv_iconst (v := 0) hx hb dX5_wrong_66 (by decide) ?_
          exact j_4 false (by simp only [m_X5_wrong_j67_s0, if_pos c_15]) ls (lv_sub hl [0, 1, 2, 3, 4] rfl)
        · skip
          have c_15 : ¬ i ≤ 1 := (fun q_ => c_15 ((nI_leI (a := i) (b := 1) (by omega) (by omega)).mpr q_))
          refine lv_aload_n hx hb dX5_wrong_24 rfl (lv_at hl 0 rfl) ?_
          refine va_get (D := (dC, dI)) (ci := 6) (v := .ref a5) (C := RX5) (T := TX5) (N := 24) hx hb hts (by decide +kernel) hown hK hP 0 rfl rfl 5 (by decide) (hts (.fieldLink RX5 20 "PictureRowsModel" "place" "[I") (by decide +kernel)) (fun _ h9 => h9) rfl dX5_wrong_25 ?_
          refine lv_iload hx hb dX5_wrong_28 (lv_at hl 4 rfl) ?_
          refine rd_iald hx hb hK hP 2 0 rfl rfl (i) (by omega) (by omega) dX5_wrong_30 ?_
          refine lv_aload_n hx hb dX5_wrong_31 rfl (lv_at hl 0 rfl) ?_
          refine va_get (D := (dC, dI)) (ci := 6) (v := .ref a5) (C := RX5) (T := TX5) (N := 24) hx hb hts (by decide +kernel) hown hK hP 0 rfl rfl 5 (by decide) (hts (.fieldLink RX5 20 "PictureRowsModel" "place" "[I") (by decide +kernel)) (fun _ h9 => h9) rfl dX5_wrong_32 ?_
          refine lv_iload hx hb dX5_wrong_35 (lv_at hl 4 rfl) ?_
          refine lv_iconst (v := 1) hx hb dX5_wrong_37 (by decide) ?_
          refine rd_isub hx hb (i) (1) (by omega) dX5_wrong_38 ?_
          refine rd_iald hx hb hK hP 2 0 rfl rfl (i - 1) (by omega) (by omega) dX5_wrong_39 ?_
          refine lv_icmp_ne (tgt := 66) hx hb dX5_wrong_40 (by decide) (fun c_16 => ?_) (fun c_16 => ?_)
          · skip
            refine lv_iconst (v := 0) hx hb dX5_wrong_66 (by decide) ?_
            exact j_4 false (by simp only [m_X5_wrong_j67_s0, if_neg c_15, if_neg c_16]) ls (lv_sub hl [0, 1, 2, 3, 4] rfl)
          · skip
            refine lv_aload_n hx hb dX5_wrong_43 rfl (lv_at hl 0 rfl) ?_
            refine va_get (D := (dC, dI)) (ci := 6) (v := .ref a5) (C := RX5) (T := TX5) (N := 24) hx hb hts (by decide +kernel) hown hK hP 0 rfl rfl 5 (by decide) (hts (.fieldLink RX5 20 "PictureRowsModel" "place" "[I") (by decide +kernel)) (fun _ h9 => h9) rfl dX5_wrong_44 ?_
            refine lv_iload hx hb dX5_wrong_47 (lv_at hl 4 rfl) ?_
            refine rd_iald hx hb hK hP 2 0 rfl rfl (i) (by omega) (by omega) dX5_wrong_49 ?_
            refine lv_aload_n hx hb dX5_wrong_50 rfl (lv_at hl 0 rfl) ?_
            refine va_get (D := (dC, dI)) (ci := 6) (v := .ref a5) (C := RX5) (T := TX5) (N := 24) hx hb hts (by decide +kernel) hown hK hP 0 rfl rfl 5 (by decide) (hts (.fieldLink RX5 20 "PictureRowsModel" "place" "[I") (by decide +kernel)) (fun _ h9 => h9) rfl dX5_wrong_51 ?_
            refine lv_iload hx hb dX5_wrong_54 (lv_at hl 4 rfl) ?_
            refine lv_iconst (v := 2) hx hb dX5_wrong_56 (by decide) ?_
            refine rd_isub hx hb (i) (2) (by omega) dX5_wrong_57 ?_
            refine rd_iald hx hb hK hP 2 0 rfl rfl (i - 2) (by omega) (by omega) dX5_wrong_58 ?_
            refine lv_icmp_ne (tgt := 66) hx hb dX5_wrong_59 (by decide) (fun c_17 => ?_) (fun c_17 => ?_)
            · skip
              refine lv_iconst (v := 0) hx hb dX5_wrong_66 (by decide) ?_
              exact j_4 false (by simp only [m_X5_wrong_j67_s0, if_neg c_15, if_pos c_16, if_neg c_17]) ls (lv_sub hl [0, 1, 2, 3, 4] rfl)
            · skip
              refine lv_iconst (v := 1) hx hb dX5_wrong_62 (by decide) ?_
              refine lv_goto (tgt := 67) hx hb dX5_wrong_63 (by decide) ?_
              exact j_4 true (by simp only [m_X5_wrong_j67_s0, if_neg c_15, if_pos c_16, if_pos c_17]) ls (lv_sub hl [0, 1, 2, 3, 4] rfl)
  exact lp_9 (my + 1) (0) 0 0 (-1) (by omega) (by omega)  (show m_X5_wrong rd pl kd tb my len = m_X5_wrong_L9 rd pl kd tb my len (my + 1) 0 0 0 (-1) from by simp only [m_X5_wrong]) ls (lv_sub hl [4, 3, 2, 1, 0] rfl)
def m_X5_ofKind_j28_s0 (kn : Nat → Int32) (t : Int32) (i : Nat) : Bool := if (kn i) = t then true else false
def m_X5_ofKind_L4 (kn : Nat → Int32) (la : Nat) (t : Int32) : Nat → Nat → Int32 → Int32
  | 0, _, _ => 0
  | k4 + 1, i, x2 => if la ≤ i then x2 else (m_X5_ofKind_L4 kn la t k4 (i + 1) (x2 + (bI (m_X5_ofKind_j28_s0 kn t i))))
def m_X5_ofKind (kn : Nat → Int32) (la : Nat) (t : Int32) : Int32 := m_X5_ofKind_L4 kn la t (la + 1) 0 0
set_option maxHeartbeats 4000000 in
set_option maxRecDepth 100000 in
theorem c_X5_ofKind (l : Launch) (dC : Nat → ClassId) (dI : Nat → Nat → Nat) (h0 : Nat) (th : Int32) (t1 : Nat) (len : Nat) (mo : Int32) (a4 : Nat) (a5 : Nat) (a6 : Nat) (my : Nat) (pu : Int32) (mi : Int32) (ms : Int32) (a11 : Nat) (a12 : Nat) (a13 : Nat) (kp : Nat) (sh : Nat) (mf : Int32) (a18 : Nat) (a19 : Nat) (a20 : Nat) (a21 : Nat) (a22 : Nat) (a23 : Nat) (cA : ClassId) (kn : Nat → Int32) (la : Nat) (t : Int32) (hla : la ≤ 10200) : Met l yX5_ofKind wsX5_ofKind ({ frames := 0, cells := 0, slots := 0, locals := 0 } : Room) (va_Pc [.ref h0, .int t] (rd_P (dC, dI) vwCl [(h0, .inr (6, [.int th, .ref t1, .int (nI len), .int mo, .ref a4, .ref a5, .ref a6, .int (nI my), .int pu, .int mi, .int ms, .ref a11, .ref a12, .ref a13, .int (nI la), .int (nI kp), .int (nI sh), .int mf, .ref a18, .ref a19, .ref a20, .ref a21, .ref a22, .ref a23])), (a12, .inl (cA, 10200, .inl kn))] [(cA, .int)])) (vp_Si (fun r => r = m_X5_ofKind kn la t)) 0 0 (fun _ => False) := by
  refine Met.ofW (cc := cX5_ofKind) (maxL := 4) (ret := (some .int)) (by decide) rfl ?_
  intro p e s m args below meth c s₁ B hml hv
  obtain ⟨rfl, hE, hP, hK⟩ := hv
  have hx := B.exec
  have hb := B.bytes
  have hr := B.returns
  have hts := atoms_spec (ws := wsX5_ofKind) B.pre
  have hown : s.vm.findClass RX5 = some m.cls := findClass_of_methodNamed B.named
  have hlocks := B.notSynchronized
  have hl := lv_entry ([.ref h0, .int t]) (n := 4) (Nat.le_of_ble_eq_true rfl)
  rw [lg_entry_eq]
  generalize (lg_sl ([.ref h0, .int t]) ++ List.replicate (4 - (lg_sl ([.ref h0, .int t])).length) Slot.unset).toArray = ls at hl ⊢
  have hl : lv_has ls 4 [(0, .ref h0), (1, .int t)] := hl
  refine lv_iconst (v := 0) hx hb dX5_ofKind_0 (by decide) ?_
  refine lv_istore_n (lv' := [(2, .int 0), (0, .ref h0), (1, .int t)]) hx hb dX5_ofKind_1 rfl hl (by decide) rfl (fun ls hl => ?_)
  refine lv_iconst (v := 0) hx hb dX5_ofKind_2 (by decide) ?_
  refine lv_istore_n (lv' := [(3, .int 0), (2, .int 0), (0, .ref h0), (1, .int t)]) hx hb dX5_ofKind_3 rfl hl (by decide) rfl (fun ls hl => ?_)
  have lp_4 : ∀ (k4 i : Nat) (x2 : Int32), i ≤ la → la + 1 ≤ i + k4 → m_X5_ofKind kn la t = m_X5_ofKind_L4 kn la t k4 i x2 → ∀ (ls : Array Slot), lv_has ls 4 [(0, .ref h0), (1, .int t), (2, .int x2), (3, .int (nI i))] → W p l e (headSpec wsX5_ofKind ({ frames := 0, cells := 0, slots := 0, locals := 0 } : Room)).room s m (([.ref h0, .int t] : List Value).toArray) below meth c s.heap [] 0 0 (MQ below (vp_Si (fun r => r = m_X5_ofKind kn la t)) (([.ref h0, .int t] : List Value).toArray) s 0 0 (fun _ => False)) (F0 m 4 ls []) := by
    intro k4
    induction k4 with
    | zero => intro i x2 h1_ h2_; exfalso; omega
    | succ k4 ih4 =>
      intro i x2 hb4 hf4  hm4 ls hl
      refine lv_iload_n hx hb dX5_ofKind_4 rfl (lv_at hl 3 rfl) ?_
      refine lv_aload_n hx hb dX5_ofKind_5 rfl (lv_at hl 0 rfl) ?_
      refine va_get (D := (dC, dI)) (ci := 6) (v := .int (nI la)) (C := RX5) (T := TX5) (N := 24) hx hb hts (by decide +kernel) hown hK hP 0 rfl rfl 14 (by decide) (hts (.fieldLink RX5 35 "PictureRowsModel" "latest" "I") (by decide +kernel)) (fun _ h9 => h9) rfl dX5_ofKind_6 ?_
      refine lv_icmp_ge (tgt := 36) hx hb dX5_ofKind_9 (by decide) (fun c_1 => ?_) (fun c_1 => ?_)
      · skip
        have c_1 : la ≤ i := (nI_leI (a := la) (b := i) (by omega) (by omega)).mp c_1
        refine lv_iload_n hx hb dX5_ofKind_36 rfl (lv_at hl 2 rfl) ?_
        exact rd_iret (v := x2) hx hb hr hlocks (show m_X5_ofKind kn la t = x2 from hm4.trans (by simp only [m_X5_ofKind_L4, if_pos c_1])).symm dX5_ofKind_37
      · skip
        have c_1 : ¬ la ≤ i := (fun q_ => c_1 ((nI_leI (a := la) (b := i) (by omega) (by omega)).mpr q_))
        refine lv_iload_n hx hb dX5_ofKind_12 rfl (lv_at hl 2 rfl) ?_
        refine lv_aload_n hx hb dX5_ofKind_13 rfl (lv_at hl 0 rfl) ?_
        refine va_get (D := (dC, dI)) (ci := 6) (v := .ref a12) (C := RX5) (T := TX5) (N := 24) hx hb hts (by decide +kernel) hown hK hP 0 rfl rfl 12 (by decide) (hts (.fieldLink RX5 29 "PictureRowsModel" "kinds" "[I") (by decide +kernel)) (fun _ h9 => h9) rfl dX5_ofKind_14 ?_
        refine lv_iload_n hx hb dX5_ofKind_17 rfl (lv_at hl 3 rfl) ?_
        refine rd_iald hx hb hK hP 1 0 rfl rfl (i) (by omega) (by omega) dX5_ofKind_18 ?_
        refine lv_iload_n hx hb dX5_ofKind_19 rfl (lv_at hl 1 rfl) ?_
        have j_2 : ∀ (y0_j_2 : Bool), y0_j_2 = m_X5_ofKind_j28_s0 kn t i → ∀ (ls : Array Slot), lv_has ls 4 [(0, .ref h0), (1, .int t), (2, .int x2), (3, .int (nI i))] → W p l e (headSpec wsX5_ofKind ({ frames := 0, cells := 0, slots := 0, locals := 0 } : Room)).room s m (([.ref h0, .int t] : List Value).toArray) below meth c s.heap [] 0 0 (MQ below (vp_Si (fun r => r = m_X5_ofKind kn la t)) (([.ref h0, .int t] : List Value).toArray) s 0 0 (fun _ => False)) (F0 m 28 ls [.int (bI y0_j_2), .int x2]) := by
          intro y0_j_2 ey0_j_2 ls hl
          subst ey0_j_2
          refine lv_iadd hx hb dX5_ofKind_28 ?_
          refine lv_istore_n (lv' := [(2, .int (x2 + (bI (m_X5_ofKind_j28_s0 kn t i)))), (0, .ref h0), (1, .int t), (3, .int (nI i))]) hx hb dX5_ofKind_29 rfl hl (by decide) rfl (fun ls hl => ?_)
          refine lv_iinc (v := nI (i + 1)) (lv' := [(3, .int (nI (i + 1))), (2, .int (x2 + (bI (m_X5_ofKind_j28_s0 kn t i)))), (0, .ref h0), (1, .int t)]) hx hb dX5_ofKind_30 hl (k := 3) rfl (nI_add (i) 1) (by decide) rfl (fun ls hl => ?_)
          refine lv_goto (tgt := 4) hx hb dX5_ofKind_33 (by decide) ?_
          exact ih4 (i + 1) (x2 + (bI (m_X5_ofKind_j28_s0 kn t i))) (by omega) (by omega)  (hm4.trans (by simp only [m_X5_ofKind_L4, if_neg c_1])) ls (lv_sub hl [2, 3, 1, 0] rfl)
        refine lv_icmp_ne (tgt := 27) hx hb dX5_ofKind_20 (by decide) (fun c_3 => ?_) (fun c_3 => ?_)
        · skip
          refine lv_iconst (v := 0) hx hb dX5_ofKind_27 (by decide) ?_
          exact j_2 false (by simp only [m_X5_ofKind_j28_s0, if_neg c_3]) ls (lv_sub hl [0, 1, 2, 3] rfl)
        · skip
          refine lv_iconst (v := 1) hx hb dX5_ofKind_23 (by decide) ?_
          refine lv_goto (tgt := 28) hx hb dX5_ofKind_24 (by decide) ?_
          exact j_2 true (by simp only [m_X5_ofKind_j28_s0, if_pos c_3]) ls (lv_sub hl [0, 1, 2, 3] rfl)
  exact lp_4 (la + 1) (0) 0 (by omega) (by omega)  (show m_X5_ofKind kn la t = m_X5_ofKind_L4 kn la t (la + 1) 0 0 from by simp only [m_X5_ofKind]) ls (lv_sub hl [2, 3, 1, 0] rfl)
def m_X5_ofSign_j28_s0 (sn : Nat → Int32) (sg : Int32) (i : Nat) : Bool := if (sn i) = sg then true else false
def m_X5_ofSign_L4 (sn : Nat → Int32) (la : Nat) (sg : Int32) : Nat → Nat → Int32 → Int32
  | 0, _, _ => 0
  | k4 + 1, i, x2 => if la ≤ i then x2 else (m_X5_ofSign_L4 sn la sg k4 (i + 1) (x2 + (bI (m_X5_ofSign_j28_s0 sn sg i))))
def m_X5_ofSign (sn : Nat → Int32) (la : Nat) (sg : Int32) : Int32 := m_X5_ofSign_L4 sn la sg (la + 1) 0 0
set_option maxHeartbeats 4000000 in
set_option maxRecDepth 100000 in
theorem c_X5_ofSign (l : Launch) (dC : Nat → ClassId) (dI : Nat → Nat → Nat) (h0 : Nat) (th : Int32) (t1 : Nat) (len : Nat) (mo : Int32) (a4 : Nat) (a5 : Nat) (a6 : Nat) (my : Nat) (pu : Int32) (mi : Int32) (ms : Int32) (a11 : Nat) (a12 : Nat) (a13 : Nat) (kp : Nat) (sh : Nat) (mf : Int32) (a18 : Nat) (a19 : Nat) (a20 : Nat) (a21 : Nat) (a22 : Nat) (a23 : Nat) (cA : ClassId) (sn : Nat → Int32) (la : Nat) (sg : Int32) (hla : la ≤ 10200) : Met l yX5_ofSign wsX5_ofSign ({ frames := 0, cells := 0, slots := 0, locals := 0 } : Room) (va_Pc [.ref h0, .int sg] (rd_P (dC, dI) vwCl [(h0, .inr (6, [.int th, .ref t1, .int (nI len), .int mo, .ref a4, .ref a5, .ref a6, .int (nI my), .int pu, .int mi, .int ms, .ref a11, .ref a12, .ref a13, .int (nI la), .int (nI kp), .int (nI sh), .int mf, .ref a18, .ref a19, .ref a20, .ref a21, .ref a22, .ref a23])), (a11, .inl (cA, 10200, .inl sn))] [(cA, .int)])) (vp_Si (fun r => r = m_X5_ofSign sn la sg)) 0 0 (fun _ => False) := by
  refine Met.ofW (cc := cX5_ofSign) (maxL := 4) (ret := (some .int)) (by decide) rfl ?_
  intro p e s m args below meth c s₁ B hml hv
  obtain ⟨rfl, hE, hP, hK⟩ := hv
  have hx := B.exec
  have hb := B.bytes
  have hr := B.returns
  have hts := atoms_spec (ws := wsX5_ofSign) B.pre
  have hown : s.vm.findClass RX5 = some m.cls := findClass_of_methodNamed B.named
  have hlocks := B.notSynchronized
  have hl := lv_entry ([.ref h0, .int sg]) (n := 4) (Nat.le_of_ble_eq_true rfl)
  rw [lg_entry_eq]
  generalize (lg_sl ([.ref h0, .int sg]) ++ List.replicate (4 - (lg_sl ([.ref h0, .int sg])).length) Slot.unset).toArray = ls at hl ⊢
  have hl : lv_has ls 4 [(0, .ref h0), (1, .int sg)] := hl
  refine lv_iconst (v := 0) hx hb dX5_ofSign_0 (by decide) ?_
  refine lv_istore_n (lv' := [(2, .int 0), (0, .ref h0), (1, .int sg)]) hx hb dX5_ofSign_1 rfl hl (by decide) rfl (fun ls hl => ?_)
  refine lv_iconst (v := 0) hx hb dX5_ofSign_2 (by decide) ?_
  refine lv_istore_n (lv' := [(3, .int 0), (2, .int 0), (0, .ref h0), (1, .int sg)]) hx hb dX5_ofSign_3 rfl hl (by decide) rfl (fun ls hl => ?_)
  have lp_4 : ∀ (k4 i : Nat) (x2 : Int32), i ≤ la → la + 1 ≤ i + k4 → m_X5_ofSign sn la sg = m_X5_ofSign_L4 sn la sg k4 i x2 → ∀ (ls : Array Slot), lv_has ls 4 [(0, .ref h0), (1, .int sg), (2, .int x2), (3, .int (nI i))] → W p l e (headSpec wsX5_ofSign ({ frames := 0, cells := 0, slots := 0, locals := 0 } : Room)).room s m (([.ref h0, .int sg] : List Value).toArray) below meth c s.heap [] 0 0 (MQ below (vp_Si (fun r => r = m_X5_ofSign sn la sg)) (([.ref h0, .int sg] : List Value).toArray) s 0 0 (fun _ => False)) (F0 m 4 ls []) := by
    intro k4
    induction k4 with
    | zero => intro i x2 h1_ h2_; exfalso; omega
    | succ k4 ih4 =>
      intro i x2 hb4 hf4  hm4 ls hl
      refine lv_iload_n hx hb dX5_ofSign_4 rfl (lv_at hl 3 rfl) ?_
      refine lv_aload_n hx hb dX5_ofSign_5 rfl (lv_at hl 0 rfl) ?_
      refine va_get (D := (dC, dI)) (ci := 6) (v := .int (nI la)) (C := RX5) (T := TX5) (N := 24) hx hb hts (by decide +kernel) hown hK hP 0 rfl rfl 14 (by decide) (hts (.fieldLink RX5 35 "PictureRowsModel" "latest" "I") (by decide +kernel)) (fun _ h9 => h9) rfl dX5_ofSign_6 ?_
      refine lv_icmp_ge (tgt := 36) hx hb dX5_ofSign_9 (by decide) (fun c_1 => ?_) (fun c_1 => ?_)
      · skip
        have c_1 : la ≤ i := (nI_leI (a := la) (b := i) (by omega) (by omega)).mp c_1
        refine lv_iload_n hx hb dX5_ofSign_36 rfl (lv_at hl 2 rfl) ?_
        exact rd_iret (v := x2) hx hb hr hlocks (show m_X5_ofSign sn la sg = x2 from hm4.trans (by simp only [m_X5_ofSign_L4, if_pos c_1])).symm dX5_ofSign_37
      · skip
        have c_1 : ¬ la ≤ i := (fun q_ => c_1 ((nI_leI (a := la) (b := i) (by omega) (by omega)).mpr q_))
        refine lv_iload_n hx hb dX5_ofSign_12 rfl (lv_at hl 2 rfl) ?_
        refine lv_aload_n hx hb dX5_ofSign_13 rfl (lv_at hl 0 rfl) ?_
        refine va_get (D := (dC, dI)) (ci := 6) (v := .ref a11) (C := RX5) (T := TX5) (N := 24) hx hb hts (by decide +kernel) hown hK hP 0 rfl rfl 11 (by decide) (hts (.fieldLink RX5 26 "PictureRowsModel" "signs" "[I") (by decide +kernel)) (fun _ h9 => h9) rfl dX5_ofSign_14 ?_
        refine lv_iload_n hx hb dX5_ofSign_17 rfl (lv_at hl 3 rfl) ?_
        refine rd_iald hx hb hK hP 1 0 rfl rfl (i) (by omega) (by omega) dX5_ofSign_18 ?_
        refine lv_iload_n hx hb dX5_ofSign_19 rfl (lv_at hl 1 rfl) ?_
        have j_2 : ∀ (y0_j_2 : Bool), y0_j_2 = m_X5_ofSign_j28_s0 sn sg i → ∀ (ls : Array Slot), lv_has ls 4 [(0, .ref h0), (1, .int sg), (2, .int x2), (3, .int (nI i))] → W p l e (headSpec wsX5_ofSign ({ frames := 0, cells := 0, slots := 0, locals := 0 } : Room)).room s m (([.ref h0, .int sg] : List Value).toArray) below meth c s.heap [] 0 0 (MQ below (vp_Si (fun r => r = m_X5_ofSign sn la sg)) (([.ref h0, .int sg] : List Value).toArray) s 0 0 (fun _ => False)) (F0 m 28 ls [.int (bI y0_j_2), .int x2]) := by
          intro y0_j_2 ey0_j_2 ls hl
          subst ey0_j_2
          refine lv_iadd hx hb dX5_ofSign_28 ?_
          refine lv_istore_n (lv' := [(2, .int (x2 + (bI (m_X5_ofSign_j28_s0 sn sg i)))), (0, .ref h0), (1, .int sg), (3, .int (nI i))]) hx hb dX5_ofSign_29 rfl hl (by decide) rfl (fun ls hl => ?_)
          refine lv_iinc (v := nI (i + 1)) (lv' := [(3, .int (nI (i + 1))), (2, .int (x2 + (bI (m_X5_ofSign_j28_s0 sn sg i)))), (0, .ref h0), (1, .int sg)]) hx hb dX5_ofSign_30 hl (k := 3) rfl (nI_add (i) 1) (by decide) rfl (fun ls hl => ?_)
          refine lv_goto (tgt := 4) hx hb dX5_ofSign_33 (by decide) ?_
          exact ih4 (i + 1) (x2 + (bI (m_X5_ofSign_j28_s0 sn sg i))) (by omega) (by omega)  (hm4.trans (by simp only [m_X5_ofSign_L4, if_neg c_1])) ls (lv_sub hl [2, 3, 1, 0] rfl)
        refine lv_icmp_ne (tgt := 27) hx hb dX5_ofSign_20 (by decide) (fun c_3 => ?_) (fun c_3 => ?_)
        · skip
          refine lv_iconst (v := 0) hx hb dX5_ofSign_27 (by decide) ?_
          exact j_2 false (by simp only [m_X5_ofSign_j28_s0, if_neg c_3]) ls (lv_sub hl [0, 1, 2, 3] rfl)
        · skip
          refine lv_iconst (v := 1) hx hb dX5_ofSign_23 (by decide) ?_
          refine lv_goto (tgt := 28) hx hb dX5_ofSign_24 (by decide) ?_
          exact j_2 true (by simp only [m_X5_ofSign_j28_s0, if_pos c_3]) ls (lv_sub hl [0, 1, 2, 3] rfl)
  exact lp_4 (la + 1) (0) 0 (by omega) (by omega)  (show m_X5_ofSign sn la sg = m_X5_ofSign_L4 sn la sg (la + 1) 0 0 from by simp only [m_X5_ofSign]) ls (lv_sub hl [2, 3, 1, 0] rfl)
def m_X5_sort (sn : Nat → Int32) (kn : Nat → Int32) (la : Nat) : Int32 := if (m_X5_ofKind kn la 18) ≤ 0 then (if (m_X5_ofKind kn la 13) ≤ 0 then (if (((((m_X5_ofKind kn la 12) + (m_X5_ofKind kn la 14)) + (m_X5_ofKind kn la 15)) + (m_X5_ofKind kn la 16)) + (m_X5_ofKind kn la 17)) = (nI la) then 3 else 4) else (if (m_X5_ofKind kn la 0) ≤ 0 then (if (m_X5_ofSign sn la 65) = (nI la) then 0 else 1) else 2)) else (if (m_X5_ofKind kn la 0) ≤ 0 then 5 else 6)
set_option maxHeartbeats 4000000 in
set_option maxRecDepth 100000 in
theorem c_X5_sort (l : Launch) (dC : Nat → ClassId) (dI : Nat → Nat → Nat) (h0 : Nat) (th : Int32) (t1 : Nat) (len : Nat) (mo : Int32) (a4 : Nat) (a5 : Nat) (a6 : Nat) (my : Nat) (pu : Int32) (mi : Int32) (ms : Int32) (a11 : Nat) (a12 : Nat) (a13 : Nat) (kp : Nat) (sh : Nat) (mf : Int32) (a18 : Nat) (a19 : Nat) (a20 : Nat) (a21 : Nat) (a22 : Nat) (a23 : Nat) (cA : ClassId) (sn : Nat → Int32) (kn : Nat → Int32) (la : Nat) (hla : la ≤ 10200) : Met l yX5_sort wsX5_sort ({ frames := 1, cells := 0, slots := 0, locals := 23 } : Room) (va_Pc [.ref h0] (rd_P (dC, dI) vwCl [(h0, .inr (6, [.int th, .ref t1, .int (nI len), .int mo, .ref a4, .ref a5, .ref a6, .int (nI my), .int pu, .int mi, .int ms, .ref a11, .ref a12, .ref a13, .int (nI la), .int (nI kp), .int (nI sh), .int mf, .ref a18, .ref a19, .ref a20, .ref a21, .ref a22, .ref a23])), (a11, .inl (cA, 10200, .inl sn)), (a12, .inl (cA, 10200, .inl kn))] [(cA, .int)])) (vp_Si (fun r => r = m_X5_sort sn kn la)) 0 0 (fun _ => False) := by
  refine Met.ofW (cc := cX5_sort) (maxL := 4) (ret := (some .int)) (by decide) rfl ?_
  intro p e s m args below meth c s₁ B hml hv
  obtain ⟨rfl, hE, hP, hK⟩ := hv
  have hx := B.exec
  have hb := B.bytes
  have hr := B.returns
  have hts := atoms_spec (ws := wsX5_sort) B.pre
  have hown : s.vm.findClass RX5 = some m.cls := findClass_of_methodNamed B.named
  have hlocks := B.notSynchronized
  have hl := lv_entry ([.ref h0]) (n := 4) (Nat.le_of_ble_eq_true rfl)
  rw [lg_entry_eq]
  generalize (lg_sl ([.ref h0]) ++ List.replicate (4 - (lg_sl ([.ref h0])).length) Slot.unset).toArray = ls at hl ⊢
  have hl : lv_has ls 4 [(0, .ref h0)] := hl
  refine lv_aload_n hx hb dX5_sort_0 rfl (lv_at hl 0 rfl) ?_
  refine va_get (D := (dC, dI)) (ci := 6) (v := .int (nI la)) (C := RX5) (T := TX5) (N := 24) hx hb hts (by decide +kernel) hown hK hP 0 rfl rfl 14 (by decide) (hts (.fieldLink RX5 35 "PictureRowsModel" "latest" "I") (by decide +kernel)) (fun _ h9 => h9) rfl dX5_sort_1 ?_
  refine lv_iconst (v := (-1)) hx hb dX5_sort_4 (by decide) ?_
  refine lv_icmp_ne (tgt := 10) hx hb dX5_sort_5 (by decide) (fun c_1 => ?_) (fun c_1 => ?_)
  · skip
    refine lv_aload_n hx hb dX5_sort_10 rfl (lv_at hl 0 rfl) ?_
    refine lv_iconst (v := 0) hx hb dX5_sort_11 (by decide) ?_
    refine rd_callV (As := [.int 0]) (rest := []) ⟨hx, hb, hml, hown, hts⟩ hE (c_X5_ofKind l dC dI h0 th t1 len mo a4 a5 a6 my pu mi ms a11 a12 a13 kp sh mf a18 a19 a20 a21 a22 a23 cA kn la 0 (by omega)) (cwV 1 hts gX5_sort_X5_ofKind rfl rfl rfl (by decide +kernel) ⟨Nat.le_of_ble_eq_true rfl, Nat.le_of_ble_eq_true rfl⟩) (hP.sub (ws' := [(h0, .inr (6, [.int th, .ref t1, .int (nI len), .int mo, .ref a4, .ref a5, .ref a6, .int (nI my), .int pu, .int mi, .int ms, .ref a11, .ref a12, .ref a13, .int (nI la), .int (nI kp), .int (nI sh), .int mf, .ref a18, .ref a19, .ref a20, .ref a21, .ref a22, .ref a23])), (a12, .inl (cA, 10200, .inl kn))]) [0, 2] rfl) (hK.sub [0] rfl) (va_recv hK hP (ci := 6) (q0 := 0) rfl rfl) rfl hl.1 rfl (Nat.le_of_ble_eq_true rfl) dX5_sort_12 ⟨Nat.zero_le _, Nat.zero_le _⟩ (fun r9 hr9 => ?_)
    subst hr9
    refine lv_istore_n (lv' := [(1, .int (m_X5_ofKind kn la 0)), (0, .ref h0)]) hx hb dX5_sort_15 rfl hl (by decide) rfl (fun ls hl => ?_)
    refine lv_aload_n hx hb dX5_sort_16 rfl (lv_at hl 1 rfl) ?_
    refine lv_bipush (v := 12) hx hb dX5_sort_17 (by decide) ?_
    refine rd_callV (As := [.int 12]) (rest := []) ⟨hx, hb, hml, hown, hts⟩ hE (c_X5_ofKind l dC dI h0 th t1 len mo a4 a5 a6 my pu mi ms a11 a12 a13 kp sh mf a18 a19 a20 a21 a22 a23 cA kn la 12 (by omega)) (cwV 1 hts gX5_sort_X5_ofKind rfl rfl rfl (by decide +kernel) ⟨Nat.le_of_ble_eq_true rfl, Nat.le_of_ble_eq_true rfl⟩) (hP.sub (ws' := [(h0, .inr (6, [.int th, .ref t1, .int (nI len), .int mo, .ref a4, .ref a5, .ref a6, .int (nI my), .int pu, .int mi, .int ms, .ref a11, .ref a12, .ref a13, .int (nI la), .int (nI kp), .int (nI sh), .int mf, .ref a18, .ref a19, .ref a20, .ref a21, .ref a22, .ref a23])), (a12, .inl (cA, 10200, .inl kn))]) [0, 2] rfl) (hK.sub [0] rfl) (va_recv hK hP (ci := 6) (q0 := 0) rfl rfl) rfl hl.1 rfl (Nat.le_of_ble_eq_true rfl) dX5_sort_19 ⟨Nat.zero_le _, Nat.zero_le _⟩ (fun r9 hr9 => ?_)
    subst hr9
    refine lv_istore_n (lv' := [(2, .int (m_X5_ofKind kn la 12)), (1, .int (m_X5_ofKind kn la 0)), (0, .ref h0)]) hx hb dX5_sort_22 rfl hl (by decide) rfl (fun ls hl => ?_)
    refine lv_aload_n hx hb dX5_sort_23 rfl (lv_at hl 2 rfl) ?_
    refine lv_bipush (v := 13) hx hb dX5_sort_24 (by decide) ?_
    refine rd_callV (As := [.int 13]) (rest := []) ⟨hx, hb, hml, hown, hts⟩ hE (c_X5_ofKind l dC dI h0 th t1 len mo a4 a5 a6 my pu mi ms a11 a12 a13 kp sh mf a18 a19 a20 a21 a22 a23 cA kn la 13 (by omega)) (cwV 1 hts gX5_sort_X5_ofKind rfl rfl rfl (by decide +kernel) ⟨Nat.le_of_ble_eq_true rfl, Nat.le_of_ble_eq_true rfl⟩) (hP.sub (ws' := [(h0, .inr (6, [.int th, .ref t1, .int (nI len), .int mo, .ref a4, .ref a5, .ref a6, .int (nI my), .int pu, .int mi, .int ms, .ref a11, .ref a12, .ref a13, .int (nI la), .int (nI kp), .int (nI sh), .int mf, .ref a18, .ref a19, .ref a20, .ref a21, .ref a22, .ref a23])), (a12, .inl (cA, 10200, .inl kn))]) [0, 2] rfl) (hK.sub [0] rfl) (va_recv hK hP (ci := 6) (q0 := 0) rfl rfl) rfl hl.1 rfl (Nat.le_of_ble_eq_true rfl) dX5_sort_26 ⟨Nat.zero_le _, Nat.zero_le _⟩ (fun r9 hr9 => ?_)
    subst hr9
    refine lv_istore_n (lv' := [(3, .int (m_X5_ofKind kn la 13)), (2, .int (m_X5_ofKind kn la 12)), (1, .int (m_X5_ofKind kn la 0)), (0, .ref h0)]) hx hb dX5_sort_29 rfl hl (by decide) rfl (fun ls hl => ?_)
    refine lv_aload_n hx hb dX5_sort_30 rfl (lv_at hl 3 rfl) ?_
    refine lv_bipush (v := 18) hx hb dX5_sort_31 (by decide) ?_
    refine rd_callV (As := [.int 18]) (rest := []) ⟨hx, hb, hml, hown, hts⟩ hE (c_X5_ofKind l dC dI h0 th t1 len mo a4 a5 a6 my pu mi ms a11 a12 a13 kp sh mf a18 a19 a20 a21 a22 a23 cA kn la 18 (by omega)) (cwV 1 hts gX5_sort_X5_ofKind rfl rfl rfl (by decide +kernel) ⟨Nat.le_of_ble_eq_true rfl, Nat.le_of_ble_eq_true rfl⟩) (hP.sub (ws' := [(h0, .inr (6, [.int th, .ref t1, .int (nI len), .int mo, .ref a4, .ref a5, .ref a6, .int (nI my), .int pu, .int mi, .int ms, .ref a11, .ref a12, .ref a13, .int (nI la), .int (nI kp), .int (nI sh), .int mf, .ref a18, .ref a19, .ref a20, .ref a21, .ref a22, .ref a23])), (a12, .inl (cA, 10200, .inl kn))]) [0, 2] rfl) (hK.sub [0] rfl) (va_recv hK hP (ci := 6) (q0 := 0) rfl rfl) rfl hl.1 rfl (Nat.le_of_ble_eq_true rfl) dX5_sort_33 ⟨Nat.zero_le _, Nat.zero_le _⟩ (fun r9 hr9 => ?_)
    subst hr9
    refine lv_if_le (tgt := 50) hx hb dX5_sort_36 (by decide) (fun c_2 => ?_) (fun c_2 => ?_)
    · skip
      refine lv_iload_n hx hb dX5_sort_50 rfl (lv_at hl 0 rfl) ?_
      refine lv_if_le (tgt := 81) hx hb dX5_sort_51 (by decide) (fun c_3 => ?_) (fun c_3 => ?_)
      · skip
        refine lv_iload_n hx hb dX5_sort_81 rfl (lv_at hl 1 rfl) ?_
        refine lv_aload_n hx hb dX5_sort_82 rfl (lv_at hl 3 rfl) ?_
        refine lv_bipush (v := 14) hx hb dX5_sort_83 (by decide) ?_
        refine rd_callV (As := [.int 14]) (rest := [.int (m_X5_ofKind kn la 12)]) ⟨hx, hb, hml, hown, hts⟩ hE (c_X5_ofKind l dC dI h0 th t1 len mo a4 a5 a6 my pu mi ms a11 a12 a13 kp sh mf a18 a19 a20 a21 a22 a23 cA kn la 14 (by omega)) (cwV 1 hts gX5_sort_X5_ofKind rfl rfl rfl (by decide +kernel) ⟨Nat.le_of_ble_eq_true rfl, Nat.le_of_ble_eq_true rfl⟩) (hP.sub (ws' := [(h0, .inr (6, [.int th, .ref t1, .int (nI len), .int mo, .ref a4, .ref a5, .ref a6, .int (nI my), .int pu, .int mi, .int ms, .ref a11, .ref a12, .ref a13, .int (nI la), .int (nI kp), .int (nI sh), .int mf, .ref a18, .ref a19, .ref a20, .ref a21, .ref a22, .ref a23])), (a12, .inl (cA, 10200, .inl kn))]) [0, 2] rfl) (hK.sub [0] rfl) (va_recv hK hP (ci := 6) (q0 := 0) rfl rfl) rfl hl.1 rfl (Nat.le_of_ble_eq_true rfl) dX5_sort_85 ⟨Nat.zero_le _, Nat.zero_le _⟩ (fun r9 hr9 => ?_)
        subst hr9
        refine lv_iadd hx hb dX5_sort_88 ?_
        refine lv_aload_n hx hb dX5_sort_89 rfl (lv_at hl 3 rfl) ?_
        refine lv_bipush (v := 15) hx hb dX5_sort_90 (by decide) ?_
        refine rd_callV (As := [.int 15]) (rest := [.int ((m_X5_ofKind kn la 12) + (m_X5_ofKind kn la 14))]) ⟨hx, hb, hml, hown, hts⟩ hE (c_X5_ofKind l dC dI h0 th t1 len mo a4 a5 a6 my pu mi ms a11 a12 a13 kp sh mf a18 a19 a20 a21 a22 a23 cA kn la 15 (by omega)) (cwV 1 hts gX5_sort_X5_ofKind rfl rfl rfl (by decide +kernel) ⟨Nat.le_of_ble_eq_true rfl, Nat.le_of_ble_eq_true rfl⟩) (hP.sub (ws' := [(h0, .inr (6, [.int th, .ref t1, .int (nI len), .int mo, .ref a4, .ref a5, .ref a6, .int (nI my), .int pu, .int mi, .int ms, .ref a11, .ref a12, .ref a13, .int (nI la), .int (nI kp), .int (nI sh), .int mf, .ref a18, .ref a19, .ref a20, .ref a21, .ref a22, .ref a23])), (a12, .inl (cA, 10200, .inl kn))]) [0, 2] rfl) (hK.sub [0] rfl) (va_recv hK hP (ci := 6) (q0 := 0) rfl rfl) rfl hl.1 rfl (Nat.le_of_ble_eq_true rfl) dX5_sort_92 ⟨Nat.zero_le _, Nat.zero_le _⟩ (fun r9 hr9 => ?_)
        subst hr9
        refine lv_iadd hx hb dX5_sort_95 ?_
        refine lv_aload_n hx hb dX5_sort_96 rfl (lv_at hl 3 rfl) ?_
        refine lv_bipush (v := 16) hx hb dX5_sort_97 (by decide) ?_
        refine rd_callV (As := [.int 16]) (rest := [.int (((m_X5_ofKind kn la 12) + (m_X5_ofKind kn la 14)) + (m_X5_ofKind kn la 15))]) ⟨hx, hb, hml, hown, hts⟩ hE (c_X5_ofKind l dC dI h0 th t1 len mo a4 a5 a6 my pu mi ms a11 a12 a13 kp sh mf a18 a19 a20 a21 a22 a23 cA kn la 16 (by omega)) (cwV 1 hts gX5_sort_X5_ofKind rfl rfl rfl (by decide +kernel) ⟨Nat.le_of_ble_eq_true rfl, Nat.le_of_ble_eq_true rfl⟩) (hP.sub (ws' := [(h0, .inr (6, [.int th, .ref t1, .int (nI len), .int mo, .ref a4, .ref a5, .ref a6, .int (nI my), .int pu, .int mi, .int ms, .ref a11, .ref a12, .ref a13, .int (nI la), .int (nI kp), .int (nI sh), .int mf, .ref a18, .ref a19, .ref a20, .ref a21, .ref a22, .ref a23])), (a12, .inl (cA, 10200, .inl kn))]) [0, 2] rfl) (hK.sub [0] rfl) (va_recv hK hP (ci := 6) (q0 := 0) rfl rfl) rfl hl.1 rfl (Nat.le_of_ble_eq_true rfl) dX5_sort_99 ⟨Nat.zero_le _, Nat.zero_le _⟩ (fun r9 hr9 => ?_)
        subst hr9
        refine lv_iadd hx hb dX5_sort_102 ?_
        refine lv_aload_n hx hb dX5_sort_103 rfl (lv_at hl 3 rfl) ?_
        refine lv_bipush (v := 17) hx hb dX5_sort_104 (by decide) ?_
        refine rd_callV (As := [.int 17]) (rest := [.int ((((m_X5_ofKind kn la 12) + (m_X5_ofKind kn la 14)) + (m_X5_ofKind kn la 15)) + (m_X5_ofKind kn la 16))]) ⟨hx, hb, hml, hown, hts⟩ hE (c_X5_ofKind l dC dI h0 th t1 len mo a4 a5 a6 my pu mi ms a11 a12 a13 kp sh mf a18 a19 a20 a21 a22 a23 cA kn la 17 (by omega)) (cwV 1 hts gX5_sort_X5_ofKind rfl rfl rfl (by decide +kernel) ⟨Nat.le_of_ble_eq_true rfl, Nat.le_of_ble_eq_true rfl⟩) (hP.sub (ws' := [(h0, .inr (6, [.int th, .ref t1, .int (nI len), .int mo, .ref a4, .ref a5, .ref a6, .int (nI my), .int pu, .int mi, .int ms, .ref a11, .ref a12, .ref a13, .int (nI la), .int (nI kp), .int (nI sh), .int mf, .ref a18, .ref a19, .ref a20, .ref a21, .ref a22, .ref a23])), (a12, .inl (cA, 10200, .inl kn))]) [0, 2] rfl) (hK.sub [0] rfl) (va_recv hK hP (ci := 6) (q0 := 0) rfl rfl) rfl hl.1 rfl (Nat.le_of_ble_eq_true rfl) dX5_sort_106 ⟨Nat.zero_le _, Nat.zero_le _⟩ (fun r9 hr9 => ?_)
        subst hr9
        refine lv_iadd hx hb dX5_sort_109 ?_
        refine lv_aload_n hx hb dX5_sort_110 rfl (lv_at hl 3 rfl) ?_
        refine va_get (D := (dC, dI)) (ci := 6) (v := .int (nI la)) (C := RX5) (T := TX5) (N := 24) hx hb hts (by decide +kernel) hown hK hP 0 rfl rfl 14 (by decide) (hts (.fieldLink RX5 35 "PictureRowsModel" "latest" "I") (by decide +kernel)) (fun _ h9 => h9) rfl dX5_sort_111 ?_
        refine lv_icmp_ne (tgt := 121) hx hb dX5_sort_114 (by decide) (fun c_4 => ?_) (fun c_4 => ?_)
        · skip
          refine lv_iconst (v := 4) hx hb dX5_sort_121 (by decide) ?_
          exact rd_iret (v := 4) hx hb hr hlocks (show m_X5_sort sn kn la = 4 from by simp only [m_X5_sort, if_pos c_2, if_pos c_3, if_neg c_4]).symm dX5_sort_122
        · skip
          refine lv_iconst (v := 3) hx hb dX5_sort_117 (by decide) ?_
          refine lv_goto (tgt := 122) hx hb dX5_sort_118 (by decide) ?_
          exact rd_iret (v := 3) hx hb hr hlocks (show m_X5_sort sn kn la = 3 from by simp only [m_X5_sort, if_pos c_2, if_pos c_3, if_pos c_4]).symm dX5_sort_122
      · skip
        refine lv_iload_n hx hb dX5_sort_54 rfl (lv_at hl 2 rfl) ?_
        refine lv_if_le (tgt := 62) hx hb dX5_sort_55 (by decide) (fun c_5 => ?_) (fun c_5 => ?_)
        · skip
          refine lv_aload_n hx hb dX5_sort_62 rfl (lv_at hl 3 rfl) ?_
          refine lv_bipush (v := 65) hx hb dX5_sort_63 (by decide) ?_
          refine rd_callV (As := [.int 65]) (rest := []) ⟨hx, hb, hml, hown, hts⟩ hE (c_X5_ofSign l dC dI h0 th t1 len mo a4 a5 a6 my pu mi ms a11 a12 a13 kp sh mf a18 a19 a20 a21 a22 a23 cA sn la 65 (by omega)) (cwV 1 hts gX5_sort_X5_ofSign rfl rfl rfl (by decide +kernel) ⟨Nat.le_of_ble_eq_true rfl, Nat.le_of_ble_eq_true rfl⟩) (hP.sub (ws' := [(h0, .inr (6, [.int th, .ref t1, .int (nI len), .int mo, .ref a4, .ref a5, .ref a6, .int (nI my), .int pu, .int mi, .int ms, .ref a11, .ref a12, .ref a13, .int (nI la), .int (nI kp), .int (nI sh), .int mf, .ref a18, .ref a19, .ref a20, .ref a21, .ref a22, .ref a23])), (a11, .inl (cA, 10200, .inl sn))]) [0, 1] rfl) (hK.sub [0] rfl) (va_recv hK hP (ci := 6) (q0 := 0) rfl rfl) rfl hl.1 rfl (Nat.le_of_ble_eq_true rfl) dX5_sort_65 ⟨Nat.zero_le _, Nat.zero_le _⟩ (fun r9 hr9 => ?_)
          subst hr9
          refine lv_aload_n hx hb dX5_sort_68 rfl (lv_at hl 3 rfl) ?_
          refine va_get (D := (dC, dI)) (ci := 6) (v := .int (nI la)) (C := RX5) (T := TX5) (N := 24) hx hb hts (by decide +kernel) hown hK hP 0 rfl rfl 14 (by decide) (hts (.fieldLink RX5 35 "PictureRowsModel" "latest" "I") (by decide +kernel)) (fun _ h9 => h9) rfl dX5_sort_69 ?_
          refine lv_icmp_ne (tgt := 79) hx hb dX5_sort_72 (by decide) (fun c_6 => ?_) (fun c_6 => ?_)
          · skip
            refine lv_iconst (v := 1) hx hb dX5_sort_79 (by decide) ?_
            exact rd_iret (v := 1) hx hb hr hlocks (show m_X5_sort sn kn la = 1 from by simp only [m_X5_sort, if_pos c_2, if_neg c_3, if_pos c_5, if_neg c_6]).symm dX5_sort_80
          · skip
            refine lv_iconst (v := 0) hx hb dX5_sort_75 (by decide) ?_
            refine lv_goto (tgt := 80) hx hb dX5_sort_76 (by decide) ?_
            exact rd_iret (v := 0) hx hb hr hlocks (show m_X5_sort sn kn la = 0 from by simp only [m_X5_sort, if_pos c_2, if_neg c_3, if_pos c_5, if_pos c_6]).symm dX5_sort_80
        · skip
          refine lv_iconst (v := 2) hx hb dX5_sort_58 (by decide) ?_
          refine lv_goto (tgt := 80) hx hb dX5_sort_59 (by decide) ?_
          exact rd_iret (v := 2) hx hb hr hlocks (show m_X5_sort sn kn la = 2 from by simp only [m_X5_sort, if_pos c_2, if_neg c_3, if_neg c_5]).symm dX5_sort_80
    · skip
      refine lv_iload_n hx hb dX5_sort_39 rfl (lv_at hl 2 rfl) ?_
      refine lv_if_le (tgt := 48) hx hb dX5_sort_40 (by decide) (fun c_7 => ?_) (fun c_7 => ?_)
      · skip
        refine lv_iconst (v := 5) hx hb dX5_sort_48 (by decide) ?_
        exact rd_iret (v := 5) hx hb hr hlocks (show m_X5_sort sn kn la = 5 from by simp only [m_X5_sort, if_neg c_2, if_pos c_7]).symm dX5_sort_49
      · skip
        refine lv_bipush (v := 6) hx hb dX5_sort_43 (by decide) ?_
        refine lv_goto (tgt := 49) hx hb dX5_sort_45 (by decide) ?_
        exact rd_iret (v := 6) hx hb hr hlocks (show m_X5_sort sn kn la = 6 from by simp only [m_X5_sort, if_neg c_2, if_neg c_7]).symm dX5_sort_49
  · skip
    exfalso; exact nI_nm1 (n := la) (by omega) (by assumption)
def m_X5_sort_n : Int32 := (-1)
set_option maxHeartbeats 4000000 in
set_option maxRecDepth 100000 in
theorem c_X5_sort_n (l : Launch) (dC : Nat → ClassId) (dI : Nat → Nat → Nat) (h0 : Nat) (th : Int32) (t1 : Nat) (len : Nat) (mo : Int32) (a4 : Nat) (a5 : Nat) (a6 : Nat) (my : Nat) (pu : Int32) (mi : Int32) (ms : Int32) (a11 : Nat) (a12 : Nat) (a13 : Nat) (kp : Nat) (sh : Nat) (mf : Int32) (a18 : Nat) (a19 : Nat) (a20 : Nat) (a21 : Nat) (a22 : Nat) (a23 : Nat) : Met l yX5_sort wsX5_sort ({ frames := 0, cells := 0, slots := 0, locals := 0 } : Room) (va_Pc [.ref h0] (rd_P (dC, dI) vwCl [(h0, .inr (6, [.int th, .ref t1, .int (nI len), .int mo, .ref a4, .ref a5, .ref a6, .int (nI my), .int pu, .int mi, .int ms, .ref a11, .ref a12, .ref a13, .int (-1), .int (nI kp), .int (nI sh), .int mf, .ref a18, .ref a19, .ref a20, .ref a21, .ref a22, .ref a23]))] [])) (vp_Si (fun r => r = m_X5_sort_n)) 0 0 (fun _ => False) := by
  refine Met.ofW (cc := cX5_sort) (maxL := 4) (ret := (some .int)) (by decide) rfl ?_
  intro p e s m args below meth c s₁ B hml hv
  obtain ⟨rfl, hE, hP, hK⟩ := hv
  have hx := B.exec
  have hb := B.bytes
  have hr := B.returns
  have hts := atoms_spec (ws := wsX5_sort) B.pre
  have hown : s.vm.findClass RX5 = some m.cls := findClass_of_methodNamed B.named
  have hlocks := B.notSynchronized
  have hl := lv_entry ([.ref h0]) (n := 4) (Nat.le_of_ble_eq_true rfl)
  rw [lg_entry_eq]
  generalize (lg_sl ([.ref h0]) ++ List.replicate (4 - (lg_sl ([.ref h0])).length) Slot.unset).toArray = ls at hl ⊢
  have hl : lv_has ls 4 [(0, .ref h0)] := hl
  refine lv_aload_n hx hb dX5_sort_0 rfl (lv_at hl 0 rfl) ?_
  refine va_get (D := (dC, dI)) (ci := 6) (v := .int (-1)) (C := RX5) (T := TX5) (N := 24) hx hb hts (by decide +kernel) hown hK hP 0 rfl rfl 14 (by decide) (hts (.fieldLink RX5 35 "PictureRowsModel" "latest" "I") (by decide +kernel)) (fun _ h9 => h9) rfl dX5_sort_1 ?_
  refine lv_iconst (v := (-1)) hx hb dX5_sort_4 (by decide) ?_
  refine lv_icmp_ne (tgt := 10) hx hb dX5_sort_5 (by decide) (fun c_1 => ?_) (fun c_1 => ?_)
  · skip
    exact absurd (by decide) c_1
  · skip
    refine lv_iconst (v := (-1)) hx hb dX5_sort_8 (by decide) ?_
    exact rd_iret (v := (-1)) hx hb hr hlocks (show m_X5_sort_n = (-1) from by simp only [m_X5_sort_n]).symm dX5_sort_9
def m_X5_isDigitOf_j75_s0 (sn : Nat → Int32) (k : Nat) (j : Nat) : Bool := if (sn j) = (sn k) then false else true
def m_X5_isDigitOf_L44 (sn : Nat → Int32) (kn : Nat → Int32) (k : Nat) : Nat → Nat → Bool → Bool
  | 0, _, _ => false
  | k44 + 1, j, x3 => if k ≤ j then (if (kn k) ≤ 7 then false else (if 12 ≤ (kn k) then false else (if x3 = false then true else false))) else (if x3 = false then (if (kn k) ≤ 7 then false else (if 12 ≤ (kn k) then false else true)) else (m_X5_isDigitOf_L44 sn kn k k44 (j + 1) (m_X5_isDigitOf_j75_s0 sn k j)))
def m_X5_isDigitOf (sn : Nat → Int32) (kn : Nat → Int32) (k : Nat) : Bool := if (kn k) = 12 then true else (if (kn k) = 6 then true else (if (kn k) = 7 then true else (if (kn k) = 16 then true else (if (kn k) = 17 then true else (m_X5_isDigitOf_L44 sn kn k (k + 1) 0 true)))))
set_option maxHeartbeats 4000000 in
set_option maxRecDepth 100000 in
theorem c_X5_isDigitOf (l : Launch) (dC : Nat → ClassId) (dI : Nat → Nat → Nat) (h0 : Nat) (th : Int32) (t1 : Nat) (len : Nat) (mo : Int32) (a4 : Nat) (a5 : Nat) (a6 : Nat) (my : Nat) (pu : Int32) (mi : Int32) (ms : Int32) (a11 : Nat) (a12 : Nat) (a13 : Nat) (la : Nat) (kp : Nat) (sh : Nat) (mf : Int32) (a18 : Nat) (a19 : Nat) (a20 : Nat) (a21 : Nat) (a22 : Nat) (a23 : Nat) (cA : ClassId) (sn : Nat → Int32) (kn : Nat → Int32) (k : Nat) (hk : k < 10200) : Met l yX5_isDigitOf wsX5_isDigitOf ({ frames := 0, cells := 0, slots := 0, locals := 0 } : Room) (va_Pc [.ref h0, .int (nI k)] (rd_P (dC, dI) vwCl [(h0, .inr (6, [.int th, .ref t1, .int (nI len), .int mo, .ref a4, .ref a5, .ref a6, .int (nI my), .int pu, .int mi, .int ms, .ref a11, .ref a12, .ref a13, .int (nI la), .int (nI kp), .int (nI sh), .int mf, .ref a18, .ref a19, .ref a20, .ref a21, .ref a22, .ref a23])), (a11, .inl (cA, 10200, .inl sn)), (a12, .inl (cA, 10200, .inl kn))] [(cA, .int)])) (vp_Si (fun r => r = bI (m_X5_isDigitOf sn kn k))) 0 0 (fun _ => False) := by
  refine Met.ofW (cc := cX5_isDigitOf) (maxL := 5) (ret := (some .boolean)) (by decide) rfl ?_
  intro p e s m args below meth c s₁ B hml hv
  obtain ⟨rfl, hE, hP, hK⟩ := hv
  have hx := B.exec
  have hb := B.bytes
  have hr := B.returns
  have hts := atoms_spec (ws := wsX5_isDigitOf) B.pre
  have hown : s.vm.findClass RX5 = some m.cls := findClass_of_methodNamed B.named
  have hlocks := B.notSynchronized
  have hl := lv_entry ([.ref h0, .int (nI k)]) (n := 5) (Nat.le_of_ble_eq_true rfl)
  rw [lg_entry_eq]
  generalize (lg_sl ([.ref h0, .int (nI k)]) ++ List.replicate (5 - (lg_sl ([.ref h0, .int (nI k)])).length) Slot.unset).toArray = ls at hl ⊢
  have hl : lv_has ls 5 [(0, .ref h0), (1, .int (nI k))] := hl
  refine lv_aload_n hx hb dX5_isDigitOf_0 rfl (lv_at hl 0 rfl) ?_
  refine va_get (D := (dC, dI)) (ci := 6) (v := .ref a12) (C := RX5) (T := TX5) (N := 24) hx hb hts (by decide +kernel) hown hK hP 0 rfl rfl 12 (by decide) (hts (.fieldLink RX5 29 "PictureRowsModel" "kinds" "[I") (by decide +kernel)) (fun _ h9 => h9) rfl dX5_isDigitOf_1 ?_
  refine lv_iload_n hx hb dX5_isDigitOf_4 rfl (lv_at hl 1 rfl) ?_
  refine rd_iald hx hb hK hP 2 0 rfl rfl (k) (by omega) (by omega) dX5_isDigitOf_5 ?_
  refine lv_istore_n (lv' := [(2, .int (kn k)), (0, .ref h0), (1, .int (nI k))]) hx hb dX5_isDigitOf_6 rfl hl (by decide) rfl (fun ls hl => ?_)
  refine lv_iload_n hx hb dX5_isDigitOf_7 rfl (lv_at hl 0 rfl) ?_
  refine lv_bipush (v := 12) hx hb dX5_isDigitOf_8 (by decide) ?_
  refine lv_icmp_eq (tgt := 37) hx hb dX5_isDigitOf_10 (by decide) (fun c_1 => ?_) (fun c_1 => ?_)
  · skip
    refine lv_iconst (v := 1) hx hb dX5_isDigitOf_37 (by decide) ?_
    exact rd_zret (v := 1) hx hb hr hlocks rfl (by rw [(show m_X5_isDigitOf sn kn k = true from by simp only [m_X5_isDigitOf, if_pos c_1])]; rfl) dX5_isDigitOf_38
  · skip
    refine lv_iload_n hx hb dX5_isDigitOf_13 rfl (lv_at hl 0 rfl) ?_
    refine lv_bipush (v := 6) hx hb dX5_isDigitOf_14 (by decide) ?_
    refine lv_icmp_eq (tgt := 37) hx hb dX5_isDigitOf_16 (by decide) (fun c_2 => ?_) (fun c_2 => ?_)
    · skip
      refine lv_iconst (v := 1) hx hb dX5_isDigitOf_37 (by decide) ?_
      exact rd_zret (v := 1) hx hb hr hlocks rfl (by rw [(show m_X5_isDigitOf sn kn k = true from by simp only [m_X5_isDigitOf, if_neg c_1, if_pos c_2])]; rfl) dX5_isDigitOf_38
    · skip
      refine lv_iload_n hx hb dX5_isDigitOf_19 rfl (lv_at hl 0 rfl) ?_
      refine lv_bipush (v := 7) hx hb dX5_isDigitOf_20 (by decide) ?_
      refine lv_icmp_eq (tgt := 37) hx hb dX5_isDigitOf_22 (by decide) (fun c_3 => ?_) (fun c_3 => ?_)
      · skip
        refine lv_iconst (v := 1) hx hb dX5_isDigitOf_37 (by decide) ?_
        exact rd_zret (v := 1) hx hb hr hlocks rfl (by rw [(show m_X5_isDigitOf sn kn k = true from by simp only [m_X5_isDigitOf, if_neg c_1, if_neg c_2, if_pos c_3])]; rfl) dX5_isDigitOf_38
      · skip
        refine lv_iload_n hx hb dX5_isDigitOf_25 rfl (lv_at hl 0 rfl) ?_
        refine lv_bipush (v := 16) hx hb dX5_isDigitOf_26 (by decide) ?_
        refine lv_icmp_eq (tgt := 37) hx hb dX5_isDigitOf_28 (by decide) (fun c_4 => ?_) (fun c_4 => ?_)
        · skip
          refine lv_iconst (v := 1) hx hb dX5_isDigitOf_37 (by decide) ?_
          exact rd_zret (v := 1) hx hb hr hlocks rfl (by rw [(show m_X5_isDigitOf sn kn k = true from by simp only [m_X5_isDigitOf, if_neg c_1, if_neg c_2, if_neg c_3, if_pos c_4])]; rfl) dX5_isDigitOf_38
        · skip
          refine lv_iload_n hx hb dX5_isDigitOf_31 rfl (lv_at hl 0 rfl) ?_
          refine lv_bipush (v := 17) hx hb dX5_isDigitOf_32 (by decide) ?_
          refine lv_icmp_ne (tgt := 39) hx hb dX5_isDigitOf_34 (by decide) (fun c_5 => ?_) (fun c_5 => ?_)
          · skip
            refine lv_iconst (v := 1) hx hb dX5_isDigitOf_39 (by decide) ?_
            refine lv_istore_n (lv' := [(3, .int 1), (2, .int (kn k)), (0, .ref h0), (1, .int (nI k))]) hx hb dX5_isDigitOf_40 rfl hl (by decide) rfl (fun ls hl => ?_)
            refine lv_iconst (v := 0) hx hb dX5_isDigitOf_41 (by decide) ?_
            refine lv_istore (lv' := [(4, .int 0), (3, .int 1), (2, .int (kn k)), (0, .ref h0), (1, .int (nI k))]) hx hb dX5_isDigitOf_42 hl (by decide) rfl (fun ls hl => ?_)
            have lp_44 : ∀ (k44 j : Nat) (x3 : Bool), j ≤ k → k + 1 ≤ j + k44 → m_X5_isDigitOf sn kn k = m_X5_isDigitOf_L44 sn kn k k44 j x3 → ∀ (ls : Array Slot), lv_has ls 5 [(0, .ref h0), (1, .int (nI k)), (2, .int (kn k)), (3, .int (bI x3)), (4, .int (nI j))] → W p l e (headSpec wsX5_isDigitOf ({ frames := 0, cells := 0, slots := 0, locals := 0 } : Room)).room s m (([.ref h0, .int (nI k)] : List Value).toArray) below meth c s.heap [] 0 0 (MQ below (vp_Si (fun r => r = bI (m_X5_isDigitOf sn kn k))) (([.ref h0, .int (nI k)] : List Value).toArray) s 0 0 (fun _ => False)) (F0 m 44 ls []) := by
              intro k44
              induction k44 with
              | zero => intro j x3 h1_ h2_; exfalso; omega
              | succ k44 ih44 =>
                intro j x3 hb44 hf44  hm44 ls hl
                refine lv_iload hx hb dX5_isDigitOf_44 (lv_at hl 4 rfl) ?_
                refine lv_iload_n hx hb dX5_isDigitOf_46 rfl (lv_at hl 1 rfl) ?_
                refine lv_icmp_ge (tgt := 82) hx hb dX5_isDigitOf_47 (by decide) (fun c_6 => ?_) (fun c_6 => ?_)
                · skip
                  have c_6 : k ≤ j := (nI_leI (a := k) (b := j) (by omega) (by omega)).mp c_6
                  refine lv_iload_n hx hb dX5_isDigitOf_82 rfl (lv_at hl 2 rfl) ?_
                  refine lv_bipush (v := 7) hx hb dX5_isDigitOf_83 (by decide) ?_
                  refine lv_icmp_le (tgt := 102) hx hb dX5_isDigitOf_85 (by decide) (fun c_7 => ?_) (fun c_7 => ?_)
                  · skip
                    refine lv_iconst (v := 0) hx hb dX5_isDigitOf_102 (by decide) ?_
                    exact rd_zret (v := 0) hx hb hr hlocks rfl (by rw [(show m_X5_isDigitOf sn kn k = false from hm44.trans (by simp only [m_X5_isDigitOf_L44, if_pos c_6, if_pos c_7]))]; rfl) dX5_isDigitOf_103
                  · skip
                    refine lv_iload_n hx hb dX5_isDigitOf_88 rfl (lv_at hl 2 rfl) ?_
                    refine lv_bipush (v := 12) hx hb dX5_isDigitOf_89 (by decide) ?_
                    refine lv_icmp_ge (tgt := 102) hx hb dX5_isDigitOf_91 (by decide) (fun c_8 => ?_) (fun c_8 => ?_)
                    · skip
                      refine lv_iconst (v := 0) hx hb dX5_isDigitOf_102 (by decide) ?_
                      exact rd_zret (v := 0) hx hb hr hlocks rfl (by rw [(show m_X5_isDigitOf sn kn k = false from hm44.trans (by simp only [m_X5_isDigitOf_L44, if_pos c_6, if_neg c_7, if_pos c_8]))]; rfl) dX5_isDigitOf_103
                    · skip
                      refine lv_iload_n hx hb dX5_isDigitOf_94 rfl (lv_at hl 3 rfl) ?_
                      refine lv_if_ne (tgt := 102) hx hb dX5_isDigitOf_95 (by decide) (fun c_9 => ?_) (fun c_9 => ?_)
                      · skip
                        have c_9 := bI_n0 c_9
                        refine lv_iconst (v := 0) hx hb dX5_isDigitOf_102 (by decide) ?_
                        exact rd_zret (v := 0) hx hb hr hlocks rfl (by rw [(show m_X5_isDigitOf sn kn k = false from hm44.trans (by simp only [m_X5_isDigitOf_L44, if_pos c_6, if_neg c_7, if_neg c_8, if_neg c_9]))]; rfl) dX5_isDigitOf_103
                      · skip
                        have c_9 := bI_0 c_9
                        refine lv_iconst (v := 1) hx hb dX5_isDigitOf_98 (by decide) ?_
                        refine lv_goto (tgt := 103) hx hb dX5_isDigitOf_99 (by decide) ?_
                        exact rd_zret (v := 1) hx hb hr hlocks rfl (by rw [(show m_X5_isDigitOf sn kn k = true from hm44.trans (by simp only [m_X5_isDigitOf_L44, if_pos c_6, if_neg c_7, if_neg c_8, if_pos c_9]))]; rfl) dX5_isDigitOf_103
                · skip
                  have c_6 : ¬ k ≤ j := (fun q_ => c_6 ((nI_leI (a := k) (b := j) (by omega) (by omega)).mpr q_))
                  refine lv_iload_n hx hb dX5_isDigitOf_50 rfl (lv_at hl 3 rfl) ?_
                  refine lv_if_eq (tgt := 82) hx hb dX5_isDigitOf_51 (by decide) (fun c_10 => ?_) (fun c_10 => ?_)
                  · skip
                    have c_10 := bI_0 c_10
                    refine lv_iload_n hx hb dX5_isDigitOf_82 rfl (lv_at hl 2 rfl) ?_
                    refine lv_bipush (v := 7) hx hb dX5_isDigitOf_83 (by decide) ?_
                    refine lv_icmp_le (tgt := 102) hx hb dX5_isDigitOf_85 (by decide) (fun c_11 => ?_) (fun c_11 => ?_)
                    · skip
                      refine lv_iconst (v := 0) hx hb dX5_isDigitOf_102 (by decide) ?_
                      exact rd_zret (v := 0) hx hb hr hlocks rfl (by rw [(show m_X5_isDigitOf sn kn k = false from hm44.trans (by simp only [m_X5_isDigitOf_L44, if_neg c_6, if_pos c_10, if_pos c_11]))]; rfl) dX5_isDigitOf_103
                    · skip
                      refine lv_iload_n hx hb dX5_isDigitOf_88 rfl (lv_at hl 2 rfl) ?_
                      refine lv_bipush (v := 12) hx hb dX5_isDigitOf_89 (by decide) ?_
                      refine lv_icmp_ge (tgt := 102) hx hb dX5_isDigitOf_91 (by decide) (fun c_12 => ?_) (fun c_12 => ?_)
                      · skip
                        refine lv_iconst (v := 0) hx hb dX5_isDigitOf_102 (by decide) ?_
                        exact rd_zret (v := 0) hx hb hr hlocks rfl (by rw [(show m_X5_isDigitOf sn kn k = false from hm44.trans (by simp only [m_X5_isDigitOf_L44, if_neg c_6, if_pos c_10, if_neg c_11, if_pos c_12]))]; rfl) dX5_isDigitOf_103
                      · skip
                        refine lv_iload_n hx hb dX5_isDigitOf_94 rfl (lv_at hl 3 rfl) ?_
                        refine lv_if_ne (tgt := 102) hx hb dX5_isDigitOf_95 (by decide) (fun c_13 => ?_) (fun c_13 => ?_)
                        · skip
                          have c_13 := bI_n0 c_13
                          exact absurd c_10 c_13
                        · skip
                          have c_13 := bI_0 c_13
                          refine lv_iconst (v := 1) hx hb dX5_isDigitOf_98 (by decide) ?_
                          refine lv_goto (tgt := 103) hx hb dX5_isDigitOf_99 (by decide) ?_
                          exact rd_zret (v := 1) hx hb hr hlocks rfl (by rw [(show m_X5_isDigitOf sn kn k = true from hm44.trans (by simp only [m_X5_isDigitOf_L44, if_neg c_6, if_pos c_10, if_neg c_11, if_neg c_12]))]; rfl) dX5_isDigitOf_103
                  · skip
                    have c_10 := bI_n0 c_10
                    refine lv_aload_n hx hb dX5_isDigitOf_54 rfl (lv_at hl 0 rfl) ?_
                    refine va_get (D := (dC, dI)) (ci := 6) (v := .ref a11) (C := RX5) (T := TX5) (N := 24) hx hb hts (by decide +kernel) hown hK hP 0 rfl rfl 11 (by decide) (hts (.fieldLink RX5 26 "PictureRowsModel" "signs" "[I") (by decide +kernel)) (fun _ h9 => h9) rfl dX5_isDigitOf_55 ?_
                    refine lv_iload hx hb dX5_isDigitOf_58 (lv_at hl 4 rfl) ?_
                    refine rd_iald hx hb hK hP 1 0 rfl rfl (j) (by omega) (by omega) dX5_isDigitOf_60 ?_
                    refine lv_aload_n hx hb dX5_isDigitOf_61 rfl (lv_at hl 0 rfl) ?_
                    refine va_get (D := (dC, dI)) (ci := 6) (v := .ref a11) (C := RX5) (T := TX5) (N := 24) hx hb hts (by decide +kernel) hown hK hP 0 rfl rfl 11 (by decide) (hts (.fieldLink RX5 26 "PictureRowsModel" "signs" "[I") (by decide +kernel)) (fun _ h9 => h9) rfl dX5_isDigitOf_62 ?_
                    refine lv_iload_n hx hb dX5_isDigitOf_65 rfl (lv_at hl 1 rfl) ?_
                    refine rd_iald hx hb hK hP 1 0 rfl rfl (k) (by omega) (by omega) dX5_isDigitOf_66 ?_
                    have j_14 : ∀ (y0_j_14 : Bool), y0_j_14 = m_X5_isDigitOf_j75_s0 sn k j → ∀ (ls : Array Slot), lv_has ls 5 [(0, .ref h0), (1, .int (nI k)), (2, .int (kn k)), (3, .int (bI x3)), (4, .int (nI j))] → W p l e (headSpec wsX5_isDigitOf ({ frames := 0, cells := 0, slots := 0, locals := 0 } : Room)).room s m (([.ref h0, .int (nI k)] : List Value).toArray) below meth c s.heap [] 0 0 (MQ below (vp_Si (fun r => r = bI (m_X5_isDigitOf sn kn k))) (([.ref h0, .int (nI k)] : List Value).toArray) s 0 0 (fun _ => False)) (F0 m 75 ls [.int (bI y0_j_14)]) := by
                      intro y0_j_14 ey0_j_14 ls hl
                      subst ey0_j_14
                      refine lv_istore_n (lv' := [(3, .int (bI (m_X5_isDigitOf_j75_s0 sn k j))), (0, .ref h0), (1, .int (nI k)), (2, .int (kn k)), (4, .int (nI j))]) hx hb dX5_isDigitOf_75 rfl hl (by decide) rfl (fun ls hl => ?_)
                      refine lv_iinc (v := nI (j + 1)) (lv' := [(4, .int (nI (j + 1))), (3, .int (bI (m_X5_isDigitOf_j75_s0 sn k j))), (0, .ref h0), (1, .int (nI k)), (2, .int (kn k))]) hx hb dX5_isDigitOf_76 hl (k := 4) rfl (nI_add (j) 1) (by decide) rfl (fun ls hl => ?_)
                      refine lv_goto (tgt := 44) hx hb dX5_isDigitOf_79 (by decide) ?_
                      exact ih44 (j + 1) (m_X5_isDigitOf_j75_s0 sn k j) (by omega) (by omega)  (hm44.trans (by simp only [m_X5_isDigitOf_L44, if_neg c_6, if_neg c_10])) ls (lv_sub hl [2, 3, 4, 1, 0] rfl)
                    refine lv_icmp_eq (tgt := 74) hx hb dX5_isDigitOf_67 (by decide) (fun c_15 => ?_) (fun c_15 => ?_)
                    · skip
                      refine lv_iconst (v := 0) hx hb dX5_isDigitOf_74 (by decide) ?_
                      exact j_14 false (by simp only [m_X5_isDigitOf_j75_s0, if_pos c_15]) ls (lv_sub hl [0, 1, 2, 3, 4] rfl)
                    · skip
                      refine lv_iconst (v := 1) hx hb dX5_isDigitOf_70 (by decide) ?_
                      refine lv_goto (tgt := 75) hx hb dX5_isDigitOf_71 (by decide) ?_
                      exact j_14 true (by simp only [m_X5_isDigitOf_j75_s0, if_neg c_15]) ls (lv_sub hl [0, 1, 2, 3, 4] rfl)
            exact lp_44 (k + 1) (0) true (by omega) (by omega)  (show m_X5_isDigitOf sn kn k = m_X5_isDigitOf_L44 sn kn k (k + 1) 0 true from by simp only [m_X5_isDigitOf, if_neg c_1, if_neg c_2, if_neg c_3, if_neg c_4, if_neg c_5]) ls (lv_sub hl [3, 4, 2, 1, 0] rfl)
          · skip
            refine lv_iconst (v := 1) hx hb dX5_isDigitOf_37 (by decide) ?_
            exact rd_zret (v := 1) hx hb hr hlocks rfl (by rw [(show m_X5_isDigitOf sn kn k = true from by simp only [m_X5_isDigitOf, if_neg c_1, if_neg c_2, if_neg c_3, if_neg c_4, if_pos c_5])]; rfl) dX5_isDigitOf_38
def m_X5_point_L41 (kn : Nat → Int32) (la : Nat) : Nat → Nat → Nat
  | 0, _ => 0
  | k41 + 1, i2 => if la ≤ i2 then la else (if (kn i2) = 16 then i2 else (m_X5_point_L41 kn la k41 (i2 + 1)))
def m_X5_point_L2 (kn : Nat → Int32) (la : Nat) : Nat → Nat → Nat
  | 0, _ => 0
  | k2 + 1, i => if la ≤ i then (m_X5_point_L41 kn la (la + 1) 0) else (if (kn i) = 2 then i else (if (kn i) = 15 then i else (m_X5_point_L2 kn la k2 (i + 1))))
def m_X5_point (kn : Nat → Int32) (la : Nat) : Nat := m_X5_point_L2 kn la (la + 1) 0
set_option maxHeartbeats 4000000 in
set_option maxRecDepth 100000 in
theorem c_X5_point (l : Launch) (dC : Nat → ClassId) (dI : Nat → Nat → Nat) (h0 : Nat) (th : Int32) (t1 : Nat) (len : Nat) (mo : Int32) (a4 : Nat) (a5 : Nat) (a6 : Nat) (my : Nat) (pu : Int32) (mi : Int32) (ms : Int32) (a11 : Nat) (a12 : Nat) (a13 : Nat) (kp : Nat) (sh : Nat) (mf : Int32) (a18 : Nat) (a19 : Nat) (a20 : Nat) (a21 : Nat) (a22 : Nat) (a23 : Nat) (cA : ClassId) (kn : Nat → Int32) (la : Nat) (hla : la ≤ 10200) : Met l yX5_point wsX5_point ({ frames := 0, cells := 0, slots := 0, locals := 0 } : Room) (va_Pc [.ref h0] (rd_P (dC, dI) vwCl [(h0, .inr (6, [.int th, .ref t1, .int (nI len), .int mo, .ref a4, .ref a5, .ref a6, .int (nI my), .int pu, .int mi, .int ms, .ref a11, .ref a12, .ref a13, .int (nI la), .int (nI kp), .int (nI sh), .int mf, .ref a18, .ref a19, .ref a20, .ref a21, .ref a22, .ref a23])), (a12, .inl (cA, 10200, .inl kn))] [(cA, .int)])) (vp_Si (fun r => r = nI (m_X5_point kn la))) 0 0 (fun _ => False) := by
  refine Met.ofW (cc := cX5_point) (maxL := 2) (ret := (some .int)) (by decide) rfl ?_
  intro p e s m args below meth c s₁ B hml hv
  obtain ⟨rfl, hE, hP, hK⟩ := hv
  have hx := B.exec
  have hb := B.bytes
  have hr := B.returns
  have hts := atoms_spec (ws := wsX5_point) B.pre
  have hown : s.vm.findClass RX5 = some m.cls := findClass_of_methodNamed B.named
  have hlocks := B.notSynchronized
  have hl := lv_entry ([.ref h0]) (n := 2) (Nat.le_of_ble_eq_true rfl)
  rw [lg_entry_eq]
  generalize (lg_sl ([.ref h0]) ++ List.replicate (2 - (lg_sl ([.ref h0])).length) Slot.unset).toArray = ls at hl ⊢
  have hl : lv_has ls 2 [(0, .ref h0)] := hl
  refine lv_iconst (v := 0) hx hb dX5_point_0 (by decide) ?_
  refine lv_istore_n (lv' := [(1, .int 0), (0, .ref h0)]) hx hb dX5_point_1 rfl hl (by decide) rfl (fun ls hl => ?_)
  have lp_2 : ∀ (k2 i : Nat), i ≤ la → la + 1 ≤ i + k2 → m_X5_point kn la = m_X5_point_L2 kn la k2 i → ∀ (ls : Array Slot), lv_has ls 2 [(0, .ref h0), (1, .int (nI i))] → W p l e (headSpec wsX5_point ({ frames := 0, cells := 0, slots := 0, locals := 0 } : Room)).room s m (([.ref h0] : List Value).toArray) below meth c s.heap [] 0 0 (MQ below (vp_Si (fun r => r = nI (m_X5_point kn la))) (([.ref h0] : List Value).toArray) s 0 0 (fun _ => False)) (F0 m 2 ls []) := by
    intro k2
    induction k2 with
    | zero => intro i  h1_ h2_; exfalso; omega
    | succ k2 ih2 =>
      intro i  hb2 hf2  hm2 ls hl
      refine lv_iload_n hx hb dX5_point_2 rfl (lv_at hl 1 rfl) ?_
      refine lv_aload_n hx hb dX5_point_3 rfl (lv_at hl 0 rfl) ?_
      refine va_get (D := (dC, dI)) (ci := 6) (v := .int (nI la)) (C := RX5) (T := TX5) (N := 24) hx hb hts (by decide +kernel) hown hK hP 0 rfl rfl 14 (by decide) (hts (.fieldLink RX5 35 "PictureRowsModel" "latest" "I") (by decide +kernel)) (fun _ h9 => h9) rfl dX5_point_4 ?_
      refine lv_icmp_ge (tgt := 39) hx hb dX5_point_7 (by decide) (fun c_1 => ?_) (fun c_1 => ?_)
      · skip
        have c_1 : la ≤ i := (nI_leI (a := la) (b := i) (by omega) (by omega)).mp c_1
        refine lv_iconst (v := 0) hx hb dX5_point_39 (by decide) ?_
        refine lv_istore_n (lv' := [(1, .int 0), (0, .ref h0)]) hx hb dX5_point_40 rfl hl (by decide) rfl (fun ls hl => ?_)
        have lp_41 : ∀ (k41 i2 : Nat), i2 ≤ la → la + 1 ≤ i2 + k41 → m_X5_point kn la = m_X5_point_L41 kn la k41 i2 → ∀ (ls : Array Slot), lv_has ls 2 [(0, .ref h0), (1, .int (nI i2))] → W p l e (headSpec wsX5_point ({ frames := 0, cells := 0, slots := 0, locals := 0 } : Room)).room s m (([.ref h0] : List Value).toArray) below meth c s.heap [] 0 0 (MQ below (vp_Si (fun r => r = nI (m_X5_point kn la))) (([.ref h0] : List Value).toArray) s 0 0 (fun _ => False)) (F0 m 41 ls []) := by
          intro k41
          induction k41 with
          | zero => intro i2  h1_ h2_; exfalso; omega
          | succ k41 ih41 =>
            intro i2  hb41 hf41  hm41 ls hl
            refine lv_iload_n hx hb dX5_point_41 rfl (lv_at hl 1 rfl) ?_
            refine lv_aload_n hx hb dX5_point_42 rfl (lv_at hl 0 rfl) ?_
            refine va_get (D := (dC, dI)) (ci := 6) (v := .int (nI la)) (C := RX5) (T := TX5) (N := 24) hx hb hts (by decide +kernel) hown hK hP 0 rfl rfl 14 (by decide) (hts (.fieldLink RX5 35 "PictureRowsModel" "latest" "I") (by decide +kernel)) (fun _ h9 => h9) rfl dX5_point_43 ?_
            refine lv_icmp_ge (tgt := 68) hx hb dX5_point_46 (by decide) (fun c_2 => ?_) (fun c_2 => ?_)
            · skip
              have c_2 : la ≤ i2 := (nI_leI (a := la) (b := i2) (by omega) (by omega)).mp c_2
              refine lv_aload_n hx hb dX5_point_68 rfl (lv_at hl 0 rfl) ?_
              refine va_get (D := (dC, dI)) (ci := 6) (v := .int (nI la)) (C := RX5) (T := TX5) (N := 24) hx hb hts (by decide +kernel) hown hK hP 0 rfl rfl 14 (by decide) (hts (.fieldLink RX5 35 "PictureRowsModel" "latest" "I") (by decide +kernel)) (fun _ h9 => h9) rfl dX5_point_69 ?_
              exact rd_iret (v := nI la) hx hb hr hlocks (congrArg nI (show m_X5_point kn la = la from hm41.trans (by simp only [m_X5_point_L41, if_pos c_2]))).symm dX5_point_72
            · skip
              have c_2 : ¬ la ≤ i2 := (fun q_ => c_2 ((nI_leI (a := la) (b := i2) (by omega) (by omega)).mpr q_))
              refine lv_aload_n hx hb dX5_point_49 rfl (lv_at hl 0 rfl) ?_
              refine va_get (D := (dC, dI)) (ci := 6) (v := .ref a12) (C := RX5) (T := TX5) (N := 24) hx hb hts (by decide +kernel) hown hK hP 0 rfl rfl 12 (by decide) (hts (.fieldLink RX5 29 "PictureRowsModel" "kinds" "[I") (by decide +kernel)) (fun _ h9 => h9) rfl dX5_point_50 ?_
              refine lv_iload_n hx hb dX5_point_53 rfl (lv_at hl 1 rfl) ?_
              refine rd_iald hx hb hK hP 1 0 rfl rfl (i2) (by omega) (by omega) dX5_point_54 ?_
              refine lv_bipush (v := 16) hx hb dX5_point_55 (by decide) ?_
              refine lv_icmp_ne (tgt := 62) hx hb dX5_point_57 (by decide) (fun c_3 => ?_) (fun c_3 => ?_)
              · skip
                refine lv_iinc (v := nI (i2 + 1)) (lv' := [(1, .int (nI (i2 + 1))), (0, .ref h0)]) hx hb dX5_point_62 hl (k := 1) rfl (nI_add (i2) 1) (by decide) rfl (fun ls hl => ?_)
                refine lv_goto (tgt := 41) hx hb dX5_point_65 (by decide) ?_
                exact ih41 (i2 + 1)  (by omega) (by omega)  (hm41.trans (by simp only [m_X5_point_L41, if_neg c_2, if_neg c_3])) ls (lv_sub hl [1, 0] rfl)
              · skip
                refine lv_iload_n hx hb dX5_point_60 rfl (lv_at hl 1 rfl) ?_
                exact rd_iret (v := nI i2) hx hb hr hlocks (congrArg nI (show m_X5_point kn la = i2 from hm41.trans (by simp only [m_X5_point_L41, if_neg c_2, if_pos c_3]))).symm dX5_point_61
        exact lp_41 (la + 1) (0)  (by omega) (by omega)  (show m_X5_point kn la = m_X5_point_L41 kn la (la + 1) 0 from hm2.trans (by simp only [m_X5_point_L2, if_pos c_1])) ls (lv_sub hl [1, 0] rfl)
      · skip
        have c_1 : ¬ la ≤ i := (fun q_ => c_1 ((nI_leI (a := la) (b := i) (by omega) (by omega)).mpr q_))
        refine lv_aload_n hx hb dX5_point_10 rfl (lv_at hl 0 rfl) ?_
        refine va_get (D := (dC, dI)) (ci := 6) (v := .ref a12) (C := RX5) (T := TX5) (N := 24) hx hb hts (by decide +kernel) hown hK hP 0 rfl rfl 12 (by decide) (hts (.fieldLink RX5 29 "PictureRowsModel" "kinds" "[I") (by decide +kernel)) (fun _ h9 => h9) rfl dX5_point_11 ?_
        refine lv_iload_n hx hb dX5_point_14 rfl (lv_at hl 1 rfl) ?_
        refine rd_iald hx hb hK hP 1 0 rfl rfl (i) (by omega) (by omega) dX5_point_15 ?_
        refine lv_iconst (v := 2) hx hb dX5_point_16 (by decide) ?_
        refine lv_icmp_eq (tgt := 31) hx hb dX5_point_17 (by decide) (fun c_4 => ?_) (fun c_4 => ?_)
        · skip
          refine lv_iload_n hx hb dX5_point_31 rfl (lv_at hl 1 rfl) ?_
          exact rd_iret (v := nI i) hx hb hr hlocks (congrArg nI (show m_X5_point kn la = i from hm2.trans (by simp only [m_X5_point_L2, if_neg c_1, if_pos c_4]))).symm dX5_point_32
        · skip
          refine lv_aload_n hx hb dX5_point_20 rfl (lv_at hl 0 rfl) ?_
          refine va_get (D := (dC, dI)) (ci := 6) (v := .ref a12) (C := RX5) (T := TX5) (N := 24) hx hb hts (by decide +kernel) hown hK hP 0 rfl rfl 12 (by decide) (hts (.fieldLink RX5 29 "PictureRowsModel" "kinds" "[I") (by decide +kernel)) (fun _ h9 => h9) rfl dX5_point_21 ?_
          refine lv_iload_n hx hb dX5_point_24 rfl (lv_at hl 1 rfl) ?_
          refine rd_iald hx hb hK hP 1 0 rfl rfl (i) (by omega) (by omega) dX5_point_25 ?_
          refine lv_bipush (v := 15) hx hb dX5_point_26 (by decide) ?_
          refine lv_icmp_ne (tgt := 33) hx hb dX5_point_28 (by decide) (fun c_5 => ?_) (fun c_5 => ?_)
          · skip
            refine lv_iinc (v := nI (i + 1)) (lv' := [(1, .int (nI (i + 1))), (0, .ref h0)]) hx hb dX5_point_33 hl (k := 1) rfl (nI_add (i) 1) (by decide) rfl (fun ls hl => ?_)
            refine lv_goto (tgt := 2) hx hb dX5_point_36 (by decide) ?_
            exact ih2 (i + 1)  (by omega) (by omega)  (hm2.trans (by simp only [m_X5_point_L2, if_neg c_1, if_neg c_4, if_neg c_5])) ls (lv_sub hl [1, 0] rfl)
          · skip
            refine lv_iload_n hx hb dX5_point_31 rfl (lv_at hl 1 rfl) ?_
            exact rd_iret (v := nI i) hx hb hr hlocks (congrArg nI (show m_X5_point kn la = i from hm2.trans (by simp only [m_X5_point_L2, if_neg c_1, if_neg c_4, if_pos c_5]))).symm dX5_point_32
  exact lp_2 (la + 1) (0)  (by omega) (by omega)  (show m_X5_point kn la = m_X5_point_L2 kn la (la + 1) 0 from by simp only [m_X5_point]) ls (lv_sub hl [1, 0] rfl)
def m_X5_isNumber (sn : Nat → Int32) (kn : Nat → Int32) (la : Nat) : Bool := if (m_X5_sort sn kn la) = 3 then true else (if (m_X5_sort sn kn la) = 4 then true else false)
set_option maxHeartbeats 4000000 in
set_option maxRecDepth 100000 in
theorem c_X5_isNumber (l : Launch) (dC : Nat → ClassId) (dI : Nat → Nat → Nat) (h0 : Nat) (th : Int32) (t1 : Nat) (len : Nat) (mo : Int32) (a4 : Nat) (a5 : Nat) (a6 : Nat) (my : Nat) (pu : Int32) (mi : Int32) (ms : Int32) (a11 : Nat) (a12 : Nat) (a13 : Nat) (kp : Nat) (sh : Nat) (mf : Int32) (a18 : Nat) (a19 : Nat) (a20 : Nat) (a21 : Nat) (a22 : Nat) (a23 : Nat) (cA : ClassId) (sn : Nat → Int32) (kn : Nat → Int32) (la : Nat) (hla : la ≤ 10200) : Met l yX5_isNumber wsX5_isNumber ({ frames := 2, cells := 0, slots := 0, locals := 46 } : Room) (va_Pc [.ref h0] (rd_P (dC, dI) vwCl [(h0, .inr (6, [.int th, .ref t1, .int (nI len), .int mo, .ref a4, .ref a5, .ref a6, .int (nI my), .int pu, .int mi, .int ms, .ref a11, .ref a12, .ref a13, .int (nI la), .int (nI kp), .int (nI sh), .int mf, .ref a18, .ref a19, .ref a20, .ref a21, .ref a22, .ref a23])), (a11, .inl (cA, 10200, .inl sn)), (a12, .inl (cA, 10200, .inl kn))] [(cA, .int)])) (vp_Si (fun r => r = bI (m_X5_isNumber sn kn la))) 0 0 (fun _ => False) := by
  refine Met.ofW (cc := cX5_isNumber) (maxL := 1) (ret := (some .boolean)) (by decide) rfl ?_
  intro p e s m args below meth c s₁ B hml hv
  obtain ⟨rfl, hE, hP, hK⟩ := hv
  have hx := B.exec
  have hb := B.bytes
  have hr := B.returns
  have hts := atoms_spec (ws := wsX5_isNumber) B.pre
  have hown : s.vm.findClass RX5 = some m.cls := findClass_of_methodNamed B.named
  have hlocks := B.notSynchronized
  have hl := lv_entry ([.ref h0]) (n := 1) (Nat.le_of_ble_eq_true rfl)
  rw [lg_entry_eq]
  generalize (lg_sl ([.ref h0]) ++ List.replicate (1 - (lg_sl ([.ref h0])).length) Slot.unset).toArray = ls at hl ⊢
  have hl : lv_has ls 1 [(0, .ref h0)] := hl
  refine lv_aload_n hx hb dX5_isNumber_0 rfl (lv_at hl 0 rfl) ?_
  refine va_get (D := (dC, dI)) (ci := 6) (v := .int (nI la)) (C := RX5) (T := TX5) (N := 24) hx hb hts (by decide +kernel) hown hK hP 0 rfl rfl 14 (by decide) (hts (.fieldLink RX5 35 "PictureRowsModel" "latest" "I") (by decide +kernel)) (fun _ h9 => h9) rfl dX5_isNumber_1 ?_
  refine lv_iconst (v := (-1)) hx hb dX5_isNumber_4 (by decide) ?_
  refine lv_icmp_eq (tgt := 28) hx hb dX5_isNumber_5 (by decide) (fun c_1 => ?_) (fun c_1 => ?_)
  · skip
    exfalso; exact nI_nm1 (n := la) (by omega) (by assumption)
  · skip
    refine lv_aload_n hx hb dX5_isNumber_8 rfl (lv_at hl 0 rfl) ?_
    refine rd_callV (As := []) (rest := []) ⟨hx, hb, hml, hown, hts⟩ hE (c_X5_sort l dC dI h0 th t1 len mo a4 a5 a6 my pu mi ms a11 a12 a13 kp sh mf a18 a19 a20 a21 a22 a23 cA sn kn la (by omega)) (cwV 0 hts gX5_isNumber_X5_sort rfl rfl rfl (by decide +kernel) ⟨Nat.le_of_ble_eq_true rfl, Nat.le_of_ble_eq_true rfl⟩) (hP.sub (ws' := [(h0, .inr (6, [.int th, .ref t1, .int (nI len), .int mo, .ref a4, .ref a5, .ref a6, .int (nI my), .int pu, .int mi, .int ms, .ref a11, .ref a12, .ref a13, .int (nI la), .int (nI kp), .int (nI sh), .int mf, .ref a18, .ref a19, .ref a20, .ref a21, .ref a22, .ref a23])), (a11, .inl (cA, 10200, .inl sn)), (a12, .inl (cA, 10200, .inl kn))]) [0, 1, 2] rfl) (hK.sub [0] rfl) (va_recv hK hP (ci := 6) (q0 := 0) rfl rfl) rfl hl.1 rfl (Nat.le_of_ble_eq_true rfl) dX5_isNumber_9 ⟨Nat.zero_le _, Nat.zero_le _⟩ (fun r9 hr9 => ?_)
    subst hr9
    refine lv_iconst (v := 3) hx hb dX5_isNumber_12 (by decide) ?_
    refine lv_icmp_eq (tgt := 24) hx hb dX5_isNumber_13 (by decide) (fun c_2 => ?_) (fun c_2 => ?_)
    · skip
      refine lv_iconst (v := 1) hx hb dX5_isNumber_24 (by decide) ?_
      refine lv_goto (tgt := 29) hx hb dX5_isNumber_25 (by decide) ?_
      exact rd_zret (v := 1) hx hb hr hlocks rfl (by rw [(show m_X5_isNumber sn kn la = true from by simp only [m_X5_isNumber, if_pos c_2])]; rfl) dX5_isNumber_29
    · skip
      refine lv_aload_n hx hb dX5_isNumber_16 rfl (lv_at hl 0 rfl) ?_
      refine rd_callV (As := []) (rest := []) ⟨hx, hb, hml, hown, hts⟩ hE (c_X5_sort l dC dI h0 th t1 len mo a4 a5 a6 my pu mi ms a11 a12 a13 kp sh mf a18 a19 a20 a21 a22 a23 cA sn kn la (by omega)) (cwV 0 hts gX5_isNumber_X5_sort rfl rfl rfl (by decide +kernel) ⟨Nat.le_of_ble_eq_true rfl, Nat.le_of_ble_eq_true rfl⟩) (hP.sub (ws' := [(h0, .inr (6, [.int th, .ref t1, .int (nI len), .int mo, .ref a4, .ref a5, .ref a6, .int (nI my), .int pu, .int mi, .int ms, .ref a11, .ref a12, .ref a13, .int (nI la), .int (nI kp), .int (nI sh), .int mf, .ref a18, .ref a19, .ref a20, .ref a21, .ref a22, .ref a23])), (a11, .inl (cA, 10200, .inl sn)), (a12, .inl (cA, 10200, .inl kn))]) [0, 1, 2] rfl) (hK.sub [0] rfl) (va_recv hK hP (ci := 6) (q0 := 0) rfl rfl) rfl hl.1 rfl (Nat.le_of_ble_eq_true rfl) dX5_isNumber_17 ⟨Nat.zero_le _, Nat.zero_le _⟩ (fun r9 hr9 => ?_)
      subst hr9
      refine lv_iconst (v := 4) hx hb dX5_isNumber_20 (by decide) ?_
      refine lv_icmp_ne (tgt := 28) hx hb dX5_isNumber_21 (by decide) (fun c_3 => ?_) (fun c_3 => ?_)
      · skip
        refine lv_iconst (v := 0) hx hb dX5_isNumber_28 (by decide) ?_
        exact rd_zret (v := 0) hx hb hr hlocks rfl (by rw [(show m_X5_isNumber sn kn la = false from by simp only [m_X5_isNumber, if_neg c_2, if_neg c_3])]; rfl) dX5_isNumber_29
      · skip
        refine lv_iconst (v := 1) hx hb dX5_isNumber_24 (by decide) ?_
        refine lv_goto (tgt := 29) hx hb dX5_isNumber_25 (by decide) ?_
        exact rd_zret (v := 1) hx hb hr hlocks rfl (by rw [(show m_X5_isNumber sn kn la = true from by simp only [m_X5_isNumber, if_neg c_2, if_pos c_3])]; rfl) dX5_isNumber_29
def m_X5_isNumber_n : Bool := false
set_option maxHeartbeats 4000000 in
set_option maxRecDepth 100000 in
theorem c_X5_isNumber_n (l : Launch) (dC : Nat → ClassId) (dI : Nat → Nat → Nat) (h0 : Nat) (th : Int32) (t1 : Nat) (len : Nat) (mo : Int32) (a4 : Nat) (a5 : Nat) (a6 : Nat) (my : Nat) (pu : Int32) (mi : Int32) (ms : Int32) (a11 : Nat) (a12 : Nat) (a13 : Nat) (kp : Nat) (sh : Nat) (mf : Int32) (a18 : Nat) (a19 : Nat) (a20 : Nat) (a21 : Nat) (a22 : Nat) (a23 : Nat) : Met l yX5_isNumber wsX5_isNumber ({ frames := 0, cells := 0, slots := 0, locals := 0 } : Room) (va_Pc [.ref h0] (rd_P (dC, dI) vwCl [(h0, .inr (6, [.int th, .ref t1, .int (nI len), .int mo, .ref a4, .ref a5, .ref a6, .int (nI my), .int pu, .int mi, .int ms, .ref a11, .ref a12, .ref a13, .int (-1), .int (nI kp), .int (nI sh), .int mf, .ref a18, .ref a19, .ref a20, .ref a21, .ref a22, .ref a23]))] [])) (vp_Si (fun r => r = bI (m_X5_isNumber_n))) 0 0 (fun _ => False) := by
  refine Met.ofW (cc := cX5_isNumber) (maxL := 1) (ret := (some .boolean)) (by decide) rfl ?_
  intro p e s m args below meth c s₁ B hml hv
  obtain ⟨rfl, hE, hP, hK⟩ := hv
  have hx := B.exec
  have hb := B.bytes
  have hr := B.returns
  have hts := atoms_spec (ws := wsX5_isNumber) B.pre
  have hown : s.vm.findClass RX5 = some m.cls := findClass_of_methodNamed B.named
  have hlocks := B.notSynchronized
  have hl := lv_entry ([.ref h0]) (n := 1) (Nat.le_of_ble_eq_true rfl)
  rw [lg_entry_eq]
  generalize (lg_sl ([.ref h0]) ++ List.replicate (1 - (lg_sl ([.ref h0])).length) Slot.unset).toArray = ls at hl ⊢
  have hl : lv_has ls 1 [(0, .ref h0)] := hl
  refine lv_aload_n hx hb dX5_isNumber_0 rfl (lv_at hl 0 rfl) ?_
  refine va_get (D := (dC, dI)) (ci := 6) (v := .int (-1)) (C := RX5) (T := TX5) (N := 24) hx hb hts (by decide +kernel) hown hK hP 0 rfl rfl 14 (by decide) (hts (.fieldLink RX5 35 "PictureRowsModel" "latest" "I") (by decide +kernel)) (fun _ h9 => h9) rfl dX5_isNumber_1 ?_
  refine lv_iconst (v := (-1)) hx hb dX5_isNumber_4 (by decide) ?_
  refine lv_icmp_eq (tgt := 28) hx hb dX5_isNumber_5 (by decide) (fun c_1 => ?_) (fun c_1 => ?_)
  · skip
    refine lv_iconst (v := 0) hx hb dX5_isNumber_28 (by decide) ?_
    exact rd_zret (v := 0) hx hb hr hlocks rfl (by rw [(show m_X5_isNumber_n = false from by simp only [m_X5_isNumber_n])]; rfl) dX5_isNumber_29
  · skip
    exact absurd (by decide) c_1
def m_X5_isIdle_j66_s0 (kk : Nat → Int32) (fr : Nat) (ax : Nat) (i : Nat) (x4 : Bool) : Bool := if x4 = false then (if i ≤ ax then false else (if (kk (fr + i)) ≤ 5 then (if (kk (fr + i)) = 16 then true else (if (kk (fr + i)) = 17 then true else false)) else (if (kk (fr + i)) < 13 then true else (if (kk (fr + i)) = 16 then true else (if (kk (fr + i)) = 17 then true else false))))) else true
def m_X5_isIdle_j104_s0 (kk : Nat → Int32) (fr : Nat) (ax : Nat) (i : Nat) (x5 : Bool) : Bool := if x5 = false then (if ax ≤ i then (if i ≤ ax then false else (if (kk (fr + i)) = 16 then true else false)) else (if (kk (fr + i)) = 17 then true else (if i ≤ ax then false else (if (kk (fr + i)) = 16 then true else false)))) else true
def m_X5_isIdle_L9 (kk : Nat → Int32) (fr : Nat) (ax : Nat) (n : Nat) : Nat → Nat → Bool → Bool → Bool
  | 0, _, _, _ => false
  | k9 + 1, i, x4, x5 => if n ≤ i then (if x4 = false then true else (if x5 = false then false else true)) else (m_X5_isIdle_L9 kk fr ax n k9 (i + 1) (m_X5_isIdle_j66_s0 kk fr ax i x4) (m_X5_isIdle_j104_s0 kk fr ax i x5))
def m_X5_isIdle (kk : Nat → Int32) (fr : Nat) (ax : Nat) (n : Nat) : Bool := m_X5_isIdle_L9 kk fr ax n (n + 1) 0 false false
set_option maxHeartbeats 4000000 in
set_option maxRecDepth 100000 in
theorem c_X5_isIdle (l : Launch) (dC : Nat → ClassId) (dI : Nat → Nat → Nat) (g0 : Nat) (cap : Nat) (cA : ClassId) (kk : Nat → Int32) (fr : Nat) (ax : Nat) (n : Nat) (hcap : cap < 2 ^ 31) (hfn : fr + n ≤ cap) (hat : ax ≤ n) : Met l yX5_isIdle wsX5_isIdle ({ frames := 0, cells := 0, slots := 0, locals := 0 } : Room) (va_Pc [.ref g0, .int (nI fr), .int (nI ax), .int (nI n)] (rd_P (dC, dI) vwCl [(g0, .inl (cA, cap, .inl kk))] [(cA, .int)])) (vp_Si (fun r => r = bI (m_X5_isIdle kk fr ax n))) 0 0 (fun _ => False) := by
  refine Met.ofW (cc := cX5_isIdle) (maxL := 8) (ret := (some .boolean)) (by decide) rfl ?_
  intro p e s m args below meth c s₁ B hml hv
  obtain ⟨rfl, hE, hP, hK⟩ := hv
  have hx := B.exec
  have hb := B.bytes
  have hr := B.returns
  have hts := atoms_spec (ws := wsX5_isIdle) B.pre
  have hown : s.vm.findClass RX5 = some m.cls := findClass_of_methodNamed B.named
  have hlocks := B.notSynchronized
  have hl := lv_entry ([.ref g0, .int (nI fr), .int (nI ax), .int (nI n)]) (n := 8) (Nat.le_of_ble_eq_true rfl)
  rw [lg_entry_eq]
  generalize (lg_sl ([.ref g0, .int (nI fr), .int (nI ax), .int (nI n)]) ++ List.replicate (8 - (lg_sl ([.ref g0, .int (nI fr), .int (nI ax), .int (nI n)])).length) Slot.unset).toArray = ls at hl ⊢
  have hl : lv_has ls 8 [(0, .ref g0), (1, .int (nI fr)), (2, .int (nI ax)), (3, .int (nI n))] := hl
  refine lv_iconst (v := 0) hx hb dX5_isIdle_0 (by decide) ?_
  refine lv_istore (lv' := [(4, .int 0), (0, .ref g0), (1, .int (nI fr)), (2, .int (nI ax)), (3, .int (nI n))]) hx hb dX5_isIdle_1 hl (by decide) rfl (fun ls hl => ?_)
  refine lv_iconst (v := 0) hx hb dX5_isIdle_3 (by decide) ?_
  refine lv_istore (lv' := [(5, .int 0), (4, .int 0), (0, .ref g0), (1, .int (nI fr)), (2, .int (nI ax)), (3, .int (nI n))]) hx hb dX5_isIdle_4 hl (by decide) rfl (fun ls hl => ?_)
  refine lv_iconst (v := 0) hx hb dX5_isIdle_6 (by decide) ?_
  refine lv_istore (lv' := [(6, .int 0), (5, .int 0), (4, .int 0), (0, .ref g0), (1, .int (nI fr)), (2, .int (nI ax)), (3, .int (nI n))]) hx hb dX5_isIdle_7 hl (by decide) rfl (fun ls hl => ?_)
  have lp_9 : ∀ (k9 i : Nat) (x4 : Bool) (x5 : Bool), i ≤ n → n + 1 ≤ i + k9 → m_X5_isIdle kk fr ax n = m_X5_isIdle_L9 kk fr ax n k9 i x4 x5 → ∀ (ls : Array Slot), lv_has ls 8 [(0, .ref g0), (1, .int (nI fr)), (2, .int (nI ax)), (3, .int (nI n)), (4, .int (bI x4)), (5, .int (bI x5)), (6, .int (nI i))] → W p l e (headSpec wsX5_isIdle ({ frames := 0, cells := 0, slots := 0, locals := 0 } : Room)).room s m (([.ref g0, .int (nI fr), .int (nI ax), .int (nI n)] : List Value).toArray) below meth c s.heap [] 0 0 (MQ below (vp_Si (fun r => r = bI (m_X5_isIdle kk fr ax n))) (([.ref g0, .int (nI fr), .int (nI ax), .int (nI n)] : List Value).toArray) s 0 0 (fun _ => False)) (F0 m 9 ls []) := by
    intro k9
    induction k9 with
    | zero => intro i x4 x5 h1_ h2_; exfalso; omega
    | succ k9 ih9 =>
      intro i x4 x5 hb9 hf9  hm9 ls hl
      refine lv_iload hx hb dX5_isIdle_9 (lv_at hl 6 rfl) ?_
      refine lv_iload_n hx hb dX5_isIdle_11 rfl (lv_at hl 3 rfl) ?_
      refine lv_icmp_ge (tgt := 112) hx hb dX5_isIdle_12 (by decide) (fun c_1 => ?_) (fun c_1 => ?_)
      · skip
        have c_1 : n ≤ i := (nI_leI (a := n) (b := i) (by omega) (by omega)).mp c_1
        refine lv_iload hx hb dX5_isIdle_112 (lv_at hl 4 rfl) ?_
        refine lv_if_eq (tgt := 122) hx hb dX5_isIdle_114 (by decide) (fun c_2 => ?_) (fun c_2 => ?_)
        · skip
          have c_2 := bI_0 c_2
          refine lv_iconst (v := 1) hx hb dX5_isIdle_122 (by decide) ?_
          refine lv_goto (tgt := 127) hx hb dX5_isIdle_123 (by decide) ?_
          exact rd_zret (v := 1) hx hb hr hlocks rfl (by rw [(show m_X5_isIdle kk fr ax n = true from hm9.trans (by simp only [m_X5_isIdle_L9, if_pos c_1, if_pos c_2]))]; rfl) dX5_isIdle_127
        · skip
          have c_2 := bI_n0 c_2
          refine lv_iload hx hb dX5_isIdle_117 (lv_at hl 5 rfl) ?_
          refine lv_if_eq (tgt := 126) hx hb dX5_isIdle_119 (by decide) (fun c_3 => ?_) (fun c_3 => ?_)
          · skip
            have c_3 := bI_0 c_3
            refine lv_iconst (v := 0) hx hb dX5_isIdle_126 (by decide) ?_
            exact rd_zret (v := 0) hx hb hr hlocks rfl (by rw [(show m_X5_isIdle kk fr ax n = false from hm9.trans (by simp only [m_X5_isIdle_L9, if_pos c_1, if_neg c_2, if_pos c_3]))]; rfl) dX5_isIdle_127
          · skip
            have c_3 := bI_n0 c_3
            refine lv_iconst (v := 1) hx hb dX5_isIdle_122 (by decide) ?_
            refine lv_goto (tgt := 127) hx hb dX5_isIdle_123 (by decide) ?_
            exact rd_zret (v := 1) hx hb hr hlocks rfl (by rw [(show m_X5_isIdle kk fr ax n = true from hm9.trans (by simp only [m_X5_isIdle_L9, if_pos c_1, if_neg c_2, if_neg c_3]))]; rfl) dX5_isIdle_127
      · skip
        have c_1 : ¬ n ≤ i := (fun q_ => c_1 ((nI_leI (a := n) (b := i) (by omega) (by omega)).mpr q_))
        refine lv_aload_n hx hb dX5_isIdle_15 rfl (lv_at hl 0 rfl) ?_
        refine lv_iload_n hx hb dX5_isIdle_16 rfl (lv_at hl 1 rfl) ?_
        refine lv_iload hx hb dX5_isIdle_17 (lv_at hl 6 rfl) ?_
        refine rd_iadd hx hb (fr) (i) dX5_isIdle_19 ?_
        refine rd_iald hx hb hK hP 0 0 rfl rfl (fr + i) (by omega) (by omega) dX5_isIdle_20 ?_
        refine lv_istore (lv' := [(7, .int (kk (fr + i))), (0, .ref g0), (1, .int (nI fr)), (2, .int (nI ax)), (3, .int (nI n)), (4, .int (bI x4)), (5, .int (bI x5)), (6, .int (nI i))]) hx hb dX5_isIdle_21 hl (by decide) rfl (fun ls hl => ?_)
        refine lv_iload hx hb dX5_isIdle_23 (lv_at hl 5 rfl) ?_
        have j_4 : ∀ (y0_j_4 : Bool), y0_j_4 = m_X5_isIdle_j66_s0 kk fr ax i x4 → ∀ (ls : Array Slot), lv_has ls 8 [(0, .ref g0), (1, .int (nI fr)), (2, .int (nI ax)), (3, .int (nI n)), (4, .int (bI x4)), (5, .int (bI x5)), (6, .int (nI i)), (7, .int (kk (fr + i)))] → W p l e (headSpec wsX5_isIdle ({ frames := 0, cells := 0, slots := 0, locals := 0 } : Room)).room s m (([.ref g0, .int (nI fr), .int (nI ax), .int (nI n)] : List Value).toArray) below meth c s.heap [] 0 0 (MQ below (vp_Si (fun r => r = bI (m_X5_isIdle kk fr ax n))) (([.ref g0, .int (nI fr), .int (nI ax), .int (nI n)] : List Value).toArray) s 0 0 (fun _ => False)) (F0 m 66 ls [.int (bI y0_j_4)]) := by
          intro y0_j_4 ey0_j_4 ls hl
          subst ey0_j_4
          refine lv_istore (lv' := [(4, .int (bI (m_X5_isIdle_j66_s0 kk fr ax i x4))), (0, .ref g0), (1, .int (nI fr)), (2, .int (nI ax)), (3, .int (nI n)), (5, .int (bI x5)), (6, .int (nI i)), (7, .int (kk (fr + i)))]) hx hb dX5_isIdle_66 hl (by decide) rfl (fun ls hl => ?_)
          refine lv_iload hx hb dX5_isIdle_68 (lv_at hl 5 rfl) ?_
          have j_5 : ∀ (y0_j_5 : Bool), y0_j_5 = m_X5_isIdle_j104_s0 kk fr ax i x5 → ∀ (ls : Array Slot), lv_has ls 8 [(0, .ref g0), (1, .int (nI fr)), (2, .int (nI ax)), (3, .int (nI n)), (4, .int (bI (m_X5_isIdle_j66_s0 kk fr ax i x4))), (5, .int (bI x5)), (6, .int (nI i)), (7, .int (kk (fr + i)))] → W p l e (headSpec wsX5_isIdle ({ frames := 0, cells := 0, slots := 0, locals := 0 } : Room)).room s m (([.ref g0, .int (nI fr), .int (nI ax), .int (nI n)] : List Value).toArray) below meth c s.heap [] 0 0 (MQ below (vp_Si (fun r => r = bI (m_X5_isIdle kk fr ax n))) (([.ref g0, .int (nI fr), .int (nI ax), .int (nI n)] : List Value).toArray) s 0 0 (fun _ => False)) (F0 m 104 ls [.int (bI y0_j_5)]) := by
            intro y0_j_5 ey0_j_5 ls hl
            subst ey0_j_5
            refine lv_istore (lv' := [(5, .int (bI (m_X5_isIdle_j104_s0 kk fr ax i x5))), (0, .ref g0), (1, .int (nI fr)), (2, .int (nI ax)), (3, .int (nI n)), (4, .int (bI (m_X5_isIdle_j66_s0 kk fr ax i x4))), (6, .int (nI i)), (7, .int (kk (fr + i)))]) hx hb dX5_isIdle_104 hl (by decide) rfl (fun ls hl => ?_)
            refine lv_iinc (v := nI (i + 1)) (lv' := [(6, .int (nI (i + 1))), (5, .int (bI (m_X5_isIdle_j104_s0 kk fr ax i x5))), (0, .ref g0), (1, .int (nI fr)), (2, .int (nI ax)), (3, .int (nI n)), (4, .int (bI (m_X5_isIdle_j66_s0 kk fr ax i x4))), (7, .int (kk (fr + i)))]) hx hb dX5_isIdle_106 hl (k := 6) rfl (nI_add (i) 1) (by decide) rfl (fun ls hl => ?_)
            refine lv_goto (tgt := 9) hx hb dX5_isIdle_109 (by decide) ?_
            exact ih9 (i + 1) (m_X5_isIdle_j66_s0 kk fr ax i x4) (m_X5_isIdle_j104_s0 kk fr ax i x5) (by omega) (by omega)  (hm9.trans (by simp only [m_X5_isIdle_L9, if_neg c_1])) ls (lv_sub hl [2, 3, 4, 5, 6, 1, 0] rfl)
          refine lv_if_ne (tgt := 99) hx hb dX5_isIdle_70 (by decide) (fun c_6 => ?_) (fun c_6 => ?_)
          · skip
            have c_6 := bI_n0 c_6
            refine lv_iconst (v := 1) hx hb dX5_isIdle_99 (by decide) ?_
            refine lv_goto (tgt := 104) hx hb dX5_isIdle_100 (by decide) ?_
            exact j_5 true (by simp only [m_X5_isIdle_j104_s0, if_neg c_6]) ls (lv_sub hl [1, 2, 3, 4, 0, 5, 6, 7] rfl)
          · skip
            have c_6 := bI_0 c_6
            refine lv_iload hx hb dX5_isIdle_73 (lv_at hl 6 rfl) ?_
            refine lv_iload_n hx hb dX5_isIdle_75 rfl (lv_at hl 3 rfl) ?_
            refine lv_icmp_ge (tgt := 86) hx hb dX5_isIdle_76 (by decide) (fun c_7 => ?_) (fun c_7 => ?_)
            · skip
              have c_7 : ax ≤ i := (nI_leI (a := ax) (b := i) (by omega) (by omega)).mp c_7
              refine lv_iload hx hb dX5_isIdle_86 (lv_at hl 6 rfl) ?_
              refine lv_iload_n hx hb dX5_isIdle_88 rfl (lv_at hl 3 rfl) ?_
              refine lv_icmp_le (tgt := 103) hx hb dX5_isIdle_89 (by decide) (fun c_8 => ?_) (fun c_8 => ?_)
              · skip
                have c_8 : i ≤ ax := (nI_leI (a := i) (b := ax) (by omega) (by omega)).mp c_8
                refine lv_iconst (v := 0) hx hb dX5_isIdle_103 (by decide) ?_
                exact j_5 false (by simp only [m_X5_isIdle_j104_s0, if_pos c_6, if_pos c_7, if_pos c_8]) ls (lv_sub hl [1, 2, 3, 4, 0, 5, 6, 7] rfl)
              · skip
                have c_8 : ¬ i ≤ ax := (fun q_ => c_8 ((nI_leI (a := i) (b := ax) (by omega) (by omega)).mpr q_))
                refine lv_iload hx hb dX5_isIdle_92 (lv_at hl 7 rfl) ?_
                refine lv_bipush (v := 16) hx hb dX5_isIdle_94 (by decide) ?_
                refine lv_icmp_ne (tgt := 103) hx hb dX5_isIdle_96 (by decide) (fun c_9 => ?_) (fun c_9 => ?_)
                · skip
                  refine lv_iconst (v := 0) hx hb dX5_isIdle_103 (by decide) ?_
                  exact j_5 false (by simp only [m_X5_isIdle_j104_s0, if_pos c_6, if_pos c_7, if_neg c_8, if_neg c_9]) ls (lv_sub hl [1, 2, 3, 4, 0, 5, 6, 7] rfl)
                · skip
                  refine lv_iconst (v := 1) hx hb dX5_isIdle_99 (by decide) ?_
                  refine lv_goto (tgt := 104) hx hb dX5_isIdle_100 (by decide) ?_
                  exact j_5 true (by simp only [m_X5_isIdle_j104_s0, if_pos c_6, if_pos c_7, if_neg c_8, if_pos c_9]) ls (lv_sub hl [1, 2, 3, 4, 0, 5, 6, 7] rfl)
            · skip
              have c_7 : ¬ ax ≤ i := (fun q_ => c_7 ((nI_leI (a := ax) (b := i) (by omega) (by omega)).mpr q_))
              refine lv_iload hx hb dX5_isIdle_79 (lv_at hl 7 rfl) ?_
              refine lv_bipush (v := 17) hx hb dX5_isIdle_81 (by decide) ?_
              refine lv_icmp_eq (tgt := 99) hx hb dX5_isIdle_83 (by decide) (fun c_10 => ?_) (fun c_10 => ?_)
              · skip
                refine lv_iconst (v := 1) hx hb dX5_isIdle_99 (by decide) ?_
                refine lv_goto (tgt := 104) hx hb dX5_isIdle_100 (by decide) ?_
                exact j_5 true (by simp only [m_X5_isIdle_j104_s0, if_pos c_6, if_neg c_7, if_pos c_10]) ls (lv_sub hl [1, 2, 3, 4, 0, 5, 6, 7] rfl)
              · skip
                refine lv_iload hx hb dX5_isIdle_86 (lv_at hl 6 rfl) ?_
                refine lv_iload_n hx hb dX5_isIdle_88 rfl (lv_at hl 3 rfl) ?_
                refine lv_icmp_le (tgt := 103) hx hb dX5_isIdle_89 (by decide) (fun c_11 => ?_) (fun c_11 => ?_)
                · skip
                  have c_11 : i ≤ ax := (nI_leI (a := i) (b := ax) (by omega) (by omega)).mp c_11
                  refine lv_iconst (v := 0) hx hb dX5_isIdle_103 (by decide) ?_
                  exact j_5 false (by simp only [m_X5_isIdle_j104_s0, if_pos c_6, if_neg c_7, if_neg c_10, if_pos c_11]) ls (lv_sub hl [1, 2, 3, 4, 0, 5, 6, 7] rfl)
                · skip
                  have c_11 : ¬ i ≤ ax := (fun q_ => c_11 ((nI_leI (a := i) (b := ax) (by omega) (by omega)).mpr q_))
                  refine lv_iload hx hb dX5_isIdle_92 (lv_at hl 7 rfl) ?_
                  refine lv_bipush (v := 16) hx hb dX5_isIdle_94 (by decide) ?_
                  refine lv_icmp_ne (tgt := 103) hx hb dX5_isIdle_96 (by decide) (fun c_12 => ?_) (fun c_12 => ?_)
                  · skip
                    refine lv_iconst (v := 0) hx hb dX5_isIdle_103 (by decide) ?_
                    exact j_5 false (by simp only [m_X5_isIdle_j104_s0, if_pos c_6, if_neg c_7, if_neg c_10, if_neg c_11, if_neg c_12]) ls (lv_sub hl [1, 2, 3, 4, 0, 5, 6, 7] rfl)
                  · skip
                    refine lv_iconst (v := 1) hx hb dX5_isIdle_99 (by decide) ?_
                    refine lv_goto (tgt := 104) hx hb dX5_isIdle_100 (by decide) ?_
                    exact j_5 true (by simp only [m_X5_isIdle_j104_s0, if_pos c_6, if_neg c_7, if_neg c_10, if_neg c_11, if_pos c_12]) ls (lv_sub hl [1, 2, 3, 4, 0, 5, 6, 7] rfl)
        refine lv_if_ne (tgt := 61) hx hb dX5_isIdle_25 (by decide) (fun c_13 => ?_) (fun c_13 => ?_)
        · skip
          have c_13 := bI_n0 c_13
          refine lv_iconst (v := 1) hx hb dX5_isIdle_61 (by decide) ?_
          refine lv_goto (tgt := 66) hx hb dX5_isIdle_62 (by decide) ?_
          exact j_4 true (by simp only [m_X5_isIdle_j66_s0, if_neg c_13]) ls (lv_sub hl [1, 2, 3, 4, 5, 6, 7, 0] rfl)
        · skip
          have c_13 := bI_0 c_13
          refine lv_iload hx hb dX5_isIdle_28 (lv_at hl 7 rfl) ?_
          refine lv_iload_n hx hb dX5_isIdle_30 rfl (lv_at hl 3 rfl) ?_
          refine lv_icmp_le (tgt := 65) hx hb dX5_isIdle_31 (by decide) (fun c_14 => ?_) (fun c_14 => ?_)
          · skip
            have c_14 : i ≤ ax := (nI_leI (a := i) (b := ax) (by omega) (by omega)).mp c_14
            refine lv_iconst (v := 0) hx hb dX5_isIdle_65 (by decide) ?_
            exact j_4 false (by simp only [m_X5_isIdle_j66_s0, if_pos c_13, if_pos c_14]) ls (lv_sub hl [1, 2, 3, 4, 5, 6, 7, 0] rfl)
          · skip
            have c_14 : ¬ i ≤ ax := (fun q_ => c_14 ((nI_leI (a := i) (b := ax) (by omega) (by omega)).mpr q_))
            refine lv_iload hx hb dX5_isIdle_34 (lv_at hl 0 rfl) ?_
            refine lv_iconst (v := 5) hx hb dX5_isIdle_36 (by decide) ?_
            refine lv_icmp_le (tgt := 47) hx hb dX5_isIdle_37 (by decide) (fun c_15 => ?_) (fun c_15 => ?_)
            · skip
              refine lv_iload hx hb dX5_isIdle_47 (lv_at hl 0 rfl) ?_
              refine lv_bipush (v := 16) hx hb dX5_isIdle_49 (by decide) ?_
              refine lv_icmp_eq (tgt := 61) hx hb dX5_isIdle_51 (by decide) (fun c_16 => ?_) (fun c_16 => ?_)
              · skip
                refine lv_iconst (v := 1) hx hb dX5_isIdle_61 (by decide) ?_
                refine lv_goto (tgt := 66) hx hb dX5_isIdle_62 (by decide) ?_
                exact j_4 true (by simp only [m_X5_isIdle_j66_s0, if_pos c_13, if_neg c_14, if_pos c_15, if_pos c_16]) ls (lv_sub hl [1, 2, 3, 4, 5, 6, 7, 0] rfl)
              · skip
                refine lv_iload hx hb dX5_isIdle_54 (lv_at hl 0 rfl) ?_
                refine lv_bipush (v := 17) hx hb dX5_isIdle_56 (by decide) ?_
                refine lv_icmp_ne (tgt := 65) hx hb dX5_isIdle_58 (by decide) (fun c_17 => ?_) (fun c_17 => ?_)
                · skip
                  refine lv_iconst (v := 0) hx hb dX5_isIdle_65 (by decide) ?_
                  exact j_4 false (by simp only [m_X5_isIdle_j66_s0, if_pos c_13, if_neg c_14, if_pos c_15, if_neg c_16, if_neg c_17]) ls (lv_sub hl [1, 2, 3, 4, 5, 6, 7, 0] rfl)
                · skip
                  refine lv_iconst (v := 1) hx hb dX5_isIdle_61 (by decide) ?_
                  refine lv_goto (tgt := 66) hx hb dX5_isIdle_62 (by decide) ?_
                  exact j_4 true (by simp only [m_X5_isIdle_j66_s0, if_pos c_13, if_neg c_14, if_pos c_15, if_neg c_16, if_pos c_17]) ls (lv_sub hl [1, 2, 3, 4, 5, 6, 7, 0] rfl)
            · skip
              refine lv_iload hx hb dX5_isIdle_40 (lv_at hl 0 rfl) ?_
              refine lv_bipush (v := 13) hx hb dX5_isIdle_42 (by decide) ?_
              refine lv_icmp_lt (tgt := 61) hx hb dX5_isIdle_44 (by decide) (fun c_18 => ?_) (fun c_18 => ?_)
              · skip
                refine lv_iconst (v := 1) hx hb dX5_isIdle_61 (by decide) ?_
                refine lv_goto (tgt := 66) hx hb dX5_isIdle_62 (by decide) ?_
                exact j_4 true (by simp only [m_X5_isIdle_j66_s0, if_pos c_13, if_neg c_14, if_neg c_15, if_pos c_18]) ls (lv_sub hl [1, 2, 3, 4, 5, 6, 7, 0] rfl)
              · skip
                refine lv_iload hx hb dX5_isIdle_47 (lv_at hl 0 rfl) ?_
                refine lv_bipush (v := 16) hx hb dX5_isIdle_49 (by decide) ?_
                refine lv_icmp_eq (tgt := 61) hx hb dX5_isIdle_51 (by decide) (fun c_19 => ?_) (fun c_19 => ?_)
                · skip
                  refine lv_iconst (v := 1) hx hb dX5_isIdle_61 (by decide) ?_
                  refine lv_goto (tgt := 66) hx hb dX5_isIdle_62 (by decide) ?_
                  exact j_4 true (by simp only [m_X5_isIdle_j66_s0, if_pos c_13, if_neg c_14, if_neg c_15, if_neg c_18, if_pos c_19]) ls (lv_sub hl [1, 2, 3, 4, 5, 6, 7, 0] rfl)
                · skip
                  refine lv_iload hx hb dX5_isIdle_54 (lv_at hl 0 rfl) ?_
                  refine lv_bipush (v := 17) hx hb dX5_isIdle_56 (by decide) ?_
                  refine lv_icmp_ne (tgt := 65) hx hb dX5_isIdle_58 (by decide) (fun c_20 => ?_) (fun c_20 => ?_)
                  · skip
                    refine lv_iconst (v := 0) hx hb dX5_isIdle_65 (by decide) ?_
                    exact j_4 false (by simp only [m_X5_isIdle_j66_s0, if_pos c_13, if_neg c_14, if_neg c_15, if_neg c_18, if_neg c_19, if_neg c_20]) ls (lv_sub hl [1, 2, 3, 4, 5, 6, 7, 0] rfl)
                  · skip
                    refine lv_iconst (v := 1) hx hb dX5_isIdle_61 (by decide) ?_
                    refine lv_goto (tgt := 66) hx hb dX5_isIdle_62 (by decide) ?_
                    exact j_4 true (by simp only [m_X5_isIdle_j66_s0, if_pos c_13, if_neg c_14, if_neg c_15, if_neg c_18, if_neg c_19, if_pos c_20]) ls (lv_sub hl [1, 2, 3, 4, 5, 6, 7, 0] rfl)
  exact lp_9 (n + 1) (0) false false (by omega) (by omega)  (show m_X5_isIdle kk fr ax n = m_X5_isIdle_L9 kk fr ax n (n + 1) 0 false false from by simp only [m_X5_isIdle]) ls (lv_sub hl [3, 4, 5, 6, 2, 1, 0] rfl)
