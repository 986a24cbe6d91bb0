def m_J1_canEncode_9a6ad (i : Nat) (ch : Int32) : Bool := if ch < 0 then false else (if 255 < ch then false else true)
set_option maxHeartbeats 4000000 in
set_option maxRecDepth 100000 in
theorem c_J1_canEncode_9a6ad (l : Launch) (adK : Nat → Nat) (adV : Nat → Nat) (i : Nat) (ch : Int32) (hi : i < 3) : Met l yJ1_canEncode_9a6ad wsJ1_canEncode_9a6ad ({ frames := 0, cells := 0, slots := 0, locals := 0 } : Room) (va_Pc [.int ch] (st_P adK adV)) (vp_Si (fun r => r = bI (m_J1_canEncode_9a6ad i ch))) 0 0 (fun _ => False) := by
  refine Met.ofW (cc := cJ1_canEncode_9a6ad) (maxL := 1) (ret := (some .boolean)) (by decide) rfl ?_
  intro p e s m args below meth c s₁ B hml hv
  obtain ⟨rfl, hZc, hSt⟩ := hv
  have hx := B.exec
  have hb := B.bytes
  have hr := B.returns
  have hts := atoms_spec (ws := wsJ1_canEncode_9a6ad) B.pre
  have hown : s.vm.findClass RJ1 = some m.cls := findClass_of_methodNamed B.named
  have hlocks := B.notSynchronized
  have hl := lv_entry ([.int ch]) (n := 1) (Nat.le_of_ble_eq_true rfl)
  rw [lg_entry_eq]
  generalize (lg_sl ([.int ch]) ++ List.replicate (1 - (lg_sl ([.int ch])).length) Slot.unset).toArray = ls at hl ⊢
  have hl : lv_has ls 1 [(0, .int ch)] := hl
  have hev := evLen_lt i
  refine lv_iload_n hx hb dJ1_canEncode_9a6ad_0 rfl (lv_at hl 0 rfl) ?_
  refine lv_if_lt (tgt := 15) hx hb dJ1_canEncode_9a6ad_1 (by decide) (fun c_1 => ?_) (fun c_1 => ?_)
  · skip
    refine lv_iconst (v := 0) hx hb dJ1_canEncode_9a6ad_15 (by decide) ?_
    exact rd_zret (v := 0) hx hb hr hlocks rfl (by rw [(show m_J1_canEncode_9a6ad i ch = false from by simp only [m_J1_canEncode_9a6ad, if_pos c_1])]; rfl) dJ1_canEncode_9a6ad_16
  · skip
    refine lv_iload_n hx hb dJ1_canEncode_9a6ad_4 rfl (lv_at hl 0 rfl) ?_
    refine lv_sipush (v := 255) hx hb dJ1_canEncode_9a6ad_5 (by decide) ?_
    refine lv_icmp_gt (tgt := 15) hx hb dJ1_canEncode_9a6ad_8 (by decide) (fun c_2 => ?_) (fun c_2 => ?_)
    · skip
      refine lv_iconst (v := 0) hx hb dJ1_canEncode_9a6ad_15 (by decide) ?_
      exact rd_zret (v := 0) hx hb hr hlocks rfl (by rw [(show m_J1_canEncode_9a6ad i ch = false from by simp only [m_J1_canEncode_9a6ad, if_neg c_1, if_pos c_2])]; rfl) dJ1_canEncode_9a6ad_16
    · skip
      refine lv_iconst (v := 1) hx hb dJ1_canEncode_9a6ad_11 (by decide) ?_
      refine lv_goto (tgt := 16) hx hb dJ1_canEncode_9a6ad_12 (by decide) ?_
      exact rd_zret (v := 1) hx hb hr hlocks rfl (by rw [(show m_J1_canEncode_9a6ad i ch = true from by simp only [m_J1_canEncode_9a6ad, if_neg c_1, if_neg c_2])]; rfl) dJ1_canEncode_9a6ad_16
def m_J0_isLatin1_aae02 (i : Nat) : Bool := true
set_option maxHeartbeats 4000000 in
set_option maxRecDepth 100000 in
theorem c_J0_isLatin1_aae02 (l : Launch) (adK : Nat → Nat) (adV : Nat → Nat) (i : Nat) (hi : i < 3) : Met l yJ0_isLatin1_aae02 wsJ0_isLatin1_aae02 ({ frames := 0, cells := 0, slots := 0, locals := 0 } : Room) (va_Pc [.ref (adK i)] (st_P adK adV)) (vp_Si (fun r => r = bI (m_J0_isLatin1_aae02 i))) 0 0 (fun _ => False) := by
  refine Met.ofW (cc := cJ0_isLatin1_aae02) (maxL := 1) (ret := (some .boolean)) (by decide) rfl ?_
  intro p e s m args below meth c s₁ B hml hv
  obtain ⟨rfl, hZc, hSt⟩ := hv
  have hx := B.exec
  have hb := B.bytes
  have hr := B.returns
  have hts := atoms_spec (ws := wsJ0_isLatin1_aae02) B.pre
  have hown : s.vm.findClass RJ0 = some m.cls := findClass_of_methodNamed B.named
  have hlocks := B.notSynchronized
  have hl := lv_entry ([.ref (adK i)]) (n := 1) (Nat.le_of_ble_eq_true rfl)
  rw [lg_entry_eq]
  generalize (lg_sl ([.ref (adK i)]) ++ List.replicate (1 - (lg_sl ([.ref (adK i)])).length) Slot.unset).toArray = ls at hl ⊢
  have hl : lv_has ls 1 [(0, .ref (adK i))] := hl
  have hev := evLen_lt i
  refine va_gets hx hb hZc va_S.rf hown (hts (.fieldLink RJ0 38 "java/lang/String" "COMPACT_STRINGS" "Z") (by decide +kernel)) (fun _ h9 => h9) dJ0_isLatin1_aae02_0 ?_
  refine lv_if_eq (tgt := 17) hx hb dJ0_isLatin1_aae02_3 (by decide) (fun c_1 => ?_) (fun c_1 => ?_)
  · skip
    exact absurd c_1 (by decide)
  · skip
    refine lv_aload_n hx hb dJ0_isLatin1_aae02_6 rfl (lv_at hl 0 rfl) ?_
    refine vk_getf (v := .int 0) hx hb (hSt.1 i hi).2.1 va_S.rf hown (hts (.fieldLink RJ0 15 "java/lang/String" "coder" "B") (by decide +kernel)) (fun _ h9 => h9) dJ0_isLatin1_aae02_7 ?_
    refine lv_if_ne (tgt := 17) hx hb dJ0_isLatin1_aae02_10 (by decide) (fun c_2 => ?_) (fun c_2 => ?_)
    · skip
      exact absurd (by decide) c_2
    · skip
      refine lv_iconst (v := 1) hx hb dJ0_isLatin1_aae02_13 (by decide) ?_
      refine lv_goto (tgt := 18) hx hb dJ0_isLatin1_aae02_14 (by decide) ?_
      exact rd_zret (v := 1) hx hb hr hlocks rfl (by rw [(show m_J0_isLatin1_aae02 i = true from by simp only [m_J0_isLatin1_aae02])]; rfl) dJ0_isLatin1_aae02_18
def m_J0_coder_7d493 (i : Nat) : Int32 := 0
set_option maxHeartbeats 4000000 in
set_option maxRecDepth 100000 in
theorem c_J0_coder_7d493 (l : Launch) (adK : Nat → Nat) (adV : Nat → Nat) (i : Nat) (hi : i < 3) : Met l yJ0_coder_7d493 wsJ0_coder_7d493 ({ frames := 0, cells := 0, slots := 0, locals := 0 } : Room) (va_Pc [.ref (adK i)] (st_P adK adV)) (vp_Si (fun r => r = m_J0_coder_7d493 i)) 0 0 (fun _ => False) := by
  refine Met.ofW (cc := cJ0_coder_7d493) (maxL := 1) (ret := (some .byte)) (by decide) rfl ?_
  intro p e s m args below meth c s₁ B hml hv
  obtain ⟨rfl, hZc, hSt⟩ := hv
  have hx := B.exec
  have hb := B.bytes
  have hr := B.returns
  have hts := atoms_spec (ws := wsJ0_coder_7d493) B.pre
  have hown : s.vm.findClass RJ0 = some m.cls := findClass_of_methodNamed B.named
  have hlocks := B.notSynchronized
  have hl := lv_entry ([.ref (adK i)]) (n := 1) (Nat.le_of_ble_eq_true rfl)
  rw [lg_entry_eq]
  generalize (lg_sl ([.ref (adK i)]) ++ List.replicate (1 - (lg_sl ([.ref (adK i)])).length) Slot.unset).toArray = ls at hl ⊢
  have hl : lv_has ls 1 [(0, .ref (adK i))] := hl
  have hev := evLen_lt i
  refine va_gets hx hb hZc va_S.rf hown (hts (.fieldLink RJ0 38 "java/lang/String" "COMPACT_STRINGS" "Z") (by decide +kernel)) (fun _ h9 => h9) dJ0_coder_7d493_0 ?_
  refine lv_if_eq (tgt := 13) hx hb dJ0_coder_7d493_3 (by decide) (fun c_1 => ?_) (fun c_1 => ?_)
  · skip
    exact absurd c_1 (by decide)
  · skip
    refine lv_aload_n hx hb dJ0_coder_7d493_6 rfl (lv_at hl 0 rfl) ?_
    refine vk_getf (v := .int 0) hx hb (hSt.1 i hi).2.1 va_S.rf hown (hts (.fieldLink RJ0 15 "java/lang/String" "coder" "B") (by decide +kernel)) (fun _ h9 => h9) dJ0_coder_7d493_7 ?_
    refine lv_goto (tgt := 14) hx hb dJ0_coder_7d493_10 (by decide) ?_
    exact rd_yret (v := 0) hx hb hr hlocks rfl (show m_J0_coder_7d493 i = 0 from by simp only [m_J0_coder_7d493]).symm dJ0_coder_7d493_14
def m_J0_length_8abf5 (i : Nat) : Nat := evLen.getD i 0
set_option maxHeartbeats 4000000 in
set_option maxRecDepth 100000 in
theorem c_J0_length_8abf5 (l : Launch) (adK : Nat → Nat) (adV : Nat → Nat) (i : Nat) (hi : i < 3) : Met l yJ0_length_8abf5 wsJ0_length_8abf5 ({ frames := 1, cells := 0, slots := 0, locals := 20 } : Room) (va_Pc [.ref (adK i)] (st_P adK adV)) (vp_Si (fun r => r = nI (m_J0_length_8abf5 i))) 0 0 (fun _ => False) := by
  refine Met.ofW (cc := cJ0_length_8abf5) (maxL := 1) (ret := (some .int)) (by decide) rfl ?_
  intro p e s m args below meth c s₁ B hml hv
  obtain ⟨rfl, hZc, hSt⟩ := hv
  have hx := B.exec
  have hb := B.bytes
  have hr := B.returns
  have hts := atoms_spec (ws := wsJ0_length_8abf5) B.pre
  have hown : s.vm.findClass RJ0 = some m.cls := findClass_of_methodNamed B.named
  have hlocks := B.notSynchronized
  have hl := lv_entry ([.ref (adK i)]) (n := 1) (Nat.le_of_ble_eq_true rfl)
  rw [lg_entry_eq]
  generalize (lg_sl ([.ref (adK i)]) ++ List.replicate (1 - (lg_sl ([.ref (adK i)])).length) Slot.unset).toArray = ls at hl ⊢
  have hl : lv_has ls 1 [(0, .ref (adK i))] := hl
  have hev := evLen_lt i
  refine lv_aload_n hx hb dJ0_length_8abf5_0 rfl (lv_at hl 0 rfl) ?_
  refine vk_getf (v := .ref (adV i)) hx hb (hSt.1 i hi).2.2.1 va_S.rf hown (hts (.fieldLink RJ0 9 "java/lang/String" "value" "[B") (by decide +kernel)) (fun _ h9 => h9) dJ0_length_8abf5_1 ?_
  refine va_tlen (v := nI (evLen.getD i 0)) hx hb (hSt.1 i hi).2.2.2 va_S.rf rfl dJ0_length_8abf5_4 ?_
  refine lv_aload_n hx hb dJ0_length_8abf5_5 rfl (lv_at hl 0 rfl) ?_
  refine st_callV (As := []) (rest := [.int (nI (evLen.getD i 0))]) ⟨hx, hb, hml, hown, hts⟩ hZc hSt (c_J0_coder_7d493 l adK adV i (by omega)) (cwV 0 hts gJ0_length_8abf5_J0_coder_7d493 rfl rfl rfl (by decide +kernel) ⟨Nat.le_of_ble_eq_true rfl, Nat.le_of_ble_eq_true rfl⟩) (vk_recv hSt (by omega) va_S.rf) rfl hl.1 rfl (Nat.le_of_ble_eq_true rfl) dJ0_length_8abf5_6 ⟨Nat.zero_le _, Nat.zero_le _⟩ (fun r9 hr9 => ?_)
  subst hr9
  refine lv_topc (v := 0) rfl ?_
  refine lv_ishr hx hb dJ0_length_8abf5_9 ?_
  refine lv_topn (n := evLen.getD i 0) (by exact sc_shr0 (by omega)) ?_
  exact rd_iret (v := nI (evLen.getD i 0)) hx hb hr hlocks (congrArg nI (show m_J0_length_8abf5 i = evLen.getD i 0 from by simp only [m_J0_length_8abf5])).symm dJ0_length_8abf5_10
def m_J1_indexOfChar_4cfef_L7 (i : Nat) (ch : Int32) (to : Nat) : Nat → Nat → Int32
  | 0, _ => 0
  | k7 + 1, j => if to ≤ j then ((-1)) else (if ((evByt.getD i []).getD j 0) = ch.toInt8.toInt32 then (nI j) else (m_J1_indexOfChar_4cfef_L7 i ch to k7 (j + 1)))
def m_J1_indexOfChar_4cfef (i : Nat) (ch : Int32) (to : Nat) : Int32 := m_J1_indexOfChar_4cfef_L7 i ch to (to + 1) 0
set_option maxHeartbeats 4000000 in
set_option maxRecDepth 100000 in
theorem c_J1_indexOfChar_4cfef (l : Launch) (adK : Nat → Nat) (adV : Nat → Nat) (i : Nat) (ch : Int32) (to : Nat) (hi : i < 3) (hto : to ≤ evLen.getD i 0) : Met l yJ1_indexOfChar_4cfef wsJ1_indexOfChar_4cfef ({ frames := 0, cells := 0, slots := 0, locals := 0 } : Room) (va_Pc [.ref (adV i), .int ch, .int 0, .int (nI to)] (st_P adK adV)) (vp_Si (fun r => r = m_J1_indexOfChar_4cfef i ch to)) 0 0 (fun _ => False) := by
  refine Met.ofW (cc := cJ1_indexOfChar_4cfef) (maxL := 6) (ret := (some .int)) (by decide) rfl ?_
  intro p e s m args below meth c s₁ B hml hv
  obtain ⟨rfl, hZc, hSt⟩ := hv
  have hx := B.exec
  have hb := B.bytes
  have hr := B.returns
  have hts := atoms_spec (ws := wsJ1_indexOfChar_4cfef) B.pre
  have hown : s.vm.findClass RJ1 = some m.cls := findClass_of_methodNamed B.named
  have hlocks := B.notSynchronized
  have hl := lv_entry ([.ref (adV i), .int ch, .int 0, .int (nI to)]) (n := 6) (Nat.le_of_ble_eq_true rfl)
  rw [lg_entry_eq]
  generalize (lg_sl ([.ref (adV i), .int ch, .int 0, .int (nI to)]) ++ List.replicate (6 - (lg_sl ([.ref (adV i), .int ch, .int 0, .int (nI to)])).length) Slot.unset).toArray = ls at hl ⊢
  have hl : lv_has ls 6 [(0, .ref (adV i)), (1, .int ch), (2, .int 0), (3, .int (nI to))] := hl
  have hev := evLen_lt i
  refine lv_iload_n hx hb dJ1_indexOfChar_4cfef_0 rfl (lv_at hl 1 rfl) ?_
  refine lv_i2b (v := ch.toInt8.toInt32) hx hb dJ1_indexOfChar_4cfef_1 rfl ?_
  refine lv_istore (lv' := [(4, .int ch.toInt8.toInt32), (0, .ref (adV i)), (1, .int ch), (2, .int 0), (3, .int (nI to))]) hx hb dJ1_indexOfChar_4cfef_2 hl (by decide) rfl (fun ls hl => ?_)
  refine lv_iload_n hx hb dJ1_indexOfChar_4cfef_4 rfl (lv_at hl 3 rfl) ?_
  refine lv_istore (lv' := [(5, .int 0), (4, .int ch.toInt8.toInt32), (0, .ref (adV i)), (1, .int ch), (2, .int 0), (3, .int (nI to))]) hx hb dJ1_indexOfChar_4cfef_5 hl (by decide) rfl (fun ls hl => ?_)
  have lp_7 : ∀ (k7 j : Nat), j ≤ to → to + 1 ≤ j + k7 → m_J1_indexOfChar_4cfef i ch to = m_J1_indexOfChar_4cfef_L7 i ch to k7 j → ∀ (ls : Array Slot), lv_has ls 6 [(0, .ref (adV i)), (1, .int ch), (2, .int 0), (3, .int (nI to)), (4, .int ch.toInt8.toInt32), (5, .int (nI j))] → W p l e (headSpec wsJ1_indexOfChar_4cfef ({ frames := 0, cells := 0, slots := 0, locals := 0 } : Room)).room s m (([.ref (adV i), .int ch, .int 0, .int (nI to)] : List Value).toArray) below meth c s.heap [] 0 0 (MQ below (vp_Si (fun r => r = m_J1_indexOfChar_4cfef i ch to)) (([.ref (adV i), .int ch, .int 0, .int (nI to)] : List Value).toArray) s 0 0 (fun _ => False)) (F0 m 7 ls []) := by
    intro k7
    induction k7 with
    | zero => intro j  h1_ h2_; exfalso; omega
    | succ k7 ih7 =>
      intro j  hb7 hf7  hm7 ls hl
      refine lv_iload hx hb dJ1_indexOfChar_4cfef_7 (lv_at hl 5 rfl) ?_
      refine lv_iload_n hx hb dJ1_indexOfChar_4cfef_9 rfl (lv_at hl 3 rfl) ?_
      refine lv_icmp_ge (tgt := 31) hx hb dJ1_indexOfChar_4cfef_10 (by decide) (fun c_1 => ?_) (fun c_1 => ?_)
      · skip
        have c_1 : to ≤ j := (nI_leI (a := to) (b := j) (by omega) (by omega)).mp c_1
        refine lv_iconst (v := (-1)) hx hb dJ1_indexOfChar_4cfef_31 (by decide) ?_
        exact rd_iret (v := (-1)) hx hb hr hlocks (show m_J1_indexOfChar_4cfef i ch to = (-1) from hm7.trans (by simp only [m_J1_indexOfChar_4cfef_L7, if_pos c_1])).symm dJ1_indexOfChar_4cfef_32
      · skip
        have c_1 : ¬ to ≤ j := (fun q_ => c_1 ((nI_leI (a := to) (b := j) (by omega) (by omega)).mpr q_))
        refine lv_aload_n hx hb dJ1_indexOfChar_4cfef_13 rfl (lv_at hl 0 rfl) ?_
        refine lv_iload hx hb dJ1_indexOfChar_4cfef_14 (lv_at hl 5 rfl) ?_
        refine st_baload hx hb (hSt.1 i hi).2.2.2 (j) (by omega) (by omega) dJ1_indexOfChar_4cfef_16 ?_
        refine lv_iload hx hb dJ1_indexOfChar_4cfef_17 (lv_at hl 4 rfl) ?_
        refine lv_icmp_ne (tgt := 25) hx hb dJ1_indexOfChar_4cfef_19 (by decide) (fun c_2 => ?_) (fun c_2 => ?_)
        · skip
          refine lv_iinc (v := nI (j + 1)) (lv' := [(5, .int (nI (j + 1))), (0, .ref (adV i)), (1, .int ch), (2, .int 0), (3, .int (nI to)), (4, .int ch.toInt8.toInt32)]) hx hb dJ1_indexOfChar_4cfef_25 hl (k := 5) rfl (nI_add (j) 1) (by decide) rfl (fun ls hl => ?_)
          refine lv_goto (tgt := 7) hx hb dJ1_indexOfChar_4cfef_28 (by decide) ?_
          exact ih7 (j + 1)  (by omega) (by omega)  (hm7.trans (by simp only [m_J1_indexOfChar_4cfef_L7, if_neg c_1, if_neg c_2])) ls (lv_sub hl [1, 2, 3, 4, 5, 0] rfl)
        · skip
          refine lv_iload hx hb dJ1_indexOfChar_4cfef_22 (lv_at hl 5 rfl) ?_
          exact rd_iret (v := nI j) hx hb hr hlocks (show m_J1_indexOfChar_4cfef i ch to = nI j from hm7.trans (by simp only [m_J1_indexOfChar_4cfef_L7, if_neg c_1, if_pos c_2])).symm dJ1_indexOfChar_4cfef_24
  exact lp_7 (to + 1) (0)  (by omega) (by omega)  (show m_J1_indexOfChar_4cfef i ch to = m_J1_indexOfChar_4cfef_L7 i ch to (to + 1) 0 from by simp only [m_J1_indexOfChar_4cfef]) ls (lv_sub hl [2, 3, 4, 5, 1, 0] rfl)
def m_J1_indexOf_4cfef (i : Nat) (ch : Int32) (to : Nat) : Int32 := if (m_J1_canEncode_9a6ad i ch) = false then ((-1)) else (if 0 < to then (m_J1_indexOfChar_4cfef i ch to) else ((-1)))
set_option maxHeartbeats 4000000 in
set_option maxRecDepth 100000 in
theorem c_J1_indexOf_4cfef (l : Launch) (adK : Nat → Nat) (adV : Nat → Nat) (i : Nat) (ch : Int32) (to : Nat) (hi : i < 3) (hto : to = evLen.getD i 0) : Met l yJ1_indexOf_4cfef wsJ1_indexOf_4cfef ({ frames := 1, cells := 0, slots := 0, locals := 25 } : Room) (va_Pc [.ref (adV i), .int ch, .int 0, .int (nI to)] (st_P adK adV)) (vp_Si (fun r => r = m_J1_indexOf_4cfef i ch to)) 0 0 (fun _ => False) := by
  refine Met.ofW (cc := cJ1_indexOf_4cfef) (maxL := 4) (ret := (some .int)) (by decide) rfl ?_
  intro p e s m args below meth c s₁ B hml hv
  obtain ⟨rfl, hZc, hSt⟩ := hv
  have hx := B.exec
  have hb := B.bytes
  have hr := B.returns
  have hts := atoms_spec (ws := wsJ1_indexOf_4cfef) B.pre
  have hown : s.vm.findClass RJ1 = some m.cls := findClass_of_methodNamed B.named
  have hlocks := B.notSynchronized
  have hl := lv_entry ([.ref (adV i), .int ch, .int 0, .int (nI to)]) (n := 4) (Nat.le_of_ble_eq_true rfl)
  rw [lg_entry_eq]
  generalize (lg_sl ([.ref (adV i), .int ch, .int 0, .int (nI to)]) ++ List.replicate (4 - (lg_sl ([.ref (adV i), .int ch, .int 0, .int (nI to)])).length) Slot.unset).toArray = ls at hl ⊢
  have hl : lv_has ls 4 [(0, .ref (adV i)), (1, .int ch), (2, .int 0), (3, .int (nI to))] := hl
  have hev := evLen_lt i
  refine lv_iload_n hx hb dJ1_indexOf_4cfef_0 rfl (lv_at hl 1 rfl) ?_
  refine st_callS (As := [.int ch]) (rest := []) ⟨hx, hb, hml, hown, hts⟩ hZc hSt (c_J1_canEncode_9a6ad l adK adV i ch (by omega)) (va_cwS 1 hts gJ1_indexOf_4cfef_J1_canEncode_9a6ad rfl rfl rfl (by decide +kernel) ⟨Nat.le_of_ble_eq_true rfl, Nat.le_of_ble_eq_true rfl⟩) rfl hl.1 rfl (Nat.le_of_ble_eq_true rfl) dJ1_indexOf_4cfef_1 ⟨Nat.zero_le _, Nat.zero_le _⟩ (fun r9 hr9 => ?_)
  subst hr9
  refine lv_if_ne (tgt := 9) hx hb dJ1_indexOf_4cfef_4 (by decide) (fun c_1 => ?_) (fun c_1 => ?_)
  · skip
    have c_1 := bI_n0 c_1
    refine lv_iload_n hx hb dJ1_indexOf_4cfef_9 rfl (lv_at hl 2 rfl) ?_
    refine lv_iconst (v := 0) hx hb dJ1_indexOf_4cfef_10 (by decide) ?_
    refine va_mmax (rest := []) (x := 0) (y := 0) hx hb (hml.trans hl.1.symm) hown (hts (.methodLink RJ1 92 Lib.Math.max.name) (by decide +kernel)) (hts (.static Lib.Math.max.name) (by decide +kernel)) (hts (.initialized "java/lang/Math") (by decide +kernel)) (hts (.code Lib.Math.max.name Lib.Math.max.code 2 (some .int)) (by decide +kernel)) (Nat.le_of_ble_eq_true rfl) (Nat.le_of_ble_eq_true rfl) (Nat.zero_le _) (Nat.zero_le _) dJ1_indexOf_4cfef_11 ?_
    refine lv_topc (v := 0) (by decide) ?_
    refine lv_istore_n (lv' := [(2, .int 0), (0, .ref (adV i)), (1, .int ch), (3, .int (nI to))]) hx hb dJ1_indexOf_4cfef_14 rfl hl (by decide) rfl (fun ls hl => ?_)
    refine lv_iload_n hx hb dJ1_indexOf_4cfef_15 rfl (lv_at hl 3 rfl) ?_
    refine lv_aload_n hx hb dJ1_indexOf_4cfef_16 rfl (lv_at hl 1 rfl) ?_
    refine va_tlen (v := nI (evLen.getD i 0)) hx hb (hSt.1 i hi).2.2.2 va_S.rf rfl dJ1_indexOf_4cfef_17 ?_
    refine va_mmin (rest := []) (x := nI to) (y := nI (evLen.getD i 0)) hx hb (hml.trans hl.1.symm) hown (hts (.methodLink RJ1 38 Lib.Math.min.name) (by decide +kernel)) (hts (.static Lib.Math.min.name) (by decide +kernel)) (hts (.initialized "java/lang/Math") (by decide +kernel)) (hts (.code Lib.Math.min.name Lib.Math.min.code 2 (some .int)) (by decide +kernel)) (Nat.le_of_ble_eq_true rfl) (Nat.le_of_ble_eq_true rfl) (Nat.zero_le _) (Nat.zero_le _) dJ1_indexOf_4cfef_18 ?_
    refine lv_topn (n := to) (by rw [hto]; exact ite_self _) ?_
    refine lv_istore_n (lv' := [(3, .int (nI to)), (2, .int 0), (0, .ref (adV i)), (1, .int ch)]) hx hb dJ1_indexOf_4cfef_21 rfl hl (by decide) rfl (fun ls hl => ?_)
    refine lv_iload_n hx hb dJ1_indexOf_4cfef_22 rfl (lv_at hl 1 rfl) ?_
    refine lv_iload_n hx hb dJ1_indexOf_4cfef_23 rfl (lv_at hl 0 rfl) ?_
    refine lv_icmp_lt (tgt := 29) hx hb dJ1_indexOf_4cfef_24 (by decide) (fun c_2 => ?_) (fun c_2 => ?_)
    · skip
      have c_2 : 0 < to := (nI_ltI (a := 0) (b := to) (by omega) (by omega)).mp c_2
      refine lv_aload_n hx hb dJ1_indexOf_4cfef_29 rfl (lv_at hl 2 rfl) ?_
      refine lv_iload_n hx hb dJ1_indexOf_4cfef_30 rfl (lv_at hl 3 rfl) ?_
      refine lv_iload_n hx hb dJ1_indexOf_4cfef_31 rfl (lv_at hl 1 rfl) ?_
      refine lv_iload_n hx hb dJ1_indexOf_4cfef_32 rfl (lv_at hl 0 rfl) ?_
      refine st_callS (As := [.ref (adV i), .int ch, .int 0, .int (nI to)]) (rest := []) ⟨hx, hb, hml, hown, hts⟩ hZc hSt (c_J1_indexOfChar_4cfef l adK adV i ch to (by omega) (by omega)) (va_cwS 4 hts gJ1_indexOf_4cfef_J1_indexOfChar_4cfef rfl rfl rfl (by decide +kernel) ⟨Nat.le_of_ble_eq_true rfl, Nat.le_of_ble_eq_true rfl⟩) rfl hl.1 rfl (Nat.le_of_ble_eq_true rfl) dJ1_indexOf_4cfef_33 ⟨Nat.zero_le _, Nat.zero_le _⟩ (fun r9 hr9 => ?_)
      subst hr9
      exact rd_iret (v := m_J1_indexOfChar_4cfef i ch to) hx hb hr hlocks (show m_J1_indexOf_4cfef i ch to = m_J1_indexOfChar_4cfef i ch to from by simp only [m_J1_indexOf_4cfef, if_neg c_1, if_pos c_2]).symm dJ1_indexOf_4cfef_36
    · skip
      have c_2 : ¬ 0 < to := (fun q_ => c_2 ((nI_ltI (a := 0) (b := to) (by omega) (by omega)).mpr q_))
      refine lv_iconst (v := (-1)) hx hb dJ1_indexOf_4cfef_27 (by decide) ?_
      exact rd_iret (v := (-1)) hx hb hr hlocks (show m_J1_indexOf_4cfef i ch to = (-1) from by simp only [m_J1_indexOf_4cfef, if_neg c_1, if_neg c_2]).symm dJ1_indexOf_4cfef_28
  · skip
    have c_1 := bI_0 c_1
    refine lv_iconst (v := (-1)) hx hb dJ1_indexOf_4cfef_7 (by decide) ?_
    exact rd_iret (v := (-1)) hx hb hr hlocks (show m_J1_indexOf_4cfef i ch to = (-1) from by simp only [m_J1_indexOf_4cfef, if_pos c_1]).symm dJ1_indexOf_4cfef_8
def m_J0_indexOf_7cf53 (i : Nat) (ch : Int32) : Int32 := m_J1_indexOf_4cfef i ch (m_J0_length_8abf5 i)
set_option maxHeartbeats 4000000 in
set_option maxRecDepth 100000 in
theorem c_J0_indexOf_7cf53 (l : Launch) (adK : Nat → Nat) (adV : Nat → Nat) (i : Nat) (ch : Int32) (hi : i < 3) : Met l yJ0_indexOf_7cf53 wsJ0_indexOf_7cf53 ({ frames := 2, cells := 0, slots := 0, locals := 48 } : Room) (va_Pc [.ref (adK i), .int ch, .int 0] (st_P adK adV)) (vp_Si (fun r => r = m_J0_indexOf_7cf53 i ch)) 0 0 (fun _ => False) := by
  refine Met.ofW (cc := cJ0_indexOf_7cf53) (maxL := 3) (ret := (some .int)) (by decide) rfl ?_
  intro p e s m args below meth c s₁ B hml hv
  obtain ⟨rfl, hZc, hSt⟩ := hv
  have hx := B.exec
  have hb := B.bytes
  have hr := B.returns
  have hts := atoms_spec (ws := wsJ0_indexOf_7cf53) B.pre
  have hown : s.vm.findClass RJ0 = some m.cls := findClass_of_methodNamed B.named
  have hlocks := B.notSynchronized
  have hl := lv_entry ([.ref (adK i), .int ch, .int 0]) (n := 3) (Nat.le_of_ble_eq_true rfl)
  rw [lg_entry_eq]
  generalize (lg_sl ([.ref (adK i), .int ch, .int 0]) ++ List.replicate (3 - (lg_sl ([.ref (adK i), .int ch, .int 0])).length) Slot.unset).toArray = ls at hl ⊢
  have hl : lv_has ls 3 [(0, .ref (adK i)), (1, .int ch), (2, .int 0)] := hl
  have hev := evLen_lt i
  refine lv_aload_n hx hb dJ0_indexOf_7cf53_0 rfl (lv_at hl 0 rfl) ?_
  refine st_callV (As := []) (rest := []) ⟨hx, hb, hml, hown, hts⟩ hZc hSt (c_J0_isLatin1_aae02 l adK adV i (by omega)) (cwV 0 hts gJ0_indexOf_7cf53_J0_isLatin1_aae02 rfl rfl rfl (by decide +kernel) ⟨Nat.le_of_ble_eq_true rfl, Nat.le_of_ble_eq_true rfl⟩) (vk_recv hSt (by omega) va_S.rf) rfl hl.1 rfl (Nat.le_of_ble_eq_true rfl) dJ0_indexOf_7cf53_1 ⟨Nat.zero_le _, Nat.zero_le _⟩ (fun r9 hr9 => ?_)
  subst hr9
  refine lv_topc (v := 1) rfl ?_
  refine lv_if_eq (tgt := 23) hx hb dJ0_indexOf_7cf53_4 (by decide) (fun c_1 => ?_) (fun c_1 => ?_)
  · skip
    exact absurd c_1 (by decide)
  · skip
    refine lv_aload_n hx hb dJ0_indexOf_7cf53_7 rfl (lv_at hl 0 rfl) ?_
    refine vk_getf (v := .ref (adV i)) hx hb (hSt.1 i hi).2.2.1 va_S.rf hown (hts (.fieldLink RJ0 9 "java/lang/String" "value" "[B") (by decide +kernel)) (fun _ h9 => h9) dJ0_indexOf_7cf53_8 ?_
    refine lv_iload_n hx hb dJ0_indexOf_7cf53_11 rfl (lv_at hl 1 rfl) ?_
    refine lv_iload_n hx hb dJ0_indexOf_7cf53_12 rfl (lv_at hl 2 rfl) ?_
    refine lv_aload_n hx hb dJ0_indexOf_7cf53_13 rfl (lv_at hl 0 rfl) ?_
    refine st_callV (As := []) (rest := [.int 0, .int ch, .ref (adV i)]) ⟨hx, hb, hml, hown, hts⟩ hZc hSt (c_J0_length_8abf5 l adK adV i (by omega)) (cwV 0 hts gJ0_indexOf_7cf53_J0_length_8abf5 rfl rfl rfl (by decide +kernel) ⟨Nat.le_of_ble_eq_true rfl, Nat.le_of_ble_eq_true rfl⟩) (vk_recv hSt (by omega) va_S.rf) rfl hl.1 rfl (Nat.le_of_ble_eq_true rfl) dJ0_indexOf_7cf53_14 ⟨Nat.zero_le _, Nat.zero_le _⟩ (fun r9 hr9 => ?_)
    subst hr9
    refine st_callS (As := [.ref (adV i), .int ch, .int 0, .int (nI (m_J0_length_8abf5 i))]) (rest := []) ⟨hx, hb, hml, hown, hts⟩ hZc hSt (c_J1_indexOf_4cfef l adK adV i ch (m_J0_length_8abf5 i) (by omega) (by rfl)) (va_cwS 4 hts gJ0_indexOf_7cf53_J1_indexOf_4cfef rfl rfl rfl (by decide +kernel) ⟨Nat.le_of_ble_eq_true rfl, Nat.le_of_ble_eq_true rfl⟩) rfl hl.1 rfl (Nat.le_of_ble_eq_true rfl) dJ0_indexOf_7cf53_17 ⟨Nat.zero_le _, Nat.zero_le _⟩ (fun r9 hr9 => ?_)
    subst hr9
    refine lv_goto (tgt := 36) hx hb dJ0_indexOf_7cf53_20 (by decide) ?_
    exact rd_iret (v := m_J1_indexOf_4cfef i ch (m_J0_length_8abf5 i)) hx hb hr hlocks (show m_J0_indexOf_7cf53 i ch = m_J1_indexOf_4cfef i ch (m_J0_length_8abf5 i) from by simp only [m_J0_indexOf_7cf53]).symm dJ0_indexOf_7cf53_36
def m_J0_indexOf_0f7a4 (i : Nat) (ch : Int32) : Int32 := m_J0_indexOf_7cf53 i ch
set_option maxHeartbeats 4000000 in
set_option maxRecDepth 100000 in
theorem c_J0_indexOf_0f7a4 (l : Launch) (adK : Nat → Nat) (adV : Nat → Nat) (i : Nat) (ch : Int32) (hi : i < 3) : Met l yJ0_indexOf_0f7a4 wsJ0_indexOf_0f7a4 ({ frames := 3, cells := 0, slots := 0, locals := 70 } : Room) (va_Pc [.ref (adK i), .int ch] (st_P adK adV)) (vp_Si (fun r => r = m_J0_indexOf_0f7a4 i ch)) 0 0 (fun _ => False) := by
  refine Met.ofW (cc := cJ0_indexOf_0f7a4) (maxL := 2) (ret := (some .int)) (by decide) rfl ?_
  intro p e s m args below meth c s₁ B hml hv
  obtain ⟨rfl, hZc, hSt⟩ := hv
  have hx := B.exec
  have hb := B.bytes
  have hr := B.returns
  have hts := atoms_spec (ws := wsJ0_indexOf_0f7a4) B.pre
  have hown : s.vm.findClass RJ0 = some m.cls := findClass_of_methodNamed B.named
  have hlocks := B.notSynchronized
  have hl := lv_entry ([.ref (adK i), .int ch]) (n := 2) (Nat.le_of_ble_eq_true rfl)
  rw [lg_entry_eq]
  generalize (lg_sl ([.ref (adK i), .int ch]) ++ List.replicate (2 - (lg_sl ([.ref (adK i), .int ch])).length) Slot.unset).toArray = ls at hl ⊢
  have hl : lv_has ls 2 [(0, .ref (adK i)), (1, .int ch)] := hl
  have hev := evLen_lt i
  refine lv_aload_n hx hb dJ0_indexOf_0f7a4_0 rfl (lv_at hl 0 rfl) ?_
  refine lv_iload_n hx hb dJ0_indexOf_0f7a4_1 rfl (lv_at hl 1 rfl) ?_
  refine lv_iconst (v := 0) hx hb dJ0_indexOf_0f7a4_2 (by decide) ?_
  refine st_callV (As := [.int ch, .int 0]) (rest := []) ⟨hx, hb, hml, hown, hts⟩ hZc hSt (c_J0_indexOf_7cf53 l adK adV i ch (by omega)) (cwV 2 hts gJ0_indexOf_0f7a4_J0_indexOf_7cf53 rfl rfl rfl (by decide +kernel) ⟨Nat.le_of_ble_eq_true rfl, Nat.le_of_ble_eq_true rfl⟩) (vk_recv hSt (by omega) va_S.rf) rfl hl.1 rfl (Nat.le_of_ble_eq_true rfl) dJ0_indexOf_0f7a4_3 ⟨Nat.zero_le _, Nat.zero_le _⟩ (fun r9 hr9 => ?_)
  subst hr9
  exact rd_iret (v := m_J0_indexOf_7cf53 i ch) hx hb hr hlocks (show m_J0_indexOf_0f7a4 i ch = m_J0_indexOf_7cf53 i ch from by simp only [m_J0_indexOf_0f7a4]).symm dJ0_indexOf_0f7a4_6
def m_X3_signAt (cs : Nat → Int32) (len : Nat) (pl : Nat) (cu : Int32) : Int32 := if (m_X3_characterAt cs len (nI pl)) = cu then 36 else (if (m_X4_greatOf (m_X3_characterAt cs len (nI pl))) = 67 then (if (m_X4_greatOf (m_X3_characterAt cs len (nI (pl + 1)))) = 82 then (m_X4_greatOf (m_X3_characterAt cs len (nI pl))) else (if (m_X4_greatOf (m_X3_characterAt cs len (nI pl))) = 68 then (if (m_X4_greatOf (m_X3_characterAt cs len (nI (pl + 1)))) = 66 then (m_X4_greatOf (m_X3_characterAt cs len (nI pl))) else (if 0 ≤ (m_J0_indexOf_0f7a4 0 (((m_X4_greatOf (m_X3_characterAt cs len (nI pl))).toUInt32 % 65536).toInt32)) then (m_X4_greatOf (m_X3_characterAt cs len (nI pl))) else ((-1)))) else (if 0 ≤ (m_J0_indexOf_0f7a4 0 (((m_X4_greatOf (m_X3_characterAt cs len (nI pl))).toUInt32 % 65536).toInt32)) then (m_X4_greatOf (m_X3_characterAt cs len (nI pl))) else ((-1))))) else (if (m_X4_greatOf (m_X3_characterAt cs len (nI pl))) = 68 then (if (m_X4_greatOf (m_X3_characterAt cs len (nI (pl + 1)))) = 66 then (m_X4_greatOf (m_X3_characterAt cs len (nI pl))) else (if 0 ≤ (m_J0_indexOf_0f7a4 0 (((m_X4_greatOf (m_X3_characterAt cs len (nI pl))).toUInt32 % 65536).toInt32)) then (m_X4_greatOf (m_X3_characterAt cs len (nI pl))) else ((-1)))) else (if 0 ≤ (m_J0_indexOf_0f7a4 0 (((m_X4_greatOf (m_X3_characterAt cs len (nI pl))).toUInt32 % 65536).toInt32)) then (m_X4_greatOf (m_X3_characterAt cs len (nI pl))) else ((-1)))))
set_option maxHeartbeats 4000000 in
set_option maxRecDepth 100000 in
theorem c_X3_signAt (l : Launch) (dC : Nat → ClassId) (dI : Nat → Nat → Nat) (h0 : Nat) (h1 : Nat) (cA : ClassId) (cs : Nat → Int32) (len : Nat) (pl : Nat) (cu : Int32) (hpl : pl ≤ 200) : Met l yX3_signAt wsX3_signAt ({ frames := 4, cells := 0, slots := 0, locals := 91 } : Room) (va_Pc [.ref h0, .int (nI pl), .int cu] (rd_P (dC, dI) vwCl [(h0, .inr (4, [.ref h1, .int (nI len)])), (h1, .inl (cA, 80, .inl cs))] [(cA, .int)])) (vp_Si (fun r => r = m_X3_signAt cs len pl cu)) 0 0 (fun _ => False) := by
  refine Met.ofW (cc := cX3_signAt) (maxL := 6) (ret := (some .int)) (by decide) rfl ?_
  intro p e s m args below meth c s₁ B hml hv
  obtain ⟨rfl, hE, hP, hK⟩ := hv
  have hx := B.exec
  have hb := B.bytes
  have hr := B.returns
  have hts := atoms_spec (ws := wsX3_signAt) B.pre
  have hown : s.vm.findClass RX3 = some m.cls := findClass_of_methodNamed B.named
  have hlocks := B.notSynchronized
  have hl := lv_entry ([.ref h0, .int (nI pl), .int cu]) (n := 6) (Nat.le_of_ble_eq_true rfl)
  rw [lg_entry_eq]
  generalize (lg_sl ([.ref h0, .int (nI pl), .int cu]) ++ List.replicate (6 - (lg_sl ([.ref h0, .int (nI pl), .int cu])).length) Slot.unset).toArray = ls at hl ⊢
  have hl : lv_has ls 6 [(0, .ref h0), (1, .int (nI pl)), (2, .int cu)] := hl
  obtain ⟨adK, adV, hSt, hR0, hR1, hR2, -, -⟩ := hE.2.2.2
  refine lv_aload_n hx hb dX3_signAt_0 rfl (lv_at hl 0 rfl) ?_
  refine lv_iload_n hx hb dX3_signAt_1 rfl (lv_at hl 1 rfl) ?_
  refine rd_callV (As := [.int (nI pl)]) (rest := []) ⟨hx, hb, hml, hown, hts⟩ hE (c_X3_characterAt l dC dI h0 h1 cA cs len (nI pl) ) (cwV 1 hts gX3_signAt_X3_characterAt rfl rfl rfl (by decide +kernel) ⟨Nat.le_of_ble_eq_true rfl, Nat.le_of_ble_eq_true rfl⟩) (hP.sub (ws' := [(h0, .inr (4, [.ref h1, .int (nI len)])), (h1, .inl (cA, 80, .inl cs))]) [0, 1] rfl) (hK.sub [0] rfl) (va_recv hK hP (ci := 4) (q0 := 0) rfl rfl) rfl hl.1 rfl (Nat.le_of_ble_eq_true rfl) dX3_signAt_2 ⟨Nat.zero_le _, Nat.zero_le _⟩ (fun r9 hr9 => ?_)
  subst hr9
  refine lv_istore_n (lv' := [(3, .int (m_X3_characterAt cs len (nI pl))), (0, .ref h0), (1, .int (nI pl)), (2, .int cu)]) hx hb dX3_signAt_5 rfl hl (by decide) rfl (fun ls hl => ?_)
  refine lv_iload_n hx hb dX3_signAt_6 rfl (lv_at hl 0 rfl) ?_
  refine lv_iload_n hx hb dX3_signAt_7 rfl (lv_at hl 3 rfl) ?_
  refine lv_icmp_ne (tgt := 14) hx hb dX3_signAt_8 (by decide) (fun c_1 => ?_) (fun c_1 => ?_)
  · skip
    refine lv_iload_n hx hb dX3_signAt_14 rfl (lv_at hl 0 rfl) ?_
    refine rd_callSN (As := [.int (m_X3_characterAt cs len (nI pl))]) (rest := []) ⟨hx, hb, hml, hown, hts⟩ hE (c_X4_greatOf l dC dI (m_X3_characterAt cs len (nI pl)) ) ⟨va_cnB 1 hts gX3_signAt_X4_greatOf_n23 rfl rfl rfl (hE.1.2 ("PictureRows$Text", 23, yX4_greatOf) (by decide)) (hts (.initialized RX4) (by decide +kernel)) (by decide +kernel) ⟨Nat.le_of_ble_eq_true rfl, Nat.le_of_ble_eq_true rfl⟩, hts (.static yX4_greatOf) (by decide +kernel), trivial⟩ (hP.sub (ws' := []) [] rfl) (hK.sub [] rfl) rfl hl.1 rfl (Nat.le_of_ble_eq_true rfl) dX3_signAt_15 ⟨Nat.zero_le _, Nat.zero_le _⟩ (fun r9 hr9 => ?_)
    subst hr9
    refine lv_istore (lv' := [(4, .int (m_X4_greatOf (m_X3_characterAt cs len (nI pl)))), (3, .int (m_X3_characterAt cs len (nI pl))), (0, .ref h0), (1, .int (nI pl)), (2, .int cu)]) hx hb dX3_signAt_18 hl (by decide) rfl (fun ls hl => ?_)
    refine lv_aload_n hx hb dX3_signAt_20 rfl (lv_at hl 2 rfl) ?_
    refine lv_iload_n hx hb dX3_signAt_21 rfl (lv_at hl 3 rfl) ?_
    refine lv_iconst (v := 1) hx hb dX3_signAt_22 (by decide) ?_
    refine rd_iadd hx hb (pl) (1) dX3_signAt_23 ?_
    refine rd_callV (As := [.int (nI (pl + 1))]) (rest := []) ⟨hx, hb, hml, hown, hts⟩ hE (c_X3_characterAt l dC dI h0 h1 cA cs len (nI (pl + 1)) ) (cwV 1 hts gX3_signAt_X3_characterAt rfl rfl rfl (by decide +kernel) ⟨Nat.le_of_ble_eq_true rfl, Nat.le_of_ble_eq_true rfl⟩) (hP.sub (ws' := [(h0, .inr (4, [.ref h1, .int (nI len)])), (h1, .inl (cA, 80, .inl cs))]) [0, 1] rfl) (hK.sub [0] rfl) (va_recv hK hP (ci := 4) (q0 := 0) rfl rfl) rfl hl.1 rfl (Nat.le_of_ble_eq_true rfl) dX3_signAt_24 ⟨Nat.zero_le _, Nat.zero_le _⟩ (fun r9 hr9 => ?_)
    subst hr9
    refine rd_callSN (As := [.int (m_X3_characterAt cs len (nI (pl + 1)))]) (rest := []) ⟨hx, hb, hml, hown, hts⟩ hE (c_X4_greatOf l dC dI (m_X3_characterAt cs len (nI (pl + 1))) ) ⟨va_cnB 1 hts gX3_signAt_X4_greatOf_n23 rfl rfl rfl (hE.1.2 ("PictureRows$Text", 23, yX4_greatOf) (by decide)) (hts (.initialized RX4) (by decide +kernel)) (by decide +kernel) ⟨Nat.le_of_ble_eq_true rfl, Nat.le_of_ble_eq_true rfl⟩, hts (.static yX4_greatOf) (by decide +kernel), trivial⟩ (hP.sub (ws' := []) [] rfl) (hK.sub [] rfl) rfl hl.1 rfl (Nat.le_of_ble_eq_true rfl) dX3_signAt_27 ⟨Nat.zero_le _, Nat.zero_le _⟩ (fun r9 hr9 => ?_)
    subst hr9
    refine lv_istore (lv' := [(5, .int (m_X4_greatOf (m_X3_characterAt cs len (nI (pl + 1))))), (4, .int (m_X4_greatOf (m_X3_characterAt cs len (nI pl)))), (3, .int (m_X3_characterAt cs len (nI pl))), (0, .ref h0), (1, .int (nI pl)), (2, .int cu)]) hx hb dX3_signAt_30 hl (by decide) rfl (fun ls hl => ?_)
    refine lv_iload hx hb dX3_signAt_32 (lv_at hl 1 rfl) ?_
    refine lv_bipush (v := 67) hx hb dX3_signAt_34 (by decide) ?_
    refine lv_icmp_ne (tgt := 46) hx hb dX3_signAt_36 (by decide) (fun c_2 => ?_) (fun c_2 => ?_)
    · skip
      refine lv_iload hx hb dX3_signAt_46 (lv_at hl 1 rfl) ?_
      refine lv_bipush (v := 68) hx hb dX3_signAt_48 (by decide) ?_
      refine lv_icmp_ne (tgt := 63) hx hb dX3_signAt_50 (by decide) (fun c_3 => ?_) (fun c_3 => ?_)
      · skip
        refine va_ldcS hx hb hown hR0 dX3_signAt_63 ?_
        refine lv_iload hx hb dX3_signAt_65 (lv_at hl 1 rfl) ?_
        refine lv_i2c (v := ((m_X4_greatOf (m_X3_characterAt cs len (nI pl))).toUInt32 % 65536).toInt32) hx hb dX3_signAt_67 rfl ?_
        refine st_callV (As := [.int (((m_X4_greatOf (m_X3_characterAt cs len (nI pl))).toUInt32 % 65536).toInt32)]) (rest := []) ⟨hx, hb, hml, hown, hts⟩ hE.2.2.1 hSt (c_J0_indexOf_0f7a4 l adK adV 0 (((m_X4_greatOf (m_X3_characterAt cs len (nI pl))).toUInt32 % 65536).toInt32) (by omega)) (cwV 1 hts gX3_signAt_J0_indexOf_0f7a4 rfl rfl rfl (by decide +kernel) ⟨Nat.le_of_ble_eq_true rfl, Nat.le_of_ble_eq_true rfl⟩) (vk_recv hSt (by omega) va_S.rf) rfl hl.1 rfl (Nat.le_of_ble_eq_true rfl) dX3_signAt_68 ⟨Nat.zero_le _, Nat.zero_le _⟩ (fun r9 hr9 => ?_)
        subst hr9
        refine lv_if_ge (tgt := 78) hx hb dX3_signAt_71 (by decide) (fun c_4 => ?_) (fun c_4 => ?_)
        · skip
          refine lv_iload hx hb dX3_signAt_78 (lv_at hl 1 rfl) ?_
          exact rd_iret (v := m_X4_greatOf (m_X3_characterAt cs len (nI pl))) hx hb hr hlocks (show m_X3_signAt cs len pl cu = m_X4_greatOf (m_X3_characterAt cs len (nI pl)) from by simp only [m_X3_signAt, if_neg c_1, if_neg c_2, if_neg c_3, if_pos c_4]).symm dX3_signAt_80
        · skip
          refine lv_iconst (v := (-1)) hx hb dX3_signAt_74 (by decide) ?_
          refine lv_goto (tgt := 80) hx hb dX3_signAt_75 (by decide) ?_
          exact rd_iret (v := (-1)) hx hb hr hlocks (show m_X3_signAt cs len pl cu = (-1) from by simp only [m_X3_signAt, if_neg c_1, if_neg c_2, if_neg c_3, if_neg c_4]).symm dX3_signAt_80
      · skip
        refine lv_iload hx hb dX3_signAt_53 (lv_at hl 0 rfl) ?_
        refine lv_bipush (v := 66) hx hb dX3_signAt_55 (by decide) ?_
        refine lv_icmp_ne (tgt := 63) hx hb dX3_signAt_57 (by decide) (fun c_5 => ?_) (fun c_5 => ?_)
        · skip
          refine va_ldcS hx hb hown hR0 dX3_signAt_63 ?_
          refine lv_iload hx hb dX3_signAt_65 (lv_at hl 1 rfl) ?_
          refine lv_i2c (v := ((m_X4_greatOf (m_X3_characterAt cs len (nI pl))).toUInt32 % 65536).toInt32) hx hb dX3_signAt_67 rfl ?_
          refine st_callV (As := [.int (((m_X4_greatOf (m_X3_characterAt cs len (nI pl))).toUInt32 % 65536).toInt32)]) (rest := []) ⟨hx, hb, hml, hown, hts⟩ hE.2.2.1 hSt (c_J0_indexOf_0f7a4 l adK adV 0 (((m_X4_greatOf (m_X3_characterAt cs len (nI pl))).toUInt32 % 65536).toInt32) (by omega)) (cwV 1 hts gX3_signAt_J0_indexOf_0f7a4 rfl rfl rfl (by decide +kernel) ⟨Nat.le_of_ble_eq_true rfl, Nat.le_of_ble_eq_true rfl⟩) (vk_recv hSt (by omega) va_S.rf) rfl hl.1 rfl (Nat.le_of_ble_eq_true rfl) dX3_signAt_68 ⟨Nat.zero_le _, Nat.zero_le _⟩ (fun r9 hr9 => ?_)
          subst hr9
          refine lv_if_ge (tgt := 78) hx hb dX3_signAt_71 (by decide) (fun c_6 => ?_) (fun c_6 => ?_)
          · skip
            refine lv_iload hx hb dX3_signAt_78 (lv_at hl 1 rfl) ?_
            exact rd_iret (v := m_X4_greatOf (m_X3_characterAt cs len (nI pl))) hx hb hr hlocks (show m_X3_signAt cs len pl cu = m_X4_greatOf (m_X3_characterAt cs len (nI pl)) from by simp only [m_X3_signAt, if_neg c_1, if_neg c_2, if_pos c_3, if_neg c_5, if_pos c_6]).symm dX3_signAt_80
          · skip
            refine lv_iconst (v := (-1)) hx hb dX3_signAt_74 (by decide) ?_
            refine lv_goto (tgt := 80) hx hb dX3_signAt_75 (by decide) ?_
            exact rd_iret (v := (-1)) hx hb hr hlocks (show m_X3_signAt cs len pl cu = (-1) from by simp only [m_X3_signAt, if_neg c_1, if_neg c_2, if_pos c_3, if_neg c_5, if_neg c_6]).symm dX3_signAt_80
        · skip
          refine lv_iload hx hb dX3_signAt_60 (lv_at hl 1 rfl) ?_
          exact rd_iret (v := m_X4_greatOf (m_X3_characterAt cs len (nI pl))) hx hb hr hlocks (show m_X3_signAt cs len pl cu = m_X4_greatOf (m_X3_characterAt cs len (nI pl)) from by simp only [m_X3_signAt, if_neg c_1, if_neg c_2, if_pos c_3, if_pos c_5]).symm dX3_signAt_62
    · skip
      refine lv_iload hx hb dX3_signAt_39 (lv_at hl 0 rfl) ?_
      refine lv_bipush (v := 82) hx hb dX3_signAt_41 (by decide) ?_
      refine lv_icmp_eq (tgt := 60) hx hb dX3_signAt_43 (by decide) (fun c_7 => ?_) (fun c_7 => ?_)
      · skip
        refine lv_iload hx hb dX3_signAt_60 (lv_at hl 1 rfl) ?_
        exact rd_iret (v := m_X4_greatOf (m_X3_characterAt cs len (nI pl))) hx hb hr hlocks (show m_X3_signAt cs len pl cu = m_X4_greatOf (m_X3_characterAt cs len (nI pl)) from by simp only [m_X3_signAt, if_neg c_1, if_pos c_2, if_pos c_7]).symm dX3_signAt_62
      · skip
        refine lv_iload hx hb dX3_signAt_46 (lv_at hl 1 rfl) ?_
        refine lv_bipush (v := 68) hx hb dX3_signAt_48 (by decide) ?_
        refine lv_icmp_ne (tgt := 63) hx hb dX3_signAt_50 (by decide) (fun c_8 => ?_) (fun c_8 => ?_)
        · skip
          refine va_ldcS hx hb hown hR0 dX3_signAt_63 ?_
          refine lv_iload hx hb dX3_signAt_65 (lv_at hl 1 rfl) ?_
          refine lv_i2c (v := ((m_X4_greatOf (m_X3_characterAt cs len (nI pl))).toUInt32 % 65536).toInt32) hx hb dX3_signAt_67 rfl ?_
          refine st_callV (As := [.int (((m_X4_greatOf (m_X3_characterAt cs len (nI pl))).toUInt32 % 65536).toInt32)]) (rest := []) ⟨hx, hb, hml, hown, hts⟩ hE.2.2.1 hSt (c_J0_indexOf_0f7a4 l adK adV 0 (((m_X4_greatOf (m_X3_characterAt cs len (nI pl))).toUInt32 % 65536).toInt32) (by omega)) (cwV 1 hts gX3_signAt_J0_indexOf_0f7a4 rfl rfl rfl (by decide +kernel) ⟨Nat.le_of_ble_eq_true rfl, Nat.le_of_ble_eq_true rfl⟩) (vk_recv hSt (by omega) va_S.rf) rfl hl.1 rfl (Nat.le_of_ble_eq_true rfl) dX3_signAt_68 ⟨Nat.zero_le _, Nat.zero_le _⟩ (fun r9 hr9 => ?_)
          subst hr9
          refine lv_if_ge (tgt := 78) hx hb dX3_signAt_71 (by decide) (fun c_9 => ?_) (fun c_9 => ?_)
          · skip
            refine lv_iload hx hb dX3_signAt_78 (lv_at hl 1 rfl) ?_
            exact rd_iret (v := m_X4_greatOf (m_X3_characterAt cs len (nI pl))) hx hb hr hlocks (show m_X3_signAt cs len pl cu = m_X4_greatOf (m_X3_characterAt cs len (nI pl)) from by simp only [m_X3_signAt, if_neg c_1, if_pos c_2, if_neg c_7, if_neg c_8, if_pos c_9]).symm dX3_signAt_80
          · skip
            refine lv_iconst (v := (-1)) hx hb dX3_signAt_74 (by decide) ?_
            refine lv_goto (tgt := 80) hx hb dX3_signAt_75 (by decide) ?_
            exact rd_iret (v := (-1)) hx hb hr hlocks (show m_X3_signAt cs len pl cu = (-1) from by simp only [m_X3_signAt, if_neg c_1, if_pos c_2, if_neg c_7, if_neg c_8, if_neg c_9]).symm dX3_signAt_80
        · skip
          refine lv_iload hx hb dX3_signAt_53 (lv_at hl 0 rfl) ?_
          refine lv_bipush (v := 66) hx hb dX3_signAt_55 (by decide) ?_
          refine lv_icmp_ne (tgt := 63) hx hb dX3_signAt_57 (by decide) (fun c_10 => ?_) (fun c_10 => ?_)
          · skip
            refine va_ldcS hx hb hown hR0 dX3_signAt_63 ?_
            refine lv_iload hx hb dX3_signAt_65 (lv_at hl 1 rfl) ?_
            refine lv_i2c (v := ((m_X4_greatOf (m_X3_characterAt cs len (nI pl))).toUInt32 % 65536).toInt32) hx hb dX3_signAt_67 rfl ?_
            refine st_callV (As := [.int (((m_X4_greatOf (m_X3_characterAt cs len (nI pl))).toUInt32 % 65536).toInt32)]) (rest := []) ⟨hx, hb, hml, hown, hts⟩ hE.2.2.1 hSt (c_J0_indexOf_0f7a4 l adK adV 0 (((m_X4_greatOf (m_X3_characterAt cs len (nI pl))).toUInt32 % 65536).toInt32) (by omega)) (cwV 1 hts gX3_signAt_J0_indexOf_0f7a4 rfl rfl rfl (by decide +kernel) ⟨Nat.le_of_ble_eq_true rfl, Nat.le_of_ble_eq_true rfl⟩) (vk_recv hSt (by omega) va_S.rf) rfl hl.1 rfl (Nat.le_of_ble_eq_true rfl) dX3_signAt_68 ⟨Nat.zero_le _, Nat.zero_le _⟩ (fun r9 hr9 => ?_)
            subst hr9
            refine lv_if_ge (tgt := 78) hx hb dX3_signAt_71 (by decide) (fun c_11 => ?_) (fun c_11 => ?_)
            · skip
              refine lv_iload hx hb dX3_signAt_78 (lv_at hl 1 rfl) ?_
              exact rd_iret (v := m_X4_greatOf (m_X3_characterAt cs len (nI pl))) hx hb hr hlocks (show m_X3_signAt cs len pl cu = m_X4_greatOf (m_X3_characterAt cs len (nI pl)) from by simp only [m_X3_signAt, if_neg c_1, if_pos c_2, if_neg c_7, if_pos c_8, if_neg c_10, if_pos c_11]).symm dX3_signAt_80
            · skip
              refine lv_iconst (v := (-1)) hx hb dX3_signAt_74 (by decide) ?_
              refine lv_goto (tgt := 80) hx hb dX3_signAt_75 (by decide) ?_
              exact rd_iret (v := (-1)) hx hb hr hlocks (show m_X3_signAt cs len pl cu = (-1) from by simp only [m_X3_signAt, if_neg c_1, if_pos c_2, if_neg c_7, if_pos c_8, if_neg c_10, if_neg c_11]).symm dX3_signAt_80
          · skip
            refine lv_iload hx hb dX3_signAt_60 (lv_at hl 1 rfl) ?_
            exact rd_iret (v := m_X4_greatOf (m_X3_characterAt cs len (nI pl))) hx hb hr hlocks (show m_X3_signAt cs len pl cu = m_X4_greatOf (m_X3_characterAt cs len (nI pl)) from by simp only [m_X3_signAt, if_neg c_1, if_pos c_2, if_neg c_7, if_pos c_8, if_pos c_10]).symm dX3_signAt_62
  · skip
    refine lv_bipush (v := 36) hx hb dX3_signAt_11 (by decide) ?_
    exact rd_iret (v := 36) hx hb hr hlocks (show m_X3_signAt cs len pl cu = 36 from by simp only [m_X3_signAt, if_pos c_1]).symm dX3_signAt_13
def m_X4_canBeCurrency (ch : Int32) : Bool := if ch < 33 then false else (if 126 < ch then false else (if 0 ≤ (m_J0_indexOf_0f7a4 1 (((m_X4_greatOf ch).toUInt32 % 65536).toInt32)) then false else true))
set_option maxHeartbeats 4000000 in
set_option maxRecDepth 100000 in
theorem c_X4_canBeCurrency (l : Launch) (dC : Nat → ClassId) (dI : Nat → Nat → Nat) (ch : Int32) : Met l yX4_canBeCurrency wsX4_canBeCurrency ({ frames := 4, cells := 0, slots := 0, locals := 91 } : Room) (va_Pc [.int ch] (rd_P (dC, dI) vwCl [] [])) (vp_Si (fun r => r = bI (m_X4_canBeCurrency ch))) 0 0 (fun _ => False) := by
  refine Met.ofW (cc := cX4_canBeCurrency) (maxL := 1) (ret := (some .boolean)) (by decide) rfl ?_
  intro p e s m args below meth c s₁ B hml hv
  obtain ⟨rfl, hE, hP, hK⟩ := hv
  have hx := B.exec
  have hb := B.bytes
  have hr := B.returns
  have hts := atoms_spec (ws := wsX4_canBeCurrency) B.pre
  have hown : s.vm.findClass RX4 = some m.cls := findClass_of_methodNamed B.named
  have hlocks := B.notSynchronized
  have hl := lv_entry ([.int ch]) (n := 1) (Nat.le_of_ble_eq_true rfl)
  rw [lg_entry_eq]
  generalize (lg_sl ([.int ch]) ++ List.replicate (1 - (lg_sl ([.int ch])).length) Slot.unset).toArray = ls at hl ⊢
  have hl : lv_has ls 1 [(0, .int ch)] := hl
  obtain ⟨adK, adV, hSt, hR0, hR1, hR2, -, -⟩ := hE.2.2.2
  refine lv_iload_n hx hb dX4_canBeCurrency_0 rfl (lv_at hl 0 rfl) ?_
  refine lv_bipush (v := 33) hx hb dX4_canBeCurrency_1 (by decide) ?_
  refine lv_icmp_lt (tgt := 29) hx hb dX4_canBeCurrency_3 (by decide) (fun c_1 => ?_) (fun c_1 => ?_)
  · skip
    refine lv_iconst (v := 0) hx hb dX4_canBeCurrency_29 (by decide) ?_
    exact rd_zret (v := 0) hx hb hr hlocks rfl (by rw [(show m_X4_canBeCurrency ch = false from by simp only [m_X4_canBeCurrency, if_pos c_1])]; rfl) dX4_canBeCurrency_30
  · skip
    refine lv_iload_n hx hb dX4_canBeCurrency_6 rfl (lv_at hl 0 rfl) ?_
    refine lv_bipush (v := 126) hx hb dX4_canBeCurrency_7 (by decide) ?_
    refine lv_icmp_gt (tgt := 29) hx hb dX4_canBeCurrency_9 (by decide) (fun c_2 => ?_) (fun c_2 => ?_)
    · skip
      refine lv_iconst (v := 0) hx hb dX4_canBeCurrency_29 (by decide) ?_
      exact rd_zret (v := 0) hx hb hr hlocks rfl (by rw [(show m_X4_canBeCurrency ch = false from by simp only [m_X4_canBeCurrency, if_neg c_1, if_pos c_2])]; rfl) dX4_canBeCurrency_30
    · skip
      refine va_ldcS hx hb hown hR1 dX4_canBeCurrency_12 ?_
      refine lv_iload_n hx hb dX4_canBeCurrency_14 rfl (lv_at hl 0 rfl) ?_
      refine rd_callS (As := [.int ch]) (rest := [.ref (adK 1)]) ⟨hx, hb, hml, hown, hts⟩ hE (c_X4_greatOf l dC dI ch ) (va_cwS 1 hts gX4_canBeCurrency_X4_greatOf rfl rfl rfl (by decide +kernel) ⟨Nat.le_of_ble_eq_true rfl, Nat.le_of_ble_eq_true rfl⟩) (hP.sub (ws' := []) [] rfl) (hK.sub [] rfl) rfl hl.1 rfl (Nat.le_of_ble_eq_true rfl) dX4_canBeCurrency_15 ⟨Nat.zero_le _, Nat.zero_le _⟩ (fun r9 hr9 => ?_)
      subst hr9
      refine lv_i2c (v := ((m_X4_greatOf ch).toUInt32 % 65536).toInt32) hx hb dX4_canBeCurrency_18 rfl ?_
      refine st_callV (As := [.int (((m_X4_greatOf ch).toUInt32 % 65536).toInt32)]) (rest := []) ⟨hx, hb, hml, hown, hts⟩ hE.2.2.1 hSt (c_J0_indexOf_0f7a4 l adK adV 1 (((m_X4_greatOf ch).toUInt32 % 65536).toInt32) (by omega)) (cwV 1 hts gX4_canBeCurrency_J0_indexOf_0f7a4 rfl rfl rfl (by decide +kernel) ⟨Nat.le_of_ble_eq_true rfl, Nat.le_of_ble_eq_true rfl⟩) (vk_recv hSt (by omega) va_S.rf) rfl hl.1 rfl (Nat.le_of_ble_eq_true rfl) dX4_canBeCurrency_19 ⟨Nat.zero_le _, Nat.zero_le _⟩ (fun r9 hr9 => ?_)
      subst hr9
      refine lv_if_ge (tgt := 29) hx hb dX4_canBeCurrency_22 (by decide) (fun c_3 => ?_) (fun c_3 => ?_)
      · skip
        refine lv_iconst (v := 0) hx hb dX4_canBeCurrency_29 (by decide) ?_
        exact rd_zret (v := 0) hx hb hr hlocks rfl (by rw [(show m_X4_canBeCurrency ch = false from by simp only [m_X4_canBeCurrency, if_neg c_1, if_neg c_2, if_pos c_3])]; rfl) dX4_canBeCurrency_30
      · skip
        refine lv_iconst (v := 1) hx hb dX4_canBeCurrency_25 (by decide) ?_
        refine lv_goto (tgt := 30) hx hb dX4_canBeCurrency_26 (by decide) ?_
        exact rd_zret (v := 1) hx hb hr hlocks rfl (by rw [(show m_X4_canBeCurrency ch = true from by simp only [m_X4_canBeCurrency, if_neg c_1, if_neg c_2, if_neg c_3])]; rfl) dX4_canBeCurrency_30
