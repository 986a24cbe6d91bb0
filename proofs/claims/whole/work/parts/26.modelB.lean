def nuF (zs : Nat → Nat) : Nat → Int32 := fun j => nI (zs j)
theorem nuF_upd (zs : Nat → Nat) (k v : Nat) : upd (nuF zs) k (nI v) = nuF (va_up zs k v) := by
  funext j
  by_cases h : j = k
  · subst h; rw [pk_us]; simp [nuF, va_up]
  · rw [pk_un h]; simp [nuF, va_up, h]
def m_X5_currency_j87_s0 (ch : Int32) : Bool := if (m_X5_great ch) = 65 then true else (if (m_X5_great ch) = 88 then true else (if (m_X5_great ch) = 90 then true else (if (m_X5_great ch) = 66 then true else (if (m_X5_great ch) = 83 then true else (if (m_X5_great ch) = 86 then true else (if (m_X5_great ch) = 80 then true else (if (m_X5_great ch) = 78 then true else (if (m_X5_great ch) = 67 then true else (if (m_X5_great ch) = 68 then true else (if (m_X5_great ch) = 69 then true else (if (m_X5_great ch) = 82 then true else false)))))))))))
def m_X5_currency_j165_s0 (ch : Int32) : Bool := if ch = 42 then true else (if ch = 43 then true else (if ch = 45 then true else (if ch = 44 then true else (if ch = 46 then true else (if ch = 47 then true else (if ch = 59 then true else (if ch = 40 then true else (if ch = 41 then true else (if ch = 61 then true else (if ch = 39 then true else (if ch = 34 then true else false)))))))))))
def m_X5_currency (mo : Int32) (ch : Int32) : Int32 × Int32 := if ch < 33 then (((-1), mo)) else (if 126 < ch then (((-1), mo)) else (if ch < 48 then (if (m_X5_currency_j87_s0 ch) = false then (if (m_X5_currency_j165_s0 ch) = false then ((mo, ch)) else (((-1), mo))) else (((-1), mo))) else (if ch ≤ 57 then (((-1), mo)) else (if (m_X5_currency_j87_s0 ch) = false then (if (m_X5_currency_j165_s0 ch) = false then ((mo, ch)) else (((-1), mo))) else (((-1), mo))))))
set_option maxHeartbeats 4000000 in
set_option maxRecDepth 100000 in
theorem c_X5_currency (l : Launch) (dC : Nat → ClassId) (dI : Nat → Nat → Nat) (h0 : Nat) (th : Int32) (t1 : Nat) (len : Nat) (a4 : Nat) (a5 : Nat) (a6 : Nat) (my : Nat) (pu : Int32) (mi : Int32) (ms : Int32) (a11 : Nat) (a12 : Nat) (a13 : Nat) (la : Int32) (kp : Nat) (sh : Nat) (mf : Int32) (a18 : Nat) (a19 : Nat) (a20 : Nat) (a21 : Nat) (a22 : Nat) (a23 : Nat) (mo : Int32) (ch : Int32) (zz : Nat) : Met l yX5_currency wsX5_currency ({ frames := 1, cells := 0, slots := 0, locals := 20 } : Room) (va_Pc [.ref h0, .int ch] (wr_P (dC, dI) vwCl [(h0, .inr (6, [.int th, .ref t1, .int (nI len), .int mo, .ref a4, .ref a5, .ref a6, .int (nI my), .int pu, .int mi, .int ms, .ref a11, .ref a12, .ref a13, .int la, .int (nI kp), .int (nI sh), .int mf, .ref a18, .ref a19, .ref a20, .ref a21, .ref a22, .ref a23]))] [] zz)) (va_Qi (S := Unit) (fun r _ => r = (m_X5_currency mo ch).1) (wr_B (dC, dI) vwCl (fun u9 => [(h0, .inr (6, [.int 0, .ref t1, .int (nI len), .int ((m_X5_currency mo ch).2), .ref a4, .ref a5, .ref a6, .int (nI my), .int pu, .int mi, .int ms, .ref a11, .ref a12, .ref a13, .int la, .int (nI kp), .int (nI sh), .int mf, .ref a18, .ref a19, .ref a20, .ref a21, .ref a22, .ref a23]))]) [] (va_A [(h0, .inr (6, [.int th, .ref t1, .int (nI len), .int mo, .ref a4, .ref a5, .ref a6, .int (nI my), .int pu, .int mi, .int ms, .ref a11, .ref a12, .ref a13, .int la, .int (nI kp), .int (nI sh), .int mf, .ref a18, .ref a19, .ref a20, .ref a21, .ref a22, .ref a23]))] zz)) (va_A [(h0, .inr (6, [.int th, .ref t1, .int (nI len), .int mo, .ref a4, .ref a5, .ref a6, .int (nI my), .int pu, .int mi, .int ms, .ref a11, .ref a12, .ref a13, .int la, .int (nI kp), .int (nI sh), .int mf, .ref a18, .ref a19, .ref a20, .ref a21, .ref a22, .ref a23]))] zz)) 0 0 (va_A [(h0, .inr (6, [.int th, .ref t1, .int (nI len), .int mo, .ref a4, .ref a5, .ref a6, .int (nI my), .int pu, .int mi, .int ms, .ref a11, .ref a12, .ref a13, .int la, .int (nI kp), .int (nI sh), .int mf, .ref a18, .ref a19, .ref a20, .ref a21, .ref a22, .ref a23]))] zz) := by
  refine Met.ofW (cc := cX5_currency) (maxL := 6) (ret := (some .int)) (by decide) rfl ?_
  intro p e s m args below meth c s₁ B hml hv
  obtain ⟨rfl, hsz0, hE, hP, hK, hD0⟩ := hv
  have hx := B.exec
  have hb := B.bytes
  have hr := B.returns
  have hts := atoms_spec (ws := wsX5_currency) B.pre
  have hown : s.vm.findClass RX5 = some m.cls := findClass_of_methodNamed B.named
  have hlocks := B.notSynchronized
  subst hsz0
  have hD := hD0.self (sz := s.heap.size)
  generalize hAe : va_A [(h0, .inr (6, [.int th, .ref t1, .int (nI len), .int mo, .ref a4, .ref a5, .ref a6, .int (nI my), .int pu, .int mi, .int ms, .ref a11, .ref a12, .ref a13, .int la, .int (nI kp), .int (nI sh), .int mf, .ref a18, .ref a19, .ref a20, .ref a21, .ref a22, .ref a23]))] s.heap.size = A at hD hE ⊢
  have hA : ∀ q : Nat, s.heap.size ≤ q → A q := fun q h => by rw [← hAe]; exact Or.inr h
  have hS : va_S A s.heap s.heap [] := va_S.rf
  have hP : va_P (dC, dI) vwCl [(h0, .inr (6, [.int th, .ref t1, .int (nI len), .int mo, .ref a4, .ref a5, .ref a6, .int (nI my), .int pu, .int mi, .int ms, .ref a11, .ref a12, .ref a13, .int la, .int (nI kp), .int (nI sh), .int mf, .ref a18, .ref a19, .ref a20, .ref a21, .ref a22, .ref a23]))] s.heap := hP
  have hl := lv_entry ([.ref h0, .int ch]) (n := 6) (Nat.le_of_ble_eq_true rfl)
  rw [lg_entry_eq]
  generalize (lg_sl ([.ref h0, .int ch]) ++ List.replicate (6 - (lg_sl ([.ref h0, .int ch])).length) Slot.unset).toArray = ls at hl ⊢
  have hl : lv_has ls 6 [(0, .ref h0), (1, .int ch)] := hl
  refine lv_aload_n hx hb dX5_currency_0 rfl (lv_at hl 0 rfl) ?_
  refine lv_iconst (v := 0) hx hb dX5_currency_1 (by decide) ?_
  refine va_put (D := (dC, dI)) (ci := 6) (v := .int 0) (ty := .int) (C := RX5) (T := TX5) (N := 24) hx hb hts (by decide +kernel) tyX5 tyX5_ok nmX5 hown hK hP hD hS 0 rfl rfl 0 (by decide) (hts (.fieldLink RX5 69 "PictureRowsModel" "thrown" "I") (by decide +kernel)) (fun _ h9 => h9) rfl (by decide +kernel) rfl rfl (Nat.le_of_ble_eq_true rfl) dX5_currency_2 (fun H locs hP hD hS => ?_)
  have hP : va_P (dC, dI) vwCl [(h0, .inr (6, [.int 0, .ref t1, .int (nI len), .int mo, .ref a4, .ref a5, .ref a6, .int (nI my), .int pu, .int mi, .int ms, .ref a11, .ref a12, .ref a13, .int la, .int (nI kp), .int (nI sh), .int mf, .ref a18, .ref a19, .ref a20, .ref a21, .ref a22, .ref a23]))] H := hP
  have hD : va_D A [(h0, .inr (6, [.int 0, .ref t1, .int (nI len), .int mo, .ref a4, .ref a5, .ref a6, .int (nI my), .int pu, .int mi, .int ms, .ref a11, .ref a12, .ref a13, .int la, .int (nI kp), .int (nI sh), .int mf, .ref a18, .ref a19, .ref a20, .ref a21, .ref a22, .ref a23]))] := hD
  refine lv_iload_n hx hb dX5_currency_5 rfl (lv_at hl 1 rfl) ?_
  refine rd_callS (As := [.int ch]) (rest := []) ⟨hx, hb, hml, hown, hts⟩ (hE.rd hS) (c_X5_great l dC dI ch ) (va_cwS 1 hts gX5_currency_X5_great rfl rfl rfl (by decide +kernel) ⟨Nat.le_of_ble_eq_true rfl, Nat.le_of_ble_eq_true rfl⟩) (hP.sub (ws' := []) [] rfl) (hK.sub [] rfl) rfl hl.1 rfl (Nat.le_of_ble_eq_true rfl) dX5_currency_6 ⟨Nat.le_of_ble_eq_true rfl, Nat.le_of_ble_eq_true rfl⟩ (fun r9 hr9 => ?_)
  subst hr9
  refine lv_istore_n (lv' := [(2, .int (m_X5_great ch)), (0, .ref h0), (1, .int ch)]) hx hb dX5_currency_9 rfl hl (by decide) rfl (fun ls hl => ?_)
  refine lv_iload_n hx hb dX5_currency_10 rfl (lv_at hl 0 rfl) ?_
  refine lv_bipush (v := 65) hx hb dX5_currency_11 (by decide) ?_
  have j_1 : ∀ (y0_j_1 : Bool), y0_j_1 = m_X5_currency_j87_s0 ch → ∀ (ls : Array Slot), lv_has ls 6 [(0, .ref h0), (1, .int ch), (2, .int (m_X5_great ch))] → W p l e (headSpec wsX5_currency ({ frames := 1, cells := 0, slots := 0, locals := 20 } : Room)).room s m (([.ref h0, .int ch] : List Value).toArray) below meth c H locs 0 0 (MQ below (va_Qi (S := Unit) (fun r _ => r = (m_X5_currency mo ch).1) (wr_B (dC, dI) vwCl (fun u9 => [(h0, .inr (6, [.int 0, .ref t1, .int (nI len), .int ((m_X5_currency mo ch).2), .ref a4, .ref a5, .ref a6, .int (nI my), .int pu, .int mi, .int ms, .ref a11, .ref a12, .ref a13, .int la, .int (nI kp), .int (nI sh), .int mf, .ref a18, .ref a19, .ref a20, .ref a21, .ref a22, .ref a23]))]) [] A) A) (([.ref h0, .int ch] : List Value).toArray) s 0 0 A) (F0 m 87 ls [.int (bI y0_j_1)]) := by
    intro y0_j_1 ey0_j_1 ls hl
    subst ey0_j_1
    refine lv_istore_n (lv' := [(3, .int (bI (m_X5_currency_j87_s0 ch))), (0, .ref h0), (1, .int ch), (2, .int (m_X5_great ch))]) hx hb dX5_currency_87 rfl hl (by decide) rfl (fun ls hl => ?_)
    refine lv_iload_n hx hb dX5_currency_88 rfl (lv_at hl 2 rfl) ?_
    refine lv_bipush (v := 42) hx hb dX5_currency_89 (by decide) ?_
    have j_2 : ∀ (y0_j_2 : Bool), y0_j_2 = m_X5_currency_j165_s0 ch → ∀ (ls : Array Slot), lv_has ls 6 [(0, .ref h0), (1, .int ch), (2, .int (m_X5_great ch)), (3, .int (bI (m_X5_currency_j87_s0 ch)))] → W p l e (headSpec wsX5_currency ({ frames := 1, cells := 0, slots := 0, locals := 20 } : Room)).room s m (([.ref h0, .int ch] : List Value).toArray) below meth c H locs 0 0 (MQ below (va_Qi (S := Unit) (fun r _ => r = (m_X5_currency mo ch).1) (wr_B (dC, dI) vwCl (fun u9 => [(h0, .inr (6, [.int 0, .ref t1, .int (nI len), .int ((m_X5_currency mo ch).2), .ref a4, .ref a5, .ref a6, .int (nI my), .int pu, .int mi, .int ms, .ref a11, .ref a12, .ref a13, .int la, .int (nI kp), .int (nI sh), .int mf, .ref a18, .ref a19, .ref a20, .ref a21, .ref a22, .ref a23]))]) [] A) A) (([.ref h0, .int ch] : List Value).toArray) s 0 0 A) (F0 m 165 ls [.int (bI y0_j_2)]) := by
      intro y0_j_2 ey0_j_2 ls hl
      subst ey0_j_2
      refine lv_istore (lv' := [(4, .int (bI (m_X5_currency_j165_s0 ch))), (0, .ref h0), (1, .int ch), (2, .int (m_X5_great ch)), (3, .int (bI (m_X5_currency_j87_s0 ch)))]) hx hb dX5_currency_165 hl (by decide) rfl (fun ls hl => ?_)
      refine lv_iload_n hx hb dX5_currency_167 rfl (lv_at hl 2 rfl) ?_
      refine lv_bipush (v := 33) hx hb dX5_currency_168 (by decide) ?_
      refine lv_icmp_lt (tgt := 200) hx hb dX5_currency_170 (by decide) (fun c_3 => ?_) (fun c_3 => ?_)
      · skip
        refine lv_iconst (v := (-1)) hx hb dX5_currency_200 (by decide) ?_
        have hmE : m_X5_currency mo ch = ((-1), mo) := by simp only [m_X5_currency, if_pos c_3]
        exact wr_iret (v := (-1)) () hx hb hr hlocks hK hS (by rw [hmE]) (by rw [hmE]; exact hP) (by rw [hmE]; exact hD) dX5_currency_201
      · skip
        refine lv_iload_n hx hb dX5_currency_173 rfl (lv_at hl 2 rfl) ?_
        refine lv_bipush (v := 126) hx hb dX5_currency_174 (by decide) ?_
        refine lv_icmp_gt (tgt := 200) hx hb dX5_currency_176 (by decide) (fun c_4 => ?_) (fun c_4 => ?_)
        · skip
          refine lv_iconst (v := (-1)) hx hb dX5_currency_200 (by decide) ?_
          have hmE : m_X5_currency mo ch = ((-1), mo) := by simp only [m_X5_currency, if_neg c_3, if_pos c_4]
          exact wr_iret (v := (-1)) () hx hb hr hlocks hK hS (by rw [hmE]) (by rw [hmE]; exact hP) (by rw [hmE]; exact hD) dX5_currency_201
        · skip
          refine lv_iload_n hx hb dX5_currency_179 rfl (lv_at hl 2 rfl) ?_
          refine lv_bipush (v := 48) hx hb dX5_currency_180 (by decide) ?_
          refine lv_icmp_lt (tgt := 191) hx hb dX5_currency_182 (by decide) (fun c_5 => ?_) (fun c_5 => ?_)
          · skip
            refine lv_iload_n hx hb dX5_currency_191 rfl (lv_at hl 4 rfl) ?_
            refine lv_if_ne (tgt := 200) hx hb dX5_currency_192 (by decide) (fun c_6 => ?_) (fun c_6 => ?_)
            · skip
              have c_6 := bI_n0 c_6
              refine lv_iconst (v := (-1)) hx hb dX5_currency_200 (by decide) ?_
              have hmE : m_X5_currency mo ch = ((-1), mo) := by simp only [m_X5_currency, if_neg c_3, if_neg c_4, if_pos c_5, if_neg c_6]
              exact wr_iret (v := (-1)) () hx hb hr hlocks hK hS (by rw [hmE]) (by rw [hmE]; exact hP) (by rw [hmE]; exact hD) dX5_currency_201
            · skip
              have c_6 := bI_0 c_6
              refine lv_iload hx hb dX5_currency_195 (lv_at hl 0 rfl) ?_
              refine lv_if_eq (tgt := 202) hx hb dX5_currency_197 (by decide) (fun c_7 => ?_) (fun c_7 => ?_)
              · skip
                have c_7 := bI_0 c_7
                refine lv_aload_n hx hb dX5_currency_202 rfl (lv_at hl 1 rfl) ?_
                refine va_get (D := (dC, dI)) (ci := 6) (v := .int mo) (C := RX5) (T := TX5) (N := 24) hx hb hts (by decide +kernel) hown hK hP 0 rfl rfl 3 (by decide) (hts (.fieldLink RX5 13 "PictureRowsModel" "money" "I") (by decide +kernel)) (fun _ h9 => h9) rfl dX5_currency_203 ?_
                refine lv_istore (lv' := [(5, .int mo), (4, .int (bI (m_X5_currency_j165_s0 ch))), (0, .ref h0), (1, .int ch), (2, .int (m_X5_great ch)), (3, .int (bI (m_X5_currency_j87_s0 ch)))]) hx hb dX5_currency_206 hl (by decide) rfl (fun ls hl => ?_)
                refine lv_aload_n hx hb dX5_currency_208 rfl (lv_at hl 2 rfl) ?_
                refine lv_iload_n hx hb dX5_currency_209 rfl (lv_at hl 3 rfl) ?_
                refine va_put (D := (dC, dI)) (ci := 6) (v := .int ch) (ty := .int) (C := RX5) (T := TX5) (N := 24) hx hb hts (by decide +kernel) tyX5 tyX5_ok nmX5 hown hK hP hD hS 0 rfl rfl 3 (by decide) (hts (.fieldLink RX5 13 "PictureRowsModel" "money" "I") (by decide +kernel)) (fun _ h9 => h9) rfl (by decide +kernel) rfl rfl (Nat.le_of_ble_eq_true rfl) dX5_currency_210 (fun H locs hP hD hS => ?_)
                have hP : va_P (dC, dI) vwCl [(h0, .inr (6, [.int 0, .ref t1, .int (nI len), .int ch, .ref a4, .ref a5, .ref a6, .int (nI my), .int pu, .int mi, .int ms, .ref a11, .ref a12, .ref a13, .int la, .int (nI kp), .int (nI sh), .int mf, .ref a18, .ref a19, .ref a20, .ref a21, .ref a22, .ref a23]))] H := hP
                have hD : va_D A [(h0, .inr (6, [.int 0, .ref t1, .int (nI len), .int ch, .ref a4, .ref a5, .ref a6, .int (nI my), .int pu, .int mi, .int ms, .ref a11, .ref a12, .ref a13, .int la, .int (nI kp), .int (nI sh), .int mf, .ref a18, .ref a19, .ref a20, .ref a21, .ref a22, .ref a23]))] := hD
                refine lv_iload hx hb dX5_currency_213 (lv_at hl 0 rfl) ?_
                have hmE : m_X5_currency mo ch = (mo, ch) := by simp only [m_X5_currency, if_neg c_3, if_neg c_4, if_pos c_5, if_pos c_6, if_pos c_7]
                exact wr_iret (v := mo) () hx hb hr hlocks hK hS (by rw [hmE]) (by rw [hmE]; exact hP) (by rw [hmE]; exact hD) dX5_currency_215
              · skip
                have c_7 := bI_n0 c_7
                refine lv_iconst (v := (-1)) hx hb dX5_currency_200 (by decide) ?_
                have hmE : m_X5_currency mo ch = ((-1), mo) := by simp only [m_X5_currency, if_neg c_3, if_neg c_4, if_pos c_5, if_pos c_6, if_neg c_7]
                exact wr_iret (v := (-1)) () hx hb hr hlocks hK hS (by rw [hmE]) (by rw [hmE]; exact hP) (by rw [hmE]; exact hD) dX5_currency_201
          · skip
            refine lv_iload_n hx hb dX5_currency_185 rfl (lv_at hl 2 rfl) ?_
            refine lv_bipush (v := 57) hx hb dX5_currency_186 (by decide) ?_
            refine lv_icmp_le (tgt := 200) hx hb dX5_currency_188 (by decide) (fun c_8 => ?_) (fun c_8 => ?_)
            · skip
              refine lv_iconst (v := (-1)) hx hb dX5_currency_200 (by decide) ?_
              have hmE : m_X5_currency mo ch = ((-1), mo) := by simp only [m_X5_currency, if_neg c_3, if_neg c_4, if_neg c_5, if_pos c_8]
              exact wr_iret (v := (-1)) () hx hb hr hlocks hK hS (by rw [hmE]) (by rw [hmE]; exact hP) (by rw [hmE]; exact hD) dX5_currency_201
            · skip
              refine lv_iload_n hx hb dX5_currency_191 rfl (lv_at hl 4 rfl) ?_
              refine lv_if_ne (tgt := 200) hx hb dX5_currency_192 (by decide) (fun c_9 => ?_) (fun c_9 => ?_)
              · skip
                have c_9 := bI_n0 c_9
                refine lv_iconst (v := (-1)) hx hb dX5_currency_200 (by decide) ?_
                have hmE : m_X5_currency mo ch = ((-1), mo) := by simp only [m_X5_currency, if_neg c_3, if_neg c_4, if_neg c_5, if_neg c_8, if_neg c_9]
                exact wr_iret (v := (-1)) () hx hb hr hlocks hK hS (by rw [hmE]) (by rw [hmE]; exact hP) (by rw [hmE]; exact hD) dX5_currency_201
              · skip
                have c_9 := bI_0 c_9
                refine lv_iload hx hb dX5_currency_195 (lv_at hl 0 rfl) ?_
                refine lv_if_eq (tgt := 202) hx hb dX5_currency_197 (by decide) (fun c_10 => ?_) (fun c_10 => ?_)
                · skip
                  have c_10 := bI_0 c_10
                  refine lv_aload_n hx hb dX5_currency_202 rfl (lv_at hl 1 rfl) ?_
                  refine va_get (D := (dC, dI)) (ci := 6) (v := .int mo) (C := RX5) (T := TX5) (N := 24) hx hb hts (by decide +kernel) hown hK hP 0 rfl rfl 3 (by decide) (hts (.fieldLink RX5 13 "PictureRowsModel" "money" "I") (by decide +kernel)) (fun _ h9 => h9) rfl dX5_currency_203 ?_
                  refine lv_istore (lv' := [(5, .int mo), (4, .int (bI (m_X5_currency_j165_s0 ch))), (0, .ref h0), (1, .int ch), (2, .int (m_X5_great ch)), (3, .int (bI (m_X5_currency_j87_s0 ch)))]) hx hb dX5_currency_206 hl (by decide) rfl (fun ls hl => ?_)
                  refine lv_aload_n hx hb dX5_currency_208 rfl (lv_at hl 2 rfl) ?_
                  refine lv_iload_n hx hb dX5_currency_209 rfl (lv_at hl 3 rfl) ?_
                  refine va_put (D := (dC, dI)) (ci := 6) (v := .int ch) (ty := .int) (C := RX5) (T := TX5) (N := 24) hx hb hts (by decide +kernel) tyX5 tyX5_ok nmX5 hown hK hP hD hS 0 rfl rfl 3 (by decide) (hts (.fieldLink RX5 13 "PictureRowsModel" "money" "I") (by decide +kernel)) (fun _ h9 => h9) rfl (by decide +kernel) rfl rfl (Nat.le_of_ble_eq_true rfl) dX5_currency_210 (fun H locs hP hD hS => ?_)
                  have hP : va_P (dC, dI) vwCl [(h0, .inr (6, [.int 0, .ref t1, .int (nI len), .int ch, .ref a4, .ref a5, .ref a6, .int (nI my), .int pu, .int mi, .int ms, .ref a11, .ref a12, .ref a13, .int la, .int (nI kp), .int (nI sh), .int mf, .ref a18, .ref a19, .ref a20, .ref a21, .ref a22, .ref a23]))] H := hP
                  have hD : va_D A [(h0, .inr (6, [.int 0, .ref t1, .int (nI len), .int ch, .ref a4, .ref a5, .ref a6, .int (nI my), .int pu, .int mi, .int ms, .ref a11, .ref a12, .ref a13, .int la, .int (nI kp), .int (nI sh), .int mf, .ref a18, .ref a19, .ref a20, .ref a21, .ref a22, .ref a23]))] := hD
                  refine lv_iload hx hb dX5_currency_213 (lv_at hl 0 rfl) ?_
                  have hmE : m_X5_currency mo ch = (mo, ch) := by simp only [m_X5_currency, if_neg c_3, if_neg c_4, if_neg c_5, if_neg c_8, if_pos c_9, if_pos c_10]
                  exact wr_iret (v := mo) () hx hb hr hlocks hK hS (by rw [hmE]) (by rw [hmE]; exact hP) (by rw [hmE]; exact hD) dX5_currency_215
                · skip
                  have c_10 := bI_n0 c_10
                  refine lv_iconst (v := (-1)) hx hb dX5_currency_200 (by decide) ?_
                  have hmE : m_X5_currency mo ch = ((-1), mo) := by simp only [m_X5_currency, if_neg c_3, if_neg c_4, if_neg c_5, if_neg c_8, if_pos c_9, if_neg c_10]
                  exact wr_iret (v := (-1)) () hx hb hr hlocks hK hS (by rw [hmE]) (by rw [hmE]; exact hP) (by rw [hmE]; exact hD) dX5_currency_201
    refine lv_icmp_eq (tgt := 160) hx hb dX5_currency_91 (by decide) (fun c_11 => ?_) (fun c_11 => ?_)
    · skip
      refine lv_iconst (v := 1) hx hb dX5_currency_160 (by decide) ?_
      refine lv_goto (tgt := 165) hx hb dX5_currency_161 (by decide) ?_
      exact j_2 true (by simp only [m_X5_currency_j165_s0, if_pos c_11]) ls (lv_sub hl [1, 2, 3, 0] rfl)
    · skip
      refine lv_iload_n hx hb dX5_currency_94 rfl (lv_at hl 2 rfl) ?_
      refine lv_bipush (v := 43) hx hb dX5_currency_95 (by decide) ?_
      refine lv_icmp_eq (tgt := 160) hx hb dX5_currency_97 (by decide) (fun c_12 => ?_) (fun c_12 => ?_)
      · skip
        refine lv_iconst (v := 1) hx hb dX5_currency_160 (by decide) ?_
        refine lv_goto (tgt := 165) hx hb dX5_currency_161 (by decide) ?_
        exact j_2 true (by simp only [m_X5_currency_j165_s0, if_neg c_11, if_pos c_12]) ls (lv_sub hl [1, 2, 3, 0] rfl)
      · skip
        refine lv_iload_n hx hb dX5_currency_100 rfl (lv_at hl 2 rfl) ?_
        refine lv_bipush (v := 45) hx hb dX5_currency_101 (by decide) ?_
        refine lv_icmp_eq (tgt := 160) hx hb dX5_currency_103 (by decide) (fun c_13 => ?_) (fun c_13 => ?_)
        · skip
          refine lv_iconst (v := 1) hx hb dX5_currency_160 (by decide) ?_
          refine lv_goto (tgt := 165) hx hb dX5_currency_161 (by decide) ?_
          exact j_2 true (by simp only [m_X5_currency_j165_s0, if_neg c_11, if_neg c_12, if_pos c_13]) ls (lv_sub hl [1, 2, 3, 0] rfl)
        · skip
          refine lv_iload_n hx hb dX5_currency_106 rfl (lv_at hl 2 rfl) ?_
          refine lv_bipush (v := 44) hx hb dX5_currency_107 (by decide) ?_
          refine lv_icmp_eq (tgt := 160) hx hb dX5_currency_109 (by decide) (fun c_14 => ?_) (fun c_14 => ?_)
          · skip
            refine lv_iconst (v := 1) hx hb dX5_currency_160 (by decide) ?_
            refine lv_goto (tgt := 165) hx hb dX5_currency_161 (by decide) ?_
            exact j_2 true (by simp only [m_X5_currency_j165_s0, if_neg c_11, if_neg c_12, if_neg c_13, if_pos c_14]) ls (lv_sub hl [1, 2, 3, 0] rfl)
          · skip
            refine lv_iload_n hx hb dX5_currency_112 rfl (lv_at hl 2 rfl) ?_
            refine lv_bipush (v := 46) hx hb dX5_currency_113 (by decide) ?_
            refine lv_icmp_eq (tgt := 160) hx hb dX5_currency_115 (by decide) (fun c_15 => ?_) (fun c_15 => ?_)
            · skip
              refine lv_iconst (v := 1) hx hb dX5_currency_160 (by decide) ?_
              refine lv_goto (tgt := 165) hx hb dX5_currency_161 (by decide) ?_
              exact j_2 true (by simp only [m_X5_currency_j165_s0, if_neg c_11, if_neg c_12, if_neg c_13, if_neg c_14, if_pos c_15]) ls (lv_sub hl [1, 2, 3, 0] rfl)
            · skip
              refine lv_iload_n hx hb dX5_currency_118 rfl (lv_at hl 2 rfl) ?_
              refine lv_bipush (v := 47) hx hb dX5_currency_119 (by decide) ?_
              refine lv_icmp_eq (tgt := 160) hx hb dX5_currency_121 (by decide) (fun c_16 => ?_) (fun c_16 => ?_)
              · skip
                refine lv_iconst (v := 1) hx hb dX5_currency_160 (by decide) ?_
                refine lv_goto (tgt := 165) hx hb dX5_currency_161 (by decide) ?_
                exact j_2 true (by simp only [m_X5_currency_j165_s0, if_neg c_11, if_neg c_12, if_neg c_13, if_neg c_14, if_neg c_15, if_pos c_16]) ls (lv_sub hl [1, 2, 3, 0] rfl)
              · skip
                refine lv_iload_n hx hb dX5_currency_124 rfl (lv_at hl 2 rfl) ?_
                refine lv_bipush (v := 59) hx hb dX5_currency_125 (by decide) ?_
                refine lv_icmp_eq (tgt := 160) hx hb dX5_currency_127 (by decide) (fun c_17 => ?_) (fun c_17 => ?_)
                · skip
                  refine lv_iconst (v := 1) hx hb dX5_currency_160 (by decide) ?_
                  refine lv_goto (tgt := 165) hx hb dX5_currency_161 (by decide) ?_
                  exact j_2 true (by simp only [m_X5_currency_j165_s0, if_neg c_11, if_neg c_12, if_neg c_13, if_neg c_14, if_neg c_15, if_neg c_16, if_pos c_17]) ls (lv_sub hl [1, 2, 3, 0] rfl)
                · skip
                  refine lv_iload_n hx hb dX5_currency_130 rfl (lv_at hl 2 rfl) ?_
                  refine lv_bipush (v := 40) hx hb dX5_currency_131 (by decide) ?_
                  refine lv_icmp_eq (tgt := 160) hx hb dX5_currency_133 (by decide) (fun c_18 => ?_) (fun c_18 => ?_)
                  · skip
                    refine lv_iconst (v := 1) hx hb dX5_currency_160 (by decide) ?_
                    refine lv_goto (tgt := 165) hx hb dX5_currency_161 (by decide) ?_
                    exact j_2 true (by simp only [m_X5_currency_j165_s0, if_neg c_11, if_neg c_12, if_neg c_13, if_neg c_14, if_neg c_15, if_neg c_16, if_neg c_17, if_pos c_18]) ls (lv_sub hl [1, 2, 3, 0] rfl)
                  · skip
                    refine lv_iload_n hx hb dX5_currency_136 rfl (lv_at hl 2 rfl) ?_
                    refine lv_bipush (v := 41) hx hb dX5_currency_137 (by decide) ?_
                    refine lv_icmp_eq (tgt := 160) hx hb dX5_currency_139 (by decide) (fun c_19 => ?_) (fun c_19 => ?_)
                    · skip
                      refine lv_iconst (v := 1) hx hb dX5_currency_160 (by decide) ?_
                      refine lv_goto (tgt := 165) hx hb dX5_currency_161 (by decide) ?_
                      exact j_2 true (by simp only [m_X5_currency_j165_s0, if_neg c_11, if_neg c_12, if_neg c_13, if_neg c_14, if_neg c_15, if_neg c_16, if_neg c_17, if_neg c_18, if_pos c_19]) ls (lv_sub hl [1, 2, 3, 0] rfl)
                    · skip
                      refine lv_iload_n hx hb dX5_currency_142 rfl (lv_at hl 2 rfl) ?_
                      refine lv_bipush (v := 61) hx hb dX5_currency_143 (by decide) ?_
                      refine lv_icmp_eq (tgt := 160) hx hb dX5_currency_145 (by decide) (fun c_20 => ?_) (fun c_20 => ?_)
                      · skip
                        refine lv_iconst (v := 1) hx hb dX5_currency_160 (by decide) ?_
                        refine lv_goto (tgt := 165) hx hb dX5_currency_161 (by decide) ?_
                        exact j_2 true (by simp only [m_X5_currency_j165_s0, if_neg c_11, if_neg c_12, if_neg c_13, if_neg c_14, if_neg c_15, if_neg c_16, if_neg c_17, if_neg c_18, if_neg c_19, if_pos c_20]) ls (lv_sub hl [1, 2, 3, 0] rfl)
                      · skip
                        refine lv_iload_n hx hb dX5_currency_148 rfl (lv_at hl 2 rfl) ?_
                        refine lv_bipush (v := 39) hx hb dX5_currency_149 (by decide) ?_
                        refine lv_icmp_eq (tgt := 160) hx hb dX5_currency_151 (by decide) (fun c_21 => ?_) (fun c_21 => ?_)
                        · skip
                          refine lv_iconst (v := 1) hx hb dX5_currency_160 (by decide) ?_
                          refine lv_goto (tgt := 165) hx hb dX5_currency_161 (by decide) ?_
                          exact j_2 true (by simp only [m_X5_currency_j165_s0, if_neg c_11, if_neg c_12, if_neg c_13, if_neg c_14, if_neg c_15, if_neg c_16, if_neg c_17, if_neg c_18, if_neg c_19, if_neg c_20, if_pos c_21]) ls (lv_sub hl [1, 2, 3, 0] rfl)
                        · skip
                          refine lv_iload_n hx hb dX5_currency_154 rfl (lv_at hl 2 rfl) ?_
                          refine lv_bipush (v := 34) hx hb dX5_currency_155 (by decide) ?_
                          refine lv_icmp_ne (tgt := 164) hx hb dX5_currency_157 (by decide) (fun c_22 => ?_) (fun c_22 => ?_)
                          · skip
                            refine lv_iconst (v := 0) hx hb dX5_currency_164 (by decide) ?_
                            exact j_2 false (by simp only [m_X5_currency_j165_s0, if_neg c_11, if_neg c_12, if_neg c_13, if_neg c_14, if_neg c_15, if_neg c_16, if_neg c_17, if_neg c_18, if_neg c_19, if_neg c_20, if_neg c_21, if_neg c_22]) ls (lv_sub hl [1, 2, 3, 0] rfl)
                          · skip
                            refine lv_iconst (v := 1) hx hb dX5_currency_160 (by decide) ?_
                            refine lv_goto (tgt := 165) hx hb dX5_currency_161 (by decide) ?_
                            exact j_2 true (by simp only [m_X5_currency_j165_s0, if_neg c_11, if_neg c_12, if_neg c_13, if_neg c_14, if_neg c_15, if_neg c_16, if_neg c_17, if_neg c_18, if_neg c_19, if_neg c_20, if_neg c_21, if_pos c_22]) ls (lv_sub hl [1, 2, 3, 0] rfl)
  refine lv_icmp_eq (tgt := 82) hx hb dX5_currency_13 (by decide) (fun c_23 => ?_) (fun c_23 => ?_)
  · skip
    refine lv_iconst (v := 1) hx hb dX5_currency_82 (by decide) ?_
    refine lv_goto (tgt := 87) hx hb dX5_currency_83 (by decide) ?_
    exact j_1 true (by simp only [m_X5_currency_j87_s0, if_pos c_23]) ls (lv_sub hl [1, 2, 0] rfl)
  · skip
    refine lv_iload_n hx hb dX5_currency_16 rfl (lv_at hl 0 rfl) ?_
    refine lv_bipush (v := 88) hx hb dX5_currency_17 (by decide) ?_
    refine lv_icmp_eq (tgt := 82) hx hb dX5_currency_19 (by decide) (fun c_24 => ?_) (fun c_24 => ?_)
    · skip
      refine lv_iconst (v := 1) hx hb dX5_currency_82 (by decide) ?_
      refine lv_goto (tgt := 87) hx hb dX5_currency_83 (by decide) ?_
      exact j_1 true (by simp only [m_X5_currency_j87_s0, if_neg c_23, if_pos c_24]) ls (lv_sub hl [1, 2, 0] rfl)
    · skip
      refine lv_iload_n hx hb dX5_currency_22 rfl (lv_at hl 0 rfl) ?_
      refine lv_bipush (v := 90) hx hb dX5_currency_23 (by decide) ?_
      refine lv_icmp_eq (tgt := 82) hx hb dX5_currency_25 (by decide) (fun c_25 => ?_) (fun c_25 => ?_)
      · skip
        refine lv_iconst (v := 1) hx hb dX5_currency_82 (by decide) ?_
        refine lv_goto (tgt := 87) hx hb dX5_currency_83 (by decide) ?_
        exact j_1 true (by simp only [m_X5_currency_j87_s0, if_neg c_23, if_neg c_24, if_pos c_25]) ls (lv_sub hl [1, 2, 0] rfl)
      · skip
        refine lv_iload_n hx hb dX5_currency_28 rfl (lv_at hl 0 rfl) ?_
        refine lv_bipush (v := 66) hx hb dX5_currency_29 (by decide) ?_
        refine lv_icmp_eq (tgt := 82) hx hb dX5_currency_31 (by decide) (fun c_26 => ?_) (fun c_26 => ?_)
        · skip
          refine lv_iconst (v := 1) hx hb dX5_currency_82 (by decide) ?_
          refine lv_goto (tgt := 87) hx hb dX5_currency_83 (by decide) ?_
          exact j_1 true (by simp only [m_X5_currency_j87_s0, if_neg c_23, if_neg c_24, if_neg c_25, if_pos c_26]) ls (lv_sub hl [1, 2, 0] rfl)
        · skip
          refine lv_iload_n hx hb dX5_currency_34 rfl (lv_at hl 0 rfl) ?_
          refine lv_bipush (v := 83) hx hb dX5_currency_35 (by decide) ?_
          refine lv_icmp_eq (tgt := 82) hx hb dX5_currency_37 (by decide) (fun c_27 => ?_) (fun c_27 => ?_)
          · skip
            refine lv_iconst (v := 1) hx hb dX5_currency_82 (by decide) ?_
            refine lv_goto (tgt := 87) hx hb dX5_currency_83 (by decide) ?_
            exact j_1 true (by simp only [m_X5_currency_j87_s0, if_neg c_23, if_neg c_24, if_neg c_25, if_neg c_26, if_pos c_27]) ls (lv_sub hl [1, 2, 0] rfl)
          · skip
            refine lv_iload_n hx hb dX5_currency_40 rfl (lv_at hl 0 rfl) ?_
            refine lv_bipush (v := 86) hx hb dX5_currency_41 (by decide) ?_
            refine lv_icmp_eq (tgt := 82) hx hb dX5_currency_43 (by decide) (fun c_28 => ?_) (fun c_28 => ?_)
            · skip
              refine lv_iconst (v := 1) hx hb dX5_currency_82 (by decide) ?_
              refine lv_goto (tgt := 87) hx hb dX5_currency_83 (by decide) ?_
              exact j_1 true (by simp only [m_X5_currency_j87_s0, if_neg c_23, if_neg c_24, if_neg c_25, if_neg c_26, if_neg c_27, if_pos c_28]) ls (lv_sub hl [1, 2, 0] rfl)
            · skip
              refine lv_iload_n hx hb dX5_currency_46 rfl (lv_at hl 0 rfl) ?_
              refine lv_bipush (v := 80) hx hb dX5_currency_47 (by decide) ?_
              refine lv_icmp_eq (tgt := 82) hx hb dX5_currency_49 (by decide) (fun c_29 => ?_) (fun c_29 => ?_)
              · skip
                refine lv_iconst (v := 1) hx hb dX5_currency_82 (by decide) ?_
                refine lv_goto (tgt := 87) hx hb dX5_currency_83 (by decide) ?_
                exact j_1 true (by simp only [m_X5_currency_j87_s0, if_neg c_23, if_neg c_24, if_neg c_25, if_neg c_26, if_neg c_27, if_neg c_28, if_pos c_29]) ls (lv_sub hl [1, 2, 0] rfl)
              · skip
                refine lv_iload_n hx hb dX5_currency_52 rfl (lv_at hl 0 rfl) ?_
                refine lv_bipush (v := 78) hx hb dX5_currency_53 (by decide) ?_
                refine lv_icmp_eq (tgt := 82) hx hb dX5_currency_55 (by decide) (fun c_30 => ?_) (fun c_30 => ?_)
                · skip
                  refine lv_iconst (v := 1) hx hb dX5_currency_82 (by decide) ?_
                  refine lv_goto (tgt := 87) hx hb dX5_currency_83 (by decide) ?_
                  exact j_1 true (by simp only [m_X5_currency_j87_s0, if_neg c_23, if_neg c_24, if_neg c_25, if_neg c_26, if_neg c_27, if_neg c_28, if_neg c_29, if_pos c_30]) ls (lv_sub hl [1, 2, 0] rfl)
                · skip
                  refine lv_iload_n hx hb dX5_currency_58 rfl (lv_at hl 0 rfl) ?_
                  refine lv_bipush (v := 67) hx hb dX5_currency_59 (by decide) ?_
                  refine lv_icmp_eq (tgt := 82) hx hb dX5_currency_61 (by decide) (fun c_31 => ?_) (fun c_31 => ?_)
                  · skip
                    refine lv_iconst (v := 1) hx hb dX5_currency_82 (by decide) ?_
                    refine lv_goto (tgt := 87) hx hb dX5_currency_83 (by decide) ?_
                    exact j_1 true (by simp only [m_X5_currency_j87_s0, if_neg c_23, if_neg c_24, if_neg c_25, if_neg c_26, if_neg c_27, if_neg c_28, if_neg c_29, if_neg c_30, if_pos c_31]) ls (lv_sub hl [1, 2, 0] rfl)
                  · skip
                    refine lv_iload_n hx hb dX5_currency_64 rfl (lv_at hl 0 rfl) ?_
                    refine lv_bipush (v := 68) hx hb dX5_currency_65 (by decide) ?_
                    refine lv_icmp_eq (tgt := 82) hx hb dX5_currency_67 (by decide) (fun c_32 => ?_) (fun c_32 => ?_)
                    · skip
                      refine lv_iconst (v := 1) hx hb dX5_currency_82 (by decide) ?_
                      refine lv_goto (tgt := 87) hx hb dX5_currency_83 (by decide) ?_
                      exact j_1 true (by simp only [m_X5_currency_j87_s0, if_neg c_23, if_neg c_24, if_neg c_25, if_neg c_26, if_neg c_27, if_neg c_28, if_neg c_29, if_neg c_30, if_neg c_31, if_pos c_32]) ls (lv_sub hl [1, 2, 0] rfl)
                    · skip
                      refine lv_iload_n hx hb dX5_currency_70 rfl (lv_at hl 0 rfl) ?_
                      refine lv_bipush (v := 69) hx hb dX5_currency_71 (by decide) ?_
                      refine lv_icmp_eq (tgt := 82) hx hb dX5_currency_73 (by decide) (fun c_33 => ?_) (fun c_33 => ?_)
                      · skip
                        refine lv_iconst (v := 1) hx hb dX5_currency_82 (by decide) ?_
                        refine lv_goto (tgt := 87) hx hb dX5_currency_83 (by decide) ?_
                        exact j_1 true (by simp only [m_X5_currency_j87_s0, if_neg c_23, if_neg c_24, if_neg c_25, if_neg c_26, if_neg c_27, if_neg c_28, if_neg c_29, if_neg c_30, if_neg c_31, if_neg c_32, if_pos c_33]) ls (lv_sub hl [1, 2, 0] rfl)
                      · skip
                        refine lv_iload_n hx hb dX5_currency_76 rfl (lv_at hl 0 rfl) ?_
                        refine lv_bipush (v := 82) hx hb dX5_currency_77 (by decide) ?_
                        refine lv_icmp_ne (tgt := 86) hx hb dX5_currency_79 (by decide) (fun c_34 => ?_) (fun c_34 => ?_)
                        · skip
                          refine lv_iconst (v := 0) hx hb dX5_currency_86 (by decide) ?_
                          exact j_1 false (by simp only [m_X5_currency_j87_s0, if_neg c_23, if_neg c_24, if_neg c_25, if_neg c_26, if_neg c_27, if_neg c_28, if_neg c_29, if_neg c_30, if_neg c_31, if_neg c_32, if_neg c_33, if_neg c_34]) ls (lv_sub hl [1, 2, 0] rfl)
                        · skip
                          refine lv_iconst (v := 1) hx hb dX5_currency_82 (by decide) ?_
                          refine lv_goto (tgt := 87) hx hb dX5_currency_83 (by decide) ?_
                          exact j_1 true (by simp only [m_X5_currency_j87_s0, if_neg c_23, if_neg c_24, if_neg c_25, if_neg c_26, if_neg c_27, if_neg c_28, if_neg c_29, if_neg c_30, if_neg c_31, if_neg c_32, if_neg c_33, if_pos c_34]) ls (lv_sub hl [1, 2, 0] rfl)
def m_X5_at (lt : Nat → Int32) (sh : Nat) (ix : Int32) : Int32 := if ix < 0 then ((-1)) else (if ix < (nI sh) then (lt ix.toNatClampNeg) else ((-1)))
set_option maxHeartbeats 4000000 in
set_option maxRecDepth 100000 in
theorem c_X5_at (l : Launch) (dC : Nat → ClassId) (dI : Nat → Nat → Nat) (h0 : Nat) (th : Int32) (t1 : Nat) (len : Nat) (mo : Int32) (a4 : Nat) (a5 : Nat) (a6 : Nat) (my : Nat) (pu : Int32) (mi : Int32) (ms : Int32) (a11 : Nat) (a12 : Nat) (a13 : Nat) (la : Nat) (kp : Nat) (mf : Int32) (a18 : Nat) (a19 : Nat) (a20 : Nat) (a21 : Nat) (a22 : Nat) (a23 : Nat) (cA : ClassId) (lt : Nat → Int32) (sh : Nat) (ix : Int32) (zz : Nat) (hla : la ≤ 10200) (hsh : sh ≤ 10200) : Met l yX5_at wsX5_at ({ frames := 0, cells := 0, slots := 0, locals := 0 } : Room) (va_Pc [.ref h0, .int ix] (wr_P (dC, dI) vwCl [(h0, .inr (6, [.int th, .ref t1, .int (nI len), .int mo, .ref a4, .ref a5, .ref a6, .int (nI my), .int pu, .int mi, .int ms, .ref a11, .ref a12, .ref a13, .int (nI la), .int (nI kp), .int (nI sh), .int mf, .ref a18, .ref a19, .ref a20, .ref a21, .ref a22, .ref a23])), (a13, .inl (cA, 10200, .inl lt))] [(cA, .int)] zz)) (va_Qi (S := Unit) (fun r _ => r = m_X5_at lt sh ix) (wr_B (dC, dI) vwCl (fun u9 => [(h0, .inr (6, [.int 0, .ref t1, .int (nI len), .int mo, .ref a4, .ref a5, .ref a6, .int (nI my), .int pu, .int mi, .int ms, .ref a11, .ref a12, .ref a13, .int (nI la), .int (nI kp), .int (nI sh), .int mf, .ref a18, .ref a19, .ref a20, .ref a21, .ref a22, .ref a23])), (a13, .inl (cA, 10200, .inl lt))]) [(cA, .int)] (va_A [(h0, .inr (6, [.int th, .ref t1, .int (nI len), .int mo, .ref a4, .ref a5, .ref a6, .int (nI my), .int pu, .int mi, .int ms, .ref a11, .ref a12, .ref a13, .int (nI la), .int (nI kp), .int (nI sh), .int mf, .ref a18, .ref a19, .ref a20, .ref a21, .ref a22, .ref a23])), (a13, .inl (cA, 10200, .inl lt))] zz)) (va_A [(h0, .inr (6, [.int th, .ref t1, .int (nI len), .int mo, .ref a4, .ref a5, .ref a6, .int (nI my), .int pu, .int mi, .int ms, .ref a11, .ref a12, .ref a13, .int (nI la), .int (nI kp), .int (nI sh), .int mf, .ref a18, .ref a19, .ref a20, .ref a21, .ref a22, .ref a23])), (a13, .inl (cA, 10200, .inl lt))] zz)) 0 0 (va_A [(h0, .inr (6, [.int th, .ref t1, .int (nI len), .int mo, .ref a4, .ref a5, .ref a6, .int (nI my), .int pu, .int mi, .int ms, .ref a11, .ref a12, .ref a13, .int (nI la), .int (nI kp), .int (nI sh), .int mf, .ref a18, .ref a19, .ref a20, .ref a21, .ref a22, .ref a23])), (a13, .inl (cA, 10200, .inl lt))] zz) := by
  refine Met.ofW (cc := cX5_at) (maxL := 2) (ret := (some .int)) (by decide) rfl ?_
  intro p e s m args below meth c s₁ B hml hv
  obtain ⟨rfl, hsz0, hE, hP, hK, hD0⟩ := hv
  have hx := B.exec
  have hb := B.bytes
  have hr := B.returns
  have hts := atoms_spec (ws := wsX5_at) B.pre
  have hown : s.vm.findClass RX5 = some m.cls := findClass_of_methodNamed B.named
  have hlocks := B.notSynchronized
  subst hsz0
  have hD := hD0.self (sz := s.heap.size)
  generalize hAe : va_A [(h0, .inr (6, [.int th, .ref t1, .int (nI len), .int mo, .ref a4, .ref a5, .ref a6, .int (nI my), .int pu, .int mi, .int ms, .ref a11, .ref a12, .ref a13, .int (nI la), .int (nI kp), .int (nI sh), .int mf, .ref a18, .ref a19, .ref a20, .ref a21, .ref a22, .ref a23])), (a13, .inl (cA, 10200, .inl lt))] s.heap.size = A at hD hE ⊢
  have hA : ∀ q : Nat, s.heap.size ≤ q → A q := fun q h => by rw [← hAe]; exact Or.inr h
  have hS : va_S A s.heap s.heap [] := va_S.rf
  have hP : va_P (dC, dI) vwCl [(h0, .inr (6, [.int th, .ref t1, .int (nI len), .int mo, .ref a4, .ref a5, .ref a6, .int (nI my), .int pu, .int mi, .int ms, .ref a11, .ref a12, .ref a13, .int (nI la), .int (nI kp), .int (nI sh), .int mf, .ref a18, .ref a19, .ref a20, .ref a21, .ref a22, .ref a23])), (a13, .inl (cA, 10200, .inl lt))] s.heap := hP
  have hl := lv_entry ([.ref h0, .int ix]) (n := 2) (Nat.le_of_ble_eq_true rfl)
  rw [lg_entry_eq]
  generalize (lg_sl ([.ref h0, .int ix]) ++ List.replicate (2 - (lg_sl ([.ref h0, .int ix])).length) Slot.unset).toArray = ls at hl ⊢
  have hl : lv_has ls 2 [(0, .ref h0), (1, .int ix)] := hl
  refine lv_aload_n hx hb dX5_at_0 rfl (lv_at hl 0 rfl) ?_
  refine lv_iconst (v := 0) hx hb dX5_at_1 (by decide) ?_
  refine va_put (D := (dC, dI)) (ci := 6) (v := .int 0) (ty := .int) (C := RX5) (T := TX5) (N := 24) hx hb hts (by decide +kernel) tyX5 tyX5_ok nmX5 hown hK hP hD hS 0 rfl rfl 0 (by decide) (hts (.fieldLink RX5 69 "PictureRowsModel" "thrown" "I") (by decide +kernel)) (fun _ h9 => h9) rfl (by decide +kernel) rfl rfl (Nat.le_of_ble_eq_true rfl) dX5_at_2 (fun H locs hP hD hS => ?_)
  have hP : va_P (dC, dI) vwCl [(h0, .inr (6, [.int 0, .ref t1, .int (nI len), .int mo, .ref a4, .ref a5, .ref a6, .int (nI my), .int pu, .int mi, .int ms, .ref a11, .ref a12, .ref a13, .int (nI la), .int (nI kp), .int (nI sh), .int mf, .ref a18, .ref a19, .ref a20, .ref a21, .ref a22, .ref a23])), (a13, .inl (cA, 10200, .inl lt))] H := hP
  have hD : va_D A [(h0, .inr (6, [.int 0, .ref t1, .int (nI len), .int mo, .ref a4, .ref a5, .ref a6, .int (nI my), .int pu, .int mi, .int ms, .ref a11, .ref a12, .ref a13, .int (nI la), .int (nI kp), .int (nI sh), .int mf, .ref a18, .ref a19, .ref a20, .ref a21, .ref a22, .ref a23])), (a13, .inl (cA, 10200, .inl lt))] := hD
  refine lv_aload_n hx hb dX5_at_5 rfl (lv_at hl 0 rfl) ?_
  refine va_get (D := (dC, dI)) (ci := 6) (v := .int (nI la)) (C := RX5) (T := TX5) (N := 24) hx hb hts (by decide +kernel) hown hK hP 0 rfl rfl 14 (by decide) (hts (.fieldLink RX5 35 "PictureRowsModel" "latest" "I") (by decide +kernel)) (fun _ h9 => h9) rfl dX5_at_6 ?_
  refine lv_iconst (v := (-1)) hx hb dX5_at_9 (by decide) ?_
  refine lv_icmp_eq (tgt := 25) hx hb dX5_at_10 (by decide) (fun c_1 => ?_) (fun c_1 => ?_)
  · skip
    exfalso; exact nI_nm1 (n := la) (by omega) (by assumption)
  · skip
    refine lv_iload_n hx hb dX5_at_13 rfl (lv_at hl 1 rfl) ?_
    refine lv_if_lt (tgt := 25) hx hb dX5_at_14 (by decide) (fun c_2 => ?_) (fun c_2 => ?_)
    · skip
      refine lv_iconst (v := (-1)) hx hb dX5_at_25 (by decide) ?_
      refine lv_goto (tgt := 35) hx hb dX5_at_26 (by decide) ?_
      have hmE : m_X5_at lt sh ix = (-1) := by simp only [m_X5_at, if_pos c_2]
      exact wr_iret (v := (-1)) () hx hb hr hlocks hK hS (by rw [hmE]) hP hD dX5_at_35
    · skip
      refine lv_iload_n hx hb dX5_at_17 rfl (lv_at hl 1 rfl) ?_
      refine lv_aload_n hx hb dX5_at_18 rfl (lv_at hl 0 rfl) ?_
      refine va_get (D := (dC, dI)) (ci := 6) (v := .int (nI sh)) (C := RX5) (T := TX5) (N := 24) hx hb hts (by decide +kernel) hown hK hP 0 rfl rfl 16 (by decide) (hts (.fieldLink RX5 133 "PictureRowsModel" "shown" "I") (by decide +kernel)) (fun _ h9 => h9) rfl dX5_at_19 ?_
      refine lv_icmp_lt (tgt := 29) hx hb dX5_at_22 (by decide) (fun c_3 => ?_) (fun c_3 => ?_)
      · skip
        refine lv_aload_n hx hb dX5_at_29 rfl (lv_at hl 0 rfl) ?_
        refine va_get (D := (dC, dI)) (ci := 6) (v := .ref a13) (C := RX5) (T := TX5) (N := 24) hx hb hts (by decide +kernel) hown hK hP 0 rfl rfl 13 (by decide) (hts (.fieldLink RX5 32 "PictureRowsModel" "letters" "[I") (by decide +kernel)) (fun _ h9 => h9) rfl dX5_at_30 ?_
        refine lv_iload_n hx hb dX5_at_33 rfl (lv_at hl 1 rfl) ?_
        refine va_iald hx hb hK hP 1 0 rfl rfl (by exact rg_w (by assumption) (by assumption) hsh (by omega)) dX5_at_34 ?_
        have hmE : m_X5_at lt sh ix = lt ix.toNatClampNeg := by simp only [m_X5_at, if_neg c_2, if_pos c_3]
        exact wr_iret (v := lt ix.toNatClampNeg) () hx hb hr hlocks hK hS (by rw [hmE]) hP hD dX5_at_35
      · skip
        refine lv_iconst (v := (-1)) hx hb dX5_at_25 (by decide) ?_
        refine lv_goto (tgt := 35) hx hb dX5_at_26 (by decide) ?_
        have hmE : m_X5_at lt sh ix = (-1) := by simp only [m_X5_at, if_neg c_2, if_neg c_3]
        exact wr_iret (v := (-1)) () hx hb hr hlocks hK hS (by rw [hmE]) hP hD dX5_at_35
def m_X5_at_n (ix : Int32) : Int32 := (-1)
set_option maxHeartbeats 4000000 in
set_option maxRecDepth 100000 in
theorem c_X5_at_n (l : Launch) (dC : Nat → ClassId) (dI : Nat → Nat → Nat) (h0 : Nat) (th : Int32) (t1 : Nat) (len : Nat) (mo : Int32) (a4 : Nat) (a5 : Nat) (a6 : Nat) (my : Nat) (pu : Int32) (mi : Int32) (ms : Int32) (a11 : Nat) (a12 : Nat) (a13 : Nat) (kp : Nat) (sh : Nat) (mf : Int32) (a18 : Nat) (a19 : Nat) (a20 : Nat) (a21 : Nat) (a22 : Nat) (a23 : Nat) (ix : Int32) (zz : Nat) : Met l yX5_at wsX5_at ({ frames := 0, cells := 0, slots := 0, locals := 0 } : Room) (va_Pc [.ref h0, .int ix] (wr_P (dC, dI) vwCl [(h0, .inr (6, [.int th, .ref t1, .int (nI len), .int mo, .ref a4, .ref a5, .ref a6, .int (nI my), .int pu, .int mi, .int ms, .ref a11, .ref a12, .ref a13, .int (-1), .int (nI kp), .int (nI sh), .int mf, .ref a18, .ref a19, .ref a20, .ref a21, .ref a22, .ref a23]))] [] zz)) (va_Qi (S := Unit) (fun r _ => r = m_X5_at_n ix) (wr_B (dC, dI) vwCl (fun u9 => [(h0, .inr (6, [.int 0, .ref t1, .int (nI len), .int mo, .ref a4, .ref a5, .ref a6, .int (nI my), .int pu, .int mi, .int ms, .ref a11, .ref a12, .ref a13, .int (-1), .int (nI kp), .int (nI sh), .int mf, .ref a18, .ref a19, .ref a20, .ref a21, .ref a22, .ref a23]))]) [] (va_A [(h0, .inr (6, [.int th, .ref t1, .int (nI len), .int mo, .ref a4, .ref a5, .ref a6, .int (nI my), .int pu, .int mi, .int ms, .ref a11, .ref a12, .ref a13, .int (-1), .int (nI kp), .int (nI sh), .int mf, .ref a18, .ref a19, .ref a20, .ref a21, .ref a22, .ref a23]))] zz)) (va_A [(h0, .inr (6, [.int th, .ref t1, .int (nI len), .int mo, .ref a4, .ref a5, .ref a6, .int (nI my), .int pu, .int mi, .int ms, .ref a11, .ref a12, .ref a13, .int (-1), .int (nI kp), .int (nI sh), .int mf, .ref a18, .ref a19, .ref a20, .ref a21, .ref a22, .ref a23]))] zz)) 0 0 (va_A [(h0, .inr (6, [.int th, .ref t1, .int (nI len), .int mo, .ref a4, .ref a5, .ref a6, .int (nI my), .int pu, .int mi, .int ms, .ref a11, .ref a12, .ref a13, .int (-1), .int (nI kp), .int (nI sh), .int mf, .ref a18, .ref a19, .ref a20, .ref a21, .ref a22, .ref a23]))] zz) := by
  refine Met.ofW (cc := cX5_at) (maxL := 2) (ret := (some .int)) (by decide) rfl ?_
  intro p e s m args below meth c s₁ B hml hv
  obtain ⟨rfl, hsz0, hE, hP, hK, hD0⟩ := hv
  have hx := B.exec
  have hb := B.bytes
  have hr := B.returns
  have hts := atoms_spec (ws := wsX5_at) B.pre
  have hown : s.vm.findClass RX5 = some m.cls := findClass_of_methodNamed B.named
  have hlocks := B.notSynchronized
  subst hsz0
  have hD := hD0.self (sz := s.heap.size)
  generalize hAe : va_A [(h0, .inr (6, [.int th, .ref t1, .int (nI len), .int mo, .ref a4, .ref a5, .ref a6, .int (nI my), .int pu, .int mi, .int ms, .ref a11, .ref a12, .ref a13, .int (-1), .int (nI kp), .int (nI sh), .int mf, .ref a18, .ref a19, .ref a20, .ref a21, .ref a22, .ref a23]))] s.heap.size = A at hD hE ⊢
  have hA : ∀ q : Nat, s.heap.size ≤ q → A q := fun q h => by rw [← hAe]; exact Or.inr h
  have hS : va_S A s.heap s.heap [] := va_S.rf
  have hP : va_P (dC, dI) vwCl [(h0, .inr (6, [.int th, .ref t1, .int (nI len), .int mo, .ref a4, .ref a5, .ref a6, .int (nI my), .int pu, .int mi, .int ms, .ref a11, .ref a12, .ref a13, .int (-1), .int (nI kp), .int (nI sh), .int mf, .ref a18, .ref a19, .ref a20, .ref a21, .ref a22, .ref a23]))] s.heap := hP
  have hl := lv_entry ([.ref h0, .int ix]) (n := 2) (Nat.le_of_ble_eq_true rfl)
  rw [lg_entry_eq]
  generalize (lg_sl ([.ref h0, .int ix]) ++ List.replicate (2 - (lg_sl ([.ref h0, .int ix])).length) Slot.unset).toArray = ls at hl ⊢
  have hl : lv_has ls 2 [(0, .ref h0), (1, .int ix)] := hl
  refine lv_aload_n hx hb dX5_at_0 rfl (lv_at hl 0 rfl) ?_
  refine lv_iconst (v := 0) hx hb dX5_at_1 (by decide) ?_
  refine va_put (D := (dC, dI)) (ci := 6) (v := .int 0) (ty := .int) (C := RX5) (T := TX5) (N := 24) hx hb hts (by decide +kernel) tyX5 tyX5_ok nmX5 hown hK hP hD hS 0 rfl rfl 0 (by decide) (hts (.fieldLink RX5 69 "PictureRowsModel" "thrown" "I") (by decide +kernel)) (fun _ h9 => h9) rfl (by decide +kernel) rfl rfl (Nat.le_of_ble_eq_true rfl) dX5_at_2 (fun H locs hP hD hS => ?_)
  have hP : va_P (dC, dI) vwCl [(h0, .inr (6, [.int 0, .ref t1, .int (nI len), .int mo, .ref a4, .ref a5, .ref a6, .int (nI my), .int pu, .int mi, .int ms, .ref a11, .ref a12, .ref a13, .int (-1), .int (nI kp), .int (nI sh), .int mf, .ref a18, .ref a19, .ref a20, .ref a21, .ref a22, .ref a23]))] H := hP
  have hD : va_D A [(h0, .inr (6, [.int 0, .ref t1, .int (nI len), .int mo, .ref a4, .ref a5, .ref a6, .int (nI my), .int pu, .int mi, .int ms, .ref a11, .ref a12, .ref a13, .int (-1), .int (nI kp), .int (nI sh), .int mf, .ref a18, .ref a19, .ref a20, .ref a21, .ref a22, .ref a23]))] := hD
  refine lv_aload_n hx hb dX5_at_5 rfl (lv_at hl 0 rfl) ?_
  refine va_get (D := (dC, dI)) (ci := 6) (v := .int (-1)) (C := RX5) (T := TX5) (N := 24) hx hb hts (by decide +kernel) hown hK hP 0 rfl rfl 14 (by decide) (hts (.fieldLink RX5 35 "PictureRowsModel" "latest" "I") (by decide +kernel)) (fun _ h9 => h9) rfl dX5_at_6 ?_
  refine lv_iconst (v := (-1)) hx hb dX5_at_9 (by decide) ?_
  refine lv_icmp_eq (tgt := 25) hx hb dX5_at_10 (by decide) (fun c_1 => ?_) (fun c_1 => ?_)
  · skip
    refine lv_iconst (v := (-1)) hx hb dX5_at_25 (by decide) ?_
    refine lv_goto (tgt := 35) hx hb dX5_at_26 (by decide) ?_
    have hmE : m_X5_at_n ix = (-1) := by simp only [m_X5_at_n]
    exact wr_iret (v := (-1)) () hx hb hr hlocks hK hS (by rw [hmE]) hP hD dX5_at_35
  · skip
    exact absurd (by decide) c_1
def m_X5_insertion (sn : Nat → Int32) (kn : Nat → Int32) (la : Nat) (kx : Int32) : Int32 := if kx < 0 then ((-1)) else (if kx ≤ 6 then (if kx = 0 then (m_X5_ofSign sn la 66) else (if kx = 1 then (m_X5_ofSign sn la 48) else (if kx = 2 then (m_X5_ofSign sn la 47) else (if kx = 3 then (m_X5_ofKind kn la 1) else (if kx = 4 then (m_X5_ofKind kn la 2) else (if kx = 5 then ((m_X5_ofKind kn la 3) + (m_X5_ofKind kn la 4)) else (m_X5_ofKind kn la 5))))))) else ((-1)))
set_option maxHeartbeats 4000000 in
set_option maxRecDepth 100000 in
theorem c_X5_insertion (l : Launch) (dC : Nat → ClassId) (dI : Nat → Nat → Nat) (h0 : Nat) (th : Int32) (t1 : Nat) (len : Nat) (mo : Int32) (a4 : Nat) (a5 : Nat) (a6 : Nat) (my : Nat) (pu : Int32) (mi : Int32) (ms : Int32) (a11 : Nat) (a12 : Nat) (a13 : Nat) (kp : Nat) (sh : Nat) (mf : Int32) (a18 : Nat) (a19 : Nat) (a20 : Nat) (a21 : Nat) (a22 : Nat) (a23 : Nat) (cA : ClassId) (sn : Nat → Int32) (kn : Nat → Int32) (la : Nat) (kx : Int32) (zz : Nat) (hla : la ≤ 10200) : Met l yX5_insertion wsX5_insertion ({ frames := 1, cells := 0, slots := 0, locals := 23 } : Room) (va_Pc [.ref h0, .int kx] (wr_P (dC, dI) vwCl [(h0, .inr (6, [.int th, .ref t1, .int (nI len), .int mo, .ref a4, .ref a5, .ref a6, .int (nI my), .int pu, .int mi, .int ms, .ref a11, .ref a12, .ref a13, .int (nI la), .int (nI kp), .int (nI sh), .int mf, .ref a18, .ref a19, .ref a20, .ref a21, .ref a22, .ref a23])), (a11, .inl (cA, 10200, .inl sn)), (a12, .inl (cA, 10200, .inl kn))] [(cA, .int)] zz)) (va_Qi (S := Unit) (fun r _ => r = m_X5_insertion sn kn la kx) (wr_B (dC, dI) vwCl (fun u9 => [(h0, .inr (6, [.int 0, .ref t1, .int (nI len), .int mo, .ref a4, .ref a5, .ref a6, .int (nI my), .int pu, .int mi, .int ms, .ref a11, .ref a12, .ref a13, .int (nI la), .int (nI kp), .int (nI sh), .int mf, .ref a18, .ref a19, .ref a20, .ref a21, .ref a22, .ref a23])), (a11, .inl (cA, 10200, .inl sn)), (a12, .inl (cA, 10200, .inl kn))]) [(cA, .int)] (va_A [(h0, .inr (6, [.int th, .ref t1, .int (nI len), .int mo, .ref a4, .ref a5, .ref a6, .int (nI my), .int pu, .int mi, .int ms, .ref a11, .ref a12, .ref a13, .int (nI la), .int (nI kp), .int (nI sh), .int mf, .ref a18, .ref a19, .ref a20, .ref a21, .ref a22, .ref a23])), (a11, .inl (cA, 10200, .inl sn)), (a12, .inl (cA, 10200, .inl kn))] zz)) (va_A [(h0, .inr (6, [.int th, .ref t1, .int (nI len), .int mo, .ref a4, .ref a5, .ref a6, .int (nI my), .int pu, .int mi, .int ms, .ref a11, .ref a12, .ref a13, .int (nI la), .int (nI kp), .int (nI sh), .int mf, .ref a18, .ref a19, .ref a20, .ref a21, .ref a22, .ref a23])), (a11, .inl (cA, 10200, .inl sn)), (a12, .inl (cA, 10200, .inl kn))] zz)) 0 0 (va_A [(h0, .inr (6, [.int th, .ref t1, .int (nI len), .int mo, .ref a4, .ref a5, .ref a6, .int (nI my), .int pu, .int mi, .int ms, .ref a11, .ref a12, .ref a13, .int (nI la), .int (nI kp), .int (nI sh), .int mf, .ref a18, .ref a19, .ref a20, .ref a21, .ref a22, .ref a23])), (a11, .inl (cA, 10200, .inl sn)), (a12, .inl (cA, 10200, .inl kn))] zz) := by
  refine Met.ofW (cc := cX5_insertion) (maxL := 2) (ret := (some .int)) (by decide) rfl ?_
  intro p e s m args below meth c s₁ B hml hv
  obtain ⟨rfl, hsz0, hE, hP, hK, hD0⟩ := hv
  have hx := B.exec
  have hb := B.bytes
  have hr := B.returns
  have hts := atoms_spec (ws := wsX5_insertion) B.pre
  have hown : s.vm.findClass RX5 = some m.cls := findClass_of_methodNamed B.named
  have hlocks := B.notSynchronized
  subst hsz0
  have hD := hD0.self (sz := s.heap.size)
  generalize hAe : va_A [(h0, .inr (6, [.int th, .ref t1, .int (nI len), .int mo, .ref a4, .ref a5, .ref a6, .int (nI my), .int pu, .int mi, .int ms, .ref a11, .ref a12, .ref a13, .int (nI la), .int (nI kp), .int (nI sh), .int mf, .ref a18, .ref a19, .ref a20, .ref a21, .ref a22, .ref a23])), (a11, .inl (cA, 10200, .inl sn)), (a12, .inl (cA, 10200, .inl kn))] s.heap.size = A at hD hE ⊢
  have hA : ∀ q : Nat, s.heap.size ≤ q → A q := fun q h => by rw [← hAe]; exact Or.inr h
  have hS : va_S A s.heap s.heap [] := va_S.rf
  have hP : va_P (dC, dI) vwCl [(h0, .inr (6, [.int th, .ref t1, .int (nI len), .int mo, .ref a4, .ref a5, .ref a6, .int (nI my), .int pu, .int mi, .int ms, .ref a11, .ref a12, .ref a13, .int (nI la), .int (nI kp), .int (nI sh), .int mf, .ref a18, .ref a19, .ref a20, .ref a21, .ref a22, .ref a23])), (a11, .inl (cA, 10200, .inl sn)), (a12, .inl (cA, 10200, .inl kn))] s.heap := hP
  have hl := lv_entry ([.ref h0, .int kx]) (n := 2) (Nat.le_of_ble_eq_true rfl)
  rw [lg_entry_eq]
  generalize (lg_sl ([.ref h0, .int kx]) ++ List.replicate (2 - (lg_sl ([.ref h0, .int kx])).length) Slot.unset).toArray = ls at hl ⊢
  have hl : lv_has ls 2 [(0, .ref h0), (1, .int kx)] := hl
  refine lv_aload_n hx hb dX5_insertion_0 rfl (lv_at hl 0 rfl) ?_
  refine lv_iconst (v := 0) hx hb dX5_insertion_1 (by decide) ?_
  refine va_put (D := (dC, dI)) (ci := 6) (v := .int 0) (ty := .int) (C := RX5) (T := TX5) (N := 24) hx hb hts (by decide +kernel) tyX5 tyX5_ok nmX5 hown hK hP hD hS 0 rfl rfl 0 (by decide) (hts (.fieldLink RX5 69 "PictureRowsModel" "thrown" "I") (by decide +kernel)) (fun _ h9 => h9) rfl (by decide +kernel) rfl rfl (Nat.le_of_ble_eq_true rfl) dX5_insertion_2 (fun H locs hP hD hS => ?_)
  have hP : va_P (dC, dI) vwCl [(h0, .inr (6, [.int 0, .ref t1, .int (nI len), .int mo, .ref a4, .ref a5, .ref a6, .int (nI my), .int pu, .int mi, .int ms, .ref a11, .ref a12, .ref a13, .int (nI la), .int (nI kp), .int (nI sh), .int mf, .ref a18, .ref a19, .ref a20, .ref a21, .ref a22, .ref a23])), (a11, .inl (cA, 10200, .inl sn)), (a12, .inl (cA, 10200, .inl kn))] H := hP
  have hD : va_D A [(h0, .inr (6, [.int 0, .ref t1, .int (nI len), .int mo, .ref a4, .ref a5, .ref a6, .int (nI my), .int pu, .int mi, .int ms, .ref a11, .ref a12, .ref a13, .int (nI la), .int (nI kp), .int (nI sh), .int mf, .ref a18, .ref a19, .ref a20, .ref a21, .ref a22, .ref a23])), (a11, .inl (cA, 10200, .inl sn)), (a12, .inl (cA, 10200, .inl kn))] := hD
  refine lv_aload_n hx hb dX5_insertion_5 rfl (lv_at hl 0 rfl) ?_
  refine va_get (D := (dC, dI)) (ci := 6) (v := .int (nI la)) (C := RX5) (T := TX5) (N := 24) hx hb hts (by decide +kernel) hown hK hP 0 rfl rfl 14 (by decide) (hts (.fieldLink RX5 35 "PictureRowsModel" "latest" "I") (by decide +kernel)) (fun _ h9 => h9) rfl dX5_insertion_6 ?_
  refine lv_iconst (v := (-1)) hx hb dX5_insertion_9 (by decide) ?_
  refine lv_icmp_eq (tgt := 23) hx hb dX5_insertion_10 (by decide) (fun c_1 => ?_) (fun c_1 => ?_)
  · skip
    exfalso; exact nI_nm1 (n := la) (by omega) (by assumption)
  · skip
    refine lv_iload_n hx hb dX5_insertion_13 rfl (lv_at hl 1 rfl) ?_
    refine lv_if_lt (tgt := 23) hx hb dX5_insertion_14 (by decide) (fun c_2 => ?_) (fun c_2 => ?_)
    · skip
      refine lv_iconst (v := (-1)) hx hb dX5_insertion_23 (by decide) ?_
      have hmE : m_X5_insertion sn kn la kx = (-1) := by simp only [m_X5_insertion, if_pos c_2]
      exact wr_iret (v := (-1)) () hx hb hr hlocks hK hS (by rw [hmE]) hP hD dX5_insertion_24
    · skip
      refine lv_iload_n hx hb dX5_insertion_17 rfl (lv_at hl 1 rfl) ?_
      refine lv_bipush (v := 6) hx hb dX5_insertion_18 (by decide) ?_
      refine lv_icmp_le (tgt := 25) hx hb dX5_insertion_20 (by decide) (fun c_3 => ?_) (fun c_3 => ?_)
      · skip
        refine lv_iload_n hx hb dX5_insertion_25 rfl (lv_at hl 1 rfl) ?_
        by_cases c_4 : kx = 0
        · skip
          refine lv_tableIn (off := 38) (tgt := 64) hx hb dX5_insertion_26 (by rw [c_4]; decide) (by rw [c_4]; decide) (by rw [c_4]; rfl) (by decide) ?_
          refine lv_aload_n hx hb dX5_insertion_64 rfl (lv_at hl 0 rfl) ?_
          refine lv_bipush (v := 66) hx hb dX5_insertion_65 (by decide) ?_
          refine rd_callV (As := [.int 66]) (rest := []) ⟨hx, hb, hml, hown, hts⟩ (hE.rd hS) (c_X5_ofSign l dC dI h0 0 t1 len mo a4 a5 a6 my pu mi ms a11 a12 a13 kp sh mf a18 a19 a20 a21 a22 a23 cA sn la 66 (by omega)) (cwV 1 hts gX5_insertion_X5_ofSign rfl rfl rfl (by decide +kernel) ⟨Nat.le_of_ble_eq_true rfl, Nat.le_of_ble_eq_true rfl⟩) (hP.sub (ws' := [(h0, .inr (6, [.int 0, .ref t1, .int (nI len), .int mo, .ref a4, .ref a5, .ref a6, .int (nI my), .int pu, .int mi, .int ms, .ref a11, .ref a12, .ref a13, .int (nI la), .int (nI kp), .int (nI sh), .int mf, .ref a18, .ref a19, .ref a20, .ref a21, .ref a22, .ref a23])), (a11, .inl (cA, 10200, .inl sn))]) [0, 1] rfl) (hK.sub [0] rfl) (va_recv hK hP (ci := 6) (q0 := 0) rfl rfl) rfl hl.1 rfl (Nat.le_of_ble_eq_true rfl) dX5_insertion_67 ⟨Nat.le_of_ble_eq_true rfl, Nat.le_of_ble_eq_true rfl⟩ (fun r9 hr9 => ?_)
          subst hr9
          have hmE : m_X5_insertion sn kn la kx = m_X5_ofSign sn la 66 := by simp only [m_X5_insertion, if_neg c_2, if_pos c_3, if_pos c_4]
          exact wr_iret (v := m_X5_ofSign sn la 66) () hx hb hr hlocks hK hS (by rw [hmE]) hP hD dX5_insertion_70
        by_cases c_5 : kx = 1
        · skip
          refine lv_tableIn (off := 45) (tgt := 71) hx hb dX5_insertion_26 (by rw [c_5]; decide) (by rw [c_5]; decide) (by rw [c_5]; rfl) (by decide) ?_
          refine lv_aload_n hx hb dX5_insertion_71 rfl (lv_at hl 0 rfl) ?_
          refine lv_bipush (v := 48) hx hb dX5_insertion_72 (by decide) ?_
          refine rd_callV (As := [.int 48]) (rest := []) ⟨hx, hb, hml, hown, hts⟩ (hE.rd hS) (c_X5_ofSign l dC dI h0 0 t1 len mo a4 a5 a6 my pu mi ms a11 a12 a13 kp sh mf a18 a19 a20 a21 a22 a23 cA sn la 48 (by omega)) (cwV 1 hts gX5_insertion_X5_ofSign rfl rfl rfl (by decide +kernel) ⟨Nat.le_of_ble_eq_true rfl, Nat.le_of_ble_eq_true rfl⟩) (hP.sub (ws' := [(h0, .inr (6, [.int 0, .ref t1, .int (nI len), .int mo, .ref a4, .ref a5, .ref a6, .int (nI my), .int pu, .int mi, .int ms, .ref a11, .ref a12, .ref a13, .int (nI la), .int (nI kp), .int (nI sh), .int mf, .ref a18, .ref a19, .ref a20, .ref a21, .ref a22, .ref a23])), (a11, .inl (cA, 10200, .inl sn))]) [0, 1] rfl) (hK.sub [0] rfl) (va_recv hK hP (ci := 6) (q0 := 0) rfl rfl) rfl hl.1 rfl (Nat.le_of_ble_eq_true rfl) dX5_insertion_74 ⟨Nat.le_of_ble_eq_true rfl, Nat.le_of_ble_eq_true rfl⟩ (fun r9 hr9 => ?_)
          subst hr9
          have hmE : m_X5_insertion sn kn la kx = m_X5_ofSign sn la 48 := by simp only [m_X5_insertion, if_neg c_2, if_pos c_3, if_neg c_4, if_pos c_5]
          exact wr_iret (v := m_X5_ofSign sn la 48) () hx hb hr hlocks hK hS (by rw [hmE]) hP hD dX5_insertion_77
        by_cases c_6 : kx = 2
        · skip
          refine lv_tableIn (off := 52) (tgt := 78) hx hb dX5_insertion_26 (by rw [c_6]; decide) (by rw [c_6]; decide) (by rw [c_6]; rfl) (by decide) ?_
          refine lv_aload_n hx hb dX5_insertion_78 rfl (lv_at hl 0 rfl) ?_
          refine lv_bipush (v := 47) hx hb dX5_insertion_79 (by decide) ?_
          refine rd_callV (As := [.int 47]) (rest := []) ⟨hx, hb, hml, hown, hts⟩ (hE.rd hS) (c_X5_ofSign l dC dI h0 0 t1 len mo a4 a5 a6 my pu mi ms a11 a12 a13 kp sh mf a18 a19 a20 a21 a22 a23 cA sn la 47 (by omega)) (cwV 1 hts gX5_insertion_X5_ofSign rfl rfl rfl (by decide +kernel) ⟨Nat.le_of_ble_eq_true rfl, Nat.le_of_ble_eq_true rfl⟩) (hP.sub (ws' := [(h0, .inr (6, [.int 0, .ref t1, .int (nI len), .int mo, .ref a4, .ref a5, .ref a6, .int (nI my), .int pu, .int mi, .int ms, .ref a11, .ref a12, .ref a13, .int (nI la), .int (nI kp), .int (nI sh), .int mf, .ref a18, .ref a19, .ref a20, .ref a21, .ref a22, .ref a23])), (a11, .inl (cA, 10200, .inl sn))]) [0, 1] rfl) (hK.sub [0] rfl) (va_recv hK hP (ci := 6) (q0 := 0) rfl rfl) rfl hl.1 rfl (Nat.le_of_ble_eq_true rfl) dX5_insertion_81 ⟨Nat.le_of_ble_eq_true rfl, Nat.le_of_ble_eq_true rfl⟩ (fun r9 hr9 => ?_)
          subst hr9
          have hmE : m_X5_insertion sn kn la kx = m_X5_ofSign sn la 47 := by simp only [m_X5_insertion, if_neg c_2, if_pos c_3, if_neg c_4, if_neg c_5, if_pos c_6]
          exact wr_iret (v := m_X5_ofSign sn la 47) () hx hb hr hlocks hK hS (by rw [hmE]) hP hD dX5_insertion_84
        by_cases c_7 : kx = 3
        · skip
          refine lv_tableIn (off := 59) (tgt := 85) hx hb dX5_insertion_26 (by rw [c_7]; decide) (by rw [c_7]; decide) (by rw [c_7]; rfl) (by decide) ?_
          refine lv_aload_n hx hb dX5_insertion_85 rfl (lv_at hl 0 rfl) ?_
          refine lv_iconst (v := 1) hx hb dX5_insertion_86 (by decide) ?_
          refine rd_callV (As := [.int 1]) (rest := []) ⟨hx, hb, hml, hown, hts⟩ (hE.rd hS) (c_X5_ofKind l dC dI h0 0 t1 len mo a4 a5 a6 my pu mi ms a11 a12 a13 kp sh mf a18 a19 a20 a21 a22 a23 cA kn la 1 (by omega)) (cwV 1 hts gX5_insertion_X5_ofKind rfl rfl rfl (by decide +kernel) ⟨Nat.le_of_ble_eq_true rfl, Nat.le_of_ble_eq_true rfl⟩) (hP.sub (ws' := [(h0, .inr (6, [.int 0, .ref t1, .int (nI len), .int mo, .ref a4, .ref a5, .ref a6, .int (nI my), .int pu, .int mi, .int ms, .ref a11, .ref a12, .ref a13, .int (nI la), .int (nI kp), .int (nI sh), .int mf, .ref a18, .ref a19, .ref a20, .ref a21, .ref a22, .ref a23])), (a12, .inl (cA, 10200, .inl kn))]) [0, 2] rfl) (hK.sub [0] rfl) (va_recv hK hP (ci := 6) (q0 := 0) rfl rfl) rfl hl.1 rfl (Nat.le_of_ble_eq_true rfl) dX5_insertion_87 ⟨Nat.le_of_ble_eq_true rfl, Nat.le_of_ble_eq_true rfl⟩ (fun r9 hr9 => ?_)
          subst hr9
          have hmE : m_X5_insertion sn kn la kx = m_X5_ofKind kn la 1 := by simp only [m_X5_insertion, if_neg c_2, if_pos c_3, if_neg c_4, if_neg c_5, if_neg c_6, if_pos c_7]
          exact wr_iret (v := m_X5_ofKind kn la 1) () hx hb hr hlocks hK hS (by rw [hmE]) hP hD dX5_insertion_90
        by_cases c_8 : kx = 4
        · skip
          refine lv_tableIn (off := 65) (tgt := 91) hx hb dX5_insertion_26 (by rw [c_8]; decide) (by rw [c_8]; decide) (by rw [c_8]; rfl) (by decide) ?_
          refine lv_aload_n hx hb dX5_insertion_91 rfl (lv_at hl 0 rfl) ?_
          refine lv_iconst (v := 2) hx hb dX5_insertion_92 (by decide) ?_
          refine rd_callV (As := [.int 2]) (rest := []) ⟨hx, hb, hml, hown, hts⟩ (hE.rd hS) (c_X5_ofKind l dC dI h0 0 t1 len mo a4 a5 a6 my pu mi ms a11 a12 a13 kp sh mf a18 a19 a20 a21 a22 a23 cA kn la 2 (by omega)) (cwV 1 hts gX5_insertion_X5_ofKind rfl rfl rfl (by decide +kernel) ⟨Nat.le_of_ble_eq_true rfl, Nat.le_of_ble_eq_true rfl⟩) (hP.sub (ws' := [(h0, .inr (6, [.int 0, .ref t1, .int (nI len), .int mo, .ref a4, .ref a5, .ref a6, .int (nI my), .int pu, .int mi, .int ms, .ref a11, .ref a12, .ref a13, .int (nI la), .int (nI kp), .int (nI sh), .int mf, .ref a18, .ref a19, .ref a20, .ref a21, .ref a22, .ref a23])), (a12, .inl (cA, 10200, .inl kn))]) [0, 2] rfl) (hK.sub [0] rfl) (va_recv hK hP (ci := 6) (q0 := 0) rfl rfl) rfl hl.1 rfl (Nat.le_of_ble_eq_true rfl) dX5_insertion_93 ⟨Nat.le_of_ble_eq_true rfl, Nat.le_of_ble_eq_true rfl⟩ (fun r9 hr9 => ?_)
          subst hr9
          have hmE : m_X5_insertion sn kn la kx = m_X5_ofKind kn la 2 := by simp only [m_X5_insertion, if_neg c_2, if_pos c_3, if_neg c_4, if_neg c_5, if_neg c_6, if_neg c_7, if_pos c_8]
          exact wr_iret (v := m_X5_ofKind kn la 2) () hx hb hr hlocks hK hS (by rw [hmE]) hP hD dX5_insertion_96
        by_cases c_9 : kx = 5
        · skip
          refine lv_tableIn (off := 71) (tgt := 97) hx hb dX5_insertion_26 (by rw [c_9]; decide) (by rw [c_9]; decide) (by rw [c_9]; rfl) (by decide) ?_
          refine lv_aload_n hx hb dX5_insertion_97 rfl (lv_at hl 0 rfl) ?_
          refine lv_iconst (v := 3) hx hb dX5_insertion_98 (by decide) ?_
          refine rd_callV (As := [.int 3]) (rest := []) ⟨hx, hb, hml, hown, hts⟩ (hE.rd hS) (c_X5_ofKind l dC dI h0 0 t1 len mo a4 a5 a6 my pu mi ms a11 a12 a13 kp sh mf a18 a19 a20 a21 a22 a23 cA kn la 3 (by omega)) (cwV 1 hts gX5_insertion_X5_ofKind rfl rfl rfl (by decide +kernel) ⟨Nat.le_of_ble_eq_true rfl, Nat.le_of_ble_eq_true rfl⟩) (hP.sub (ws' := [(h0, .inr (6, [.int 0, .ref t1, .int (nI len), .int mo, .ref a4, .ref a5, .ref a6, .int (nI my), .int pu, .int mi, .int ms, .ref a11, .ref a12, .ref a13, .int (nI la), .int (nI kp), .int (nI sh), .int mf, .ref a18, .ref a19, .ref a20, .ref a21, .ref a22, .ref a23])), (a12, .inl (cA, 10200, .inl kn))]) [0, 2] rfl) (hK.sub [0] rfl) (va_recv hK hP (ci := 6) (q0 := 0) rfl rfl) rfl hl.1 rfl (Nat.le_of_ble_eq_true rfl) dX5_insertion_99 ⟨Nat.le_of_ble_eq_true rfl, Nat.le_of_ble_eq_true rfl⟩ (fun r9 hr9 => ?_)
          subst hr9
          refine lv_aload_n hx hb dX5_insertion_102 rfl (lv_at hl 0 rfl) ?_
          refine lv_iconst (v := 4) hx hb dX5_insertion_103 (by decide) ?_
          refine rd_callV (As := [.int 4]) (rest := [.int (m_X5_ofKind kn la 3)]) ⟨hx, hb, hml, hown, hts⟩ (hE.rd hS) (c_X5_ofKind l dC dI h0 0 t1 len mo a4 a5 a6 my pu mi ms a11 a12 a13 kp sh mf a18 a19 a20 a21 a22 a23 cA kn la 4 (by omega)) (cwV 1 hts gX5_insertion_X5_ofKind rfl rfl rfl (by decide +kernel) ⟨Nat.le_of_ble_eq_true rfl, Nat.le_of_ble_eq_true rfl⟩) (hP.sub (ws' := [(h0, .inr (6, [.int 0, .ref t1, .int (nI len), .int mo, .ref a4, .ref a5, .ref a6, .int (nI my), .int pu, .int mi, .int ms, .ref a11, .ref a12, .ref a13, .int (nI la), .int (nI kp), .int (nI sh), .int mf, .ref a18, .ref a19, .ref a20, .ref a21, .ref a22, .ref a23])), (a12, .inl (cA, 10200, .inl kn))]) [0, 2] rfl) (hK.sub [0] rfl) (va_recv hK hP (ci := 6) (q0 := 0) rfl rfl) rfl hl.1 rfl (Nat.le_of_ble_eq_true rfl) dX5_insertion_104 ⟨Nat.le_of_ble_eq_true rfl, Nat.le_of_ble_eq_true rfl⟩ (fun r9 hr9 => ?_)
          subst hr9
          refine lv_iadd hx hb dX5_insertion_107 ?_
          have hmE : m_X5_insertion sn kn la kx = (m_X5_ofKind kn la 3) + (m_X5_ofKind kn la 4) := by simp only [m_X5_insertion, if_neg c_2, if_pos c_3, if_neg c_4, if_neg c_5, if_neg c_6, if_neg c_7, if_neg c_8, if_pos c_9]
          exact wr_iret (v := (m_X5_ofKind kn la 3) + (m_X5_ofKind kn la 4)) () hx hb hr hlocks hK hS (by rw [hmE]) hP hD dX5_insertion_108
        refine lv_tableOut (tgt := 109) hx hb dX5_insertion_26 (by have n0_ := lv_neT (a := 0) c_4 (by decide); have n1_ := lv_neT (a := 1) c_5 (by decide); have n2_ := lv_neT (a := 2) c_6 (by decide); have n3_ := lv_neT (a := 3) c_7 (by decide); have n4_ := lv_neT (a := 4) c_8 (by decide); have n5_ := lv_neT (a := 5) c_9 (by decide); omega) (by decide) ?_
        refine lv_aload_n hx hb dX5_insertion_109 rfl (lv_at hl 0 rfl) ?_
        refine lv_iconst (v := 5) hx hb dX5_insertion_110 (by decide) ?_
        refine rd_callV (As := [.int 5]) (rest := []) ⟨hx, hb, hml, hown, hts⟩ (hE.rd hS) (c_X5_ofKind l dC dI h0 0 t1 len mo a4 a5 a6 my pu mi ms a11 a12 a13 kp sh mf a18 a19 a20 a21 a22 a23 cA kn la 5 (by omega)) (cwV 1 hts gX5_insertion_X5_ofKind rfl rfl rfl (by decide +kernel) ⟨Nat.le_of_ble_eq_true rfl, Nat.le_of_ble_eq_true rfl⟩) (hP.sub (ws' := [(h0, .inr (6, [.int 0, .ref t1, .int (nI len), .int mo, .ref a4, .ref a5, .ref a6, .int (nI my), .int pu, .int mi, .int ms, .ref a11, .ref a12, .ref a13, .int (nI la), .int (nI kp), .int (nI sh), .int mf, .ref a18, .ref a19, .ref a20, .ref a21, .ref a22, .ref a23])), (a12, .inl (cA, 10200, .inl kn))]) [0, 2] rfl) (hK.sub [0] rfl) (va_recv hK hP (ci := 6) (q0 := 0) rfl rfl) rfl hl.1 rfl (Nat.le_of_ble_eq_true rfl) dX5_insertion_111 ⟨Nat.le_of_ble_eq_true rfl, Nat.le_of_ble_eq_true rfl⟩ (fun r9 hr9 => ?_)
        subst hr9
        have hmE : m_X5_insertion sn kn la kx = m_X5_ofKind kn la 5 := by simp only [m_X5_insertion, if_neg c_2, if_pos c_3, if_neg c_4, if_neg c_5, if_neg c_6, if_neg c_7, if_neg c_8, if_neg c_9]
        exact wr_iret (v := m_X5_ofKind kn la 5) () hx hb hr hlocks hK hS (by rw [hmE]) hP hD dX5_insertion_114
      · skip
        refine lv_iconst (v := (-1)) hx hb dX5_insertion_23 (by decide) ?_
        have hmE : m_X5_insertion sn kn la kx = (-1) := by simp only [m_X5_insertion, if_neg c_2, if_neg c_3]
        exact wr_iret (v := (-1)) () hx hb hr hlocks hK hS (by rw [hmE]) hP hD dX5_insertion_24
def m_X5_insertion_n (kx : Int32) : Int32 := (-1)
set_option maxHeartbeats 4000000 in
set_option maxRecDepth 100000 in
theorem c_X5_insertion_n (l : Launch) (dC : Nat → ClassId) (dI : Nat → Nat → Nat) (h0 : Nat) (th : Int32) (t1 : Nat) (len : Nat) (mo : Int32) (a4 : Nat) (a5 : Nat) (a6 : Nat) (my : Nat) (pu : Int32) (mi : Int32) (ms : Int32) (a11 : Nat) (a12 : Nat) (a13 : Nat) (kp : Nat) (sh : Nat) (mf : Int32) (a18 : Nat) (a19 : Nat) (a20 : Nat) (a21 : Nat) (a22 : Nat) (a23 : Nat) (kx : Int32) (zz : Nat) : Met l yX5_insertion wsX5_insertion ({ frames := 0, cells := 0, slots := 0, locals := 0 } : Room) (va_Pc [.ref h0, .int kx] (wr_P (dC, dI) vwCl [(h0, .inr (6, [.int th, .ref t1, .int (nI len), .int mo, .ref a4, .ref a5, .ref a6, .int (nI my), .int pu, .int mi, .int ms, .ref a11, .ref a12, .ref a13, .int (-1), .int (nI kp), .int (nI sh), .int mf, .ref a18, .ref a19, .ref a20, .ref a21, .ref a22, .ref a23]))] [] zz)) (va_Qi (S := Unit) (fun r _ => r = m_X5_insertion_n kx) (wr_B (dC, dI) vwCl (fun u9 => [(h0, .inr (6, [.int 0, .ref t1, .int (nI len), .int mo, .ref a4, .ref a5, .ref a6, .int (nI my), .int pu, .int mi, .int ms, .ref a11, .ref a12, .ref a13, .int (-1), .int (nI kp), .int (nI sh), .int mf, .ref a18, .ref a19, .ref a20, .ref a21, .ref a22, .ref a23]))]) [] (va_A [(h0, .inr (6, [.int th, .ref t1, .int (nI len), .int mo, .ref a4, .ref a5, .ref a6, .int (nI my), .int pu, .int mi, .int ms, .ref a11, .ref a12, .ref a13, .int (-1), .int (nI kp), .int (nI sh), .int mf, .ref a18, .ref a19, .ref a20, .ref a21, .ref a22, .ref a23]))] zz)) (va_A [(h0, .inr (6, [.int th, .ref t1, .int (nI len), .int mo, .ref a4, .ref a5, .ref a6, .int (nI my), .int pu, .int mi, .int ms, .ref a11, .ref a12, .ref a13, .int (-1), .int (nI kp), .int (nI sh), .int mf, .ref a18, .ref a19, .ref a20, .ref a21, .ref a22, .ref a23]))] zz)) 0 0 (va_A [(h0, .inr (6, [.int th, .ref t1, .int (nI len), .int mo, .ref a4, .ref a5, .ref a6, .int (nI my), .int pu, .int mi, .int ms, .ref a11, .ref a12, .ref a13, .int (-1), .int (nI kp), .int (nI sh), .int mf, .ref a18, .ref a19, .ref a20, .ref a21, .ref a22, .ref a23]))] zz) := by
  refine Met.ofW (cc := cX5_insertion) (maxL := 2) (ret := (some .int)) (by decide) rfl ?_
  intro p e s m args below meth c s₁ B hml hv
  obtain ⟨rfl, hsz0, hE, hP, hK, hD0⟩ := hv
  have hx := B.exec
  have hb := B.bytes
  have hr := B.returns
  have hts := atoms_spec (ws := wsX5_insertion) B.pre
  have hown : s.vm.findClass RX5 = some m.cls := findClass_of_methodNamed B.named
  have hlocks := B.notSynchronized
  subst hsz0
  have hD := hD0.self (sz := s.heap.size)
  generalize hAe : va_A [(h0, .inr (6, [.int th, .ref t1, .int (nI len), .int mo, .ref a4, .ref a5, .ref a6, .int (nI my), .int pu, .int mi, .int ms, .ref a11, .ref a12, .ref a13, .int (-1), .int (nI kp), .int (nI sh), .int mf, .ref a18, .ref a19, .ref a20, .ref a21, .ref a22, .ref a23]))] s.heap.size = A at hD hE ⊢
  have hA : ∀ q : Nat, s.heap.size ≤ q → A q := fun q h => by rw [← hAe]; exact Or.inr h
  have hS : va_S A s.heap s.heap [] := va_S.rf
  have hP : va_P (dC, dI) vwCl [(h0, .inr (6, [.int th, .ref t1, .int (nI len), .int mo, .ref a4, .ref a5, .ref a6, .int (nI my), .int pu, .int mi, .int ms, .ref a11, .ref a12, .ref a13, .int (-1), .int (nI kp), .int (nI sh), .int mf, .ref a18, .ref a19, .ref a20, .ref a21, .ref a22, .ref a23]))] s.heap := hP
  have hl := lv_entry ([.ref h0, .int kx]) (n := 2) (Nat.le_of_ble_eq_true rfl)
  rw [lg_entry_eq]
  generalize (lg_sl ([.ref h0, .int kx]) ++ List.replicate (2 - (lg_sl ([.ref h0, .int kx])).length) Slot.unset).toArray = ls at hl ⊢
  have hl : lv_has ls 2 [(0, .ref h0), (1, .int kx)] := hl
  refine lv_aload_n hx hb dX5_insertion_0 rfl (lv_at hl 0 rfl) ?_
  refine lv_iconst (v := 0) hx hb dX5_insertion_1 (by decide) ?_
  refine va_put (D := (dC, dI)) (ci := 6) (v := .int 0) (ty := .int) (C := RX5) (T := TX5) (N := 24) hx hb hts (by decide +kernel) tyX5 tyX5_ok nmX5 hown hK hP hD hS 0 rfl rfl 0 (by decide) (hts (.fieldLink RX5 69 "PictureRowsModel" "thrown" "I") (by decide +kernel)) (fun _ h9 => h9) rfl (by decide +kernel) rfl rfl (Nat.le_of_ble_eq_true rfl) dX5_insertion_2 (fun H locs hP hD hS => ?_)
  have hP : va_P (dC, dI) vwCl [(h0, .inr (6, [.int 0, .ref t1, .int (nI len), .int mo, .ref a4, .ref a5, .ref a6, .int (nI my), .int pu, .int mi, .int ms, .ref a11, .ref a12, .ref a13, .int (-1), .int (nI kp), .int (nI sh), .int mf, .ref a18, .ref a19, .ref a20, .ref a21, .ref a22, .ref a23]))] H := hP
  have hD : va_D A [(h0, .inr (6, [.int 0, .ref t1, .int (nI len), .int mo, .ref a4, .ref a5, .ref a6, .int (nI my), .int pu, .int mi, .int ms, .ref a11, .ref a12, .ref a13, .int (-1), .int (nI kp), .int (nI sh), .int mf, .ref a18, .ref a19, .ref a20, .ref a21, .ref a22, .ref a23]))] := hD
  refine lv_aload_n hx hb dX5_insertion_5 rfl (lv_at hl 0 rfl) ?_
  refine va_get (D := (dC, dI)) (ci := 6) (v := .int (-1)) (C := RX5) (T := TX5) (N := 24) hx hb hts (by decide +kernel) hown hK hP 0 rfl rfl 14 (by decide) (hts (.fieldLink RX5 35 "PictureRowsModel" "latest" "I") (by decide +kernel)) (fun _ h9 => h9) rfl dX5_insertion_6 ?_
  refine lv_iconst (v := (-1)) hx hb dX5_insertion_9 (by decide) ?_
  refine lv_icmp_eq (tgt := 23) hx hb dX5_insertion_10 (by decide) (fun c_1 => ?_) (fun c_1 => ?_)
  · skip
    refine lv_iconst (v := (-1)) hx hb dX5_insertion_23 (by decide) ?_
    have hmE : m_X5_insertion_n kx = (-1) := by simp only [m_X5_insertion_n]
    exact wr_iret (v := (-1)) () hx hb hr hlocks hK hS (by rw [hmE]) hP hD dX5_insertion_24
  · skip
    exact absurd (by decide) c_1
def m_X5_bare_j39_s0 (ka : Nat → Int32) (fr : Nat) (n : Nat) (i : Nat) : Bool := if (ka (fr + i)) = 15 then (if (m_X5_isIdle ka fr i n) = false then false else true) else false
def m_X5_bare_L6 (sa : Nat → Int32) (ka : Nat → Int32) (fr : Nat) (n : Nat) : Nat → Nat → Nat → (Nat → Int32) → Nat × (Nat → Int32)
  | 0, _, _, _ => (0, fun _ => 0)
  | k6 + 1, i, x5_6, ta_6 => if n ≤ i then ((x5_6, ta_6)) else (if (m_X5_bare_j39_s0 ka fr n i) = false then (m_X5_bare_L6 sa ka fr n k6 (i + 1) (x5_6 + 1) (upd ta_6 x5_6 (sa (fr + i)))) else (m_X5_bare_L6 sa ka fr n k6 (i + 1) x5_6 ta_6))
def m_X5_bare (sa : Nat → Int32) (ka : Nat → Int32) (fr : Nat) (n : Nat) (ta : Nat → Int32) : Nat × (Nat → Int32) := m_X5_bare_L6 sa ka fr n (n + 1) 0 0 ta
set_option maxHeartbeats 4000000 in
set_option maxRecDepth 100000 in
theorem c_X5_bare (l : Launch) (dC : Nat → ClassId) (dI : Nat → Nat → Nat) (g0 : Nat) (g1 : Nat) (g2 : Nat) (cap : Nat) (cA : ClassId) (sa : Nat → Int32) (ka : Nat → Int32) (fr : Nat) (n : Nat) (ta : Nat → Int32) (zz : Nat) (hcap : cap < 2 ^ 31) (hfn : fr + n ≤ cap) (hn : n ≤ 10200) : Met l yX5_bare wsX5_bare ({ frames := 1, cells := 0, slots := 0, locals := 27 } : Room) (va_Pc [.ref g0, .ref g1, .int (nI fr), .int (nI n), .ref g2] (wr_P (dC, dI) vwCl [(g0, .inl (cA, cap, .inl sa)), (g1, .inl (cA, cap, .inl ka)), (g2, .inl (cA, 10200, .inl ta))] [(cA, .int)] zz)) (va_Qi (S := Unit) (fun r _ => r = nI ((m_X5_bare sa ka fr n ta).1)) (wr_B (dC, dI) vwCl (fun u9 => [(g0, .inl (cA, cap, .inl sa)), (g1, .inl (cA, cap, .inl ka)), (g2, .inl (cA, 10200, .inl ((m_X5_bare sa ka fr n ta).2)))]) [(cA, .int)] (va_A [(g0, .inl (cA, cap, .inl sa)), (g1, .inl (cA, cap, .inl ka)), (g2, .inl (cA, 10200, .inl ta))] zz)) (va_A [(g0, .inl (cA, cap, .inl sa)), (g1, .inl (cA, cap, .inl ka)), (g2, .inl (cA, 10200, .inl ta))] zz)) 0 0 (va_A [(g0, .inl (cA, cap, .inl sa)), (g1, .inl (cA, cap, .inl ka)), (g2, .inl (cA, 10200, .inl ta))] zz) := by
  refine Met.ofW (cc := cX5_bare) (maxL := 8) (ret := (some .int)) (by decide) rfl ?_
  intro p e s m args below meth c s₁ B hml hv
  obtain ⟨rfl, hsz0, hE, hP, hK, hD0⟩ := hv
  have hx := B.exec
  have hb := B.bytes
  have hr := B.returns
  have hts := atoms_spec (ws := wsX5_bare) B.pre
  have hown : s.vm.findClass RX5 = some m.cls := findClass_of_methodNamed B.named
  have hlocks := B.notSynchronized
  subst hsz0
  have hD := hD0.self (sz := s.heap.size)
  generalize hAe : va_A [(g0, .inl (cA, cap, .inl sa)), (g1, .inl (cA, cap, .inl ka)), (g2, .inl (cA, 10200, .inl ta))] s.heap.size = A at hD hE ⊢
  have hA : ∀ q : Nat, s.heap.size ≤ q → A q := fun q h => by rw [← hAe]; exact Or.inr h
  have hS : va_S A s.heap s.heap [] := va_S.rf
  have hP : va_P (dC, dI) vwCl [(g0, .inl (cA, cap, .inl sa)), (g1, .inl (cA, cap, .inl ka)), (g2, .inl (cA, 10200, .inl ta))] s.heap := hP
  have hl := lv_entry ([.ref g0, .ref g1, .int (nI fr), .int (nI n), .ref g2]) (n := 8) (Nat.le_of_ble_eq_true rfl)
  rw [lg_entry_eq]
  generalize (lg_sl ([.ref g0, .ref g1, .int (nI fr), .int (nI n), .ref g2]) ++ List.replicate (8 - (lg_sl ([.ref g0, .ref g1, .int (nI fr), .int (nI n), .ref g2])).length) Slot.unset).toArray = ls at hl ⊢
  have hl : lv_has ls 8 [(0, .ref g0), (1, .ref g1), (2, .int (nI fr)), (3, .int (nI n)), (4, .ref g2)] := hl
  refine lv_iconst (v := 0) hx hb dX5_bare_0 (by decide) ?_
  refine lv_istore (lv' := [(5, .int 0), (0, .ref g0), (1, .ref g1), (2, .int (nI fr)), (3, .int (nI n)), (4, .ref g2)]) hx hb dX5_bare_1 hl (by decide) rfl (fun ls hl => ?_)
  refine lv_iconst (v := 0) hx hb dX5_bare_3 (by decide) ?_
  refine lv_istore (lv' := [(6, .int 0), (5, .int 0), (0, .ref g0), (1, .ref g1), (2, .int (nI fr)), (3, .int (nI n)), (4, .ref g2)]) hx hb dX5_bare_4 hl (by decide) rfl (fun ls hl => ?_)
  have lp_6 : ∀ (k6 i : Nat) (x5_6 : Nat) (ta_6 : Nat → Int32), i ≤ n → n + 1 ≤ i + k6 → x5_6 ≤ i → m_X5_bare sa ka fr n ta = m_X5_bare_L6 sa ka fr n k6 i x5_6 ta_6 → ∀ (H : Heap) (locs : List Loc), va_P (dC, dI) vwCl [(g0, .inl (cA, cap, .inl sa)), (g1, .inl (cA, cap, .inl ka)), (g2, .inl (cA, 10200, .inl ta_6))] H → va_D A [(g0, .inl (cA, cap, .inl sa)), (g1, .inl (cA, cap, .inl ka)), (g2, .inl (cA, 10200, .inl ta_6))] → va_S A s.heap H locs → ∀ (ls : Array Slot), lv_has ls 8 [(0, .ref g0), (1, .ref g1), (2, .int (nI fr)), (3, .int (nI n)), (4, .ref g2), (5, .int (nI x5_6)), (6, .int (nI i))] → W p l e (headSpec wsX5_bare ({ frames := 1, cells := 0, slots := 0, locals := 27 } : Room)).room s m (([.ref g0, .ref g1, .int (nI fr), .int (nI n), .ref g2] : List Value).toArray) below meth c H locs 0 0 (MQ below (va_Qi (S := Unit) (fun r _ => r = nI ((m_X5_bare sa ka fr n ta).1)) (wr_B (dC, dI) vwCl (fun u9 => [(g0, .inl (cA, cap, .inl sa)), (g1, .inl (cA, cap, .inl ka)), (g2, .inl (cA, 10200, .inl ((m_X5_bare sa ka fr n ta).2)))]) [(cA, .int)] A) A) (([.ref g0, .ref g1, .int (nI fr), .int (nI n), .ref g2] : List Value).toArray) s 0 0 A) (F0 m 6 ls []) := by
    intro k6
    induction k6 with
    | zero => intro i x5_6 ta_6 h1_ h2_; exfalso; omega
    | succ k6 ih6 =>
      intro i x5_6 ta_6 hb6 hf6 hx5 hm6 H locs hP hD hS ls hl
      refine lv_iload hx hb dX5_bare_6 (lv_at hl 6 rfl) ?_
      refine lv_iload_n hx hb dX5_bare_8 rfl (lv_at hl 3 rfl) ?_
      refine lv_icmp_ge (tgt := 69) hx hb dX5_bare_9 (by decide) (fun c_1 => ?_) (fun c_1 => ?_)
      · skip
        have c_1 : n ≤ i := (nI_leI (a := n) (b := i) (by omega) (by omega)).mp c_1
        refine lv_iload hx hb dX5_bare_69 (lv_at hl 5 rfl) ?_
        have hmE : m_X5_bare sa ka fr n ta = (x5_6, ta_6) := hm6.trans (by simp only [m_X5_bare_L6, if_pos c_1])
        exact wr_iret (v := nI x5_6) () hx hb hr hlocks hK hS (by rw [hmE]) (by rw [hmE]; exact hP) (by rw [hmE]; exact hD) dX5_bare_71
      · skip
        have c_1 : ¬ n ≤ i := (fun q_ => c_1 ((nI_leI (a := n) (b := i) (by omega) (by omega)).mpr q_))
        refine lv_aload_n hx hb dX5_bare_12 rfl (lv_at hl 1 rfl) ?_
        refine lv_iload_n hx hb dX5_bare_13 rfl (lv_at hl 2 rfl) ?_
        refine lv_iload hx hb dX5_bare_14 (lv_at hl 6 rfl) ?_
        refine rd_iadd hx hb (fr) (i) dX5_bare_16 ?_
        refine rd_iald hx hb hK hP 1 0 rfl rfl (fr + i) (by omega) (by omega) dX5_bare_17 ?_
        refine lv_bipush (v := 15) hx hb dX5_bare_18 (by decide) ?_
        have j_2 : ∀ (y0_j_2 : Bool), y0_j_2 = m_X5_bare_j39_s0 ka fr n i → ∀ (ls : Array Slot), lv_has ls 8 [(0, .ref g0), (1, .ref g1), (2, .int (nI fr)), (3, .int (nI n)), (4, .ref g2), (5, .int (nI x5_6)), (6, .int (nI i))] → W p l e (headSpec wsX5_bare ({ frames := 1, cells := 0, slots := 0, locals := 27 } : Room)).room s m (([.ref g0, .ref g1, .int (nI fr), .int (nI n), .ref g2] : List Value).toArray) below meth c H locs 0 0 (MQ below (va_Qi (S := Unit) (fun r _ => r = nI ((m_X5_bare sa ka fr n ta).1)) (wr_B (dC, dI) vwCl (fun u9 => [(g0, .inl (cA, cap, .inl sa)), (g1, .inl (cA, cap, .inl ka)), (g2, .inl (cA, 10200, .inl ((m_X5_bare sa ka fr n ta).2)))]) [(cA, .int)] A) A) (([.ref g0, .ref g1, .int (nI fr), .int (nI n), .ref g2] : List Value).toArray) s 0 0 A) (F0 m 39 ls [.int (bI y0_j_2)]) := by
          intro y0_j_2 ey0_j_2 ls hl
          subst ey0_j_2
          refine lv_istore (lv' := [(7, .int (bI (m_X5_bare_j39_s0 ka fr n i))), (0, .ref g0), (1, .ref g1), (2, .int (nI fr)), (3, .int (nI n)), (4, .ref g2), (5, .int (nI x5_6)), (6, .int (nI i))]) hx hb dX5_bare_39 hl (by decide) rfl (fun ls hl => ?_)
          refine lv_iload hx hb dX5_bare_41 (lv_at hl 0 rfl) ?_
          refine lv_if_eq (tgt := 49) hx hb dX5_bare_43 (by decide) (fun c_3 => ?_) (fun c_3 => ?_)
          · skip
            have c_3 := bI_0 c_3
            refine lv_aload hx hb dX5_bare_49 (lv_at hl 5 rfl) ?_
            refine lv_iload hx hb dX5_bare_51 (lv_at hl 6 rfl) ?_
            refine lv_aload_n hx hb dX5_bare_53 rfl (lv_at hl 1 rfl) ?_
            refine lv_iload_n hx hb dX5_bare_54 rfl (lv_at hl 3 rfl) ?_
            refine lv_iload hx hb dX5_bare_55 (lv_at hl 7 rfl) ?_
            refine rd_iadd hx hb (fr) (i) dX5_bare_57 ?_
            refine rd_iald hx hb hK hP 0 0 rfl rfl (fr + i) (by omega) (by omega) dX5_bare_58 ?_
            refine wr_iast (x := sa (fr + i)) hx hb hK hP hD hS 2 0 rfl rfl (x5_6) (by omega) (by omega) dX5_bare_59 (fun H locs hP hD hS => ?_)
            have hP : va_P (dC, dI) vwCl [(g0, .inl (cA, cap, .inl sa)), (g1, .inl (cA, cap, .inl ka)), (g2, .inl (cA, 10200, .inl (upd ta_6 x5_6 (sa (fr + i)))))] H := hP
            have hD : va_D A [(g0, .inl (cA, cap, .inl sa)), (g1, .inl (cA, cap, .inl ka)), (g2, .inl (cA, 10200, .inl (upd ta_6 x5_6 (sa (fr + i)))))] := hD
            refine lv_iinc (v := nI (x5_6 + 1)) (lv' := [(5, .int (nI (x5_6 + 1))), (7, .int (bI (m_X5_bare_j39_s0 ka fr n i))), (0, .ref g0), (1, .ref g1), (2, .int (nI fr)), (3, .int (nI n)), (4, .ref g2), (6, .int (nI i))]) hx hb dX5_bare_60 hl (k := 6) rfl (nI_add (x5_6) 1) (by decide) rfl (fun ls hl => ?_)
            refine lv_iinc (v := nI (i + 1)) (lv' := [(6, .int (nI (i + 1))), (5, .int (nI (x5_6 + 1))), (7, .int (bI (m_X5_bare_j39_s0 ka fr n i))), (0, .ref g0), (1, .ref g1), (2, .int (nI fr)), (3, .int (nI n)), (4, .ref g2)]) hx hb dX5_bare_63 hl (k := 7) rfl (nI_add (i) 1) (by decide) rfl (fun ls hl => ?_)
            refine lv_goto (tgt := 6) hx hb dX5_bare_66 (by decide) ?_
            exact ih6 (i + 1) (x5_6 + 1) (upd ta_6 x5_6 (sa (fr + i))) (by omega) (by omega) (by omega) (hm6.trans (by simp only [m_X5_bare_L6, if_neg c_1, if_pos c_3])) H locs hP hD hS ls (lv_sub hl [3, 4, 5, 6, 7, 1, 0] rfl)
          · skip
            have c_3 := bI_n0 c_3
            refine lv_goto (tgt := 63) hx hb dX5_bare_46 (by decide) ?_
            refine lv_iinc (v := nI (i + 1)) (lv' := [(6, .int (nI (i + 1))), (7, .int (bI (m_X5_bare_j39_s0 ka fr n i))), (0, .ref g0), (1, .ref g1), (2, .int (nI fr)), (3, .int (nI n)), (4, .ref g2), (5, .int (nI x5_6))]) hx hb dX5_bare_63 hl (k := 7) rfl (nI_add (i) 1) (by decide) rfl (fun ls hl => ?_)
            refine lv_goto (tgt := 6) hx hb dX5_bare_66 (by decide) ?_
            exact ih6 (i + 1) x5_6 ta_6 (by omega) (by omega) (by omega) (hm6.trans (by simp only [m_X5_bare_L6, if_neg c_1, if_neg c_3])) H locs hP hD hS ls (lv_sub hl [2, 3, 4, 5, 6, 7, 0] rfl)
        refine lv_icmp_ne (tgt := 38) hx hb dX5_bare_20 (by decide) (fun c_4 => ?_) (fun c_4 => ?_)
        · skip
          refine lv_iconst (v := 0) hx hb dX5_bare_38 (by decide) ?_
          exact j_2 false (by simp only [m_X5_bare_j39_s0, if_neg c_4]) ls (lv_sub hl [0, 1, 2, 3, 4, 5, 6] rfl)
        · skip
          refine lv_aload_n hx hb dX5_bare_23 rfl (lv_at hl 1 rfl) ?_
          refine lv_iload_n hx hb dX5_bare_24 rfl (lv_at hl 2 rfl) ?_
          refine lv_iload hx hb dX5_bare_25 (lv_at hl 6 rfl) ?_
          refine lv_iload_n hx hb dX5_bare_27 rfl (lv_at hl 3 rfl) ?_
          refine rd_callS (As := [.ref g1, .int (nI fr), .int (nI i), .int (nI n)]) (rest := []) ⟨hx, hb, hml, hown, hts⟩ (hE.rd hS) (c_X5_isIdle l dC dI g1 cap cA ka fr i n (by omega) (by omega) (by omega)) (va_cwS 4 hts gX5_bare_X5_isIdle rfl rfl rfl (by decide +kernel) ⟨Nat.le_of_ble_eq_true rfl, Nat.le_of_ble_eq_true rfl⟩) (hP.sub (ws' := [(g1, .inl (cA, cap, .inl ka))]) [1] rfl) (hK.sub [0] rfl) rfl hl.1 rfl (Nat.le_of_ble_eq_true rfl) dX5_bare_28 ⟨Nat.le_of_ble_eq_true rfl, Nat.le_of_ble_eq_true rfl⟩ (fun r9 hr9 => ?_)
          subst hr9
          refine lv_if_eq (tgt := 38) hx hb dX5_bare_31 (by decide) (fun c_5 => ?_) (fun c_5 => ?_)
          · skip
            have c_5 := bI_0 c_5
            refine lv_iconst (v := 0) hx hb dX5_bare_38 (by decide) ?_
            exact j_2 false (by simp only [m_X5_bare_j39_s0, if_pos c_4, if_pos c_5]) ls (lv_sub hl [0, 1, 2, 3, 4, 5, 6] rfl)
          · skip
            have c_5 := bI_n0 c_5
            refine lv_iconst (v := 1) hx hb dX5_bare_34 (by decide) ?_
            refine lv_goto (tgt := 39) hx hb dX5_bare_35 (by decide) ?_
            exact j_2 true (by simp only [m_X5_bare_j39_s0, if_pos c_4, if_neg c_5]) ls (lv_sub hl [0, 1, 2, 3, 4, 5, 6] rfl)
  exact lp_6 (n + 1) (0) 0 ta (by omega) (by omega) (by omega) (show m_X5_bare sa ka fr n ta = m_X5_bare_L6 sa ka fr n (n + 1) 0 0 ta from by simp only [m_X5_bare]) s.heap [] hP hD hS ls (lv_sub hl [2, 3, 4, 5, 6, 1, 0] rfl)
def m_X5_sorts_j13_s0 (pu : Int32) : Bool := if pu ≤ 1 then false else true
def m_X5_sorts_j27_s0 (mi : Int32) : Bool := if mi ≤ 1 then false else true
def m_X5_sorts_j41_s0 (ms : Int32) : Bool := if ms ≤ 1 then false else true
def m_X5_sorts_j79_s0 (x4_51 : Bool) : Bool := if x4_51 = false then false else true
def m_X5_sorts_j109_l9 (rd : Nat → Int32) (i : Nat) : Int32 := if (rd i) = 66 then 0 else (if (rd i) = 48 then 0 else (if (rd i) = 47 then 0 else 18))
def m_X5_sorts_j119_l9 (rd : Nat → Int32) (i : Nat) : Int32 := if (rd i) = 44 then 1 else m_X5_sorts_j109_l9 rd i
def m_X5_sorts_j129_l9 (rd : Nat → Int32) (i : Nat) : Int32 := if (rd i) = 46 then 2 else m_X5_sorts_j119_l9 rd i
def m_X5_sorts_j160_l9 (rd : Nat → Int32) (pu : Int32) (i : Nat) (x4_51 : Bool) : Int32 := if (rd i) = 43 then (if (m_X5_sorts_j13_s0 pu) = false then (if i = 0 then 3 else 4) else 8 + (bI (m_X5_sorts_j79_s0 x4_51))) else m_X5_sorts_j129_l9 rd i
def m_X5_sorts_j191_l9 (rd : Nat → Int32) (pu : Int32) (mi : Int32) (i : Nat) (x4_51 : Bool) : Int32 := if (rd i) = 45 then (if (m_X5_sorts_j27_s0 mi) = false then (if i = 0 then 3 else 4) else 8 + (bI (m_X5_sorts_j79_s0 x4_51))) else m_X5_sorts_j160_l9 rd pu i x4_51
def m_X5_sorts_j210_l9 (rd : Nat → Int32) (pu : Int32) (mi : Int32) (i : Nat) (x4_51 : Bool) : Int32 := if (rd i) = 200 then 4 else (if (rd i) = 201 then 4 else m_X5_sorts_j191_l9 rd pu mi i x4_51)
def m_X5_sorts_j233_l9 (rd : Nat → Int32) (pu : Int32) (mi : Int32) (ms : Int32) (i : Nat) (x4_51 : Bool) : Int32 := if (rd i) = 202 then (if (m_X5_sorts_j41_s0 ms) = false then 5 else 10 + (bI (m_X5_sorts_j79_s0 x4_51))) else m_X5_sorts_j210_l9 rd pu mi i x4_51
def m_X5_sorts_j254_l9 (rd : Nat → Int32) (pu : Int32) (mi : Int32) (ms : Int32) (i : Nat) (x4_51 : Bool) : Int32 := if (rd i) = 90 then 6 + (bI (m_X5_sorts_j79_s0 x4_51)) else (if (rd i) = 42 then 6 + (bI (m_X5_sorts_j79_s0 x4_51)) else m_X5_sorts_j233_l9 rd pu mi ms i x4_51)
def m_X5_sorts_j265_l9 (rd : Nat → Int32) (pu : Int32) (mi : Int32) (ms : Int32) (i : Nat) (x4_51 : Bool) : Int32 := if (rd i) = 57 then 12 else m_X5_sorts_j254_l9 rd pu mi ms i x4_51
def m_X5_sorts_j283_l9 (rd : Nat → Int32) (pu : Int32) (mi : Int32) (ms : Int32) (i : Nat) (x4_51 : Bool) : Int32 := if (rd i) = 65 then 13 else (if (rd i) = 88 then 13 else m_X5_sorts_j265_l9 rd pu mi ms i x4_51)
def m_X5_sorts_j294_l9 (rd : Nat → Int32) (pu : Int32) (mi : Int32) (ms : Int32) (i : Nat) (x4_51 : Bool) : Int32 := if (rd i) = 83 then 14 else m_X5_sorts_j283_l9 rd pu mi ms i x4_51
def m_X5_sorts_j305_l9 (rd : Nat → Int32) (pu : Int32) (mi : Int32) (ms : Int32) (i : Nat) (x4_51 : Bool) : Int32 := if (rd i) = 86 then 15 else m_X5_sorts_j294_l9 rd pu mi ms i x4_51
def m_X5_sorts_j326_l9 (rd : Nat → Int32) (pu : Int32) (mi : Int32) (ms : Int32) (i : Nat) (x4_51 : Bool) (x5_51 : Bool) : Int32 := if (rd i) = 80 then (if x5_51 = false then 17 else 16) else m_X5_sorts_j305_l9 rd pu mi ms i x4_51
def m_X5_sorts_j365_s0 (rd : Nat → Int32) (pu : Int32) (mi : Int32) (ms : Int32) (i : Nat) (x4_51 : Bool) (x5_51 : Bool) : Bool := if x4_51 = false then (if (m_X5_sorts_j326_l9 rd pu mi ms i x4_51 x5_51) = 2 then true else (if (m_X5_sorts_j326_l9 rd pu mi ms i x4_51 x5_51) = 15 then true else (if (m_X5_sorts_j326_l9 rd pu mi ms i x4_51 x5_51) = 16 then true else false))) else true
def m_X5_sorts_j403_s0 (rd : Nat → Int32) (pu : Int32) (mi : Int32) (ms : Int32) (i : Nat) (x4_51 : Bool) (x5_51 : Bool) : Bool := if x5_51 = false then false else (if (m_X5_sorts_j326_l9 rd pu mi ms i x4_51 x5_51) = 3 then true else (if (m_X5_sorts_j326_l9 rd pu mi ms i x4_51 x5_51) = 5 then true else (if (m_X5_sorts_j326_l9 rd pu mi ms i x4_51 x5_51) ≤ 13 then false else (if 17 ≤ (m_X5_sorts_j326_l9 rd pu mi ms i x4_51 x5_51) then false else true))))
def m_X5_sorts_j324_s0 (x5_51 : Bool) : Int32 := if x5_51 = false then 17 else 16
def m_X5_sorts_j231_s0 (ms : Int32) (x4_51 : Bool) : Int32 := if (m_X5_sorts_j41_s0 ms) = false then 5 else 10 + (bI (m_X5_sorts_j79_s0 x4_51))
def m_X5_sorts_j189_s0 (mi : Int32) (i : Nat) (x4_51 : Bool) : Int32 := if (m_X5_sorts_j27_s0 mi) = false then (if i = 0 then 3 else 4) else 8 + (bI (m_X5_sorts_j79_s0 x4_51))
def m_X5_sorts_j158_s0 (pu : Int32) (i : Nat) (x4_51 : Bool) : Int32 := if (m_X5_sorts_j13_s0 pu) = false then (if i = 0 then 3 else 4) else 8 + (bI (m_X5_sorts_j79_s0 x4_51))
def m_X5_sorts_L51 (rd : Nat → Int32) (my : Nat) (pu : Int32) (mi : Int32) (ms : Int32) : Nat → Nat → Bool → Bool → (Nat → Int32) → (Nat → Int32)
  | 0, _, _, _, _ => fun _ => 0
  | k51 + 1, i, x4_51, x5_51, kd_51 => if my ≤ i then kd_51 else (m_X5_sorts_L51 rd my pu mi ms k51 (i + 1) (m_X5_sorts_j365_s0 rd pu mi ms i x4_51 x5_51) (m_X5_sorts_j403_s0 rd pu mi ms i x4_51 x5_51) (upd kd_51 i (m_X5_sorts_j326_l9 rd pu mi ms i x4_51 x5_51)))
def m_X5_sorts (rd : Nat → Int32) (kd : Nat → Int32) (my : Nat) (pu : Int32) (mi : Int32) (ms : Int32) : (Nat → Int32) := m_X5_sorts_L51 rd my pu mi ms (my + 1) 0 false true kd
set_option maxHeartbeats 4000000 in
set_option maxRecDepth 100000 in
theorem c_X5_sorts (l : Launch) (dC : Nat → ClassId) (dI : Nat → Nat → Nat) (h0 : Nat) (th : Int32) (t1 : Nat) (len : Nat) (mo : Int32) (a4 : Nat) (a5 : Nat) (a6 : Nat) (a11 : Nat) (a12 : Nat) (a13 : Nat) (la : Int32) (kp : Nat) (sh : Nat) (mf : Int32) (a18 : Nat) (a19 : Nat) (a20 : Nat) (a21 : Nat) (a22 : Nat) (a23 : Nat) (cA : ClassId) (rd : Nat → Int32) (kd : Nat → Int32) (my : Nat) (pu : Int32) (mi : Int32) (ms : Int32) (zz : Nat) (hmy : my ≤ 10200) : Met l yX5_sorts wsX5_sorts ({ frames := 0, cells := 0, slots := 0, locals := 0 } : Room) (va_Pc [.ref h0] (wr_P (dC, dI) vwCl [(h0, .inr (6, [.int th, .ref t1, .int (nI len), .int mo, .ref a4, .ref a5, .ref a6, .int (nI my), .int pu, .int mi, .int ms, .ref a11, .ref a12, .ref a13, .int la, .int (nI kp), .int (nI sh), .int mf, .ref a18, .ref a19, .ref a20, .ref a21, .ref a22, .ref a23])), (a4, .inl (cA, 10200, .inl rd)), (a6, .inl (cA, 10200, .inl kd))] [(cA, .int)] zz)) (va_Qv (S := Unit) (fun _ => True) (wr_B (dC, dI) vwCl (fun u9 => [(h0, .inr (6, [.int th, .ref t1, .int (nI len), .int mo, .ref a4, .ref a5, .ref a6, .int (nI my), .int pu, .int mi, .int ms, .ref a11, .ref a12, .ref a13, .int la, .int (nI kp), .int (nI sh), .int mf, .ref a18, .ref a19, .ref a20, .ref a21, .ref a22, .ref a23])), (a4, .inl (cA, 10200, .inl rd)), (a6, .inl (cA, 10200, .inl (m_X5_sorts rd kd my pu mi ms)))]) [(cA, .int)] (va_A [(h0, .inr (6, [.int th, .ref t1, .int (nI len), .int mo, .ref a4, .ref a5, .ref a6, .int (nI my), .int pu, .int mi, .int ms, .ref a11, .ref a12, .ref a13, .int la, .int (nI kp), .int (nI sh), .int mf, .ref a18, .ref a19, .ref a20, .ref a21, .ref a22, .ref a23])), (a4, .inl (cA, 10200, .inl rd)), (a6, .inl (cA, 10200, .inl kd))] zz)) (va_A [(h0, .inr (6, [.int th, .ref t1, .int (nI len), .int mo, .ref a4, .ref a5, .ref a6, .int (nI my), .int pu, .int mi, .int ms, .ref a11, .ref a12, .ref a13, .int la, .int (nI kp), .int (nI sh), .int mf, .ref a18, .ref a19, .ref a20, .ref a21, .ref a22, .ref a23])), (a4, .inl (cA, 10200, .inl rd)), (a6, .inl (cA, 10200, .inl kd))] zz)) 0 0 (va_A [(h0, .inr (6, [.int th, .ref t1, .int (nI len), .int mo, .ref a4, .ref a5, .ref a6, .int (nI my), .int pu, .int mi, .int ms, .ref a11, .ref a12, .ref a13, .int la, .int (nI kp), .int (nI sh), .int mf, .ref a18, .ref a19, .ref a20, .ref a21, .ref a22, .ref a23])), (a4, .inl (cA, 10200, .inl rd)), (a6, .inl (cA, 10200, .inl kd))] zz) := by
  refine Met.ofW (cc := cX5_sorts) (maxL := 10) (ret := none) (by decide) rfl ?_
  intro p e s m args below meth c s₁ B hml hv
  obtain ⟨rfl, hsz0, hE, hP, hK, hD0⟩ := hv
  have hx := B.exec
  have hb := B.bytes
  have hr := B.returns
  have hts := atoms_spec (ws := wsX5_sorts) B.pre
  have hown : s.vm.findClass RX5 = some m.cls := findClass_of_methodNamed B.named
  have hlocks := B.notSynchronized
  subst hsz0
  have hD := hD0.self (sz := s.heap.size)
  generalize hAe : va_A [(h0, .inr (6, [.int th, .ref t1, .int (nI len), .int mo, .ref a4, .ref a5, .ref a6, .int (nI my), .int pu, .int mi, .int ms, .ref a11, .ref a12, .ref a13, .int la, .int (nI kp), .int (nI sh), .int mf, .ref a18, .ref a19, .ref a20, .ref a21, .ref a22, .ref a23])), (a4, .inl (cA, 10200, .inl rd)), (a6, .inl (cA, 10200, .inl kd))] s.heap.size = A at hD hE ⊢
  have hA : ∀ q : Nat, s.heap.size ≤ q → A q := fun q h => by rw [← hAe]; exact Or.inr h
  have hS : va_S A s.heap s.heap [] := va_S.rf
  have hP : va_P (dC, dI) vwCl [(h0, .inr (6, [.int th, .ref t1, .int (nI len), .int mo, .ref a4, .ref a5, .ref a6, .int (nI my), .int pu, .int mi, .int ms, .ref a11, .ref a12, .ref a13, .int la, .int (nI kp), .int (nI sh), .int mf, .ref a18, .ref a19, .ref a20, .ref a21, .ref a22, .ref a23])), (a4, .inl (cA, 10200, .inl rd)), (a6, .inl (cA, 10200, .inl kd))] s.heap := hP
  have hl := lv_entry ([.ref h0]) (n := 10) (Nat.le_of_ble_eq_true rfl)
  rw [lg_entry_eq]
  generalize (lg_sl ([.ref h0]) ++ List.replicate (10 - (lg_sl ([.ref h0])).length) Slot.unset).toArray = ls at hl ⊢
  have hl : lv_has ls 10 [(0, .ref h0)] := hl
  refine lv_aload_n hx hb dX5_sorts_0 rfl (lv_at hl 0 rfl) ?_
  refine va_get (D := (dC, dI)) (ci := 6) (v := .int pu) (C := RX5) (T := TX5) (N := 24) hx hb hts (by decide +kernel) hown hK hP 0 rfl rfl 8 (by decide) (hts (.fieldLink RX5 88 "PictureRowsModel" "pluses" "I") (by decide +kernel)) (fun _ h9 => h9) rfl dX5_sorts_1 ?_
  refine lv_iconst (v := 1) hx hb dX5_sorts_4 (by decide) ?_
  have j_1 : ∀ (y0_j_1 : Bool), y0_j_1 = m_X5_sorts_j13_s0 pu → ∀ (ls : Array Slot), lv_has ls 10 [(0, .ref h0)] → W p l e (headSpec wsX5_sorts ({ frames := 0, cells := 0, slots := 0, locals := 0 } : Room)).room s m (([.ref h0] : List Value).toArray) below meth c s.heap [] 0 0 (MQ below (va_Qv (S := Unit) (fun _ => True) (wr_B (dC, dI) vwCl (fun u9 => [(h0, .inr (6, [.int th, .ref t1, .int (nI len), .int mo, .ref a4, .ref a5, .ref a6, .int (nI my), .int pu, .int mi, .int ms, .ref a11, .ref a12, .ref a13, .int la, .int (nI kp), .int (nI sh), .int mf, .ref a18, .ref a19, .ref a20, .ref a21, .ref a22, .ref a23])), (a4, .inl (cA, 10200, .inl rd)), (a6, .inl (cA, 10200, .inl (m_X5_sorts rd kd my pu mi ms)))]) [(cA, .int)] A) A) (([.ref h0] : List Value).toArray) s 0 0 A) (F0 m 13 ls [.int (bI y0_j_1)]) := by
    intro y0_j_1 ey0_j_1 ls hl
    subst ey0_j_1
    refine lv_istore_n (lv' := [(1, .int (bI (m_X5_sorts_j13_s0 pu))), (0, .ref h0)]) hx hb dX5_sorts_13 rfl hl (by decide) rfl (fun ls hl => ?_)
    refine lv_aload_n hx hb dX5_sorts_14 rfl (lv_at hl 1 rfl) ?_
    refine va_get (D := (dC, dI)) (ci := 6) (v := .int mi) (C := RX5) (T := TX5) (N := 24) hx hb hts (by decide +kernel) hown hK hP 0 rfl rfl 9 (by decide) (hts (.fieldLink RX5 91 "PictureRowsModel" "minuses" "I") (by decide +kernel)) (fun _ h9 => h9) rfl dX5_sorts_15 ?_
    refine lv_iconst (v := 1) hx hb dX5_sorts_18 (by decide) ?_
    have j_2 : ∀ (y0_j_2 : Bool), y0_j_2 = m_X5_sorts_j27_s0 mi → ∀ (ls : Array Slot), lv_has ls 10 [(0, .ref h0), (1, .int (bI (m_X5_sorts_j13_s0 pu)))] → W p l e (headSpec wsX5_sorts ({ frames := 0, cells := 0, slots := 0, locals := 0 } : Room)).room s m (([.ref h0] : List Value).toArray) below meth c s.heap [] 0 0 (MQ below (va_Qv (S := Unit) (fun _ => True) (wr_B (dC, dI) vwCl (fun u9 => [(h0, .inr (6, [.int th, .ref t1, .int (nI len), .int mo, .ref a4, .ref a5, .ref a6, .int (nI my), .int pu, .int mi, .int ms, .ref a11, .ref a12, .ref a13, .int la, .int (nI kp), .int (nI sh), .int mf, .ref a18, .ref a19, .ref a20, .ref a21, .ref a22, .ref a23])), (a4, .inl (cA, 10200, .inl rd)), (a6, .inl (cA, 10200, .inl (m_X5_sorts rd kd my pu mi ms)))]) [(cA, .int)] A) A) (([.ref h0] : List Value).toArray) s 0 0 A) (F0 m 27 ls [.int (bI y0_j_2)]) := by
      intro y0_j_2 ey0_j_2 ls hl
      subst ey0_j_2
      refine lv_istore_n (lv' := [(2, .int (bI (m_X5_sorts_j27_s0 mi))), (0, .ref h0), (1, .int (bI (m_X5_sorts_j13_s0 pu)))]) hx hb dX5_sorts_27 rfl hl (by decide) rfl (fun ls hl => ?_)
      refine lv_aload_n hx hb dX5_sorts_28 rfl (lv_at hl 1 rfl) ?_
      refine va_get (D := (dC, dI)) (ci := 6) (v := .int ms) (C := RX5) (T := TX5) (N := 24) hx hb hts (by decide +kernel) hown hK hP 0 rfl rfl 10 (by decide) (hts (.fieldLink RX5 94 "PictureRowsModel" "moneys" "I") (by decide +kernel)) (fun _ h9 => h9) rfl dX5_sorts_29 ?_
      refine lv_iconst (v := 1) hx hb dX5_sorts_32 (by decide) ?_
      have j_3 : ∀ (y0_j_3 : Bool), y0_j_3 = m_X5_sorts_j41_s0 ms → ∀ (ls : Array Slot), lv_has ls 10 [(0, .ref h0), (1, .int (bI (m_X5_sorts_j13_s0 pu))), (2, .int (bI (m_X5_sorts_j27_s0 mi)))] → W p l e (headSpec wsX5_sorts ({ frames := 0, cells := 0, slots := 0, locals := 0 } : Room)).room s m (([.ref h0] : List Value).toArray) below meth c s.heap [] 0 0 (MQ below (va_Qv (S := Unit) (fun _ => True) (wr_B (dC, dI) vwCl (fun u9 => [(h0, .inr (6, [.int th, .ref t1, .int (nI len), .int mo, .ref a4, .ref a5, .ref a6, .int (nI my), .int pu, .int mi, .int ms, .ref a11, .ref a12, .ref a13, .int la, .int (nI kp), .int (nI sh), .int mf, .ref a18, .ref a19, .ref a20, .ref a21, .ref a22, .ref a23])), (a4, .inl (cA, 10200, .inl rd)), (a6, .inl (cA, 10200, .inl (m_X5_sorts rd kd my pu mi ms)))]) [(cA, .int)] A) A) (([.ref h0] : List Value).toArray) s 0 0 A) (F0 m 41 ls [.int (bI y0_j_3)]) := by
        intro y0_j_3 ey0_j_3 ls hl
        subst ey0_j_3
        refine lv_istore_n (lv' := [(3, .int (bI (m_X5_sorts_j41_s0 ms))), (0, .ref h0), (1, .int (bI (m_X5_sorts_j13_s0 pu))), (2, .int (bI (m_X5_sorts_j27_s0 mi)))]) hx hb dX5_sorts_41 rfl hl (by decide) rfl (fun ls hl => ?_)
        refine lv_iconst (v := 0) hx hb dX5_sorts_42 (by decide) ?_
        refine lv_istore (lv' := [(4, .int 0), (3, .int (bI (m_X5_sorts_j41_s0 ms))), (0, .ref h0), (1, .int (bI (m_X5_sorts_j13_s0 pu))), (2, .int (bI (m_X5_sorts_j27_s0 mi)))]) hx hb dX5_sorts_43 hl (by decide) rfl (fun ls hl => ?_)
        refine lv_iconst (v := 1) hx hb dX5_sorts_45 (by decide) ?_
        refine lv_istore (lv' := [(5, .int 1), (4, .int 0), (3, .int (bI (m_X5_sorts_j41_s0 ms))), (0, .ref h0), (1, .int (bI (m_X5_sorts_j13_s0 pu))), (2, .int (bI (m_X5_sorts_j27_s0 mi)))]) hx hb dX5_sorts_46 hl (by decide) rfl (fun ls hl => ?_)
        refine lv_iconst (v := 0) hx hb dX5_sorts_48 (by decide) ?_
        refine lv_istore (lv' := [(6, .int 0), (5, .int 1), (4, .int 0), (3, .int (bI (m_X5_sorts_j41_s0 ms))), (0, .ref h0), (1, .int (bI (m_X5_sorts_j13_s0 pu))), (2, .int (bI (m_X5_sorts_j27_s0 mi)))]) hx hb dX5_sorts_49 hl (by decide) rfl (fun ls hl => ?_)
        have lp_51 : ∀ (k51 i : Nat) (x4_51 : Bool) (x5_51 : Bool) (kd_51 : Nat → Int32), i ≤ my → my + 1 ≤ i + k51 → m_X5_sorts rd kd my pu mi ms = m_X5_sorts_L51 rd my pu mi ms k51 i x4_51 x5_51 kd_51 → ∀ (H : Heap) (locs : List Loc), va_P (dC, dI) vwCl [(h0, .inr (6, [.int th, .ref t1, .int (nI len), .int mo, .ref a4, .ref a5, .ref a6, .int (nI my), .int pu, .int mi, .int ms, .ref a11, .ref a12, .ref a13, .int la, .int (nI kp), .int (nI sh), .int mf, .ref a18, .ref a19, .ref a20, .ref a21, .ref a22, .ref a23])), (a4, .inl (cA, 10200, .inl rd)), (a6, .inl (cA, 10200, .inl kd_51))] H → va_D A [(h0, .inr (6, [.int th, .ref t1, .int (nI len), .int mo, .ref a4, .ref a5, .ref a6, .int (nI my), .int pu, .int mi, .int ms, .ref a11, .ref a12, .ref a13, .int la, .int (nI kp), .int (nI sh), .int mf, .ref a18, .ref a19, .ref a20, .ref a21, .ref a22, .ref a23])), (a4, .inl (cA, 10200, .inl rd)), (a6, .inl (cA, 10200, .inl kd_51))] → va_S A s.heap H locs → ∀ (ls : Array Slot), lv_has ls 10 [(0, .ref h0), (1, .int (bI (m_X5_sorts_j13_s0 pu))), (2, .int (bI (m_X5_sorts_j27_s0 mi))), (3, .int (bI (m_X5_sorts_j41_s0 ms))), (4, .int (bI x4_51)), (5, .int (bI x5_51)), (6, .int (nI i))] → W p l e (headSpec wsX5_sorts ({ frames := 0, cells := 0, slots := 0, locals := 0 } : Room)).room s m (([.ref h0] : List Value).toArray) below meth c H locs 0 0 (MQ below (va_Qv (S := Unit) (fun _ => True) (wr_B (dC, dI) vwCl (fun u9 => [(h0, .inr (6, [.int th, .ref t1, .int (nI len), .int mo, .ref a4, .ref a5, .ref a6, .int (nI my), .int pu, .int mi, .int ms, .ref a11, .ref a12, .ref a13, .int la, .int (nI kp), .int (nI sh), .int mf, .ref a18, .ref a19, .ref a20, .ref a21, .ref a22, .ref a23])), (a4, .inl (cA, 10200, .inl rd)), (a6, .inl (cA, 10200, .inl (m_X5_sorts rd kd my pu mi ms)))]) [(cA, .int)] A) A) (([.ref h0] : List Value).toArray) s 0 0 A) (F0 m 51 ls []) := by
          intro k51
          induction k51 with
          | zero => intro i x4_51 x5_51 kd_51 h1_ h2_; exfalso; omega
          | succ k51 ih51 =>
            intro i x4_51 x5_51 kd_51 hb51 hf51  hm51 H locs hP hD hS ls hl
            refine lv_iload hx hb dX5_sorts_51 (lv_at hl 6 rfl) ?_
            refine lv_aload_n hx hb dX5_sorts_53 rfl (lv_at hl 0 rfl) ?_
            refine va_get (D := (dC, dI)) (ci := 6) (v := .int (nI my)) (C := RX5) (T := TX5) (N := 24) hx hb hts (by decide +kernel) hown hK hP 0 rfl rfl 7 (by decide) (hts (.fieldLink RX5 85 "PictureRowsModel" "many" "I") (by decide +kernel)) (fun _ h9 => h9) rfl dX5_sorts_54 ?_
            refine lv_icmp_ge (tgt := 411) hx hb dX5_sorts_57 (by decide) (fun c_4 => ?_) (fun c_4 => ?_)
            · skip
              have c_4 : my ≤ i := (nI_leI (a := my) (b := i) (by omega) (by omega)).mp c_4
              have hmE : m_X5_sorts rd kd my pu mi ms = kd_51 := hm51.trans (by simp only [m_X5_sorts_L51, if_pos c_4])
              exact wr_vret () hx hb hr hlocks hK hS trivial (by rw [hmE]; exact hP) (by rw [hmE]; exact hD) dX5_sorts_411
            · skip
              have c_4 : ¬ my ≤ i := (fun q_ => c_4 ((nI_leI (a := my) (b := i) (by omega) (by omega)).mpr q_))
              refine lv_aload_n hx hb dX5_sorts_60 rfl (lv_at hl 0 rfl) ?_
              refine va_get (D := (dC, dI)) (ci := 6) (v := .ref a4) (C := RX5) (T := TX5) (N := 24) hx hb hts (by decide +kernel) hown hK hP 0 rfl rfl 4 (by decide) (hts (.fieldLink RX5 17 "PictureRowsModel" "read" "[I") (by decide +kernel)) (fun _ h9 => h9) rfl dX5_sorts_61 ?_
              refine lv_iload hx hb dX5_sorts_64 (lv_at hl 6 rfl) ?_
              refine rd_iald hx hb hK hP 1 0 rfl rfl (i) (by omega) (by omega) dX5_sorts_66 ?_
              refine lv_istore (lv' := [(7, .int (rd i)), (0, .ref h0), (1, .int (bI (m_X5_sorts_j13_s0 pu))), (2, .int (bI (m_X5_sorts_j27_s0 mi))), (3, .int (bI (m_X5_sorts_j41_s0 ms))), (4, .int (bI x4_51)), (5, .int (bI x5_51)), (6, .int (nI i))]) hx hb dX5_sorts_67 hl (by decide) rfl (fun ls hl => ?_)
              refine lv_iload hx hb dX5_sorts_69 (lv_at hl 5 rfl) ?_
              have j_5 : ∀ (y0_j_5 : Bool), y0_j_5 = m_X5_sorts_j79_s0 x4_51 → ∀ (ls : Array Slot), lv_has ls 10 [(0, .ref h0), (1, .int (bI (m_X5_sorts_j13_s0 pu))), (2, .int (bI (m_X5_sorts_j27_s0 mi))), (3, .int (bI (m_X5_sorts_j41_s0 ms))), (4, .int (bI x4_51)), (5, .int (bI x5_51)), (6, .int (nI i)), (7, .int (rd i))] → W p l e (headSpec wsX5_sorts ({ frames := 0, cells := 0, slots := 0, locals := 0 } : Room)).room s m (([.ref h0] : List Value).toArray) below meth c H locs 0 0 (MQ below (va_Qv (S := Unit) (fun _ => True) (wr_B (dC, dI) vwCl (fun u9 => [(h0, .inr (6, [.int th, .ref t1, .int (nI len), .int mo, .ref a4, .ref a5, .ref a6, .int (nI my), .int pu, .int mi, .int ms, .ref a11, .ref a12, .ref a13, .int la, .int (nI kp), .int (nI sh), .int mf, .ref a18, .ref a19, .ref a20, .ref a21, .ref a22, .ref a23])), (a4, .inl (cA, 10200, .inl rd)), (a6, .inl (cA, 10200, .inl (m_X5_sorts rd kd my pu mi ms)))]) [(cA, .int)] A) A) (([.ref h0] : List Value).toArray) s 0 0 A) (F0 m 79 ls [.int (bI y0_j_5)]) := by
                intro y0_j_5 ey0_j_5 ls hl
                subst ey0_j_5
                refine lv_istore (lv' := [(8, .int (bI (m_X5_sorts_j79_s0 x4_51))), (0, .ref h0), (1, .int (bI (m_X5_sorts_j13_s0 pu))), (2, .int (bI (m_X5_sorts_j27_s0 mi))), (3, .int (bI (m_X5_sorts_j41_s0 ms))), (4, .int (bI x4_51)), (5, .int (bI x5_51)), (6, .int (nI i)), (7, .int (rd i))]) hx hb dX5_sorts_79 hl (by decide) rfl (fun ls hl => ?_)
                refine lv_bipush (v := 18) hx hb dX5_sorts_81 (by decide) ?_
                refine lv_istore (lv' := [(9, .int 18), (8, .int (bI (m_X5_sorts_j79_s0 x4_51))), (0, .ref h0), (1, .int (bI (m_X5_sorts_j13_s0 pu))), (2, .int (bI (m_X5_sorts_j27_s0 mi))), (3, .int (bI (m_X5_sorts_j41_s0 ms))), (4, .int (bI x4_51)), (5, .int (bI x5_51)), (6, .int (nI i)), (7, .int (rd i))]) hx hb dX5_sorts_83 hl (by decide) rfl (fun ls hl => ?_)
                refine lv_iload hx hb dX5_sorts_85 (lv_at hl 9 rfl) ?_
                refine lv_bipush (v := 66) hx hb dX5_sorts_87 (by decide) ?_
                have j_6 : ∀ (y0_j_6 : Int32), y0_j_6 = m_X5_sorts_j109_l9 rd i → ∀ (ls : Array Slot), lv_has ls 10 [(0, .ref h0), (1, .int (bI (m_X5_sorts_j13_s0 pu))), (2, .int (bI (m_X5_sorts_j27_s0 mi))), (3, .int (bI (m_X5_sorts_j41_s0 ms))), (4, .int (bI x4_51)), (5, .int (bI x5_51)), (6, .int (nI i)), (7, .int (rd i)), (8, .int (bI (m_X5_sorts_j79_s0 x4_51))), (9, .int y0_j_6)] → W p l e (headSpec wsX5_sorts ({ frames := 0, cells := 0, slots := 0, locals := 0 } : Room)).room s m (([.ref h0] : List Value).toArray) below meth c H locs 0 0 (MQ below (va_Qv (S := Unit) (fun _ => True) (wr_B (dC, dI) vwCl (fun u9 => [(h0, .inr (6, [.int th, .ref t1, .int (nI len), .int mo, .ref a4, .ref a5, .ref a6, .int (nI my), .int pu, .int mi, .int ms, .ref a11, .ref a12, .ref a13, .int la, .int (nI kp), .int (nI sh), .int mf, .ref a18, .ref a19, .ref a20, .ref a21, .ref a22, .ref a23])), (a4, .inl (cA, 10200, .inl rd)), (a6, .inl (cA, 10200, .inl (m_X5_sorts rd kd my pu mi ms)))]) [(cA, .int)] A) A) (([.ref h0] : List Value).toArray) s 0 0 A) (F0 m 109 ls []) := by
                  intro y0_j_6 ey0_j_6 ls hl
                  subst ey0_j_6
                  refine lv_iload hx hb dX5_sorts_109 (lv_at hl 7 rfl) ?_
                  refine lv_bipush (v := 44) hx hb dX5_sorts_111 (by decide) ?_
                  have j_7 : ∀ (y0_j_7 : Int32), y0_j_7 = m_X5_sorts_j119_l9 rd i → ∀ (ls : Array Slot), lv_has ls 10 [(0, .ref h0), (1, .int (bI (m_X5_sorts_j13_s0 pu))), (2, .int (bI (m_X5_sorts_j27_s0 mi))), (3, .int (bI (m_X5_sorts_j41_s0 ms))), (4, .int (bI x4_51)), (5, .int (bI x5_51)), (6, .int (nI i)), (7, .int (rd i)), (8, .int (bI (m_X5_sorts_j79_s0 x4_51))), (9, .int y0_j_7)] → W p l e (headSpec wsX5_sorts ({ frames := 0, cells := 0, slots := 0, locals := 0 } : Room)).room s m (([.ref h0] : List Value).toArray) below meth c H locs 0 0 (MQ below (va_Qv (S := Unit) (fun _ => True) (wr_B (dC, dI) vwCl (fun u9 => [(h0, .inr (6, [.int th, .ref t1, .int (nI len), .int mo, .ref a4, .ref a5, .ref a6, .int (nI my), .int pu, .int mi, .int ms, .ref a11, .ref a12, .ref a13, .int la, .int (nI kp), .int (nI sh), .int mf, .ref a18, .ref a19, .ref a20, .ref a21, .ref a22, .ref a23])), (a4, .inl (cA, 10200, .inl rd)), (a6, .inl (cA, 10200, .inl (m_X5_sorts rd kd my pu mi ms)))]) [(cA, .int)] A) A) (([.ref h0] : List Value).toArray) s 0 0 A) (F0 m 119 ls []) := by
                    intro y0_j_7 ey0_j_7 ls hl
                    subst ey0_j_7
                    refine lv_iload hx hb dX5_sorts_119 (lv_at hl 7 rfl) ?_
                    refine lv_bipush (v := 46) hx hb dX5_sorts_121 (by decide) ?_
                    have j_8 : ∀ (y0_j_8 : Int32), y0_j_8 = m_X5_sorts_j129_l9 rd i → ∀ (ls : Array Slot), lv_has ls 10 [(0, .ref h0), (1, .int (bI (m_X5_sorts_j13_s0 pu))), (2, .int (bI (m_X5_sorts_j27_s0 mi))), (3, .int (bI (m_X5_sorts_j41_s0 ms))), (4, .int (bI x4_51)), (5, .int (bI x5_51)), (6, .int (nI i)), (7, .int (rd i)), (8, .int (bI (m_X5_sorts_j79_s0 x4_51))), (9, .int y0_j_8)] → W p l e (headSpec wsX5_sorts ({ frames := 0, cells := 0, slots := 0, locals := 0 } : Room)).room s m (([.ref h0] : List Value).toArray) below meth c H locs 0 0 (MQ below (va_Qv (S := Unit) (fun _ => True) (wr_B (dC, dI) vwCl (fun u9 => [(h0, .inr (6, [.int th, .ref t1, .int (nI len), .int mo, .ref a4, .ref a5, .ref a6, .int (nI my), .int pu, .int mi, .int ms, .ref a11, .ref a12, .ref a13, .int la, .int (nI kp), .int (nI sh), .int mf, .ref a18, .ref a19, .ref a20, .ref a21, .ref a22, .ref a23])), (a4, .inl (cA, 10200, .inl rd)), (a6, .inl (cA, 10200, .inl (m_X5_sorts rd kd my pu mi ms)))]) [(cA, .int)] A) A) (([.ref h0] : List Value).toArray) s 0 0 A) (F0 m 129 ls []) := by
                      intro y0_j_8 ey0_j_8 ls hl
                      subst ey0_j_8
                      refine lv_iload hx hb dX5_sorts_129 (lv_at hl 7 rfl) ?_
                      refine lv_bipush (v := 43) hx hb dX5_sorts_131 (by decide) ?_
                      have j_9 : ∀ (y0_j_9 : Int32), y0_j_9 = m_X5_sorts_j160_l9 rd pu i x4_51 → ∀ (ls : Array Slot), lv_has ls 10 [(0, .ref h0), (1, .int (bI (m_X5_sorts_j13_s0 pu))), (2, .int (bI (m_X5_sorts_j27_s0 mi))), (3, .int (bI (m_X5_sorts_j41_s0 ms))), (4, .int (bI x4_51)), (5, .int (bI x5_51)), (6, .int (nI i)), (7, .int (rd i)), (8, .int (bI (m_X5_sorts_j79_s0 x4_51))), (9, .int y0_j_9)] → W p l e (headSpec wsX5_sorts ({ frames := 0, cells := 0, slots := 0, locals := 0 } : Room)).room s m (([.ref h0] : List Value).toArray) below meth c H locs 0 0 (MQ below (va_Qv (S := Unit) (fun _ => True) (wr_B (dC, dI) vwCl (fun u9 => [(h0, .inr (6, [.int th, .ref t1, .int (nI len), .int mo, .ref a4, .ref a5, .ref a6, .int (nI my), .int pu, .int mi, .int ms, .ref a11, .ref a12, .ref a13, .int la, .int (nI kp), .int (nI sh), .int mf, .ref a18, .ref a19, .ref a20, .ref a21, .ref a22, .ref a23])), (a4, .inl (cA, 10200, .inl rd)), (a6, .inl (cA, 10200, .inl (m_X5_sorts rd kd my pu mi ms)))]) [(cA, .int)] A) A) (([.ref h0] : List Value).toArray) s 0 0 A) (F0 m 160 ls []) := by
                        intro y0_j_9 ey0_j_9 ls hl
                        subst ey0_j_9
                        refine lv_iload hx hb dX5_sorts_160 (lv_at hl 7 rfl) ?_
                        refine lv_bipush (v := 45) hx hb dX5_sorts_162 (by decide) ?_
                        have j_10 : ∀ (y0_j_10 : Int32), y0_j_10 = m_X5_sorts_j191_l9 rd pu mi i x4_51 → ∀ (ls : Array Slot), lv_has ls 10 [(0, .ref h0), (1, .int (bI (m_X5_sorts_j13_s0 pu))), (2, .int (bI (m_X5_sorts_j27_s0 mi))), (3, .int (bI (m_X5_sorts_j41_s0 ms))), (4, .int (bI x4_51)), (5, .int (bI x5_51)), (6, .int (nI i)), (7, .int (rd i)), (8, .int (bI (m_X5_sorts_j79_s0 x4_51))), (9, .int y0_j_10)] → W p l e (headSpec wsX5_sorts ({ frames := 0, cells := 0, slots := 0, locals := 0 } : Room)).room s m (([.ref h0] : List Value).toArray) below meth c H locs 0 0 (MQ below (va_Qv (S := Unit) (fun _ => True) (wr_B (dC, dI) vwCl (fun u9 => [(h0, .inr (6, [.int th, .ref t1, .int (nI len), .int mo, .ref a4, .ref a5, .ref a6, .int (nI my), .int pu, .int mi, .int ms, .ref a11, .ref a12, .ref a13, .int la, .int (nI kp), .int (nI sh), .int mf, .ref a18, .ref a19, .ref a20, .ref a21, .ref a22, .ref a23])), (a4, .inl (cA, 10200, .inl rd)), (a6, .inl (cA, 10200, .inl (m_X5_sorts rd kd my pu mi ms)))]) [(cA, .int)] A) A) (([.ref h0] : List Value).toArray) s 0 0 A) (F0 m 191 ls []) := by
                          intro y0_j_10 ey0_j_10 ls hl
                          subst ey0_j_10
                          refine lv_iload hx hb dX5_sorts_191 (lv_at hl 7 rfl) ?_
                          refine lv_sipush (v := 200) hx hb dX5_sorts_193 (by decide) ?_
                          have j_11 : ∀ (y0_j_11 : Int32), y0_j_11 = m_X5_sorts_j210_l9 rd pu mi i x4_51 → ∀ (ls : Array Slot), lv_has ls 10 [(0, .ref h0), (1, .int (bI (m_X5_sorts_j13_s0 pu))), (2, .int (bI (m_X5_sorts_j27_s0 mi))), (3, .int (bI (m_X5_sorts_j41_s0 ms))), (4, .int (bI x4_51)), (5, .int (bI x5_51)), (6, .int (nI i)), (7, .int (rd i)), (8, .int (bI (m_X5_sorts_j79_s0 x4_51))), (9, .int y0_j_11)] → W p l e (headSpec wsX5_sorts ({ frames := 0, cells := 0, slots := 0, locals := 0 } : Room)).room s m (([.ref h0] : List Value).toArray) below meth c H locs 0 0 (MQ below (va_Qv (S := Unit) (fun _ => True) (wr_B (dC, dI) vwCl (fun u9 => [(h0, .inr (6, [.int th, .ref t1, .int (nI len), .int mo, .ref a4, .ref a5, .ref a6, .int (nI my), .int pu, .int mi, .int ms, .ref a11, .ref a12, .ref a13, .int la, .int (nI kp), .int (nI sh), .int mf, .ref a18, .ref a19, .ref a20, .ref a21, .ref a22, .ref a23])), (a4, .inl (cA, 10200, .inl rd)), (a6, .inl (cA, 10200, .inl (m_X5_sorts rd kd my pu mi ms)))]) [(cA, .int)] A) A) (([.ref h0] : List Value).toArray) s 0 0 A) (F0 m 210 ls []) := by
                            intro y0_j_11 ey0_j_11 ls hl
                            subst ey0_j_11
                            refine lv_iload hx hb dX5_sorts_210 (lv_at hl 7 rfl) ?_
                            refine lv_sipush (v := 202) hx hb dX5_sorts_212 (by decide) ?_
                            have j_12 : ∀ (y0_j_12 : Int32), y0_j_12 = m_X5_sorts_j233_l9 rd pu mi ms i x4_51 → ∀ (ls : Array Slot), lv_has ls 10 [(0, .ref h0), (1, .int (bI (m_X5_sorts_j13_s0 pu))), (2, .int (bI (m_X5_sorts_j27_s0 mi))), (3, .int (bI (m_X5_sorts_j41_s0 ms))), (4, .int (bI x4_51)), (5, .int (bI x5_51)), (6, .int (nI i)), (7, .int (rd i)), (8, .int (bI (m_X5_sorts_j79_s0 x4_51))), (9, .int y0_j_12)] → W p l e (headSpec wsX5_sorts ({ frames := 0, cells := 0, slots := 0, locals := 0 } : Room)).room s m (([.ref h0] : List Value).toArray) below meth c H locs 0 0 (MQ below (va_Qv (S := Unit) (fun _ => True) (wr_B (dC, dI) vwCl (fun u9 => [(h0, .inr (6, [.int th, .ref t1, .int (nI len), .int mo, .ref a4, .ref a5, .ref a6, .int (nI my), .int pu, .int mi, .int ms, .ref a11, .ref a12, .ref a13, .int la, .int (nI kp), .int (nI sh), .int mf, .ref a18, .ref a19, .ref a20, .ref a21, .ref a22, .ref a23])), (a4, .inl (cA, 10200, .inl rd)), (a6, .inl (cA, 10200, .inl (m_X5_sorts rd kd my pu mi ms)))]) [(cA, .int)] A) A) (([.ref h0] : List Value).toArray) s 0 0 A) (F0 m 233 ls []) := by
                              intro y0_j_12 ey0_j_12 ls hl
                              subst ey0_j_12
                              refine lv_iload hx hb dX5_sorts_233 (lv_at hl 7 rfl) ?_
                              refine lv_bipush (v := 90) hx hb dX5_sorts_235 (by decide) ?_
                              have j_13 : ∀ (y0_j_13 : Int32), y0_j_13 = m_X5_sorts_j254_l9 rd pu mi ms i x4_51 → ∀ (ls : Array Slot), lv_has ls 10 [(0, .ref h0), (1, .int (bI (m_X5_sorts_j13_s0 pu))), (2, .int (bI (m_X5_sorts_j27_s0 mi))), (3, .int (bI (m_X5_sorts_j41_s0 ms))), (4, .int (bI x4_51)), (5, .int (bI x5_51)), (6, .int (nI i)), (7, .int (rd i)), (8, .int (bI (m_X5_sorts_j79_s0 x4_51))), (9, .int y0_j_13)] → W p l e (headSpec wsX5_sorts ({ frames := 0, cells := 0, slots := 0, locals := 0 } : Room)).room s m (([.ref h0] : List Value).toArray) below meth c H locs 0 0 (MQ below (va_Qv (S := Unit) (fun _ => True) (wr_B (dC, dI) vwCl (fun u9 => [(h0, .inr (6, [.int th, .ref t1, .int (nI len), .int mo, .ref a4, .ref a5, .ref a6, .int (nI my), .int pu, .int mi, .int ms, .ref a11, .ref a12, .ref a13, .int la, .int (nI kp), .int (nI sh), .int mf, .ref a18, .ref a19, .ref a20, .ref a21, .ref a22, .ref a23])), (a4, .inl (cA, 10200, .inl rd)), (a6, .inl (cA, 10200, .inl (m_X5_sorts rd kd my pu mi ms)))]) [(cA, .int)] A) A) (([.ref h0] : List Value).toArray) s 0 0 A) (F0 m 254 ls []) := by
                                intro y0_j_13 ey0_j_13 ls hl
                                subst ey0_j_13
                                refine lv_iload hx hb dX5_sorts_254 (lv_at hl 7 rfl) ?_
                                refine lv_bipush (v := 57) hx hb dX5_sorts_256 (by decide) ?_
                                have j_14 : ∀ (y0_j_14 : Int32), y0_j_14 = m_X5_sorts_j265_l9 rd pu mi ms i x4_51 → ∀ (ls : Array Slot), lv_has ls 10 [(0, .ref h0), (1, .int (bI (m_X5_sorts_j13_s0 pu))), (2, .int (bI (m_X5_sorts_j27_s0 mi))), (3, .int (bI (m_X5_sorts_j41_s0 ms))), (4, .int (bI x4_51)), (5, .int (bI x5_51)), (6, .int (nI i)), (7, .int (rd i)), (8, .int (bI (m_X5_sorts_j79_s0 x4_51))), (9, .int y0_j_14)] → W p l e (headSpec wsX5_sorts ({ frames := 0, cells := 0, slots := 0, locals := 0 } : Room)).room s m (([.ref h0] : List Value).toArray) below meth c H locs 0 0 (MQ below (va_Qv (S := Unit) (fun _ => True) (wr_B (dC, dI) vwCl (fun u9 => [(h0, .inr (6, [.int th, .ref t1, .int (nI len), .int mo, .ref a4, .ref a5, .ref a6, .int (nI my), .int pu, .int mi, .int ms, .ref a11, .ref a12, .ref a13, .int la, .int (nI kp), .int (nI sh), .int mf, .ref a18, .ref a19, .ref a20, .ref a21, .ref a22, .ref a23])), (a4, .inl (cA, 10200, .inl rd)), (a6, .inl (cA, 10200, .inl (m_X5_sorts rd kd my pu mi ms)))]) [(cA, .int)] A) A) (([.ref h0] : List Value).toArray) s 0 0 A) (F0 m 265 ls []) := by
                                  intro y0_j_14 ey0_j_14 ls hl
                                  subst ey0_j_14
                                  refine lv_iload hx hb dX5_sorts_265 (lv_at hl 7 rfl) ?_
                                  refine lv_bipush (v := 65) hx hb dX5_sorts_267 (by decide) ?_
                                  have j_15 : ∀ (y0_j_15 : Int32), y0_j_15 = m_X5_sorts_j283_l9 rd pu mi ms i x4_51 → ∀ (ls : Array Slot), lv_has ls 10 [(0, .ref h0), (1, .int (bI (m_X5_sorts_j13_s0 pu))), (2, .int (bI (m_X5_sorts_j27_s0 mi))), (3, .int (bI (m_X5_sorts_j41_s0 ms))), (4, .int (bI x4_51)), (5, .int (bI x5_51)), (6, .int (nI i)), (7, .int (rd i)), (8, .int (bI (m_X5_sorts_j79_s0 x4_51))), (9, .int y0_j_15)] → W p l e (headSpec wsX5_sorts ({ frames := 0, cells := 0, slots := 0, locals := 0 } : Room)).room s m (([.ref h0] : List Value).toArray) below meth c H locs 0 0 (MQ below (va_Qv (S := Unit) (fun _ => True) (wr_B (dC, dI) vwCl (fun u9 => [(h0, .inr (6, [.int th, .ref t1, .int (nI len), .int mo, .ref a4, .ref a5, .ref a6, .int (nI my), .int pu, .int mi, .int ms, .ref a11, .ref a12, .ref a13, .int la, .int (nI kp), .int (nI sh), .int mf, .ref a18, .ref a19, .ref a20, .ref a21, .ref a22, .ref a23])), (a4, .inl (cA, 10200, .inl rd)), (a6, .inl (cA, 10200, .inl (m_X5_sorts rd kd my pu mi ms)))]) [(cA, .int)] A) A) (([.ref h0] : List Value).toArray) s 0 0 A) (F0 m 283 ls []) := by
                                    intro y0_j_15 ey0_j_15 ls hl
                                    subst ey0_j_15
                                    refine lv_iload hx hb dX5_sorts_283 (lv_at hl 7 rfl) ?_
                                    refine lv_bipush (v := 83) hx hb dX5_sorts_285 (by decide) ?_
                                    have j_16 : ∀ (y0_j_16 : Int32), y0_j_16 = m_X5_sorts_j294_l9 rd pu mi ms i x4_51 → ∀ (ls : Array Slot), lv_has ls 10 [(0, .ref h0), (1, .int (bI (m_X5_sorts_j13_s0 pu))), (2, .int (bI (m_X5_sorts_j27_s0 mi))), (3, .int (bI (m_X5_sorts_j41_s0 ms))), (4, .int (bI x4_51)), (5, .int (bI x5_51)), (6, .int (nI i)), (7, .int (rd i)), (8, .int (bI (m_X5_sorts_j79_s0 x4_51))), (9, .int y0_j_16)] → W p l e (headSpec wsX5_sorts ({ frames := 0, cells := 0, slots := 0, locals := 0 } : Room)).room s m (([.ref h0] : List Value).toArray) below meth c H locs 0 0 (MQ below (va_Qv (S := Unit) (fun _ => True) (wr_B (dC, dI) vwCl (fun u9 => [(h0, .inr (6, [.int th, .ref t1, .int (nI len), .int mo, .ref a4, .ref a5, .ref a6, .int (nI my), .int pu, .int mi, .int ms, .ref a11, .ref a12, .ref a13, .int la, .int (nI kp), .int (nI sh), .int mf, .ref a18, .ref a19, .ref a20, .ref a21, .ref a22, .ref a23])), (a4, .inl (cA, 10200, .inl rd)), (a6, .inl (cA, 10200, .inl (m_X5_sorts rd kd my pu mi ms)))]) [(cA, .int)] A) A) (([.ref h0] : List Value).toArray) s 0 0 A) (F0 m 294 ls []) := by
                                      intro y0_j_16 ey0_j_16 ls hl
                                      subst ey0_j_16
                                      refine lv_iload hx hb dX5_sorts_294 (lv_at hl 7 rfl) ?_
                                      refine lv_bipush (v := 86) hx hb dX5_sorts_296 (by decide) ?_
                                      have j_17 : ∀ (y0_j_17 : Int32), y0_j_17 = m_X5_sorts_j305_l9 rd pu mi ms i x4_51 → ∀ (ls : Array Slot), lv_has ls 10 [(0, .ref h0), (1, .int (bI (m_X5_sorts_j13_s0 pu))), (2, .int (bI (m_X5_sorts_j27_s0 mi))), (3, .int (bI (m_X5_sorts_j41_s0 ms))), (4, .int (bI x4_51)), (5, .int (bI x5_51)), (6, .int (nI i)), (7, .int (rd i)), (8, .int (bI (m_X5_sorts_j79_s0 x4_51))), (9, .int y0_j_17)] → W p l e (headSpec wsX5_sorts ({ frames := 0, cells := 0, slots := 0, locals := 0 } : Room)).room s m (([.ref h0] : List Value).toArray) below meth c H locs 0 0 (MQ below (va_Qv (S := Unit) (fun _ => True) (wr_B (dC, dI) vwCl (fun u9 => [(h0, .inr (6, [.int th, .ref t1, .int (nI len), .int mo, .ref a4, .ref a5, .ref a6, .int (nI my), .int pu, .int mi, .int ms, .ref a11, .ref a12, .ref a13, .int la, .int (nI kp), .int (nI sh), .int mf, .ref a18, .ref a19, .ref a20, .ref a21, .ref a22, .ref a23])), (a4, .inl (cA, 10200, .inl rd)), (a6, .inl (cA, 10200, .inl (m_X5_sorts rd kd my pu mi ms)))]) [(cA, .int)] A) A) (([.ref h0] : List Value).toArray) s 0 0 A) (F0 m 305 ls []) := by
                                        intro y0_j_17 ey0_j_17 ls hl
                                        subst ey0_j_17
                                        refine lv_iload hx hb dX5_sorts_305 (lv_at hl 7 rfl) ?_
                                        refine lv_bipush (v := 80) hx hb dX5_sorts_307 (by decide) ?_
                                        have j_18 : ∀ (y0_j_18 : Int32), y0_j_18 = m_X5_sorts_j326_l9 rd pu mi ms i x4_51 x5_51 → ∀ (ls : Array Slot), lv_has ls 10 [(0, .ref h0), (1, .int (bI (m_X5_sorts_j13_s0 pu))), (2, .int (bI (m_X5_sorts_j27_s0 mi))), (3, .int (bI (m_X5_sorts_j41_s0 ms))), (4, .int (bI x4_51)), (5, .int (bI x5_51)), (6, .int (nI i)), (7, .int (rd i)), (8, .int (bI (m_X5_sorts_j79_s0 x4_51))), (9, .int y0_j_18)] → W p l e (headSpec wsX5_sorts ({ frames := 0, cells := 0, slots := 0, locals := 0 } : Room)).room s m (([.ref h0] : List Value).toArray) below meth c H locs 0 0 (MQ below (va_Qv (S := Unit) (fun _ => True) (wr_B (dC, dI) vwCl (fun u9 => [(h0, .inr (6, [.int th, .ref t1, .int (nI len), .int mo, .ref a4, .ref a5, .ref a6, .int (nI my), .int pu, .int mi, .int ms, .ref a11, .ref a12, .ref a13, .int la, .int (nI kp), .int (nI sh), .int mf, .ref a18, .ref a19, .ref a20, .ref a21, .ref a22, .ref a23])), (a4, .inl (cA, 10200, .inl rd)), (a6, .inl (cA, 10200, .inl (m_X5_sorts rd kd my pu mi ms)))]) [(cA, .int)] A) A) (([.ref h0] : List Value).toArray) s 0 0 A) (F0 m 326 ls []) := by
                                          intro y0_j_18 ey0_j_18 ls hl
                                          subst ey0_j_18
                                          refine lv_aload_n hx hb dX5_sorts_326 rfl (lv_at hl 0 rfl) ?_
                                          refine va_get (D := (dC, dI)) (ci := 6) (v := .ref a6) (C := RX5) (T := TX5) (N := 24) hx hb hts (by decide +kernel) hown hK hP 0 rfl rfl 6 (by decide) (hts (.fieldLink RX5 23 "PictureRowsModel" "kind" "[I") (by decide +kernel)) (fun _ h9 => h9) rfl dX5_sorts_327 ?_
                                          refine lv_iload hx hb dX5_sorts_330 (lv_at hl 6 rfl) ?_
                                          refine lv_iload hx hb dX5_sorts_332 (lv_at hl 9 rfl) ?_
                                          refine wr_iast (x := m_X5_sorts_j326_l9 rd pu mi ms i x4_51 x5_51) hx hb hK hP hD hS 2 0 rfl rfl (i) (by omega) (by omega) dX5_sorts_334 (fun H locs hP hD hS => ?_)
                                          have hP : va_P (dC, dI) vwCl [(h0, .inr (6, [.int th, .ref t1, .int (nI len), .int mo, .ref a4, .ref a5, .ref a6, .int (nI my), .int pu, .int mi, .int ms, .ref a11, .ref a12, .ref a13, .int la, .int (nI kp), .int (nI sh), .int mf, .ref a18, .ref a19, .ref a20, .ref a21, .ref a22, .ref a23])), (a4, .inl (cA, 10200, .inl rd)), (a6, .inl (cA, 10200, .inl (upd kd_51 i (m_X5_sorts_j326_l9 rd pu mi ms i x4_51 x5_51))))] H := hP
                                          have hD : va_D A [(h0, .inr (6, [.int th, .ref t1, .int (nI len), .int mo, .ref a4, .ref a5, .ref a6, .int (nI my), .int pu, .int mi, .int ms, .ref a11, .ref a12, .ref a13, .int la, .int (nI kp), .int (nI sh), .int mf, .ref a18, .ref a19, .ref a20, .ref a21, .ref a22, .ref a23])), (a4, .inl (cA, 10200, .inl rd)), (a6, .inl (cA, 10200, .inl (upd kd_51 i (m_X5_sorts_j326_l9 rd pu mi ms i x4_51 x5_51))))] := hD
                                          refine lv_iload hx hb dX5_sorts_335 (lv_at hl 4 rfl) ?_
                                          have j_19 : ∀ (y0_j_19 : Bool), y0_j_19 = m_X5_sorts_j365_s0 rd pu mi ms i x4_51 x5_51 → ∀ (ls : Array Slot), lv_has ls 10 [(0, .ref h0), (1, .int (bI (m_X5_sorts_j13_s0 pu))), (2, .int (bI (m_X5_sorts_j27_s0 mi))), (3, .int (bI (m_X5_sorts_j41_s0 ms))), (4, .int (bI x4_51)), (5, .int (bI x5_51)), (6, .int (nI i)), (7, .int (rd i)), (8, .int (bI (m_X5_sorts_j79_s0 x4_51))), (9, .int (m_X5_sorts_j326_l9 rd pu mi ms i x4_51 x5_51))] → W p l e (headSpec wsX5_sorts ({ frames := 0, cells := 0, slots := 0, locals := 0 } : Room)).room s m (([.ref h0] : List Value).toArray) below meth c H locs 0 0 (MQ below (va_Qv (S := Unit) (fun _ => True) (wr_B (dC, dI) vwCl (fun u9 => [(h0, .inr (6, [.int th, .ref t1, .int (nI len), .int mo, .ref a4, .ref a5, .ref a6, .int (nI my), .int pu, .int mi, .int ms, .ref a11, .ref a12, .ref a13, .int la, .int (nI kp), .int (nI sh), .int mf, .ref a18, .ref a19, .ref a20, .ref a21, .ref a22, .ref a23])), (a4, .inl (cA, 10200, .inl rd)), (a6, .inl (cA, 10200, .inl (m_X5_sorts rd kd my pu mi ms)))]) [(cA, .int)] A) A) (([.ref h0] : List Value).toArray) s 0 0 A) (F0 m 365 ls [.int (bI y0_j_19)]) := by
                                            intro y0_j_19 ey0_j_19 ls hl
                                            subst ey0_j_19
                                            refine lv_istore (lv' := [(4, .int (bI (m_X5_sorts_j365_s0 rd pu mi ms i x4_51 x5_51))), (0, .ref h0), (1, .int (bI (m_X5_sorts_j13_s0 pu))), (2, .int (bI (m_X5_sorts_j27_s0 mi))), (3, .int (bI (m_X5_sorts_j41_s0 ms))), (5, .int (bI x5_51)), (6, .int (nI i)), (7, .int (rd i)), (8, .int (bI (m_X5_sorts_j79_s0 x4_51))), (9, .int (m_X5_sorts_j326_l9 rd pu mi ms i x4_51 x5_51))]) hx hb dX5_sorts_365 hl (by decide) rfl (fun ls hl => ?_)
                                            refine lv_iload hx hb dX5_sorts_367 (lv_at hl 5 rfl) ?_
                                            have j_20 : ∀ (y0_j_20 : Bool), y0_j_20 = m_X5_sorts_j403_s0 rd pu mi ms i x4_51 x5_51 → ∀ (ls : Array Slot), lv_has ls 10 [(0, .ref h0), (1, .int (bI (m_X5_sorts_j13_s0 pu))), (2, .int (bI (m_X5_sorts_j27_s0 mi))), (3, .int (bI (m_X5_sorts_j41_s0 ms))), (4, .int (bI (m_X5_sorts_j365_s0 rd pu mi ms i x4_51 x5_51))), (5, .int (bI x5_51)), (6, .int (nI i)), (7, .int (rd i)), (8, .int (bI (m_X5_sorts_j79_s0 x4_51))), (9, .int (m_X5_sorts_j326_l9 rd pu mi ms i x4_51 x5_51))] → W p l e (headSpec wsX5_sorts ({ frames := 0, cells := 0, slots := 0, locals := 0 } : Room)).room s m (([.ref h0] : List Value).toArray) below meth c H locs 0 0 (MQ below (va_Qv (S := Unit) (fun _ => True) (wr_B (dC, dI) vwCl (fun u9 => [(h0, .inr (6, [.int th, .ref t1, .int (nI len), .int mo, .ref a4, .ref a5, .ref a6, .int (nI my), .int pu, .int mi, .int ms, .ref a11, .ref a12, .ref a13, .int la, .int (nI kp), .int (nI sh), .int mf, .ref a18, .ref a19, .ref a20, .ref a21, .ref a22, .ref a23])), (a4, .inl (cA, 10200, .inl rd)), (a6, .inl (cA, 10200, .inl (m_X5_sorts rd kd my pu mi ms)))]) [(cA, .int)] A) A) (([.ref h0] : List Value).toArray) s 0 0 A) (F0 m 403 ls [.int (bI y0_j_20)]) := by
                                              intro y0_j_20 ey0_j_20 ls hl
                                              subst ey0_j_20
                                              refine lv_istore (lv' := [(5, .int (bI (m_X5_sorts_j403_s0 rd pu mi ms i x4_51 x5_51))), (0, .ref h0), (1, .int (bI (m_X5_sorts_j13_s0 pu))), (2, .int (bI (m_X5_sorts_j27_s0 mi))), (3, .int (bI (m_X5_sorts_j41_s0 ms))), (4, .int (bI (m_X5_sorts_j365_s0 rd pu mi ms i x4_51 x5_51))), (6, .int (nI i)), (7, .int (rd i)), (8, .int (bI (m_X5_sorts_j79_s0 x4_51))), (9, .int (m_X5_sorts_j326_l9 rd pu mi ms i x4_51 x5_51))]) hx hb dX5_sorts_403 hl (by decide) rfl (fun ls hl => ?_)
                                              refine lv_iinc (v := nI (i + 1)) (lv' := [(6, .int (nI (i + 1))), (5, .int (bI (m_X5_sorts_j403_s0 rd pu mi ms i x4_51 x5_51))), (0, .ref h0), (1, .int (bI (m_X5_sorts_j13_s0 pu))), (2, .int (bI (m_X5_sorts_j27_s0 mi))), (3, .int (bI (m_X5_sorts_j41_s0 ms))), (4, .int (bI (m_X5_sorts_j365_s0 rd pu mi ms i x4_51 x5_51))), (7, .int (rd i)), (8, .int (bI (m_X5_sorts_j79_s0 x4_51))), (9, .int (m_X5_sorts_j326_l9 rd pu mi ms i x4_51 x5_51))]) hx hb dX5_sorts_405 hl (k := 6) rfl (nI_add (i) 1) (by decide) rfl (fun ls hl => ?_)
                                              refine lv_goto (tgt := 51) hx hb dX5_sorts_408 (by decide) ?_
                                              exact ih51 (i + 1) (m_X5_sorts_j365_s0 rd pu mi ms i x4_51 x5_51) (m_X5_sorts_j403_s0 rd pu mi ms i x4_51 x5_51) (upd kd_51 i (m_X5_sorts_j326_l9 rd pu mi ms i x4_51 x5_51)) (by omega) (by omega)  (hm51.trans (by simp only [m_X5_sorts_L51, if_neg c_4])) H locs hP hD hS ls (lv_sub hl [2, 3, 4, 5, 6, 1, 0] rfl)
                                            refine lv_if_eq (tgt := 402) hx hb dX5_sorts_369 (by decide) (fun c_21 => ?_) (fun c_21 => ?_)
                                            · skip
                                              have c_21 := bI_0 c_21
                                              refine lv_iconst (v := 0) hx hb dX5_sorts_402 (by decide) ?_
                                              exact j_20 false (by simp only [m_X5_sorts_j403_s0, if_pos c_21]) ls (lv_sub hl [1, 2, 3, 4, 0, 5, 6, 7, 8, 9] rfl)
                                            · skip
                                              have c_21 := bI_n0 c_21
                                              refine lv_iload hx hb dX5_sorts_372 (lv_at hl 9 rfl) ?_
                                              refine lv_iconst (v := 3) hx hb dX5_sorts_374 (by decide) ?_
                                              refine lv_icmp_eq (tgt := 398) hx hb dX5_sorts_375 (by decide) (fun c_22 => ?_) (fun c_22 => ?_)
                                              · skip
                                                refine lv_iconst (v := 1) hx hb dX5_sorts_398 (by decide) ?_
                                                refine lv_goto (tgt := 403) hx hb dX5_sorts_399 (by decide) ?_
                                                exact j_20 true (by simp only [m_X5_sorts_j403_s0, if_neg c_21, if_pos c_22]) ls (lv_sub hl [1, 2, 3, 4, 0, 5, 6, 7, 8, 9] rfl)
                                              · skip
                                                refine lv_iload hx hb dX5_sorts_378 (lv_at hl 9 rfl) ?_
                                                refine lv_iconst (v := 5) hx hb dX5_sorts_380 (by decide) ?_
                                                refine lv_icmp_eq (tgt := 398) hx hb dX5_sorts_381 (by decide) (fun c_23 => ?_) (fun c_23 => ?_)
                                                · skip
                                                  refine lv_iconst (v := 1) hx hb dX5_sorts_398 (by decide) ?_
                                                  refine lv_goto (tgt := 403) hx hb dX5_sorts_399 (by decide) ?_
                                                  exact j_20 true (by simp only [m_X5_sorts_j403_s0, if_neg c_21, if_neg c_22, if_pos c_23]) ls (lv_sub hl [1, 2, 3, 4, 0, 5, 6, 7, 8, 9] rfl)
                                                · skip
                                                  refine lv_iload hx hb dX5_sorts_384 (lv_at hl 9 rfl) ?_
                                                  refine lv_bipush (v := 13) hx hb dX5_sorts_386 (by decide) ?_
                                                  refine lv_icmp_le (tgt := 402) hx hb dX5_sorts_388 (by decide) (fun c_24 => ?_) (fun c_24 => ?_)
                                                  · skip
                                                    refine lv_iconst (v := 0) hx hb dX5_sorts_402 (by decide) ?_
                                                    exact j_20 false (by simp only [m_X5_sorts_j403_s0, if_neg c_21, if_neg c_22, if_neg c_23, if_pos c_24]) ls (lv_sub hl [1, 2, 3, 4, 0, 5, 6, 7, 8, 9] rfl)
                                                  · skip
                                                    refine lv_iload hx hb dX5_sorts_391 (lv_at hl 9 rfl) ?_
                                                    refine lv_bipush (v := 17) hx hb dX5_sorts_393 (by decide) ?_
                                                    refine lv_icmp_ge (tgt := 402) hx hb dX5_sorts_395 (by decide) (fun c_25 => ?_) (fun c_25 => ?_)
                                                    · skip
                                                      refine lv_iconst (v := 0) hx hb dX5_sorts_402 (by decide) ?_
                                                      exact j_20 false (by simp only [m_X5_sorts_j403_s0, if_neg c_21, if_neg c_22, if_neg c_23, if_neg c_24, if_pos c_25]) ls (lv_sub hl [1, 2, 3, 4, 0, 5, 6, 7, 8, 9] rfl)
                                                    · skip
                                                      refine lv_iconst (v := 1) hx hb dX5_sorts_398 (by decide) ?_
                                                      refine lv_goto (tgt := 403) hx hb dX5_sorts_399 (by decide) ?_
                                                      exact j_20 true (by simp only [m_X5_sorts_j403_s0, if_neg c_21, if_neg c_22, if_neg c_23, if_neg c_24, if_neg c_25]) ls (lv_sub hl [1, 2, 3, 4, 0, 5, 6, 7, 8, 9] rfl)
                                          refine lv_if_ne (tgt := 360) hx hb dX5_sorts_337 (by decide) (fun c_26 => ?_) (fun c_26 => ?_)
                                          · skip
                                            have c_26 := bI_n0 c_26
                                            refine lv_iconst (v := 1) hx hb dX5_sorts_360 (by decide) ?_
                                            refine lv_goto (tgt := 365) hx hb dX5_sorts_361 (by decide) ?_
                                            exact j_19 true (by simp only [m_X5_sorts_j365_s0, if_neg c_26]) ls (lv_sub hl [0, 1, 2, 3, 4, 5, 6, 7, 8, 9] rfl)
                                          · skip
                                            have c_26 := bI_0 c_26
                                            refine lv_iload hx hb dX5_sorts_340 (lv_at hl 9 rfl) ?_
                                            refine lv_iconst (v := 2) hx hb dX5_sorts_342 (by decide) ?_
                                            refine lv_icmp_eq (tgt := 360) hx hb dX5_sorts_343 (by decide) (fun c_27 => ?_) (fun c_27 => ?_)
                                            · skip
                                              refine lv_iconst (v := 1) hx hb dX5_sorts_360 (by decide) ?_
                                              refine lv_goto (tgt := 365) hx hb dX5_sorts_361 (by decide) ?_
                                              exact j_19 true (by simp only [m_X5_sorts_j365_s0, if_pos c_26, if_pos c_27]) ls (lv_sub hl [0, 1, 2, 3, 4, 5, 6, 7, 8, 9] rfl)
                                            · skip
                                              refine lv_iload hx hb dX5_sorts_346 (lv_at hl 9 rfl) ?_
                                              refine lv_bipush (v := 15) hx hb dX5_sorts_348 (by decide) ?_
                                              refine lv_icmp_eq (tgt := 360) hx hb dX5_sorts_350 (by decide) (fun c_28 => ?_) (fun c_28 => ?_)
                                              · skip
                                                refine lv_iconst (v := 1) hx hb dX5_sorts_360 (by decide) ?_
                                                refine lv_goto (tgt := 365) hx hb dX5_sorts_361 (by decide) ?_
                                                exact j_19 true (by simp only [m_X5_sorts_j365_s0, if_pos c_26, if_neg c_27, if_pos c_28]) ls (lv_sub hl [0, 1, 2, 3, 4, 5, 6, 7, 8, 9] rfl)
                                              · skip
                                                refine lv_iload hx hb dX5_sorts_353 (lv_at hl 9 rfl) ?_
                                                refine lv_bipush (v := 16) hx hb dX5_sorts_355 (by decide) ?_
                                                refine lv_icmp_ne (tgt := 364) hx hb dX5_sorts_357 (by decide) (fun c_29 => ?_) (fun c_29 => ?_)
                                                · skip
                                                  refine lv_iconst (v := 0) hx hb dX5_sorts_364 (by decide) ?_
                                                  exact j_19 false (by simp only [m_X5_sorts_j365_s0, if_pos c_26, if_neg c_27, if_neg c_28, if_neg c_29]) ls (lv_sub hl [0, 1, 2, 3, 4, 5, 6, 7, 8, 9] rfl)
                                                · skip
                                                  refine lv_iconst (v := 1) hx hb dX5_sorts_360 (by decide) ?_
                                                  refine lv_goto (tgt := 365) hx hb dX5_sorts_361 (by decide) ?_
                                                  exact j_19 true (by simp only [m_X5_sorts_j365_s0, if_pos c_26, if_neg c_27, if_neg c_28, if_pos c_29]) ls (lv_sub hl [0, 1, 2, 3, 4, 5, 6, 7, 8, 9] rfl)
                                        refine lv_icmp_ne (tgt := 326) hx hb dX5_sorts_309 (by decide) (fun c_30 => ?_) (fun c_30 => ?_)
                                        · skip
                                          exact j_18 (m_X5_sorts_j305_l9 rd pu mi ms i x4_51) (by simp only [m_X5_sorts_j326_l9, if_neg c_30]) ls (lv_sub hl [0, 1, 2, 3, 4, 5, 6, 7, 8, 9] rfl)
                                        · skip
                                          refine lv_iload hx hb dX5_sorts_312 (lv_at hl 5 rfl) ?_
                                          have j_31 : ∀ (y0_j_31 : Int32), y0_j_31 = m_X5_sorts_j324_s0 x5_51 → ∀ (ls : Array Slot), lv_has ls 10 [(0, .ref h0), (1, .int (bI (m_X5_sorts_j13_s0 pu))), (2, .int (bI (m_X5_sorts_j27_s0 mi))), (3, .int (bI (m_X5_sorts_j41_s0 ms))), (4, .int (bI x4_51)), (5, .int (bI x5_51)), (6, .int (nI i)), (7, .int (rd i)), (8, .int (bI (m_X5_sorts_j79_s0 x4_51))), (9, .int (m_X5_sorts_j305_l9 rd pu mi ms i x4_51))] → W p l e (headSpec wsX5_sorts ({ frames := 0, cells := 0, slots := 0, locals := 0 } : Room)).room s m (([.ref h0] : List Value).toArray) below meth c H locs 0 0 (MQ below (va_Qv (S := Unit) (fun _ => True) (wr_B (dC, dI) vwCl (fun u9 => [(h0, .inr (6, [.int th, .ref t1, .int (nI len), .int mo, .ref a4, .ref a5, .ref a6, .int (nI my), .int pu, .int mi, .int ms, .ref a11, .ref a12, .ref a13, .int la, .int (nI kp), .int (nI sh), .int mf, .ref a18, .ref a19, .ref a20, .ref a21, .ref a22, .ref a23])), (a4, .inl (cA, 10200, .inl rd)), (a6, .inl (cA, 10200, .inl (m_X5_sorts rd kd my pu mi ms)))]) [(cA, .int)] A) A) (([.ref h0] : List Value).toArray) s 0 0 A) (F0 m 324 ls [.int y0_j_31]) := by
                                            intro y0_j_31 ey0_j_31 ls hl
                                            subst ey0_j_31
                                            refine lv_istore (lv' := [(9, .int (m_X5_sorts_j324_s0 x5_51)), (0, .ref h0), (1, .int (bI (m_X5_sorts_j13_s0 pu))), (2, .int (bI (m_X5_sorts_j27_s0 mi))), (3, .int (bI (m_X5_sorts_j41_s0 ms))), (4, .int (bI x4_51)), (5, .int (bI x5_51)), (6, .int (nI i)), (7, .int (rd i)), (8, .int (bI (m_X5_sorts_j79_s0 x4_51)))]) hx hb dX5_sorts_324 hl (by decide) rfl (fun ls hl => ?_)
                                            exact j_18 (m_X5_sorts_j324_s0 x5_51) (by simp only [m_X5_sorts_j326_l9, m_X5_sorts_j324_s0, if_pos c_30]) ls (lv_sub hl [1, 2, 3, 4, 5, 6, 7, 8, 9, 0] rfl)
                                          refine lv_if_eq (tgt := 322) hx hb dX5_sorts_314 (by decide) (fun c_32 => ?_) (fun c_32 => ?_)
                                          · skip
                                            have c_32 := bI_0 c_32
                                            refine lv_bipush (v := 17) hx hb dX5_sorts_322 (by decide) ?_
                                            exact j_31 17 (by simp only [m_X5_sorts_j324_s0, if_pos c_32]) ls (lv_sub hl [0, 1, 2, 3, 4, 5, 6, 7, 8, 9] rfl)
                                          · skip
                                            have c_32 := bI_n0 c_32
                                            refine lv_bipush (v := 16) hx hb dX5_sorts_317 (by decide) ?_
                                            refine lv_goto (tgt := 324) hx hb dX5_sorts_319 (by decide) ?_
                                            exact j_31 16 (by simp only [m_X5_sorts_j324_s0, if_neg c_32]) ls (lv_sub hl [0, 1, 2, 3, 4, 5, 6, 7, 8, 9] rfl)
                                      refine lv_icmp_ne (tgt := 305) hx hb dX5_sorts_298 (by decide) (fun c_33 => ?_) (fun c_33 => ?_)
                                      · skip
                                        exact j_17 (m_X5_sorts_j294_l9 rd pu mi ms i x4_51) (by simp only [m_X5_sorts_j305_l9, if_neg c_33]) ls (lv_sub hl [0, 1, 2, 3, 4, 5, 6, 7, 8, 9] rfl)
                                      · skip
                                        refine lv_bipush (v := 15) hx hb dX5_sorts_301 (by decide) ?_
                                        refine lv_istore (lv' := [(9, .int 15), (0, .ref h0), (1, .int (bI (m_X5_sorts_j13_s0 pu))), (2, .int (bI (m_X5_sorts_j27_s0 mi))), (3, .int (bI (m_X5_sorts_j41_s0 ms))), (4, .int (bI x4_51)), (5, .int (bI x5_51)), (6, .int (nI i)), (7, .int (rd i)), (8, .int (bI (m_X5_sorts_j79_s0 x4_51)))]) hx hb dX5_sorts_303 hl (by decide) rfl (fun ls hl => ?_)
                                        exact j_17 15 (by simp only [m_X5_sorts_j305_l9, if_pos c_33]) ls (lv_sub hl [1, 2, 3, 4, 5, 6, 7, 8, 9, 0] rfl)
                                    refine lv_icmp_ne (tgt := 294) hx hb dX5_sorts_287 (by decide) (fun c_34 => ?_) (fun c_34 => ?_)
                                    · skip
                                      exact j_16 (m_X5_sorts_j283_l9 rd pu mi ms i x4_51) (by simp only [m_X5_sorts_j294_l9, if_neg c_34]) ls (lv_sub hl [0, 1, 2, 3, 4, 5, 6, 7, 8, 9] rfl)
                                    · skip
                                      refine lv_bipush (v := 14) hx hb dX5_sorts_290 (by decide) ?_
                                      refine lv_istore (lv' := [(9, .int 14), (0, .ref h0), (1, .int (bI (m_X5_sorts_j13_s0 pu))), (2, .int (bI (m_X5_sorts_j27_s0 mi))), (3, .int (bI (m_X5_sorts_j41_s0 ms))), (4, .int (bI x4_51)), (5, .int (bI x5_51)), (6, .int (nI i)), (7, .int (rd i)), (8, .int (bI (m_X5_sorts_j79_s0 x4_51)))]) hx hb dX5_sorts_292 hl (by decide) rfl (fun ls hl => ?_)
                                      exact j_16 14 (by simp only [m_X5_sorts_j294_l9, if_pos c_34]) ls (lv_sub hl [1, 2, 3, 4, 5, 6, 7, 8, 9, 0] rfl)
                                  refine lv_icmp_eq (tgt := 279) hx hb dX5_sorts_269 (by decide) (fun c_35 => ?_) (fun c_35 => ?_)
                                  · skip
                                    refine lv_bipush (v := 13) hx hb dX5_sorts_279 (by decide) ?_
                                    refine lv_istore (lv' := [(9, .int 13), (0, .ref h0), (1, .int (bI (m_X5_sorts_j13_s0 pu))), (2, .int (bI (m_X5_sorts_j27_s0 mi))), (3, .int (bI (m_X5_sorts_j41_s0 ms))), (4, .int (bI x4_51)), (5, .int (bI x5_51)), (6, .int (nI i)), (7, .int (rd i)), (8, .int (bI (m_X5_sorts_j79_s0 x4_51)))]) hx hb dX5_sorts_281 hl (by decide) rfl (fun ls hl => ?_)
                                    exact j_15 13 (by simp only [m_X5_sorts_j283_l9, if_pos c_35]) ls (lv_sub hl [1, 2, 3, 4, 5, 6, 7, 8, 9, 0] rfl)
                                  · skip
                                    refine lv_iload hx hb dX5_sorts_272 (lv_at hl 7 rfl) ?_
                                    refine lv_bipush (v := 88) hx hb dX5_sorts_274 (by decide) ?_
                                    refine lv_icmp_ne (tgt := 283) hx hb dX5_sorts_276 (by decide) (fun c_36 => ?_) (fun c_36 => ?_)
                                    · skip
                                      exact j_15 (m_X5_sorts_j265_l9 rd pu mi ms i x4_51) (by simp only [m_X5_sorts_j283_l9, if_neg c_35, if_neg c_36]) ls (lv_sub hl [0, 1, 2, 3, 4, 5, 6, 7, 8, 9] rfl)
                                    · skip
                                      refine lv_bipush (v := 13) hx hb dX5_sorts_279 (by decide) ?_
                                      refine lv_istore (lv' := [(9, .int 13), (0, .ref h0), (1, .int (bI (m_X5_sorts_j13_s0 pu))), (2, .int (bI (m_X5_sorts_j27_s0 mi))), (3, .int (bI (m_X5_sorts_j41_s0 ms))), (4, .int (bI x4_51)), (5, .int (bI x5_51)), (6, .int (nI i)), (7, .int (rd i)), (8, .int (bI (m_X5_sorts_j79_s0 x4_51)))]) hx hb dX5_sorts_281 hl (by decide) rfl (fun ls hl => ?_)
                                      exact j_15 13 (by simp only [m_X5_sorts_j283_l9, if_neg c_35, if_pos c_36]) ls (lv_sub hl [1, 2, 3, 4, 5, 6, 7, 8, 9, 0] rfl)
                                refine lv_icmp_ne (tgt := 265) hx hb dX5_sorts_258 (by decide) (fun c_37 => ?_) (fun c_37 => ?_)
                                · skip
                                  exact j_14 (m_X5_sorts_j254_l9 rd pu mi ms i x4_51) (by simp only [m_X5_sorts_j265_l9, if_neg c_37]) ls (lv_sub hl [0, 1, 2, 3, 4, 5, 6, 7, 8, 9] rfl)
                                · skip
                                  refine lv_bipush (v := 12) hx hb dX5_sorts_261 (by decide) ?_
                                  refine lv_istore (lv' := [(9, .int 12), (0, .ref h0), (1, .int (bI (m_X5_sorts_j13_s0 pu))), (2, .int (bI (m_X5_sorts_j27_s0 mi))), (3, .int (bI (m_X5_sorts_j41_s0 ms))), (4, .int (bI x4_51)), (5, .int (bI x5_51)), (6, .int (nI i)), (7, .int (rd i)), (8, .int (bI (m_X5_sorts_j79_s0 x4_51)))]) hx hb dX5_sorts_263 hl (by decide) rfl (fun ls hl => ?_)
                                  exact j_14 12 (by simp only [m_X5_sorts_j265_l9, if_pos c_37]) ls (lv_sub hl [1, 2, 3, 4, 5, 6, 7, 8, 9, 0] rfl)
                              refine lv_icmp_eq (tgt := 247) hx hb dX5_sorts_237 (by decide) (fun c_38 => ?_) (fun c_38 => ?_)
                              · skip
                                refine lv_bipush (v := 6) hx hb dX5_sorts_247 (by decide) ?_
                                refine lv_iload hx hb dX5_sorts_249 (lv_at hl 8 rfl) ?_
                                refine lv_iadd hx hb dX5_sorts_251 ?_
                                refine lv_istore (lv' := [(9, .int (6 + (bI (m_X5_sorts_j79_s0 x4_51)))), (0, .ref h0), (1, .int (bI (m_X5_sorts_j13_s0 pu))), (2, .int (bI (m_X5_sorts_j27_s0 mi))), (3, .int (bI (m_X5_sorts_j41_s0 ms))), (4, .int (bI x4_51)), (5, .int (bI x5_51)), (6, .int (nI i)), (7, .int (rd i)), (8, .int (bI (m_X5_sorts_j79_s0 x4_51)))]) hx hb dX5_sorts_252 hl (by decide) rfl (fun ls hl => ?_)
                                exact j_13 (6 + (bI (m_X5_sorts_j79_s0 x4_51))) (by simp only [m_X5_sorts_j254_l9, if_pos c_38]) ls (lv_sub hl [1, 2, 3, 4, 5, 6, 7, 8, 9, 0] rfl)
                              · skip
                                refine lv_iload hx hb dX5_sorts_240 (lv_at hl 7 rfl) ?_
                                refine lv_bipush (v := 42) hx hb dX5_sorts_242 (by decide) ?_
                                refine lv_icmp_ne (tgt := 254) hx hb dX5_sorts_244 (by decide) (fun c_39 => ?_) (fun c_39 => ?_)
                                · skip
                                  exact j_13 (m_X5_sorts_j233_l9 rd pu mi ms i x4_51) (by simp only [m_X5_sorts_j254_l9, if_neg c_38, if_neg c_39]) ls (lv_sub hl [0, 1, 2, 3, 4, 5, 6, 7, 8, 9] rfl)
                                · skip
                                  refine lv_bipush (v := 6) hx hb dX5_sorts_247 (by decide) ?_
                                  refine lv_iload hx hb dX5_sorts_249 (lv_at hl 8 rfl) ?_
                                  refine lv_iadd hx hb dX5_sorts_251 ?_
                                  refine lv_istore (lv' := [(9, .int (6 + (bI (m_X5_sorts_j79_s0 x4_51)))), (0, .ref h0), (1, .int (bI (m_X5_sorts_j13_s0 pu))), (2, .int (bI (m_X5_sorts_j27_s0 mi))), (3, .int (bI (m_X5_sorts_j41_s0 ms))), (4, .int (bI x4_51)), (5, .int (bI x5_51)), (6, .int (nI i)), (7, .int (rd i)), (8, .int (bI (m_X5_sorts_j79_s0 x4_51)))]) hx hb dX5_sorts_252 hl (by decide) rfl (fun ls hl => ?_)
                                  exact j_13 (6 + (bI (m_X5_sorts_j79_s0 x4_51))) (by simp only [m_X5_sorts_j254_l9, if_neg c_38, if_pos c_39]) ls (lv_sub hl [1, 2, 3, 4, 5, 6, 7, 8, 9, 0] rfl)
                            refine lv_icmp_ne (tgt := 233) hx hb dX5_sorts_215 (by decide) (fun c_40 => ?_) (fun c_40 => ?_)
                            · skip
                              exact j_12 (m_X5_sorts_j210_l9 rd pu mi i x4_51) (by simp only [m_X5_sorts_j233_l9, if_neg c_40]) ls (lv_sub hl [0, 1, 2, 3, 4, 5, 6, 7, 8, 9] rfl)
                            · skip
                              refine lv_iload_n hx hb dX5_sorts_218 rfl (lv_at hl 3 rfl) ?_
                              have j_41 : ∀ (y0_j_41 : Int32), y0_j_41 = m_X5_sorts_j231_s0 ms x4_51 → ∀ (ls : Array Slot), lv_has ls 10 [(0, .ref h0), (1, .int (bI (m_X5_sorts_j13_s0 pu))), (2, .int (bI (m_X5_sorts_j27_s0 mi))), (3, .int (bI (m_X5_sorts_j41_s0 ms))), (4, .int (bI x4_51)), (5, .int (bI x5_51)), (6, .int (nI i)), (7, .int (rd i)), (8, .int (bI (m_X5_sorts_j79_s0 x4_51))), (9, .int (m_X5_sorts_j210_l9 rd pu mi i x4_51))] → W p l e (headSpec wsX5_sorts ({ frames := 0, cells := 0, slots := 0, locals := 0 } : Room)).room s m (([.ref h0] : List Value).toArray) below meth c H locs 0 0 (MQ below (va_Qv (S := Unit) (fun _ => True) (wr_B (dC, dI) vwCl (fun u9 => [(h0, .inr (6, [.int th, .ref t1, .int (nI len), .int mo, .ref a4, .ref a5, .ref a6, .int (nI my), .int pu, .int mi, .int ms, .ref a11, .ref a12, .ref a13, .int la, .int (nI kp), .int (nI sh), .int mf, .ref a18, .ref a19, .ref a20, .ref a21, .ref a22, .ref a23])), (a4, .inl (cA, 10200, .inl rd)), (a6, .inl (cA, 10200, .inl (m_X5_sorts rd kd my pu mi ms)))]) [(cA, .int)] A) A) (([.ref h0] : List Value).toArray) s 0 0 A) (F0 m 231 ls [.int y0_j_41]) := by
                                intro y0_j_41 ey0_j_41 ls hl
                                subst ey0_j_41
                                refine lv_istore (lv' := [(9, .int (m_X5_sorts_j231_s0 ms x4_51)), (0, .ref h0), (1, .int (bI (m_X5_sorts_j13_s0 pu))), (2, .int (bI (m_X5_sorts_j27_s0 mi))), (3, .int (bI (m_X5_sorts_j41_s0 ms))), (4, .int (bI x4_51)), (5, .int (bI x5_51)), (6, .int (nI i)), (7, .int (rd i)), (8, .int (bI (m_X5_sorts_j79_s0 x4_51)))]) hx hb dX5_sorts_231 hl (by decide) rfl (fun ls hl => ?_)
                                exact j_12 (m_X5_sorts_j231_s0 ms x4_51) (by simp only [m_X5_sorts_j233_l9, m_X5_sorts_j231_s0, if_pos c_40]) ls (lv_sub hl [1, 2, 3, 4, 5, 6, 7, 8, 9, 0] rfl)
                              refine lv_if_eq (tgt := 230) hx hb dX5_sorts_219 (by decide) (fun c_42 => ?_) (fun c_42 => ?_)
                              · skip
                                have c_42 := bI_0 c_42
                                refine lv_iconst (v := 5) hx hb dX5_sorts_230 (by decide) ?_
                                exact j_41 5 (by simp only [m_X5_sorts_j231_s0, if_pos c_42]) ls (lv_sub hl [0, 1, 2, 3, 4, 5, 6, 7, 8, 9] rfl)
                              · skip
                                have c_42 := bI_n0 c_42
                                refine lv_bipush (v := 10) hx hb dX5_sorts_222 (by decide) ?_
                                refine lv_iload hx hb dX5_sorts_224 (lv_at hl 8 rfl) ?_
                                refine lv_iadd hx hb dX5_sorts_226 ?_
                                refine lv_goto (tgt := 231) hx hb dX5_sorts_227 (by decide) ?_
                                exact j_41 (10 + (bI (m_X5_sorts_j79_s0 x4_51))) (by simp only [m_X5_sorts_j231_s0, if_neg c_42]) ls (lv_sub hl [0, 1, 2, 3, 4, 5, 6, 7, 8, 9] rfl)
                          refine lv_icmp_eq (tgt := 207) hx hb dX5_sorts_196 (by decide) (fun c_43 => ?_) (fun c_43 => ?_)
                          · skip
                            refine lv_iconst (v := 4) hx hb dX5_sorts_207 (by decide) ?_
                            refine lv_istore (lv' := [(9, .int 4), (0, .ref h0), (1, .int (bI (m_X5_sorts_j13_s0 pu))), (2, .int (bI (m_X5_sorts_j27_s0 mi))), (3, .int (bI (m_X5_sorts_j41_s0 ms))), (4, .int (bI x4_51)), (5, .int (bI x5_51)), (6, .int (nI i)), (7, .int (rd i)), (8, .int (bI (m_X5_sorts_j79_s0 x4_51)))]) hx hb dX5_sorts_208 hl (by decide) rfl (fun ls hl => ?_)
                            exact j_11 4 (by simp only [m_X5_sorts_j210_l9, if_pos c_43]) ls (lv_sub hl [1, 2, 3, 4, 5, 6, 7, 8, 9, 0] rfl)
                          · skip
                            refine lv_iload hx hb dX5_sorts_199 (lv_at hl 7 rfl) ?_
                            refine lv_sipush (v := 201) hx hb dX5_sorts_201 (by decide) ?_
                            refine lv_icmp_ne (tgt := 210) hx hb dX5_sorts_204 (by decide) (fun c_44 => ?_) (fun c_44 => ?_)
                            · skip
                              exact j_11 (m_X5_sorts_j191_l9 rd pu mi i x4_51) (by simp only [m_X5_sorts_j210_l9, if_neg c_43, if_neg c_44]) ls (lv_sub hl [0, 1, 2, 3, 4, 5, 6, 7, 8, 9] rfl)
                            · skip
                              refine lv_iconst (v := 4) hx hb dX5_sorts_207 (by decide) ?_
                              refine lv_istore (lv' := [(9, .int 4), (0, .ref h0), (1, .int (bI (m_X5_sorts_j13_s0 pu))), (2, .int (bI (m_X5_sorts_j27_s0 mi))), (3, .int (bI (m_X5_sorts_j41_s0 ms))), (4, .int (bI x4_51)), (5, .int (bI x5_51)), (6, .int (nI i)), (7, .int (rd i)), (8, .int (bI (m_X5_sorts_j79_s0 x4_51)))]) hx hb dX5_sorts_208 hl (by decide) rfl (fun ls hl => ?_)
                              exact j_11 4 (by simp only [m_X5_sorts_j210_l9, if_neg c_43, if_pos c_44]) ls (lv_sub hl [1, 2, 3, 4, 5, 6, 7, 8, 9, 0] rfl)
                        refine lv_icmp_ne (tgt := 191) hx hb dX5_sorts_164 (by decide) (fun c_45 => ?_) (fun c_45 => ?_)
                        · skip
                          exact j_10 (m_X5_sorts_j160_l9 rd pu i x4_51) (by simp only [m_X5_sorts_j191_l9, if_neg c_45]) ls (lv_sub hl [0, 1, 2, 3, 4, 5, 6, 7, 8, 9] rfl)
                        · skip
                          refine lv_iload_n hx hb dX5_sorts_167 rfl (lv_at hl 2 rfl) ?_
                          have j_46 : ∀ (y0_j_46 : Int32), y0_j_46 = m_X5_sorts_j189_s0 mi i x4_51 → ∀ (ls : Array Slot), lv_has ls 10 [(0, .ref h0), (1, .int (bI (m_X5_sorts_j13_s0 pu))), (2, .int (bI (m_X5_sorts_j27_s0 mi))), (3, .int (bI (m_X5_sorts_j41_s0 ms))), (4, .int (bI x4_51)), (5, .int (bI x5_51)), (6, .int (nI i)), (7, .int (rd i)), (8, .int (bI (m_X5_sorts_j79_s0 x4_51))), (9, .int (m_X5_sorts_j160_l9 rd pu i x4_51))] → W p l e (headSpec wsX5_sorts ({ frames := 0, cells := 0, slots := 0, locals := 0 } : Room)).room s m (([.ref h0] : List Value).toArray) below meth c H locs 0 0 (MQ below (va_Qv (S := Unit) (fun _ => True) (wr_B (dC, dI) vwCl (fun u9 => [(h0, .inr (6, [.int th, .ref t1, .int (nI len), .int mo, .ref a4, .ref a5, .ref a6, .int (nI my), .int pu, .int mi, .int ms, .ref a11, .ref a12, .ref a13, .int la, .int (nI kp), .int (nI sh), .int mf, .ref a18, .ref a19, .ref a20, .ref a21, .ref a22, .ref a23])), (a4, .inl (cA, 10200, .inl rd)), (a6, .inl (cA, 10200, .inl (m_X5_sorts rd kd my pu mi ms)))]) [(cA, .int)] A) A) (([.ref h0] : List Value).toArray) s 0 0 A) (F0 m 189 ls [.int y0_j_46]) := by
                            intro y0_j_46 ey0_j_46 ls hl
                            subst ey0_j_46
                            refine lv_istore (lv' := [(9, .int (m_X5_sorts_j189_s0 mi i x4_51)), (0, .ref h0), (1, .int (bI (m_X5_sorts_j13_s0 pu))), (2, .int (bI (m_X5_sorts_j27_s0 mi))), (3, .int (bI (m_X5_sorts_j41_s0 ms))), (4, .int (bI x4_51)), (5, .int (bI x5_51)), (6, .int (nI i)), (7, .int (rd i)), (8, .int (bI (m_X5_sorts_j79_s0 x4_51)))]) hx hb dX5_sorts_189 hl (by decide) rfl (fun ls hl => ?_)
                            exact j_10 (m_X5_sorts_j189_s0 mi i x4_51) (by simp only [m_X5_sorts_j191_l9, m_X5_sorts_j189_s0, if_pos c_45]) ls (lv_sub hl [1, 2, 3, 4, 5, 6, 7, 8, 9, 0] rfl)
                          refine lv_if_eq (tgt := 179) hx hb dX5_sorts_168 (by decide) (fun c_47 => ?_) (fun c_47 => ?_)
                          · skip
                            have c_47 := bI_0 c_47
                            refine lv_iload hx hb dX5_sorts_179 (lv_at hl 6 rfl) ?_
                            refine lv_if_ne (tgt := 188) hx hb dX5_sorts_181 (by decide) (fun c_48 => ?_) (fun c_48 => ?_)
                            · skip
                              have c_48 : ¬ i = 0 := (fun q_ => c_48 ((nI_eq (a := i) (b := 0) (by omega) (by omega)).mpr q_))
                              refine lv_iconst (v := 4) hx hb dX5_sorts_188 (by decide) ?_
                              exact j_46 4 (by simp only [m_X5_sorts_j189_s0, if_pos c_47, if_neg c_48]) ls (lv_sub hl [0, 1, 2, 3, 4, 5, 6, 7, 8, 9] rfl)
                            · skip
                              have c_48 : i = 0 := (nI_eq (a := i) (b := 0) (by omega) (by omega)).mp c_48
                              refine lv_iconst (v := 3) hx hb dX5_sorts_184 (by decide) ?_
                              refine lv_goto (tgt := 189) hx hb dX5_sorts_185 (by decide) ?_
                              exact j_46 3 (by simp only [m_X5_sorts_j189_s0, if_pos c_47, if_pos c_48]) ls (lv_sub hl [0, 1, 2, 3, 4, 5, 6, 7, 8, 9] rfl)
                          · skip
                            have c_47 := bI_n0 c_47
                            refine lv_bipush (v := 8) hx hb dX5_sorts_171 (by decide) ?_
                            refine lv_iload hx hb dX5_sorts_173 (lv_at hl 8 rfl) ?_
                            refine lv_iadd hx hb dX5_sorts_175 ?_
                            refine lv_goto (tgt := 189) hx hb dX5_sorts_176 (by decide) ?_
                            exact j_46 (8 + (bI (m_X5_sorts_j79_s0 x4_51))) (by simp only [m_X5_sorts_j189_s0, if_neg c_47]) ls (lv_sub hl [0, 1, 2, 3, 4, 5, 6, 7, 8, 9] rfl)
                      refine lv_icmp_ne (tgt := 160) hx hb dX5_sorts_133 (by decide) (fun c_49 => ?_) (fun c_49 => ?_)
                      · skip
                        exact j_9 (m_X5_sorts_j129_l9 rd i) (by simp only [m_X5_sorts_j160_l9, if_neg c_49]) ls (lv_sub hl [0, 1, 2, 3, 4, 5, 6, 7, 8, 9] rfl)
                      · skip
                        refine lv_iload_n hx hb dX5_sorts_136 rfl (lv_at hl 1 rfl) ?_
                        have j_50 : ∀ (y0_j_50 : Int32), y0_j_50 = m_X5_sorts_j158_s0 pu i x4_51 → ∀ (ls : Array Slot), lv_has ls 10 [(0, .ref h0), (1, .int (bI (m_X5_sorts_j13_s0 pu))), (2, .int (bI (m_X5_sorts_j27_s0 mi))), (3, .int (bI (m_X5_sorts_j41_s0 ms))), (4, .int (bI x4_51)), (5, .int (bI x5_51)), (6, .int (nI i)), (7, .int (rd i)), (8, .int (bI (m_X5_sorts_j79_s0 x4_51))), (9, .int (m_X5_sorts_j129_l9 rd i))] → W p l e (headSpec wsX5_sorts ({ frames := 0, cells := 0, slots := 0, locals := 0 } : Room)).room s m (([.ref h0] : List Value).toArray) below meth c H locs 0 0 (MQ below (va_Qv (S := Unit) (fun _ => True) (wr_B (dC, dI) vwCl (fun u9 => [(h0, .inr (6, [.int th, .ref t1, .int (nI len), .int mo, .ref a4, .ref a5, .ref a6, .int (nI my), .int pu, .int mi, .int ms, .ref a11, .ref a12, .ref a13, .int la, .int (nI kp), .int (nI sh), .int mf, .ref a18, .ref a19, .ref a20, .ref a21, .ref a22, .ref a23])), (a4, .inl (cA, 10200, .inl rd)), (a6, .inl (cA, 10200, .inl (m_X5_sorts rd kd my pu mi ms)))]) [(cA, .int)] A) A) (([.ref h0] : List Value).toArray) s 0 0 A) (F0 m 158 ls [.int y0_j_50]) := by
                          intro y0_j_50 ey0_j_50 ls hl
                          subst ey0_j_50
                          refine lv_istore (lv' := [(9, .int (m_X5_sorts_j158_s0 pu i x4_51)), (0, .ref h0), (1, .int (bI (m_X5_sorts_j13_s0 pu))), (2, .int (bI (m_X5_sorts_j27_s0 mi))), (3, .int (bI (m_X5_sorts_j41_s0 ms))), (4, .int (bI x4_51)), (5, .int (bI x5_51)), (6, .int (nI i)), (7, .int (rd i)), (8, .int (bI (m_X5_sorts_j79_s0 x4_51)))]) hx hb dX5_sorts_158 hl (by decide) rfl (fun ls hl => ?_)
                          exact j_9 (m_X5_sorts_j158_s0 pu i x4_51) (by simp only [m_X5_sorts_j160_l9, m_X5_sorts_j158_s0, if_pos c_49]) ls (lv_sub hl [1, 2, 3, 4, 5, 6, 7, 8, 9, 0] rfl)
                        refine lv_if_eq (tgt := 148) hx hb dX5_sorts_137 (by decide) (fun c_51 => ?_) (fun c_51 => ?_)
                        · skip
                          have c_51 := bI_0 c_51
                          refine lv_iload hx hb dX5_sorts_148 (lv_at hl 6 rfl) ?_
                          refine lv_if_ne (tgt := 157) hx hb dX5_sorts_150 (by decide) (fun c_52 => ?_) (fun c_52 => ?_)
                          · skip
                            have c_52 : ¬ i = 0 := (fun q_ => c_52 ((nI_eq (a := i) (b := 0) (by omega) (by omega)).mpr q_))
                            refine lv_iconst (v := 4) hx hb dX5_sorts_157 (by decide) ?_
                            exact j_50 4 (by simp only [m_X5_sorts_j158_s0, if_pos c_51, if_neg c_52]) ls (lv_sub hl [0, 1, 2, 3, 4, 5, 6, 7, 8, 9] rfl)
                          · skip
                            have c_52 : i = 0 := (nI_eq (a := i) (b := 0) (by omega) (by omega)).mp c_52
                            refine lv_iconst (v := 3) hx hb dX5_sorts_153 (by decide) ?_
                            refine lv_goto (tgt := 158) hx hb dX5_sorts_154 (by decide) ?_
                            exact j_50 3 (by simp only [m_X5_sorts_j158_s0, if_pos c_51, if_pos c_52]) ls (lv_sub hl [0, 1, 2, 3, 4, 5, 6, 7, 8, 9] rfl)
                        · skip
                          have c_51 := bI_n0 c_51
                          refine lv_bipush (v := 8) hx hb dX5_sorts_140 (by decide) ?_
                          refine lv_iload hx hb dX5_sorts_142 (lv_at hl 8 rfl) ?_
                          refine lv_iadd hx hb dX5_sorts_144 ?_
                          refine lv_goto (tgt := 158) hx hb dX5_sorts_145 (by decide) ?_
                          exact j_50 (8 + (bI (m_X5_sorts_j79_s0 x4_51))) (by simp only [m_X5_sorts_j158_s0, if_neg c_51]) ls (lv_sub hl [0, 1, 2, 3, 4, 5, 6, 7, 8, 9] rfl)
                    refine lv_icmp_ne (tgt := 129) hx hb dX5_sorts_123 (by decide) (fun c_53 => ?_) (fun c_53 => ?_)
                    · skip
                      exact j_8 (m_X5_sorts_j119_l9 rd i) (by simp only [m_X5_sorts_j129_l9, if_neg c_53]) ls (lv_sub hl [0, 1, 2, 3, 4, 5, 6, 7, 8, 9] rfl)
                    · skip
                      refine lv_iconst (v := 2) hx hb dX5_sorts_126 (by decide) ?_
                      refine lv_istore (lv' := [(9, .int 2), (0, .ref h0), (1, .int (bI (m_X5_sorts_j13_s0 pu))), (2, .int (bI (m_X5_sorts_j27_s0 mi))), (3, .int (bI (m_X5_sorts_j41_s0 ms))), (4, .int (bI x4_51)), (5, .int (bI x5_51)), (6, .int (nI i)), (7, .int (rd i)), (8, .int (bI (m_X5_sorts_j79_s0 x4_51)))]) hx hb dX5_sorts_127 hl (by decide) rfl (fun ls hl => ?_)
                      exact j_8 2 (by simp only [m_X5_sorts_j129_l9, if_pos c_53]) ls (lv_sub hl [1, 2, 3, 4, 5, 6, 7, 8, 9, 0] rfl)
                  refine lv_icmp_ne (tgt := 119) hx hb dX5_sorts_113 (by decide) (fun c_54 => ?_) (fun c_54 => ?_)
                  · skip
                    exact j_7 (m_X5_sorts_j109_l9 rd i) (by simp only [m_X5_sorts_j119_l9, if_neg c_54]) ls (lv_sub hl [0, 1, 2, 3, 4, 5, 6, 7, 8, 9] rfl)
                  · skip
                    refine lv_iconst (v := 1) hx hb dX5_sorts_116 (by decide) ?_
                    refine lv_istore (lv' := [(9, .int 1), (0, .ref h0), (1, .int (bI (m_X5_sorts_j13_s0 pu))), (2, .int (bI (m_X5_sorts_j27_s0 mi))), (3, .int (bI (m_X5_sorts_j41_s0 ms))), (4, .int (bI x4_51)), (5, .int (bI x5_51)), (6, .int (nI i)), (7, .int (rd i)), (8, .int (bI (m_X5_sorts_j79_s0 x4_51)))]) hx hb dX5_sorts_117 hl (by decide) rfl (fun ls hl => ?_)
                    exact j_7 1 (by simp only [m_X5_sorts_j119_l9, if_pos c_54]) ls (lv_sub hl [1, 2, 3, 4, 5, 6, 7, 8, 9, 0] rfl)
                refine lv_icmp_eq (tgt := 106) hx hb dX5_sorts_89 (by decide) (fun c_55 => ?_) (fun c_55 => ?_)
                · skip
                  refine lv_iconst (v := 0) hx hb dX5_sorts_106 (by decide) ?_
                  refine lv_istore (lv' := [(9, .int 0), (8, .int (bI (m_X5_sorts_j79_s0 x4_51))), (0, .ref h0), (1, .int (bI (m_X5_sorts_j13_s0 pu))), (2, .int (bI (m_X5_sorts_j27_s0 mi))), (3, .int (bI (m_X5_sorts_j41_s0 ms))), (4, .int (bI x4_51)), (5, .int (bI x5_51)), (6, .int (nI i)), (7, .int (rd i))]) hx hb dX5_sorts_107 hl (by decide) rfl (fun ls hl => ?_)
                  exact j_6 0 (by simp only [m_X5_sorts_j109_l9, if_pos c_55]) ls (lv_sub hl [2, 3, 4, 5, 6, 7, 8, 9, 1, 0] rfl)
                · skip
                  refine lv_iload hx hb dX5_sorts_92 (lv_at hl 9 rfl) ?_
                  refine lv_bipush (v := 48) hx hb dX5_sorts_94 (by decide) ?_
                  refine lv_icmp_eq (tgt := 106) hx hb dX5_sorts_96 (by decide) (fun c_56 => ?_) (fun c_56 => ?_)
                  · skip
                    refine lv_iconst (v := 0) hx hb dX5_sorts_106 (by decide) ?_
                    refine lv_istore (lv' := [(9, .int 0), (8, .int (bI (m_X5_sorts_j79_s0 x4_51))), (0, .ref h0), (1, .int (bI (m_X5_sorts_j13_s0 pu))), (2, .int (bI (m_X5_sorts_j27_s0 mi))), (3, .int (bI (m_X5_sorts_j41_s0 ms))), (4, .int (bI x4_51)), (5, .int (bI x5_51)), (6, .int (nI i)), (7, .int (rd i))]) hx hb dX5_sorts_107 hl (by decide) rfl (fun ls hl => ?_)
                    exact j_6 0 (by simp only [m_X5_sorts_j109_l9, if_neg c_55, if_pos c_56]) ls (lv_sub hl [2, 3, 4, 5, 6, 7, 8, 9, 1, 0] rfl)
                  · skip
                    refine lv_iload hx hb dX5_sorts_99 (lv_at hl 9 rfl) ?_
                    refine lv_bipush (v := 47) hx hb dX5_sorts_101 (by decide) ?_
                    refine lv_icmp_ne (tgt := 109) hx hb dX5_sorts_103 (by decide) (fun c_57 => ?_) (fun c_57 => ?_)
                    · skip
                      exact j_6 18 (by simp only [m_X5_sorts_j109_l9, if_neg c_55, if_neg c_56, if_neg c_57]) ls (lv_sub hl [2, 3, 4, 5, 6, 7, 8, 9, 1, 0] rfl)
                    · skip
                      refine lv_iconst (v := 0) hx hb dX5_sorts_106 (by decide) ?_
                      refine lv_istore (lv' := [(9, .int 0), (8, .int (bI (m_X5_sorts_j79_s0 x4_51))), (0, .ref h0), (1, .int (bI (m_X5_sorts_j13_s0 pu))), (2, .int (bI (m_X5_sorts_j27_s0 mi))), (3, .int (bI (m_X5_sorts_j41_s0 ms))), (4, .int (bI x4_51)), (5, .int (bI x5_51)), (6, .int (nI i)), (7, .int (rd i))]) hx hb dX5_sorts_107 hl (by decide) rfl (fun ls hl => ?_)
                      exact j_6 0 (by simp only [m_X5_sorts_j109_l9, if_neg c_55, if_neg c_56, if_pos c_57]) ls (lv_sub hl [2, 3, 4, 5, 6, 7, 8, 9, 1, 0] rfl)
              refine lv_if_eq (tgt := 78) hx hb dX5_sorts_71 (by decide) (fun c_58 => ?_) (fun c_58 => ?_)
              · skip
                have c_58 := bI_0 c_58
                refine lv_iconst (v := 0) hx hb dX5_sorts_78 (by decide) ?_
                exact j_5 false (by simp only [m_X5_sorts_j79_s0, if_pos c_58]) ls (lv_sub hl [1, 2, 3, 4, 5, 6, 7, 0] rfl)
              · skip
                have c_58 := bI_n0 c_58
                refine lv_iconst (v := 1) hx hb dX5_sorts_74 (by decide) ?_
                refine lv_goto (tgt := 79) hx hb dX5_sorts_75 (by decide) ?_
                exact j_5 true (by simp only [m_X5_sorts_j79_s0, if_neg c_58]) ls (lv_sub hl [1, 2, 3, 4, 5, 6, 7, 0] rfl)
        exact lp_51 (my + 1) (0) false true kd (by omega) (by omega)  (show m_X5_sorts rd kd my pu mi ms = m_X5_sorts_L51 rd my pu mi ms (my + 1) 0 false true kd from by simp only [m_X5_sorts]) s.heap [] hP hD hS ls (lv_sub hl [4, 5, 6, 3, 2, 1, 0] rfl)
      refine lv_icmp_le (tgt := 40) hx hb dX5_sorts_33 (by decide) (fun c_59 => ?_) (fun c_59 => ?_)
      · skip
        refine lv_iconst (v := 0) hx hb dX5_sorts_40 (by decide) ?_
        exact j_3 false (by simp only [m_X5_sorts_j41_s0, if_pos c_59]) ls (lv_sub hl [1, 2, 0] rfl)
      · skip
        refine lv_iconst (v := 1) hx hb dX5_sorts_36 (by decide) ?_
        refine lv_goto (tgt := 41) hx hb dX5_sorts_37 (by decide) ?_
        exact j_3 true (by simp only [m_X5_sorts_j41_s0, if_neg c_59]) ls (lv_sub hl [1, 2, 0] rfl)
    refine lv_icmp_le (tgt := 26) hx hb dX5_sorts_19 (by decide) (fun c_60 => ?_) (fun c_60 => ?_)
    · skip
      refine lv_iconst (v := 0) hx hb dX5_sorts_26 (by decide) ?_
      exact j_2 false (by simp only [m_X5_sorts_j27_s0, if_pos c_60]) ls (lv_sub hl [1, 0] rfl)
    · skip
      refine lv_iconst (v := 1) hx hb dX5_sorts_22 (by decide) ?_
      refine lv_goto (tgt := 27) hx hb dX5_sorts_23 (by decide) ?_
      exact j_2 true (by simp only [m_X5_sorts_j27_s0, if_neg c_60]) ls (lv_sub hl [1, 0] rfl)
  refine lv_icmp_le (tgt := 12) hx hb dX5_sorts_5 (by decide) (fun c_61 => ?_) (fun c_61 => ?_)
  · skip
    refine lv_iconst (v := 0) hx hb dX5_sorts_12 (by decide) ?_
    exact j_1 false (by simp only [m_X5_sorts_j13_s0, if_pos c_61]) ls (lv_sub hl [0] rfl)
  · skip
    refine lv_iconst (v := 1) hx hb dX5_sorts_8 (by decide) ?_
    refine lv_goto (tgt := 13) hx hb dX5_sorts_9 (by decide) ?_
    exact j_1 true (by simp only [m_X5_sorts_j13_s0, if_neg c_61]) ls (lv_sub hl [0] rfl)
def m_X5_keep_L15 (rd : Nat → Int32) (kd : Nat → Int32) (zs : Nat → Nat) (my : Nat) (kp : Nat) : Nat → Nat → (Nat → Int32) → (Nat → Int32) → (Nat → Int32) × (Nat → Int32) × (Nat → Nat) × Nat
  | 0, _, _, _ => (fun _ => 0, fun _ => 0, fun _ => 0, 0)
  | k15 + 1, i, rw_15, rk_15 => if my ≤ i then ((rw_15, rk_15, (va_up zs kp my), kp + 1)) else (m_X5_keep_L15 rd kd zs my kp k15 (i + 1) (upd rw_15 ((10200 * kp) + i) (rd i)) (upd rk_15 ((10200 * kp) + i) (kd i)))
def m_X5_keep (rd : Nat → Int32) (kd : Nat → Int32) (rw : Nat → Int32) (rk : Nat → Int32) (zs : Nat → Nat) (my : Nat) (kp : Nat) : (Nat → Int32) × (Nat → Int32) × (Nat → Nat) × Nat := m_X5_keep_L15 rd kd zs my kp (my + 1) 0 rw rk
set_option maxHeartbeats 4000000 in
set_option maxRecDepth 100000 in
theorem c_X5_keep (l : Launch) (dC : Nat → ClassId) (dI : Nat → Nat → Nat) (h0 : Nat) (th : Int32) (t1 : Nat) (len : Nat) (mo : Int32) (a4 : Nat) (a5 : Nat) (a6 : Nat) (pu : Int32) (mi : Int32) (ms : Int32) (a11 : Nat) (a12 : Nat) (a13 : Nat) (la : Int32) (sh : Nat) (mf : Int32) (a18 : Nat) (a19 : Nat) (a20 : Nat) (a21 : Nat) (a22 : Nat) (a23 : Nat) (cA : ClassId) (rd : Nat → Int32) (kd : Nat → Int32) (rw : Nat → Int32) (rk : Nat → Int32) (zs : Nat → Nat) (my : Nat) (kp : Nat) (zz : Nat) (hmy : my ≤ 10200) (hkp : kp < 40) : Met l yX5_keep wsX5_keep ({ frames := 0, cells := 0, slots := 0, locals := 0 } : Room) (va_Pc [.ref h0] (wr_P (dC, dI) vwCl [(h0, .inr (6, [.int th, .ref t1, .int (nI len), .int mo, .ref a4, .ref a5, .ref a6, .int (nI my), .int pu, .int mi, .int ms, .ref a11, .ref a12, .ref a13, .int la, .int (nI kp), .int (nI sh), .int mf, .ref a18, .ref a19, .ref a20, .ref a21, .ref a22, .ref a23])), (a4, .inl (cA, 10200, .inl rd)), (a6, .inl (cA, 10200, .inl kd)), (a18, .inl (cA, 408000, .inl rw)), (a19, .inl (cA, 408000, .inl rk)), (a20, .inl (cA, 40, .inl (nuF zs)))] [(cA, .int)] zz)) (va_Qv (S := Unit) (fun _ => True) (wr_B (dC, dI) vwCl (fun u9 => [(h0, .inr (6, [.int th, .ref t1, .int (nI len), .int mo, .ref a4, .ref a5, .ref a6, .int (nI my), .int pu, .int mi, .int ms, .ref a11, .ref a12, .ref a13, .int la, .int (nI ((m_X5_keep rd kd rw rk zs my kp).2.2.2)), .int (nI sh), .int mf, .ref a18, .ref a19, .ref a20, .ref a21, .ref a22, .ref a23])), (a4, .inl (cA, 10200, .inl rd)), (a6, .inl (cA, 10200, .inl kd)), (a18, .inl (cA, 408000, .inl ((m_X5_keep rd kd rw rk zs my kp).1))), (a19, .inl (cA, 408000, .inl ((m_X5_keep rd kd rw rk zs my kp).2.1))), (a20, .inl (cA, 40, .inl (nuF ((m_X5_keep rd kd rw rk zs my kp).2.2.1))))]) [(cA, .int)] (va_A [(h0, .inr (6, [.int th, .ref t1, .int (nI len), .int mo, .ref a4, .ref a5, .ref a6, .int (nI my), .int pu, .int mi, .int ms, .ref a11, .ref a12, .ref a13, .int la, .int (nI kp), .int (nI sh), .int mf, .ref a18, .ref a19, .ref a20, .ref a21, .ref a22, .ref a23])), (a4, .inl (cA, 10200, .inl rd)), (a6, .inl (cA, 10200, .inl kd)), (a18, .inl (cA, 408000, .inl rw)), (a19, .inl (cA, 408000, .inl rk)), (a20, .inl (cA, 40, .inl (nuF zs)))] zz)) (va_A [(h0, .inr (6, [.int th, .ref t1, .int (nI len), .int mo, .ref a4, .ref a5, .ref a6, .int (nI my), .int pu, .int mi, .int ms, .ref a11, .ref a12, .ref a13, .int la, .int (nI kp), .int (nI sh), .int mf, .ref a18, .ref a19, .ref a20, .ref a21, .ref a22, .ref a23])), (a4, .inl (cA, 10200, .inl rd)), (a6, .inl (cA, 10200, .inl kd)), (a18, .inl (cA, 408000, .inl rw)), (a19, .inl (cA, 408000, .inl rk)), (a20, .inl (cA, 40, .inl (nuF zs)))] zz)) 0 0 (va_A [(h0, .inr (6, [.int th, .ref t1, .int (nI len), .int mo, .ref a4, .ref a5, .ref a6, .int (nI my), .int pu, .int mi, .int ms, .ref a11, .ref a12, .ref a13, .int la, .int (nI kp), .int (nI sh), .int mf, .ref a18, .ref a19, .ref a20, .ref a21, .ref a22, .ref a23])), (a4, .inl (cA, 10200, .inl rd)), (a6, .inl (cA, 10200, .inl kd)), (a18, .inl (cA, 408000, .inl rw)), (a19, .inl (cA, 408000, .inl rk)), (a20, .inl (cA, 40, .inl (nuF zs)))] zz) := by
  refine Met.ofW (cc := cX5_keep) (maxL := 2) (ret := none) (by decide) rfl ?_
  intro p e s m args below meth c s₁ B hml hv
  obtain ⟨rfl, hsz0, hE, hP, hK, hD0⟩ := hv
  have hx := B.exec
  have hb := B.bytes
  have hr := B.returns
  have hts := atoms_spec (ws := wsX5_keep) B.pre
  have hown : s.vm.findClass RX5 = some m.cls := findClass_of_methodNamed B.named
  have hlocks := B.notSynchronized
  subst hsz0
  have hD := hD0.self (sz := s.heap.size)
  generalize hAe : va_A [(h0, .inr (6, [.int th, .ref t1, .int (nI len), .int mo, .ref a4, .ref a5, .ref a6, .int (nI my), .int pu, .int mi, .int ms, .ref a11, .ref a12, .ref a13, .int la, .int (nI kp), .int (nI sh), .int mf, .ref a18, .ref a19, .ref a20, .ref a21, .ref a22, .ref a23])), (a4, .inl (cA, 10200, .inl rd)), (a6, .inl (cA, 10200, .inl kd)), (a18, .inl (cA, 408000, .inl rw)), (a19, .inl (cA, 408000, .inl rk)), (a20, .inl (cA, 40, .inl (nuF zs)))] s.heap.size = A at hD hE ⊢
  have hA : ∀ q : Nat, s.heap.size ≤ q → A q := fun q h => by rw [← hAe]; exact Or.inr h
  have hS : va_S A s.heap s.heap [] := va_S.rf
  have hP : va_P (dC, dI) vwCl [(h0, .inr (6, [.int th, .ref t1, .int (nI len), .int mo, .ref a4, .ref a5, .ref a6, .int (nI my), .int pu, .int mi, .int ms, .ref a11, .ref a12, .ref a13, .int la, .int (nI kp), .int (nI sh), .int mf, .ref a18, .ref a19, .ref a20, .ref a21, .ref a22, .ref a23])), (a4, .inl (cA, 10200, .inl rd)), (a6, .inl (cA, 10200, .inl kd)), (a18, .inl (cA, 408000, .inl rw)), (a19, .inl (cA, 408000, .inl rk)), (a20, .inl (cA, 40, .inl (nuF zs)))] s.heap := hP
  have hl := lv_entry ([.ref h0]) (n := 2) (Nat.le_of_ble_eq_true rfl)
  rw [lg_entry_eq]
  generalize (lg_sl ([.ref h0]) ++ List.replicate (2 - (lg_sl ([.ref h0])).length) Slot.unset).toArray = ls at hl ⊢
  have hl : lv_has ls 2 [(0, .ref h0)] := hl
  refine lv_aload_n hx hb dX5_keep_0 rfl (lv_at hl 0 rfl) ?_
  refine va_get (D := (dC, dI)) (ci := 6) (v := .ref a20) (C := RX5) (T := TX5) (N := 24) hx hb hts (by decide +kernel) hown hK hP 0 rfl rfl 20 (by decide) (hts (.fieldLink RX5 45 "PictureRowsModel" "sizes" "[I") (by decide +kernel)) (fun _ h9 => h9) rfl dX5_keep_1 ?_
  refine lv_aload_n hx hb dX5_keep_4 rfl (lv_at hl 0 rfl) ?_
  refine va_get (D := (dC, dI)) (ci := 6) (v := .int (nI kp)) (C := RX5) (T := TX5) (N := 24) hx hb hts (by decide +kernel) hown hK hP 0 rfl rfl 15 (by decide) (hts (.fieldLink RX5 136 "PictureRowsModel" "kept" "I") (by decide +kernel)) (fun _ h9 => h9) rfl dX5_keep_5 ?_
  refine lv_aload_n hx hb dX5_keep_8 rfl (lv_at hl 0 rfl) ?_
  refine va_get (D := (dC, dI)) (ci := 6) (v := .int (nI my)) (C := RX5) (T := TX5) (N := 24) hx hb hts (by decide +kernel) hown hK hP 0 rfl rfl 7 (by decide) (hts (.fieldLink RX5 85 "PictureRowsModel" "many" "I") (by decide +kernel)) (fun _ h9 => h9) rfl dX5_keep_9 ?_
  refine wr_iast (x := nI my) hx hb hK hP hD hS 5 0 rfl rfl (kp) (by omega) (by omega) dX5_keep_12 (fun H locs hP hD hS => ?_)
  rw [nuF_upd] at hP hD
  have hP : va_P (dC, dI) vwCl [(h0, .inr (6, [.int th, .ref t1, .int (nI len), .int mo, .ref a4, .ref a5, .ref a6, .int (nI my), .int pu, .int mi, .int ms, .ref a11, .ref a12, .ref a13, .int la, .int (nI kp), .int (nI sh), .int mf, .ref a18, .ref a19, .ref a20, .ref a21, .ref a22, .ref a23])), (a4, .inl (cA, 10200, .inl rd)), (a6, .inl (cA, 10200, .inl kd)), (a18, .inl (cA, 408000, .inl rw)), (a19, .inl (cA, 408000, .inl rk)), (a20, .inl (cA, 40, .inl (nuF (va_up zs kp my))))] H := hP
  have hD : va_D A [(h0, .inr (6, [.int th, .ref t1, .int (nI len), .int mo, .ref a4, .ref a5, .ref a6, .int (nI my), .int pu, .int mi, .int ms, .ref a11, .ref a12, .ref a13, .int la, .int (nI kp), .int (nI sh), .int mf, .ref a18, .ref a19, .ref a20, .ref a21, .ref a22, .ref a23])), (a4, .inl (cA, 10200, .inl rd)), (a6, .inl (cA, 10200, .inl kd)), (a18, .inl (cA, 408000, .inl rw)), (a19, .inl (cA, 408000, .inl rk)), (a20, .inl (cA, 40, .inl (nuF (va_up zs kp my))))] := hD
  refine lv_iconst (v := 0) hx hb dX5_keep_13 (by decide) ?_
  refine lv_istore_n (lv' := [(1, .int 0), (0, .ref h0)]) hx hb dX5_keep_14 rfl hl (by decide) rfl (fun ls hl => ?_)
  have lp_15 : ∀ (k15 i : Nat) (rw_15 : Nat → Int32) (rk_15 : Nat → Int32), i ≤ my → my + 1 ≤ i + k15 → m_X5_keep rd kd rw rk zs my kp = m_X5_keep_L15 rd kd zs my kp k15 i rw_15 rk_15 → ∀ (H : Heap) (locs : List Loc), va_P (dC, dI) vwCl [(h0, .inr (6, [.int th, .ref t1, .int (nI len), .int mo, .ref a4, .ref a5, .ref a6, .int (nI my), .int pu, .int mi, .int ms, .ref a11, .ref a12, .ref a13, .int la, .int (nI kp), .int (nI sh), .int mf, .ref a18, .ref a19, .ref a20, .ref a21, .ref a22, .ref a23])), (a4, .inl (cA, 10200, .inl rd)), (a6, .inl (cA, 10200, .inl kd)), (a18, .inl (cA, 408000, .inl rw_15)), (a19, .inl (cA, 408000, .inl rk_15)), (a20, .inl (cA, 40, .inl (nuF (va_up zs kp my))))] H → va_D A [(h0, .inr (6, [.int th, .ref t1, .int (nI len), .int mo, .ref a4, .ref a5, .ref a6, .int (nI my), .int pu, .int mi, .int ms, .ref a11, .ref a12, .ref a13, .int la, .int (nI kp), .int (nI sh), .int mf, .ref a18, .ref a19, .ref a20, .ref a21, .ref a22, .ref a23])), (a4, .inl (cA, 10200, .inl rd)), (a6, .inl (cA, 10200, .inl kd)), (a18, .inl (cA, 408000, .inl rw_15)), (a19, .inl (cA, 408000, .inl rk_15)), (a20, .inl (cA, 40, .inl (nuF (va_up zs kp my))))] → va_S A s.heap H locs → ∀ (ls : Array Slot), lv_has ls 2 [(0, .ref h0), (1, .int (nI i))] → W p l e (headSpec wsX5_keep ({ frames := 0, cells := 0, slots := 0, locals := 0 } : Room)).room s m (([.ref h0] : List Value).toArray) below meth c H locs 0 0 (MQ below (va_Qv (S := Unit) (fun _ => True) (wr_B (dC, dI) vwCl (fun u9 => [(h0, .inr (6, [.int th, .ref t1, .int (nI len), .int mo, .ref a4, .ref a5, .ref a6, .int (nI my), .int pu, .int mi, .int ms, .ref a11, .ref a12, .ref a13, .int la, .int (nI ((m_X5_keep rd kd rw rk zs my kp).2.2.2)), .int (nI sh), .int mf, .ref a18, .ref a19, .ref a20, .ref a21, .ref a22, .ref a23])), (a4, .inl (cA, 10200, .inl rd)), (a6, .inl (cA, 10200, .inl kd)), (a18, .inl (cA, 408000, .inl ((m_X5_keep rd kd rw rk zs my kp).1))), (a19, .inl (cA, 408000, .inl ((m_X5_keep rd kd rw rk zs my kp).2.1))), (a20, .inl (cA, 40, .inl (nuF ((m_X5_keep rd kd rw rk zs my kp).2.2.1))))]) [(cA, .int)] A) A) (([.ref h0] : List Value).toArray) s 0 0 A) (F0 m 15 ls []) := by
    intro k15
    induction k15 with
    | zero => intro i rw_15 rk_15 h1_ h2_; exfalso; omega
    | succ k15 ih15 =>
      intro i rw_15 rk_15 hb15 hf15  hm15 H locs hP hD hS ls hl
      refine lv_iload_n hx hb dX5_keep_15 rfl (lv_at hl 1 rfl) ?_
      refine lv_aload_n hx hb dX5_keep_16 rfl (lv_at hl 0 rfl) ?_
      refine va_get (D := (dC, dI)) (ci := 6) (v := .int (nI my)) (C := RX5) (T := TX5) (N := 24) hx hb hts (by decide +kernel) hown hK hP 0 rfl rfl 7 (by decide) (hts (.fieldLink RX5 85 "PictureRowsModel" "many" "I") (by decide +kernel)) (fun _ h9 => h9) rfl dX5_keep_17 ?_
      refine lv_icmp_ge (tgt := 71) hx hb dX5_keep_20 (by decide) (fun c_1 => ?_) (fun c_1 => ?_)
      · skip
        have c_1 : my ≤ i := (nI_leI (a := my) (b := i) (by omega) (by omega)).mp c_1
        refine lv_aload_n hx hb dX5_keep_71 rfl (lv_at hl 0 rfl) ?_
        refine lv_dup hx hb dX5_keep_72 rfl ?_
        refine va_get (D := (dC, dI)) (ci := 6) (v := .int (nI kp)) (C := RX5) (T := TX5) (N := 24) hx hb hts (by decide +kernel) hown hK hP 0 rfl rfl 15 (by decide) (hts (.fieldLink RX5 136 "PictureRowsModel" "kept" "I") (by decide +kernel)) (fun _ h9 => h9) rfl dX5_keep_73 ?_
        refine lv_iconst (v := 1) hx hb dX5_keep_76 (by decide) ?_
        refine rd_iadd hx hb (kp) (1) dX5_keep_77 ?_
        refine va_put (D := (dC, dI)) (ci := 6) (v := .int (nI (kp + 1))) (ty := .int) (C := RX5) (T := TX5) (N := 24) hx hb hts (by decide +kernel) tyX5 tyX5_ok nmX5 hown hK hP hD hS 0 rfl rfl 15 (by decide) (hts (.fieldLink RX5 136 "PictureRowsModel" "kept" "I") (by decide +kernel)) (fun _ h9 => h9) rfl (by decide +kernel) rfl rfl (Nat.le_of_ble_eq_true rfl) dX5_keep_78 (fun H locs hP hD hS => ?_)
        have hP : va_P (dC, dI) vwCl [(h0, .inr (6, [.int th, .ref t1, .int (nI len), .int mo, .ref a4, .ref a5, .ref a6, .int (nI my), .int pu, .int mi, .int ms, .ref a11, .ref a12, .ref a13, .int la, .int (nI (kp + 1)), .int (nI sh), .int mf, .ref a18, .ref a19, .ref a20, .ref a21, .ref a22, .ref a23])), (a4, .inl (cA, 10200, .inl rd)), (a6, .inl (cA, 10200, .inl kd)), (a18, .inl (cA, 408000, .inl rw_15)), (a19, .inl (cA, 408000, .inl rk_15)), (a20, .inl (cA, 40, .inl (nuF (va_up zs kp my))))] H := hP
        have hD : va_D A [(h0, .inr (6, [.int th, .ref t1, .int (nI len), .int mo, .ref a4, .ref a5, .ref a6, .int (nI my), .int pu, .int mi, .int ms, .ref a11, .ref a12, .ref a13, .int la, .int (nI (kp + 1)), .int (nI sh), .int mf, .ref a18, .ref a19, .ref a20, .ref a21, .ref a22, .ref a23])), (a4, .inl (cA, 10200, .inl rd)), (a6, .inl (cA, 10200, .inl kd)), (a18, .inl (cA, 408000, .inl rw_15)), (a19, .inl (cA, 408000, .inl rk_15)), (a20, .inl (cA, 40, .inl (nuF (va_up zs kp my))))] := hD
        have hmE : m_X5_keep rd kd rw rk zs my kp = (rw_15, rk_15, (va_up zs kp my), kp + 1) := hm15.trans (by simp only [m_X5_keep_L15, if_pos c_1])
        exact wr_vret () hx hb hr hlocks hK hS trivial (by rw [hmE]; exact hP) (by rw [hmE]; exact hD) dX5_keep_81
      · skip
        have c_1 : ¬ my ≤ i := (fun q_ => c_1 ((nI_leI (a := my) (b := i) (by omega) (by omega)).mpr q_))
        refine lv_aload_n hx hb dX5_keep_23 rfl (lv_at hl 0 rfl) ?_
        refine va_get (D := (dC, dI)) (ci := 6) (v := .ref a18) (C := RX5) (T := TX5) (N := 24) hx hb hts (by decide +kernel) hown hK hP 0 rfl rfl 18 (by decide) (hts (.fieldLink RX5 39 "PictureRowsModel" "rows" "[I") (by decide +kernel)) (fun _ h9 => h9) rfl dX5_keep_24 ?_
        refine lv_sipush (v := 10200) hx hb dX5_keep_27 (by decide) ?_
        refine lv_aload_n hx hb dX5_keep_30 rfl (lv_at hl 0 rfl) ?_
        refine va_get (D := (dC, dI)) (ci := 6) (v := .int (nI kp)) (C := RX5) (T := TX5) (N := 24) hx hb hts (by decide +kernel) hown hK hP 0 rfl rfl 15 (by decide) (hts (.fieldLink RX5 136 "PictureRowsModel" "kept" "I") (by decide +kernel)) (fun _ h9 => h9) rfl dX5_keep_31 ?_
        refine rd_imul hx hb (10200) (kp) dX5_keep_34 ?_
        refine lv_iload_n hx hb dX5_keep_35 rfl (lv_at hl 1 rfl) ?_
        refine rd_iadd hx hb (10200 * kp) (i) dX5_keep_36 ?_
        refine lv_aload_n hx hb dX5_keep_37 rfl (lv_at hl 0 rfl) ?_
        refine va_get (D := (dC, dI)) (ci := 6) (v := .ref a4) (C := RX5) (T := TX5) (N := 24) hx hb hts (by decide +kernel) hown hK hP 0 rfl rfl 4 (by decide) (hts (.fieldLink RX5 17 "PictureRowsModel" "read" "[I") (by decide +kernel)) (fun _ h9 => h9) rfl dX5_keep_38 ?_
        refine lv_iload_n hx hb dX5_keep_41 rfl (lv_at hl 1 rfl) ?_
        refine rd_iald hx hb hK hP 1 0 rfl rfl (i) (by omega) (by omega) dX5_keep_42 ?_
        refine wr_iast (x := rd i) hx hb hK hP hD hS 3 0 rfl rfl ((10200 * kp) + i) (by omega) (by omega) dX5_keep_43 (fun H locs hP hD hS => ?_)
        have hP : va_P (dC, dI) vwCl [(h0, .inr (6, [.int th, .ref t1, .int (nI len), .int mo, .ref a4, .ref a5, .ref a6, .int (nI my), .int pu, .int mi, .int ms, .ref a11, .ref a12, .ref a13, .int la, .int (nI kp), .int (nI sh), .int mf, .ref a18, .ref a19, .ref a20, .ref a21, .ref a22, .ref a23])), (a4, .inl (cA, 10200, .inl rd)), (a6, .inl (cA, 10200, .inl kd)), (a18, .inl (cA, 408000, .inl (upd rw_15 ((10200 * kp) + i) (rd i)))), (a19, .inl (cA, 408000, .inl rk_15)), (a20, .inl (cA, 40, .inl (nuF (va_up zs kp my))))] H := hP
        have hD : va_D A [(h0, .inr (6, [.int th, .ref t1, .int (nI len), .int mo, .ref a4, .ref a5, .ref a6, .int (nI my), .int pu, .int mi, .int ms, .ref a11, .ref a12, .ref a13, .int la, .int (nI kp), .int (nI sh), .int mf, .ref a18, .ref a19, .ref a20, .ref a21, .ref a22, .ref a23])), (a4, .inl (cA, 10200, .inl rd)), (a6, .inl (cA, 10200, .inl kd)), (a18, .inl (cA, 408000, .inl (upd rw_15 ((10200 * kp) + i) (rd i)))), (a19, .inl (cA, 408000, .inl rk_15)), (a20, .inl (cA, 40, .inl (nuF (va_up zs kp my))))] := hD
        refine lv_aload_n hx hb dX5_keep_44 rfl (lv_at hl 0 rfl) ?_
        refine va_get (D := (dC, dI)) (ci := 6) (v := .ref a19) (C := RX5) (T := TX5) (N := 24) hx hb hts (by decide +kernel) hown hK hP 0 rfl rfl 19 (by decide) (hts (.fieldLink RX5 42 "PictureRowsModel" "rowKinds" "[I") (by decide +kernel)) (fun _ h9 => h9) rfl dX5_keep_45 ?_
        refine lv_sipush (v := 10200) hx hb dX5_keep_48 (by decide) ?_
        refine lv_aload_n hx hb dX5_keep_51 rfl (lv_at hl 0 rfl) ?_
        refine va_get (D := (dC, dI)) (ci := 6) (v := .int (nI kp)) (C := RX5) (T := TX5) (N := 24) hx hb hts (by decide +kernel) hown hK hP 0 rfl rfl 15 (by decide) (hts (.fieldLink RX5 136 "PictureRowsModel" "kept" "I") (by decide +kernel)) (fun _ h9 => h9) rfl dX5_keep_52 ?_
        refine rd_imul hx hb (10200) (kp) dX5_keep_55 ?_
        refine lv_iload_n hx hb dX5_keep_56 rfl (lv_at hl 1 rfl) ?_
        refine rd_iadd hx hb (10200 * kp) (i) dX5_keep_57 ?_
        refine lv_aload_n hx hb dX5_keep_58 rfl (lv_at hl 0 rfl) ?_
        refine va_get (D := (dC, dI)) (ci := 6) (v := .ref a6) (C := RX5) (T := TX5) (N := 24) hx hb hts (by decide +kernel) hown hK hP 0 rfl rfl 6 (by decide) (hts (.fieldLink RX5 23 "PictureRowsModel" "kind" "[I") (by decide +kernel)) (fun _ h9 => h9) rfl dX5_keep_59 ?_
        refine lv_iload_n hx hb dX5_keep_62 rfl (lv_at hl 1 rfl) ?_
        refine rd_iald hx hb hK hP 2 0 rfl rfl (i) (by omega) (by omega) dX5_keep_63 ?_
        refine wr_iast (x := kd i) hx hb hK hP hD hS 4 0 rfl rfl ((10200 * kp) + i) (by omega) (by omega) dX5_keep_64 (fun H locs hP hD hS => ?_)
        have hP : va_P (dC, dI) vwCl [(h0, .inr (6, [.int th, .ref t1, .int (nI len), .int mo, .ref a4, .ref a5, .ref a6, .int (nI my), .int pu, .int mi, .int ms, .ref a11, .ref a12, .ref a13, .int la, .int (nI kp), .int (nI sh), .int mf, .ref a18, .ref a19, .ref a20, .ref a21, .ref a22, .ref a23])), (a4, .inl (cA, 10200, .inl rd)), (a6, .inl (cA, 10200, .inl kd)), (a18, .inl (cA, 408000, .inl (upd rw_15 ((10200 * kp) + i) (rd i)))), (a19, .inl (cA, 408000, .inl (upd rk_15 ((10200 * kp) + i) (kd i)))), (a20, .inl (cA, 40, .inl (nuF (va_up zs kp my))))] H := hP
        have hD : va_D A [(h0, .inr (6, [.int th, .ref t1, .int (nI len), .int mo, .ref a4, .ref a5, .ref a6, .int (nI my), .int pu, .int mi, .int ms, .ref a11, .ref a12, .ref a13, .int la, .int (nI kp), .int (nI sh), .int mf, .ref a18, .ref a19, .ref a20, .ref a21, .ref a22, .ref a23])), (a4, .inl (cA, 10200, .inl rd)), (a6, .inl (cA, 10200, .inl kd)), (a18, .inl (cA, 408000, .inl (upd rw_15 ((10200 * kp) + i) (rd i)))), (a19, .inl (cA, 408000, .inl (upd rk_15 ((10200 * kp) + i) (kd i)))), (a20, .inl (cA, 40, .inl (nuF (va_up zs kp my))))] := hD
        refine lv_iinc (v := nI (i + 1)) (lv' := [(1, .int (nI (i + 1))), (0, .ref h0)]) hx hb dX5_keep_65 hl (k := 1) rfl (nI_add (i) 1) (by decide) rfl (fun ls hl => ?_)
        refine lv_goto (tgt := 15) hx hb dX5_keep_68 (by decide) ?_
        exact ih15 (i + 1) (upd rw_15 ((10200 * kp) + i) (rd i)) (upd rk_15 ((10200 * kp) + i) (kd i)) (by omega) (by omega)  (hm15.trans (by simp only [m_X5_keep_L15, if_neg c_1])) H locs hP hD hS ls (lv_sub hl [1, 0] rfl)
  exact lp_15 (my + 1) (0) rw rk (by omega) (by omega)  (show m_X5_keep rd kd rw rk zs my kp = m_X5_keep_L15 rd kd zs my kp (my + 1) 0 rw rk from by simp only [m_X5_keep]) H locs hP hD hS ls (lv_sub hl [1, 0] rfl)
