theorem m_X5_point_L41_le (kn : Nat → Int32) (la : Nat) : ∀ k i, i ≤ la → m_X5_point_L41 kn la k i ≤ la := by
  intro k
  induction k with
  | zero => intro i h; exact Nat.zero_le _
  | succ k ih =>
    intro i h
    rw [m_X5_point_L41]
    split
    · exact Nat.le_refl _
    · split
      · exact h
      · exact ih (i + 1) (by omega)
theorem m_X5_point_L2_le (kn : Nat → Int32) (la : Nat) : ∀ k i, i ≤ la → m_X5_point_L2 kn la k i ≤ la := by
  intro k
  induction k with
  | zero => intro i h; exact Nat.zero_le _
  | succ k ih =>
    intro i h
    rw [m_X5_point_L2]
    split
    · exact m_X5_point_L41_le kn la _ _ (Nat.zero_le _)
    · split
      · exact h
      · split
        · exact h
        · exact ih (i + 1) (by omega)
theorem m_X5_point_le (kn : Nat → Int32) (la : Nat) : m_X5_point kn la ≤ la := m_X5_point_L2_le kn la _ _ (Nat.zero_le _)
def m_X5_digitsOf_0_j50_s0 (sn : Nat → Int32) (kn : Nat → Int32) (i : Nat) : Bool := if (m_X5_isDigitOf sn kn i) = false then false else true
def m_X5_digitsOf_0_L18 (sn : Nat → Int32) (kn : Nat → Int32) (la : Nat) : Nat → Nat → Int32 → Int32
  | 0, _, _ => 0
  | k18 + 1, i, x3 => if (m_X5_point kn la) ≤ i then x3 else (m_X5_digitsOf_0_L18 sn kn la k18 (i + 1) (x3 + (bI (m_X5_digitsOf_0_j50_s0 sn kn i))))
def m_X5_digitsOf_0 (sn : Nat → Int32) (kn : Nat → Int32) (la : Nat) : Int32 := m_X5_digitsOf_0_L18 sn kn la ((m_X5_point kn la) + 1) 0 0
set_option maxHeartbeats 4000000 in
set_option maxRecDepth 100000 in
theorem c_X5_digitsOf_0 (l : Launch) (dC : Nat → ClassId) (dI : Nat → Nat → Nat) (h0 : Nat) (th : Int32) (t1 : Nat) (len : Nat) (mo : Int32) (a4 : Nat) (a5 : Nat) (a6 : Nat) (my : Nat) (pu : Int32) (mi : Int32) (ms : Int32) (a11 : Nat) (a12 : Nat) (a13 : Nat) (kp : Nat) (sh : Nat) (mf : Int32) (a18 : Nat) (a19 : Nat) (a20 : Nat) (a21 : Nat) (a22 : Nat) (a23 : Nat) (cA : ClassId) (sn : Nat → Int32) (kn : Nat → Int32) (la : Nat) (hla : la ≤ 10200) : Met l yX5_digitsOf wsX5_digitsOf ({ frames := 1, cells := 0, slots := 0, locals := 24 } : Room) (va_Pc [.ref h0, .int 0] (rd_P (dC, dI) vwCl [(h0, .inr (6, [.int th, .ref t1, .int (nI len), .int mo, .ref a4, .ref a5, .ref a6, .int (nI my), .int pu, .int mi, .int ms, .ref a11, .ref a12, .ref a13, .int (nI la), .int (nI kp), .int (nI sh), .int mf, .ref a18, .ref a19, .ref a20, .ref a21, .ref a22, .ref a23])), (a11, .inl (cA, 10200, .inl sn)), (a12, .inl (cA, 10200, .inl kn))] [(cA, .int)])) (vp_Si (fun r => r = m_X5_digitsOf_0 sn kn la)) 0 0 (fun _ => False) := by
  refine Met.ofW (cc := cX5_digitsOf) (maxL := 5) (ret := (some .int)) (by decide) rfl ?_
  intro p e s m args below meth c s₁ B hml hv
  obtain ⟨rfl, hE, hP, hK⟩ := hv
  have hx := B.exec
  have hb := B.bytes
  have hr := B.returns
  have hts := atoms_spec (ws := wsX5_digitsOf) B.pre
  have hown : s.vm.findClass RX5 = some m.cls := findClass_of_methodNamed B.named
  have hlocks := B.notSynchronized
  have hl := lv_entry ([.ref h0, .int 0]) (n := 5) (Nat.le_of_ble_eq_true rfl)
  rw [lg_entry_eq]
  generalize (lg_sl ([.ref h0, .int 0]) ++ List.replicate (5 - (lg_sl ([.ref h0, .int 0])).length) Slot.unset).toArray = ls at hl ⊢
  have hl : lv_has ls 5 [(0, .ref h0), (1, .int 0)] := hl
  refine lv_aload_n hx hb dX5_digitsOf_0 rfl (lv_at hl 0 rfl) ?_
  refine rd_callV (As := []) (rest := []) ⟨hx, hb, hml, hown, hts⟩ hE (c_X5_point l dC dI h0 th t1 len mo a4 a5 a6 my pu mi ms a11 a12 a13 kp sh mf a18 a19 a20 a21 a22 a23 cA kn la (by omega)) (cwV 0 hts gX5_digitsOf_X5_point rfl rfl rfl (by decide +kernel) ⟨Nat.le_of_ble_eq_true rfl, Nat.le_of_ble_eq_true rfl⟩) (hP.sub (ws' := [(h0, .inr (6, [.int th, .ref t1, .int (nI len), .int mo, .ref a4, .ref a5, .ref a6, .int (nI my), .int pu, .int mi, .int ms, .ref a11, .ref a12, .ref a13, .int (nI la), .int (nI kp), .int (nI sh), .int mf, .ref a18, .ref a19, .ref a20, .ref a21, .ref a22, .ref a23])), (a12, .inl (cA, 10200, .inl kn))]) [0, 2] rfl) (hK.sub [0] rfl) (va_recv hK hP (ci := 6) (q0 := 0) rfl rfl) rfl hl.1 rfl (Nat.le_of_ble_eq_true rfl) dX5_digitsOf_1 ⟨Nat.zero_le _, Nat.zero_le _⟩ (fun r9 hr9 => ?_)
  subst hr9
  have hpt := m_X5_point_le kn la
  refine lv_istore_n (lv' := [(2, .int (nI (m_X5_point kn la))), (0, .ref h0), (1, .int 0)]) hx hb dX5_digitsOf_4 rfl hl (by decide) rfl (fun ls hl => ?_)
  refine lv_iconst (v := 0) hx hb dX5_digitsOf_5 (by decide) ?_
  refine lv_istore_n (lv' := [(3, .int 0), (2, .int (nI (m_X5_point kn la))), (0, .ref h0), (1, .int 0)]) hx hb dX5_digitsOf_6 rfl hl (by decide) rfl (fun ls hl => ?_)
  refine lv_iload_n hx hb dX5_digitsOf_7 rfl (lv_at hl 3 rfl) ?_
  refine lv_if_ne (tgt := 15) hx hb dX5_digitsOf_8 (by decide) (fun c_1 => ?_) (fun c_1 => ?_)
  · skip
    exact absurd (by decide) c_1
  · skip
    refine lv_iconst (v := 0) hx hb dX5_digitsOf_11 (by decide) ?_
    refine lv_goto (tgt := 16) hx hb dX5_digitsOf_12 (by decide) ?_
    refine lv_istore (lv' := [(4, .int 0), (3, .int 0), (2, .int (nI (m_X5_point kn la))), (0, .ref h0), (1, .int 0)]) hx hb dX5_digitsOf_16 hl (by decide) rfl (fun ls hl => ?_)
    have lp_18 : ∀ (k18 i : Nat) (x3 : Int32), i ≤ (m_X5_point kn la) → (m_X5_point kn la) + 1 ≤ i + k18 → m_X5_digitsOf_0 sn kn la = m_X5_digitsOf_0_L18 sn kn la k18 i x3 → ∀ (ls : Array Slot), lv_has ls 5 [(0, .ref h0), (1, .int 0), (2, .int (nI (m_X5_point kn la))), (3, .int x3), (4, .int (nI i))] → W p l e (headSpec wsX5_digitsOf ({ frames := 1, cells := 0, slots := 0, locals := 24 } : Room)).room s m (([.ref h0, .int 0] : List Value).toArray) below meth c s.heap [] 0 0 (MQ below (vp_Si (fun r => r = m_X5_digitsOf_0 sn kn la)) (([.ref h0, .int 0] : List Value).toArray) s 0 0 (fun _ => False)) (F0 m 18 ls []) := by
      intro k18
      induction k18 with
      | zero => intro i x3 h1_ h2_; exfalso; omega
      | succ k18 ih18 =>
        intro i x3 hb18 hf18  hm18 ls hl
        refine lv_iload hx hb dX5_digitsOf_18 (lv_at hl 4 rfl) ?_
        refine lv_iload_n hx hb dX5_digitsOf_20 rfl (lv_at hl 1 rfl) ?_
        refine lv_if_ne (tgt := 28) hx hb dX5_digitsOf_21 (by decide) (fun c_2 => ?_) (fun c_2 => ?_)
        · skip
          exact absurd (by decide) c_2
        · skip
          refine lv_iload_n hx hb dX5_digitsOf_24 rfl (lv_at hl 2 rfl) ?_
          refine lv_goto (tgt := 32) hx hb dX5_digitsOf_25 (by decide) ?_
          refine lv_icmp_ge (tgt := 58) hx hb dX5_digitsOf_32 (by decide) (fun c_3 => ?_) (fun c_3 => ?_)
          · skip
            have c_3 : (m_X5_point kn la) ≤ i := (nI_leI (a := m_X5_point kn la) (b := i) (by omega) (by omega)).mp c_3
            refine lv_iload_n hx hb dX5_digitsOf_58 rfl (lv_at hl 3 rfl) ?_
            exact rd_iret (v := x3) hx hb hr hlocks (show m_X5_digitsOf_0 sn kn la = x3 from hm18.trans (by simp only [m_X5_digitsOf_0_L18, if_pos c_3])).symm dX5_digitsOf_59
          · skip
            have c_3 : ¬ (m_X5_point kn la) ≤ i := (fun q_ => c_3 ((nI_leI (a := m_X5_point kn la) (b := i) (by omega) (by omega)).mpr q_))
            refine lv_iload_n hx hb dX5_digitsOf_35 rfl (lv_at hl 3 rfl) ?_
            refine lv_aload_n hx hb dX5_digitsOf_36 rfl (lv_at hl 0 rfl) ?_
            refine lv_iload hx hb dX5_digitsOf_37 (lv_at hl 4 rfl) ?_
            refine rd_callV (As := [.int (nI i)]) (rest := [.int x3]) ⟨hx, hb, hml, hown, hts⟩ hE (c_X5_isDigitOf l dC dI h0 th t1 len mo a4 a5 a6 my pu mi ms a11 a12 a13 la kp sh mf a18 a19 a20 a21 a22 a23 cA sn kn i (by omega)) (cwV 1 hts gX5_digitsOf_X5_isDigitOf rfl rfl rfl (by decide +kernel) ⟨Nat.le_of_ble_eq_true rfl, Nat.le_of_ble_eq_true rfl⟩) (hP.sub (ws' := [(h0, .inr (6, [.int th, .ref t1, .int (nI len), .int mo, .ref a4, .ref a5, .ref a6, .int (nI my), .int pu, .int mi, .int ms, .ref a11, .ref a12, .ref a13, .int (nI la), .int (nI kp), .int (nI sh), .int mf, .ref a18, .ref a19, .ref a20, .ref a21, .ref a22, .ref a23])), (a11, .inl (cA, 10200, .inl sn)), (a12, .inl (cA, 10200, .inl kn))]) [0, 1, 2] rfl) (hK.sub [0] rfl) (va_recv hK hP (ci := 6) (q0 := 0) rfl rfl) rfl hl.1 rfl (Nat.le_of_ble_eq_true rfl) dX5_digitsOf_39 ⟨Nat.zero_le _, Nat.zero_le _⟩ (fun r9 hr9 => ?_)
            subst hr9
            have j_4 : ∀ (y0_j_4 : Bool), y0_j_4 = m_X5_digitsOf_0_j50_s0 sn kn i → ∀ (ls : Array Slot), lv_has ls 5 [(0, .ref h0), (1, .int 0), (2, .int (nI (m_X5_point kn la))), (3, .int x3), (4, .int (nI i))] → W p l e (headSpec wsX5_digitsOf ({ frames := 1, cells := 0, slots := 0, locals := 24 } : Room)).room s m (([.ref h0, .int 0] : List Value).toArray) below meth c s.heap [] 0 0 (MQ below (vp_Si (fun r => r = m_X5_digitsOf_0 sn kn la)) (([.ref h0, .int 0] : List Value).toArray) s 0 0 (fun _ => False)) (F0 m 50 ls [.int (bI y0_j_4), .int x3]) := by
              intro y0_j_4 ey0_j_4 ls hl
              subst ey0_j_4
              refine lv_iadd hx hb dX5_digitsOf_50 ?_
              refine lv_istore_n (lv' := [(3, .int (x3 + (bI (m_X5_digitsOf_0_j50_s0 sn kn i)))), (0, .ref h0), (1, .int 0), (2, .int (nI (m_X5_point kn la))), (4, .int (nI i))]) hx hb dX5_digitsOf_51 rfl hl (by decide) rfl (fun ls hl => ?_)
              refine lv_iinc (v := nI (i + 1)) (lv' := [(4, .int (nI (i + 1))), (3, .int (x3 + (bI (m_X5_digitsOf_0_j50_s0 sn kn i)))), (0, .ref h0), (1, .int 0), (2, .int (nI (m_X5_point kn la)))]) hx hb dX5_digitsOf_52 hl (k := 4) rfl (nI_add (i) 1) (by decide) rfl (fun ls hl => ?_)
              refine lv_goto (tgt := 18) hx hb dX5_digitsOf_55 (by decide) ?_
              exact ih18 (i + 1) (x3 + (bI (m_X5_digitsOf_0_j50_s0 sn kn i))) (by omega) (by omega)  (hm18.trans (by simp only [m_X5_digitsOf_0_L18, if_neg c_3])) ls (lv_sub hl [2, 3, 4, 1, 0] rfl)
            refine lv_if_eq (tgt := 49) hx hb dX5_digitsOf_42 (by decide) (fun c_5 => ?_) (fun c_5 => ?_)
            · skip
              have c_5 := bI_0 c_5
              refine lv_iconst (v := 0) hx hb dX5_digitsOf_49 (by decide) ?_
              exact j_4 false (by simp only [m_X5_digitsOf_0_j50_s0, if_pos c_5]) ls (lv_sub hl [0, 1, 2, 3, 4] rfl)
            · skip
              have c_5 := bI_n0 c_5
              refine lv_iconst (v := 1) hx hb dX5_digitsOf_45 (by decide) ?_
              refine lv_goto (tgt := 50) hx hb dX5_digitsOf_46 (by decide) ?_
              exact j_4 true (by simp only [m_X5_digitsOf_0_j50_s0, if_neg c_5]) ls (lv_sub hl [0, 1, 2, 3, 4] rfl)
    exact lp_18 ((m_X5_point kn la) + 1) (0) 0 (by omega) (by omega)  (show m_X5_digitsOf_0 sn kn la = m_X5_digitsOf_0_L18 sn kn la ((m_X5_point kn la) + 1) 0 0 from by simp only [m_X5_digitsOf_0]) ls (lv_sub hl [3, 4, 2, 1, 0] rfl)
def m_X5_digitsOf_1_j50_s0 (sn : Nat → Int32) (kn : Nat → Int32) (i : Nat) : Bool := if (m_X5_isDigitOf sn kn i) = false then false else true
def m_X5_digitsOf_1_L18 (sn : Nat → Int32) (kn : Nat → Int32) (la : Nat) : Nat → Nat → Int32 → Int32
  | 0, _, _ => 0
  | k18 + 1, i, x3 => if la ≤ i then x3 else (m_X5_digitsOf_1_L18 sn kn la k18 (i + 1) (x3 + (bI (m_X5_digitsOf_1_j50_s0 sn kn i))))
def m_X5_digitsOf_1 (sn : Nat → Int32) (kn : Nat → Int32) (la : Nat) : Int32 := m_X5_digitsOf_1_L18 sn kn la (la + 1) (m_X5_point kn la) 0
set_option maxHeartbeats 4000000 in
set_option maxRecDepth 100000 in
theorem c_X5_digitsOf_1 (l : Launch) (dC : Nat → ClassId) (dI : Nat → Nat → Nat) (h0 : Nat) (th : Int32) (t1 : Nat) (len : Nat) (mo : Int32) (a4 : Nat) (a5 : Nat) (a6 : Nat) (my : Nat) (pu : Int32) (mi : Int32) (ms : Int32) (a11 : Nat) (a12 : Nat) (a13 : Nat) (kp : Nat) (sh : Nat) (mf : Int32) (a18 : Nat) (a19 : Nat) (a20 : Nat) (a21 : Nat) (a22 : Nat) (a23 : Nat) (cA : ClassId) (sn : Nat → Int32) (kn : Nat → Int32) (la : Nat) (hla : la ≤ 10200) : Met l yX5_digitsOf wsX5_digitsOf ({ frames := 1, cells := 0, slots := 0, locals := 24 } : Room) (va_Pc [.ref h0, .int 1] (rd_P (dC, dI) vwCl [(h0, .inr (6, [.int th, .ref t1, .int (nI len), .int mo, .ref a4, .ref a5, .ref a6, .int (nI my), .int pu, .int mi, .int ms, .ref a11, .ref a12, .ref a13, .int (nI la), .int (nI kp), .int (nI sh), .int mf, .ref a18, .ref a19, .ref a20, .ref a21, .ref a22, .ref a23])), (a11, .inl (cA, 10200, .inl sn)), (a12, .inl (cA, 10200, .inl kn))] [(cA, .int)])) (vp_Si (fun r => r = m_X5_digitsOf_1 sn kn la)) 0 0 (fun _ => False) := by
  refine Met.ofW (cc := cX5_digitsOf) (maxL := 5) (ret := (some .int)) (by decide) rfl ?_
  intro p e s m args below meth c s₁ B hml hv
  obtain ⟨rfl, hE, hP, hK⟩ := hv
  have hx := B.exec
  have hb := B.bytes
  have hr := B.returns
  have hts := atoms_spec (ws := wsX5_digitsOf) B.pre
  have hown : s.vm.findClass RX5 = some m.cls := findClass_of_methodNamed B.named
  have hlocks := B.notSynchronized
  have hl := lv_entry ([.ref h0, .int 1]) (n := 5) (Nat.le_of_ble_eq_true rfl)
  rw [lg_entry_eq]
  generalize (lg_sl ([.ref h0, .int 1]) ++ List.replicate (5 - (lg_sl ([.ref h0, .int 1])).length) Slot.unset).toArray = ls at hl ⊢
  have hl : lv_has ls 5 [(0, .ref h0), (1, .int 1)] := hl
  refine lv_aload_n hx hb dX5_digitsOf_0 rfl (lv_at hl 0 rfl) ?_
  refine rd_callV (As := []) (rest := []) ⟨hx, hb, hml, hown, hts⟩ hE (c_X5_point l dC dI h0 th t1 len mo a4 a5 a6 my pu mi ms a11 a12 a13 kp sh mf a18 a19 a20 a21 a22 a23 cA kn la (by omega)) (cwV 0 hts gX5_digitsOf_X5_point rfl rfl rfl (by decide +kernel) ⟨Nat.le_of_ble_eq_true rfl, Nat.le_of_ble_eq_true rfl⟩) (hP.sub (ws' := [(h0, .inr (6, [.int th, .ref t1, .int (nI len), .int mo, .ref a4, .ref a5, .ref a6, .int (nI my), .int pu, .int mi, .int ms, .ref a11, .ref a12, .ref a13, .int (nI la), .int (nI kp), .int (nI sh), .int mf, .ref a18, .ref a19, .ref a20, .ref a21, .ref a22, .ref a23])), (a12, .inl (cA, 10200, .inl kn))]) [0, 2] rfl) (hK.sub [0] rfl) (va_recv hK hP (ci := 6) (q0 := 0) rfl rfl) rfl hl.1 rfl (Nat.le_of_ble_eq_true rfl) dX5_digitsOf_1 ⟨Nat.zero_le _, Nat.zero_le _⟩ (fun r9 hr9 => ?_)
  subst hr9
  have hpt := m_X5_point_le kn la
  refine lv_istore_n (lv' := [(2, .int (nI (m_X5_point kn la))), (0, .ref h0), (1, .int 1)]) hx hb dX5_digitsOf_4 rfl hl (by decide) rfl (fun ls hl => ?_)
  refine lv_iconst (v := 0) hx hb dX5_digitsOf_5 (by decide) ?_
  refine lv_istore_n (lv' := [(3, .int 0), (2, .int (nI (m_X5_point kn la))), (0, .ref h0), (1, .int 1)]) hx hb dX5_digitsOf_6 rfl hl (by decide) rfl (fun ls hl => ?_)
  refine lv_iload_n hx hb dX5_digitsOf_7 rfl (lv_at hl 3 rfl) ?_
  refine lv_if_ne (tgt := 15) hx hb dX5_digitsOf_8 (by decide) (fun c_1 => ?_) (fun c_1 => ?_)
  · skip
    refine lv_iload_n hx hb dX5_digitsOf_15 rfl (lv_at hl 1 rfl) ?_
    refine lv_istore (lv' := [(4, .int (nI (m_X5_point kn la))), (3, .int 0), (2, .int (nI (m_X5_point kn la))), (0, .ref h0), (1, .int 1)]) hx hb dX5_digitsOf_16 hl (by decide) rfl (fun ls hl => ?_)
    have lp_18 : ∀ (k18 i : Nat) (x3 : Int32), i ≤ la → la + 1 ≤ i + k18 → m_X5_digitsOf_1 sn kn la = m_X5_digitsOf_1_L18 sn kn la k18 i x3 → ∀ (ls : Array Slot), lv_has ls 5 [(0, .ref h0), (1, .int 1), (2, .int (nI (m_X5_point kn la))), (3, .int x3), (4, .int (nI i))] → W p l e (headSpec wsX5_digitsOf ({ frames := 1, cells := 0, slots := 0, locals := 24 } : Room)).room s m (([.ref h0, .int 1] : List Value).toArray) below meth c s.heap [] 0 0 (MQ below (vp_Si (fun r => r = m_X5_digitsOf_1 sn kn la)) (([.ref h0, .int 1] : List Value).toArray) s 0 0 (fun _ => False)) (F0 m 18 ls []) := by
      intro k18
      induction k18 with
      | zero => intro i x3 h1_ h2_; exfalso; omega
      | succ k18 ih18 =>
        intro i x3 hb18 hf18  hm18 ls hl
        refine lv_iload hx hb dX5_digitsOf_18 (lv_at hl 4 rfl) ?_
        refine lv_iload_n hx hb dX5_digitsOf_20 rfl (lv_at hl 1 rfl) ?_
        refine lv_if_ne (tgt := 28) hx hb dX5_digitsOf_21 (by decide) (fun c_2 => ?_) (fun c_2 => ?_)
        · skip
          refine lv_aload_n hx hb dX5_digitsOf_28 rfl (lv_at hl 0 rfl) ?_
          refine va_get (D := (dC, dI)) (ci := 6) (v := .int (nI la)) (C := RX5) (T := TX5) (N := 24) hx hb hts (by decide +kernel) hown hK hP 0 rfl rfl 14 (by decide) (hts (.fieldLink RX5 35 "PictureRowsModel" "latest" "I") (by decide +kernel)) (fun _ h9 => h9) rfl dX5_digitsOf_29 ?_
          refine lv_icmp_ge (tgt := 58) hx hb dX5_digitsOf_32 (by decide) (fun c_3 => ?_) (fun c_3 => ?_)
          · skip
            have c_3 : la ≤ i := (nI_leI (a := la) (b := i) (by omega) (by omega)).mp c_3
            refine lv_iload_n hx hb dX5_digitsOf_58 rfl (lv_at hl 3 rfl) ?_
            exact rd_iret (v := x3) hx hb hr hlocks (show m_X5_digitsOf_1 sn kn la = x3 from hm18.trans (by simp only [m_X5_digitsOf_1_L18, if_pos c_3])).symm dX5_digitsOf_59
          · skip
            have c_3 : ¬ la ≤ i := (fun q_ => c_3 ((nI_leI (a := la) (b := i) (by omega) (by omega)).mpr q_))
            refine lv_iload_n hx hb dX5_digitsOf_35 rfl (lv_at hl 3 rfl) ?_
            refine lv_aload_n hx hb dX5_digitsOf_36 rfl (lv_at hl 0 rfl) ?_
            refine lv_iload hx hb dX5_digitsOf_37 (lv_at hl 4 rfl) ?_
            refine rd_callV (As := [.int (nI i)]) (rest := [.int x3]) ⟨hx, hb, hml, hown, hts⟩ hE (c_X5_isDigitOf l dC dI h0 th t1 len mo a4 a5 a6 my pu mi ms a11 a12 a13 la kp sh mf a18 a19 a20 a21 a22 a23 cA sn kn i (by omega)) (cwV 1 hts gX5_digitsOf_X5_isDigitOf rfl rfl rfl (by decide +kernel) ⟨Nat.le_of_ble_eq_true rfl, Nat.le_of_ble_eq_true rfl⟩) (hP.sub (ws' := [(h0, .inr (6, [.int th, .ref t1, .int (nI len), .int mo, .ref a4, .ref a5, .ref a6, .int (nI my), .int pu, .int mi, .int ms, .ref a11, .ref a12, .ref a13, .int (nI la), .int (nI kp), .int (nI sh), .int mf, .ref a18, .ref a19, .ref a20, .ref a21, .ref a22, .ref a23])), (a11, .inl (cA, 10200, .inl sn)), (a12, .inl (cA, 10200, .inl kn))]) [0, 1, 2] rfl) (hK.sub [0] rfl) (va_recv hK hP (ci := 6) (q0 := 0) rfl rfl) rfl hl.1 rfl (Nat.le_of_ble_eq_true rfl) dX5_digitsOf_39 ⟨Nat.zero_le _, Nat.zero_le _⟩ (fun r9 hr9 => ?_)
            subst hr9
            have j_4 : ∀ (y0_j_4 : Bool), y0_j_4 = m_X5_digitsOf_1_j50_s0 sn kn i → ∀ (ls : Array Slot), lv_has ls 5 [(0, .ref h0), (1, .int 1), (2, .int (nI (m_X5_point kn la))), (3, .int x3), (4, .int (nI i))] → W p l e (headSpec wsX5_digitsOf ({ frames := 1, cells := 0, slots := 0, locals := 24 } : Room)).room s m (([.ref h0, .int 1] : List Value).toArray) below meth c s.heap [] 0 0 (MQ below (vp_Si (fun r => r = m_X5_digitsOf_1 sn kn la)) (([.ref h0, .int 1] : List Value).toArray) s 0 0 (fun _ => False)) (F0 m 50 ls [.int (bI y0_j_4), .int x3]) := by
              intro y0_j_4 ey0_j_4 ls hl
              subst ey0_j_4
              refine lv_iadd hx hb dX5_digitsOf_50 ?_
              refine lv_istore_n (lv' := [(3, .int (x3 + (bI (m_X5_digitsOf_1_j50_s0 sn kn i)))), (0, .ref h0), (1, .int 1), (2, .int (nI (m_X5_point kn la))), (4, .int (nI i))]) hx hb dX5_digitsOf_51 rfl hl (by decide) rfl (fun ls hl => ?_)
              refine lv_iinc (v := nI (i + 1)) (lv' := [(4, .int (nI (i + 1))), (3, .int (x3 + (bI (m_X5_digitsOf_1_j50_s0 sn kn i)))), (0, .ref h0), (1, .int 1), (2, .int (nI (m_X5_point kn la)))]) hx hb dX5_digitsOf_52 hl (k := 4) rfl (nI_add (i) 1) (by decide) rfl (fun ls hl => ?_)
              refine lv_goto (tgt := 18) hx hb dX5_digitsOf_55 (by decide) ?_
              exact ih18 (i + 1) (x3 + (bI (m_X5_digitsOf_1_j50_s0 sn kn i))) (by omega) (by omega)  (hm18.trans (by simp only [m_X5_digitsOf_1_L18, if_neg c_3])) ls (lv_sub hl [2, 3, 4, 1, 0] rfl)
            refine lv_if_eq (tgt := 49) hx hb dX5_digitsOf_42 (by decide) (fun c_5 => ?_) (fun c_5 => ?_)
            · skip
              have c_5 := bI_0 c_5
              refine lv_iconst (v := 0) hx hb dX5_digitsOf_49 (by decide) ?_
              exact j_4 false (by simp only [m_X5_digitsOf_1_j50_s0, if_pos c_5]) ls (lv_sub hl [0, 1, 2, 3, 4] rfl)
            · skip
              have c_5 := bI_n0 c_5
              refine lv_iconst (v := 1) hx hb dX5_digitsOf_45 (by decide) ?_
              refine lv_goto (tgt := 50) hx hb dX5_digitsOf_46 (by decide) ?_
              exact j_4 true (by simp only [m_X5_digitsOf_1_j50_s0, if_neg c_5]) ls (lv_sub hl [0, 1, 2, 3, 4] rfl)
        · skip
          exact absurd c_2 (by decide)
    exact lp_18 (la + 1) (m_X5_point kn la) 0 (by omega) (by omega)  (show m_X5_digitsOf_1 sn kn la = m_X5_digitsOf_1_L18 sn kn la (la + 1) (m_X5_point kn la) 0 from by simp only [m_X5_digitsOf_1]) ls (lv_sub hl [3, 4, 2, 1, 0] rfl)
  · skip
    exact absurd c_1 (by decide)
def m_X5_thrown (th : Int32) : Int32 := th
set_option maxHeartbeats 4000000 in
set_option maxRecDepth 100000 in
theorem c_X5_thrown (l : Launch) (dC : Nat → ClassId) (dI : Nat → Nat → Nat) (h0 : Nat) (t1 : Nat) (len : Nat) (mo : Int32) (a4 : Nat) (a5 : Nat) (a6 : Nat) (my : Nat) (pu : Int32) (mi : Int32) (ms : Int32) (a11 : Nat) (a12 : Nat) (a13 : Nat) (la : Int32) (kp : Nat) (sh : Nat) (mf : Int32) (a18 : Nat) (a19 : Nat) (a20 : Nat) (a21 : Nat) (a22 : Nat) (a23 : Nat) (th : Int32) : Met l yX5_thrown wsX5_thrown ({ frames := 0, cells := 0, slots := 0, locals := 0 } : Room) (va_Pc [.ref h0] (rd_P (dC, dI) vwCl [(h0, .inr (6, [.int th, .ref t1, .int (nI len), .int mo, .ref a4, .ref a5, .ref a6, .int (nI my), .int pu, .int mi, .int ms, .ref a11, .ref a12, .ref a13, .int la, .int (nI kp), .int (nI sh), .int mf, .ref a18, .ref a19, .ref a20, .ref a21, .ref a22, .ref a23]))] [])) (vp_Si (fun r => r = m_X5_thrown th)) 0 0 (fun _ => False) := by
  refine Met.ofW (cc := cX5_thrown) (maxL := 1) (ret := (some .int)) (by decide) rfl ?_
  intro p e s m args below meth c s₁ B hml hv
  obtain ⟨rfl, hE, hP, hK⟩ := hv
  have hx := B.exec
  have hb := B.bytes
  have hr := B.returns
  have hts := atoms_spec (ws := wsX5_thrown) B.pre
  have hown : s.vm.findClass RX5 = some m.cls := findClass_of_methodNamed B.named
  have hlocks := B.notSynchronized
  have hl := lv_entry ([.ref h0]) (n := 1) (Nat.le_of_ble_eq_true rfl)
  rw [lg_entry_eq]
  generalize (lg_sl ([.ref h0]) ++ List.replicate (1 - (lg_sl ([.ref h0])).length) Slot.unset).toArray = ls at hl ⊢
  have hl : lv_has ls 1 [(0, .ref h0)] := hl
  refine lv_aload_n hx hb dX5_thrown_0 rfl (lv_at hl 0 rfl) ?_
  refine va_get (D := (dC, dI)) (ci := 6) (v := .int th) (C := RX5) (T := TX5) (N := 24) hx hb hts (by decide +kernel) hown hK hP 0 rfl rfl 0 (by decide) (hts (.fieldLink RX5 69 "PictureRowsModel" "thrown" "I") (by decide +kernel)) (fun _ h9 => h9) rfl dX5_thrown_1 ?_
  exact rd_iret (v := th) hx hb hr hlocks (show m_X5_thrown th = th from by simp only [m_X5_thrown]).symm dX5_thrown_4
def m_X5_sign (tx : Nat → Int32) (len : Nat) (ch : Int32) : (Nat → Int32) × Nat := if len = 80 then ((tx, len)) else ((upd tx len ch, len + 1))
set_option maxHeartbeats 4000000 in
set_option maxRecDepth 100000 in
theorem c_X5_sign (l : Launch) (dC : Nat → ClassId) (dI : Nat → Nat → Nat) (h0 : Nat) (th : Int32) (t1 : Nat) (mo : Int32) (a4 : Nat) (a5 : Nat) (a6 : Nat) (my : Nat) (pu : Int32) (mi : Int32) (ms : Int32) (a11 : Nat) (a12 : Nat) (a13 : Nat) (la : Int32) (kp : Nat) (sh : Nat) (mf : Int32) (a18 : Nat) (a19 : Nat) (a20 : Nat) (a21 : Nat) (a22 : Nat) (a23 : Nat) (cA : ClassId) (tx : Nat → Int32) (len : Nat) (ch : Int32) (zz : Nat) (hlen : len ≤ 80) : Met l yX5_sign wsX5_sign ({ frames := 0, cells := 0, slots := 0, locals := 0 } : Room) (va_Pc [.ref h0, .int ch] (wr_P (dC, dI) vwCl [(h0, .inr (6, [.int th, .ref t1, .int (nI len), .int mo, .ref a4, .ref a5, .ref a6, .int (nI my), .int pu, .int mi, .int ms, .ref a11, .ref a12, .ref a13, .int la, .int (nI kp), .int (nI sh), .int mf, .ref a18, .ref a19, .ref a20, .ref a21, .ref a22, .ref a23])), (t1, .inl (cA, 80, .inl tx))] [(cA, .int)] zz)) (va_Qv (S := Unit) (fun _ => True) (wr_B (dC, dI) vwCl (fun u9 => [(h0, .inr (6, [.int 0, .ref t1, .int (nI ((m_X5_sign tx len ch).2)), .int mo, .ref a4, .ref a5, .ref a6, .int (nI my), .int pu, .int mi, .int ms, .ref a11, .ref a12, .ref a13, .int la, .int (nI kp), .int (nI sh), .int mf, .ref a18, .ref a19, .ref a20, .ref a21, .ref a22, .ref a23])), (t1, .inl (cA, 80, .inl ((m_X5_sign tx len ch).1)))]) [(cA, .int)] (va_A [(h0, .inr (6, [.int th, .ref t1, .int (nI len), .int mo, .ref a4, .ref a5, .ref a6, .int (nI my), .int pu, .int mi, .int ms, .ref a11, .ref a12, .ref a13, .int la, .int (nI kp), .int (nI sh), .int mf, .ref a18, .ref a19, .ref a20, .ref a21, .ref a22, .ref a23])), (t1, .inl (cA, 80, .inl tx))] zz)) (va_A [(h0, .inr (6, [.int th, .ref t1, .int (nI len), .int mo, .ref a4, .ref a5, .ref a6, .int (nI my), .int pu, .int mi, .int ms, .ref a11, .ref a12, .ref a13, .int la, .int (nI kp), .int (nI sh), .int mf, .ref a18, .ref a19, .ref a20, .ref a21, .ref a22, .ref a23])), (t1, .inl (cA, 80, .inl tx))] zz)) 0 0 (va_A [(h0, .inr (6, [.int th, .ref t1, .int (nI len), .int mo, .ref a4, .ref a5, .ref a6, .int (nI my), .int pu, .int mi, .int ms, .ref a11, .ref a12, .ref a13, .int la, .int (nI kp), .int (nI sh), .int mf, .ref a18, .ref a19, .ref a20, .ref a21, .ref a22, .ref a23])), (t1, .inl (cA, 80, .inl tx))] zz) := by
  refine Met.ofW (cc := cX5_sign) (maxL := 2) (ret := none) (by decide) rfl ?_
  intro p e s m args below meth c s₁ B hml hv
  obtain ⟨rfl, hsz0, hE, hP, hK, hD0⟩ := hv
  have hx := B.exec
  have hb := B.bytes
  have hr := B.returns
  have hts := atoms_spec (ws := wsX5_sign) B.pre
  have hown : s.vm.findClass RX5 = some m.cls := findClass_of_methodNamed B.named
  have hlocks := B.notSynchronized
  subst hsz0
  have hD := hD0.self (sz := s.heap.size)
  generalize hAe : va_A [(h0, .inr (6, [.int th, .ref t1, .int (nI len), .int mo, .ref a4, .ref a5, .ref a6, .int (nI my), .int pu, .int mi, .int ms, .ref a11, .ref a12, .ref a13, .int la, .int (nI kp), .int (nI sh), .int mf, .ref a18, .ref a19, .ref a20, .ref a21, .ref a22, .ref a23])), (t1, .inl (cA, 80, .inl tx))] s.heap.size = A at hD hE ⊢
  have hA : ∀ q : Nat, s.heap.size ≤ q → A q := fun q h => by rw [← hAe]; exact Or.inr h
  have hS : va_S A s.heap s.heap [] := va_S.rf
  have hP : va_P (dC, dI) vwCl [(h0, .inr (6, [.int th, .ref t1, .int (nI len), .int mo, .ref a4, .ref a5, .ref a6, .int (nI my), .int pu, .int mi, .int ms, .ref a11, .ref a12, .ref a13, .int la, .int (nI kp), .int (nI sh), .int mf, .ref a18, .ref a19, .ref a20, .ref a21, .ref a22, .ref a23])), (t1, .inl (cA, 80, .inl tx))] s.heap := hP
  have hl := lv_entry ([.ref h0, .int ch]) (n := 2) (Nat.le_of_ble_eq_true rfl)
  rw [lg_entry_eq]
  generalize (lg_sl ([.ref h0, .int ch]) ++ List.replicate (2 - (lg_sl ([.ref h0, .int ch])).length) Slot.unset).toArray = ls at hl ⊢
  have hl : lv_has ls 2 [(0, .ref h0), (1, .int ch)] := hl
  refine lv_aload_n hx hb dX5_sign_0 rfl (lv_at hl 0 rfl) ?_
  refine lv_iconst (v := 0) hx hb dX5_sign_1 (by decide) ?_
  refine va_put (D := (dC, dI)) (ci := 6) (v := .int 0) (ty := .int) (C := RX5) (T := TX5) (N := 24) hx hb hts (by decide +kernel) tyX5 tyX5_ok nmX5 hown hK hP hD hS 0 rfl rfl 0 (by decide) (hts (.fieldLink RX5 69 "PictureRowsModel" "thrown" "I") (by decide +kernel)) (fun _ h9 => h9) rfl (by decide +kernel) rfl rfl (Nat.le_of_ble_eq_true rfl) dX5_sign_2 (fun H locs hP hD hS => ?_)
  have hP : va_P (dC, dI) vwCl [(h0, .inr (6, [.int 0, .ref t1, .int (nI len), .int mo, .ref a4, .ref a5, .ref a6, .int (nI my), .int pu, .int mi, .int ms, .ref a11, .ref a12, .ref a13, .int la, .int (nI kp), .int (nI sh), .int mf, .ref a18, .ref a19, .ref a20, .ref a21, .ref a22, .ref a23])), (t1, .inl (cA, 80, .inl tx))] H := hP
  have hD : va_D A [(h0, .inr (6, [.int 0, .ref t1, .int (nI len), .int mo, .ref a4, .ref a5, .ref a6, .int (nI my), .int pu, .int mi, .int ms, .ref a11, .ref a12, .ref a13, .int la, .int (nI kp), .int (nI sh), .int mf, .ref a18, .ref a19, .ref a20, .ref a21, .ref a22, .ref a23])), (t1, .inl (cA, 80, .inl tx))] := hD
  refine lv_aload_n hx hb dX5_sign_5 rfl (lv_at hl 0 rfl) ?_
  refine va_get (D := (dC, dI)) (ci := 6) (v := .int (nI len)) (C := RX5) (T := TX5) (N := 24) hx hb hts (by decide +kernel) hown hK hP 0 rfl rfl 2 (by decide) (hts (.fieldLink RX5 72 "PictureRowsModel" "length" "I") (by decide +kernel)) (fun _ h9 => h9) rfl dX5_sign_6 ?_
  refine lv_bipush (v := 80) hx hb dX5_sign_9 (by decide) ?_
  refine lv_icmp_ne (tgt := 15) hx hb dX5_sign_11 (by decide) (fun c_1 => ?_) (fun c_1 => ?_)
  · skip
    have c_1 : ¬ len = 80 := (fun q_ => c_1 ((nI_eq (a := len) (b := 80) (by omega) (by omega)).mpr q_))
    refine lv_aload_n hx hb dX5_sign_15 rfl (lv_at hl 0 rfl) ?_
    refine va_get (D := (dC, dI)) (ci := 6) (v := .ref t1) (C := RX5) (T := TX5) (N := 24) hx hb hts (by decide +kernel) hown hK hP 0 rfl rfl 1 (by decide) (hts (.fieldLink RX5 7 "PictureRowsModel" "text" "[I") (by decide +kernel)) (fun _ h9 => h9) rfl dX5_sign_16 ?_
    refine lv_aload_n hx hb dX5_sign_19 rfl (lv_at hl 0 rfl) ?_
    refine va_get (D := (dC, dI)) (ci := 6) (v := .int (nI len)) (C := RX5) (T := TX5) (N := 24) hx hb hts (by decide +kernel) hown hK hP 0 rfl rfl 2 (by decide) (hts (.fieldLink RX5 72 "PictureRowsModel" "length" "I") (by decide +kernel)) (fun _ h9 => h9) rfl dX5_sign_20 ?_
    refine lv_iload_n hx hb dX5_sign_23 rfl (lv_at hl 1 rfl) ?_
    refine wr_iast (x := ch) hx hb hK hP hD hS 1 0 rfl rfl (len) (by omega) (by omega) dX5_sign_24 (fun H locs hP hD hS => ?_)
    have hP : va_P (dC, dI) vwCl [(h0, .inr (6, [.int 0, .ref t1, .int (nI len), .int mo, .ref a4, .ref a5, .ref a6, .int (nI my), .int pu, .int mi, .int ms, .ref a11, .ref a12, .ref a13, .int la, .int (nI kp), .int (nI sh), .int mf, .ref a18, .ref a19, .ref a20, .ref a21, .ref a22, .ref a23])), (t1, .inl (cA, 80, .inl (upd tx len ch)))] H := hP
    have hD : va_D A [(h0, .inr (6, [.int 0, .ref t1, .int (nI len), .int mo, .ref a4, .ref a5, .ref a6, .int (nI my), .int pu, .int mi, .int ms, .ref a11, .ref a12, .ref a13, .int la, .int (nI kp), .int (nI sh), .int mf, .ref a18, .ref a19, .ref a20, .ref a21, .ref a22, .ref a23])), (t1, .inl (cA, 80, .inl (upd tx len ch)))] := hD
    refine lv_aload_n hx hb dX5_sign_25 rfl (lv_at hl 0 rfl) ?_
    refine lv_dup hx hb dX5_sign_26 rfl ?_
    refine va_get (D := (dC, dI)) (ci := 6) (v := .int (nI len)) (C := RX5) (T := TX5) (N := 24) hx hb hts (by decide +kernel) hown hK hP 0 rfl rfl 2 (by decide) (hts (.fieldLink RX5 72 "PictureRowsModel" "length" "I") (by decide +kernel)) (fun _ h9 => h9) rfl dX5_sign_27 ?_
    refine lv_iconst (v := 1) hx hb dX5_sign_30 (by decide) ?_
    refine rd_iadd hx hb (len) (1) dX5_sign_31 ?_
    refine va_put (D := (dC, dI)) (ci := 6) (v := .int (nI (len + 1))) (ty := .int) (C := RX5) (T := TX5) (N := 24) hx hb hts (by decide +kernel) tyX5 tyX5_ok nmX5 hown hK hP hD hS 0 rfl rfl 2 (by decide) (hts (.fieldLink RX5 72 "PictureRowsModel" "length" "I") (by decide +kernel)) (fun _ h9 => h9) rfl (by decide +kernel) rfl rfl (Nat.le_of_ble_eq_true rfl) dX5_sign_32 (fun H locs hP hD hS => ?_)
    have hP : va_P (dC, dI) vwCl [(h0, .inr (6, [.int 0, .ref t1, .int (nI (len + 1)), .int mo, .ref a4, .ref a5, .ref a6, .int (nI my), .int pu, .int mi, .int ms, .ref a11, .ref a12, .ref a13, .int la, .int (nI kp), .int (nI sh), .int mf, .ref a18, .ref a19, .ref a20, .ref a21, .ref a22, .ref a23])), (t1, .inl (cA, 80, .inl (upd tx len ch)))] H := hP
    have hD : va_D A [(h0, .inr (6, [.int 0, .ref t1, .int (nI (len + 1)), .int mo, .ref a4, .ref a5, .ref a6, .int (nI my), .int pu, .int mi, .int ms, .ref a11, .ref a12, .ref a13, .int la, .int (nI kp), .int (nI sh), .int mf, .ref a18, .ref a19, .ref a20, .ref a21, .ref a22, .ref a23])), (t1, .inl (cA, 80, .inl (upd tx len ch)))] := hD
    have hmE : m_X5_sign tx len ch = (upd tx len ch, len + 1) := by simp only [m_X5_sign, if_neg c_1]
    exact wr_vret () hx hb hr hlocks hK hS trivial (by rw [hmE]; exact hP) (by rw [hmE]; exact hD) dX5_sign_35
  · skip
    have c_1 : len = 80 := (nI_eq (a := len) (b := 80) (by omega) (by omega)).mp c_1
    have hmE : m_X5_sign tx len ch = (tx, len) := by simp only [m_X5_sign, if_pos c_1]
    exact wr_vret () hx hb hr hlocks hK hS trivial (by rw [hmE]; exact hP) (by rw [hmE]; exact hD) dX5_sign_14
def m_X5_category (sn : Nat → Int32) (kn : Nat → Int32) (la : Nat) : Int32 := m_X5_sort sn kn la
set_option maxHeartbeats 4000000 in
set_option maxRecDepth 100000 in
theorem c_X5_category (l : Launch) (dC : Nat → ClassId) (dI : Nat → Nat → Nat) (h0 : Nat) (th : Int32) (t1 : Nat) (len : Nat) (mo : Int32) (a4 : Nat) (a5 : Nat) (a6 : Nat) (my : Nat) (pu : Int32) (mi : Int32) (ms : Int32) (a11 : Nat) (a12 : Nat) (a13 : Nat) (kp : Nat) (sh : Nat) (mf : Int32) (a18 : Nat) (a19 : Nat) (a20 : Nat) (a21 : Nat) (a22 : Nat) (a23 : Nat) (cA : ClassId) (sn : Nat → Int32) (kn : Nat → Int32) (la : Nat) (zz : Nat) (hla : la ≤ 10200) : Met l yX5_category wsX5_category ({ frames := 2, cells := 0, slots := 0, locals := 46 } : Room) (va_Pc [.ref h0] (wr_P (dC, dI) vwCl [(h0, .inr (6, [.int th, .ref t1, .int (nI len), .int mo, .ref a4, .ref a5, .ref a6, .int (nI my), .int pu, .int mi, .int ms, .ref a11, .ref a12, .ref a13, .int (nI la), .int (nI kp), .int (nI sh), .int mf, .ref a18, .ref a19, .ref a20, .ref a21, .ref a22, .ref a23])), (a11, .inl (cA, 10200, .inl sn)), (a12, .inl (cA, 10200, .inl kn))] [(cA, .int)] zz)) (va_Qi (S := Unit) (fun r _ => r = m_X5_category sn kn la) (wr_B (dC, dI) vwCl (fun u9 => [(h0, .inr (6, [.int 0, .ref t1, .int (nI len), .int mo, .ref a4, .ref a5, .ref a6, .int (nI my), .int pu, .int mi, .int ms, .ref a11, .ref a12, .ref a13, .int (nI la), .int (nI kp), .int (nI sh), .int mf, .ref a18, .ref a19, .ref a20, .ref a21, .ref a22, .ref a23])), (a11, .inl (cA, 10200, .inl sn)), (a12, .inl (cA, 10200, .inl kn))]) [(cA, .int)] (va_A [(h0, .inr (6, [.int th, .ref t1, .int (nI len), .int mo, .ref a4, .ref a5, .ref a6, .int (nI my), .int pu, .int mi, .int ms, .ref a11, .ref a12, .ref a13, .int (nI la), .int (nI kp), .int (nI sh), .int mf, .ref a18, .ref a19, .ref a20, .ref a21, .ref a22, .ref a23])), (a11, .inl (cA, 10200, .inl sn)), (a12, .inl (cA, 10200, .inl kn))] zz)) (va_A [(h0, .inr (6, [.int th, .ref t1, .int (nI len), .int mo, .ref a4, .ref a5, .ref a6, .int (nI my), .int pu, .int mi, .int ms, .ref a11, .ref a12, .ref a13, .int (nI la), .int (nI kp), .int (nI sh), .int mf, .ref a18, .ref a19, .ref a20, .ref a21, .ref a22, .ref a23])), (a11, .inl (cA, 10200, .inl sn)), (a12, .inl (cA, 10200, .inl kn))] zz)) 0 0 (va_A [(h0, .inr (6, [.int th, .ref t1, .int (nI len), .int mo, .ref a4, .ref a5, .ref a6, .int (nI my), .int pu, .int mi, .int ms, .ref a11, .ref a12, .ref a13, .int (nI la), .int (nI kp), .int (nI sh), .int mf, .ref a18, .ref a19, .ref a20, .ref a21, .ref a22, .ref a23])), (a11, .inl (cA, 10200, .inl sn)), (a12, .inl (cA, 10200, .inl kn))] zz) := by
  refine Met.ofW (cc := cX5_category) (maxL := 1) (ret := (some .int)) (by decide) rfl ?_
  intro p e s m args below meth c s₁ B hml hv
  obtain ⟨rfl, hsz0, hE, hP, hK, hD0⟩ := hv
  have hx := B.exec
  have hb := B.bytes
  have hr := B.returns
  have hts := atoms_spec (ws := wsX5_category) B.pre
  have hown : s.vm.findClass RX5 = some m.cls := findClass_of_methodNamed B.named
  have hlocks := B.notSynchronized
  subst hsz0
  have hD := hD0.self (sz := s.heap.size)
  generalize hAe : va_A [(h0, .inr (6, [.int th, .ref t1, .int (nI len), .int mo, .ref a4, .ref a5, .ref a6, .int (nI my), .int pu, .int mi, .int ms, .ref a11, .ref a12, .ref a13, .int (nI la), .int (nI kp), .int (nI sh), .int mf, .ref a18, .ref a19, .ref a20, .ref a21, .ref a22, .ref a23])), (a11, .inl (cA, 10200, .inl sn)), (a12, .inl (cA, 10200, .inl kn))] s.heap.size = A at hD hE ⊢
  have hA : ∀ q : Nat, s.heap.size ≤ q → A q := fun q h => by rw [← hAe]; exact Or.inr h
  have hS : va_S A s.heap s.heap [] := va_S.rf
  have hP : va_P (dC, dI) vwCl [(h0, .inr (6, [.int th, .ref t1, .int (nI len), .int mo, .ref a4, .ref a5, .ref a6, .int (nI my), .int pu, .int mi, .int ms, .ref a11, .ref a12, .ref a13, .int (nI la), .int (nI kp), .int (nI sh), .int mf, .ref a18, .ref a19, .ref a20, .ref a21, .ref a22, .ref a23])), (a11, .inl (cA, 10200, .inl sn)), (a12, .inl (cA, 10200, .inl kn))] s.heap := hP
  have hl := lv_entry ([.ref h0]) (n := 1) (Nat.le_of_ble_eq_true rfl)
  rw [lg_entry_eq]
  generalize (lg_sl ([.ref h0]) ++ List.replicate (1 - (lg_sl ([.ref h0])).length) Slot.unset).toArray = ls at hl ⊢
  have hl : lv_has ls 1 [(0, .ref h0)] := hl
  refine lv_aload_n hx hb dX5_category_0 rfl (lv_at hl 0 rfl) ?_
  refine lv_iconst (v := 0) hx hb dX5_category_1 (by decide) ?_
  refine va_put (D := (dC, dI)) (ci := 6) (v := .int 0) (ty := .int) (C := RX5) (T := TX5) (N := 24) hx hb hts (by decide +kernel) tyX5 tyX5_ok nmX5 hown hK hP hD hS 0 rfl rfl 0 (by decide) (hts (.fieldLink RX5 69 "PictureRowsModel" "thrown" "I") (by decide +kernel)) (fun _ h9 => h9) rfl (by decide +kernel) rfl rfl (Nat.le_of_ble_eq_true rfl) dX5_category_2 (fun H locs hP hD hS => ?_)
  have hP : va_P (dC, dI) vwCl [(h0, .inr (6, [.int 0, .ref t1, .int (nI len), .int mo, .ref a4, .ref a5, .ref a6, .int (nI my), .int pu, .int mi, .int ms, .ref a11, .ref a12, .ref a13, .int (nI la), .int (nI kp), .int (nI sh), .int mf, .ref a18, .ref a19, .ref a20, .ref a21, .ref a22, .ref a23])), (a11, .inl (cA, 10200, .inl sn)), (a12, .inl (cA, 10200, .inl kn))] H := hP
  have hD : va_D A [(h0, .inr (6, [.int 0, .ref t1, .int (nI len), .int mo, .ref a4, .ref a5, .ref a6, .int (nI my), .int pu, .int mi, .int ms, .ref a11, .ref a12, .ref a13, .int (nI la), .int (nI kp), .int (nI sh), .int mf, .ref a18, .ref a19, .ref a20, .ref a21, .ref a22, .ref a23])), (a11, .inl (cA, 10200, .inl sn)), (a12, .inl (cA, 10200, .inl kn))] := hD
  refine lv_aload_n hx hb dX5_category_5 rfl (lv_at hl 0 rfl) ?_
  refine rd_callV (As := []) (rest := []) ⟨hx, hb, hml, hown, hts⟩ (hE.rd hS) (c_X5_sort l dC dI h0 0 t1 len mo a4 a5 a6 my pu mi ms a11 a12 a13 kp sh mf a18 a19 a20 a21 a22 a23 cA sn kn la (by omega)) (cwV 0 hts gX5_category_X5_sort rfl rfl rfl (by decide +kernel) ⟨Nat.le_of_ble_eq_true rfl, Nat.le_of_ble_eq_true rfl⟩) (hP.sub (ws' := [(h0, .inr (6, [.int 0, .ref t1, .int (nI len), .int mo, .ref a4, .ref a5, .ref a6, .int (nI my), .int pu, .int mi, .int ms, .ref a11, .ref a12, .ref a13, .int (nI la), .int (nI kp), .int (nI sh), .int mf, .ref a18, .ref a19, .ref a20, .ref a21, .ref a22, .ref a23])), (a11, .inl (cA, 10200, .inl sn)), (a12, .inl (cA, 10200, .inl kn))]) [0, 1, 2] rfl) (hK.sub [0] rfl) (va_recv hK hP (ci := 6) (q0 := 0) rfl rfl) rfl hl.1 rfl (Nat.le_of_ble_eq_true rfl) dX5_category_6 ⟨Nat.le_of_ble_eq_true rfl, Nat.le_of_ble_eq_true rfl⟩ (fun r9 hr9 => ?_)
  subst hr9
  have hmE : m_X5_category sn kn la = m_X5_sort sn kn la := by simp only [m_X5_category]
  exact wr_iret (v := m_X5_sort sn kn la) () hx hb hr hlocks hK hS (by rw [hmE]) hP hD dX5_category_9
def m_X5_category_n : Int32 := m_X5_sort_n
set_option maxHeartbeats 4000000 in
set_option maxRecDepth 100000 in
theorem c_X5_category_n (l : Launch) (dC : Nat → ClassId) (dI : Nat → Nat → Nat) (h0 : Nat) (th : Int32) (t1 : Nat) (len : Nat) (mo : Int32) (a4 : Nat) (a5 : Nat) (a6 : Nat) (my : Nat) (pu : Int32) (mi : Int32) (ms : Int32) (a11 : Nat) (a12 : Nat) (a13 : Nat) (kp : Nat) (sh : Nat) (mf : Int32) (a18 : Nat) (a19 : Nat) (a20 : Nat) (a21 : Nat) (a22 : Nat) (a23 : Nat) (zz : Nat) : Met l yX5_category wsX5_category ({ frames := 1, cells := 0, slots := 0, locals := 23 } : Room) (va_Pc [.ref h0] (wr_P (dC, dI) vwCl [(h0, .inr (6, [.int th, .ref t1, .int (nI len), .int mo, .ref a4, .ref a5, .ref a6, .int (nI my), .int pu, .int mi, .int ms, .ref a11, .ref a12, .ref a13, .int (-1), .int (nI kp), .int (nI sh), .int mf, .ref a18, .ref a19, .ref a20, .ref a21, .ref a22, .ref a23]))] [] zz)) (va_Qi (S := Unit) (fun r _ => r = m_X5_category_n) (wr_B (dC, dI) vwCl (fun u9 => [(h0, .inr (6, [.int 0, .ref t1, .int (nI len), .int mo, .ref a4, .ref a5, .ref a6, .int (nI my), .int pu, .int mi, .int ms, .ref a11, .ref a12, .ref a13, .int (-1), .int (nI kp), .int (nI sh), .int mf, .ref a18, .ref a19, .ref a20, .ref a21, .ref a22, .ref a23]))]) [] (va_A [(h0, .inr (6, [.int th, .ref t1, .int (nI len), .int mo, .ref a4, .ref a5, .ref a6, .int (nI my), .int pu, .int mi, .int ms, .ref a11, .ref a12, .ref a13, .int (-1), .int (nI kp), .int (nI sh), .int mf, .ref a18, .ref a19, .ref a20, .ref a21, .ref a22, .ref a23]))] zz)) (va_A [(h0, .inr (6, [.int th, .ref t1, .int (nI len), .int mo, .ref a4, .ref a5, .ref a6, .int (nI my), .int pu, .int mi, .int ms, .ref a11, .ref a12, .ref a13, .int (-1), .int (nI kp), .int (nI sh), .int mf, .ref a18, .ref a19, .ref a20, .ref a21, .ref a22, .ref a23]))] zz)) 0 0 (va_A [(h0, .inr (6, [.int th, .ref t1, .int (nI len), .int mo, .ref a4, .ref a5, .ref a6, .int (nI my), .int pu, .int mi, .int ms, .ref a11, .ref a12, .ref a13, .int (-1), .int (nI kp), .int (nI sh), .int mf, .ref a18, .ref a19, .ref a20, .ref a21, .ref a22, .ref a23]))] zz) := by
  refine Met.ofW (cc := cX5_category) (maxL := 1) (ret := (some .int)) (by decide) rfl ?_
  intro p e s m args below meth c s₁ B hml hv
  obtain ⟨rfl, hsz0, hE, hP, hK, hD0⟩ := hv
  have hx := B.exec
  have hb := B.bytes
  have hr := B.returns
  have hts := atoms_spec (ws := wsX5_category) B.pre
  have hown : s.vm.findClass RX5 = some m.cls := findClass_of_methodNamed B.named
  have hlocks := B.notSynchronized
  subst hsz0
  have hD := hD0.self (sz := s.heap.size)
  generalize hAe : va_A [(h0, .inr (6, [.int th, .ref t1, .int (nI len), .int mo, .ref a4, .ref a5, .ref a6, .int (nI my), .int pu, .int mi, .int ms, .ref a11, .ref a12, .ref a13, .int (-1), .int (nI kp), .int (nI sh), .int mf, .ref a18, .ref a19, .ref a20, .ref a21, .ref a22, .ref a23]))] s.heap.size = A at hD hE ⊢
  have hA : ∀ q : Nat, s.heap.size ≤ q → A q := fun q h => by rw [← hAe]; exact Or.inr h
  have hS : va_S A s.heap s.heap [] := va_S.rf
  have hP : va_P (dC, dI) vwCl [(h0, .inr (6, [.int th, .ref t1, .int (nI len), .int mo, .ref a4, .ref a5, .ref a6, .int (nI my), .int pu, .int mi, .int ms, .ref a11, .ref a12, .ref a13, .int (-1), .int (nI kp), .int (nI sh), .int mf, .ref a18, .ref a19, .ref a20, .ref a21, .ref a22, .ref a23]))] s.heap := hP
  have hl := lv_entry ([.ref h0]) (n := 1) (Nat.le_of_ble_eq_true rfl)
  rw [lg_entry_eq]
  generalize (lg_sl ([.ref h0]) ++ List.replicate (1 - (lg_sl ([.ref h0])).length) Slot.unset).toArray = ls at hl ⊢
  have hl : lv_has ls 1 [(0, .ref h0)] := hl
  refine lv_aload_n hx hb dX5_category_0 rfl (lv_at hl 0 rfl) ?_
  refine lv_iconst (v := 0) hx hb dX5_category_1 (by decide) ?_
  refine va_put (D := (dC, dI)) (ci := 6) (v := .int 0) (ty := .int) (C := RX5) (T := TX5) (N := 24) hx hb hts (by decide +kernel) tyX5 tyX5_ok nmX5 hown hK hP hD hS 0 rfl rfl 0 (by decide) (hts (.fieldLink RX5 69 "PictureRowsModel" "thrown" "I") (by decide +kernel)) (fun _ h9 => h9) rfl (by decide +kernel) rfl rfl (Nat.le_of_ble_eq_true rfl) dX5_category_2 (fun H locs hP hD hS => ?_)
  have hP : va_P (dC, dI) vwCl [(h0, .inr (6, [.int 0, .ref t1, .int (nI len), .int mo, .ref a4, .ref a5, .ref a6, .int (nI my), .int pu, .int mi, .int ms, .ref a11, .ref a12, .ref a13, .int (-1), .int (nI kp), .int (nI sh), .int mf, .ref a18, .ref a19, .ref a20, .ref a21, .ref a22, .ref a23]))] H := hP
  have hD : va_D A [(h0, .inr (6, [.int 0, .ref t1, .int (nI len), .int mo, .ref a4, .ref a5, .ref a6, .int (nI my), .int pu, .int mi, .int ms, .ref a11, .ref a12, .ref a13, .int (-1), .int (nI kp), .int (nI sh), .int mf, .ref a18, .ref a19, .ref a20, .ref a21, .ref a22, .ref a23]))] := hD
  refine lv_aload_n hx hb dX5_category_5 rfl (lv_at hl 0 rfl) ?_
  refine rd_callV (As := []) (rest := []) ⟨hx, hb, hml, hown, hts⟩ (hE.rd hS) (c_X5_sort_n l dC dI h0 0 t1 len mo a4 a5 a6 my pu mi ms a11 a12 a13 kp sh mf a18 a19 a20 a21 a22 a23 ) (cwV 0 hts gX5_category_X5_sort rfl rfl rfl (by decide +kernel) ⟨Nat.le_of_ble_eq_true rfl, Nat.le_of_ble_eq_true rfl⟩) (hP.sub (ws' := [(h0, .inr (6, [.int 0, .ref t1, .int (nI len), .int mo, .ref a4, .ref a5, .ref a6, .int (nI my), .int pu, .int mi, .int ms, .ref a11, .ref a12, .ref a13, .int (-1), .int (nI kp), .int (nI sh), .int mf, .ref a18, .ref a19, .ref a20, .ref a21, .ref a22, .ref a23]))]) [0] rfl) (hK.sub [] rfl) (va_recv hK hP (ci := 6) (q0 := 0) rfl rfl) rfl hl.1 rfl (Nat.le_of_ble_eq_true rfl) dX5_category_6 ⟨Nat.le_of_ble_eq_true rfl, Nat.le_of_ble_eq_true rfl⟩ (fun r9 hr9 => ?_)
  subst hr9
  have hmE : m_X5_category_n = m_X5_sort_n := by simp only [m_X5_category_n]
  exact wr_iret (v := m_X5_sort_n) () hx hb hr hlocks hK hS (by rw [hmE]) hP hD dX5_category_9
def m_X5_digits (sn : Nat → Int32) (kn : Nat → Int32) (la : Nat) (sd : Int32) : Int32 := if sd = 0 then (if (m_X5_isNumber sn kn la) = false then ((-1)) else (m_X5_digitsOf_0 sn kn la)) else (if sd = 1 then (if (m_X5_isNumber sn kn la) = false then ((-1)) else (m_X5_digitsOf_1 sn kn la)) else ((-1)))
set_option maxHeartbeats 4000000 in
set_option maxRecDepth 100000 in
theorem c_X5_digits (l : Launch) (dC : Nat → ClassId) (dI : Nat → Nat → Nat) (h0 : Nat) (th : Int32) (t1 : Nat) (len : Nat) (mo : Int32) (a4 : Nat) (a5 : Nat) (a6 : Nat) (my : Nat) (pu : Int32) (mi : Int32) (ms : Int32) (a11 : Nat) (a12 : Nat) (a13 : Nat) (kp : Nat) (sh : Nat) (mf : Int32) (a18 : Nat) (a19 : Nat) (a20 : Nat) (a21 : Nat) (a22 : Nat) (a23 : Nat) (cA : ClassId) (sn : Nat → Int32) (kn : Nat → Int32) (la : Nat) (sd : Int32) (zz : Nat) (hla : la ≤ 10200) : Met l yX5_digits wsX5_digits ({ frames := 3, cells := 0, slots := 0, locals := 66 } : Room) (va_Pc [.ref h0, .int sd] (wr_P (dC, dI) vwCl [(h0, .inr (6, [.int th, .ref t1, .int (nI len), .int mo, .ref a4, .ref a5, .ref a6, .int (nI my), .int pu, .int mi, .int ms, .ref a11, .ref a12, .ref a13, .int (nI la), .int (nI kp), .int (nI sh), .int mf, .ref a18, .ref a19, .ref a20, .ref a21, .ref a22, .ref a23])), (a11, .inl (cA, 10200, .inl sn)), (a12, .inl (cA, 10200, .inl kn))] [(cA, .int)] zz)) (va_Qi (S := Unit) (fun r _ => r = m_X5_digits sn kn la sd) (wr_B (dC, dI) vwCl (fun u9 => [(h0, .inr (6, [.int 0, .ref t1, .int (nI len), .int mo, .ref a4, .ref a5, .ref a6, .int (nI my), .int pu, .int mi, .int ms, .ref a11, .ref a12, .ref a13, .int (nI la), .int (nI kp), .int (nI sh), .int mf, .ref a18, .ref a19, .ref a20, .ref a21, .ref a22, .ref a23])), (a11, .inl (cA, 10200, .inl sn)), (a12, .inl (cA, 10200, .inl kn))]) [(cA, .int)] (va_A [(h0, .inr (6, [.int th, .ref t1, .int (nI len), .int mo, .ref a4, .ref a5, .ref a6, .int (nI my), .int pu, .int mi, .int ms, .ref a11, .ref a12, .ref a13, .int (nI la), .int (nI kp), .int (nI sh), .int mf, .ref a18, .ref a19, .ref a20, .ref a21, .ref a22, .ref a23])), (a11, .inl (cA, 10200, .inl sn)), (a12, .inl (cA, 10200, .inl kn))] zz)) (va_A [(h0, .inr (6, [.int th, .ref t1, .int (nI len), .int mo, .ref a4, .ref a5, .ref a6, .int (nI my), .int pu, .int mi, .int ms, .ref a11, .ref a12, .ref a13, .int (nI la), .int (nI kp), .int (nI sh), .int mf, .ref a18, .ref a19, .ref a20, .ref a21, .ref a22, .ref a23])), (a11, .inl (cA, 10200, .inl sn)), (a12, .inl (cA, 10200, .inl kn))] zz)) 0 0 (va_A [(h0, .inr (6, [.int th, .ref t1, .int (nI len), .int mo, .ref a4, .ref a5, .ref a6, .int (nI my), .int pu, .int mi, .int ms, .ref a11, .ref a12, .ref a13, .int (nI la), .int (nI kp), .int (nI sh), .int mf, .ref a18, .ref a19, .ref a20, .ref a21, .ref a22, .ref a23])), (a11, .inl (cA, 10200, .inl sn)), (a12, .inl (cA, 10200, .inl kn))] zz) := by
  refine Met.ofW (cc := cX5_digits) (maxL := 2) (ret := (some .int)) (by decide) rfl ?_
  intro p e s m args below meth c s₁ B hml hv
  obtain ⟨rfl, hsz0, hE, hP, hK, hD0⟩ := hv
  have hx := B.exec
  have hb := B.bytes
  have hr := B.returns
  have hts := atoms_spec (ws := wsX5_digits) B.pre
  have hown : s.vm.findClass RX5 = some m.cls := findClass_of_methodNamed B.named
  have hlocks := B.notSynchronized
  subst hsz0
  have hD := hD0.self (sz := s.heap.size)
  generalize hAe : va_A [(h0, .inr (6, [.int th, .ref t1, .int (nI len), .int mo, .ref a4, .ref a5, .ref a6, .int (nI my), .int pu, .int mi, .int ms, .ref a11, .ref a12, .ref a13, .int (nI la), .int (nI kp), .int (nI sh), .int mf, .ref a18, .ref a19, .ref a20, .ref a21, .ref a22, .ref a23])), (a11, .inl (cA, 10200, .inl sn)), (a12, .inl (cA, 10200, .inl kn))] s.heap.size = A at hD hE ⊢
  have hA : ∀ q : Nat, s.heap.size ≤ q → A q := fun q h => by rw [← hAe]; exact Or.inr h
  have hS : va_S A s.heap s.heap [] := va_S.rf
  have hP : va_P (dC, dI) vwCl [(h0, .inr (6, [.int th, .ref t1, .int (nI len), .int mo, .ref a4, .ref a5, .ref a6, .int (nI my), .int pu, .int mi, .int ms, .ref a11, .ref a12, .ref a13, .int (nI la), .int (nI kp), .int (nI sh), .int mf, .ref a18, .ref a19, .ref a20, .ref a21, .ref a22, .ref a23])), (a11, .inl (cA, 10200, .inl sn)), (a12, .inl (cA, 10200, .inl kn))] s.heap := hP
  have hl := lv_entry ([.ref h0, .int sd]) (n := 2) (Nat.le_of_ble_eq_true rfl)
  rw [lg_entry_eq]
  generalize (lg_sl ([.ref h0, .int sd]) ++ List.replicate (2 - (lg_sl ([.ref h0, .int sd])).length) Slot.unset).toArray = ls at hl ⊢
  have hl : lv_has ls 2 [(0, .ref h0), (1, .int sd)] := hl
  refine lv_aload_n hx hb dX5_digits_0 rfl (lv_at hl 0 rfl) ?_
  refine lv_iconst (v := 0) hx hb dX5_digits_1 (by decide) ?_
  refine va_put (D := (dC, dI)) (ci := 6) (v := .int 0) (ty := .int) (C := RX5) (T := TX5) (N := 24) hx hb hts (by decide +kernel) tyX5 tyX5_ok nmX5 hown hK hP hD hS 0 rfl rfl 0 (by decide) (hts (.fieldLink RX5 69 "PictureRowsModel" "thrown" "I") (by decide +kernel)) (fun _ h9 => h9) rfl (by decide +kernel) rfl rfl (Nat.le_of_ble_eq_true rfl) dX5_digits_2 (fun H locs hP hD hS => ?_)
  have hP : va_P (dC, dI) vwCl [(h0, .inr (6, [.int 0, .ref t1, .int (nI len), .int mo, .ref a4, .ref a5, .ref a6, .int (nI my), .int pu, .int mi, .int ms, .ref a11, .ref a12, .ref a13, .int (nI la), .int (nI kp), .int (nI sh), .int mf, .ref a18, .ref a19, .ref a20, .ref a21, .ref a22, .ref a23])), (a11, .inl (cA, 10200, .inl sn)), (a12, .inl (cA, 10200, .inl kn))] H := hP
  have hD : va_D A [(h0, .inr (6, [.int 0, .ref t1, .int (nI len), .int mo, .ref a4, .ref a5, .ref a6, .int (nI my), .int pu, .int mi, .int ms, .ref a11, .ref a12, .ref a13, .int (nI la), .int (nI kp), .int (nI sh), .int mf, .ref a18, .ref a19, .ref a20, .ref a21, .ref a22, .ref a23])), (a11, .inl (cA, 10200, .inl sn)), (a12, .inl (cA, 10200, .inl kn))] := hD
  refine lv_iload_n hx hb dX5_digits_5 rfl (lv_at hl 1 rfl) ?_
  refine lv_if_eq (tgt := 14) hx hb dX5_digits_6 (by decide) (fun c_1 => ?_) (fun c_1 => ?_)
  · skip
    subst c_1
    refine lv_aload_n hx hb dX5_digits_14 rfl (lv_at hl 0 rfl) ?_
    refine rd_callV (As := []) (rest := []) ⟨hx, hb, hml, hown, hts⟩ (hE.rd hS) (c_X5_isNumber l dC dI h0 0 t1 len mo a4 a5 a6 my pu mi ms a11 a12 a13 kp sh mf a18 a19 a20 a21 a22 a23 cA sn kn la (by omega)) (cwV 0 hts gX5_digits_X5_isNumber rfl rfl rfl (by decide +kernel) ⟨Nat.le_of_ble_eq_true rfl, Nat.le_of_ble_eq_true rfl⟩) (hP.sub (ws' := [(h0, .inr (6, [.int 0, .ref t1, .int (nI len), .int mo, .ref a4, .ref a5, .ref a6, .int (nI my), .int pu, .int mi, .int ms, .ref a11, .ref a12, .ref a13, .int (nI la), .int (nI kp), .int (nI sh), .int mf, .ref a18, .ref a19, .ref a20, .ref a21, .ref a22, .ref a23])), (a11, .inl (cA, 10200, .inl sn)), (a12, .inl (cA, 10200, .inl kn))]) [0, 1, 2] rfl) (hK.sub [0] rfl) (va_recv hK hP (ci := 6) (q0 := 0) rfl rfl) rfl hl.1 rfl (Nat.le_of_ble_eq_true rfl) dX5_digits_15 ⟨Nat.le_of_ble_eq_true rfl, Nat.le_of_ble_eq_true rfl⟩ (fun r9 hr9 => ?_)
    subst hr9
    refine lv_if_ne (tgt := 25) hx hb dX5_digits_18 (by decide) (fun c_2 => ?_) (fun c_2 => ?_)
    · skip
      have c_2 := bI_n0 c_2
      refine lv_aload_n hx hb dX5_digits_25 rfl (lv_at hl 0 rfl) ?_
      refine lv_iload_n hx hb dX5_digits_26 rfl (lv_at hl 1 rfl) ?_
      refine rd_callV (As := [.int 0]) (rest := []) ⟨hx, hb, hml, hown, hts⟩ (hE.rd hS) (c_X5_digitsOf_0 l dC dI h0 0 t1 len mo a4 a5 a6 my pu mi ms a11 a12 a13 kp sh mf a18 a19 a20 a21 a22 a23 cA sn kn la (by omega)) (cwV 1 hts gX5_digits_X5_digitsOf rfl rfl rfl (by decide +kernel) ⟨Nat.le_of_ble_eq_true rfl, Nat.le_of_ble_eq_true rfl⟩) (hP.sub (ws' := [(h0, .inr (6, [.int 0, .ref t1, .int (nI len), .int mo, .ref a4, .ref a5, .ref a6, .int (nI my), .int pu, .int mi, .int ms, .ref a11, .ref a12, .ref a13, .int (nI la), .int (nI kp), .int (nI sh), .int mf, .ref a18, .ref a19, .ref a20, .ref a21, .ref a22, .ref a23])), (a11, .inl (cA, 10200, .inl sn)), (a12, .inl (cA, 10200, .inl kn))]) [0, 1, 2] rfl) (hK.sub [0] rfl) (va_recv hK hP (ci := 6) (q0 := 0) rfl rfl) rfl hl.1 rfl (Nat.le_of_ble_eq_true rfl) dX5_digits_27 ⟨Nat.le_of_ble_eq_true rfl, Nat.le_of_ble_eq_true rfl⟩ (fun r9 hr9 => ?_)
      subst hr9
      have hmE : m_X5_digits sn kn la 0 = m_X5_digitsOf_0 sn kn la := by simp only [m_X5_digits, ↓reduceIte, if_neg c_2]
      exact wr_iret (v := m_X5_digitsOf_0 sn kn la) () hx hb hr hlocks hK hS (by rw [hmE]) hP hD dX5_digits_30
    · skip
      have c_2 := bI_0 c_2
      refine lv_iconst (v := (-1)) hx hb dX5_digits_21 (by decide) ?_
      refine lv_goto (tgt := 30) hx hb dX5_digits_22 (by decide) ?_
      have hmE : m_X5_digits sn kn la 0 = (-1) := by simp only [m_X5_digits, ↓reduceIte, if_pos c_2]
      exact wr_iret (v := (-1)) () hx hb hr hlocks hK hS (by rw [hmE]) hP hD dX5_digits_30
  · skip
    refine lv_iload_n hx hb dX5_digits_9 rfl (lv_at hl 1 rfl) ?_
    refine lv_iconst (v := 1) hx hb dX5_digits_10 (by decide) ?_
    refine lv_icmp_ne (tgt := 21) hx hb dX5_digits_11 (by decide) (fun c_3 => ?_) (fun c_3 => ?_)
    · skip
      refine lv_iconst (v := (-1)) hx hb dX5_digits_21 (by decide) ?_
      refine lv_goto (tgt := 30) hx hb dX5_digits_22 (by decide) ?_
      have hmE : m_X5_digits sn kn la sd = (-1) := by simp only [m_X5_digits, if_neg c_1, if_neg c_3]
      exact wr_iret (v := (-1)) () hx hb hr hlocks hK hS (by rw [hmE]) hP hD dX5_digits_30
    · skip
      subst c_3
      refine lv_aload_n hx hb dX5_digits_14 rfl (lv_at hl 0 rfl) ?_
      refine rd_callV (As := []) (rest := []) ⟨hx, hb, hml, hown, hts⟩ (hE.rd hS) (c_X5_isNumber l dC dI h0 0 t1 len mo a4 a5 a6 my pu mi ms a11 a12 a13 kp sh mf a18 a19 a20 a21 a22 a23 cA sn kn la (by omega)) (cwV 0 hts gX5_digits_X5_isNumber rfl rfl rfl (by decide +kernel) ⟨Nat.le_of_ble_eq_true rfl, Nat.le_of_ble_eq_true rfl⟩) (hP.sub (ws' := [(h0, .inr (6, [.int 0, .ref t1, .int (nI len), .int mo, .ref a4, .ref a5, .ref a6, .int (nI my), .int pu, .int mi, .int ms, .ref a11, .ref a12, .ref a13, .int (nI la), .int (nI kp), .int (nI sh), .int mf, .ref a18, .ref a19, .ref a20, .ref a21, .ref a22, .ref a23])), (a11, .inl (cA, 10200, .inl sn)), (a12, .inl (cA, 10200, .inl kn))]) [0, 1, 2] rfl) (hK.sub [0] rfl) (va_recv hK hP (ci := 6) (q0 := 0) rfl rfl) rfl hl.1 rfl (Nat.le_of_ble_eq_true rfl) dX5_digits_15 ⟨Nat.le_of_ble_eq_true rfl, Nat.le_of_ble_eq_true rfl⟩ (fun r9 hr9 => ?_)
      subst hr9
      refine lv_if_ne (tgt := 25) hx hb dX5_digits_18 (by decide) (fun c_4 => ?_) (fun c_4 => ?_)
      · skip
        have c_4 := bI_n0 c_4
        refine lv_aload_n hx hb dX5_digits_25 rfl (lv_at hl 0 rfl) ?_
        refine lv_iload_n hx hb dX5_digits_26 rfl (lv_at hl 1 rfl) ?_
        refine rd_callV (As := [.int 1]) (rest := []) ⟨hx, hb, hml, hown, hts⟩ (hE.rd hS) (c_X5_digitsOf_1 l dC dI h0 0 t1 len mo a4 a5 a6 my pu mi ms a11 a12 a13 kp sh mf a18 a19 a20 a21 a22 a23 cA sn kn la (by omega)) (cwV 1 hts gX5_digits_X5_digitsOf rfl rfl rfl (by decide +kernel) ⟨Nat.le_of_ble_eq_true rfl, Nat.le_of_ble_eq_true rfl⟩) (hP.sub (ws' := [(h0, .inr (6, [.int 0, .ref t1, .int (nI len), .int mo, .ref a4, .ref a5, .ref a6, .int (nI my), .int pu, .int mi, .int ms, .ref a11, .ref a12, .ref a13, .int (nI la), .int (nI kp), .int (nI sh), .int mf, .ref a18, .ref a19, .ref a20, .ref a21, .ref a22, .ref a23])), (a11, .inl (cA, 10200, .inl sn)), (a12, .inl (cA, 10200, .inl kn))]) [0, 1, 2] rfl) (hK.sub [0] rfl) (va_recv hK hP (ci := 6) (q0 := 0) rfl rfl) rfl hl.1 rfl (Nat.le_of_ble_eq_true rfl) dX5_digits_27 ⟨Nat.le_of_ble_eq_true rfl, Nat.le_of_ble_eq_true rfl⟩ (fun r9 hr9 => ?_)
        subst hr9
        have hmE : m_X5_digits sn kn la 1 = m_X5_digitsOf_1 sn kn la := by simp only [m_X5_digits, if_neg c_1, ↓reduceIte, if_neg c_4]
        exact wr_iret (v := m_X5_digitsOf_1 sn kn la) () hx hb hr hlocks hK hS (by rw [hmE]) hP hD dX5_digits_30
      · skip
        have c_4 := bI_0 c_4
        refine lv_iconst (v := (-1)) hx hb dX5_digits_21 (by decide) ?_
        refine lv_goto (tgt := 30) hx hb dX5_digits_22 (by decide) ?_
        have hmE : m_X5_digits sn kn la 1 = (-1) := by simp only [m_X5_digits, if_neg c_1, ↓reduceIte, if_pos c_4]
        exact wr_iret (v := (-1)) () hx hb hr hlocks hK hS (by rw [hmE]) hP hD dX5_digits_30
def m_X5_digits_n (sd : Int32) : Int32 := if sd = 0 then ((-1)) else (if sd = 1 then ((-1)) else ((-1)))
set_option maxHeartbeats 4000000 in
set_option maxRecDepth 100000 in
theorem c_X5_digits_n (l : Launch) (dC : Nat → ClassId) (dI : Nat → Nat → Nat) (h0 : Nat) (th : Int32) (t1 : Nat) (len : Nat) (mo : Int32) (a4 : Nat) (a5 : Nat) (a6 : Nat) (my : Nat) (pu : Int32) (mi : Int32) (ms : Int32) (a11 : Nat) (a12 : Nat) (a13 : Nat) (kp : Nat) (sh : Nat) (mf : Int32) (a18 : Nat) (a19 : Nat) (a20 : Nat) (a21 : Nat) (a22 : Nat) (a23 : Nat) (sd : Int32) (zz : Nat) : Met l yX5_digits wsX5_digits ({ frames := 1, cells := 0, slots := 0, locals := 20 } : Room) (va_Pc [.ref h0, .int sd] (wr_P (dC, dI) vwCl [(h0, .inr (6, [.int th, .ref t1, .int (nI len), .int mo, .ref a4, .ref a5, .ref a6, .int (nI my), .int pu, .int mi, .int ms, .ref a11, .ref a12, .ref a13, .int (-1), .int (nI kp), .int (nI sh), .int mf, .ref a18, .ref a19, .ref a20, .ref a21, .ref a22, .ref a23]))] [] zz)) (va_Qi (S := Unit) (fun r _ => r = m_X5_digits_n sd) (wr_B (dC, dI) vwCl (fun u9 => [(h0, .inr (6, [.int 0, .ref t1, .int (nI len), .int mo, .ref a4, .ref a5, .ref a6, .int (nI my), .int pu, .int mi, .int ms, .ref a11, .ref a12, .ref a13, .int (-1), .int (nI kp), .int (nI sh), .int mf, .ref a18, .ref a19, .ref a20, .ref a21, .ref a22, .ref a23]))]) [] (va_A [(h0, .inr (6, [.int th, .ref t1, .int (nI len), .int mo, .ref a4, .ref a5, .ref a6, .int (nI my), .int pu, .int mi, .int ms, .ref a11, .ref a12, .ref a13, .int (-1), .int (nI kp), .int (nI sh), .int mf, .ref a18, .ref a19, .ref a20, .ref a21, .ref a22, .ref a23]))] zz)) (va_A [(h0, .inr (6, [.int th, .ref t1, .int (nI len), .int mo, .ref a4, .ref a5, .ref a6, .int (nI my), .int pu, .int mi, .int ms, .ref a11, .ref a12, .ref a13, .int (-1), .int (nI kp), .int (nI sh), .int mf, .ref a18, .ref a19, .ref a20, .ref a21, .ref a22, .ref a23]))] zz)) 0 0 (va_A [(h0, .inr (6, [.int th, .ref t1, .int (nI len), .int mo, .ref a4, .ref a5, .ref a6, .int (nI my), .int pu, .int mi, .int ms, .ref a11, .ref a12, .ref a13, .int (-1), .int (nI kp), .int (nI sh), .int mf, .ref a18, .ref a19, .ref a20, .ref a21, .ref a22, .ref a23]))] zz) := by
  refine Met.ofW (cc := cX5_digits) (maxL := 2) (ret := (some .int)) (by decide) rfl ?_
  intro p e s m args below meth c s₁ B hml hv
  obtain ⟨rfl, hsz0, hE, hP, hK, hD0⟩ := hv
  have hx := B.exec
  have hb := B.bytes
  have hr := B.returns
  have hts := atoms_spec (ws := wsX5_digits) B.pre
  have hown : s.vm.findClass RX5 = some m.cls := findClass_of_methodNamed B.named
  have hlocks := B.notSynchronized
  subst hsz0
  have hD := hD0.self (sz := s.heap.size)
  generalize hAe : va_A [(h0, .inr (6, [.int th, .ref t1, .int (nI len), .int mo, .ref a4, .ref a5, .ref a6, .int (nI my), .int pu, .int mi, .int ms, .ref a11, .ref a12, .ref a13, .int (-1), .int (nI kp), .int (nI sh), .int mf, .ref a18, .ref a19, .ref a20, .ref a21, .ref a22, .ref a23]))] s.heap.size = A at hD hE ⊢
  have hA : ∀ q : Nat, s.heap.size ≤ q → A q := fun q h => by rw [← hAe]; exact Or.inr h
  have hS : va_S A s.heap s.heap [] := va_S.rf
  have hP : va_P (dC, dI) vwCl [(h0, .inr (6, [.int th, .ref t1, .int (nI len), .int mo, .ref a4, .ref a5, .ref a6, .int (nI my), .int pu, .int mi, .int ms, .ref a11, .ref a12, .ref a13, .int (-1), .int (nI kp), .int (nI sh), .int mf, .ref a18, .ref a19, .ref a20, .ref a21, .ref a22, .ref a23]))] s.heap := hP
  have hl := lv_entry ([.ref h0, .int sd]) (n := 2) (Nat.le_of_ble_eq_true rfl)
  rw [lg_entry_eq]
  generalize (lg_sl ([.ref h0, .int sd]) ++ List.replicate (2 - (lg_sl ([.ref h0, .int sd])).length) Slot.unset).toArray = ls at hl ⊢
  have hl : lv_has ls 2 [(0, .ref h0), (1, .int sd)] := hl
  refine lv_aload_n hx hb dX5_digits_0 rfl (lv_at hl 0 rfl) ?_
  refine lv_iconst (v := 0) hx hb dX5_digits_1 (by decide) ?_
  refine va_put (D := (dC, dI)) (ci := 6) (v := .int 0) (ty := .int) (C := RX5) (T := TX5) (N := 24) hx hb hts (by decide +kernel) tyX5 tyX5_ok nmX5 hown hK hP hD hS 0 rfl rfl 0 (by decide) (hts (.fieldLink RX5 69 "PictureRowsModel" "thrown" "I") (by decide +kernel)) (fun _ h9 => h9) rfl (by decide +kernel) rfl rfl (Nat.le_of_ble_eq_true rfl) dX5_digits_2 (fun H locs hP hD hS => ?_)
  have hP : va_P (dC, dI) vwCl [(h0, .inr (6, [.int 0, .ref t1, .int (nI len), .int mo, .ref a4, .ref a5, .ref a6, .int (nI my), .int pu, .int mi, .int ms, .ref a11, .ref a12, .ref a13, .int (-1), .int (nI kp), .int (nI sh), .int mf, .ref a18, .ref a19, .ref a20, .ref a21, .ref a22, .ref a23]))] H := hP
  have hD : va_D A [(h0, .inr (6, [.int 0, .ref t1, .int (nI len), .int mo, .ref a4, .ref a5, .ref a6, .int (nI my), .int pu, .int mi, .int ms, .ref a11, .ref a12, .ref a13, .int (-1), .int (nI kp), .int (nI sh), .int mf, .ref a18, .ref a19, .ref a20, .ref a21, .ref a22, .ref a23]))] := hD
  refine lv_iload_n hx hb dX5_digits_5 rfl (lv_at hl 1 rfl) ?_
  refine lv_if_eq (tgt := 14) hx hb dX5_digits_6 (by decide) (fun c_1 => ?_) (fun c_1 => ?_)
  · skip
    refine lv_aload_n hx hb dX5_digits_14 rfl (lv_at hl 0 rfl) ?_
    refine rd_callV (As := []) (rest := []) ⟨hx, hb, hml, hown, hts⟩ (hE.rd hS) (c_X5_isNumber_n l dC dI h0 0 t1 len mo a4 a5 a6 my pu mi ms a11 a12 a13 kp sh mf a18 a19 a20 a21 a22 a23 ) (cwV 0 hts gX5_digits_X5_isNumber rfl rfl rfl (by decide +kernel) ⟨Nat.le_of_ble_eq_true rfl, Nat.le_of_ble_eq_true rfl⟩) (hP.sub (ws' := [(h0, .inr (6, [.int 0, .ref t1, .int (nI len), .int mo, .ref a4, .ref a5, .ref a6, .int (nI my), .int pu, .int mi, .int ms, .ref a11, .ref a12, .ref a13, .int (-1), .int (nI kp), .int (nI sh), .int mf, .ref a18, .ref a19, .ref a20, .ref a21, .ref a22, .ref a23]))]) [0] rfl) (hK.sub [] rfl) (va_recv hK hP (ci := 6) (q0 := 0) rfl rfl) rfl hl.1 rfl (Nat.le_of_ble_eq_true rfl) dX5_digits_15 ⟨Nat.le_of_ble_eq_true rfl, Nat.le_of_ble_eq_true rfl⟩ (fun r9 hr9 => ?_)
    subst hr9
    refine lv_if_ne (tgt := 25) hx hb dX5_digits_18 (by decide) (fun c_2 => ?_) (fun c_2 => ?_)
    · skip
      have c_2 := bI_n0 c_2
      exfalso; exact absurd rfl (by assumption)
    · skip
      have c_2 := bI_0 c_2
      refine lv_iconst (v := (-1)) hx hb dX5_digits_21 (by decide) ?_
      refine lv_goto (tgt := 30) hx hb dX5_digits_22 (by decide) ?_
      have hmE : m_X5_digits_n sd = (-1) := by simp only [m_X5_digits_n, if_pos c_1]
      exact wr_iret (v := (-1)) () hx hb hr hlocks hK hS (by rw [hmE]) hP hD dX5_digits_30
  · skip
    refine lv_iload_n hx hb dX5_digits_9 rfl (lv_at hl 1 rfl) ?_
    refine lv_iconst (v := 1) hx hb dX5_digits_10 (by decide) ?_
    refine lv_icmp_ne (tgt := 21) hx hb dX5_digits_11 (by decide) (fun c_3 => ?_) (fun c_3 => ?_)
    · skip
      refine lv_iconst (v := (-1)) hx hb dX5_digits_21 (by decide) ?_
      refine lv_goto (tgt := 30) hx hb dX5_digits_22 (by decide) ?_
      have hmE : m_X5_digits_n sd = (-1) := by simp only [m_X5_digits_n, if_neg c_1, if_neg c_3]
      exact wr_iret (v := (-1)) () hx hb hr hlocks hK hS (by rw [hmE]) hP hD dX5_digits_30
    · skip
      refine lv_aload_n hx hb dX5_digits_14 rfl (lv_at hl 0 rfl) ?_
      refine rd_callV (As := []) (rest := []) ⟨hx, hb, hml, hown, hts⟩ (hE.rd hS) (c_X5_isNumber_n l dC dI h0 0 t1 len mo a4 a5 a6 my pu mi ms a11 a12 a13 kp sh mf a18 a19 a20 a21 a22 a23 ) (cwV 0 hts gX5_digits_X5_isNumber rfl rfl rfl (by decide +kernel) ⟨Nat.le_of_ble_eq_true rfl, Nat.le_of_ble_eq_true rfl⟩) (hP.sub (ws' := [(h0, .inr (6, [.int 0, .ref t1, .int (nI len), .int mo, .ref a4, .ref a5, .ref a6, .int (nI my), .int pu, .int mi, .int ms, .ref a11, .ref a12, .ref a13, .int (-1), .int (nI kp), .int (nI sh), .int mf, .ref a18, .ref a19, .ref a20, .ref a21, .ref a22, .ref a23]))]) [0] rfl) (hK.sub [] rfl) (va_recv hK hP (ci := 6) (q0 := 0) rfl rfl) rfl hl.1 rfl (Nat.le_of_ble_eq_true rfl) dX5_digits_15 ⟨Nat.le_of_ble_eq_true rfl, Nat.le_of_ble_eq_true rfl⟩ (fun r9 hr9 => ?_)
      subst hr9
      refine lv_if_ne (tgt := 25) hx hb dX5_digits_18 (by decide) (fun c_4 => ?_) (fun c_4 => ?_)
      · skip
        have c_4 := bI_n0 c_4
        exfalso; exact absurd rfl (by assumption)
      · skip
        have c_4 := bI_0 c_4
        refine lv_iconst (v := (-1)) hx hb dX5_digits_21 (by decide) ?_
        refine lv_goto (tgt := 30) hx hb dX5_digits_22 (by decide) ?_
        have hmE : m_X5_digits_n sd = (-1) := by simp only [m_X5_digits_n, if_neg c_1, if_pos c_3]
        exact wr_iret (v := (-1)) () hx hb hr hlocks hK hS (by rw [hmE]) hP hD dX5_digits_30
def m_X5_scale (sn : Nat → Int32) (kn : Nat → Int32) (la : Nat) : Int32 := if (m_X5_isNumber sn kn la) = false then 0 else (if (m_X5_ofKind kn la 17) ≤ 0 then (m_X5_digitsOf_1 sn kn la) else (0 - (m_X5_ofKind kn la 17)))
set_option maxHeartbeats 4000000 in
set_option maxRecDepth 100000 in
theorem c_X5_scale (l : Launch) (dC : Nat → ClassId) (dI : Nat → Nat → Nat) (h0 : Nat) (th : Int32) (t1 : Nat) (len : Nat) (mo : Int32) (a4 : Nat) (a5 : Nat) (a6 : Nat) (my : Nat) (pu : Int32) (mi : Int32) (ms : Int32) (a11 : Nat) (a12 : Nat) (a13 : Nat) (kp : Nat) (sh : Nat) (mf : Int32) (a18 : Nat) (a19 : Nat) (a20 : Nat) (a21 : Nat) (a22 : Nat) (a23 : Nat) (cA : ClassId) (sn : Nat → Int32) (kn : Nat → Int32) (la : Nat) (zz : Nat) (hla : la ≤ 10200) : Met l yX5_scale wsX5_scale ({ frames := 3, cells := 0, slots := 0, locals := 66 } : Room) (va_Pc [.ref h0] (wr_P (dC, dI) vwCl [(h0, .inr (6, [.int th, .ref t1, .int (nI len), .int mo, .ref a4, .ref a5, .ref a6, .int (nI my), .int pu, .int mi, .int ms, .ref a11, .ref a12, .ref a13, .int (nI la), .int (nI kp), .int (nI sh), .int mf, .ref a18, .ref a19, .ref a20, .ref a21, .ref a22, .ref a23])), (a11, .inl (cA, 10200, .inl sn)), (a12, .inl (cA, 10200, .inl kn))] [(cA, .int)] zz)) (va_Qi (S := Unit) (fun r _ => r = m_X5_scale sn kn la) (wr_B (dC, dI) vwCl (fun u9 => [(h0, .inr (6, [.int 0, .ref t1, .int (nI len), .int mo, .ref a4, .ref a5, .ref a6, .int (nI my), .int pu, .int mi, .int ms, .ref a11, .ref a12, .ref a13, .int (nI la), .int (nI kp), .int (nI sh), .int mf, .ref a18, .ref a19, .ref a20, .ref a21, .ref a22, .ref a23])), (a11, .inl (cA, 10200, .inl sn)), (a12, .inl (cA, 10200, .inl kn))]) [(cA, .int)] (va_A [(h0, .inr (6, [.int th, .ref t1, .int (nI len), .int mo, .ref a4, .ref a5, .ref a6, .int (nI my), .int pu, .int mi, .int ms, .ref a11, .ref a12, .ref a13, .int (nI la), .int (nI kp), .int (nI sh), .int mf, .ref a18, .ref a19, .ref a20, .ref a21, .ref a22, .ref a23])), (a11, .inl (cA, 10200, .inl sn)), (a12, .inl (cA, 10200, .inl kn))] zz)) (va_A [(h0, .inr (6, [.int th, .ref t1, .int (nI len), .int mo, .ref a4, .ref a5, .ref a6, .int (nI my), .int pu, .int mi, .int ms, .ref a11, .ref a12, .ref a13, .int (nI la), .int (nI kp), .int (nI sh), .int mf, .ref a18, .ref a19, .ref a20, .ref a21, .ref a22, .ref a23])), (a11, .inl (cA, 10200, .inl sn)), (a12, .inl (cA, 10200, .inl kn))] zz)) 0 0 (va_A [(h0, .inr (6, [.int th, .ref t1, .int (nI len), .int mo, .ref a4, .ref a5, .ref a6, .int (nI my), .int pu, .int mi, .int ms, .ref a11, .ref a12, .ref a13, .int (nI la), .int (nI kp), .int (nI sh), .int mf, .ref a18, .ref a19, .ref a20, .ref a21, .ref a22, .ref a23])), (a11, .inl (cA, 10200, .inl sn)), (a12, .inl (cA, 10200, .inl kn))] zz) := by
  refine Met.ofW (cc := cX5_scale) (maxL := 1) (ret := (some .int)) (by decide) rfl ?_
  intro p e s m args below meth c s₁ B hml hv
  obtain ⟨rfl, hsz0, hE, hP, hK, hD0⟩ := hv
  have hx := B.exec
  have hb := B.bytes
  have hr := B.returns
  have hts := atoms_spec (ws := wsX5_scale) B.pre
  have hown : s.vm.findClass RX5 = some m.cls := findClass_of_methodNamed B.named
  have hlocks := B.notSynchronized
  subst hsz0
  have hD := hD0.self (sz := s.heap.size)
  generalize hAe : va_A [(h0, .inr (6, [.int th, .ref t1, .int (nI len), .int mo, .ref a4, .ref a5, .ref a6, .int (nI my), .int pu, .int mi, .int ms, .ref a11, .ref a12, .ref a13, .int (nI la), .int (nI kp), .int (nI sh), .int mf, .ref a18, .ref a19, .ref a20, .ref a21, .ref a22, .ref a23])), (a11, .inl (cA, 10200, .inl sn)), (a12, .inl (cA, 10200, .inl kn))] s.heap.size = A at hD hE ⊢
  have hA : ∀ q : Nat, s.heap.size ≤ q → A q := fun q h => by rw [← hAe]; exact Or.inr h
  have hS : va_S A s.heap s.heap [] := va_S.rf
  have hP : va_P (dC, dI) vwCl [(h0, .inr (6, [.int th, .ref t1, .int (nI len), .int mo, .ref a4, .ref a5, .ref a6, .int (nI my), .int pu, .int mi, .int ms, .ref a11, .ref a12, .ref a13, .int (nI la), .int (nI kp), .int (nI sh), .int mf, .ref a18, .ref a19, .ref a20, .ref a21, .ref a22, .ref a23])), (a11, .inl (cA, 10200, .inl sn)), (a12, .inl (cA, 10200, .inl kn))] s.heap := hP
  have hl := lv_entry ([.ref h0]) (n := 1) (Nat.le_of_ble_eq_true rfl)
  rw [lg_entry_eq]
  generalize (lg_sl ([.ref h0]) ++ List.replicate (1 - (lg_sl ([.ref h0])).length) Slot.unset).toArray = ls at hl ⊢
  have hl : lv_has ls 1 [(0, .ref h0)] := hl
  refine lv_aload_n hx hb dX5_scale_0 rfl (lv_at hl 0 rfl) ?_
  refine lv_iconst (v := 0) hx hb dX5_scale_1 (by decide) ?_
  refine va_put (D := (dC, dI)) (ci := 6) (v := .int 0) (ty := .int) (C := RX5) (T := TX5) (N := 24) hx hb hts (by decide +kernel) tyX5 tyX5_ok nmX5 hown hK hP hD hS 0 rfl rfl 0 (by decide) (hts (.fieldLink RX5 69 "PictureRowsModel" "thrown" "I") (by decide +kernel)) (fun _ h9 => h9) rfl (by decide +kernel) rfl rfl (Nat.le_of_ble_eq_true rfl) dX5_scale_2 (fun H locs hP hD hS => ?_)
  have hP : va_P (dC, dI) vwCl [(h0, .inr (6, [.int 0, .ref t1, .int (nI len), .int mo, .ref a4, .ref a5, .ref a6, .int (nI my), .int pu, .int mi, .int ms, .ref a11, .ref a12, .ref a13, .int (nI la), .int (nI kp), .int (nI sh), .int mf, .ref a18, .ref a19, .ref a20, .ref a21, .ref a22, .ref a23])), (a11, .inl (cA, 10200, .inl sn)), (a12, .inl (cA, 10200, .inl kn))] H := hP
  have hD : va_D A [(h0, .inr (6, [.int 0, .ref t1, .int (nI len), .int mo, .ref a4, .ref a5, .ref a6, .int (nI my), .int pu, .int mi, .int ms, .ref a11, .ref a12, .ref a13, .int (nI la), .int (nI kp), .int (nI sh), .int mf, .ref a18, .ref a19, .ref a20, .ref a21, .ref a22, .ref a23])), (a11, .inl (cA, 10200, .inl sn)), (a12, .inl (cA, 10200, .inl kn))] := hD
  refine lv_aload_n hx hb dX5_scale_5 rfl (lv_at hl 0 rfl) ?_
  refine rd_callV (As := []) (rest := []) ⟨hx, hb, hml, hown, hts⟩ (hE.rd hS) (c_X5_isNumber l dC dI h0 0 t1 len mo a4 a5 a6 my pu mi ms a11 a12 a13 kp sh mf a18 a19 a20 a21 a22 a23 cA sn kn la (by omega)) (cwV 0 hts gX5_scale_X5_isNumber rfl rfl rfl (by decide +kernel) ⟨Nat.le_of_ble_eq_true rfl, Nat.le_of_ble_eq_true rfl⟩) (hP.sub (ws' := [(h0, .inr (6, [.int 0, .ref t1, .int (nI len), .int mo, .ref a4, .ref a5, .ref a6, .int (nI my), .int pu, .int mi, .int ms, .ref a11, .ref a12, .ref a13, .int (nI la), .int (nI kp), .int (nI sh), .int mf, .ref a18, .ref a19, .ref a20, .ref a21, .ref a22, .ref a23])), (a11, .inl (cA, 10200, .inl sn)), (a12, .inl (cA, 10200, .inl kn))]) [0, 1, 2] rfl) (hK.sub [0] rfl) (va_recv hK hP (ci := 6) (q0 := 0) rfl rfl) rfl hl.1 rfl (Nat.le_of_ble_eq_true rfl) dX5_scale_6 ⟨Nat.le_of_ble_eq_true rfl, Nat.le_of_ble_eq_true rfl⟩ (fun r9 hr9 => ?_)
  subst hr9
  refine lv_if_ne (tgt := 14) hx hb dX5_scale_9 (by decide) (fun c_1 => ?_) (fun c_1 => ?_)
  · skip
    have c_1 := bI_n0 c_1
    refine lv_aload_n hx hb dX5_scale_14 rfl (lv_at hl 0 rfl) ?_
    refine lv_bipush (v := 17) hx hb dX5_scale_15 (by decide) ?_
    refine rd_callV (As := [.int 17]) (rest := []) ⟨hx, hb, hml, hown, hts⟩ (hE.rd hS) (c_X5_ofKind l dC dI h0 0 t1 len mo a4 a5 a6 my pu mi ms a11 a12 a13 kp sh mf a18 a19 a20 a21 a22 a23 cA kn la 17 (by omega)) (cwV 1 hts gX5_scale_X5_ofKind rfl rfl rfl (by decide +kernel) ⟨Nat.le_of_ble_eq_true rfl, Nat.le_of_ble_eq_true rfl⟩) (hP.sub (ws' := [(h0, .inr (6, [.int 0, .ref t1, .int (nI len), .int mo, .ref a4, .ref a5, .ref a6, .int (nI my), .int pu, .int mi, .int ms, .ref a11, .ref a12, .ref a13, .int (nI la), .int (nI kp), .int (nI sh), .int mf, .ref a18, .ref a19, .ref a20, .ref a21, .ref a22, .ref a23])), (a12, .inl (cA, 10200, .inl kn))]) [0, 2] rfl) (hK.sub [0] rfl) (va_recv hK hP (ci := 6) (q0 := 0) rfl rfl) rfl hl.1 rfl (Nat.le_of_ble_eq_true rfl) dX5_scale_17 ⟨Nat.le_of_ble_eq_true rfl, Nat.le_of_ble_eq_true rfl⟩ (fun r9 hr9 => ?_)
    subst hr9
    refine lv_if_le (tgt := 34) hx hb dX5_scale_20 (by decide) (fun c_2 => ?_) (fun c_2 => ?_)
    · skip
      refine lv_aload_n hx hb dX5_scale_34 rfl (lv_at hl 0 rfl) ?_
      refine lv_iconst (v := 1) hx hb dX5_scale_35 (by decide) ?_
      refine rd_callV (As := [.int 1]) (rest := []) ⟨hx, hb, hml, hown, hts⟩ (hE.rd hS) (c_X5_digitsOf_1 l dC dI h0 0 t1 len mo a4 a5 a6 my pu mi ms a11 a12 a13 kp sh mf a18 a19 a20 a21 a22 a23 cA sn kn la (by omega)) (cwV 1 hts gX5_scale_X5_digitsOf rfl rfl rfl (by decide +kernel) ⟨Nat.le_of_ble_eq_true rfl, Nat.le_of_ble_eq_true rfl⟩) (hP.sub (ws' := [(h0, .inr (6, [.int 0, .ref t1, .int (nI len), .int mo, .ref a4, .ref a5, .ref a6, .int (nI my), .int pu, .int mi, .int ms, .ref a11, .ref a12, .ref a13, .int (nI la), .int (nI kp), .int (nI sh), .int mf, .ref a18, .ref a19, .ref a20, .ref a21, .ref a22, .ref a23])), (a11, .inl (cA, 10200, .inl sn)), (a12, .inl (cA, 10200, .inl kn))]) [0, 1, 2] rfl) (hK.sub [0] rfl) (va_recv hK hP (ci := 6) (q0 := 0) rfl rfl) rfl hl.1 rfl (Nat.le_of_ble_eq_true rfl) dX5_scale_36 ⟨Nat.le_of_ble_eq_true rfl, Nat.le_of_ble_eq_true rfl⟩ (fun r9 hr9 => ?_)
      subst hr9
      have hmE : m_X5_scale sn kn la = m_X5_digitsOf_1 sn kn la := by simp only [m_X5_scale, if_neg c_1, if_pos c_2]
      exact wr_iret (v := m_X5_digitsOf_1 sn kn la) () hx hb hr hlocks hK hS (by rw [hmE]) hP hD dX5_scale_39
    · skip
      refine lv_iconst (v := 0) hx hb dX5_scale_23 (by decide) ?_
      refine lv_aload_n hx hb dX5_scale_24 rfl (lv_at hl 0 rfl) ?_
      refine lv_bipush (v := 17) hx hb dX5_scale_25 (by decide) ?_
      refine rd_callV (As := [.int 17]) (rest := [.int 0]) ⟨hx, hb, hml, hown, hts⟩ (hE.rd hS) (c_X5_ofKind l dC dI h0 0 t1 len mo a4 a5 a6 my pu mi ms a11 a12 a13 kp sh mf a18 a19 a20 a21 a22 a23 cA kn la 17 (by omega)) (cwV 1 hts gX5_scale_X5_ofKind rfl rfl rfl (by decide +kernel) ⟨Nat.le_of_ble_eq_true rfl, Nat.le_of_ble_eq_true rfl⟩) (hP.sub (ws' := [(h0, .inr (6, [.int 0, .ref t1, .int (nI len), .int mo, .ref a4, .ref a5, .ref a6, .int (nI my), .int pu, .int mi, .int ms, .ref a11, .ref a12, .ref a13, .int (nI la), .int (nI kp), .int (nI sh), .int mf, .ref a18, .ref a19, .ref a20, .ref a21, .ref a22, .ref a23])), (a12, .inl (cA, 10200, .inl kn))]) [0, 2] rfl) (hK.sub [0] rfl) (va_recv hK hP (ci := 6) (q0 := 0) rfl rfl) rfl hl.1 rfl (Nat.le_of_ble_eq_true rfl) dX5_scale_27 ⟨Nat.le_of_ble_eq_true rfl, Nat.le_of_ble_eq_true rfl⟩ (fun r9 hr9 => ?_)
      subst hr9
      refine lv_isub hx hb dX5_scale_30 ?_
      refine lv_goto (tgt := 39) hx hb dX5_scale_31 (by decide) ?_
      have hmE : m_X5_scale sn kn la = 0 - (m_X5_ofKind kn la 17) := by simp only [m_X5_scale, if_neg c_1, if_neg c_2]
      exact wr_iret (v := 0 - (m_X5_ofKind kn la 17)) () hx hb hr hlocks hK hS (by rw [hmE]) hP hD dX5_scale_39
  · skip
    have c_1 := bI_0 c_1
    refine lv_iconst (v := 0) hx hb dX5_scale_12 (by decide) ?_
    have hmE : m_X5_scale sn kn la = 0 := by simp only [m_X5_scale, if_pos c_1]
    exact wr_iret (v := 0) () hx hb hr hlocks hK hS (by rw [hmE]) hP hD dX5_scale_13
def m_X5_scale_n : Int32 := 0
set_option maxHeartbeats 4000000 in
set_option maxRecDepth 100000 in
theorem c_X5_scale_n (l : Launch) (dC : Nat → ClassId) (dI : Nat → Nat → Nat) (h0 : Nat) (th : Int32) (t1 : Nat) (len : Nat) (mo : Int32) (a4 : Nat) (a5 : Nat) (a6 : Nat) (my : Nat) (pu : Int32) (mi : Int32) (ms : Int32) (a11 : Nat) (a12 : Nat) (a13 : Nat) (kp : Nat) (sh : Nat) (mf : Int32) (a18 : Nat) (a19 : Nat) (a20 : Nat) (a21 : Nat) (a22 : Nat) (a23 : Nat) (zz : Nat) : Met l yX5_scale wsX5_scale ({ frames := 1, cells := 0, slots := 0, locals := 20 } : Room) (va_Pc [.ref h0] (wr_P (dC, dI) vwCl [(h0, .inr (6, [.int th, .ref t1, .int (nI len), .int mo, .ref a4, .ref a5, .ref a6, .int (nI my), .int pu, .int mi, .int ms, .ref a11, .ref a12, .ref a13, .int (-1), .int (nI kp), .int (nI sh), .int mf, .ref a18, .ref a19, .ref a20, .ref a21, .ref a22, .ref a23]))] [] zz)) (va_Qi (S := Unit) (fun r _ => r = m_X5_scale_n) (wr_B (dC, dI) vwCl (fun u9 => [(h0, .inr (6, [.int 0, .ref t1, .int (nI len), .int mo, .ref a4, .ref a5, .ref a6, .int (nI my), .int pu, .int mi, .int ms, .ref a11, .ref a12, .ref a13, .int (-1), .int (nI kp), .int (nI sh), .int mf, .ref a18, .ref a19, .ref a20, .ref a21, .ref a22, .ref a23]))]) [] (va_A [(h0, .inr (6, [.int th, .ref t1, .int (nI len), .int mo, .ref a4, .ref a5, .ref a6, .int (nI my), .int pu, .int mi, .int ms, .ref a11, .ref a12, .ref a13, .int (-1), .int (nI kp), .int (nI sh), .int mf, .ref a18, .ref a19, .ref a20, .ref a21, .ref a22, .ref a23]))] zz)) (va_A [(h0, .inr (6, [.int th, .ref t1, .int (nI len), .int mo, .ref a4, .ref a5, .ref a6, .int (nI my), .int pu, .int mi, .int ms, .ref a11, .ref a12, .ref a13, .int (-1), .int (nI kp), .int (nI sh), .int mf, .ref a18, .ref a19, .ref a20, .ref a21, .ref a22, .ref a23]))] zz)) 0 0 (va_A [(h0, .inr (6, [.int th, .ref t1, .int (nI len), .int mo, .ref a4, .ref a5, .ref a6, .int (nI my), .int pu, .int mi, .int ms, .ref a11, .ref a12, .ref a13, .int (-1), .int (nI kp), .int (nI sh), .int mf, .ref a18, .ref a19, .ref a20, .ref a21, .ref a22, .ref a23]))] zz) := by
  refine Met.ofW (cc := cX5_scale) (maxL := 1) (ret := (some .int)) (by decide) rfl ?_
  intro p e s m args below meth c s₁ B hml hv
  obtain ⟨rfl, hsz0, hE, hP, hK, hD0⟩ := hv
  have hx := B.exec
  have hb := B.bytes
  have hr := B.returns
  have hts := atoms_spec (ws := wsX5_scale) B.pre
  have hown : s.vm.findClass RX5 = some m.cls := findClass_of_methodNamed B.named
  have hlocks := B.notSynchronized
  subst hsz0
  have hD := hD0.self (sz := s.heap.size)
  generalize hAe : va_A [(h0, .inr (6, [.int th, .ref t1, .int (nI len), .int mo, .ref a4, .ref a5, .ref a6, .int (nI my), .int pu, .int mi, .int ms, .ref a11, .ref a12, .ref a13, .int (-1), .int (nI kp), .int (nI sh), .int mf, .ref a18, .ref a19, .ref a20, .ref a21, .ref a22, .ref a23]))] s.heap.size = A at hD hE ⊢
  have hA : ∀ q : Nat, s.heap.size ≤ q → A q := fun q h => by rw [← hAe]; exact Or.inr h
  have hS : va_S A s.heap s.heap [] := va_S.rf
  have hP : va_P (dC, dI) vwCl [(h0, .inr (6, [.int th, .ref t1, .int (nI len), .int mo, .ref a4, .ref a5, .ref a6, .int (nI my), .int pu, .int mi, .int ms, .ref a11, .ref a12, .ref a13, .int (-1), .int (nI kp), .int (nI sh), .int mf, .ref a18, .ref a19, .ref a20, .ref a21, .ref a22, .ref a23]))] s.heap := hP
  have hl := lv_entry ([.ref h0]) (n := 1) (Nat.le_of_ble_eq_true rfl)
  rw [lg_entry_eq]
  generalize (lg_sl ([.ref h0]) ++ List.replicate (1 - (lg_sl ([.ref h0])).length) Slot.unset).toArray = ls at hl ⊢
  have hl : lv_has ls 1 [(0, .ref h0)] := hl
  refine lv_aload_n hx hb dX5_scale_0 rfl (lv_at hl 0 rfl) ?_
  refine lv_iconst (v := 0) hx hb dX5_scale_1 (by decide) ?_
  refine va_put (D := (dC, dI)) (ci := 6) (v := .int 0) (ty := .int) (C := RX5) (T := TX5) (N := 24) hx hb hts (by decide +kernel) tyX5 tyX5_ok nmX5 hown hK hP hD hS 0 rfl rfl 0 (by decide) (hts (.fieldLink RX5 69 "PictureRowsModel" "thrown" "I") (by decide +kernel)) (fun _ h9 => h9) rfl (by decide +kernel) rfl rfl (Nat.le_of_ble_eq_true rfl) dX5_scale_2 (fun H locs hP hD hS => ?_)
  have hP : va_P (dC, dI) vwCl [(h0, .inr (6, [.int 0, .ref t1, .int (nI len), .int mo, .ref a4, .ref a5, .ref a6, .int (nI my), .int pu, .int mi, .int ms, .ref a11, .ref a12, .ref a13, .int (-1), .int (nI kp), .int (nI sh), .int mf, .ref a18, .ref a19, .ref a20, .ref a21, .ref a22, .ref a23]))] H := hP
  have hD : va_D A [(h0, .inr (6, [.int 0, .ref t1, .int (nI len), .int mo, .ref a4, .ref a5, .ref a6, .int (nI my), .int pu, .int mi, .int ms, .ref a11, .ref a12, .ref a13, .int (-1), .int (nI kp), .int (nI sh), .int mf, .ref a18, .ref a19, .ref a20, .ref a21, .ref a22, .ref a23]))] := hD
  refine lv_aload_n hx hb dX5_scale_5 rfl (lv_at hl 0 rfl) ?_
  refine rd_callV (As := []) (rest := []) ⟨hx, hb, hml, hown, hts⟩ (hE.rd hS) (c_X5_isNumber_n l dC dI h0 0 t1 len mo a4 a5 a6 my pu mi ms a11 a12 a13 kp sh mf a18 a19 a20 a21 a22 a23 ) (cwV 0 hts gX5_scale_X5_isNumber rfl rfl rfl (by decide +kernel) ⟨Nat.le_of_ble_eq_true rfl, Nat.le_of_ble_eq_true rfl⟩) (hP.sub (ws' := [(h0, .inr (6, [.int 0, .ref t1, .int (nI len), .int mo, .ref a4, .ref a5, .ref a6, .int (nI my), .int pu, .int mi, .int ms, .ref a11, .ref a12, .ref a13, .int (-1), .int (nI kp), .int (nI sh), .int mf, .ref a18, .ref a19, .ref a20, .ref a21, .ref a22, .ref a23]))]) [0] rfl) (hK.sub [] rfl) (va_recv hK hP (ci := 6) (q0 := 0) rfl rfl) rfl hl.1 rfl (Nat.le_of_ble_eq_true rfl) dX5_scale_6 ⟨Nat.le_of_ble_eq_true rfl, Nat.le_of_ble_eq_true rfl⟩ (fun r9 hr9 => ?_)
  subst hr9
  refine lv_if_ne (tgt := 14) hx hb dX5_scale_9 (by decide) (fun c_1 => ?_) (fun c_1 => ?_)
  · skip
    have c_1 := bI_n0 c_1
    exfalso; exact absurd rfl (by assumption)
  · skip
    have c_1 := bI_0 c_1
    refine lv_iconst (v := 0) hx hb dX5_scale_12 (by decide) ?_
    have hmE : m_X5_scale_n = 0 := by simp only [m_X5_scale_n]
    exact wr_iret (v := 0) () hx hb hr hlocks hK hS (by rw [hmE]) hP hD dX5_scale_13
def m_X5_follows_j25_s0 (a : Int32) (b : Int32) : Bool := if a < 0 then false else (if 19 ≤ a then false else (if b < 0 then false else (if 19 ≤ b then false else true)))
def m_X5_follows_j36_s0 (a : Int32) (b : Int32) : Bool := if (m_X5_follows_j25_s0 a b) = false then true else false
def m_X5_follows (tb : Nat → Int32) (a : Int32) (b : Int32) : Bool × Int32 := if (m_X5_follows_j25_s0 a b) = false then ((false, bI (m_X5_follows_j36_s0 a b))) else (if (((tb a.toNatClampNeg) >>> (b &&& 31)) &&& 1) = 1 then ((true, bI (m_X5_follows_j36_s0 a b))) else ((false, bI (m_X5_follows_j36_s0 a b))))
theorem fol_in {a b : Int32} (h : ¬ m_X5_follows_j25_s0 a b = false) : vp_in a 19 := by
  unfold m_X5_follows_j25_s0 at h
  by_cases q : a < 0
  · rw [if_pos q] at h; exact absurd rfl h
  · rw [if_neg q] at h
    by_cases r : 19 ≤ a
    · rw [if_pos r] at h; exact absurd rfl h
    · exact rg_in (N := 19) (by decide) q r
set_option maxHeartbeats 4000000 in
set_option maxRecDepth 100000 in
theorem c_X5_follows (l : Launch) (dC : Nat → ClassId) (dI : Nat → Nat → Nat) (h0 : Nat) (th : Int32) (t1 : Nat) (len : Nat) (mo : Int32) (a4 : Nat) (a5 : Nat) (a6 : Nat) (my : Nat) (pu : Int32) (mi : Int32) (ms : Int32) (a11 : Nat) (a12 : Nat) (a13 : Nat) (la : Int32) (kp : Nat) (sh : Nat) (mf : Int32) (a18 : Nat) (a19 : Nat) (a20 : Nat) (a21 : Nat) (a22 : Nat) (a23 : Nat) (cA : ClassId) (tb : Nat → Int32) (a : Int32) (b : Int32) (zz : Nat) : Met l yX5_follows wsX5_follows ({ frames := 0, cells := 0, slots := 0, locals := 0 } : Room) (va_Pc [.ref h0, .int a, .int b] (wr_P (dC, dI) vwCl [(h0, .inr (6, [.int th, .ref t1, .int (nI len), .int mo, .ref a4, .ref a5, .ref a6, .int (nI my), .int pu, .int mi, .int ms, .ref a11, .ref a12, .ref a13, .int la, .int (nI kp), .int (nI sh), .int mf, .ref a18, .ref a19, .ref a20, .ref a21, .ref a22, .ref a23])), (a21, .inl (cA, 19, .inl tb))] [(cA, .int)] zz)) (va_Qi (S := Unit) (fun r _ => r = bI ((m_X5_follows tb a b).1)) (wr_B (dC, dI) vwCl (fun u9 => [(h0, .inr (6, [.int ((m_X5_follows tb a b).2), .ref t1, .int (nI len), .int mo, .ref a4, .ref a5, .ref a6, .int (nI my), .int pu, .int mi, .int ms, .ref a11, .ref a12, .ref a13, .int la, .int (nI kp), .int (nI sh), .int mf, .ref a18, .ref a19, .ref a20, .ref a21, .ref a22, .ref a23])), (a21, .inl (cA, 19, .inl tb))]) [(cA, .int)] (va_A [(h0, .inr (6, [.int th, .ref t1, .int (nI len), .int mo, .ref a4, .ref a5, .ref a6, .int (nI my), .int pu, .int mi, .int ms, .ref a11, .ref a12, .ref a13, .int la, .int (nI kp), .int (nI sh), .int mf, .ref a18, .ref a19, .ref a20, .ref a21, .ref a22, .ref a23])), (a21, .inl (cA, 19, .inl tb))] zz)) (va_A [(h0, .inr (6, [.int th, .ref t1, .int (nI len), .int mo, .ref a4, .ref a5, .ref a6, .int (nI my), .int pu, .int mi, .int ms, .ref a11, .ref a12, .ref a13, .int la, .int (nI kp), .int (nI sh), .int mf, .ref a18, .ref a19, .ref a20, .ref a21, .ref a22, .ref a23])), (a21, .inl (cA, 19, .inl tb))] zz)) 0 0 (va_A [(h0, .inr (6, [.int th, .ref t1, .int (nI len), .int mo, .ref a4, .ref a5, .ref a6, .int (nI my), .int pu, .int mi, .int ms, .ref a11, .ref a12, .ref a13, .int la, .int (nI kp), .int (nI sh), .int mf, .ref a18, .ref a19, .ref a20, .ref a21, .ref a22, .ref a23])), (a21, .inl (cA, 19, .inl tb))] zz) := by
  refine Met.ofW (cc := cX5_follows) (maxL := 4) (ret := (some .boolean)) (by decide) rfl ?_
  intro p e s m args below meth c s₁ B hml hv
  obtain ⟨rfl, hsz0, hE, hP, hK, hD0⟩ := hv
  have hx := B.exec
  have hb := B.bytes
  have hr := B.returns
  have hts := atoms_spec (ws := wsX5_follows) B.pre
  have hown : s.vm.findClass RX5 = some m.cls := findClass_of_methodNamed B.named
  have hlocks := B.notSynchronized
  subst hsz0
  have hD := hD0.self (sz := s.heap.size)
  generalize hAe : va_A [(h0, .inr (6, [.int th, .ref t1, .int (nI len), .int mo, .ref a4, .ref a5, .ref a6, .int (nI my), .int pu, .int mi, .int ms, .ref a11, .ref a12, .ref a13, .int la, .int (nI kp), .int (nI sh), .int mf, .ref a18, .ref a19, .ref a20, .ref a21, .ref a22, .ref a23])), (a21, .inl (cA, 19, .inl tb))] s.heap.size = A at hD hE ⊢
  have hA : ∀ q : Nat, s.heap.size ≤ q → A q := fun q h => by rw [← hAe]; exact Or.inr h
  have hS : va_S A s.heap s.heap [] := va_S.rf
  have hP : va_P (dC, dI) vwCl [(h0, .inr (6, [.int th, .ref t1, .int (nI len), .int mo, .ref a4, .ref a5, .ref a6, .int (nI my), .int pu, .int mi, .int ms, .ref a11, .ref a12, .ref a13, .int la, .int (nI kp), .int (nI sh), .int mf, .ref a18, .ref a19, .ref a20, .ref a21, .ref a22, .ref a23])), (a21, .inl (cA, 19, .inl tb))] s.heap := hP
  have hl := lv_entry ([.ref h0, .int a, .int b]) (n := 4) (Nat.le_of_ble_eq_true rfl)
  rw [lg_entry_eq]
  generalize (lg_sl ([.ref h0, .int a, .int b]) ++ List.replicate (4 - (lg_sl ([.ref h0, .int a, .int b])).length) Slot.unset).toArray = ls at hl ⊢
  have hl : lv_has ls 4 [(0, .ref h0), (1, .int a), (2, .int b)] := hl
  refine lv_iload_n hx hb dX5_follows_0 rfl (lv_at hl 1 rfl) ?_
  have j_1 : ∀ (y0_j_1 : Bool), y0_j_1 = m_X5_follows_j25_s0 a b → ∀ (ls : Array Slot), lv_has ls 4 [(0, .ref h0), (1, .int a), (2, .int b)] → W p l e (headSpec wsX5_follows ({ frames := 0, cells := 0, slots := 0, locals := 0 } : Room)).room s m (([.ref h0, .int a, .int b] : List Value).toArray) below meth c s.heap [] 0 0 (MQ below (va_Qi (S := Unit) (fun r _ => r = bI ((m_X5_follows tb a b).1)) (wr_B (dC, dI) vwCl (fun u9 => [(h0, .inr (6, [.int ((m_X5_follows tb a b).2), .ref t1, .int (nI len), .int mo, .ref a4, .ref a5, .ref a6, .int (nI my), .int pu, .int mi, .int ms, .ref a11, .ref a12, .ref a13, .int la, .int (nI kp), .int (nI sh), .int mf, .ref a18, .ref a19, .ref a20, .ref a21, .ref a22, .ref a23])), (a21, .inl (cA, 19, .inl tb))]) [(cA, .int)] A) A) (([.ref h0, .int a, .int b] : List Value).toArray) s 0 0 A) (F0 m 25 ls [.int (bI y0_j_1)]) := by
    intro y0_j_1 ey0_j_1 ls hl
    subst ey0_j_1
    refine lv_istore_n (lv' := [(3, .int (bI (m_X5_follows_j25_s0 a b))), (0, .ref h0), (1, .int a), (2, .int b)]) hx hb dX5_follows_25 rfl hl (by decide) rfl (fun ls hl => ?_)
    refine lv_aload_n hx hb dX5_follows_26 rfl (lv_at hl 1 rfl) ?_
    refine lv_iload_n hx hb dX5_follows_27 rfl (lv_at hl 0 rfl) ?_
    have j_2 : ∀ (y0_j_2 : Bool), y0_j_2 = m_X5_follows_j36_s0 a b → ∀ (ls : Array Slot), lv_has ls 4 [(0, .ref h0), (1, .int a), (2, .int b), (3, .int (bI (m_X5_follows_j25_s0 a b)))] → W p l e (headSpec wsX5_follows ({ frames := 0, cells := 0, slots := 0, locals := 0 } : Room)).room s m (([.ref h0, .int a, .int b] : List Value).toArray) below meth c s.heap [] 0 0 (MQ below (va_Qi (S := Unit) (fun r _ => r = bI ((m_X5_follows tb a b).1)) (wr_B (dC, dI) vwCl (fun u9 => [(h0, .inr (6, [.int ((m_X5_follows tb a b).2), .ref t1, .int (nI len), .int mo, .ref a4, .ref a5, .ref a6, .int (nI my), .int pu, .int mi, .int ms, .ref a11, .ref a12, .ref a13, .int la, .int (nI kp), .int (nI sh), .int mf, .ref a18, .ref a19, .ref a20, .ref a21, .ref a22, .ref a23])), (a21, .inl (cA, 19, .inl tb))]) [(cA, .int)] A) A) (([.ref h0, .int a, .int b] : List Value).toArray) s 0 0 A) (F0 m 36 ls [.int (bI y0_j_2), .ref h0]) := by
      intro y0_j_2 ey0_j_2 ls hl
      subst ey0_j_2
      refine va_put (D := (dC, dI)) (ci := 6) (v := .int (bI (m_X5_follows_j36_s0 a b))) (ty := .int) (C := RX5) (T := TX5) (N := 24) hx hb hts (by decide +kernel) tyX5 tyX5_ok nmX5 hown hK hP hD hS 0 rfl rfl 0 (by decide) (hts (.fieldLink RX5 69 "PictureRowsModel" "thrown" "I") (by decide +kernel)) (fun _ h9 => h9) rfl (by decide +kernel) rfl rfl (Nat.le_of_ble_eq_true rfl) dX5_follows_36 (fun H locs hP hD hS => ?_)
      have hP : va_P (dC, dI) vwCl [(h0, .inr (6, [.int (bI (m_X5_follows_j36_s0 a b)), .ref t1, .int (nI len), .int mo, .ref a4, .ref a5, .ref a6, .int (nI my), .int pu, .int mi, .int ms, .ref a11, .ref a12, .ref a13, .int la, .int (nI kp), .int (nI sh), .int mf, .ref a18, .ref a19, .ref a20, .ref a21, .ref a22, .ref a23])), (a21, .inl (cA, 19, .inl tb))] H := hP
      have hD : va_D A [(h0, .inr (6, [.int (bI (m_X5_follows_j36_s0 a b)), .ref t1, .int (nI len), .int mo, .ref a4, .ref a5, .ref a6, .int (nI my), .int pu, .int mi, .int ms, .ref a11, .ref a12, .ref a13, .int la, .int (nI kp), .int (nI sh), .int mf, .ref a18, .ref a19, .ref a20, .ref a21, .ref a22, .ref a23])), (a21, .inl (cA, 19, .inl tb))] := hD
      refine lv_iload_n hx hb dX5_follows_39 rfl (lv_at hl 3 rfl) ?_
      refine lv_if_eq (tgt := 61) hx hb dX5_follows_40 (by decide) (fun c_3 => ?_) (fun c_3 => ?_)
      · skip
        have c_3 := bI_0 c_3
        refine lv_iconst (v := 0) hx hb dX5_follows_61 (by decide) ?_
        have hmE : m_X5_follows tb a b = (false, bI (m_X5_follows_j36_s0 a b)) := by simp only [m_X5_follows, if_pos c_3]
        exact wr_zret (v := 0) () hx hb hr hlocks rfl hK hS (by rw [hmE]; rfl) (by rw [hmE]; exact hP) (by rw [hmE]; exact hD) dX5_follows_62
      · skip
        have c_3 := bI_n0 c_3
        refine lv_aload_n hx hb dX5_follows_43 rfl (lv_at hl 0 rfl) ?_
        refine va_get (D := (dC, dI)) (ci := 6) (v := .ref a21) (C := RX5) (T := TX5) (N := 24) hx hb hts (by decide +kernel) hown hK hP 0 rfl rfl 21 (by decide) (hts (.fieldLink RX5 60 "PictureRowsModel" "table" "[I") (by decide +kernel)) (fun _ h9 => h9) rfl dX5_follows_44 ?_
        refine lv_iload_n hx hb dX5_follows_47 rfl (lv_at hl 1 rfl) ?_
        refine va_iald hx hb hK hP 1 0 rfl rfl (by exact fol_in (by assumption)) dX5_follows_48 ?_
        refine lv_iload_n hx hb dX5_follows_49 rfl (lv_at hl 2 rfl) ?_
        refine lv_ishr hx hb dX5_follows_50 ?_
        refine lv_iconst (v := 1) hx hb dX5_follows_51 (by decide) ?_
        refine lv_iand hx hb dX5_follows_52 ?_
        refine lv_iconst (v := 1) hx hb dX5_follows_53 (by decide) ?_
        refine lv_icmp_ne (tgt := 61) hx hb dX5_follows_54 (by decide) (fun c_4 => ?_) (fun c_4 => ?_)
        · skip
          refine lv_iconst (v := 0) hx hb dX5_follows_61 (by decide) ?_
          have hmE : m_X5_follows tb a b = (false, bI (m_X5_follows_j36_s0 a b)) := by simp only [m_X5_follows, if_neg c_3, if_neg c_4]
          exact wr_zret (v := 0) () hx hb hr hlocks rfl hK hS (by rw [hmE]; rfl) (by rw [hmE]; exact hP) (by rw [hmE]; exact hD) dX5_follows_62
        · skip
          refine lv_iconst (v := 1) hx hb dX5_follows_57 (by decide) ?_
          refine lv_goto (tgt := 62) hx hb dX5_follows_58 (by decide) ?_
          have hmE : m_X5_follows tb a b = (true, bI (m_X5_follows_j36_s0 a b)) := by simp only [m_X5_follows, if_neg c_3, if_pos c_4]
          exact wr_zret (v := 1) () hx hb hr hlocks rfl hK hS (by rw [hmE]; rfl) (by rw [hmE]; exact hP) (by rw [hmE]; exact hD) dX5_follows_62
    refine lv_if_eq (tgt := 35) hx hb dX5_follows_28 (by decide) (fun c_5 => ?_) (fun c_5 => ?_)
    · skip
      have c_5 := bI_0 c_5
      refine lv_iconst (v := 1) hx hb dX5_follows_35 (by decide) ?_
      exact j_2 true (by simp only [m_X5_follows_j36_s0, if_pos c_5]) ls (lv_sub hl [1, 2, 3, 0] rfl)
    · skip
      have c_5 := bI_n0 c_5
      refine lv_iconst (v := 0) hx hb dX5_follows_31 (by decide) ?_
      refine lv_goto (tgt := 36) hx hb dX5_follows_32 (by decide) ?_
      exact j_2 false (by simp only [m_X5_follows_j36_s0, if_neg c_5]) ls (lv_sub hl [1, 2, 3, 0] rfl)
  refine lv_if_lt (tgt := 24) hx hb dX5_follows_1 (by decide) (fun c_6 => ?_) (fun c_6 => ?_)
  · skip
    refine lv_iconst (v := 0) hx hb dX5_follows_24 (by decide) ?_
    exact j_1 false (by simp only [m_X5_follows_j25_s0, if_pos c_6]) ls (lv_sub hl [0, 1, 2] rfl)
  · skip
    refine lv_iload_n hx hb dX5_follows_4 rfl (lv_at hl 1 rfl) ?_
    refine lv_bipush (v := 19) hx hb dX5_follows_5 (by decide) ?_
    refine lv_icmp_ge (tgt := 24) hx hb dX5_follows_7 (by decide) (fun c_7 => ?_) (fun c_7 => ?_)
    · skip
      refine lv_iconst (v := 0) hx hb dX5_follows_24 (by decide) ?_
      exact j_1 false (by simp only [m_X5_follows_j25_s0, if_neg c_6, if_pos c_7]) ls (lv_sub hl [0, 1, 2] rfl)
    · skip
      refine lv_iload_n hx hb dX5_follows_10 rfl (lv_at hl 2 rfl) ?_
      refine lv_if_lt (tgt := 24) hx hb dX5_follows_11 (by decide) (fun c_8 => ?_) (fun c_8 => ?_)
      · skip
        refine lv_iconst (v := 0) hx hb dX5_follows_24 (by decide) ?_
        exact j_1 false (by simp only [m_X5_follows_j25_s0, if_neg c_6, if_neg c_7, if_pos c_8]) ls (lv_sub hl [0, 1, 2] rfl)
      · skip
        refine lv_iload_n hx hb dX5_follows_14 rfl (lv_at hl 2 rfl) ?_
        refine lv_bipush (v := 19) hx hb dX5_follows_15 (by decide) ?_
        refine lv_icmp_ge (tgt := 24) hx hb dX5_follows_17 (by decide) (fun c_9 => ?_) (fun c_9 => ?_)
        · skip
          refine lv_iconst (v := 0) hx hb dX5_follows_24 (by decide) ?_
          exact j_1 false (by simp only [m_X5_follows_j25_s0, if_neg c_6, if_neg c_7, if_neg c_8, if_pos c_9]) ls (lv_sub hl [0, 1, 2] rfl)
        · skip
          refine lv_iconst (v := 1) hx hb dX5_follows_20 (by decide) ?_
          refine lv_goto (tgt := 25) hx hb dX5_follows_21 (by decide) ?_
          exact j_1 true (by simp only [m_X5_follows_j25_s0, if_neg c_6, if_neg c_7, if_neg c_8, if_neg c_9]) ls (lv_sub hl [0, 1, 2] rfl)
