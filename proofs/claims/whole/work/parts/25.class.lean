theorem m_X2_take_L10_le (cs : Nat → Int32) (len : Nat) (cu : Int32) : ∀ k i x3 ss ts ps, i ≤ 80 → (m_X2_take_L10 cs len cu k i x3 ss ts ps).2.2.2.2 ≤ 80 := by
  intro k
  induction k with
  | zero => intro i x3 ss ts ps h; exact Nat.zero_le _
  | succ k ih =>
    intro i x3 ss ts ps h
    rw [m_X2_take_L10]
    repeat' split
    all_goals first | exact h | exact ih _ _ _ _ _ (by omega)
theorem m_X2_take_le (ss ts ps : Nat → Int32) (sz : Nat) (cs : Nat → Int32) (len : Nat) (cu : Int32) : (m_X2_take ss ts ps sz cs len cu).2.2.2.2 ≤ 80 := m_X2_take_L10_le _ _ _ _ _ _ _ _ _ (by omega)
def m_X4_sign (cs : Nat → Int32) (len : Nat) (ch : Int32) : (Nat → Int32) × Nat := match m_X3_append cs len ch with | (cs_z_1, len_z_1) => (cs_z_1, len_z_1)
set_option maxHeartbeats 4000000 in
set_option maxRecDepth 100000 in
theorem c_X4_sign (l : Launch) (dC : Nat → ClassId) (dI : Nat → Nat → Nat) (la : Option Nat) (h0 : Nat) (h1 : Nat) (h2 : Nat) (h3 : Nat) (kc : Nat) (cu : Int32) (t1 : Nat) (cA : ClassId) (cs : Nat → Int32) (len : Nat) (ch : Int32) (zz : Nat) (hlen : len ≤ 80) : Met l yX4_sign wsX4_sign ({ frames := 1, cells := 0, slots := 0, locals := 21 } : Room) (va_Pc [.ref h0, .int ch] (wr_P (dC, dI) vwCl [(h0, .inr (5, [.ref h1, .ref h2, .ref h3, .int (nI kc), va_rf la, .int cu])), (h1, .inr (4, [.ref t1, .int (nI len)])), (t1, .inl (cA, 80, .inl cs))] [(cA, .int)] zz)) (va_Qv (S := Unit) (fun _ => True) (wr_B (dC, dI) vwCl (fun u9 => [(h0, .inr (5, [.ref h1, .ref h2, .ref h3, .int (nI kc), va_rf la, .int cu])), (h1, .inr (4, [.ref t1, .int (nI ((m_X4_sign cs len ch).2))])), (t1, .inl (cA, 80, .inl ((m_X4_sign cs len ch).1)))]) [(cA, .int)] (va_A [(h0, .inr (5, [.ref h1, .ref h2, .ref h3, .int (nI kc), va_rf la, .int cu])), (h1, .inr (4, [.ref t1, .int (nI len)])), (t1, .inl (cA, 80, .inl cs))] zz)) (va_A [(h0, .inr (5, [.ref h1, .ref h2, .ref h3, .int (nI kc), va_rf la, .int cu])), (h1, .inr (4, [.ref t1, .int (nI len)])), (t1, .inl (cA, 80, .inl cs))] zz)) 0 0 (va_A [(h0, .inr (5, [.ref h1, .ref h2, .ref h3, .int (nI kc), va_rf la, .int cu])), (h1, .inr (4, [.ref t1, .int (nI len)])), (t1, .inl (cA, 80, .inl cs))] zz) := by
  refine Met.ofW (cc := cX4_sign) (maxL := 2) (ret := none) (by decide) rfl ?_
  intro p e s m args below meth c s₁ B hml hv
  obtain ⟨rfl, hsz0, hE, hP, hK, hD0⟩ := hv
  have hx := B.exec
  have hb := B.bytes
  have hr := B.returns
  have hts := atoms_spec (ws := wsX4_sign) B.pre
  have hown : s.vm.findClass RX4 = some m.cls := findClass_of_methodNamed B.named
  have hlocks := B.notSynchronized
  subst hsz0
  have hD := hD0.self (sz := s.heap.size)
  generalize hAe : va_A [(h0, .inr (5, [.ref h1, .ref h2, .ref h3, .int (nI kc), va_rf la, .int cu])), (h1, .inr (4, [.ref t1, .int (nI len)])), (t1, .inl (cA, 80, .inl cs))] s.heap.size = A at hD hE ⊢
  have hA : ∀ q : Nat, s.heap.size ≤ q → A q := fun q h => by rw [← hAe]; exact Or.inr h
  have hS : va_S A s.heap s.heap [] := va_S.rf
  have hP : va_P (dC, dI) vwCl [(h0, .inr (5, [.ref h1, .ref h2, .ref h3, .int (nI kc), va_rf la, .int cu])), (h1, .inr (4, [.ref t1, .int (nI len)])), (t1, .inl (cA, 80, .inl cs))] s.heap := hP
  have hl := lv_entry ([.ref h0, .int ch]) (n := 2) (Nat.le_of_ble_eq_true rfl)
  rw [lg_entry_eq]
  generalize (lg_sl ([.ref h0, .int ch]) ++ List.replicate (2 - (lg_sl ([.ref h0, .int ch])).length) Slot.unset).toArray = ls at hl ⊢
  have hl : lv_has ls 2 [(0, .ref h0), (1, .int ch)] := hl
  refine lv_aload_n hx hb dX4_sign_0 rfl (lv_at hl 0 rfl) ?_
  refine va_get (D := (dC, dI)) (ci := 5) (v := .ref h1) (C := RX4) (T := TX4) (N := 6) hx hb hts (by decide +kernel) hown hK hP 0 rfl rfl 0 (by decide) (hts (.fieldLink RX4 12 "PictureRows" "text" "LPictureRows$Text;") (by decide +kernel)) (fun _ h9 => h9) rfl dX4_sign_1 ?_
  refine lv_iload_n hx hb dX4_sign_4 rfl (lv_at hl 1 rfl) ?_
  have hFc := va_free (wc := [(h1, .inr (4, [.ref t1, .int (nI len)])), (t1, .inl (cA, 80, .inl cs))]) hD hS hA [1, 2] rfl
  refine wr_goV (wr := [(h0, .inr (5, [.ref h1, .ref h2, .ref h3, .int (nI kc), va_rf la, .int cu]))]) (w1 := fun (u9 : Unit) => [(h1, .inr (4, [.ref t1, .int (nI ((m_X3_append cs len ch).2))])), (t1, .inl (cA, 80, .inl ((m_X3_append cs len ch).1)))]) (va_runV (As := [.int ch]) (rest := []) ⟨hx, hb, hml, hown, hts⟩ (c_X3_append l dC dI h1 t1 cA cs len ch s.heap.size (by omega)) (cwV 1 hts gX4_sign_X3_append rfl rfl rfl (by decide +kernel) ⟨Nat.le_of_ble_eq_true rfl, Nat.le_of_ble_eq_true rfl⟩) ⟨wr_blind, va_recv hK hP (ci := 4) (q0 := 1) rfl rfl, (wr_pre hE hS hFc (hP.sub [1, 2] rfl) (hK.sub (tys' := [(cA, .int)]) [0] rfl) (hD.sub (ws' := [(h1, .inr (4, [.ref t1, .int (nI len)])), (t1, .inl (cA, 80, .inl cs))]) [1, 2] (by decide) rfl))⟩ rfl rfl hl.1 rfl (lv_room (Nat.le_of_ble_eq_true rfl)) dX4_sign_5 ⟨Nat.le_of_ble_eq_true rfl, Nat.le_of_ble_eq_true rfl⟩) hP hD hS hFc [1, 2] [0] rfl rfl (by decide) (by decide) (fun u9 H locs hw9 hP hD hS => ?_)
  have hP := hP.sub (ws' := [(h0, .inr (5, [.ref h1, .ref h2, .ref h3, .int (nI kc), va_rf la, .int cu])), (h1, .inr (4, [.ref t1, .int (nI ((m_X3_append cs len ch).2))])), (t1, .inl (cA, 80, .inl ((m_X3_append cs len ch).1)))]) [0, 1, 2] rfl
  have hD := hD.sub (ws' := [(h0, .inr (5, [.ref h1, .ref h2, .ref h3, .int (nI kc), va_rf la, .int cu])), (h1, .inr (4, [.ref t1, .int (nI ((m_X3_append cs len ch).2))])), (t1, .inl (cA, 80, .inl ((m_X3_append cs len ch).1)))]) [0, 1, 2] (by decide) rfl
  obtain ⟨⟨cs_z_1, len_z_1⟩, hz_1⟩ : ∃ z_, m_X3_append cs len ch = z_ := ⟨_, rfl⟩
  rw [hz_1] at hP hD
  have hP : va_P (dC, dI) vwCl [(h0, .inr (5, [.ref h1, .ref h2, .ref h3, .int (nI kc), va_rf la, .int cu])), (h1, .inr (4, [.ref t1, .int (nI len_z_1)])), (t1, .inl (cA, 80, .inl cs_z_1))] H := hP
  have hD : va_D A [(h0, .inr (5, [.ref h1, .ref h2, .ref h3, .int (nI kc), va_rf la, .int cu])), (h1, .inr (4, [.ref t1, .int (nI len_z_1)])), (t1, .inl (cA, 80, .inl cs_z_1))] := hD
  have hmE : m_X4_sign cs len ch = (cs_z_1, len_z_1) := by simp only [m_X4_sign, hz_1]
  exact wr_vret () hx hb hr hlocks hK hS trivial (by rw [hmE]; exact hP) (by rw [hmE]; exact hD) dX4_sign_8
def m_X4_currency (cu : Int32) (ch : Int32) : Int32 × Int32 := if (m_X4_canBeCurrency ch) = false then (((-1), cu)) else ((cu, ch))
set_option maxHeartbeats 4000000 in
set_option maxRecDepth 100000 in
theorem c_X4_currency (l : Launch) (dC : Nat → ClassId) (dI : Nat → Nat → Nat) (la : Option Nat) (h0 : Nat) (h1 : Nat) (h2 : Nat) (h3 : Nat) (kc : Nat) (cu : Int32) (ch : Int32) (zz : Nat) : Met l yX4_currency wsX4_currency ({ frames := 5, cells := 0, slots := 0, locals := 111 } : Room) (va_Pc [.ref h0, .int ch] (wr_P (dC, dI) vwCl [(h0, .inr (5, [.ref h1, .ref h2, .ref h3, .int (nI kc), va_rf la, .int cu]))] [] zz)) (va_Qi (S := Unit) (fun r _ => r = (m_X4_currency cu ch).1) (wr_B (dC, dI) vwCl (fun u9 => [(h0, .inr (5, [.ref h1, .ref h2, .ref h3, .int (nI kc), va_rf la, .int ((m_X4_currency cu ch).2)]))]) [] (va_A [(h0, .inr (5, [.ref h1, .ref h2, .ref h3, .int (nI kc), va_rf la, .int cu]))] zz)) (va_A [(h0, .inr (5, [.ref h1, .ref h2, .ref h3, .int (nI kc), va_rf la, .int cu]))] zz)) 0 0 (va_A [(h0, .inr (5, [.ref h1, .ref h2, .ref h3, .int (nI kc), va_rf la, .int cu]))] zz) := by
  refine Met.ofW (cc := cX4_currency) (maxL := 3) (ret := (some .int)) (by decide) rfl ?_
  intro p e s m args below meth c s₁ B hml hv
  obtain ⟨rfl, hsz0, hE, hP, hK, hD0⟩ := hv
  have hx := B.exec
  have hb := B.bytes
  have hr := B.returns
  have hts := atoms_spec (ws := wsX4_currency) B.pre
  have hown : s.vm.findClass RX4 = some m.cls := findClass_of_methodNamed B.named
  have hlocks := B.notSynchronized
  subst hsz0
  have hD := hD0.self (sz := s.heap.size)
  generalize hAe : va_A [(h0, .inr (5, [.ref h1, .ref h2, .ref h3, .int (nI kc), va_rf la, .int cu]))] s.heap.size = A at hD hE ⊢
  have hA : ∀ q : Nat, s.heap.size ≤ q → A q := fun q h => by rw [← hAe]; exact Or.inr h
  have hS : va_S A s.heap s.heap [] := va_S.rf
  have hP : va_P (dC, dI) vwCl [(h0, .inr (5, [.ref h1, .ref h2, .ref h3, .int (nI kc), va_rf la, .int cu]))] s.heap := hP
  have hl := lv_entry ([.ref h0, .int ch]) (n := 3) (Nat.le_of_ble_eq_true rfl)
  rw [lg_entry_eq]
  generalize (lg_sl ([.ref h0, .int ch]) ++ List.replicate (3 - (lg_sl ([.ref h0, .int ch])).length) Slot.unset).toArray = ls at hl ⊢
  have hl : lv_has ls 3 [(0, .ref h0), (1, .int ch)] := hl
  refine lv_iload_n hx hb dX4_currency_0 rfl (lv_at hl 1 rfl) ?_
  refine rd_callS (As := [.int ch]) (rest := []) ⟨hx, hb, hml, hown, hts⟩ (hE.rd hS) (c_X4_canBeCurrency l dC dI ch ) (va_cwS 1 hts gX4_currency_X4_canBeCurrency rfl rfl rfl (by decide +kernel) ⟨Nat.le_of_ble_eq_true rfl, Nat.le_of_ble_eq_true rfl⟩) (hP.sub (ws' := []) [] rfl) (hK.sub [] rfl) rfl hl.1 rfl (Nat.le_of_ble_eq_true rfl) dX4_currency_1 ⟨Nat.le_of_ble_eq_true rfl, Nat.le_of_ble_eq_true rfl⟩ (fun r9 hr9 => ?_)
  subst hr9
  refine lv_if_ne (tgt := 9) hx hb dX4_currency_4 (by decide) (fun c_1 => ?_) (fun c_1 => ?_)
  · skip
    have c_1 := bI_n0 c_1
    refine lv_aload_n hx hb dX4_currency_9 rfl (lv_at hl 0 rfl) ?_
    refine va_get (D := (dC, dI)) (ci := 5) (v := .int cu) (C := RX4) (T := TX4) (N := 6) hx hb hts (by decide +kernel) hown hK hP 0 rfl rfl 5 (by decide) (hts (.fieldLink RX4 37 "PictureRows" "currencySign" "I") (by decide +kernel)) (fun _ h9 => h9) rfl dX4_currency_10 ?_
    refine lv_istore_n (lv' := [(2, .int cu), (0, .ref h0), (1, .int ch)]) hx hb dX4_currency_13 rfl hl (by decide) rfl (fun ls hl => ?_)
    refine lv_aload_n hx hb dX4_currency_14 rfl (lv_at hl 1 rfl) ?_
    refine lv_iload_n hx hb dX4_currency_15 rfl (lv_at hl 2 rfl) ?_
    refine va_put (D := (dC, dI)) (ci := 5) (v := .int ch) (ty := .int) (C := RX4) (T := TX4) (N := 6) hx hb hts (by decide +kernel) tyX4 tyX4_ok nmX4 hown hK hP hD hS 0 rfl rfl 5 (by decide) (hts (.fieldLink RX4 37 "PictureRows" "currencySign" "I") (by decide +kernel)) (fun _ h9 => h9) rfl (by decide +kernel) rfl rfl (Nat.le_of_ble_eq_true rfl) dX4_currency_16 (fun H locs hP hD hS => ?_)
    have hP : va_P (dC, dI) vwCl [(h0, .inr (5, [.ref h1, .ref h2, .ref h3, .int (nI kc), va_rf la, .int ch]))] H := hP
    have hD : va_D A [(h0, .inr (5, [.ref h1, .ref h2, .ref h3, .int (nI kc), va_rf la, .int ch]))] := hD
    refine lv_iload_n hx hb dX4_currency_19 rfl (lv_at hl 0 rfl) ?_
    have hmE : m_X4_currency cu ch = (cu, ch) := by simp only [m_X4_currency, if_neg c_1]
    exact wr_iret (v := cu) () hx hb hr hlocks hK hS (by rw [hmE]) (by rw [hmE]; exact hP) (by rw [hmE]; exact hD) dX4_currency_20
  · skip
    have c_1 := bI_0 c_1
    refine lv_iconst (v := (-1)) hx hb dX4_currency_7 (by decide) ?_
    have hmE : m_X4_currency cu ch = ((-1), cu) := by simp only [m_X4_currency, if_pos c_1]
    exact wr_iret (v := (-1)) () hx hb hr hlocks hK hS (by rw [hmE]) (by rw [hmE]; exact hP) (by rw [hmE]; exact hD) dX4_currency_8
def m_X4_firstWrongPlace (ss : Nat → Int32) (ts : Nat → Int32) (ps : Nat → Int32) (ks : Nat → Int32) (ds : Nat → Int32) (sz : Nat) (cs : Nat → Int32) (len : Nat) (cu : Int32) : Int32 × (Nat → Int32) × (Nat → Int32) × (Nat → Int32) × (Nat → Int32) × (Nat → Int32) × Nat := match m_X2_take ss ts ps sz cs len cu with | (r_z_1, ss_z_1, ts_z_1, ps_z_1, sz_z_1) => if r_z_1 = (-1) then (if (m_X2_firstMisplaced ss_z_1 ts_z_1 ps_z_1 (m_X2_findKinds ss_z_1 ts_z_1 ks sz_z_1) (m_X2_findDigits ss_z_1 ts_z_1 (m_X2_findKinds ss_z_1 ts_z_1 ks sz_z_1) ds sz_z_1) sz_z_1) = (-1) then (if ((m_X2_kindsPresent (m_X2_findKinds ss_z_1 ts_z_1 ks sz_z_1) sz_z_1) &&& 278464) = 0 then ((nI len, ss_z_1, ts_z_1, ps_z_1, (m_X2_findKinds ss_z_1 ts_z_1 ks sz_z_1), (m_X2_findDigits ss_z_1 ts_z_1 (m_X2_findKinds ss_z_1 ts_z_1 ks sz_z_1) ds sz_z_1), sz_z_1)) else (((-1), ss_z_1, ts_z_1, ps_z_1, (m_X2_findKinds ss_z_1 ts_z_1 ks sz_z_1), (m_X2_findDigits ss_z_1 ts_z_1 (m_X2_findKinds ss_z_1 ts_z_1 ks sz_z_1) ds sz_z_1), sz_z_1))) else ((m_X2_firstMisplaced ss_z_1 ts_z_1 ps_z_1 (m_X2_findKinds ss_z_1 ts_z_1 ks sz_z_1) (m_X2_findDigits ss_z_1 ts_z_1 (m_X2_findKinds ss_z_1 ts_z_1 ks sz_z_1) ds sz_z_1) sz_z_1, ss_z_1, ts_z_1, ps_z_1, (m_X2_findKinds ss_z_1 ts_z_1 ks sz_z_1), (m_X2_findDigits ss_z_1 ts_z_1 (m_X2_findKinds ss_z_1 ts_z_1 ks sz_z_1) ds sz_z_1), sz_z_1))) else ((r_z_1, ss_z_1, ts_z_1, ps_z_1, ks, ds, sz_z_1))
set_option maxHeartbeats 4000000 in
set_option maxRecDepth 100000 in
theorem c_X4_firstWrongPlace (l : Launch) (dC : Nat → ClassId) (dI : Nat → Nat → Nat) (la : Option Nat) (h0 : Nat) (h1 : Nat) (h2 : Nat) (h3 : Nat) (r1 : Nat) (r2 : Nat) (r3 : Nat) (r4 : Nat) (r5 : Nat) (kc : Nat) (t1 : Nat) (cA : ClassId) (ss : Nat → Int32) (ts : Nat → Int32) (ps : Nat → Int32) (ks : Nat → Int32) (ds : Nat → Int32) (sz : Nat) (cs : Nat → Int32) (len : Nat) (cu : Int32) (zz : Nat) (hlen : len ≤ 80) : Met l yX4_firstWrongPlace wsX4_firstWrongPlace ({ frames := 6, cells := 0, slots := 0, locals := 144 } : Room) (va_Pc [.ref h0] (wr_P (dC, dI) vwCl [(h0, .inr (5, [.ref h1, .ref h2, .ref h3, .int (nI kc), va_rf la, .int cu])), (h1, .inr (4, [.ref t1, .int (nI len)])), (t1, .inl (cA, 80, .inl cs)), (h2, .inr (3, [.ref r1, .ref r2, .ref r3, .ref r4, .ref r5, .int (nI sz)])), (r1, .inl (cA, 80, .inl ss)), (r2, .inl (cA, 80, .inl ts)), (r3, .inl (cA, 80, .inl ps)), (r4, .inl (cA, 80, .inl ks)), (r5, .inl (cA, 80, .inl ds))] [(cA, .int)] zz)) (va_Qi (S := Unit) (fun r _ => r = (m_X4_firstWrongPlace ss ts ps ks ds sz cs len cu).1) (wr_B (dC, dI) vwCl (fun u9 => [(h0, .inr (5, [.ref h1, .ref h2, .ref h3, .int (nI kc), va_rf la, .int cu])), (h1, .inr (4, [.ref t1, .int (nI len)])), (t1, .inl (cA, 80, .inl cs)), (h2, .inr (3, [.ref r1, .ref r2, .ref r3, .ref r4, .ref r5, .int (nI ((m_X4_firstWrongPlace ss ts ps ks ds sz cs len cu).2.2.2.2.2.2))])), (r1, .inl (cA, 80, .inl ((m_X4_firstWrongPlace ss ts ps ks ds sz cs len cu).2.1))), (r2, .inl (cA, 80, .inl ((m_X4_firstWrongPlace ss ts ps ks ds sz cs len cu).2.2.1))), (r3, .inl (cA, 80, .inl ((m_X4_firstWrongPlace ss ts ps ks ds sz cs len cu).2.2.2.1))), (r4, .inl (cA, 80, .inl ((m_X4_firstWrongPlace ss ts ps ks ds sz cs len cu).2.2.2.2.1))), (r5, .inl (cA, 80, .inl ((m_X4_firstWrongPlace ss ts ps ks ds sz cs len cu).2.2.2.2.2.1)))]) [(cA, .int)] (va_A [(h0, .inr (5, [.ref h1, .ref h2, .ref h3, .int (nI kc), va_rf la, .int cu])), (h1, .inr (4, [.ref t1, .int (nI len)])), (t1, .inl (cA, 80, .inl cs)), (h2, .inr (3, [.ref r1, .ref r2, .ref r3, .ref r4, .ref r5, .int (nI sz)])), (r1, .inl (cA, 80, .inl ss)), (r2, .inl (cA, 80, .inl ts)), (r3, .inl (cA, 80, .inl ps)), (r4, .inl (cA, 80, .inl ks)), (r5, .inl (cA, 80, .inl ds))] zz)) (va_A [(h0, .inr (5, [.ref h1, .ref h2, .ref h3, .int (nI kc), va_rf la, .int cu])), (h1, .inr (4, [.ref t1, .int (nI len)])), (t1, .inl (cA, 80, .inl cs)), (h2, .inr (3, [.ref r1, .ref r2, .ref r3, .ref r4, .ref r5, .int (nI sz)])), (r1, .inl (cA, 80, .inl ss)), (r2, .inl (cA, 80, .inl ts)), (r3, .inl (cA, 80, .inl ps)), (r4, .inl (cA, 80, .inl ks)), (r5, .inl (cA, 80, .inl ds))] zz)) 0 0 (va_A [(h0, .inr (5, [.ref h1, .ref h2, .ref h3, .int (nI kc), va_rf la, .int cu])), (h1, .inr (4, [.ref t1, .int (nI len)])), (t1, .inl (cA, 80, .inl cs)), (h2, .inr (3, [.ref r1, .ref r2, .ref r3, .ref r4, .ref r5, .int (nI sz)])), (r1, .inl (cA, 80, .inl ss)), (r2, .inl (cA, 80, .inl ts)), (r3, .inl (cA, 80, .inl ps)), (r4, .inl (cA, 80, .inl ks)), (r5, .inl (cA, 80, .inl ds))] zz) := by
  refine Met.ofW (cc := cX4_firstWrongPlace) (maxL := 2) (ret := (some .int)) (by decide) rfl ?_
  intro p e s m args below meth c s₁ B hml hv
  obtain ⟨rfl, hsz0, hE, hP, hK, hD0⟩ := hv
  have hx := B.exec
  have hb := B.bytes
  have hr := B.returns
  have hts := atoms_spec (ws := wsX4_firstWrongPlace) B.pre
  have hown : s.vm.findClass RX4 = some m.cls := findClass_of_methodNamed B.named
  have hlocks := B.notSynchronized
  subst hsz0
  have hD := hD0.self (sz := s.heap.size)
  generalize hAe : va_A [(h0, .inr (5, [.ref h1, .ref h2, .ref h3, .int (nI kc), va_rf la, .int cu])), (h1, .inr (4, [.ref t1, .int (nI len)])), (t1, .inl (cA, 80, .inl cs)), (h2, .inr (3, [.ref r1, .ref r2, .ref r3, .ref r4, .ref r5, .int (nI sz)])), (r1, .inl (cA, 80, .inl ss)), (r2, .inl (cA, 80, .inl ts)), (r3, .inl (cA, 80, .inl ps)), (r4, .inl (cA, 80, .inl ks)), (r5, .inl (cA, 80, .inl ds))] s.heap.size = A at hD hE ⊢
  have hA : ∀ q : Nat, s.heap.size ≤ q → A q := fun q h => by rw [← hAe]; exact Or.inr h
  have hS : va_S A s.heap s.heap [] := va_S.rf
  have hP : va_P (dC, dI) vwCl [(h0, .inr (5, [.ref h1, .ref h2, .ref h3, .int (nI kc), va_rf la, .int cu])), (h1, .inr (4, [.ref t1, .int (nI len)])), (t1, .inl (cA, 80, .inl cs)), (h2, .inr (3, [.ref r1, .ref r2, .ref r3, .ref r4, .ref r5, .int (nI sz)])), (r1, .inl (cA, 80, .inl ss)), (r2, .inl (cA, 80, .inl ts)), (r3, .inl (cA, 80, .inl ps)), (r4, .inl (cA, 80, .inl ks)), (r5, .inl (cA, 80, .inl ds))] s.heap := hP
  have hl := lv_entry ([.ref h0]) (n := 2) (Nat.le_of_ble_eq_true rfl)
  rw [lg_entry_eq]
  generalize (lg_sl ([.ref h0]) ++ List.replicate (2 - (lg_sl ([.ref h0])).length) Slot.unset).toArray = ls at hl ⊢
  have hl : lv_has ls 2 [(0, .ref h0)] := hl
  refine lv_aload_n hx hb dX4_firstWrongPlace_0 rfl (lv_at hl 0 rfl) ?_
  refine va_get (D := (dC, dI)) (ci := 5) (v := .ref h2) (C := RX4) (T := TX4) (N := 6) hx hb hts (by decide +kernel) hown hK hP 0 rfl rfl 1 (by decide) (hts (.fieldLink RX4 19 "PictureRows" "runs" "LPictureRows$Runs;") (by decide +kernel)) (fun _ h9 => h9) rfl dX4_firstWrongPlace_1 ?_
  refine lv_aload_n hx hb dX4_firstWrongPlace_4 rfl (lv_at hl 0 rfl) ?_
  refine va_get (D := (dC, dI)) (ci := 5) (v := .ref h1) (C := RX4) (T := TX4) (N := 6) hx hb hts (by decide +kernel) hown hK hP 0 rfl rfl 0 (by decide) (hts (.fieldLink RX4 12 "PictureRows" "text" "LPictureRows$Text;") (by decide +kernel)) (fun _ h9 => h9) rfl dX4_firstWrongPlace_5 ?_
  refine lv_aload_n hx hb dX4_firstWrongPlace_8 rfl (lv_at hl 0 rfl) ?_
  refine va_get (D := (dC, dI)) (ci := 5) (v := .int cu) (C := RX4) (T := TX4) (N := 6) hx hb hts (by decide +kernel) hown hK hP 0 rfl rfl 5 (by decide) (hts (.fieldLink RX4 37 "PictureRows" "currencySign" "I") (by decide +kernel)) (fun _ h9 => h9) rfl dX4_firstWrongPlace_9 ?_
  have hFc := va_free (wc := [(h2, .inr (3, [.ref r1, .ref r2, .ref r3, .ref r4, .ref r5, .int (nI sz)])), (r1, .inl (cA, 80, .inl ss)), (r2, .inl (cA, 80, .inl ts)), (r3, .inl (cA, 80, .inl ps)), (h1, .inr (4, [.ref t1, .int (nI len)])), (t1, .inl (cA, 80, .inl cs))]) hD hS hA [3, 4, 5, 6, 1, 2] rfl
  refine wr_goI (wr := [(h0, .inr (5, [.ref h1, .ref h2, .ref h3, .int (nI kc), va_rf la, .int cu])), (r4, .inl (cA, 80, .inl ks)), (r5, .inl (cA, 80, .inl ds))]) (w1 := fun (u9 : Unit) => [(h2, .inr (3, [.ref r1, .ref r2, .ref r3, .ref r4, .ref r5, .int (nI ((m_X2_take ss ts ps sz cs len cu).2.2.2.2))])), (r1, .inl (cA, 80, .inl ((m_X2_take ss ts ps sz cs len cu).2.1))), (r2, .inl (cA, 80, .inl ((m_X2_take ss ts ps sz cs len cu).2.2.1))), (r3, .inl (cA, 80, .inl ((m_X2_take ss ts ps sz cs len cu).2.2.2.1))), (h1, .inr (4, [.ref t1, .int (nI len)])), (t1, .inl (cA, 80, .inl cs))]) (va_runV (As := [.ref h1, .int cu]) (rest := []) ⟨hx, hb, hml, hown, hts⟩ (c_X2_take l dC dI h2 r1 r2 r3 r4 r5 h1 t1 cA ss ts ps sz cs len cu s.heap.size (by omega)) (cwV 2 hts gX4_firstWrongPlace_X2_take rfl rfl rfl (by decide +kernel) ⟨Nat.le_of_ble_eq_true rfl, Nat.le_of_ble_eq_true rfl⟩) ⟨wr_blind, va_recv hK hP (ci := 3) (q0 := 3) rfl rfl, (wr_pre hE hS hFc (hP.sub [3, 4, 5, 6, 1, 2] rfl) (hK.sub (tys' := [(cA, .int)]) [0] rfl) (hD.sub (ws' := [(h2, .inr (3, [.ref r1, .ref r2, .ref r3, .ref r4, .ref r5, .int (nI sz)])), (r1, .inl (cA, 80, .inl ss)), (r2, .inl (cA, 80, .inl ts)), (r3, .inl (cA, 80, .inl ps)), (h1, .inr (4, [.ref t1, .int (nI len)])), (t1, .inl (cA, 80, .inl cs))]) [3, 4, 5, 6, 1, 2] (by decide) rfl))⟩ rfl rfl hl.1 rfl (lv_room (Nat.le_of_ble_eq_true rfl)) dX4_firstWrongPlace_12 ⟨Nat.le_of_ble_eq_true rfl, Nat.le_of_ble_eq_true rfl⟩) hP hD hS hFc [3, 4, 5, 6, 1, 2] [0, 7, 8] rfl rfl (by decide) (by decide) (fun r9 u9 H locs hw9 hP hD hS => ?_)
  subst hw9
  have hP := hP.sub (ws' := [(h0, .inr (5, [.ref h1, .ref h2, .ref h3, .int (nI kc), va_rf la, .int cu])), (h1, .inr (4, [.ref t1, .int (nI len)])), (t1, .inl (cA, 80, .inl cs)), (h2, .inr (3, [.ref r1, .ref r2, .ref r3, .ref r4, .ref r5, .int (nI ((m_X2_take ss ts ps sz cs len cu).2.2.2.2))])), (r1, .inl (cA, 80, .inl ((m_X2_take ss ts ps sz cs len cu).2.1))), (r2, .inl (cA, 80, .inl ((m_X2_take ss ts ps sz cs len cu).2.2.1))), (r3, .inl (cA, 80, .inl ((m_X2_take ss ts ps sz cs len cu).2.2.2.1))), (r4, .inl (cA, 80, .inl ks)), (r5, .inl (cA, 80, .inl ds))]) [0, 7, 8, 3, 4, 5, 6, 1, 2] rfl
  have hD := hD.sub (ws' := [(h0, .inr (5, [.ref h1, .ref h2, .ref h3, .int (nI kc), va_rf la, .int cu])), (h1, .inr (4, [.ref t1, .int (nI len)])), (t1, .inl (cA, 80, .inl cs)), (h2, .inr (3, [.ref r1, .ref r2, .ref r3, .ref r4, .ref r5, .int (nI ((m_X2_take ss ts ps sz cs len cu).2.2.2.2))])), (r1, .inl (cA, 80, .inl ((m_X2_take ss ts ps sz cs len cu).2.1))), (r2, .inl (cA, 80, .inl ((m_X2_take ss ts ps sz cs len cu).2.2.1))), (r3, .inl (cA, 80, .inl ((m_X2_take ss ts ps sz cs len cu).2.2.2.1))), (r4, .inl (cA, 80, .inl ks)), (r5, .inl (cA, 80, .inl ds))]) [0, 7, 8, 3, 4, 5, 6, 1, 2] (by decide) rfl
  obtain ⟨⟨r_z_1, ss_z_1, ts_z_1, ps_z_1, sz_z_1⟩, hz_1⟩ : ∃ z_, m_X2_take ss ts ps sz cs len cu = z_ := ⟨_, rfl⟩
  rw [hz_1] at hP hD ⊢
  have hP : va_P (dC, dI) vwCl [(h0, .inr (5, [.ref h1, .ref h2, .ref h3, .int (nI kc), va_rf la, .int cu])), (h1, .inr (4, [.ref t1, .int (nI len)])), (t1, .inl (cA, 80, .inl cs)), (h2, .inr (3, [.ref r1, .ref r2, .ref r3, .ref r4, .ref r5, .int (nI sz_z_1)])), (r1, .inl (cA, 80, .inl ss_z_1)), (r2, .inl (cA, 80, .inl ts_z_1)), (r3, .inl (cA, 80, .inl ps_z_1)), (r4, .inl (cA, 80, .inl ks)), (r5, .inl (cA, 80, .inl ds))] H := hP
  have hD : va_D A [(h0, .inr (5, [.ref h1, .ref h2, .ref h3, .int (nI kc), va_rf la, .int cu])), (h1, .inr (4, [.ref t1, .int (nI len)])), (t1, .inl (cA, 80, .inl cs)), (h2, .inr (3, [.ref r1, .ref r2, .ref r3, .ref r4, .ref r5, .int (nI sz_z_1)])), (r1, .inl (cA, 80, .inl ss_z_1)), (r2, .inl (cA, 80, .inl ts_z_1)), (r3, .inl (cA, 80, .inl ps_z_1)), (r4, .inl (cA, 80, .inl ks)), (r5, .inl (cA, 80, .inl ds))] := hD
  have hle := m_X2_take_le ss ts ps sz cs len cu; rw [hz_1] at hle; dsimp only at hle
  refine lv_istore_n (lv' := [(1, .int r_z_1), (0, .ref h0)]) hx hb dX4_firstWrongPlace_15 rfl hl (by decide) rfl (fun ls hl => ?_)
  refine lv_iload_n hx hb dX4_firstWrongPlace_16 rfl (lv_at hl 0 rfl) ?_
  refine lv_iconst (v := (-1)) hx hb dX4_firstWrongPlace_17 (by decide) ?_
  refine lv_icmp_eq (tgt := 23) hx hb dX4_firstWrongPlace_18 (by decide) (fun c_2 => ?_) (fun c_2 => ?_)
  · skip
    refine lv_aload_n hx hb dX4_firstWrongPlace_23 rfl (lv_at hl 1 rfl) ?_
    refine va_get (D := (dC, dI)) (ci := 5) (v := .ref h2) (C := RX4) (T := TX4) (N := 6) hx hb hts (by decide +kernel) hown hK hP 0 rfl rfl 1 (by decide) (hts (.fieldLink RX4 19 "PictureRows" "runs" "LPictureRows$Runs;") (by decide +kernel)) (fun _ h9 => h9) rfl dX4_firstWrongPlace_24 ?_
    have hFc := va_free (wc := [(h2, .inr (3, [.ref r1, .ref r2, .ref r3, .ref r4, .ref r5, .int (nI sz_z_1)])), (r1, .inl (cA, 80, .inl ss_z_1)), (r2, .inl (cA, 80, .inl ts_z_1)), (r4, .inl (cA, 80, .inl ks))]) hD hS hA [3, 4, 5, 7] rfl
    refine wr_goV (wr := [(h0, .inr (5, [.ref h1, .ref h2, .ref h3, .int (nI kc), va_rf la, .int cu])), (h1, .inr (4, [.ref t1, .int (nI len)])), (t1, .inl (cA, 80, .inl cs)), (r3, .inl (cA, 80, .inl ps_z_1)), (r5, .inl (cA, 80, .inl ds))]) (w1 := fun (u9 : Unit) => [(h2, .inr (3, [.ref r1, .ref r2, .ref r3, .ref r4, .ref r5, .int (nI sz_z_1)])), (r1, .inl (cA, 80, .inl ss_z_1)), (r2, .inl (cA, 80, .inl ts_z_1)), (r4, .inl (cA, 80, .inl (m_X2_findKinds ss_z_1 ts_z_1 ks sz_z_1)))]) (va_runV (As := []) (rest := []) ⟨hx, hb, hml, hown, hts⟩ (c_X2_findKinds l dC dI h2 r1 r2 r3 r4 r5 cA ss_z_1 ts_z_1 ks sz_z_1 H.size (by omega)) (cwV 0 hts gX4_firstWrongPlace_X2_findKinds rfl rfl rfl (by decide +kernel) ⟨Nat.le_of_ble_eq_true rfl, Nat.le_of_ble_eq_true rfl⟩) ⟨wr_blind, va_recv hK hP (ci := 3) (q0 := 3) rfl rfl, (wr_pre hE hS hFc (hP.sub [3, 4, 5, 7] rfl) (hK.sub (tys' := [(cA, .int)]) [0] rfl) (hD.sub (ws' := [(h2, .inr (3, [.ref r1, .ref r2, .ref r3, .ref r4, .ref r5, .int (nI sz_z_1)])), (r1, .inl (cA, 80, .inl ss_z_1)), (r2, .inl (cA, 80, .inl ts_z_1)), (r4, .inl (cA, 80, .inl ks))]) [3, 4, 5, 7] (by decide) rfl))⟩ rfl rfl hl.1 rfl (lv_room (Nat.le_of_ble_eq_true rfl)) dX4_firstWrongPlace_27 ⟨Nat.le_of_ble_eq_true rfl, Nat.le_of_ble_eq_true rfl⟩) hP hD hS hFc [3, 4, 5, 7] [0, 1, 2, 6, 8] rfl rfl (by decide) (by decide) (fun u9 H locs hw9 hP hD hS => ?_)
    have hP := hP.sub (ws' := [(h0, .inr (5, [.ref h1, .ref h2, .ref h3, .int (nI kc), va_rf la, .int cu])), (h1, .inr (4, [.ref t1, .int (nI len)])), (t1, .inl (cA, 80, .inl cs)), (h2, .inr (3, [.ref r1, .ref r2, .ref r3, .ref r4, .ref r5, .int (nI sz_z_1)])), (r1, .inl (cA, 80, .inl ss_z_1)), (r2, .inl (cA, 80, .inl ts_z_1)), (r3, .inl (cA, 80, .inl ps_z_1)), (r4, .inl (cA, 80, .inl (m_X2_findKinds ss_z_1 ts_z_1 ks sz_z_1))), (r5, .inl (cA, 80, .inl ds))]) [0, 1, 2, 5, 6, 7, 3, 8, 4] rfl
    have hD := hD.sub (ws' := [(h0, .inr (5, [.ref h1, .ref h2, .ref h3, .int (nI kc), va_rf la, .int cu])), (h1, .inr (4, [.ref t1, .int (nI len)])), (t1, .inl (cA, 80, .inl cs)), (h2, .inr (3, [.ref r1, .ref r2, .ref r3, .ref r4, .ref r5, .int (nI sz_z_1)])), (r1, .inl (cA, 80, .inl ss_z_1)), (r2, .inl (cA, 80, .inl ts_z_1)), (r3, .inl (cA, 80, .inl ps_z_1)), (r4, .inl (cA, 80, .inl (m_X2_findKinds ss_z_1 ts_z_1 ks sz_z_1))), (r5, .inl (cA, 80, .inl ds))]) [0, 1, 2, 5, 6, 7, 3, 8, 4] (by decide) rfl
    refine lv_aload_n hx hb dX4_firstWrongPlace_30 rfl (lv_at hl 1 rfl) ?_
    refine va_get (D := (dC, dI)) (ci := 5) (v := .ref h2) (C := RX4) (T := TX4) (N := 6) hx hb hts (by decide +kernel) hown hK hP 0 rfl rfl 1 (by decide) (hts (.fieldLink RX4 19 "PictureRows" "runs" "LPictureRows$Runs;") (by decide +kernel)) (fun _ h9 => h9) rfl dX4_firstWrongPlace_31 ?_
    have hFc := va_free (wc := [(h2, .inr (3, [.ref r1, .ref r2, .ref r3, .ref r4, .ref r5, .int (nI sz_z_1)])), (r1, .inl (cA, 80, .inl ss_z_1)), (r2, .inl (cA, 80, .inl ts_z_1)), (r4, .inl (cA, 80, .inl (m_X2_findKinds ss_z_1 ts_z_1 ks sz_z_1))), (r5, .inl (cA, 80, .inl ds))]) hD hS hA [3, 4, 5, 7, 8] rfl
    refine wr_goV (wr := [(h0, .inr (5, [.ref h1, .ref h2, .ref h3, .int (nI kc), va_rf la, .int cu])), (h1, .inr (4, [.ref t1, .int (nI len)])), (t1, .inl (cA, 80, .inl cs)), (r3, .inl (cA, 80, .inl ps_z_1))]) (w1 := fun (u9 : Unit) => [(h2, .inr (3, [.ref r1, .ref r2, .ref r3, .ref r4, .ref r5, .int (nI sz_z_1)])), (r1, .inl (cA, 80, .inl ss_z_1)), (r2, .inl (cA, 80, .inl ts_z_1)), (r4, .inl (cA, 80, .inl (m_X2_findKinds ss_z_1 ts_z_1 ks sz_z_1))), (r5, .inl (cA, 80, .inl (m_X2_findDigits ss_z_1 ts_z_1 (m_X2_findKinds ss_z_1 ts_z_1 ks sz_z_1) ds sz_z_1)))]) (va_runV (As := []) (rest := []) ⟨hx, hb, hml, hown, hts⟩ (c_X2_findDigits l dC dI h2 r1 r2 r3 r4 r5 cA ss_z_1 ts_z_1 (m_X2_findKinds ss_z_1 ts_z_1 ks sz_z_1) ds sz_z_1 H.size (by omega)) (cwV 0 hts gX4_firstWrongPlace_X2_findDigits rfl rfl rfl (by decide +kernel) ⟨Nat.le_of_ble_eq_true rfl, Nat.le_of_ble_eq_true rfl⟩) ⟨wr_blind, va_recv hK hP (ci := 3) (q0 := 3) rfl rfl, (wr_pre hE hS hFc (hP.sub [3, 4, 5, 7, 8] rfl) (hK.sub (tys' := [(cA, .int)]) [0] rfl) (hD.sub (ws' := [(h2, .inr (3, [.ref r1, .ref r2, .ref r3, .ref r4, .ref r5, .int (nI sz_z_1)])), (r1, .inl (cA, 80, .inl ss_z_1)), (r2, .inl (cA, 80, .inl ts_z_1)), (r4, .inl (cA, 80, .inl (m_X2_findKinds ss_z_1 ts_z_1 ks sz_z_1))), (r5, .inl (cA, 80, .inl ds))]) [3, 4, 5, 7, 8] (by decide) rfl))⟩ rfl rfl hl.1 rfl (lv_room (Nat.le_of_ble_eq_true rfl)) dX4_firstWrongPlace_34 ⟨Nat.le_of_ble_eq_true rfl, Nat.le_of_ble_eq_true rfl⟩) hP hD hS hFc [3, 4, 5, 7, 8] [0, 1, 2, 6] rfl rfl (by decide) (by decide) (fun u9 H locs hw9 hP hD hS => ?_)
    have hP := hP.sub (ws' := [(h0, .inr (5, [.ref h1, .ref h2, .ref h3, .int (nI kc), va_rf la, .int cu])), (h1, .inr (4, [.ref t1, .int (nI len)])), (t1, .inl (cA, 80, .inl cs)), (h2, .inr (3, [.ref r1, .ref r2, .ref r3, .ref r4, .ref r5, .int (nI sz_z_1)])), (r1, .inl (cA, 80, .inl ss_z_1)), (r2, .inl (cA, 80, .inl ts_z_1)), (r3, .inl (cA, 80, .inl ps_z_1)), (r4, .inl (cA, 80, .inl (m_X2_findKinds ss_z_1 ts_z_1 ks sz_z_1))), (r5, .inl (cA, 80, .inl (m_X2_findDigits ss_z_1 ts_z_1 (m_X2_findKinds ss_z_1 ts_z_1 ks sz_z_1) ds sz_z_1)))]) [0, 1, 2, 4, 5, 6, 3, 7, 8] rfl
    have hD := hD.sub (ws' := [(h0, .inr (5, [.ref h1, .ref h2, .ref h3, .int (nI kc), va_rf la, .int cu])), (h1, .inr (4, [.ref t1, .int (nI len)])), (t1, .inl (cA, 80, .inl cs)), (h2, .inr (3, [.ref r1, .ref r2, .ref r3, .ref r4, .ref r5, .int (nI sz_z_1)])), (r1, .inl (cA, 80, .inl ss_z_1)), (r2, .inl (cA, 80, .inl ts_z_1)), (r3, .inl (cA, 80, .inl ps_z_1)), (r4, .inl (cA, 80, .inl (m_X2_findKinds ss_z_1 ts_z_1 ks sz_z_1))), (r5, .inl (cA, 80, .inl (m_X2_findDigits ss_z_1 ts_z_1 (m_X2_findKinds ss_z_1 ts_z_1 ks sz_z_1) ds sz_z_1)))]) [0, 1, 2, 4, 5, 6, 3, 7, 8] (by decide) rfl
    refine lv_aload_n hx hb dX4_firstWrongPlace_37 rfl (lv_at hl 1 rfl) ?_
    refine va_get (D := (dC, dI)) (ci := 5) (v := .ref h2) (C := RX4) (T := TX4) (N := 6) hx hb hts (by decide +kernel) hown hK hP 0 rfl rfl 1 (by decide) (hts (.fieldLink RX4 19 "PictureRows" "runs" "LPictureRows$Runs;") (by decide +kernel)) (fun _ h9 => h9) rfl dX4_firstWrongPlace_38 ?_
    refine rd_callV (As := []) (rest := []) ⟨hx, hb, hml, hown, hts⟩ (hE.rd hS) (c_X2_firstMisplaced l dC dI h2 r1 r2 r3 r4 r5 cA ss_z_1 ts_z_1 ps_z_1 (m_X2_findKinds ss_z_1 ts_z_1 ks sz_z_1) (m_X2_findDigits ss_z_1 ts_z_1 (m_X2_findKinds ss_z_1 ts_z_1 ks sz_z_1) ds sz_z_1) sz_z_1 (by omega)) (cwV 0 hts gX4_firstWrongPlace_X2_firstMisplaced rfl rfl rfl (by decide +kernel) ⟨Nat.le_of_ble_eq_true rfl, Nat.le_of_ble_eq_true rfl⟩) (hP.sub (ws' := [(h2, .inr (3, [.ref r1, .ref r2, .ref r3, .ref r4, .ref r5, .int (nI sz_z_1)])), (r1, .inl (cA, 80, .inl ss_z_1)), (r2, .inl (cA, 80, .inl ts_z_1)), (r3, .inl (cA, 80, .inl ps_z_1)), (r4, .inl (cA, 80, .inl (m_X2_findKinds ss_z_1 ts_z_1 ks sz_z_1))), (r5, .inl (cA, 80, .inl (m_X2_findDigits ss_z_1 ts_z_1 (m_X2_findKinds ss_z_1 ts_z_1 ks sz_z_1) ds sz_z_1)))]) [3, 4, 5, 6, 7, 8] rfl) (hK.sub [0] rfl) (va_recv hK hP (ci := 3) (q0 := 3) rfl rfl) rfl hl.1 rfl (Nat.le_of_ble_eq_true rfl) dX4_firstWrongPlace_41 ⟨Nat.le_of_ble_eq_true rfl, Nat.le_of_ble_eq_true rfl⟩ (fun r9 hr9 => ?_)
    subst hr9
    refine lv_istore_n (lv' := [(1, .int (m_X2_firstMisplaced ss_z_1 ts_z_1 ps_z_1 (m_X2_findKinds ss_z_1 ts_z_1 ks sz_z_1) (m_X2_findDigits ss_z_1 ts_z_1 (m_X2_findKinds ss_z_1 ts_z_1 ks sz_z_1) ds sz_z_1) sz_z_1)), (0, .ref h0)]) hx hb dX4_firstWrongPlace_44 rfl hl (by decide) rfl (fun ls hl => ?_)
    refine lv_iload_n hx hb dX4_firstWrongPlace_45 rfl (lv_at hl 0 rfl) ?_
    refine lv_iconst (v := (-1)) hx hb dX4_firstWrongPlace_46 (by decide) ?_
    refine lv_icmp_eq (tgt := 52) hx hb dX4_firstWrongPlace_47 (by decide) (fun c_3 => ?_) (fun c_3 => ?_)
    · skip
      refine lv_aload_n hx hb dX4_firstWrongPlace_52 rfl (lv_at hl 1 rfl) ?_
      refine va_get (D := (dC, dI)) (ci := 5) (v := .ref h2) (C := RX4) (T := TX4) (N := 6) hx hb hts (by decide +kernel) hown hK hP 0 rfl rfl 1 (by decide) (hts (.fieldLink RX4 19 "PictureRows" "runs" "LPictureRows$Runs;") (by decide +kernel)) (fun _ h9 => h9) rfl dX4_firstWrongPlace_53 ?_
      refine rd_callV (As := []) (rest := []) ⟨hx, hb, hml, hown, hts⟩ (hE.rd hS) (c_X2_kindsPresent l dC dI h2 r1 r2 r3 r4 r5 cA (m_X2_findKinds ss_z_1 ts_z_1 ks sz_z_1) sz_z_1 (by omega)) (cwV 0 hts gX4_firstWrongPlace_X2_kindsPresent rfl rfl rfl (by decide +kernel) ⟨Nat.le_of_ble_eq_true rfl, Nat.le_of_ble_eq_true rfl⟩) (hP.sub (ws' := [(h2, .inr (3, [.ref r1, .ref r2, .ref r3, .ref r4, .ref r5, .int (nI sz_z_1)])), (r4, .inl (cA, 80, .inl (m_X2_findKinds ss_z_1 ts_z_1 ks sz_z_1)))]) [3, 7] rfl) (hK.sub [0] rfl) (va_recv hK hP (ci := 3) (q0 := 3) rfl rfl) rfl hl.1 rfl (Nat.le_of_ble_eq_true rfl) dX4_firstWrongPlace_56 ⟨Nat.le_of_ble_eq_true rfl, Nat.le_of_ble_eq_true rfl⟩ (fun r9 hr9 => ?_)
      subst hr9
      refine lv_ldc (v := 278464) hx hb hown (hts (.constant RX4 132 278464) (by decide +kernel)) dX4_firstWrongPlace_59 ?_
      refine lv_iand hx hb dX4_firstWrongPlace_61 ?_
      refine lv_if_ne (tgt := 75) hx hb dX4_firstWrongPlace_62 (by decide) (fun c_4 => ?_) (fun c_4 => ?_)
      · skip
        refine lv_iconst (v := (-1)) hx hb dX4_firstWrongPlace_75 (by decide) ?_
        have hmE : m_X4_firstWrongPlace ss ts ps ks ds sz cs len cu = ((-1), ss_z_1, ts_z_1, ps_z_1, (m_X2_findKinds ss_z_1 ts_z_1 ks sz_z_1), (m_X2_findDigits ss_z_1 ts_z_1 (m_X2_findKinds ss_z_1 ts_z_1 ks sz_z_1) ds sz_z_1), sz_z_1) := by simp only [m_X4_firstWrongPlace, hz_1, if_pos c_2, if_pos c_3, if_neg c_4]
        exact wr_iret (v := (-1)) () hx hb hr hlocks hK hS (by rw [hmE]) (by rw [hmE]; exact hP) (by rw [hmE]; exact hD) dX4_firstWrongPlace_76
      · skip
        refine lv_aload_n hx hb dX4_firstWrongPlace_65 rfl (lv_at hl 1 rfl) ?_
        refine va_get (D := (dC, dI)) (ci := 5) (v := .ref h1) (C := RX4) (T := TX4) (N := 6) hx hb hts (by decide +kernel) hown hK hP 0 rfl rfl 0 (by decide) (hts (.fieldLink RX4 12 "PictureRows" "text" "LPictureRows$Text;") (by decide +kernel)) (fun _ h9 => h9) rfl dX4_firstWrongPlace_66 ?_
        refine va_getN (D := (dC, dI)) (ci := 4) (v := .int (nI len)) (C := RX3) (T := TX3) (N := 2) hx hb hts (by decide +kernel) hown hK hP 1 rfl rfl 1 (by decide) (va_Nw.use rfl (hE.1.1 ("PictureRows", 133, "PictureRows$Text", "length", "I") (by decide))) (fun _ h9 => h9) rfl dX4_firstWrongPlace_69 ?_
        refine lv_goto (tgt := 76) hx hb dX4_firstWrongPlace_72 (by decide) ?_
        have hmE : m_X4_firstWrongPlace ss ts ps ks ds sz cs len cu = (nI len, ss_z_1, ts_z_1, ps_z_1, (m_X2_findKinds ss_z_1 ts_z_1 ks sz_z_1), (m_X2_findDigits ss_z_1 ts_z_1 (m_X2_findKinds ss_z_1 ts_z_1 ks sz_z_1) ds sz_z_1), sz_z_1) := by simp only [m_X4_firstWrongPlace, hz_1, if_pos c_2, if_pos c_3, if_pos c_4]
        exact wr_iret (v := nI len) () hx hb hr hlocks hK hS (by rw [hmE]) (by rw [hmE]; exact hP) (by rw [hmE]; exact hD) dX4_firstWrongPlace_76
    · skip
      refine lv_iload_n hx hb dX4_firstWrongPlace_50 rfl (lv_at hl 0 rfl) ?_
      have hmE : m_X4_firstWrongPlace ss ts ps ks ds sz cs len cu = (m_X2_firstMisplaced ss_z_1 ts_z_1 ps_z_1 (m_X2_findKinds ss_z_1 ts_z_1 ks sz_z_1) (m_X2_findDigits ss_z_1 ts_z_1 (m_X2_findKinds ss_z_1 ts_z_1 ks sz_z_1) ds sz_z_1) sz_z_1, ss_z_1, ts_z_1, ps_z_1, (m_X2_findKinds ss_z_1 ts_z_1 ks sz_z_1), (m_X2_findDigits ss_z_1 ts_z_1 (m_X2_findKinds ss_z_1 ts_z_1 ks sz_z_1) ds sz_z_1), sz_z_1) := by simp only [m_X4_firstWrongPlace, hz_1, if_pos c_2, if_neg c_3]
      exact wr_iret (v := m_X2_firstMisplaced ss_z_1 ts_z_1 ps_z_1 (m_X2_findKinds ss_z_1 ts_z_1 ks sz_z_1) (m_X2_findDigits ss_z_1 ts_z_1 (m_X2_findKinds ss_z_1 ts_z_1 ks sz_z_1) ds sz_z_1) sz_z_1) () hx hb hr hlocks hK hS (by rw [hmE]) (by rw [hmE]; exact hP) (by rw [hmE]; exact hD) dX4_firstWrongPlace_51
  · skip
    refine lv_iload_n hx hb dX4_firstWrongPlace_21 rfl (lv_at hl 0 rfl) ?_
    have hmE : m_X4_firstWrongPlace ss ts ps ks ds sz cs len cu = (r_z_1, ss_z_1, ts_z_1, ps_z_1, ks, ds, sz_z_1) := by simp only [m_X4_firstWrongPlace, hz_1, if_neg c_2]
    exact wr_iret (v := r_z_1) () hx hb hr hlocks hK hS (by rw [hmE]) (by rw [hmE]; exact hP) (by rw [hmE]; exact hD) dX4_firstWrongPlace_22
def m_X4_keep (kf : Nat → Option Nat) (kc : Nat) (p0 : Nat) : (Nat → Option Nat) × Nat := if 40 ≤ kc then ((kf, kc)) else ((va_up kf kc (some p0), kc + 1))
set_option maxHeartbeats 4000000 in
set_option maxRecDepth 100000 in
theorem c_X4_keep (l : Launch) (dC : Nat → ClassId) (dI : Nat → Nat → Nat) (la : Option Nat) (h0 : Nat) (h1 : Nat) (h2 : Nat) (h3 : Nat) (p0 : Nat) (p1 : Nat) (p2 : Nat) (p3 : Nat) (p4 : Nat) (cu : Int32) (pcu : Int32) (sc : Int32) (cat : Int32) (da : Int32) (db : Int32) (scl : Int32) (cP : ClassId) (kf : Nat → Option Nat) (kc : Nat) (zz : Nat) (hkc : kc ≤ 40) : Met l yX4_keep wsX4_keep ({ frames := 0, cells := 0, slots := 0, locals := 0 } : Room) (va_Pc [.ref h0, .ref p0] (wr_P (dC, dI) vwCl [(h0, .inr (5, [.ref h1, .ref h2, .ref h3, .int (nI kc), va_rf la, .int cu])), (h3, .inl (cP, 40, .inr (.inr (.inr (.inr kf))))), (p0, .inr (2, [.ref p1, .ref p2, .ref p3, .int pcu, .int sc, .int cat, .int da, .int db, .int scl, .ref p4]))] [(cP, .object "PictureRows$Picture")] zz)) (va_Qv (S := Unit) (fun _ => True) (wr_B (dC, dI) vwCl (fun u9 => [(h0, .inr (5, [.ref h1, .ref h2, .ref h3, .int (nI ((m_X4_keep kf kc p0).2)), va_rf (some p0), .int cu])), (h3, .inl (cP, 40, .inr (.inr (.inr (.inr ((m_X4_keep kf kc p0).1)))))), (p0, .inr (2, [.ref p1, .ref p2, .ref p3, .int pcu, .int sc, .int cat, .int da, .int db, .int scl, .ref p4]))]) [(cP, .object "PictureRows$Picture")] (va_A [(h0, .inr (5, [.ref h1, .ref h2, .ref h3, .int (nI kc), va_rf la, .int cu])), (h3, .inl (cP, 40, .inr (.inr (.inr (.inr kf))))), (p0, .inr (2, [.ref p1, .ref p2, .ref p3, .int pcu, .int sc, .int cat, .int da, .int db, .int scl, .ref p4]))] zz)) (va_A [(h0, .inr (5, [.ref h1, .ref h2, .ref h3, .int (nI kc), va_rf la, .int cu])), (h3, .inl (cP, 40, .inr (.inr (.inr (.inr kf))))), (p0, .inr (2, [.ref p1, .ref p2, .ref p3, .int pcu, .int sc, .int cat, .int da, .int db, .int scl, .ref p4]))] zz)) 0 0 (va_A [(h0, .inr (5, [.ref h1, .ref h2, .ref h3, .int (nI kc), va_rf la, .int cu])), (h3, .inl (cP, 40, .inr (.inr (.inr (.inr kf))))), (p0, .inr (2, [.ref p1, .ref p2, .ref p3, .int pcu, .int sc, .int cat, .int da, .int db, .int scl, .ref p4]))] zz) := by
  refine Met.ofW (cc := cX4_keep) (maxL := 2) (ret := none) (by decide) rfl ?_
  intro p e s m args below meth c s₁ B hml hv
  obtain ⟨rfl, hsz0, hE, hP, hK, hD0⟩ := hv
  have hx := B.exec
  have hb := B.bytes
  have hr := B.returns
  have hts := atoms_spec (ws := wsX4_keep) B.pre
  have hown : s.vm.findClass RX4 = some m.cls := findClass_of_methodNamed B.named
  have hlocks := B.notSynchronized
  subst hsz0
  have hD := hD0.self (sz := s.heap.size)
  generalize hAe : va_A [(h0, .inr (5, [.ref h1, .ref h2, .ref h3, .int (nI kc), va_rf la, .int cu])), (h3, .inl (cP, 40, .inr (.inr (.inr (.inr kf))))), (p0, .inr (2, [.ref p1, .ref p2, .ref p3, .int pcu, .int sc, .int cat, .int da, .int db, .int scl, .ref p4]))] s.heap.size = A at hD hE ⊢
  have hA : ∀ q : Nat, s.heap.size ≤ q → A q := fun q h => by rw [← hAe]; exact Or.inr h
  have hS : va_S A s.heap s.heap [] := va_S.rf
  have hP : va_P (dC, dI) vwCl [(h0, .inr (5, [.ref h1, .ref h2, .ref h3, .int (nI kc), va_rf la, .int cu])), (h3, .inl (cP, 40, .inr (.inr (.inr (.inr kf))))), (p0, .inr (2, [.ref p1, .ref p2, .ref p3, .int pcu, .int sc, .int cat, .int da, .int db, .int scl, .ref p4]))] s.heap := hP
  have hl := lv_entry ([.ref h0, .ref p0]) (n := 2) (Nat.le_of_ble_eq_true rfl)
  rw [lg_entry_eq]
  generalize (lg_sl ([.ref h0, .ref p0]) ++ List.replicate (2 - (lg_sl ([.ref h0, .ref p0])).length) Slot.unset).toArray = ls at hl ⊢
  have hl : lv_has ls 2 [(0, .ref h0), (1, .ref p0)] := hl
  refine lv_aload_n hx hb dX4_keep_0 rfl (lv_at hl 0 rfl) ?_
  refine lv_aload_n hx hb dX4_keep_1 rfl (lv_at hl 1 rfl) ?_
  refine va_put (D := (dC, dI)) (ci := 5) (v := .ref p0) (ty := .object "PictureRows$Picture") (C := RX4) (T := TX4) (N := 6) hx hb hts (by decide +kernel) tyX4 tyX4_ok nmX4 hown hK hP hD hS 0 rfl rfl 4 (by decide) (hts (.fieldLink RX4 33 "PictureRows" "latest" "LPictureRows$Picture;") (by decide +kernel)) (fun _ h9 => h9) rfl (by decide +kernel) rfl rfl (Nat.le_of_ble_eq_true rfl) dX4_keep_2 (fun H locs hP hD hS => ?_)
  have hP : va_P (dC, dI) vwCl [(h0, .inr (5, [.ref h1, .ref h2, .ref h3, .int (nI kc), .ref p0, .int cu])), (h3, .inl (cP, 40, .inr (.inr (.inr (.inr kf))))), (p0, .inr (2, [.ref p1, .ref p2, .ref p3, .int pcu, .int sc, .int cat, .int da, .int db, .int scl, .ref p4]))] H := hP
  have hD : va_D A [(h0, .inr (5, [.ref h1, .ref h2, .ref h3, .int (nI kc), .ref p0, .int cu])), (h3, .inl (cP, 40, .inr (.inr (.inr (.inr kf))))), (p0, .inr (2, [.ref p1, .ref p2, .ref p3, .int pcu, .int sc, .int cat, .int da, .int db, .int scl, .ref p4]))] := hD
  refine lv_aload_n hx hb dX4_keep_5 rfl (lv_at hl 0 rfl) ?_
  refine va_get (D := (dC, dI)) (ci := 5) (v := .int (nI kc)) (C := RX4) (T := TX4) (N := 6) hx hb hts (by decide +kernel) hown hK hP 0 rfl rfl 3 (by decide) (hts (.fieldLink RX4 29 "PictureRows" "keptCount" "I") (by decide +kernel)) (fun _ h9 => h9) rfl dX4_keep_6 ?_
  refine lv_if_lt (tgt := 41) hx hb dX4_keep_9 (by decide) (fun c_1 => ?_) (fun c_1 => ?_)
  · skip
    have c_1 : kc < 0 := (nI_ltI (a := kc) (b := 0) (by omega) (by omega)).mp c_1
    exfalso; omega
  · skip
    have c_1 : ¬ kc < 0 := (fun q_ => c_1 ((nI_ltI (a := kc) (b := 0) (by omega) (by omega)).mpr q_))
    refine lv_aload_n hx hb dX4_keep_12 rfl (lv_at hl 0 rfl) ?_
    refine va_get (D := (dC, dI)) (ci := 5) (v := .int (nI kc)) (C := RX4) (T := TX4) (N := 6) hx hb hts (by decide +kernel) hown hK hP 0 rfl rfl 3 (by decide) (hts (.fieldLink RX4 29 "PictureRows" "keptCount" "I") (by decide +kernel)) (fun _ h9 => h9) rfl dX4_keep_13 ?_
    refine lv_bipush (v := 40) hx hb dX4_keep_16 (by decide) ?_
    refine lv_icmp_ge (tgt := 41) hx hb dX4_keep_18 (by decide) (fun c_2 => ?_) (fun c_2 => ?_)
    · skip
      have c_2 : 40 ≤ kc := (nI_leI (a := 40) (b := kc) (by omega) (by omega)).mp c_2
      have hmE : m_X4_keep kf kc p0 = (kf, kc) := by simp only [m_X4_keep, if_pos c_2]
      exact wr_vret () hx hb hr hlocks hK hS trivial (by rw [hmE]; exact hP) (by rw [hmE]; exact hD) dX4_keep_41
    · skip
      have c_2 : ¬ 40 ≤ kc := (fun q_ => c_2 ((nI_leI (a := 40) (b := kc) (by omega) (by omega)).mpr q_))
      refine lv_aload_n hx hb dX4_keep_21 rfl (lv_at hl 0 rfl) ?_
      refine va_get (D := (dC, dI)) (ci := 5) (v := .ref h3) (C := RX4) (T := TX4) (N := 6) hx hb hts (by decide +kernel) hown hK hP 0 rfl rfl 2 (by decide) (hts (.fieldLink RX4 25 "PictureRows" "kept" "[LPictureRows$Picture;") (by decide +kernel)) (fun _ h9 => h9) rfl dX4_keep_22 ?_
      refine lv_aload_n hx hb dX4_keep_25 rfl (lv_at hl 0 rfl) ?_
      refine va_get (D := (dC, dI)) (ci := 5) (v := .int (nI kc)) (C := RX4) (T := TX4) (N := 6) hx hb hts (by decide +kernel) hown hK hP 0 rfl rfl 3 (by decide) (hts (.fieldLink RX4 29 "PictureRows" "keptCount" "I") (by decide +kernel)) (fun _ h9 => h9) rfl dX4_keep_26 ?_
      refine lv_aload_n hx hb dX4_keep_29 rfl (lv_at hl 1 rfl) ?_
      refine wr_aast hx hb hK hP hD hS 1 0 2 2 rfl rfl rfl rfl (kc) (by omega) (by omega) dX4_keep_30 (fun H locs hP hD hS => ?_)
      have hP : va_P (dC, dI) vwCl [(h0, .inr (5, [.ref h1, .ref h2, .ref h3, .int (nI kc), .ref p0, .int cu])), (h3, .inl (cP, 40, .inr (.inr (.inr (.inr (va_up kf kc (some p0))))))), (p0, .inr (2, [.ref p1, .ref p2, .ref p3, .int pcu, .int sc, .int cat, .int da, .int db, .int scl, .ref p4]))] H := hP
      have hD : va_D A [(h0, .inr (5, [.ref h1, .ref h2, .ref h3, .int (nI kc), .ref p0, .int cu])), (h3, .inl (cP, 40, .inr (.inr (.inr (.inr (va_up kf kc (some p0))))))), (p0, .inr (2, [.ref p1, .ref p2, .ref p3, .int pcu, .int sc, .int cat, .int da, .int db, .int scl, .ref p4]))] := hD
      refine lv_aload_n hx hb dX4_keep_31 rfl (lv_at hl 0 rfl) ?_
      refine lv_dup hx hb dX4_keep_32 rfl ?_
      refine va_get (D := (dC, dI)) (ci := 5) (v := .int (nI kc)) (C := RX4) (T := TX4) (N := 6) hx hb hts (by decide +kernel) hown hK hP 0 rfl rfl 3 (by decide) (hts (.fieldLink RX4 29 "PictureRows" "keptCount" "I") (by decide +kernel)) (fun _ h9 => h9) rfl dX4_keep_33 ?_
      refine lv_iconst (v := 1) hx hb dX4_keep_36 (by decide) ?_
      refine rd_iadd hx hb (kc) (1) dX4_keep_37 ?_
      refine va_put (D := (dC, dI)) (ci := 5) (v := .int (nI (kc + 1))) (ty := .int) (C := RX4) (T := TX4) (N := 6) hx hb hts (by decide +kernel) tyX4 tyX4_ok nmX4 hown hK hP hD hS 0 rfl rfl 3 (by decide) (hts (.fieldLink RX4 29 "PictureRows" "keptCount" "I") (by decide +kernel)) (fun _ h9 => h9) rfl (by decide +kernel) rfl rfl (Nat.le_of_ble_eq_true rfl) dX4_keep_38 (fun H locs hP hD hS => ?_)
      have hP : va_P (dC, dI) vwCl [(h0, .inr (5, [.ref h1, .ref h2, .ref h3, .int (nI (kc + 1)), .ref p0, .int cu])), (h3, .inl (cP, 40, .inr (.inr (.inr (.inr (va_up kf kc (some p0))))))), (p0, .inr (2, [.ref p1, .ref p2, .ref p3, .int pcu, .int sc, .int cat, .int da, .int db, .int scl, .ref p4]))] H := hP
      have hD : va_D A [(h0, .inr (5, [.ref h1, .ref h2, .ref h3, .int (nI (kc + 1)), .ref p0, .int cu])), (h3, .inl (cP, 40, .inr (.inr (.inr (.inr (va_up kf kc (some p0))))))), (p0, .inr (2, [.ref p1, .ref p2, .ref p3, .int pcu, .int sc, .int cat, .int da, .int db, .int scl, .ref p4]))] := hD
      have hmE : m_X4_keep kf kc p0 = (va_up kf kc (some p0), kc + 1) := by simp only [m_X4_keep, if_neg c_2]
      exact wr_vret () hx hb hr hlocks hK hS trivial (by rw [hmE]; exact hP) (by rw [hmE]; exact hD) dX4_keep_41
def m_X4_category (cat : Int32) : Int32 := cat
set_option maxHeartbeats 4000000 in
set_option maxRecDepth 100000 in
theorem c_X4_category (l : Launch) (dC : Nat → ClassId) (dI : Nat → Nat → Nat) (h0 : Nat) (h1 : Nat) (h2 : Nat) (h3 : Nat) (p0 : Nat) (p1 : Nat) (p2 : Nat) (p3 : Nat) (p4 : Nat) (kc : Nat) (cu : Int32) (pcu : Int32) (sc : Int32) (da : Int32) (db : Int32) (scl : Int32) (cat : Int32) : Met l yX4_category wsX4_category ({ frames := 0, cells := 0, slots := 0, locals := 0 } : Room) (va_Pc [.ref h0] (rd_P (dC, dI) vwCl [(h0, .inr (5, [.ref h1, .ref h2, .ref h3, .int (nI kc), .ref p0, .int cu])), (p0, .inr (2, [.ref p1, .ref p2, .ref p3, .int pcu, .int sc, .int cat, .int da, .int db, .int scl, .ref p4]))] [])) (vp_Si (fun r => r = m_X4_category cat)) 0 0 (fun _ => False) := by
  refine Met.ofW (cc := cX4_category) (maxL := 1) (ret := (some .int)) (by decide) rfl ?_
  intro p e s m args below meth c s₁ B hml hv
  obtain ⟨rfl, hE, hP, hK⟩ := hv
  have hx := B.exec
  have hb := B.bytes
  have hr := B.returns
  have hts := atoms_spec (ws := wsX4_category) B.pre
  have hown : s.vm.findClass RX4 = some m.cls := findClass_of_methodNamed B.named
  have hlocks := B.notSynchronized
  have hl := lv_entry ([.ref h0]) (n := 1) (Nat.le_of_ble_eq_true rfl)
  rw [lg_entry_eq]
  generalize (lg_sl ([.ref h0]) ++ List.replicate (1 - (lg_sl ([.ref h0])).length) Slot.unset).toArray = ls at hl ⊢
  have hl : lv_has ls 1 [(0, .ref h0)] := hl
  refine lv_aload_n hx hb dX4_category_0 rfl (lv_at hl 0 rfl) ?_
  refine va_get (D := (dC, dI)) (ci := 5) (v := .ref p0) (C := RX4) (T := TX4) (N := 6) hx hb hts (by decide +kernel) hown hK hP 0 rfl rfl 4 (by decide) (hts (.fieldLink RX4 33 "PictureRows" "latest" "LPictureRows$Picture;") (by decide +kernel)) (fun _ h9 => h9) rfl dX4_category_1 ?_
  refine lv_ifnonnull (tgt := 11) hx hb dX4_category_4 (by decide) ?_
  refine lv_aload_n hx hb dX4_category_11 rfl (lv_at hl 0 rfl) ?_
  refine va_get (D := (dC, dI)) (ci := 5) (v := .ref p0) (C := RX4) (T := TX4) (N := 6) hx hb hts (by decide +kernel) hown hK hP 0 rfl rfl 4 (by decide) (hts (.fieldLink RX4 33 "PictureRows" "latest" "LPictureRows$Picture;") (by decide +kernel)) (fun _ h9 => h9) rfl dX4_category_12 ?_
  refine va_getN (D := (dC, dI)) (ci := 2) (v := .int cat) (C := RX1) (T := TX1) (N := 10) hx hb hts (by decide +kernel) hown hK hP 1 rfl rfl 5 (by decide) (va_Nw.use rfl (hE.1.1 ("PictureRows", 61, "PictureRows$Picture", "category", "I") (by decide))) (fun _ h9 => h9) rfl dX4_category_15 ?_
  exact rd_iret (v := cat) hx hb hr hlocks (show m_X4_category cat = cat from by simp only [m_X4_category]).symm dX4_category_18
def m_X4_digits_n (ix : Int32) : Int32 := (-1)
set_option maxHeartbeats 4000000 in
set_option maxRecDepth 100000 in
theorem c_X4_digits_n (l : Launch) (dC : Nat → ClassId) (dI : Nat → Nat → Nat) (h0 : Nat) (h1 : Nat) (h2 : Nat) (h3 : Nat) (kc : Nat) (cu : Int32) (ix : Int32) : Met l yX4_digits wsX4_digits ({ frames := 0, cells := 0, slots := 0, locals := 0 } : Room) (va_Pc [.ref h0, .int ix] (rd_P (dC, dI) vwCl [(h0, .inr (5, [.ref h1, .ref h2, .ref h3, .int (nI kc), .null, .int cu]))] [])) (vp_Si (fun r => r = m_X4_digits_n ix)) 0 0 (fun _ => False) := by
  refine Met.ofW (cc := cX4_digits) (maxL := 2) (ret := (some .int)) (by decide) rfl ?_
  intro p e s m args below meth c s₁ B hml hv
  obtain ⟨rfl, hE, hP, hK⟩ := hv
  have hx := B.exec
  have hb := B.bytes
  have hr := B.returns
  have hts := atoms_spec (ws := wsX4_digits) B.pre
  have hown : s.vm.findClass RX4 = some m.cls := findClass_of_methodNamed B.named
  have hlocks := B.notSynchronized
  have hl := lv_entry ([.ref h0, .int ix]) (n := 2) (Nat.le_of_ble_eq_true rfl)
  rw [lg_entry_eq]
  generalize (lg_sl ([.ref h0, .int ix]) ++ List.replicate (2 - (lg_sl ([.ref h0, .int ix])).length) Slot.unset).toArray = ls at hl ⊢
  have hl : lv_has ls 2 [(0, .ref h0), (1, .int ix)] := hl
  refine lv_aload_n hx hb dX4_digits_0 rfl (lv_at hl 0 rfl) ?_
  refine va_get (D := (dC, dI)) (ci := 5) (v := .null) (C := RX4) (T := TX4) (N := 6) hx hb hts (by decide +kernel) hown hK hP 0 rfl rfl 4 (by decide) (hts (.fieldLink RX4 33 "PictureRows" "latest" "LPictureRows$Picture;") (by decide +kernel)) (fun _ h9 => h9) rfl dX4_digits_1 ?_
  refine lv_ifnullN (tgt := 17) hx hb dX4_digits_4 (by decide) ?_
  refine lv_iconst (v := (-1)) hx hb dX4_digits_17 (by decide) ?_
  exact rd_iret (v := (-1)) hx hb hr hlocks (show m_X4_digits_n ix = (-1) from by simp only [m_X4_digits_n]).symm dX4_digits_18
def m_X4_at_n (ix : Int32) : Int32 := (-1)
set_option maxHeartbeats 4000000 in
set_option maxRecDepth 100000 in
theorem c_X4_at_n (l : Launch) (dC : Nat → ClassId) (dI : Nat → Nat → Nat) (h0 : Nat) (h1 : Nat) (h2 : Nat) (h3 : Nat) (kc : Nat) (cu : Int32) (ix : Int32) : Met l yX4_at wsX4_at ({ frames := 0, cells := 0, slots := 0, locals := 0 } : Room) (va_Pc [.ref h0, .int ix] (rd_P (dC, dI) vwCl [(h0, .inr (5, [.ref h1, .ref h2, .ref h3, .int (nI kc), .null, .int cu]))] [])) (vp_Si (fun r => r = m_X4_at_n ix)) 0 0 (fun _ => False) := by
  refine Met.ofW (cc := cX4_at) (maxL := 2) (ret := (some .int)) (by decide) rfl ?_
  intro p e s m args below meth c s₁ B hml hv
  obtain ⟨rfl, hE, hP, hK⟩ := hv
  have hx := B.exec
  have hb := B.bytes
  have hr := B.returns
  have hts := atoms_spec (ws := wsX4_at) B.pre
  have hown : s.vm.findClass RX4 = some m.cls := findClass_of_methodNamed B.named
  have hlocks := B.notSynchronized
  have hl := lv_entry ([.ref h0, .int ix]) (n := 2) (Nat.le_of_ble_eq_true rfl)
  rw [lg_entry_eq]
  generalize (lg_sl ([.ref h0, .int ix]) ++ List.replicate (2 - (lg_sl ([.ref h0, .int ix])).length) Slot.unset).toArray = ls at hl ⊢
  have hl : lv_has ls 2 [(0, .ref h0), (1, .int ix)] := hl
  refine lv_aload_n hx hb dX4_at_0 rfl (lv_at hl 0 rfl) ?_
  refine va_get (D := (dC, dI)) (ci := 5) (v := .null) (C := RX4) (T := TX4) (N := 6) hx hb hts (by decide +kernel) hown hK hP 0 rfl rfl 4 (by decide) (hts (.fieldLink RX4 33 "PictureRows" "latest" "LPictureRows$Picture;") (by decide +kernel)) (fun _ h9 => h9) rfl dX4_at_1 ?_
  refine lv_ifnonnullN hx hb dX4_at_4 ?_
  refine lv_iconst (v := (-1)) hx hb dX4_at_7 (by decide) ?_
  refine lv_goto (tgt := 19) hx hb dX4_at_8 (by decide) ?_
  exact rd_iret (v := (-1)) hx hb hr hlocks (show m_X4_at_n ix = (-1) from by simp only [m_X4_at_n]).symm dX4_at_19
def m_X4_insertion_n (ix : Int32) : Int32 := (-1)
set_option maxHeartbeats 4000000 in
set_option maxRecDepth 100000 in
theorem c_X4_insertion_n (l : Launch) (dC : Nat → ClassId) (dI : Nat → Nat → Nat) (h0 : Nat) (h1 : Nat) (h2 : Nat) (h3 : Nat) (kc : Nat) (cu : Int32) (ix : Int32) : Met l yX4_insertion wsX4_insertion ({ frames := 0, cells := 0, slots := 0, locals := 0 } : Room) (va_Pc [.ref h0, .int ix] (rd_P (dC, dI) vwCl [(h0, .inr (5, [.ref h1, .ref h2, .ref h3, .int (nI kc), .null, .int cu]))] [])) (vp_Si (fun r => r = m_X4_insertion_n ix)) 0 0 (fun _ => False) := by
  refine Met.ofW (cc := cX4_insertion) (maxL := 2) (ret := (some .int)) (by decide) rfl ?_
  intro p e s m args below meth c s₁ B hml hv
  obtain ⟨rfl, hE, hP, hK⟩ := hv
  have hx := B.exec
  have hb := B.bytes
  have hr := B.returns
  have hts := atoms_spec (ws := wsX4_insertion) B.pre
  have hown : s.vm.findClass RX4 = some m.cls := findClass_of_methodNamed B.named
  have hlocks := B.notSynchronized
  have hl := lv_entry ([.ref h0, .int ix]) (n := 2) (Nat.le_of_ble_eq_true rfl)
  rw [lg_entry_eq]
  generalize (lg_sl ([.ref h0, .int ix]) ++ List.replicate (2 - (lg_sl ([.ref h0, .int ix])).length) Slot.unset).toArray = ls at hl ⊢
  have hl : lv_has ls 2 [(0, .ref h0), (1, .int ix)] := hl
  refine lv_aload_n hx hb dX4_insertion_0 rfl (lv_at hl 0 rfl) ?_
  refine va_get (D := (dC, dI)) (ci := 5) (v := .null) (C := RX4) (T := TX4) (N := 6) hx hb hts (by decide +kernel) hown hK hP 0 rfl rfl 4 (by decide) (hts (.fieldLink RX4 33 "PictureRows" "latest" "LPictureRows$Picture;") (by decide +kernel)) (fun _ h9 => h9) rfl dX4_insertion_1 ?_
  refine lv_ifnonnullN hx hb dX4_insertion_4 ?_
  refine lv_iconst (v := (-1)) hx hb dX4_insertion_7 (by decide) ?_
  refine lv_goto (tgt := 19) hx hb dX4_insertion_8 (by decide) ?_
  exact rd_iret (v := (-1)) hx hb hr hlocks (show m_X4_insertion_n ix = (-1) from by simp only [m_X4_insertion_n]).symm dX4_insertion_19
def m_X4_scale_n : Int32 := 0
set_option maxHeartbeats 4000000 in
set_option maxRecDepth 100000 in
theorem c_X4_scale_n (l : Launch) (dC : Nat → ClassId) (dI : Nat → Nat → Nat) (h0 : Nat) (h1 : Nat) (h2 : Nat) (h3 : Nat) (kc : Nat) (cu : Int32) : Met l yX4_scale wsX4_scale ({ frames := 0, cells := 0, slots := 0, locals := 0 } : Room) (va_Pc [.ref h0] (rd_P (dC, dI) vwCl [(h0, .inr (5, [.ref h1, .ref h2, .ref h3, .int (nI kc), .null, .int cu]))] [])) (vp_Si (fun r => r = m_X4_scale_n)) 0 0 (fun _ => False) := by
  refine Met.ofW (cc := cX4_scale) (maxL := 1) (ret := (some .int)) (by decide) rfl ?_
  intro p e s m args below meth c s₁ B hml hv
  obtain ⟨rfl, hE, hP, hK⟩ := hv
  have hx := B.exec
  have hb := B.bytes
  have hr := B.returns
  have hts := atoms_spec (ws := wsX4_scale) B.pre
  have hown : s.vm.findClass RX4 = some m.cls := findClass_of_methodNamed B.named
  have hlocks := B.notSynchronized
  have hl := lv_entry ([.ref h0]) (n := 1) (Nat.le_of_ble_eq_true rfl)
  rw [lg_entry_eq]
  generalize (lg_sl ([.ref h0]) ++ List.replicate (1 - (lg_sl ([.ref h0])).length) Slot.unset).toArray = ls at hl ⊢
  have hl : lv_has ls 1 [(0, .ref h0)] := hl
  refine lv_aload_n hx hb dX4_scale_0 rfl (lv_at hl 0 rfl) ?_
  refine va_get (D := (dC, dI)) (ci := 5) (v := .null) (C := RX4) (T := TX4) (N := 6) hx hb hts (by decide +kernel) hown hK hP 0 rfl rfl 4 (by decide) (hts (.fieldLink RX4 33 "PictureRows" "latest" "LPictureRows$Picture;") (by decide +kernel)) (fun _ h9 => h9) rfl dX4_scale_1 ?_
  refine lv_ifnullN (tgt := 17) hx hb dX4_scale_4 (by decide) ?_
  refine lv_iconst (v := 0) hx hb dX4_scale_17 (by decide) ?_
  refine lv_goto (tgt := 28) hx hb dX4_scale_18 (by decide) ?_
  exact rd_iret (v := 0) hx hb hr hlocks (show m_X4_scale_n = 0 from by simp only [m_X4_scale_n]).symm dX4_scale_28
def m_X4_same_n (ix : Int32) : Bool := false
set_option maxHeartbeats 4000000 in
set_option maxRecDepth 100000 in
theorem c_X4_same_n (l : Launch) (dC : Nat → ClassId) (dI : Nat → Nat → Nat) (h0 : Nat) (h1 : Nat) (h2 : Nat) (h3 : Nat) (kc : Nat) (cu : Int32) (ix : Int32) : Met l yX4_same wsX4_same ({ frames := 0, cells := 0, slots := 0, locals := 0 } : Room) (va_Pc [.ref h0, .int ix] (rd_P (dC, dI) vwCl [(h0, .inr (5, [.ref h1, .ref h2, .ref h3, .int (nI kc), .null, .int cu]))] [])) (vp_Si (fun r => r = bI (m_X4_same_n ix))) 0 0 (fun _ => False) := by
  refine Met.ofW (cc := cX4_same) (maxL := 3) (ret := (some .boolean)) (by decide) rfl ?_
  intro p e s m args below meth c s₁ B hml hv
  obtain ⟨rfl, hE, hP, hK⟩ := hv
  have hx := B.exec
  have hb := B.bytes
  have hr := B.returns
  have hts := atoms_spec (ws := wsX4_same) B.pre
  have hown : s.vm.findClass RX4 = some m.cls := findClass_of_methodNamed B.named
  have hlocks := B.notSynchronized
  have hl := lv_entry ([.ref h0, .int ix]) (n := 3) (Nat.le_of_ble_eq_true rfl)
  rw [lg_entry_eq]
  generalize (lg_sl ([.ref h0, .int ix]) ++ List.replicate (3 - (lg_sl ([.ref h0, .int ix])).length) Slot.unset).toArray = ls at hl ⊢
  have hl : lv_has ls 3 [(0, .ref h0), (1, .int ix)] := hl
  refine lv_aload_n hx hb dX4_same_0 rfl (lv_at hl 0 rfl) ?_
  refine va_get (D := (dC, dI)) (ci := 5) (v := .null) (C := RX4) (T := TX4) (N := 6) hx hb hts (by decide +kernel) hown hK hP 0 rfl rfl 4 (by decide) (hts (.fieldLink RX4 33 "PictureRows" "latest" "LPictureRows$Picture;") (by decide +kernel)) (fun _ h9 => h9) rfl dX4_same_1 ?_
  refine lv_ifnullN (tgt := 25) hx hb dX4_same_4 (by decide) ?_
  refine lv_iconst (v := 0) hx hb dX4_same_25 (by decide) ?_
  exact rd_zret (v := 0) hx hb hr hlocks rfl (by rw [(show m_X4_same_n ix = false from by simp only [m_X4_same_n])]; rfl) dX4_same_26
def m_X4_digits (cat : Int32) (da : Int32) (db : Int32) (ix : Int32) : Int32 := if (m_X1_isNumber cat) = false then ((-1)) else (if ix = 0 then da else (if ix = 1 then db else ((-1))))
set_option maxHeartbeats 4000000 in
set_option maxRecDepth 100000 in
theorem c_X4_digits (l : Launch) (dC : Nat → ClassId) (dI : Nat → Nat → Nat) (h0 : Nat) (h1 : Nat) (h2 : Nat) (h3 : Nat) (p0 : Nat) (p1 : Nat) (p2 : Nat) (p3 : Nat) (p4 : Nat) (kc : Nat) (cu : Int32) (pcu : Int32) (sc : Int32) (scl : Int32) (cat : Int32) (da : Int32) (db : Int32) (ix : Int32) : Met l yX4_digits wsX4_digits ({ frames := 1, cells := 0, slots := 0, locals := 20 } : Room) (va_Pc [.ref h0, .int ix] (rd_P (dC, dI) vwCl [(h0, .inr (5, [.ref h1, .ref h2, .ref h3, .int (nI kc), .ref p0, .int cu])), (p0, .inr (2, [.ref p1, .ref p2, .ref p3, .int pcu, .int sc, .int cat, .int da, .int db, .int scl, .ref p4]))] [])) (vp_Si (fun r => r = m_X4_digits cat da db ix)) 0 0 (fun _ => False) := by
  refine Met.ofW (cc := cX4_digits) (maxL := 2) (ret := (some .int)) (by decide) rfl ?_
  intro p e s m args below meth c s₁ B hml hv
  obtain ⟨rfl, hE, hP, hK⟩ := hv
  have hx := B.exec
  have hb := B.bytes
  have hr := B.returns
  have hts := atoms_spec (ws := wsX4_digits) B.pre
  have hown : s.vm.findClass RX4 = some m.cls := findClass_of_methodNamed B.named
  have hlocks := B.notSynchronized
  have hl := lv_entry ([.ref h0, .int ix]) (n := 2) (Nat.le_of_ble_eq_true rfl)
  rw [lg_entry_eq]
  generalize (lg_sl ([.ref h0, .int ix]) ++ List.replicate (2 - (lg_sl ([.ref h0, .int ix])).length) Slot.unset).toArray = ls at hl ⊢
  have hl : lv_has ls 2 [(0, .ref h0), (1, .int ix)] := hl
  refine lv_aload_n hx hb dX4_digits_0 rfl (lv_at hl 0 rfl) ?_
  refine va_get (D := (dC, dI)) (ci := 5) (v := .ref p0) (C := RX4) (T := TX4) (N := 6) hx hb hts (by decide +kernel) hown hK hP 0 rfl rfl 4 (by decide) (hts (.fieldLink RX4 33 "PictureRows" "latest" "LPictureRows$Picture;") (by decide +kernel)) (fun _ h9 => h9) rfl dX4_digits_1 ?_
  refine lv_ifnull hx hb dX4_digits_4 ?_
  refine lv_aload_n hx hb dX4_digits_7 rfl (lv_at hl 0 rfl) ?_
  refine va_get (D := (dC, dI)) (ci := 5) (v := .ref p0) (C := RX4) (T := TX4) (N := 6) hx hb hts (by decide +kernel) hown hK hP 0 rfl rfl 4 (by decide) (hts (.fieldLink RX4 33 "PictureRows" "latest" "LPictureRows$Picture;") (by decide +kernel)) (fun _ h9 => h9) rfl dX4_digits_8 ?_
  refine rd_callV (As := []) (rest := []) ⟨hx, hb, hml, hown, hts⟩ hE (c_X1_isNumber l dC dI p0 p1 p2 p3 p4 pcu sc da db scl cat ) (cwV 0 hts gX4_digits_X1_isNumber rfl rfl rfl (by decide +kernel) ⟨Nat.le_of_ble_eq_true rfl, Nat.le_of_ble_eq_true rfl⟩) (hP.sub (ws' := [(p0, .inr (2, [.ref p1, .ref p2, .ref p3, .int pcu, .int sc, .int cat, .int da, .int db, .int scl, .ref p4]))]) [1] rfl) (hK.sub [] rfl) (va_recv hK hP (ci := 2) (q0 := 1) rfl rfl) rfl hl.1 rfl (Nat.le_of_ble_eq_true rfl) dX4_digits_11 ⟨Nat.zero_le _, Nat.zero_le _⟩ (fun r9 hr9 => ?_)
  subst hr9
  refine lv_if_ne (tgt := 19) hx hb dX4_digits_14 (by decide) (fun c_1 => ?_) (fun c_1 => ?_)
  · skip
    have c_1 := bI_n0 c_1
    refine lv_iload_n hx hb dX4_digits_19 rfl (lv_at hl 1 rfl) ?_
    refine lv_if_ne (tgt := 31) hx hb dX4_digits_20 (by decide) (fun c_2 => ?_) (fun c_2 => ?_)
    · skip
      refine lv_iload_n hx hb dX4_digits_31 rfl (lv_at hl 1 rfl) ?_
      refine lv_iconst (v := 1) hx hb dX4_digits_32 (by decide) ?_
      refine lv_icmp_ne (tgt := 46) hx hb dX4_digits_33 (by decide) (fun c_3 => ?_) (fun c_3 => ?_)
      · skip
        refine lv_iconst (v := (-1)) hx hb dX4_digits_46 (by decide) ?_
        exact rd_iret (v := (-1)) hx hb hr hlocks (show m_X4_digits cat da db ix = (-1) from by simp only [m_X4_digits, if_neg c_1, if_neg c_2, if_neg c_3]).symm dX4_digits_47
      · skip
        refine lv_aload_n hx hb dX4_digits_36 rfl (lv_at hl 0 rfl) ?_
        refine va_get (D := (dC, dI)) (ci := 5) (v := .ref p0) (C := RX4) (T := TX4) (N := 6) hx hb hts (by decide +kernel) hown hK hP 0 rfl rfl 4 (by decide) (hts (.fieldLink RX4 33 "PictureRows" "latest" "LPictureRows$Picture;") (by decide +kernel)) (fun _ h9 => h9) rfl dX4_digits_37 ?_
        refine va_getN (D := (dC, dI)) (ci := 2) (v := .int db) (C := RX1) (T := TX1) (N := 10) hx hb hts (by decide +kernel) hown hK hP 1 rfl rfl 7 (by decide) (va_Nw.use rfl (hE.1.1 ("PictureRows", 71, "PictureRows$Picture", "digitsBehind", "I") (by decide))) (fun _ h9 => h9) rfl dX4_digits_40 ?_
        refine lv_goto (tgt := 47) hx hb dX4_digits_43 (by decide) ?_
        exact rd_iret (v := db) hx hb hr hlocks (show m_X4_digits cat da db ix = db from by simp only [m_X4_digits, if_neg c_1, if_neg c_2, if_pos c_3]).symm dX4_digits_47
    · skip
      refine lv_aload_n hx hb dX4_digits_23 rfl (lv_at hl 0 rfl) ?_
      refine va_get (D := (dC, dI)) (ci := 5) (v := .ref p0) (C := RX4) (T := TX4) (N := 6) hx hb hts (by decide +kernel) hown hK hP 0 rfl rfl 4 (by decide) (hts (.fieldLink RX4 33 "PictureRows" "latest" "LPictureRows$Picture;") (by decide +kernel)) (fun _ h9 => h9) rfl dX4_digits_24 ?_
      refine va_getN (D := (dC, dI)) (ci := 2) (v := .int da) (C := RX1) (T := TX1) (N := 10) hx hb hts (by decide +kernel) hown hK hP 1 rfl rfl 6 (by decide) (va_Nw.use rfl (hE.1.1 ("PictureRows", 68, "PictureRows$Picture", "digitsAhead", "I") (by decide))) (fun _ h9 => h9) rfl dX4_digits_27 ?_
      exact rd_iret (v := da) hx hb hr hlocks (show m_X4_digits cat da db ix = da from by simp only [m_X4_digits, if_neg c_1, if_pos c_2]).symm dX4_digits_30
  · skip
    have c_1 := bI_0 c_1
    refine lv_iconst (v := (-1)) hx hb dX4_digits_17 (by decide) ?_
    exact rd_iret (v := (-1)) hx hb hr hlocks (show m_X4_digits cat da db ix = (-1) from by simp only [m_X4_digits, if_pos c_1]).symm dX4_digits_18
def m_X4_scale (cat : Int32) (scl : Int32) : Int32 := if (m_X1_isNumber cat) = false then 0 else scl
set_option maxHeartbeats 4000000 in
set_option maxRecDepth 100000 in
theorem c_X4_scale (l : Launch) (dC : Nat → ClassId) (dI : Nat → Nat → Nat) (h0 : Nat) (h1 : Nat) (h2 : Nat) (h3 : Nat) (p0 : Nat) (p1 : Nat) (p2 : Nat) (p3 : Nat) (p4 : Nat) (kc : Nat) (cu : Int32) (pcu : Int32) (sc : Int32) (da : Int32) (db : Int32) (cat : Int32) (scl : Int32) : Met l yX4_scale wsX4_scale ({ frames := 1, cells := 0, slots := 0, locals := 20 } : Room) (va_Pc [.ref h0] (rd_P (dC, dI) vwCl [(h0, .inr (5, [.ref h1, .ref h2, .ref h3, .int (nI kc), .ref p0, .int cu])), (p0, .inr (2, [.ref p1, .ref p2, .ref p3, .int pcu, .int sc, .int cat, .int da, .int db, .int scl, .ref p4]))] [])) (vp_Si (fun r => r = m_X4_scale cat scl)) 0 0 (fun _ => False) := by
  refine Met.ofW (cc := cX4_scale) (maxL := 1) (ret := (some .int)) (by decide) rfl ?_
  intro p e s m args below meth c s₁ B hml hv
  obtain ⟨rfl, hE, hP, hK⟩ := hv
  have hx := B.exec
  have hb := B.bytes
  have hr := B.returns
  have hts := atoms_spec (ws := wsX4_scale) B.pre
  have hown : s.vm.findClass RX4 = some m.cls := findClass_of_methodNamed B.named
  have hlocks := B.notSynchronized
  have hl := lv_entry ([.ref h0]) (n := 1) (Nat.le_of_ble_eq_true rfl)
  rw [lg_entry_eq]
  generalize (lg_sl ([.ref h0]) ++ List.replicate (1 - (lg_sl ([.ref h0])).length) Slot.unset).toArray = ls at hl ⊢
  have hl : lv_has ls 1 [(0, .ref h0)] := hl
  refine lv_aload_n hx hb dX4_scale_0 rfl (lv_at hl 0 rfl) ?_
  refine va_get (D := (dC, dI)) (ci := 5) (v := .ref p0) (C := RX4) (T := TX4) (N := 6) hx hb hts (by decide +kernel) hown hK hP 0 rfl rfl 4 (by decide) (hts (.fieldLink RX4 33 "PictureRows" "latest" "LPictureRows$Picture;") (by decide +kernel)) (fun _ h9 => h9) rfl dX4_scale_1 ?_
  refine lv_ifnull hx hb dX4_scale_4 ?_
  refine lv_aload_n hx hb dX4_scale_7 rfl (lv_at hl 0 rfl) ?_
  refine va_get (D := (dC, dI)) (ci := 5) (v := .ref p0) (C := RX4) (T := TX4) (N := 6) hx hb hts (by decide +kernel) hown hK hP 0 rfl rfl 4 (by decide) (hts (.fieldLink RX4 33 "PictureRows" "latest" "LPictureRows$Picture;") (by decide +kernel)) (fun _ h9 => h9) rfl dX4_scale_8 ?_
  refine rd_callV (As := []) (rest := []) ⟨hx, hb, hml, hown, hts⟩ hE (c_X1_isNumber l dC dI p0 p1 p2 p3 p4 pcu sc da db scl cat ) (cwV 0 hts gX4_scale_X1_isNumber rfl rfl rfl (by decide +kernel) ⟨Nat.le_of_ble_eq_true rfl, Nat.le_of_ble_eq_true rfl⟩) (hP.sub (ws' := [(p0, .inr (2, [.ref p1, .ref p2, .ref p3, .int pcu, .int sc, .int cat, .int da, .int db, .int scl, .ref p4]))]) [1] rfl) (hK.sub [] rfl) (va_recv hK hP (ci := 2) (q0 := 1) rfl rfl) rfl hl.1 rfl (Nat.le_of_ble_eq_true rfl) dX4_scale_11 ⟨Nat.zero_le _, Nat.zero_le _⟩ (fun r9 hr9 => ?_)
  subst hr9
  refine lv_if_ne (tgt := 21) hx hb dX4_scale_14 (by decide) (fun c_1 => ?_) (fun c_1 => ?_)
  · skip
    have c_1 := bI_n0 c_1
    refine lv_aload_n hx hb dX4_scale_21 rfl (lv_at hl 0 rfl) ?_
    refine va_get (D := (dC, dI)) (ci := 5) (v := .ref p0) (C := RX4) (T := TX4) (N := 6) hx hb hts (by decide +kernel) hown hK hP 0 rfl rfl 4 (by decide) (hts (.fieldLink RX4 33 "PictureRows" "latest" "LPictureRows$Picture;") (by decide +kernel)) (fun _ h9 => h9) rfl dX4_scale_22 ?_
    refine va_getN (D := (dC, dI)) (ci := 2) (v := .int scl) (C := RX1) (T := TX1) (N := 10) hx hb hts (by decide +kernel) hown hK hP 1 rfl rfl 8 (by decide) (va_Nw.use rfl (hE.1.1 ("PictureRows", 74, "PictureRows$Picture", "scale", "I") (by decide))) (fun _ h9 => h9) rfl dX4_scale_25 ?_
    exact rd_iret (v := scl) hx hb hr hlocks (show m_X4_scale cat scl = scl from by simp only [m_X4_scale, if_neg c_1]).symm dX4_scale_28
  · skip
    have c_1 := bI_0 c_1
    refine lv_iconst (v := 0) hx hb dX4_scale_17 (by decide) ?_
    refine lv_goto (tgt := 28) hx hb dX4_scale_18 (by decide) ?_
    exact rd_iret (v := 0) hx hb hr hlocks (show m_X4_scale cat scl = 0 from by simp only [m_X4_scale, if_pos c_1]).symm dX4_scale_28
def m_X4_at (ss : Nat → Int32) (ts : Nat → Int32) (n : Nat) (pcu : Int32) (ix : Int32) : Int32 := m_X1_characterAt ss ts n pcu ix
set_option maxHeartbeats 4000000 in
set_option maxRecDepth 100000 in
theorem c_X4_at (l : Launch) (dC : Nat → ClassId) (dI : Nat → Nat → Nat) (h0 : Nat) (h1 : Nat) (h2 : Nat) (h3 : Nat) (p0 : Nat) (p1 : Nat) (p2 : Nat) (p3 : Nat) (p4 : Nat) (kc : Nat) (cu : Int32) (sc : Int32) (cat : Int32) (da : Int32) (db : Int32) (scl : Int32) (cA : ClassId) (ss : Nat → Int32) (ts : Nat → Int32) (n : Nat) (pcu : Int32) (ix : Int32) (hn : n ≤ 80) : Met l yX4_at wsX4_at ({ frames := 2, cells := 0, slots := 0, locals := 46 } : Room) (va_Pc [.ref h0, .int ix] (rd_P (dC, dI) vwCl [(h0, .inr (5, [.ref h1, .ref h2, .ref h3, .int (nI kc), .ref p0, .int cu])), (p0, .inr (2, [.ref p1, .ref p2, .ref p3, .int pcu, .int sc, .int cat, .int da, .int db, .int scl, .ref p4])), (p1, .inl (cA, n, .inl ss)), (p2, .inl (cA, n, .inl ts))] [(cA, .int)])) (vp_Si (fun r => r = m_X4_at ss ts n pcu ix)) 0 0 (fun _ => False) := by
  refine Met.ofW (cc := cX4_at) (maxL := 2) (ret := (some .int)) (by decide) rfl ?_
  intro p e s m args below meth c s₁ B hml hv
  obtain ⟨rfl, hE, hP, hK⟩ := hv
  have hx := B.exec
  have hb := B.bytes
  have hr := B.returns
  have hts := atoms_spec (ws := wsX4_at) B.pre
  have hown : s.vm.findClass RX4 = some m.cls := findClass_of_methodNamed B.named
  have hlocks := B.notSynchronized
  have hl := lv_entry ([.ref h0, .int ix]) (n := 2) (Nat.le_of_ble_eq_true rfl)
  rw [lg_entry_eq]
  generalize (lg_sl ([.ref h0, .int ix]) ++ List.replicate (2 - (lg_sl ([.ref h0, .int ix])).length) Slot.unset).toArray = ls at hl ⊢
  have hl : lv_has ls 2 [(0, .ref h0), (1, .int ix)] := hl
  refine lv_aload_n hx hb dX4_at_0 rfl (lv_at hl 0 rfl) ?_
  refine va_get (D := (dC, dI)) (ci := 5) (v := .ref p0) (C := RX4) (T := TX4) (N := 6) hx hb hts (by decide +kernel) hown hK hP 0 rfl rfl 4 (by decide) (hts (.fieldLink RX4 33 "PictureRows" "latest" "LPictureRows$Picture;") (by decide +kernel)) (fun _ h9 => h9) rfl dX4_at_1 ?_
  refine lv_ifnonnull (tgt := 11) hx hb dX4_at_4 (by decide) ?_
  refine lv_aload_n hx hb dX4_at_11 rfl (lv_at hl 0 rfl) ?_
  refine va_get (D := (dC, dI)) (ci := 5) (v := .ref p0) (C := RX4) (T := TX4) (N := 6) hx hb hts (by decide +kernel) hown hK hP 0 rfl rfl 4 (by decide) (hts (.fieldLink RX4 33 "PictureRows" "latest" "LPictureRows$Picture;") (by decide +kernel)) (fun _ h9 => h9) rfl dX4_at_12 ?_
  refine lv_iload_n hx hb dX4_at_15 rfl (lv_at hl 1 rfl) ?_
  refine rd_callV (As := [.int ix]) (rest := []) ⟨hx, hb, hml, hown, hts⟩ hE (c_X1_characterAt l dC dI p0 p1 p2 p3 p4 cA sc cat da db scl ss ts n pcu ix (by omega)) (cwV 1 hts gX4_at_X1_characterAt rfl rfl rfl (by decide +kernel) ⟨Nat.le_of_ble_eq_true rfl, Nat.le_of_ble_eq_true rfl⟩) (hP.sub (ws' := [(p0, .inr (2, [.ref p1, .ref p2, .ref p3, .int pcu, .int sc, .int cat, .int da, .int db, .int scl, .ref p4])), (p1, .inl (cA, n, .inl ss)), (p2, .inl (cA, n, .inl ts))]) [1, 2, 3] rfl) (hK.sub [0] rfl) (va_recv hK hP (ci := 2) (q0 := 1) rfl rfl) rfl hl.1 rfl (Nat.le_of_ble_eq_true rfl) dX4_at_16 ⟨Nat.zero_le _, Nat.zero_le _⟩ (fun r9 hr9 => ?_)
  subst hr9
  exact rd_iret (v := m_X1_characterAt ss ts n pcu ix) hx hb hr hlocks (show m_X4_at ss ts n pcu ix = m_X1_characterAt ss ts n pcu ix from by simp only [m_X4_at]).symm dX4_at_19
def m_X4_insertion (ss : Nat → Int32) (ts : Nat → Int32) (ks : Nat → Int32) (n : Nat) (ix : Int32) : Int32 := m_X1_insertionsOf ss ts ks n ix
set_option maxHeartbeats 4000000 in
set_option maxRecDepth 100000 in
theorem c_X4_insertion (l : Launch) (dC : Nat → ClassId) (dI : Nat → Nat → Nat) (h0 : Nat) (h1 : Nat) (h2 : Nat) (h3 : Nat) (p0 : Nat) (p1 : Nat) (p2 : Nat) (p3 : Nat) (p4 : Nat) (kc : Nat) (cu : Int32) (pcu : Int32) (sc : Int32) (cat : Int32) (da : Int32) (db : Int32) (scl : Int32) (cA : ClassId) (ss : Nat → Int32) (ts : Nat → Int32) (ks : Nat → Int32) (n : Nat) (ix : Int32) (hn : n ≤ 80) : Met l yX4_insertion wsX4_insertion ({ frames := 2, cells := 0, slots := 0, locals := 44 } : Room) (va_Pc [.ref h0, .int ix] (rd_P (dC, dI) vwCl [(h0, .inr (5, [.ref h1, .ref h2, .ref h3, .int (nI kc), .ref p0, .int cu])), (p0, .inr (2, [.ref p1, .ref p2, .ref p3, .int pcu, .int sc, .int cat, .int da, .int db, .int scl, .ref p4])), (p1, .inl (cA, n, .inl ss)), (p2, .inl (cA, n, .inl ts)), (p3, .inl (cA, n, .inl ks))] [(cA, .int)])) (vp_Si (fun r => r = m_X4_insertion ss ts ks n ix)) 0 0 (fun _ => False) := by
  refine Met.ofW (cc := cX4_insertion) (maxL := 2) (ret := (some .int)) (by decide) rfl ?_
  intro p e s m args below meth c s₁ B hml hv
  obtain ⟨rfl, hE, hP, hK⟩ := hv
  have hx := B.exec
  have hb := B.bytes
  have hr := B.returns
  have hts := atoms_spec (ws := wsX4_insertion) B.pre
  have hown : s.vm.findClass RX4 = some m.cls := findClass_of_methodNamed B.named
  have hlocks := B.notSynchronized
  have hl := lv_entry ([.ref h0, .int ix]) (n := 2) (Nat.le_of_ble_eq_true rfl)
  rw [lg_entry_eq]
  generalize (lg_sl ([.ref h0, .int ix]) ++ List.replicate (2 - (lg_sl ([.ref h0, .int ix])).length) Slot.unset).toArray = ls at hl ⊢
  have hl : lv_has ls 2 [(0, .ref h0), (1, .int ix)] := hl
  refine lv_aload_n hx hb dX4_insertion_0 rfl (lv_at hl 0 rfl) ?_
  refine va_get (D := (dC, dI)) (ci := 5) (v := .ref p0) (C := RX4) (T := TX4) (N := 6) hx hb hts (by decide +kernel) hown hK hP 0 rfl rfl 4 (by decide) (hts (.fieldLink RX4 33 "PictureRows" "latest" "LPictureRows$Picture;") (by decide +kernel)) (fun _ h9 => h9) rfl dX4_insertion_1 ?_
  refine lv_ifnonnull (tgt := 11) hx hb dX4_insertion_4 (by decide) ?_
  refine lv_aload_n hx hb dX4_insertion_11 rfl (lv_at hl 0 rfl) ?_
  refine va_get (D := (dC, dI)) (ci := 5) (v := .ref p0) (C := RX4) (T := TX4) (N := 6) hx hb hts (by decide +kernel) hown hK hP 0 rfl rfl 4 (by decide) (hts (.fieldLink RX4 33 "PictureRows" "latest" "LPictureRows$Picture;") (by decide +kernel)) (fun _ h9 => h9) rfl dX4_insertion_12 ?_
  refine lv_iload_n hx hb dX4_insertion_15 rfl (lv_at hl 1 rfl) ?_
  refine rd_callV (As := [.int ix]) (rest := []) ⟨hx, hb, hml, hown, hts⟩ hE (c_X1_insertionsOf l dC dI p0 p1 p2 p3 p4 cA pcu sc cat da db scl ss ts ks n ix (by omega)) (cwV 1 hts gX4_insertion_X1_insertionsOf rfl rfl rfl (by decide +kernel) ⟨Nat.le_of_ble_eq_true rfl, Nat.le_of_ble_eq_true rfl⟩) (hP.sub (ws' := [(p0, .inr (2, [.ref p1, .ref p2, .ref p3, .int pcu, .int sc, .int cat, .int da, .int db, .int scl, .ref p4])), (p1, .inl (cA, n, .inl ss)), (p2, .inl (cA, n, .inl ts)), (p3, .inl (cA, n, .inl ks))]) [1, 2, 3, 4] rfl) (hK.sub [0] rfl) (va_recv hK hP (ci := 2) (q0 := 1) rfl rfl) rfl hl.1 rfl (Nat.le_of_ble_eq_true rfl) dX4_insertion_16 ⟨Nat.zero_le _, Nat.zero_le _⟩ (fun r9 hr9 => ?_)
  subst hr9
  exact rd_iret (v := m_X1_insertionsOf ss ts ks n ix) hx hb hr hlocks (show m_X4_insertion ss ts ks n ix = m_X1_insertionsOf ss ts ks n ix from by simp only [m_X4_insertion]).symm dX4_insertion_19
def m_X4_same_o (kc : Nat) (ix : Int32) : Bool := if ix < 0 then false else (if (nI kc) ≤ ix then false else false)
set_option maxHeartbeats 4000000 in
set_option maxRecDepth 100000 in
theorem c_X4_same_o (l : Launch) (dC : Nat → ClassId) (dI : Nat → Nat → Nat) (h0 : Nat) (h1 : Nat) (h2 : Nat) (h3 : Nat) (p0 : Nat) (cu : Int32) (kc : Nat) (ix : Int32) (hbad : ix < 0 ∨ nI kc ≤ ix) : Met l yX4_same wsX4_same ({ frames := 0, cells := 0, slots := 0, locals := 0 } : Room) (va_Pc [.ref h0, .int ix] (rd_P (dC, dI) vwCl [(h0, .inr (5, [.ref h1, .ref h2, .ref h3, .int (nI kc), .ref p0, .int cu]))] [])) (vp_Si (fun r => r = bI (m_X4_same_o kc ix))) 0 0 (fun _ => False) := by
  refine Met.ofW (cc := cX4_same) (maxL := 3) (ret := (some .boolean)) (by decide) rfl ?_
  intro p e s m args below meth c s₁ B hml hv
  obtain ⟨rfl, hE, hP, hK⟩ := hv
  have hx := B.exec
  have hb := B.bytes
  have hr := B.returns
  have hts := atoms_spec (ws := wsX4_same) B.pre
  have hown : s.vm.findClass RX4 = some m.cls := findClass_of_methodNamed B.named
  have hlocks := B.notSynchronized
  have hl := lv_entry ([.ref h0, .int ix]) (n := 3) (Nat.le_of_ble_eq_true rfl)
  rw [lg_entry_eq]
  generalize (lg_sl ([.ref h0, .int ix]) ++ List.replicate (3 - (lg_sl ([.ref h0, .int ix])).length) Slot.unset).toArray = ls at hl ⊢
  have hl : lv_has ls 3 [(0, .ref h0), (1, .int ix)] := hl
  refine lv_aload_n hx hb dX4_same_0 rfl (lv_at hl 0 rfl) ?_
  refine va_get (D := (dC, dI)) (ci := 5) (v := .ref p0) (C := RX4) (T := TX4) (N := 6) hx hb hts (by decide +kernel) hown hK hP 0 rfl rfl 4 (by decide) (hts (.fieldLink RX4 33 "PictureRows" "latest" "LPictureRows$Picture;") (by decide +kernel)) (fun _ h9 => h9) rfl dX4_same_1 ?_
  refine lv_ifnull hx hb dX4_same_4 ?_
  refine lv_iload_n hx hb dX4_same_7 rfl (lv_at hl 1 rfl) ?_
  refine lv_if_lt (tgt := 25) hx hb dX4_same_8 (by decide) (fun c_1 => ?_) (fun c_1 => ?_)
  · skip
    refine lv_iconst (v := 0) hx hb dX4_same_25 (by decide) ?_
    exact rd_zret (v := 0) hx hb hr hlocks rfl (by rw [(show m_X4_same_o kc ix = false from by simp only [m_X4_same_o, if_pos c_1])]; rfl) dX4_same_26
  · skip
    refine lv_iload_n hx hb dX4_same_11 rfl (lv_at hl 1 rfl) ?_
    refine lv_aload_n hx hb dX4_same_12 rfl (lv_at hl 0 rfl) ?_
    refine va_get (D := (dC, dI)) (ci := 5) (v := .int (nI kc)) (C := RX4) (T := TX4) (N := 6) hx hb hts (by decide +kernel) hown hK hP 0 rfl rfl 3 (by decide) (hts (.fieldLink RX4 29 "PictureRows" "keptCount" "I") (by decide +kernel)) (fun _ h9 => h9) rfl dX4_same_13 ?_
    refine lv_icmp_ge (tgt := 25) hx hb dX4_same_16 (by decide) (fun c_2 => ?_) (fun c_2 => ?_)
    · skip
      refine lv_iconst (v := 0) hx hb dX4_same_25 (by decide) ?_
      exact rd_zret (v := 0) hx hb hr hlocks rfl (by rw [(show m_X4_same_o kc ix = false from by simp only [m_X4_same_o, if_neg c_1, if_pos c_2])]; rfl) dX4_same_26
    · skip
      refine lv_iload_n hx hb dX4_same_19 rfl (lv_at hl 1 rfl) ?_
      refine lv_bipush (v := 40) hx hb dX4_same_20 (by decide) ?_
      refine lv_icmp_lt (tgt := 27) hx hb dX4_same_22 (by decide) (fun c_3 => ?_) (fun c_3 => ?_)
      · skip
        exfalso; rcases hbad with q | q <;> exact absurd q (by assumption)
      · skip
        refine lv_iconst (v := 0) hx hb dX4_same_25 (by decide) ?_
        exact rd_zret (v := 0) hx hb hr hlocks rfl (by rw [(show m_X4_same_o kc ix = false from by simp only [m_X4_same_o, if_neg c_1, if_neg c_2])]; rfl) dX4_same_26
def m_X4_same (es : Nat → Int32) (et : Nat → Int32) (n : Nat) (ez : Nat) (fs : Nat → Int32) (ft : Nat → Int32) (o : Nat) (fz : Nat) : Bool := if (m_X0_equalTo es et n ez fs ft o fz) = false then false else true
set_option maxHeartbeats 4000000 in
set_option maxRecDepth 100000 in
theorem c_X4_same (l : Launch) (dC : Nat → ClassId) (dI : Nat → Nat → Nat) (h0 : Nat) (h1 : Nat) (h2 : Nat) (h3 : Nat) (p0 : Nat) (p1 : Nat) (p2 : Nat) (p3 : Nat) (p4 : Nat) (p5 : Nat) (p6 : Nat) (r0 : Nat) (r1 : Nat) (r2 : Nat) (r3 : Nat) (r4 : Nat) (r5 : Nat) (r6 : Nat) (kc : Nat) (cu : Int32) (pcu : Int32) (sc : Int32) (cat : Int32) (da : Int32) (db : Int32) (scl : Int32) (rcu : Int32) (rsc : Int32) (rcat : Int32) (rda : Int32) (rdb : Int32) (rscl : Int32) (kf : Nat → Option Nat) (ix : Nat) (cA : ClassId) (cP : ClassId) (es : Nat → Int32) (et : Nat → Int32) (n : Nat) (ez : Nat) (fs : Nat → Int32) (ft : Nat → Int32) (o : Nat) (fz : Nat) (hn : n ≤ 80) (ho : o ≤ 80) (hez : ez ≤ 80) (hfz : fz ≤ 80) (hix : ix < kc) (hkc : kc ≤ 40) (hkf : kf ix = some r0) : Met l yX4_same wsX4_same ({ frames := 2, cells := 0, slots := 0, locals := 43 } : Room) (va_Pc [.ref h0, .int (nI ix)] (rd_P (dC, dI) vwCl [(h0, .inr (5, [.ref h1, .ref h2, .ref h3, .int (nI kc), .ref p0, .int cu])), (p0, .inr (2, [.ref p1, .ref p2, .ref p3, .int pcu, .int sc, .int cat, .int da, .int db, .int scl, .ref p4])), (p4, .inr (1, [.ref p5, .ref p6, .int (nI ez)])), (p5, .inl (cA, n, .inl es)), (p6, .inl (cA, n, .inl et)), (h3, .inl (cP, 40, .inr (.inr (.inr (.inr kf))))), (r0, .inr (2, [.ref r1, .ref r2, .ref r3, .int rcu, .int rsc, .int rcat, .int rda, .int rdb, .int rscl, .ref r4])), (r4, .inr (1, [.ref r5, .ref r6, .int (nI fz)])), (r5, .inl (cA, o, .inl fs)), (r6, .inl (cA, o, .inl ft))] [(cA, .int), (cP, .object "PictureRows$Picture")])) (vp_Si (fun r => r = bI (m_X4_same es et n ez fs ft o fz))) 0 0 (fun _ => False) := by
  refine Met.ofW (cc := cX4_same) (maxL := 3) (ret := (some .boolean)) (by decide) rfl ?_
  intro p e s m args below meth c s₁ B hml hv
  obtain ⟨rfl, hE, hP, hK⟩ := hv
  have hx := B.exec
  have hb := B.bytes
  have hr := B.returns
  have hts := atoms_spec (ws := wsX4_same) B.pre
  have hown : s.vm.findClass RX4 = some m.cls := findClass_of_methodNamed B.named
  have hlocks := B.notSynchronized
  have hl := lv_entry ([.ref h0, .int (nI ix)]) (n := 3) (Nat.le_of_ble_eq_true rfl)
  rw [lg_entry_eq]
  generalize (lg_sl ([.ref h0, .int (nI ix)]) ++ List.replicate (3 - (lg_sl ([.ref h0, .int (nI ix)])).length) Slot.unset).toArray = ls at hl ⊢
  have hl : lv_has ls 3 [(0, .ref h0), (1, .int (nI ix))] := hl
  refine lv_aload_n hx hb dX4_same_0 rfl (lv_at hl 0 rfl) ?_
  refine va_get (D := (dC, dI)) (ci := 5) (v := .ref p0) (C := RX4) (T := TX4) (N := 6) hx hb hts (by decide +kernel) hown hK hP 0 rfl rfl 4 (by decide) (hts (.fieldLink RX4 33 "PictureRows" "latest" "LPictureRows$Picture;") (by decide +kernel)) (fun _ h9 => h9) rfl dX4_same_1 ?_
  refine lv_ifnull hx hb dX4_same_4 ?_
  refine lv_iload_n hx hb dX4_same_7 rfl (lv_at hl 1 rfl) ?_
  refine lv_if_lt (tgt := 25) hx hb dX4_same_8 (by decide) (fun c_1 => ?_) (fun c_1 => ?_)
  · skip
    have c_1 : ix < 0 := (nI_ltI (a := ix) (b := 0) (by omega) (by omega)).mp c_1
    exfalso; omega
  · skip
    have c_1 : ¬ ix < 0 := (fun q_ => c_1 ((nI_ltI (a := ix) (b := 0) (by omega) (by omega)).mpr q_))
    refine lv_iload_n hx hb dX4_same_11 rfl (lv_at hl 1 rfl) ?_
    refine lv_aload_n hx hb dX4_same_12 rfl (lv_at hl 0 rfl) ?_
    refine va_get (D := (dC, dI)) (ci := 5) (v := .int (nI kc)) (C := RX4) (T := TX4) (N := 6) hx hb hts (by decide +kernel) hown hK hP 0 rfl rfl 3 (by decide) (hts (.fieldLink RX4 29 "PictureRows" "keptCount" "I") (by decide +kernel)) (fun _ h9 => h9) rfl dX4_same_13 ?_
    refine lv_icmp_ge (tgt := 25) hx hb dX4_same_16 (by decide) (fun c_2 => ?_) (fun c_2 => ?_)
    · skip
      have c_2 : kc ≤ ix := (nI_leI (a := kc) (b := ix) (by omega) (by omega)).mp c_2
      exfalso; omega
    · skip
      have c_2 : ¬ kc ≤ ix := (fun q_ => c_2 ((nI_leI (a := kc) (b := ix) (by omega) (by omega)).mpr q_))
      refine lv_iload_n hx hb dX4_same_19 rfl (lv_at hl 1 rfl) ?_
      refine lv_bipush (v := 40) hx hb dX4_same_20 (by decide) ?_
      refine lv_icmp_lt (tgt := 27) hx hb dX4_same_22 (by decide) (fun c_3 => ?_) (fun c_3 => ?_)
      · skip
        have c_3 : ix < 40 := (nI_ltI (a := ix) (b := 40) (by omega) (by omega)).mp c_3
        refine lv_aload_n hx hb dX4_same_27 rfl (lv_at hl 0 rfl) ?_
        refine va_get (D := (dC, dI)) (ci := 5) (v := .ref h3) (C := RX4) (T := TX4) (N := 6) hx hb hts (by decide +kernel) hown hK hP 0 rfl rfl 2 (by decide) (hts (.fieldLink RX4 25 "PictureRows" "kept" "[LPictureRows$Picture;") (by decide +kernel)) (fun _ h9 => h9) rfl dX4_same_28 ?_
        refine lv_iload_n hx hb dX4_same_31 rfl (lv_at hl 1 rfl) ?_
        refine rd_aald (r := r0) hx hb hK hP 5 1 rfl rfl (ix) (by omega) (by omega) hkf dX4_same_32 ?_
        refine lv_astore_n (lv' := [(2, .ref r0), (0, .ref h0), (1, .int (nI ix))]) hx hb dX4_same_33 rfl hl (by decide) rfl (fun ls hl => ?_)
        refine lv_aload_n hx hb dX4_same_34 rfl (lv_at hl 0 rfl) ?_
        refine lv_ifnull hx hb dX4_same_35 ?_
        refine lv_aload_n hx hb dX4_same_38 rfl (lv_at hl 1 rfl) ?_
        refine va_get (D := (dC, dI)) (ci := 5) (v := .ref p0) (C := RX4) (T := TX4) (N := 6) hx hb hts (by decide +kernel) hown hK hP 0 rfl rfl 4 (by decide) (hts (.fieldLink RX4 33 "PictureRows" "latest" "LPictureRows$Picture;") (by decide +kernel)) (fun _ h9 => h9) rfl dX4_same_39 ?_
        refine va_getN (D := (dC, dI)) (ci := 2) (v := .ref p4) (C := RX1) (T := TX1) (N := 10) hx hb hts (by decide +kernel) hown hK hP 1 rfl rfl 9 (by decide) (va_Nw.use rfl (hE.1.1 ("PictureRows", 103, "PictureRows$Picture", "effect", "LPictureRows$Effect;") (by decide))) (fun _ h9 => h9) rfl dX4_same_42 ?_
        refine lv_aload_n hx hb dX4_same_45 rfl (lv_at hl 0 rfl) ?_
        refine va_getN (D := (dC, dI)) (ci := 2) (v := .ref r4) (C := RX1) (T := TX1) (N := 10) hx hb hts (by decide +kernel) hown hK hP 6 rfl rfl 9 (by decide) (va_Nw.use rfl (hE.1.1 ("PictureRows", 103, "PictureRows$Picture", "effect", "LPictureRows$Effect;") (by decide))) (fun _ h9 => h9) rfl dX4_same_46 ?_
        refine rd_callV (As := [.ref r4]) (rest := []) ⟨hx, hb, hml, hown, hts⟩ hE (c_X0_equalTo l dC dI p4 p5 p6 r4 r5 r6 cA es et n ez fs ft o fz (by omega) (by omega) (by omega) (by omega)) (cwV 1 hts gX4_same_X0_equalTo rfl rfl rfl (by decide +kernel) ⟨Nat.le_of_ble_eq_true rfl, Nat.le_of_ble_eq_true rfl⟩) (hP.sub (ws' := [(p4, .inr (1, [.ref p5, .ref p6, .int (nI ez)])), (p5, .inl (cA, n, .inl es)), (p6, .inl (cA, n, .inl et)), (r4, .inr (1, [.ref r5, .ref r6, .int (nI fz)])), (r5, .inl (cA, o, .inl fs)), (r6, .inl (cA, o, .inl ft))]) [2, 3, 4, 7, 8, 9] rfl) (hK.sub [0] rfl) (va_recv hK hP (ci := 1) (q0 := 2) rfl rfl) rfl hl.1 rfl (Nat.le_of_ble_eq_true rfl) dX4_same_49 ⟨Nat.zero_le _, Nat.zero_le _⟩ (fun r9 hr9 => ?_)
        subst hr9
        refine lv_if_eq (tgt := 59) hx hb dX4_same_52 (by decide) (fun c_4 => ?_) (fun c_4 => ?_)
        · skip
          have c_4 := bI_0 c_4
          refine lv_iconst (v := 0) hx hb dX4_same_59 (by decide) ?_
          exact rd_zret (v := 0) hx hb hr hlocks rfl (by rw [(show m_X4_same es et n ez fs ft o fz = false from by simp only [m_X4_same, if_pos c_4])]; rfl) dX4_same_60
        · skip
          have c_4 := bI_n0 c_4
          refine lv_iconst (v := 1) hx hb dX4_same_55 (by decide) ?_
          refine lv_goto (tgt := 60) hx hb dX4_same_56 (by decide) ?_
          exact rd_zret (v := 1) hx hb hr hlocks rfl (by rw [(show m_X4_same es et n ez fs ft o fz = true from by simp only [m_X4_same, if_neg c_4])]; rfl) dX4_same_60
      · skip
        have c_3 : ¬ ix < 40 := (fun q_ => c_3 ((nI_ltI (a := ix) (b := 40) (by omega) (by omega)).mpr q_))
        exfalso; omega
