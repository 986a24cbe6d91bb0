theorem m_X4_widthOf_le (sg : Int32) : m_X4_widthOf sg ≤ 2 := by
  unfold m_X4_widthOf
  split
  · exact Nat.le_refl _
  · split
    · exact Nat.le_refl _
    · exact Nat.le_succ _
theorem m_X4_widthOf_pos (sg : Int32) : 1 ≤ m_X4_widthOf sg := by
  unfold m_X4_widthOf
  split
  · exact Nat.le_succ _
  · split
    · exact Nat.le_succ _
    · exact Nat.le_refl _
/-- closeOf answers a place, at most five on, or -1 -/
theorem m_X3_closeOf_L4_is (cs : Nat → Int32) (len op : Nat) : ∀ k i, i ≤ op + 6 → m_X3_closeOf_L4 cs len op k i = -1 ∨ ∃ j, j ≤ op + 5 ∧ m_X3_closeOf_L4 cs len op k i = nI j := by
  intro k
  induction k with
  | zero => intro i _; exact Or.inr ⟨0, Nat.zero_le _, rfl⟩
  | succ k ih =>
    intro i h2
    rw [m_X3_closeOf_L4]
    split
    · exact Or.inl rfl
    · split
      · exact Or.inr ⟨i, by omega, rfl⟩
      · split
        · exact Or.inl rfl
        · split
          · exact ih (i + 1) (by omega)
          · exact Or.inl rfl
theorem m_X3_closeOf_is (cs : Nat → Int32) (len op : Nat) : m_X3_closeOf cs len op = -1 ∨ ∃ j, j ≤ op + 5 ∧ m_X3_closeOf cs len op = nI j := m_X3_closeOf_L4_is cs len op _ _ (by omega)
theorem m_X3_closeOf_le (cs : Nat → Int32) (len op : Nat) (hop : op ≤ 100) : (m_X3_closeOf cs len op).toInt ≤ ((200 : Nat) : Int) ∧ (m_X3_closeOf cs len op).toNatClampNeg ≤ op + 5 := by
  rcases m_X3_closeOf_is cs len op with h | ⟨j, hj, h⟩
  · rw [h]
    exact ⟨by decide, by rw [show (-1 : Int32).toNatClampNeg = 0 from by decide]; omega⟩
  · rw [h, nI_toInt (by omega), nI_clamp (by omega)]
    exact ⟨by omega, hj⟩
theorem nbt_pos {cs : Nat → Int32} {len op : Nat} {cl : Int32} (h : 1 ≤ m_X3_numberBetween cs len op cl) (hop : op ≤ 100) : ¬ cl < 0 := by
  intro q
  have h1 : cl ≤ nI (op + 1) := Int32.le_iff_toInt_le.mpr (by
    have a := Int32.lt_iff_toInt_lt.mp q
    rw [Int32.toInt_zero] at a
    rw [nI_toInt (by omega)]
    omega)
  rw [m_X3_numberBetween, m_X3_numberBetween_L7, if_pos h1] at h
  exact absurd h (by decide)
def m_X0_add (ss : Nat → Int32) (ts : Nat → Int32) (n : Nat) (sz : Nat) (sg : Int32) (tm : Int32) : (Nat → Int32) × (Nat → Int32) × Nat := if ((nI sz) - 1) < 0 then (if n ≤ sz then ((ss, ts, sz)) else ((upd ss sz sg, upd ts sz tm, sz + 1))) else (if (nI n) ≤ ((nI sz) - 1) then (if n ≤ sz then ((ss, ts, sz)) else ((upd ss sz sg, upd ts sz tm, sz + 1))) else (if (ss ((nI sz) - 1).toNatClampNeg) = sg then ((ss, upd ts ((nI sz) - 1).toNatClampNeg ((ts ((nI sz) - 1).toNatClampNeg) + tm), sz)) else (if n ≤ sz then ((ss, ts, sz)) else ((upd ss sz sg, upd ts sz tm, sz + 1)))))
set_option maxHeartbeats 4000000 in
set_option maxRecDepth 100000 in
theorem c_X0_add (l : Launch) (dC : Nat → ClassId) (dI : Nat → Nat → Nat) (h0 : Nat) (h1 : Nat) (h2 : Nat) (cA : ClassId) (ss : Nat → Int32) (ts : Nat → Int32) (n : Nat) (sz : Nat) (sg : Int32) (tm : Int32) (zz : Nat) (hn : n ≤ 80) (hsz : sz ≤ 80) : Met l yX0_add wsX0_add ({ frames := 0, cells := 0, slots := 0, locals := 0 } : Room) (va_Pc [.ref h0, .int sg, .int tm] (wr_P (dC, dI) vwCl [(h0, .inr (1, [.ref h1, .ref h2, .int (nI sz)])), (h1, .inl (cA, n, .inl ss)), (h2, .inl (cA, n, .inl ts))] [(cA, .int)] zz)) (va_Qv (S := Unit) (fun _ => True) (wr_B (dC, dI) vwCl (fun u9 => [(h0, .inr (1, [.ref h1, .ref h2, .int (nI ((m_X0_add ss ts n sz sg tm).2.2))])), (h1, .inl (cA, n, .inl ((m_X0_add ss ts n sz sg tm).1))), (h2, .inl (cA, n, .inl ((m_X0_add ss ts n sz sg tm).2.1)))]) [(cA, .int)] (va_A [(h0, .inr (1, [.ref h1, .ref h2, .int (nI sz)])), (h1, .inl (cA, n, .inl ss)), (h2, .inl (cA, n, .inl ts))] zz)) (va_A [(h0, .inr (1, [.ref h1, .ref h2, .int (nI sz)])), (h1, .inl (cA, n, .inl ss)), (h2, .inl (cA, n, .inl ts))] zz)) 0 0 (va_A [(h0, .inr (1, [.ref h1, .ref h2, .int (nI sz)])), (h1, .inl (cA, n, .inl ss)), (h2, .inl (cA, n, .inl ts))] zz) := by
  refine Met.ofW (cc := cX0_add) (maxL := 4) (ret := none) (by decide) rfl ?_
  intro p e s m args below meth c s₁ B hml hv
  obtain ⟨rfl, hsz0, hE, hP, hK, hD0⟩ := hv
  have hx := B.exec
  have hb := B.bytes
  have hr := B.returns
  have hts := atoms_spec (ws := wsX0_add) B.pre
  have hown : s.vm.findClass RX0 = some m.cls := findClass_of_methodNamed B.named
  have hlocks := B.notSynchronized
  subst hsz0
  have hD := hD0.self (sz := s.heap.size)
  generalize hAe : va_A [(h0, .inr (1, [.ref h1, .ref h2, .int (nI sz)])), (h1, .inl (cA, n, .inl ss)), (h2, .inl (cA, n, .inl ts))] s.heap.size = A at hD hE ⊢
  have hA : ∀ q : Nat, s.heap.size ≤ q → A q := fun q h => by rw [← hAe]; exact Or.inr h
  have hS : va_S A s.heap s.heap [] := va_S.rf
  have hP : va_P (dC, dI) vwCl [(h0, .inr (1, [.ref h1, .ref h2, .int (nI sz)])), (h1, .inl (cA, n, .inl ss)), (h2, .inl (cA, n, .inl ts))] s.heap := hP
  have hl := lv_entry ([.ref h0, .int sg, .int tm]) (n := 4) (Nat.le_of_ble_eq_true rfl)
  rw [lg_entry_eq]
  generalize (lg_sl ([.ref h0, .int sg, .int tm]) ++ List.replicate (4 - (lg_sl ([.ref h0, .int sg, .int tm])).length) Slot.unset).toArray = ls at hl ⊢
  have hl : lv_has ls 4 [(0, .ref h0), (1, .int sg), (2, .int tm)] := hl
  refine lv_aload_n hx hb dX0_add_0 rfl (lv_at hl 0 rfl) ?_
  refine va_get (D := (dC, dI)) (ci := 1) (v := .int (nI sz)) (C := RX0) (T := TX0) (N := 3) hx hb hts (by decide +kernel) hown hK hP 0 rfl rfl 2 (by decide) (hts (.fieldLink RX0 9 "PictureRows$Effect" "size" "I") (by decide +kernel)) (fun _ h9 => h9) rfl dX0_add_1 ?_
  refine lv_iconst (v := 1) hx hb dX0_add_4 (by decide) ?_
  refine lv_isub hx hb dX0_add_5 ?_
  refine lv_istore_n (lv' := [(3, .int ((nI sz) - 1)), (0, .ref h0), (1, .int sg), (2, .int tm)]) hx hb dX0_add_6 rfl hl (by decide) rfl (fun ls hl => ?_)
  refine lv_iload_n hx hb dX0_add_7 rfl (lv_at hl 0 rfl) ?_
  refine lv_if_lt (tgt := 52) hx hb dX0_add_8 (by decide) (fun c_1 => ?_) (fun c_1 => ?_)
  · skip
    refine lv_aload_n hx hb dX0_add_52 rfl (lv_at hl 1 rfl) ?_
    refine va_get (D := (dC, dI)) (ci := 1) (v := .int (nI sz)) (C := RX0) (T := TX0) (N := 3) hx hb hts (by decide +kernel) hown hK hP 0 rfl rfl 2 (by decide) (hts (.fieldLink RX0 9 "PictureRows$Effect" "size" "I") (by decide +kernel)) (fun _ h9 => h9) rfl dX0_add_53 ?_
    refine lv_if_lt (tgt := 113) hx hb dX0_add_56 (by decide) (fun c_2 => ?_) (fun c_2 => ?_)
    · skip
      have c_2 : sz < 0 := (nI_ltI (a := sz) (b := 0) (by omega) (by omega)).mp c_2
      exfalso; omega
    · skip
      have c_2 : ¬ sz < 0 := (fun q_ => c_2 ((nI_ltI (a := sz) (b := 0) (by omega) (by omega)).mpr q_))
      refine lv_aload_n hx hb dX0_add_59 rfl (lv_at hl 1 rfl) ?_
      refine va_get (D := (dC, dI)) (ci := 1) (v := .int (nI sz)) (C := RX0) (T := TX0) (N := 3) hx hb hts (by decide +kernel) hown hK hP 0 rfl rfl 2 (by decide) (hts (.fieldLink RX0 9 "PictureRows$Effect" "size" "I") (by decide +kernel)) (fun _ h9 => h9) rfl dX0_add_60 ?_
      refine lv_aload_n hx hb dX0_add_63 rfl (lv_at hl 1 rfl) ?_
      refine va_get (D := (dC, dI)) (ci := 1) (v := .ref h1) (C := RX0) (T := TX0) (N := 3) hx hb hts (by decide +kernel) hown hK hP 0 rfl rfl 0 (by decide) (hts (.fieldLink RX0 21 "PictureRows$Effect" "signs" "[I") (by decide +kernel)) (fun _ h9 => h9) rfl dX0_add_64 ?_
      refine va_alen (v := nI n) hx hb hK hP 1 0 rfl rfl rfl dX0_add_67 ?_
      refine lv_icmp_ge (tgt := 113) hx hb dX0_add_68 (by decide) (fun c_3 => ?_) (fun c_3 => ?_)
      · skip
        have c_3 : n ≤ sz := (nI_leI (a := n) (b := sz) (by omega) (by omega)).mp c_3
        have hmE : m_X0_add ss ts n sz sg tm = (ss, ts, sz) := by simp only [m_X0_add, if_pos c_1, if_pos c_3]
        exact wr_vret () hx hb hr hlocks hK hS trivial (by rw [hmE]; exact hP) (by rw [hmE]; exact hD) dX0_add_113
      · skip
        have c_3 : ¬ n ≤ sz := (fun q_ => c_3 ((nI_leI (a := n) (b := sz) (by omega) (by omega)).mpr q_))
        refine lv_aload_n hx hb dX0_add_71 rfl (lv_at hl 1 rfl) ?_
        refine va_get (D := (dC, dI)) (ci := 1) (v := .int (nI sz)) (C := RX0) (T := TX0) (N := 3) hx hb hts (by decide +kernel) hown hK hP 0 rfl rfl 2 (by decide) (hts (.fieldLink RX0 9 "PictureRows$Effect" "size" "I") (by decide +kernel)) (fun _ h9 => h9) rfl dX0_add_72 ?_
        refine lv_aload_n hx hb dX0_add_75 rfl (lv_at hl 1 rfl) ?_
        refine va_get (D := (dC, dI)) (ci := 1) (v := .ref h2) (C := RX0) (T := TX0) (N := 3) hx hb hts (by decide +kernel) hown hK hP 0 rfl rfl 1 (by decide) (hts (.fieldLink RX0 25 "PictureRows$Effect" "times" "[I") (by decide +kernel)) (fun _ h9 => h9) rfl dX0_add_76 ?_
        refine va_alen (v := nI n) hx hb hK hP 2 0 rfl rfl rfl dX0_add_79 ?_
        refine lv_icmp_ge (tgt := 113) hx hb dX0_add_80 (by decide) (fun c_4 => ?_) (fun c_4 => ?_)
        · skip
          have c_4 : n ≤ sz := (nI_leI (a := n) (b := sz) (by omega) (by omega)).mp c_4
          exact absurd c_4 c_3
        · skip
          have c_4 : ¬ n ≤ sz := (fun q_ => c_4 ((nI_leI (a := n) (b := sz) (by omega) (by omega)).mpr q_))
          refine lv_aload_n hx hb dX0_add_83 rfl (lv_at hl 1 rfl) ?_
          refine va_get (D := (dC, dI)) (ci := 1) (v := .ref h1) (C := RX0) (T := TX0) (N := 3) hx hb hts (by decide +kernel) hown hK hP 0 rfl rfl 0 (by decide) (hts (.fieldLink RX0 21 "PictureRows$Effect" "signs" "[I") (by decide +kernel)) (fun _ h9 => h9) rfl dX0_add_84 ?_
          refine lv_aload_n hx hb dX0_add_87 rfl (lv_at hl 1 rfl) ?_
          refine va_get (D := (dC, dI)) (ci := 1) (v := .int (nI sz)) (C := RX0) (T := TX0) (N := 3) hx hb hts (by decide +kernel) hown hK hP 0 rfl rfl 2 (by decide) (hts (.fieldLink RX0 9 "PictureRows$Effect" "size" "I") (by decide +kernel)) (fun _ h9 => h9) rfl dX0_add_88 ?_
          refine lv_iload_n hx hb dX0_add_91 rfl (lv_at hl 2 rfl) ?_
          refine wr_iast (x := sg) hx hb hK hP hD hS 1 0 rfl rfl (sz) (by omega) (by omega) dX0_add_92 (fun H locs hP hD hS => ?_)
          have hP : va_P (dC, dI) vwCl [(h0, .inr (1, [.ref h1, .ref h2, .int (nI sz)])), (h1, .inl (cA, n, .inl (upd ss sz sg))), (h2, .inl (cA, n, .inl ts))] H := hP
          have hD : va_D A [(h0, .inr (1, [.ref h1, .ref h2, .int (nI sz)])), (h1, .inl (cA, n, .inl (upd ss sz sg))), (h2, .inl (cA, n, .inl ts))] := hD
          refine lv_aload_n hx hb dX0_add_93 rfl (lv_at hl 1 rfl) ?_
          refine va_get (D := (dC, dI)) (ci := 1) (v := .ref h2) (C := RX0) (T := TX0) (N := 3) hx hb hts (by decide +kernel) hown hK hP 0 rfl rfl 1 (by decide) (hts (.fieldLink RX0 25 "PictureRows$Effect" "times" "[I") (by decide +kernel)) (fun _ h9 => h9) rfl dX0_add_94 ?_
          refine lv_aload_n hx hb dX0_add_97 rfl (lv_at hl 1 rfl) ?_
          refine va_get (D := (dC, dI)) (ci := 1) (v := .int (nI sz)) (C := RX0) (T := TX0) (N := 3) hx hb hts (by decide +kernel) hown hK hP 0 rfl rfl 2 (by decide) (hts (.fieldLink RX0 9 "PictureRows$Effect" "size" "I") (by decide +kernel)) (fun _ h9 => h9) rfl dX0_add_98 ?_
          refine lv_iload_n hx hb dX0_add_101 rfl (lv_at hl 3 rfl) ?_
          refine wr_iast (x := tm) hx hb hK hP hD hS 2 0 rfl rfl (sz) (by omega) (by omega) dX0_add_102 (fun H locs hP hD hS => ?_)
          have hP : va_P (dC, dI) vwCl [(h0, .inr (1, [.ref h1, .ref h2, .int (nI sz)])), (h1, .inl (cA, n, .inl (upd ss sz sg))), (h2, .inl (cA, n, .inl (upd ts sz tm)))] H := hP
          have hD : va_D A [(h0, .inr (1, [.ref h1, .ref h2, .int (nI sz)])), (h1, .inl (cA, n, .inl (upd ss sz sg))), (h2, .inl (cA, n, .inl (upd ts sz tm)))] := hD
          refine lv_aload_n hx hb dX0_add_103 rfl (lv_at hl 1 rfl) ?_
          refine lv_dup hx hb dX0_add_104 rfl ?_
          refine va_get (D := (dC, dI)) (ci := 1) (v := .int (nI sz)) (C := RX0) (T := TX0) (N := 3) hx hb hts (by decide +kernel) hown hK hP 0 rfl rfl 2 (by decide) (hts (.fieldLink RX0 9 "PictureRows$Effect" "size" "I") (by decide +kernel)) (fun _ h9 => h9) rfl dX0_add_105 ?_
          refine lv_iconst (v := 1) hx hb dX0_add_108 (by decide) ?_
          refine rd_iadd hx hb (sz) (1) dX0_add_109 ?_
          refine va_put (D := (dC, dI)) (ci := 1) (v := .int (nI (sz + 1))) (ty := .int) (C := RX0) (T := TX0) (N := 3) hx hb hts (by decide +kernel) tyX0 tyX0_ok nmX0 hown hK hP hD hS 0 rfl rfl 2 (by decide) (hts (.fieldLink RX0 9 "PictureRows$Effect" "size" "I") (by decide +kernel)) (fun _ h9 => h9) rfl (by decide +kernel) rfl rfl (Nat.le_of_ble_eq_true rfl) dX0_add_110 (fun H locs hP hD hS => ?_)
          have hP : va_P (dC, dI) vwCl [(h0, .inr (1, [.ref h1, .ref h2, .int (nI (sz + 1))])), (h1, .inl (cA, n, .inl (upd ss sz sg))), (h2, .inl (cA, n, .inl (upd ts sz tm)))] H := hP
          have hD : va_D A [(h0, .inr (1, [.ref h1, .ref h2, .int (nI (sz + 1))])), (h1, .inl (cA, n, .inl (upd ss sz sg))), (h2, .inl (cA, n, .inl (upd ts sz tm)))] := hD
          have hmE : m_X0_add ss ts n sz sg tm = (upd ss sz sg, upd ts sz tm, sz + 1) := by simp only [m_X0_add, if_pos c_1, if_neg c_3]
          exact wr_vret () hx hb hr hlocks hK hS trivial (by rw [hmE]; exact hP) (by rw [hmE]; exact hD) dX0_add_113
  · skip
    refine lv_iload_n hx hb dX0_add_11 rfl (lv_at hl 0 rfl) ?_
    refine lv_aload_n hx hb dX0_add_12 rfl (lv_at hl 1 rfl) ?_
    refine va_get (D := (dC, dI)) (ci := 1) (v := .ref h1) (C := RX0) (T := TX0) (N := 3) hx hb hts (by decide +kernel) hown hK hP 0 rfl rfl 0 (by decide) (hts (.fieldLink RX0 21 "PictureRows$Effect" "signs" "[I") (by decide +kernel)) (fun _ h9 => h9) rfl dX0_add_13 ?_
    refine va_alen (v := nI n) hx hb hK hP 1 0 rfl rfl rfl dX0_add_16 ?_
    refine lv_icmp_ge (tgt := 52) hx hb dX0_add_17 (by decide) (fun c_5 => ?_) (fun c_5 => ?_)
    · skip
      refine lv_aload_n hx hb dX0_add_52 rfl (lv_at hl 1 rfl) ?_
      refine va_get (D := (dC, dI)) (ci := 1) (v := .int (nI sz)) (C := RX0) (T := TX0) (N := 3) hx hb hts (by decide +kernel) hown hK hP 0 rfl rfl 2 (by decide) (hts (.fieldLink RX0 9 "PictureRows$Effect" "size" "I") (by decide +kernel)) (fun _ h9 => h9) rfl dX0_add_53 ?_
      refine lv_if_lt (tgt := 113) hx hb dX0_add_56 (by decide) (fun c_6 => ?_) (fun c_6 => ?_)
      · skip
        have c_6 : sz < 0 := (nI_ltI (a := sz) (b := 0) (by omega) (by omega)).mp c_6
        exfalso; omega
      · skip
        have c_6 : ¬ sz < 0 := (fun q_ => c_6 ((nI_ltI (a := sz) (b := 0) (by omega) (by omega)).mpr q_))
        refine lv_aload_n hx hb dX0_add_59 rfl (lv_at hl 1 rfl) ?_
        refine va_get (D := (dC, dI)) (ci := 1) (v := .int (nI sz)) (C := RX0) (T := TX0) (N := 3) hx hb hts (by decide +kernel) hown hK hP 0 rfl rfl 2 (by decide) (hts (.fieldLink RX0 9 "PictureRows$Effect" "size" "I") (by decide +kernel)) (fun _ h9 => h9) rfl dX0_add_60 ?_
        refine lv_aload_n hx hb dX0_add_63 rfl (lv_at hl 1 rfl) ?_
        refine va_get (D := (dC, dI)) (ci := 1) (v := .ref h1) (C := RX0) (T := TX0) (N := 3) hx hb hts (by decide +kernel) hown hK hP 0 rfl rfl 0 (by decide) (hts (.fieldLink RX0 21 "PictureRows$Effect" "signs" "[I") (by decide +kernel)) (fun _ h9 => h9) rfl dX0_add_64 ?_
        refine va_alen (v := nI n) hx hb hK hP 1 0 rfl rfl rfl dX0_add_67 ?_
        refine lv_icmp_ge (tgt := 113) hx hb dX0_add_68 (by decide) (fun c_7 => ?_) (fun c_7 => ?_)
        · skip
          have c_7 : n ≤ sz := (nI_leI (a := n) (b := sz) (by omega) (by omega)).mp c_7
          have hmE : m_X0_add ss ts n sz sg tm = (ss, ts, sz) := by simp only [m_X0_add, if_neg c_1, if_pos c_5, if_pos c_7]
          exact wr_vret () hx hb hr hlocks hK hS trivial (by rw [hmE]; exact hP) (by rw [hmE]; exact hD) dX0_add_113
        · skip
          have c_7 : ¬ n ≤ sz := (fun q_ => c_7 ((nI_leI (a := n) (b := sz) (by omega) (by omega)).mpr q_))
          refine lv_aload_n hx hb dX0_add_71 rfl (lv_at hl 1 rfl) ?_
          refine va_get (D := (dC, dI)) (ci := 1) (v := .int (nI sz)) (C := RX0) (T := TX0) (N := 3) hx hb hts (by decide +kernel) hown hK hP 0 rfl rfl 2 (by decide) (hts (.fieldLink RX0 9 "PictureRows$Effect" "size" "I") (by decide +kernel)) (fun _ h9 => h9) rfl dX0_add_72 ?_
          refine lv_aload_n hx hb dX0_add_75 rfl (lv_at hl 1 rfl) ?_
          refine va_get (D := (dC, dI)) (ci := 1) (v := .ref h2) (C := RX0) (T := TX0) (N := 3) hx hb hts (by decide +kernel) hown hK hP 0 rfl rfl 1 (by decide) (hts (.fieldLink RX0 25 "PictureRows$Effect" "times" "[I") (by decide +kernel)) (fun _ h9 => h9) rfl dX0_add_76 ?_
          refine va_alen (v := nI n) hx hb hK hP 2 0 rfl rfl rfl dX0_add_79 ?_
          refine lv_icmp_ge (tgt := 113) hx hb dX0_add_80 (by decide) (fun c_8 => ?_) (fun c_8 => ?_)
          · skip
            have c_8 : n ≤ sz := (nI_leI (a := n) (b := sz) (by omega) (by omega)).mp c_8
            exact absurd c_8 c_7
          · skip
            have c_8 : ¬ n ≤ sz := (fun q_ => c_8 ((nI_leI (a := n) (b := sz) (by omega) (by omega)).mpr q_))
            refine lv_aload_n hx hb dX0_add_83 rfl (lv_at hl 1 rfl) ?_
            refine va_get (D := (dC, dI)) (ci := 1) (v := .ref h1) (C := RX0) (T := TX0) (N := 3) hx hb hts (by decide +kernel) hown hK hP 0 rfl rfl 0 (by decide) (hts (.fieldLink RX0 21 "PictureRows$Effect" "signs" "[I") (by decide +kernel)) (fun _ h9 => h9) rfl dX0_add_84 ?_
            refine lv_aload_n hx hb dX0_add_87 rfl (lv_at hl 1 rfl) ?_
            refine va_get (D := (dC, dI)) (ci := 1) (v := .int (nI sz)) (C := RX0) (T := TX0) (N := 3) hx hb hts (by decide +kernel) hown hK hP 0 rfl rfl 2 (by decide) (hts (.fieldLink RX0 9 "PictureRows$Effect" "size" "I") (by decide +kernel)) (fun _ h9 => h9) rfl dX0_add_88 ?_
            refine lv_iload_n hx hb dX0_add_91 rfl (lv_at hl 2 rfl) ?_
            refine wr_iast (x := sg) hx hb hK hP hD hS 1 0 rfl rfl (sz) (by omega) (by omega) dX0_add_92 (fun H locs hP hD hS => ?_)
            have hP : va_P (dC, dI) vwCl [(h0, .inr (1, [.ref h1, .ref h2, .int (nI sz)])), (h1, .inl (cA, n, .inl (upd ss sz sg))), (h2, .inl (cA, n, .inl ts))] H := hP
            have hD : va_D A [(h0, .inr (1, [.ref h1, .ref h2, .int (nI sz)])), (h1, .inl (cA, n, .inl (upd ss sz sg))), (h2, .inl (cA, n, .inl ts))] := hD
            refine lv_aload_n hx hb dX0_add_93 rfl (lv_at hl 1 rfl) ?_
            refine va_get (D := (dC, dI)) (ci := 1) (v := .ref h2) (C := RX0) (T := TX0) (N := 3) hx hb hts (by decide +kernel) hown hK hP 0 rfl rfl 1 (by decide) (hts (.fieldLink RX0 25 "PictureRows$Effect" "times" "[I") (by decide +kernel)) (fun _ h9 => h9) rfl dX0_add_94 ?_
            refine lv_aload_n hx hb dX0_add_97 rfl (lv_at hl 1 rfl) ?_
            refine va_get (D := (dC, dI)) (ci := 1) (v := .int (nI sz)) (C := RX0) (T := TX0) (N := 3) hx hb hts (by decide +kernel) hown hK hP 0 rfl rfl 2 (by decide) (hts (.fieldLink RX0 9 "PictureRows$Effect" "size" "I") (by decide +kernel)) (fun _ h9 => h9) rfl dX0_add_98 ?_
            refine lv_iload_n hx hb dX0_add_101 rfl (lv_at hl 3 rfl) ?_
            refine wr_iast (x := tm) hx hb hK hP hD hS 2 0 rfl rfl (sz) (by omega) (by omega) dX0_add_102 (fun H locs hP hD hS => ?_)
            have hP : va_P (dC, dI) vwCl [(h0, .inr (1, [.ref h1, .ref h2, .int (nI sz)])), (h1, .inl (cA, n, .inl (upd ss sz sg))), (h2, .inl (cA, n, .inl (upd ts sz tm)))] H := hP
            have hD : va_D A [(h0, .inr (1, [.ref h1, .ref h2, .int (nI sz)])), (h1, .inl (cA, n, .inl (upd ss sz sg))), (h2, .inl (cA, n, .inl (upd ts sz tm)))] := hD
            refine lv_aload_n hx hb dX0_add_103 rfl (lv_at hl 1 rfl) ?_
            refine lv_dup hx hb dX0_add_104 rfl ?_
            refine va_get (D := (dC, dI)) (ci := 1) (v := .int (nI sz)) (C := RX0) (T := TX0) (N := 3) hx hb hts (by decide +kernel) hown hK hP 0 rfl rfl 2 (by decide) (hts (.fieldLink RX0 9 "PictureRows$Effect" "size" "I") (by decide +kernel)) (fun _ h9 => h9) rfl dX0_add_105 ?_
            refine lv_iconst (v := 1) hx hb dX0_add_108 (by decide) ?_
            refine rd_iadd hx hb (sz) (1) dX0_add_109 ?_
            refine va_put (D := (dC, dI)) (ci := 1) (v := .int (nI (sz + 1))) (ty := .int) (C := RX0) (T := TX0) (N := 3) hx hb hts (by decide +kernel) tyX0 tyX0_ok nmX0 hown hK hP hD hS 0 rfl rfl 2 (by decide) (hts (.fieldLink RX0 9 "PictureRows$Effect" "size" "I") (by decide +kernel)) (fun _ h9 => h9) rfl (by decide +kernel) rfl rfl (Nat.le_of_ble_eq_true rfl) dX0_add_110 (fun H locs hP hD hS => ?_)
            have hP : va_P (dC, dI) vwCl [(h0, .inr (1, [.ref h1, .ref h2, .int (nI (sz + 1))])), (h1, .inl (cA, n, .inl (upd ss sz sg))), (h2, .inl (cA, n, .inl (upd ts sz tm)))] H := hP
            have hD : va_D A [(h0, .inr (1, [.ref h1, .ref h2, .int (nI (sz + 1))])), (h1, .inl (cA, n, .inl (upd ss sz sg))), (h2, .inl (cA, n, .inl (upd ts sz tm)))] := hD
            have hmE : m_X0_add ss ts n sz sg tm = (upd ss sz sg, upd ts sz tm, sz + 1) := by simp only [m_X0_add, if_neg c_1, if_pos c_5, if_neg c_7]
            exact wr_vret () hx hb hr hlocks hK hS trivial (by rw [hmE]; exact hP) (by rw [hmE]; exact hD) dX0_add_113
    · skip
      refine lv_iload_n hx hb dX0_add_20 rfl (lv_at hl 0 rfl) ?_
      refine lv_aload_n hx hb dX0_add_21 rfl (lv_at hl 1 rfl) ?_
      refine va_get (D := (dC, dI)) (ci := 1) (v := .ref h2) (C := RX0) (T := TX0) (N := 3) hx hb hts (by decide +kernel) hown hK hP 0 rfl rfl 1 (by decide) (hts (.fieldLink RX0 25 "PictureRows$Effect" "times" "[I") (by decide +kernel)) (fun _ h9 => h9) rfl dX0_add_22 ?_
      refine va_alen (v := nI n) hx hb hK hP 2 0 rfl rfl rfl dX0_add_25 ?_
      refine lv_icmp_ge (tgt := 52) hx hb dX0_add_26 (by decide) (fun c_9 => ?_) (fun c_9 => ?_)
      · skip
        exact absurd c_9 c_5
      · skip
        refine lv_aload_n hx hb dX0_add_29 rfl (lv_at hl 1 rfl) ?_
        refine va_get (D := (dC, dI)) (ci := 1) (v := .ref h1) (C := RX0) (T := TX0) (N := 3) hx hb hts (by decide +kernel) hown hK hP 0 rfl rfl 0 (by decide) (hts (.fieldLink RX0 21 "PictureRows$Effect" "signs" "[I") (by decide +kernel)) (fun _ h9 => h9) rfl dX0_add_30 ?_
        refine lv_iload_n hx hb dX0_add_33 rfl (lv_at hl 0 rfl) ?_
        refine va_iald hx hb hK hP 1 0 rfl rfl (by exact rg_in (N := nI n) (nI_toInt (by omega)) (by assumption) (by assumption)) dX0_add_34 ?_
        refine lv_iload_n hx hb dX0_add_35 rfl (lv_at hl 2 rfl) ?_
        refine lv_icmp_ne (tgt := 52) hx hb dX0_add_36 (by decide) (fun c_10 => ?_) (fun c_10 => ?_)
        · skip
          refine lv_aload_n hx hb dX0_add_52 rfl (lv_at hl 1 rfl) ?_
          refine va_get (D := (dC, dI)) (ci := 1) (v := .int (nI sz)) (C := RX0) (T := TX0) (N := 3) hx hb hts (by decide +kernel) hown hK hP 0 rfl rfl 2 (by decide) (hts (.fieldLink RX0 9 "PictureRows$Effect" "size" "I") (by decide +kernel)) (fun _ h9 => h9) rfl dX0_add_53 ?_
          refine lv_if_lt (tgt := 113) hx hb dX0_add_56 (by decide) (fun c_11 => ?_) (fun c_11 => ?_)
          · skip
            have c_11 : sz < 0 := (nI_ltI (a := sz) (b := 0) (by omega) (by omega)).mp c_11
            exfalso; omega
          · skip
            have c_11 : ¬ sz < 0 := (fun q_ => c_11 ((nI_ltI (a := sz) (b := 0) (by omega) (by omega)).mpr q_))
            refine lv_aload_n hx hb dX0_add_59 rfl (lv_at hl 1 rfl) ?_
            refine va_get (D := (dC, dI)) (ci := 1) (v := .int (nI sz)) (C := RX0) (T := TX0) (N := 3) hx hb hts (by decide +kernel) hown hK hP 0 rfl rfl 2 (by decide) (hts (.fieldLink RX0 9 "PictureRows$Effect" "size" "I") (by decide +kernel)) (fun _ h9 => h9) rfl dX0_add_60 ?_
            refine lv_aload_n hx hb dX0_add_63 rfl (lv_at hl 1 rfl) ?_
            refine va_get (D := (dC, dI)) (ci := 1) (v := .ref h1) (C := RX0) (T := TX0) (N := 3) hx hb hts (by decide +kernel) hown hK hP 0 rfl rfl 0 (by decide) (hts (.fieldLink RX0 21 "PictureRows$Effect" "signs" "[I") (by decide +kernel)) (fun _ h9 => h9) rfl dX0_add_64 ?_
            refine va_alen (v := nI n) hx hb hK hP 1 0 rfl rfl rfl dX0_add_67 ?_
            refine lv_icmp_ge (tgt := 113) hx hb dX0_add_68 (by decide) (fun c_12 => ?_) (fun c_12 => ?_)
            · skip
              have c_12 : n ≤ sz := (nI_leI (a := n) (b := sz) (by omega) (by omega)).mp c_12
              have hmE : m_X0_add ss ts n sz sg tm = (ss, ts, sz) := by simp only [m_X0_add, if_neg c_1, if_neg c_5, if_neg c_10, if_pos c_12]
              exact wr_vret () hx hb hr hlocks hK hS trivial (by rw [hmE]; exact hP) (by rw [hmE]; exact hD) dX0_add_113
            · skip
              have c_12 : ¬ n ≤ sz := (fun q_ => c_12 ((nI_leI (a := n) (b := sz) (by omega) (by omega)).mpr q_))
              refine lv_aload_n hx hb dX0_add_71 rfl (lv_at hl 1 rfl) ?_
              refine va_get (D := (dC, dI)) (ci := 1) (v := .int (nI sz)) (C := RX0) (T := TX0) (N := 3) hx hb hts (by decide +kernel) hown hK hP 0 rfl rfl 2 (by decide) (hts (.fieldLink RX0 9 "PictureRows$Effect" "size" "I") (by decide +kernel)) (fun _ h9 => h9) rfl dX0_add_72 ?_
              refine lv_aload_n hx hb dX0_add_75 rfl (lv_at hl 1 rfl) ?_
              refine va_get (D := (dC, dI)) (ci := 1) (v := .ref h2) (C := RX0) (T := TX0) (N := 3) hx hb hts (by decide +kernel) hown hK hP 0 rfl rfl 1 (by decide) (hts (.fieldLink RX0 25 "PictureRows$Effect" "times" "[I") (by decide +kernel)) (fun _ h9 => h9) rfl dX0_add_76 ?_
              refine va_alen (v := nI n) hx hb hK hP 2 0 rfl rfl rfl dX0_add_79 ?_
              refine lv_icmp_ge (tgt := 113) hx hb dX0_add_80 (by decide) (fun c_13 => ?_) (fun c_13 => ?_)
              · skip
                have c_13 : n ≤ sz := (nI_leI (a := n) (b := sz) (by omega) (by omega)).mp c_13
                exact absurd c_13 c_12
              · skip
                have c_13 : ¬ n ≤ sz := (fun q_ => c_13 ((nI_leI (a := n) (b := sz) (by omega) (by omega)).mpr q_))
                refine lv_aload_n hx hb dX0_add_83 rfl (lv_at hl 1 rfl) ?_
                refine va_get (D := (dC, dI)) (ci := 1) (v := .ref h1) (C := RX0) (T := TX0) (N := 3) hx hb hts (by decide +kernel) hown hK hP 0 rfl rfl 0 (by decide) (hts (.fieldLink RX0 21 "PictureRows$Effect" "signs" "[I") (by decide +kernel)) (fun _ h9 => h9) rfl dX0_add_84 ?_
                refine lv_aload_n hx hb dX0_add_87 rfl (lv_at hl 1 rfl) ?_
                refine va_get (D := (dC, dI)) (ci := 1) (v := .int (nI sz)) (C := RX0) (T := TX0) (N := 3) hx hb hts (by decide +kernel) hown hK hP 0 rfl rfl 2 (by decide) (hts (.fieldLink RX0 9 "PictureRows$Effect" "size" "I") (by decide +kernel)) (fun _ h9 => h9) rfl dX0_add_88 ?_
                refine lv_iload_n hx hb dX0_add_91 rfl (lv_at hl 2 rfl) ?_
                refine wr_iast (x := sg) hx hb hK hP hD hS 1 0 rfl rfl (sz) (by omega) (by omega) dX0_add_92 (fun H locs hP hD hS => ?_)
                have hP : va_P (dC, dI) vwCl [(h0, .inr (1, [.ref h1, .ref h2, .int (nI sz)])), (h1, .inl (cA, n, .inl (upd ss sz sg))), (h2, .inl (cA, n, .inl ts))] H := hP
                have hD : va_D A [(h0, .inr (1, [.ref h1, .ref h2, .int (nI sz)])), (h1, .inl (cA, n, .inl (upd ss sz sg))), (h2, .inl (cA, n, .inl ts))] := hD
                refine lv_aload_n hx hb dX0_add_93 rfl (lv_at hl 1 rfl) ?_
                refine va_get (D := (dC, dI)) (ci := 1) (v := .ref h2) (C := RX0) (T := TX0) (N := 3) hx hb hts (by decide +kernel) hown hK hP 0 rfl rfl 1 (by decide) (hts (.fieldLink RX0 25 "PictureRows$Effect" "times" "[I") (by decide +kernel)) (fun _ h9 => h9) rfl dX0_add_94 ?_
                refine lv_aload_n hx hb dX0_add_97 rfl (lv_at hl 1 rfl) ?_
                refine va_get (D := (dC, dI)) (ci := 1) (v := .int (nI sz)) (C := RX0) (T := TX0) (N := 3) hx hb hts (by decide +kernel) hown hK hP 0 rfl rfl 2 (by decide) (hts (.fieldLink RX0 9 "PictureRows$Effect" "size" "I") (by decide +kernel)) (fun _ h9 => h9) rfl dX0_add_98 ?_
                refine lv_iload_n hx hb dX0_add_101 rfl (lv_at hl 3 rfl) ?_
                refine wr_iast (x := tm) hx hb hK hP hD hS 2 0 rfl rfl (sz) (by omega) (by omega) dX0_add_102 (fun H locs hP hD hS => ?_)
                have hP : va_P (dC, dI) vwCl [(h0, .inr (1, [.ref h1, .ref h2, .int (nI sz)])), (h1, .inl (cA, n, .inl (upd ss sz sg))), (h2, .inl (cA, n, .inl (upd ts sz tm)))] H := hP
                have hD : va_D A [(h0, .inr (1, [.ref h1, .ref h2, .int (nI sz)])), (h1, .inl (cA, n, .inl (upd ss sz sg))), (h2, .inl (cA, n, .inl (upd ts sz tm)))] := hD
                refine lv_aload_n hx hb dX0_add_103 rfl (lv_at hl 1 rfl) ?_
                refine lv_dup hx hb dX0_add_104 rfl ?_
                refine va_get (D := (dC, dI)) (ci := 1) (v := .int (nI sz)) (C := RX0) (T := TX0) (N := 3) hx hb hts (by decide +kernel) hown hK hP 0 rfl rfl 2 (by decide) (hts (.fieldLink RX0 9 "PictureRows$Effect" "size" "I") (by decide +kernel)) (fun _ h9 => h9) rfl dX0_add_105 ?_
                refine lv_iconst (v := 1) hx hb dX0_add_108 (by decide) ?_
                refine rd_iadd hx hb (sz) (1) dX0_add_109 ?_
                refine va_put (D := (dC, dI)) (ci := 1) (v := .int (nI (sz + 1))) (ty := .int) (C := RX0) (T := TX0) (N := 3) hx hb hts (by decide +kernel) tyX0 tyX0_ok nmX0 hown hK hP hD hS 0 rfl rfl 2 (by decide) (hts (.fieldLink RX0 9 "PictureRows$Effect" "size" "I") (by decide +kernel)) (fun _ h9 => h9) rfl (by decide +kernel) rfl rfl (Nat.le_of_ble_eq_true rfl) dX0_add_110 (fun H locs hP hD hS => ?_)
                have hP : va_P (dC, dI) vwCl [(h0, .inr (1, [.ref h1, .ref h2, .int (nI (sz + 1))])), (h1, .inl (cA, n, .inl (upd ss sz sg))), (h2, .inl (cA, n, .inl (upd ts sz tm)))] H := hP
                have hD : va_D A [(h0, .inr (1, [.ref h1, .ref h2, .int (nI (sz + 1))])), (h1, .inl (cA, n, .inl (upd ss sz sg))), (h2, .inl (cA, n, .inl (upd ts sz tm)))] := hD
                have hmE : m_X0_add ss ts n sz sg tm = (upd ss sz sg, upd ts sz tm, sz + 1) := by simp only [m_X0_add, if_neg c_1, if_neg c_5, if_neg c_10, if_neg c_12]
                exact wr_vret () hx hb hr hlocks hK hS trivial (by rw [hmE]; exact hP) (by rw [hmE]; exact hD) dX0_add_113
        · skip
          refine lv_aload_n hx hb dX0_add_39 rfl (lv_at hl 1 rfl) ?_
          refine va_get (D := (dC, dI)) (ci := 1) (v := .ref h2) (C := RX0) (T := TX0) (N := 3) hx hb hts (by decide +kernel) hown hK hP 0 rfl rfl 1 (by decide) (hts (.fieldLink RX0 25 "PictureRows$Effect" "times" "[I") (by decide +kernel)) (fun _ h9 => h9) rfl dX0_add_40 ?_
          refine lv_iload_n hx hb dX0_add_43 rfl (lv_at hl 0 rfl) ?_
          refine lv_dup2_11 hx hb dX0_add_44 rfl rfl ?_
          refine va_iald hx hb hK hP 2 0 rfl rfl (by exact rg_in (N := nI n) (nI_toInt (by omega)) (by assumption) (by assumption)) dX0_add_45 ?_
          refine lv_iload_n hx hb dX0_add_46 rfl (lv_at hl 3 rfl) ?_
          refine lv_iadd hx hb dX0_add_47 ?_
          refine va_iast (i := (nI sz) - 1) (x := (ts ((nI sz) - 1).toNatClampNeg) + tm) hx hb hK hP hD hS 2 0 rfl rfl (by exact rg_in (N := nI n) (nI_toInt (by omega)) (by assumption) (by assumption)) dX0_add_48 (fun H locs hP hD hS => ?_)
          have hP : va_P (dC, dI) vwCl [(h0, .inr (1, [.ref h1, .ref h2, .int (nI sz)])), (h1, .inl (cA, n, .inl ss)), (h2, .inl (cA, n, .inl (upd ts ((nI sz) - 1).toNatClampNeg ((ts ((nI sz) - 1).toNatClampNeg) + tm))))] H := hP
          have hD : va_D A [(h0, .inr (1, [.ref h1, .ref h2, .int (nI sz)])), (h1, .inl (cA, n, .inl ss)), (h2, .inl (cA, n, .inl (upd ts ((nI sz) - 1).toNatClampNeg ((ts ((nI sz) - 1).toNatClampNeg) + tm))))] := hD
          refine lv_goto (tgt := 113) hx hb dX0_add_49 (by decide) ?_
          have hmE : m_X0_add ss ts n sz sg tm = (ss, upd ts ((nI sz) - 1).toNatClampNeg ((ts ((nI sz) - 1).toNatClampNeg) + tm), sz) := by simp only [m_X0_add, if_neg c_1, if_neg c_5, if_pos c_10]
          exact wr_vret () hx hb hr hlocks hK hS trivial (by rw [hmE]; exact hP) (by rw [hmE]; exact hD) dX0_add_113
def m_X2_take_L10 (cs : Nat → Int32) (len : Nat) (cu : Int32) : Nat → Nat → Nat → (Nat → Int32) → (Nat → Int32) → (Nat → Int32) → Int32 × (Nat → Int32) × (Nat → Int32) × (Nat → Int32) × Nat
  | 0, _, _, _, _, _ => (0, fun _ => 0, fun _ => 0, fun _ => 0, 0)
  | k10 + 1, i, x3_10, ss_10, ts_10, ps_10 => if 80 ≤ i then (((-1), ss_10, ts_10, ps_10, i)) else (if len ≤ x3_10 then (((-1), ss_10, ts_10, ps_10, i)) else (if (m_X3_signAt cs len x3_10 cu) = (-1) then ((nI x3_10, ss_10, ts_10, ps_10, i)) else (if (m_X3_characterAt cs len (nI (x3_10 + (m_X4_widthOf (m_X3_signAt cs len x3_10 cu))))) = 40 then (if 1 ≤ (m_X3_numberBetween cs len (x3_10 + (m_X4_widthOf (m_X3_signAt cs len x3_10 cu))) (m_X3_closeOf cs len (x3_10 + (m_X4_widthOf (m_X3_signAt cs len x3_10 cu))))) then (m_X2_take_L10 cs len cu k10 (i + 1) (((m_X3_closeOf cs len (x3_10 + (m_X4_widthOf (m_X3_signAt cs len x3_10 cu)))).toNatClampNeg) + 1) (upd ss_10 i (m_X3_signAt cs len x3_10 cu)) (upd ts_10 i (m_X3_numberBetween cs len (x3_10 + (m_X4_widthOf (m_X3_signAt cs len x3_10 cu))) (m_X3_closeOf cs len (x3_10 + (m_X4_widthOf (m_X3_signAt cs len x3_10 cu)))))) (upd ps_10 i (nI x3_10))) else ((nI (x3_10 + (m_X4_widthOf (m_X3_signAt cs len x3_10 cu))), ss_10, ts_10, ps_10, i))) else (m_X2_take_L10 cs len cu k10 (i + 1) (x3_10 + (m_X4_widthOf (m_X3_signAt cs len x3_10 cu))) (upd ss_10 i (m_X3_signAt cs len x3_10 cu)) (upd ts_10 i 1) (upd ps_10 i (nI x3_10))))))
def m_X2_take (ss : Nat → Int32) (ts : Nat → Int32) (ps : Nat → Int32) (sz : Nat) (cs : Nat → Int32) (len : Nat) (cu : Int32) : Int32 × (Nat → Int32) × (Nat → Int32) × (Nat → Int32) × Nat := m_X2_take_L10 cs len cu (80 + 1) 0 0 ss ts ps
set_option maxHeartbeats 4000000 in
set_option maxRecDepth 100000 in
theorem c_X2_take (l : Launch) (dC : Nat → ClassId) (dI : Nat → Nat → Nat) (h0 : Nat) (h1 : Nat) (h2 : Nat) (h3 : Nat) (h4 : Nat) (h5 : Nat) (g0 : Nat) (g1 : Nat) (cA : ClassId) (ss : Nat → Int32) (ts : Nat → Int32) (ps : Nat → Int32) (sz : Nat) (cs : Nat → Int32) (len : Nat) (cu : Int32) (zz : Nat) (hlen : len ≤ 80) : Met l yX2_take wsX2_take ({ frames := 5, cells := 0, slots := 0, locals := 116 } : Room) (va_Pc [.ref h0, .ref g0, .int cu] (wr_P (dC, dI) vwCl [(h0, .inr (3, [.ref h1, .ref h2, .ref h3, .ref h4, .ref h5, .int (nI sz)])), (h1, .inl (cA, 80, .inl ss)), (h2, .inl (cA, 80, .inl ts)), (h3, .inl (cA, 80, .inl ps)), (g0, .inr (4, [.ref g1, .int (nI len)])), (g1, .inl (cA, 80, .inl cs))] [(cA, .int)] zz)) (va_Qi (S := Unit) (fun r _ => r = (m_X2_take ss ts ps sz cs len cu).1) (wr_B (dC, dI) vwCl (fun u9 => [(h0, .inr (3, [.ref h1, .ref h2, .ref h3, .ref h4, .ref h5, .int (nI ((m_X2_take ss ts ps sz cs len cu).2.2.2.2))])), (h1, .inl (cA, 80, .inl ((m_X2_take ss ts ps sz cs len cu).2.1))), (h2, .inl (cA, 80, .inl ((m_X2_take ss ts ps sz cs len cu).2.2.1))), (h3, .inl (cA, 80, .inl ((m_X2_take ss ts ps sz cs len cu).2.2.2.1))), (g0, .inr (4, [.ref g1, .int (nI len)])), (g1, .inl (cA, 80, .inl cs))]) [(cA, .int)] (va_A [(h0, .inr (3, [.ref h1, .ref h2, .ref h3, .ref h4, .ref h5, .int (nI sz)])), (h1, .inl (cA, 80, .inl ss)), (h2, .inl (cA, 80, .inl ts)), (h3, .inl (cA, 80, .inl ps)), (g0, .inr (4, [.ref g1, .int (nI len)])), (g1, .inl (cA, 80, .inl cs))] zz)) (va_A [(h0, .inr (3, [.ref h1, .ref h2, .ref h3, .ref h4, .ref h5, .int (nI sz)])), (h1, .inl (cA, 80, .inl ss)), (h2, .inl (cA, 80, .inl ts)), (h3, .inl (cA, 80, .inl ps)), (g0, .inr (4, [.ref g1, .int (nI len)])), (g1, .inl (cA, 80, .inl cs))] zz)) 0 0 (va_A [(h0, .inr (3, [.ref h1, .ref h2, .ref h3, .ref h4, .ref h5, .int (nI sz)])), (h1, .inl (cA, 80, .inl ss)), (h2, .inl (cA, 80, .inl ts)), (h3, .inl (cA, 80, .inl ps)), (g0, .inr (4, [.ref g1, .int (nI len)])), (g1, .inl (cA, 80, .inl cs))] zz) := by
  refine Met.ofW (cc := cX2_take) (maxL := 9) (ret := (some .int)) (by decide) rfl ?_
  intro p e s m args below meth c s₁ B hml hv
  obtain ⟨rfl, hsz0, hE, hP, hK, hD0⟩ := hv
  have hx := B.exec
  have hb := B.bytes
  have hr := B.returns
  have hts := atoms_spec (ws := wsX2_take) B.pre
  have hown : s.vm.findClass RX2 = some m.cls := findClass_of_methodNamed B.named
  have hlocks := B.notSynchronized
  subst hsz0
  have hD := hD0.self (sz := s.heap.size)
  generalize hAe : va_A [(h0, .inr (3, [.ref h1, .ref h2, .ref h3, .ref h4, .ref h5, .int (nI sz)])), (h1, .inl (cA, 80, .inl ss)), (h2, .inl (cA, 80, .inl ts)), (h3, .inl (cA, 80, .inl ps)), (g0, .inr (4, [.ref g1, .int (nI len)])), (g1, .inl (cA, 80, .inl cs))] s.heap.size = A at hD hE ⊢
  have hA : ∀ q : Nat, s.heap.size ≤ q → A q := fun q h => by rw [← hAe]; exact Or.inr h
  have hS : va_S A s.heap s.heap [] := va_S.rf
  have hP : va_P (dC, dI) vwCl [(h0, .inr (3, [.ref h1, .ref h2, .ref h3, .ref h4, .ref h5, .int (nI sz)])), (h1, .inl (cA, 80, .inl ss)), (h2, .inl (cA, 80, .inl ts)), (h3, .inl (cA, 80, .inl ps)), (g0, .inr (4, [.ref g1, .int (nI len)])), (g1, .inl (cA, 80, .inl cs))] s.heap := hP
  have hl := lv_entry ([.ref h0, .ref g0, .int cu]) (n := 9) (Nat.le_of_ble_eq_true rfl)
  rw [lg_entry_eq]
  generalize (lg_sl ([.ref h0, .ref g0, .int cu]) ++ List.replicate (9 - (lg_sl ([.ref h0, .ref g0, .int cu])).length) Slot.unset).toArray = ls at hl ⊢
  have hl : lv_has ls 9 [(0, .ref h0), (1, .ref g0), (2, .int cu)] := hl
  refine lv_aload_n hx hb dX2_take_0 rfl (lv_at hl 0 rfl) ?_
  refine lv_iconst (v := 0) hx hb dX2_take_1 (by decide) ?_
  refine va_put (D := (dC, dI)) (ci := 3) (v := .int 0) (ty := .int) (C := RX2) (T := TX2) (N := 6) hx hb hts (by decide +kernel) tyX2 tyX2_ok nmX2 hown hK hP hD hS 0 rfl rfl 5 (by decide) (hts (.fieldLink RX2 27 "PictureRows$Runs" "size" "I") (by decide +kernel)) (fun _ h9 => h9) rfl (by decide +kernel) rfl rfl (Nat.le_of_ble_eq_true rfl) dX2_take_2 (fun H locs hP hD hS => ?_)
  have hP : va_P (dC, dI) vwCl [(h0, .inr (3, [.ref h1, .ref h2, .ref h3, .ref h4, .ref h5, .int 0])), (h1, .inl (cA, 80, .inl ss)), (h2, .inl (cA, 80, .inl ts)), (h3, .inl (cA, 80, .inl ps)), (g0, .inr (4, [.ref g1, .int (nI len)])), (g1, .inl (cA, 80, .inl cs))] H := hP
  have hD : va_D A [(h0, .inr (3, [.ref h1, .ref h2, .ref h3, .ref h4, .ref h5, .int 0])), (h1, .inl (cA, 80, .inl ss)), (h2, .inl (cA, 80, .inl ts)), (h3, .inl (cA, 80, .inl ps)), (g0, .inr (4, [.ref g1, .int (nI len)])), (g1, .inl (cA, 80, .inl cs))] := hD
  refine lv_iconst (v := 0) hx hb dX2_take_5 (by decide) ?_
  refine lv_istore_n (lv' := [(3, .int 0), (0, .ref h0), (1, .ref g0), (2, .int cu)]) hx hb dX2_take_6 rfl hl (by decide) rfl (fun ls hl => ?_)
  refine lv_iconst (v := 0) hx hb dX2_take_7 (by decide) ?_
  refine lv_istore (lv' := [(4, .int 0), (3, .int 0), (0, .ref h0), (1, .ref g0), (2, .int cu)]) hx hb dX2_take_8 hl (by decide) rfl (fun ls hl => ?_)
  have lp_10 : ∀ (k10 i : Nat) (x3_10 : Nat) (ss_10 : Nat → Int32) (ts_10 : Nat → Int32) (ps_10 : Nat → Int32), i ≤ 80 → 80 + 1 ≤ i + k10 → x3_10 ≤ 150 → m_X2_take ss ts ps sz cs len cu = m_X2_take_L10 cs len cu k10 i x3_10 ss_10 ts_10 ps_10 → ∀ (H : Heap) (locs : List Loc), va_P (dC, dI) vwCl [(h0, .inr (3, [.ref h1, .ref h2, .ref h3, .ref h4, .ref h5, .int (nI i)])), (h1, .inl (cA, 80, .inl ss_10)), (h2, .inl (cA, 80, .inl ts_10)), (h3, .inl (cA, 80, .inl ps_10)), (g0, .inr (4, [.ref g1, .int (nI len)])), (g1, .inl (cA, 80, .inl cs))] H → va_D A [(h0, .inr (3, [.ref h1, .ref h2, .ref h3, .ref h4, .ref h5, .int (nI i)])), (h1, .inl (cA, 80, .inl ss_10)), (h2, .inl (cA, 80, .inl ts_10)), (h3, .inl (cA, 80, .inl ps_10)), (g0, .inr (4, [.ref g1, .int (nI len)])), (g1, .inl (cA, 80, .inl cs))] → va_S A s.heap H locs → ∀ (ls : Array Slot), lv_has ls 9 [(0, .ref h0), (1, .ref g0), (2, .int cu), (3, .int (nI x3_10)), (4, .int (nI i))] → W p l e (headSpec wsX2_take ({ frames := 5, cells := 0, slots := 0, locals := 116 } : Room)).room s m (([.ref h0, .ref g0, .int cu] : List Value).toArray) below meth c H locs 0 0 (MQ below (va_Qi (S := Unit) (fun r _ => r = (m_X2_take ss ts ps sz cs len cu).1) (wr_B (dC, dI) vwCl (fun u9 => [(h0, .inr (3, [.ref h1, .ref h2, .ref h3, .ref h4, .ref h5, .int (nI ((m_X2_take ss ts ps sz cs len cu).2.2.2.2))])), (h1, .inl (cA, 80, .inl ((m_X2_take ss ts ps sz cs len cu).2.1))), (h2, .inl (cA, 80, .inl ((m_X2_take ss ts ps sz cs len cu).2.2.1))), (h3, .inl (cA, 80, .inl ((m_X2_take ss ts ps sz cs len cu).2.2.2.1))), (g0, .inr (4, [.ref g1, .int (nI len)])), (g1, .inl (cA, 80, .inl cs))]) [(cA, .int)] A) A) (([.ref h0, .ref g0, .int cu] : List Value).toArray) s 0 0 A) (F0 m 10 ls []) := by
    intro k10
    induction k10 with
    | zero => intro i x3_10 ss_10 ts_10 ps_10 h1_ h2_; exfalso; omega
    | succ k10 ih10 =>
      intro i x3_10 ss_10 ts_10 ps_10 hb10 hf10 hpl hm10 H locs hP hD hS ls hl
      refine lv_iload hx hb dX2_take_10 (lv_at hl 4 rfl) ?_
      refine lv_bipush (v := 80) hx hb dX2_take_12 (by decide) ?_
      refine lv_icmp_ge (tgt := 115) hx hb dX2_take_14 (by decide) (fun c_1 => ?_) (fun c_1 => ?_)
      · skip
        have c_1 : 80 ≤ i := (nI_leI (a := 80) (b := i) (by omega) (by omega)).mp c_1
        refine lv_iconst (v := (-1)) hx hb dX2_take_115 (by decide) ?_
        have hmE : m_X2_take ss ts ps sz cs len cu = ((-1), ss_10, ts_10, ps_10, i) := hm10.trans (by simp only [m_X2_take_L10, if_pos c_1])
        exact wr_iret (v := (-1)) () hx hb hr hlocks hK hS (by rw [hmE]) (by rw [hmE]; exact hP) (by rw [hmE]; exact hD) dX2_take_116
      · skip
        have c_1 : ¬ 80 ≤ i := (fun q_ => c_1 ((nI_leI (a := 80) (b := i) (by omega) (by omega)).mpr q_))
        refine lv_iload_n hx hb dX2_take_17 rfl (lv_at hl 3 rfl) ?_
        refine lv_aload_n hx hb dX2_take_18 rfl (lv_at hl 1 rfl) ?_
        refine va_getN (D := (dC, dI)) (ci := 4) (v := .int (nI len)) (C := RX3) (T := TX3) (N := 2) hx hb hts (by decide +kernel) hown hK hP 4 rfl rfl 1 (by decide) (va_Nw.use rfl (hE.1.1 ("PictureRows$Runs", 31, "PictureRows$Text", "length", "I") (by decide))) (fun _ h9 => h9) rfl dX2_take_19 ?_
        refine lv_icmp_ge (tgt := 115) hx hb dX2_take_22 (by decide) (fun c_2 => ?_) (fun c_2 => ?_)
        · skip
          have c_2 : len ≤ x3_10 := (nI_leI (a := len) (b := x3_10) (by omega) (by omega)).mp c_2
          refine lv_iconst (v := (-1)) hx hb dX2_take_115 (by decide) ?_
          have hmE : m_X2_take ss ts ps sz cs len cu = ((-1), ss_10, ts_10, ps_10, i) := hm10.trans (by simp only [m_X2_take_L10, if_neg c_1, if_pos c_2])
          exact wr_iret (v := (-1)) () hx hb hr hlocks hK hS (by rw [hmE]) (by rw [hmE]; exact hP) (by rw [hmE]; exact hD) dX2_take_116
        · skip
          have c_2 : ¬ len ≤ x3_10 := (fun q_ => c_2 ((nI_leI (a := len) (b := x3_10) (by omega) (by omega)).mpr q_))
          refine lv_aload_n hx hb dX2_take_25 rfl (lv_at hl 1 rfl) ?_
          refine lv_iload_n hx hb dX2_take_26 rfl (lv_at hl 3 rfl) ?_
          refine lv_iload_n hx hb dX2_take_27 rfl (lv_at hl 2 rfl) ?_
          refine rd_callV (As := [.int (nI x3_10), .int cu]) (rest := []) ⟨hx, hb, hml, hown, hts⟩ (hE.rd hS) (c_X3_signAt l dC dI g0 g1 cA cs len x3_10 cu (by omega)) (cwV 2 hts gX2_take_X3_signAt rfl rfl rfl (by decide +kernel) ⟨Nat.le_of_ble_eq_true rfl, Nat.le_of_ble_eq_true rfl⟩) (hP.sub (ws' := [(g0, .inr (4, [.ref g1, .int (nI len)])), (g1, .inl (cA, 80, .inl cs))]) [4, 5] rfl) (hK.sub [0] rfl) (va_recv hK hP (ci := 4) (q0 := 4) rfl rfl) rfl hl.1 rfl (Nat.le_of_ble_eq_true rfl) dX2_take_28 ⟨Nat.le_of_ble_eq_true rfl, Nat.le_of_ble_eq_true rfl⟩ (fun r9 hr9 => ?_)
          subst hr9
          refine lv_istore (lv' := [(5, .int (m_X3_signAt cs len x3_10 cu)), (0, .ref h0), (1, .ref g0), (2, .int cu), (3, .int (nI x3_10)), (4, .int (nI i))]) hx hb dX2_take_31 hl (by decide) rfl (fun ls hl => ?_)
          refine lv_iload hx hb dX2_take_33 (lv_at hl 0 rfl) ?_
          refine lv_iconst (v := (-1)) hx hb dX2_take_35 (by decide) ?_
          refine lv_icmp_ne (tgt := 41) hx hb dX2_take_36 (by decide) (fun c_3 => ?_) (fun c_3 => ?_)
          · skip
            refine lv_iload_n hx hb dX2_take_41 rfl (lv_at hl 4 rfl) ?_
            refine lv_iload hx hb dX2_take_42 (lv_at hl 0 rfl) ?_
            refine rd_callSN (As := [.int (m_X3_signAt cs len x3_10 cu)]) (rest := [.int (nI x3_10)]) ⟨hx, hb, hml, hown, hts⟩ (hE.rd hS) (c_X4_widthOf l dC dI (m_X3_signAt cs len x3_10 cu) ) ⟨va_cnB 1 hts gX2_take_X4_widthOf_n40 rfl rfl rfl (hE.1.2 ("PictureRows$Runs", 40, yX4_widthOf) (by decide)) (hts (.initialized RX4) (by decide +kernel)) (by decide +kernel) ⟨Nat.le_of_ble_eq_true rfl, Nat.le_of_ble_eq_true rfl⟩, hts (.static yX4_widthOf) (by decide +kernel), trivial⟩ (hP.sub (ws' := []) [] rfl) (hK.sub [] rfl) rfl hl.1 rfl (Nat.le_of_ble_eq_true rfl) dX2_take_44 ⟨Nat.le_of_ble_eq_true rfl, Nat.le_of_ble_eq_true rfl⟩ (fun r9 hr9 => ?_)
            subst hr9
            have hw := m_X4_widthOf_le (m_X3_signAt cs len x3_10 cu)
            refine rd_iadd hx hb (x3_10) (m_X4_widthOf (m_X3_signAt cs len x3_10 cu)) dX2_take_47 ?_
            refine lv_istore (lv' := [(6, .int (nI (x3_10 + (m_X4_widthOf (m_X3_signAt cs len x3_10 cu))))), (5, .int (m_X3_signAt cs len x3_10 cu)), (0, .ref h0), (1, .ref g0), (2, .int cu), (3, .int (nI x3_10)), (4, .int (nI i))]) hx hb dX2_take_48 hl (by decide) rfl (fun ls hl => ?_)
            refine lv_iconst (v := 1) hx hb dX2_take_50 (by decide) ?_
            refine lv_istore (lv' := [(7, .int 1), (6, .int (nI (x3_10 + (m_X4_widthOf (m_X3_signAt cs len x3_10 cu))))), (5, .int (m_X3_signAt cs len x3_10 cu)), (0, .ref h0), (1, .ref g0), (2, .int cu), (3, .int (nI x3_10)), (4, .int (nI i))]) hx hb dX2_take_51 hl (by decide) rfl (fun ls hl => ?_)
            refine lv_aload_n hx hb dX2_take_53 rfl (lv_at hl 4 rfl) ?_
            refine lv_iload hx hb dX2_take_54 (lv_at hl 1 rfl) ?_
            refine rd_callV (As := [.int (nI (x3_10 + (m_X4_widthOf (m_X3_signAt cs len x3_10 cu))))]) (rest := []) ⟨hx, hb, hml, hown, hts⟩ (hE.rd hS) (c_X3_characterAt l dC dI g0 g1 cA cs len (nI (x3_10 + (m_X4_widthOf (m_X3_signAt cs len x3_10 cu)))) ) (cwV 1 hts gX2_take_X3_characterAt rfl rfl rfl (by decide +kernel) ⟨Nat.le_of_ble_eq_true rfl, Nat.le_of_ble_eq_true rfl⟩) (hP.sub (ws' := [(g0, .inr (4, [.ref g1, .int (nI len)])), (g1, .inl (cA, 80, .inl cs))]) [4, 5] rfl) (hK.sub [0] rfl) (va_recv hK hP (ci := 4) (q0 := 4) rfl rfl) rfl hl.1 rfl (Nat.le_of_ble_eq_true rfl) dX2_take_56 ⟨Nat.le_of_ble_eq_true rfl, Nat.le_of_ble_eq_true rfl⟩ (fun r9 hr9 => ?_)
            subst hr9
            refine lv_bipush (v := 40) hx hb dX2_take_59 (by decide) ?_
            refine lv_icmp_ne (tgt := 97) hx hb dX2_take_61 (by decide) (fun c_4 => ?_) (fun c_4 => ?_)
            · skip
              refine lv_aload_n hx hb dX2_take_97 rfl (lv_at hl 3 rfl) ?_
              refine lv_iload hx hb dX2_take_98 (lv_at hl 2 rfl) ?_
              refine lv_iload hx hb dX2_take_100 (lv_at hl 0 rfl) ?_
              refine lv_iload_n hx hb dX2_take_102 rfl (lv_at hl 6 rfl) ?_
              have hFc := va_free (wc := [(h0, .inr (3, [.ref h1, .ref h2, .ref h3, .ref h4, .ref h5, .int (nI i)])), (h1, .inl (cA, 80, .inl ss_10)), (h2, .inl (cA, 80, .inl ts_10)), (h3, .inl (cA, 80, .inl ps_10))]) hD hS hA [0, 1, 2, 3] rfl
              refine wr_goV (wr := [(g0, .inr (4, [.ref g1, .int (nI len)])), (g1, .inl (cA, 80, .inl cs))]) (w1 := fun (u9 : Unit) => [(h0, .inr (3, [.ref h1, .ref h2, .ref h3, .ref h4, .ref h5, .int (nI (i + 1))])), (h1, .inl (cA, 80, .inl (upd ss_10 i (m_X3_signAt cs len x3_10 cu)))), (h2, .inl (cA, 80, .inl (upd ts_10 i 1))), (h3, .inl (cA, 80, .inl (upd ps_10 i (nI x3_10))))]) (va_runV (As := [.int (m_X3_signAt cs len x3_10 cu), .int 1, .int (nI x3_10)]) (rest := []) ⟨hx, hb, hml, hown, hts⟩ (c_X2_add l dC dI h0 h1 h2 h3 h4 h5 cA ss_10 ts_10 ps_10 i (m_X3_signAt cs len x3_10 cu) 1 (nI x3_10) H.size (by omega)) (cwV 3 hts gX2_take_X2_add rfl rfl rfl (by decide +kernel) ⟨Nat.le_of_ble_eq_true rfl, Nat.le_of_ble_eq_true rfl⟩) ⟨wr_blind, va_recv hK hP (ci := 3) (q0 := 0) rfl rfl, (wr_pre hE hS hFc (hP.sub [0, 1, 2, 3] rfl) (hK.sub (tys' := [(cA, .int)]) [0] rfl) (hD.sub (ws' := [(h0, .inr (3, [.ref h1, .ref h2, .ref h3, .ref h4, .ref h5, .int (nI i)])), (h1, .inl (cA, 80, .inl ss_10)), (h2, .inl (cA, 80, .inl ts_10)), (h3, .inl (cA, 80, .inl ps_10))]) [0, 1, 2, 3] (by decide) rfl))⟩ rfl rfl hl.1 rfl (lv_room (Nat.le_of_ble_eq_true rfl)) dX2_take_103 ⟨Nat.le_of_ble_eq_true rfl, Nat.le_of_ble_eq_true rfl⟩) hP hD hS hFc [0, 1, 2, 3] [4, 5] rfl rfl (by decide) (by decide) (fun u9 H locs hw9 hP hD hS => ?_)
              have hP := hP.sub (ws' := [(h0, .inr (3, [.ref h1, .ref h2, .ref h3, .ref h4, .ref h5, .int (nI (i + 1))])), (h1, .inl (cA, 80, .inl (upd ss_10 i (m_X3_signAt cs len x3_10 cu)))), (h2, .inl (cA, 80, .inl (upd ts_10 i 1))), (h3, .inl (cA, 80, .inl (upd ps_10 i (nI x3_10)))), (g0, .inr (4, [.ref g1, .int (nI len)])), (g1, .inl (cA, 80, .inl cs))]) [2, 3, 4, 5, 0, 1] rfl
              have hD := hD.sub (ws' := [(h0, .inr (3, [.ref h1, .ref h2, .ref h3, .ref h4, .ref h5, .int (nI (i + 1))])), (h1, .inl (cA, 80, .inl (upd ss_10 i (m_X3_signAt cs len x3_10 cu)))), (h2, .inl (cA, 80, .inl (upd ts_10 i 1))), (h3, .inl (cA, 80, .inl (upd ps_10 i (nI x3_10)))), (g0, .inr (4, [.ref g1, .int (nI len)])), (g1, .inl (cA, 80, .inl cs))]) [2, 3, 4, 5, 0, 1] (by decide) rfl
              refine lv_iload hx hb dX2_take_106 (lv_at hl 1 rfl) ?_
              refine lv_istore_n (lv' := [(3, .int (nI (x3_10 + (m_X4_widthOf (m_X3_signAt cs len x3_10 cu))))), (7, .int 1), (6, .int (nI (x3_10 + (m_X4_widthOf (m_X3_signAt cs len x3_10 cu))))), (5, .int (m_X3_signAt cs len x3_10 cu)), (0, .ref h0), (1, .ref g0), (2, .int cu), (4, .int (nI i))]) hx hb dX2_take_108 rfl hl (by decide) rfl (fun ls hl => ?_)
              refine lv_iinc (v := nI (i + 1)) (lv' := [(4, .int (nI (i + 1))), (3, .int (nI (x3_10 + (m_X4_widthOf (m_X3_signAt cs len x3_10 cu))))), (7, .int 1), (6, .int (nI (x3_10 + (m_X4_widthOf (m_X3_signAt cs len x3_10 cu))))), (5, .int (m_X3_signAt cs len x3_10 cu)), (0, .ref h0), (1, .ref g0), (2, .int cu)]) hx hb dX2_take_109 hl (k := 7) rfl (nI_add (i) 1) (by decide) rfl (fun ls hl => ?_)
              refine lv_goto (tgt := 10) hx hb dX2_take_112 (by decide) ?_
              exact ih10 (i + 1) (x3_10 + (m_X4_widthOf (m_X3_signAt cs len x3_10 cu))) (upd ss_10 i (m_X3_signAt cs len x3_10 cu)) (upd ts_10 i 1) (upd ps_10 i (nI x3_10)) (by omega) (by omega) (by omega) (hm10.trans (by simp only [m_X2_take_L10, if_neg c_1, if_neg c_2, if_neg c_3, if_neg c_4])) H locs hP hD hS ls (lv_sub hl [5, 6, 7, 1, 0] rfl)
            · skip
              refine lv_aload_n hx hb dX2_take_64 rfl (lv_at hl 4 rfl) ?_
              refine lv_iload hx hb dX2_take_65 (lv_at hl 1 rfl) ?_
              refine rd_callV (As := [.int (nI (x3_10 + (m_X4_widthOf (m_X3_signAt cs len x3_10 cu))))]) (rest := []) ⟨hx, hb, hml, hown, hts⟩ (hE.rd hS) (c_X3_closeOf l dC dI g0 g1 cA cs len (x3_10 + (m_X4_widthOf (m_X3_signAt cs len x3_10 cu))) (by omega)) (cwV 1 hts gX2_take_X3_closeOf rfl rfl rfl (by decide +kernel) ⟨Nat.le_of_ble_eq_true rfl, Nat.le_of_ble_eq_true rfl⟩) (hP.sub (ws' := [(g0, .inr (4, [.ref g1, .int (nI len)])), (g1, .inl (cA, 80, .inl cs))]) [4, 5] rfl) (hK.sub [0] rfl) (va_recv hK hP (ci := 4) (q0 := 4) rfl rfl) rfl hl.1 rfl (Nat.le_of_ble_eq_true rfl) dX2_take_67 ⟨Nat.le_of_ble_eq_true rfl, Nat.le_of_ble_eq_true rfl⟩ (fun r9 hr9 => ?_)
              subst hr9
              have hc := m_X3_closeOf_le cs len (x3_10 + (m_X4_widthOf (m_X3_signAt cs len x3_10 cu))) (by omega)
              refine lv_istore (lv' := [(8, .int (m_X3_closeOf cs len (x3_10 + (m_X4_widthOf (m_X3_signAt cs len x3_10 cu))))), (7, .int 1), (6, .int (nI (x3_10 + (m_X4_widthOf (m_X3_signAt cs len x3_10 cu))))), (5, .int (m_X3_signAt cs len x3_10 cu)), (0, .ref h0), (1, .ref g0), (2, .int cu), (3, .int (nI x3_10)), (4, .int (nI i))]) hx hb dX2_take_70 hl (by decide) rfl (fun ls hl => ?_)
              refine lv_aload_n hx hb dX2_take_72 rfl (lv_at hl 5 rfl) ?_
              refine lv_iload hx hb dX2_take_73 (lv_at hl 2 rfl) ?_
              refine lv_iload hx hb dX2_take_75 (lv_at hl 0 rfl) ?_
              refine rd_callV (As := [.int (nI (x3_10 + (m_X4_widthOf (m_X3_signAt cs len x3_10 cu)))), .int (m_X3_closeOf cs len (x3_10 + (m_X4_widthOf (m_X3_signAt cs len x3_10 cu))))]) (rest := []) ⟨hx, hb, hml, hown, hts⟩ (hE.rd hS) (c_X3_numberBetween l dC dI g0 g1 cA cs len (x3_10 + (m_X4_widthOf (m_X3_signAt cs len x3_10 cu))) (m_X3_closeOf cs len (x3_10 + (m_X4_widthOf (m_X3_signAt cs len x3_10 cu)))) (by omega) (by exact hc.1)) (cwV 2 hts gX2_take_X3_numberBetween rfl rfl rfl (by decide +kernel) ⟨Nat.le_of_ble_eq_true rfl, Nat.le_of_ble_eq_true rfl⟩) (hP.sub (ws' := [(g0, .inr (4, [.ref g1, .int (nI len)])), (g1, .inl (cA, 80, .inl cs))]) [4, 5] rfl) (hK.sub [0] rfl) (va_recv hK hP (ci := 4) (q0 := 4) rfl rfl) rfl hl.1 rfl (Nat.le_of_ble_eq_true rfl) dX2_take_77 ⟨Nat.le_of_ble_eq_true rfl, Nat.le_of_ble_eq_true rfl⟩ (fun r9 hr9 => ?_)
              subst hr9
              refine lv_istore (lv' := [(7, .int (m_X3_numberBetween cs len (x3_10 + (m_X4_widthOf (m_X3_signAt cs len x3_10 cu))) (m_X3_closeOf cs len (x3_10 + (m_X4_widthOf (m_X3_signAt cs len x3_10 cu)))))), (8, .int (m_X3_closeOf cs len (x3_10 + (m_X4_widthOf (m_X3_signAt cs len x3_10 cu))))), (6, .int (nI (x3_10 + (m_X4_widthOf (m_X3_signAt cs len x3_10 cu))))), (5, .int (m_X3_signAt cs len x3_10 cu)), (0, .ref h0), (1, .ref g0), (2, .int cu), (3, .int (nI x3_10)), (4, .int (nI i))]) hx hb dX2_take_80 hl (by decide) rfl (fun ls hl => ?_)
              refine lv_iload hx hb dX2_take_82 (lv_at hl 0 rfl) ?_
              refine lv_iconst (v := 1) hx hb dX2_take_84 (by decide) ?_
              refine lv_icmp_ge (tgt := 91) hx hb dX2_take_85 (by decide) (fun c_5 => ?_) (fun c_5 => ?_)
              · skip
                refine lv_iload hx hb dX2_take_91 (lv_at hl 1 rfl) ?_
                refine lv_topn (n := (m_X3_closeOf cs len (x3_10 + (m_X4_widthOf (m_X3_signAt cs len x3_10 cu)))).toNatClampNeg) (by exact rg_t (nbt_pos (by assumption) (by omega))) ?_
                refine lv_iconst (v := 1) hx hb dX2_take_93 (by decide) ?_
                refine rd_iadd hx hb ((m_X3_closeOf cs len (x3_10 + (m_X4_widthOf (m_X3_signAt cs len x3_10 cu)))).toNatClampNeg) (1) dX2_take_94 ?_
                refine lv_istore (lv' := [(6, .int (nI (((m_X3_closeOf cs len (x3_10 + (m_X4_widthOf (m_X3_signAt cs len x3_10 cu)))).toNatClampNeg) + 1))), (7, .int (m_X3_numberBetween cs len (x3_10 + (m_X4_widthOf (m_X3_signAt cs len x3_10 cu))) (m_X3_closeOf cs len (x3_10 + (m_X4_widthOf (m_X3_signAt cs len x3_10 cu)))))), (8, .int (m_X3_closeOf cs len (x3_10 + (m_X4_widthOf (m_X3_signAt cs len x3_10 cu))))), (5, .int (m_X3_signAt cs len x3_10 cu)), (0, .ref h0), (1, .ref g0), (2, .int cu), (3, .int (nI x3_10)), (4, .int (nI i))]) hx hb dX2_take_95 hl (by decide) rfl (fun ls hl => ?_)
                refine lv_aload_n hx hb dX2_take_97 rfl (lv_at hl 4 rfl) ?_
                refine lv_iload hx hb dX2_take_98 (lv_at hl 3 rfl) ?_
                refine lv_iload hx hb dX2_take_100 (lv_at hl 1 rfl) ?_
                refine lv_iload_n hx hb dX2_take_102 rfl (lv_at hl 7 rfl) ?_
                have hFc := va_free (wc := [(h0, .inr (3, [.ref h1, .ref h2, .ref h3, .ref h4, .ref h5, .int (nI i)])), (h1, .inl (cA, 80, .inl ss_10)), (h2, .inl (cA, 80, .inl ts_10)), (h3, .inl (cA, 80, .inl ps_10))]) hD hS hA [0, 1, 2, 3] rfl
                refine wr_goV (wr := [(g0, .inr (4, [.ref g1, .int (nI len)])), (g1, .inl (cA, 80, .inl cs))]) (w1 := fun (u9 : Unit) => [(h0, .inr (3, [.ref h1, .ref h2, .ref h3, .ref h4, .ref h5, .int (nI (i + 1))])), (h1, .inl (cA, 80, .inl (upd ss_10 i (m_X3_signAt cs len x3_10 cu)))), (h2, .inl (cA, 80, .inl (upd ts_10 i (m_X3_numberBetween cs len (x3_10 + (m_X4_widthOf (m_X3_signAt cs len x3_10 cu))) (m_X3_closeOf cs len (x3_10 + (m_X4_widthOf (m_X3_signAt cs len x3_10 cu)))))))), (h3, .inl (cA, 80, .inl (upd ps_10 i (nI x3_10))))]) (va_runV (As := [.int (m_X3_signAt cs len x3_10 cu), .int (m_X3_numberBetween cs len (x3_10 + (m_X4_widthOf (m_X3_signAt cs len x3_10 cu))) (m_X3_closeOf cs len (x3_10 + (m_X4_widthOf (m_X3_signAt cs len x3_10 cu))))), .int (nI x3_10)]) (rest := []) ⟨hx, hb, hml, hown, hts⟩ (c_X2_add l dC dI h0 h1 h2 h3 h4 h5 cA ss_10 ts_10 ps_10 i (m_X3_signAt cs len x3_10 cu) (m_X3_numberBetween cs len (x3_10 + (m_X4_widthOf (m_X3_signAt cs len x3_10 cu))) (m_X3_closeOf cs len (x3_10 + (m_X4_widthOf (m_X3_signAt cs len x3_10 cu))))) (nI x3_10) H.size (by omega)) (cwV 3 hts gX2_take_X2_add rfl rfl rfl (by decide +kernel) ⟨Nat.le_of_ble_eq_true rfl, Nat.le_of_ble_eq_true rfl⟩) ⟨wr_blind, va_recv hK hP (ci := 3) (q0 := 0) rfl rfl, (wr_pre hE hS hFc (hP.sub [0, 1, 2, 3] rfl) (hK.sub (tys' := [(cA, .int)]) [0] rfl) (hD.sub (ws' := [(h0, .inr (3, [.ref h1, .ref h2, .ref h3, .ref h4, .ref h5, .int (nI i)])), (h1, .inl (cA, 80, .inl ss_10)), (h2, .inl (cA, 80, .inl ts_10)), (h3, .inl (cA, 80, .inl ps_10))]) [0, 1, 2, 3] (by decide) rfl))⟩ rfl rfl hl.1 rfl (lv_room (Nat.le_of_ble_eq_true rfl)) dX2_take_103 ⟨Nat.le_of_ble_eq_true rfl, Nat.le_of_ble_eq_true rfl⟩) hP hD hS hFc [0, 1, 2, 3] [4, 5] rfl rfl (by decide) (by decide) (fun u9 H locs hw9 hP hD hS => ?_)
                have hP := hP.sub (ws' := [(h0, .inr (3, [.ref h1, .ref h2, .ref h3, .ref h4, .ref h5, .int (nI (i + 1))])), (h1, .inl (cA, 80, .inl (upd ss_10 i (m_X3_signAt cs len x3_10 cu)))), (h2, .inl (cA, 80, .inl (upd ts_10 i (m_X3_numberBetween cs len (x3_10 + (m_X4_widthOf (m_X3_signAt cs len x3_10 cu))) (m_X3_closeOf cs len (x3_10 + (m_X4_widthOf (m_X3_signAt cs len x3_10 cu)))))))), (h3, .inl (cA, 80, .inl (upd ps_10 i (nI x3_10)))), (g0, .inr (4, [.ref g1, .int (nI len)])), (g1, .inl (cA, 80, .inl cs))]) [2, 3, 4, 5, 0, 1] rfl
                have hD := hD.sub (ws' := [(h0, .inr (3, [.ref h1, .ref h2, .ref h3, .ref h4, .ref h5, .int (nI (i + 1))])), (h1, .inl (cA, 80, .inl (upd ss_10 i (m_X3_signAt cs len x3_10 cu)))), (h2, .inl (cA, 80, .inl (upd ts_10 i (m_X3_numberBetween cs len (x3_10 + (m_X4_widthOf (m_X3_signAt cs len x3_10 cu))) (m_X3_closeOf cs len (x3_10 + (m_X4_widthOf (m_X3_signAt cs len x3_10 cu)))))))), (h3, .inl (cA, 80, .inl (upd ps_10 i (nI x3_10)))), (g0, .inr (4, [.ref g1, .int (nI len)])), (g1, .inl (cA, 80, .inl cs))]) [2, 3, 4, 5, 0, 1] (by decide) rfl
                refine lv_iload hx hb dX2_take_106 (lv_at hl 0 rfl) ?_
                refine lv_istore_n (lv' := [(3, .int (nI (((m_X3_closeOf cs len (x3_10 + (m_X4_widthOf (m_X3_signAt cs len x3_10 cu)))).toNatClampNeg) + 1))), (6, .int (nI (((m_X3_closeOf cs len (x3_10 + (m_X4_widthOf (m_X3_signAt cs len x3_10 cu)))).toNatClampNeg) + 1))), (7, .int (m_X3_numberBetween cs len (x3_10 + (m_X4_widthOf (m_X3_signAt cs len x3_10 cu))) (m_X3_closeOf cs len (x3_10 + (m_X4_widthOf (m_X3_signAt cs len x3_10 cu)))))), (8, .int (m_X3_closeOf cs len (x3_10 + (m_X4_widthOf (m_X3_signAt cs len x3_10 cu))))), (5, .int (m_X3_signAt cs len x3_10 cu)), (0, .ref h0), (1, .ref g0), (2, .int cu), (4, .int (nI i))]) hx hb dX2_take_108 rfl hl (by decide) rfl (fun ls hl => ?_)
                refine lv_iinc (v := nI (i + 1)) (lv' := [(4, .int (nI (i + 1))), (3, .int (nI (((m_X3_closeOf cs len (x3_10 + (m_X4_widthOf (m_X3_signAt cs len x3_10 cu)))).toNatClampNeg) + 1))), (6, .int (nI (((m_X3_closeOf cs len (x3_10 + (m_X4_widthOf (m_X3_signAt cs len x3_10 cu)))).toNatClampNeg) + 1))), (7, .int (m_X3_numberBetween cs len (x3_10 + (m_X4_widthOf (m_X3_signAt cs len x3_10 cu))) (m_X3_closeOf cs len (x3_10 + (m_X4_widthOf (m_X3_signAt cs len x3_10 cu)))))), (8, .int (m_X3_closeOf cs len (x3_10 + (m_X4_widthOf (m_X3_signAt cs len x3_10 cu))))), (5, .int (m_X3_signAt cs len x3_10 cu)), (0, .ref h0), (1, .ref g0), (2, .int cu)]) hx hb dX2_take_109 hl (k := 8) rfl (nI_add (i) 1) (by decide) rfl (fun ls hl => ?_)
                refine lv_goto (tgt := 10) hx hb dX2_take_112 (by decide) ?_
                exact ih10 (i + 1) (((m_X3_closeOf cs len (x3_10 + (m_X4_widthOf (m_X3_signAt cs len x3_10 cu)))).toNatClampNeg) + 1) (upd ss_10 i (m_X3_signAt cs len x3_10 cu)) (upd ts_10 i (m_X3_numberBetween cs len (x3_10 + (m_X4_widthOf (m_X3_signAt cs len x3_10 cu))) (m_X3_closeOf cs len (x3_10 + (m_X4_widthOf (m_X3_signAt cs len x3_10 cu)))))) (upd ps_10 i (nI x3_10)) (by omega) (by omega) (by omega) (hm10.trans (by simp only [m_X2_take_L10, if_neg c_1, if_neg c_2, if_neg c_3, if_pos c_4, if_pos c_5])) H locs hP hD hS ls (lv_sub hl [6, 7, 8, 1, 0] rfl)
              · skip
                refine lv_iload hx hb dX2_take_88 (lv_at hl 2 rfl) ?_
                have hmE : m_X2_take ss ts ps sz cs len cu = (nI (x3_10 + (m_X4_widthOf (m_X3_signAt cs len x3_10 cu))), ss_10, ts_10, ps_10, i) := hm10.trans (by simp only [m_X2_take_L10, if_neg c_1, if_neg c_2, if_neg c_3, if_pos c_4, if_neg c_5])
                exact wr_iret (v := nI (x3_10 + (m_X4_widthOf (m_X3_signAt cs len x3_10 cu)))) () hx hb hr hlocks hK hS (by rw [hmE]) (by rw [hmE]; exact hP) (by rw [hmE]; exact hD) dX2_take_90
          · skip
            refine lv_iload_n hx hb dX2_take_39 rfl (lv_at hl 4 rfl) ?_
            have hmE : m_X2_take ss ts ps sz cs len cu = (nI x3_10, ss_10, ts_10, ps_10, i) := hm10.trans (by simp only [m_X2_take_L10, if_neg c_1, if_neg c_2, if_pos c_3])
            exact wr_iret (v := nI x3_10) () hx hb hr hlocks hK hS (by rw [hmE]) (by rw [hmE]; exact hP) (by rw [hmE]; exact hD) dX2_take_40
  exact lp_10 (80 + 1) (0) 0 ss ts ps (by omega) (by omega) (by omega) (show m_X2_take ss ts ps sz cs len cu = m_X2_take_L10 cs len cu (80 + 1) 0 0 ss ts ps from by simp only [m_X2_take]) H locs hP hD hS ls (lv_sub hl [2, 3, 4, 1, 0] rfl)
def m_X4_category_n : Int32 := (-1)
set_option maxHeartbeats 4000000 in
set_option maxRecDepth 100000 in
theorem c_X4_category_n (l : Launch) (dC : Nat → ClassId) (dI : Nat → Nat → Nat) (h0 : Nat) (h1 : Nat) (h2 : Nat) (h3 : Nat) (kc : Int32) (cu : Int32) : Met l yX4_category wsX4_category ({ frames := 0, cells := 0, slots := 0, locals := 0 } : Room) (va_Pc [.ref h0] (rd_P (dC, dI) vwCl [(h0, .inr (5, [.ref h1, .ref h2, .ref h3, .int kc, .null, .int cu]))] [])) (vp_Si (fun r => r = m_X4_category_n)) 0 0 (fun _ => False) := by
  refine Met.ofW (cc := cX4_category) (maxL := 1) (ret := (some .int)) (by decide) rfl ?_
  intro p e s m args below meth c s₁ B hml hv
  obtain ⟨rfl, hE, hP, hK⟩ := hv
  have hx := B.exec
  have hb := B.bytes
  have hr := B.returns
  have hts := atoms_spec (ws := wsX4_category) B.pre
  have hown : s.vm.findClass RX4 = some m.cls := findClass_of_methodNamed B.named
  have hlocks := B.notSynchronized
  have hl := lv_entry ([.ref h0]) (n := 1) (Nat.le_of_ble_eq_true rfl)
  rw [lg_entry_eq]
  generalize (lg_sl ([.ref h0]) ++ List.replicate (1 - (lg_sl ([.ref h0])).length) Slot.unset).toArray = ls at hl ⊢
  have hl : lv_has ls 1 [(0, .ref h0)] := hl
  refine lv_aload_n hx hb dX4_category_0 rfl (lv_at hl 0 rfl) ?_
  refine va_get (D := (dC, dI)) (ci := 5) (v := .null) (C := RX4) (T := TX4) (N := 6) hx hb hts (by decide +kernel) hown hK hP 0 rfl rfl 4 (by decide) (hts (.fieldLink RX4 33 "PictureRows" "latest" "LPictureRows$Picture;") (by decide +kernel)) (fun _ h9 => h9) rfl dX4_category_1 ?_
  refine lv_ifnonnullN hx hb dX4_category_4 ?_
  refine lv_iconst (v := (-1)) hx hb dX4_category_7 (by decide) ?_
  refine lv_goto (tgt := 18) hx hb dX4_category_8 (by decide) ?_
  exact rd_iret (v := (-1)) hx hb hr hlocks (show m_X4_category_n = (-1) from by simp only [m_X4_category_n]).symm dX4_category_18
