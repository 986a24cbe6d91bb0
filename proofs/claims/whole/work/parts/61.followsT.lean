/-! PictureRows.follows with a kind that is none: it throws; the law's own follows catches it -/
section MT
variable {l : Launch}
theorem MetT.ofW {y : MethodName} {ws ws' : List Cond} {rm : Room} {Pc : Array Value → State → Prop} {Q : State → Outcome → State → Prop} {cc : ByteArray} {maxL : Nat} {ret : Option FieldType}
    (hy : plainName y.cls = true) (hw : ws = Cond.code y cc maxL ret :: ws')
    (body : ∀ p e s m args below meth c s₁, BodyLoose p l y (headSpec ws rm) cc maxL ret e s m args below meth c s₁ → c.maxLocals = maxL → Pc args s →
      W p l e (headSpec ws rm).room s m args below meth c s.heap [] 0 0 (fun t => ∃ o, t.status = .running ∧ Ended t below o ∧ Q s o t) (entryFrame m args maxL)) : MetFree l y (headSpec ws rm) Pc (fun _ _ _ _ _ => True) (fun _ st o t => Q st o t) := by
  refine MetFree.of_bodyS (code := cc) (maxLocals := maxL) (ret := ret) hy ?_ ?_
  · intro args s m h hn
    obtain ⟨meth, c, h1, h2, h3, h4, h5, h6, -, -⟩ := Cond.code_spec hn (atoms_spec (ws := ws) h _ (by rw [hw]; exact List.mem_cons_self))
    exact ⟨meth, c, h1, h2, h3, h4, h5, h6⟩
  · intro p e s m args below meth c s₁ B hml hP _
    have hh0 : s₁.heap = s.heap := by rw [B.state]; rfl
    obtain ⟨t, a1, o, b1, b2, b3⟩ := body p e s m args below meth c s₁ B hml hP s₁ hh0 (Stand.of_body B)
    exact ⟨t, o, a1, b1, b2, b3⟩
end MT
def rmFT : Room := { frames := 7, cells := 1, slots := 6, locals := 100 }
set_option maxHeartbeats 4000000 in
set_option maxRecDepth 100000 in
theorem c_X4_follows_t (l : Launch) (hlt : l.stackTraces = false) (dC : Nat → ClassId) (dI : Nat → Nat → Nat) (la : Option Nat) (h0 : Nat) (h1 : Nat) (h2 : Nat) (h3 : Nat) (kc : Nat) (cu : Int32) (a : Int32) (b : Int32) (hab : ¬ (m_X4_isKind a = true ∧ m_X4_isKind b = true)) : MetFree l yX4_follows (headSpec wsFT rmFT) (va_Pc [.ref h0, .int a, .int b] (fun U => rd_P (dC, dI) vwCl [(h0, .inr (5, [.ref h1, .ref h2, .ref h3, .int (nI kc), va_rf la, .int cu]))] [] U ∧ THc nA U U.heap)) (fun _ _ _ _ _ => True) (fun _ st o t => QT st o t) := by
  refine MetT.ofW (cc := cX4_follows) (maxL := 3) (ret := (some .boolean)) (by decide) rfl ?_
  intro p e s m args below meth c s₁ B hml hv
  obtain ⟨rfl, ⟨hE, hP, hK⟩, hTH⟩ := hv
  have hx := B.exec
  have hb := B.bytes
  have hts0 := atoms_spec (ws := wsFT) B.pre
  have hts : ∀ w ∈ wsX4_follows, w.before _ s = true := fun w h => hts0 w (List.mem_append_left _ h)
  have hth := th_words (fun w h => hts0 w (List.mem_append_right _ h)) hTH
  have hown : s.vm.findClass RX4 = some m.cls := findClass_of_methodNamed B.named
  have hlocks := B.notSynchronized
  have hnoh := B.noHandlers (hts (.code yX4_follows cX4_follows 3 (some .boolean)) (by decide +kernel))
  have hl := lv_entry ([.ref h0, .int a, .int b]) (n := 3) (Nat.le_of_ble_eq_true rfl)
  rw [lg_entry_eq]
  generalize (lg_sl ([.ref h0, .int a, .int b]) ++ List.replicate (3 - (lg_sl ([.ref h0, .int a, .int b])).length) Slot.unset).toArray = ls at hl ⊢
  have hl : lv_has ls 3 [(0, .ref h0), (1, .int a), (2, .int b)] := hl
  obtain ⟨tbA, hZ, hT⟩ := hE.2.1
  obtain ⟨adK, adV, hSt, hR0, hR1, hR2, -, -⟩ := hE.2.2.2
  have hthrow : W p l e (headSpec wsFT rmFT).room s m _ below meth c s.heap [] 0 0 (QTs below s) (F0 m 14 ls []) :=
    thr_14 hlt hx hb hml hown hlocks hnoh hth (hts (.classLink RX4 81 RJx00060) (by decide +kernel)) (hts (.initialized RJx00060) (by decide +kernel)) hR2 (Nat.le_of_ble_eq_true rfl) (Nat.le_of_ble_eq_true rfl) (Nat.le_of_ble_eq_true rfl) (Nat.le_of_ble_eq_true rfl) hl.1
  refine lv_iload_n hx hb dX4_follows_0 rfl (lv_at hl 1 rfl) ?_
  refine rd_callS (As := [.int a]) (rest := []) ⟨hx, hb, hml, hown, hts⟩ hE (c_X4_isKind l dC dI a ) (va_cwS 1 hts gX4_follows_X4_isKind rfl rfl rfl (by decide +kernel) ⟨Nat.le_of_ble_eq_true rfl, Nat.le_of_ble_eq_true rfl⟩) (hP.sub (ws' := []) [] rfl) (hK.sub [] rfl) rfl hl.1 rfl (Nat.le_of_ble_eq_true rfl) dX4_follows_1 ⟨Nat.zero_le _, Nat.zero_le _⟩ (fun r9 hr9 => ?_)
  subst hr9
  refine lv_if_eq (tgt := 14) hx hb dX4_follows_4 (by decide) (fun c_1 => ?_) (fun c_1 => ?_)
  · exact hthrow
  · have c_1 := bI_n0 c_1
    refine lv_iload_n hx hb dX4_follows_7 rfl (lv_at hl 2 rfl) ?_
    refine rd_callS (As := [.int b]) (rest := []) ⟨hx, hb, hml, hown, hts⟩ hE (c_X4_isKind l dC dI b ) (va_cwS 1 hts gX4_follows_X4_isKind rfl rfl rfl (by decide +kernel) ⟨Nat.le_of_ble_eq_true rfl, Nat.le_of_ble_eq_true rfl⟩) (hP.sub (ws' := []) [] rfl) (hK.sub [] rfl) rfl hl.1 rfl (Nat.le_of_ble_eq_true rfl) dX4_follows_8 ⟨Nat.zero_le _, Nat.zero_le _⟩ (fun r9 hr9 => ?_)
    subst hr9
    refine lv_if_ne (tgt := 24) hx hb dX4_follows_11 (by decide) (fun c_2 => ?_) (fun c_2 => ?_)
    · have c_2 := bI_n0 c_2
      exfalso
      exact hab ⟨by revert c_1; cases m_X4_isKind a <;> simp, by revert c_2; cases m_X4_isKind b <;> simp⟩
    · exact hthrow
