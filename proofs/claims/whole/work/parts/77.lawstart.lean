/-! the law from its entry -/
abbrev tbU : Nat → Int32 := upd (upd (upd (upd (upd (upd (upd (upd (upd (upd (upd (upd (upd (upd (upd (upd (upd (upd (upd (fun _ => 0) 0 442327) 1 171991) 2 6803) 3 236775) 4 0) 5 234455) 6 168151) 7 147) 8 168711) 9 515) 10 171031) 11 2067) 12 176151) 13 12289) 14 233472) 15 72339) 16 72339) 17 163856) 18 262145
theorem tbU_ok : ∀ a, a < 19 → tbU a = tbL.getD a 0 := by decide +kernel
abbrev U4 : Type := Nat × Nat × Nat × Nat × Nat × Nat × Nat × Nat × Nat
abbrev U5 : Type := Nat × Nat × Nat × Nat × Nat × Nat × Nat × Nat × Nat × Nat × Nat × Nat × Nat
def dL (q0 : Nat) (u1 : U4) (g0 : Nat) (u2 : U5) (o0 : Nat) : Nat → Nat := fun i => [q0, u1.1, u1.2.1, u1.2.2.1, u1.2.2.2.1, u1.2.2.2.2.1, u1.2.2.2.2.2.1, u1.2.2.2.2.2.2.1, u1.2.2.2.2.2.2.2.1, u1.2.2.2.2.2.2.2.2, g0, u2.1, u2.2.1, u2.2.2.1, u2.2.2.2.1, u2.2.2.2.2.1, u2.2.2.2.2.2.1, u2.2.2.2.2.2.2.1, u2.2.2.2.2.2.2.2.1, u2.2.2.2.2.2.2.2.2.1, u2.2.2.2.2.2.2.2.2.2.1, u2.2.2.2.2.2.2.2.2.2.2.1, u2.2.2.2.2.2.2.2.2.2.2.2.1, u2.2.2.2.2.2.2.2.2.2.2.2.2, o0].getD i 0
abbrev WK (q0 : Nat) (u9 : U4) (cA cP : ClassId) : va_W := [(q0, .inr (5, [.ref u9.1, .ref u9.2.2.1, .ref u9.2.2.2.2.2.2.2.2, .int 0, .null, .int 36])), (u9.1, .inr (4, [.ref u9.2.1, .int 0])), (u9.2.1, .inl (cA, 80, .inl (fun _ => 0))), (u9.2.2.1, .inr (3, [.ref u9.2.2.2.1, .ref u9.2.2.2.2.1, .ref u9.2.2.2.2.2.1, .ref u9.2.2.2.2.2.2.1, .ref u9.2.2.2.2.2.2.2.1, .int 0])), (u9.2.2.2.1, .inl (cA, 80, .inl (fun _ => 0))), (u9.2.2.2.2.1, .inl (cA, 80, .inl (fun _ => 0))), (u9.2.2.2.2.2.1, .inl (cA, 80, .inl (fun _ => 0))), (u9.2.2.2.2.2.2.1, .inl (cA, 80, .inl (fun _ => 0))), (u9.2.2.2.2.2.2.2.1, .inl (cA, 80, .inl (fun _ => 0))), (u9.2.2.2.2.2.2.2.2, .inl (cP, 40, .inr (.inr (.inr (.inr (fun _ => none))))))]
theorem law_dv5 : ∀ j, j < 24 → defaultValue (tyX5 j) = vp_V [.int 0, .null, .int 0, .int 0, .null, .null, .null, .int 0, .int 0, .int 0, .int 0, .null, .null, .null, .int 0, .int 0, .int 0, .int 0, .null, .null, .null, .null, .null, .null] j := by decide +kernel
set_option maxHeartbeats 4000000 in
set_option maxRecDepth 100000 in
/-- THE LAW, from its entry -/
theorem whole_start {p : Program} {e : Env} {s : State} {m : MethodId} {below : List Frame} {meth : Method} {c : Code} (l : Launch) (hlt : l.stackTraces = false) {b L : Nat} {xs : Nat → Int32} (hL : L ≤ 1536) (C0 : lw_At p s m meth c b L xs) : W p l e room_1 s m #[Value.ref b] below meth c s.heap [] 0 0 (lw_Z below #[Value.ref b] s) (entryFrame m ([Value.ref b] : List Value).toArray 7) := by
  obtain ⟨hx, hb, hr, hml, hown, htb0, hX, hbl, hlocks, hgv⟩ := id C0
  have hown : s.vm.findClass RL = some m.cls := hown
  have hts : ∀ w ∈ wsL_law, w.before #[Value.ref b] s = true := fun w h => htb0 w (wsL_law_all w h)
  obtain ⟨hE, hTH⟩ := law_EV htb0 hgv
  have hA : ∀ q : Nat, s.heap.size ≤ q → gA s q := fun _ h => h
  obtain ⟨cA, hcA⟩ : ∃ cA : ClassId, ArrOfT s cA .int ∧ va_RA s cA .int := by
    obtain ⟨c9, k9, comp, h1, h2, h3⟩ := Cond.arrayClass_spec (htb0 (.arrayClass .int) (by decide +kernel))
    exact ⟨c9, fun n z => ⟨fun k h => (by cases h), k9, h2, comp, h3⟩, h1⟩
  obtain ⟨cL, hcL⟩ : ∃ cL : ClassId, ArrOfT s cL .long ∧ va_RA s cL .long := by
    obtain ⟨c9, k9, comp, h1, h2, h3⟩ := Cond.arrayClass_spec (htb0 (.arrayClass .long) (by decide +kernel))
    exact ⟨c9, fun n z => ⟨fun k h => (by cases h), k9, h2, comp, h3⟩, h1⟩
  obtain ⟨cP, hcP⟩ : ∃ cP : ClassId, ArrOfT s cP (.object "PictureRows$Picture") ∧ va_RA s cP (.object "PictureRows$Picture") := by
    obtain ⟨comp, c9, k9, h0, -, h2, h3, h1⟩ := Cond.arrayOver_spec (htb0 (.arrayOver (.object "PictureRows$Picture")) (by decide +kernel))
    exact ⟨c9, fun n z => ⟨fun k h => (by cases h), k9, h2, comp, h3⟩, k9, comp, h2, h3, h0, h1⟩
  obtain ⟨c0, iS0, hKn0⟩ := u_known (C := RJx00060) (T := TJx00060) (N := 6) (n := 6) htb0 wsJx000600_in (htb0 (.instantiable RJx00060 6) (by decide +kernel))
  obtain ⟨c1, iS1, hKn1⟩ := u_known (C := RX0) (T := TX0) (N := 3) (n := 3) htb0 wsX00_in (htb0 (.instantiable RX0 3) (by decide +kernel))
  obtain ⟨c2, iS2, hKn2⟩ := u_known (C := RX1) (T := TX1) (N := 10) (n := 10) htb0 wsX10_in (htb0 (.instantiable RX1 10) (by decide +kernel))
  obtain ⟨c3, iS3, hKn3⟩ := u_known (C := RX2) (T := TX2) (N := 6) (n := 6) htb0 wsX20_in (htb0 (.instantiable RX2 6) (by decide +kernel))
  obtain ⟨c4, iS4, hKn4⟩ := u_known (C := RX3) (T := TX3) (N := 2) (n := 2) htb0 wsX30_in (htb0 (.instantiable RX3 2) (by decide +kernel))
  obtain ⟨c5, iS5, hKn5⟩ := u_known (C := RX4) (T := TX4) (N := 6) (n := 6) htb0 wsX40_in (htb0 (.instantiable RX4 6) (by decide +kernel))
  obtain ⟨c6, iS6, hKn6⟩ := u_known (C := RX5) (T := TX5) (N := 24) (n := 24) htb0 wsX50_in (htb0 (.instantiable RX5 24) (by decide +kernel))
  obtain ⟨dC, dI, hKc⟩ : ∃ (dC : Nat → ClassId) (dI : Nat → Nat → Nat), ∀ (k : Nat) (q : vw_C), vwCl[k]? = some q → u_Kn s q.1 q.2.1 q.2.2 (dC k) (dI k) := by
    refine ⟨fun k => [c0, c1, c2, c3, c4, c5, c6].getD k c6, fun k => [iS0, iS1, iS2, iS3, iS4, iS5, iS6].getD k iS6, ?_⟩
    intro k q hq
    match k, hq with
    | 0, hq => cases hq; exact hKn0
    | 1, hq => cases hq; exact hKn1
    | 2, hq => cases hq; exact hKn2
    | 3, hq => cases hq; exact hKn3
    | 4, hq => cases hq; exact hKn4
    | 5, hq => cases hq; exact hKn5
    | 6, hq => cases hq; exact hKn6
    | k + 7, hq => simp [vwCl] at hq
  have hS : va_S (gA s) s.heap s.heap [] := va_S.rf
  have hK : va_K (dC, dI) vwCl [(cA, .int), (cP, .object "PictureRows$Picture"), (cL, .long)] s := ⟨hKc, fun k q h => by
    match k, h with
    | 0, h => cases h; exact hcA
    | 1, h => cases h; exact hcP
    | 2, h => cases h; exact hcL
    | k + 3, h => simp at h⟩
  have hP : va_P (dC, dI) vwCl [] s.heap := fun k q h => by simp at h
  have hD : va_D (gA s) [] := ⟨fun i j p q h => by simp at h, fun k q h => by simp at h⟩
  have C : LCX p s m c b L xs dC dI cA cP cL := ⟨hx, hb, hml, hown, htb0, hts, hX, hbl, hE, hTH, hK⟩
  have hl := lv_entry ([.ref b]) (n := 7) (Nat.le_of_ble_eq_true rfl)
  rw [lg_entry_eq]
  generalize (lg_sl ([.ref b]) ++ List.replicate (7 - (lg_sl ([.ref b])).length) Slot.unset).toArray = ls at hl ⊢
  have hl : lv_has ls 7 [(0, .ref b)] := hl
  refine va_new (ci := 5) (fs := [.null, .null, .null, .int 0, .null, .int 0]) (C := RX4) (T := TX4) (N := 6) hx hb htb0 wsX40_in tyX4 tyX4_ok hown (htb0 (.classLink RL 8 RX4) (by decide +kernel)) (htb0 (.instantiable RX4 6) (by decide +kernel)) (htb0 (.initialized RX4) (by decide +kernel)) hK hP hD hS hA rfl (fun j hj => by rcases (show j = 0 ∨ j = 1 ∨ j = 2 ∨ j = 3 ∨ j = 4 ∨ j = 5 by omega) with rfl | rfl | rfl | rfl | rfl | rfl <;> rfl) (Nat.le_of_ble_eq_true rfl) (Nat.le_of_ble_eq_true rfl) dL_law_0 (fun q0 H hP hD hS => ?_)
  have hP : va_P (dC, dI) vwCl [(q0, .inr (5, [.null, .null, .null, .int 0, .null, .int 0]))] H := hP
  have hD : va_D (gA s) [(q0, .inr (5, [.null, .null, .null, .int 0, .null, .int 0]))] := hD
  refine lv_dup hx hb dL_law_3 rfl ?_
  have hFc := va_free (wc := [(q0, .inr (5, [.null, .null, .null, .int 0, .null, .int 0]))]) hD hS hA [0] rfl
  refine wr_goV (wr := []) (va_runI (As := []) (rest := [.ref q0]) ⟨hx, hb, hml, hown, hts⟩ (c_X4_init l dC dI q0 cA cP 0 0 H.size) (cwI 0 hts gL_law_X4_init rfl rfl rfl (htb0 (.initialized RX4) (by decide +kernel)) (htb0 (.methodLink RL 15 yX4_init) (by decide +kernel)) (htb0 (.instanceMethod yX4_init) (by decide +kernel)) rfl (by decide +kernel) ⟨Nat.le_of_ble_eq_true rfl, Nat.le_of_ble_eq_true rfl⟩) ⟨wr_blind, wr_pre hE hS hFc (hP.sub [0] rfl) (hK.sub [0, 1] rfl) (hD.sub [0] (by decide) rfl)⟩ rfl rfl hl.1 rfl (lv_room (Nat.le_of_ble_eq_true rfl)) dL_law_4 ⟨Nat.le_of_ble_eq_true rfl, Nat.le_of_ble_eq_true rfl⟩) hP hD hS hFc [0] [] rfl rfl (by decide) (by decide) (fun u1 H locs hw1 hP hD hS => ?_)
  dsimp only [List.nil_append] at hP hD
  refine lv_astore_n (lv' := [(1, .ref q0), (0, .ref b)]) hx hb dL_law_7 rfl hl (by decide) rfl (fun ls hl => ?_)
  refine va_new (ci := 6) (fs := [.int 0, .null, .int 0, .int 0, .null, .null, .null, .int 0, .int 0, .int 0, .int 0, .null, .null, .null, .int 0, .int 0, .int 0, .int 0, .null, .null, .null, .null, .null, .null]) (C := RX5) (T := TX5) (N := 24) hx hb htb0 wsX50_in tyX5 tyX5_ok hown (htb0 (.classLink RL 16 RX5) (by decide +kernel)) (htb0 (.instantiable RX5 24) (by decide +kernel)) (htb0 (.initialized RX5) (by decide +kernel)) hK hP hD hS hA rfl law_dv5 (Nat.le_of_ble_eq_true rfl) (Nat.le_of_ble_eq_true rfl) dL_law_8 (fun g0 H hP hD hS => ?_)
  refine lv_dup hx hb dL_law_11 rfl ?_
  have hFc := va_free (wc := [(g0, .inr (6, [.int 0, .null, .int 0, .int 0, .null, .null, .null, .int 0, .int 0, .int 0, .int 0, .null, .null, .null, .int 0, .int 0, .int 0, .int 0, .null, .null, .null, .null, .null, .null]))]) hD hS hA [10] rfl
  refine wr_goV (wr := WK q0 u1 cA cP) (va_runI (As := []) (rest := [.ref g0]) ⟨hx, hb, hml, hown, hts⟩ (c_X5_init l dC dI g0 cA 0 0 0 0 0 0 0 0 0 0 0 H.size) (cwI 0 hts gL_law_X5_init rfl rfl rfl (htb0 (.initialized RX5) (by decide +kernel)) (htb0 (.methodLink RL 18 yX5_init) (by decide +kernel)) (htb0 (.instanceMethod yX5_init) (by decide +kernel)) rfl (by decide +kernel) ⟨Nat.le_of_ble_eq_true rfl, Nat.le_of_ble_eq_true rfl⟩) ⟨wr_blind, wr_pre hE hS hFc (hP.sub [10] rfl) (hK.sub [0] rfl) (hD.sub [10] (by decide) rfl)⟩ rfl rfl hl.1 rfl (lv_room (Nat.le_of_ble_eq_true rfl)) dL_law_12 ⟨Nat.le_of_ble_eq_true rfl, Nat.le_of_ble_eq_true rfl⟩) hP hD hS hFc [10] [0, 1, 2, 3, 4, 5, 6, 7, 8, 9] rfl rfl (by decide) (by decide) (fun u2 H locs hw2 hP hD hS => ?_)
  refine lv_astore_n (lv' := [(2, .ref g0), (1, .ref q0), (0, .ref b)]) hx hb dL_law_15 rfl hl (by decide) rfl (fun ls hl => ?_)
  refine lv_iconst (v := 1) hx hb dL_law_16 (by decide) ?_
  refine va_newa (atype := .long) (a0 := (1, .inr (.inl (fun _ => 0)))) (N' := 1) hx hb (htb0 (.arrayClass .long) (by decide +kernel)) rfl hK hP hD hS hA (fun _ => rfl) (by decide) (by decide) (by decide) (Nat.le_of_ble_eq_true rfl) (Nat.le_of_ble_eq_true rfl) dL_law_17 (fun o0 cB H hK2 hP hD hS => ?_)
  have hcB : cB = cL := by
    have h1 := (hK2.2 3 (cB, .long) rfl).2
    have h2 := (hK2.2 2 (cL, .long) rfl).2
    exact Option.some.inj (h1.symm.trans h2)
  subst hcB
  refine lv_astore_n (lv' := [(3, .ref o0), (2, .ref g0), (1, .ref q0), (0, .ref b)]) hx hb dL_law_19 rfl hl (by decide) rfl (fun ls hl => ?_)
  refine lv_iconst (v := 0) hx hb dL_law_20 (by decide) ?_
  refine lv_istore (lv' := [(4, .int 0), (3, .ref o0), (2, .ref g0), (1, .ref q0), (0, .ref b)]) hx hb dL_law_21 hl (by decide) rfl (fun ls hl => ?_)
  have hP := hP.sub (ws' := WS (dL q0 u1 g0 u2 o0) cA cP cB 0 none 36 0 (fun _ => 0) 0 (fun _ => 0) (fun _ => 0) (fun _ => 0) (fun _ => 0) (fun _ => 0) (fun _ => none) 0 0 36 0 0 0 0 (-1) 0 0 0 (fun _ => 0) (fun _ => 0) (fun _ => 0) (fun _ => 0) (fun _ => 0) (fun _ => 0) (fun _ => 0) (fun _ => 0) (fun _ => 0) (fun _ => 0) tbU (fun _ => 0) (fun _ => 0) (fun _ => 0)) (List.range 25) rfl
  have hD := hD.sub (ws' := WS (dL q0 u1 g0 u2 o0) cA cP cB 0 none 36 0 (fun _ => 0) 0 (fun _ => 0) (fun _ => 0) (fun _ => 0) (fun _ => 0) (fun _ => 0) (fun _ => none) 0 0 36 0 0 0 0 (-1) 0 0 0 (fun _ => 0) (fun _ => 0) (fun _ => 0) (fun _ => 0) (fun _ => 0) (fun _ => 0) (fun _ => 0) (fun _ => 0) (fun _ => 0) (fun _ => 0) tbU (fun _ => 0) (fun _ => 0) (fun _ => 0)) (List.range 25) (by decide) rfl
  refine W.widen (k := 25 + 7 * 0) (n := 898298 + 413 * 0) (by decide) (by decide) ?_
  exact law_loop (d := dL q0 u1 g0 u2 o0) (base := H.size) hlt C (lt_of_P hP rfl) hr hlocks hL (L + 1) 0 H locs ls (by omega) (by omega) ⟨0, none, 36, 0, fun _ => 0, 0, fun _ => 0, fun _ => 0, fun _ => 0, fun _ => 0, fun _ => 0, fun _ => none, 0, 0, 0, 0, 0, -1, 0, 0, fun _ => 0, fun _ => 0, fun _ => 0, fun _ => 0, fun _ => 0, fun _ => 0, fun _ => 0, fun _ => 0, fun _ => 0, fun _ => 0, tbU, fun _ => 0, fun _ => 0, fun _ => 0, hP, hD, hS, Nat.le_refl _, ⟨Nat.zero_le _, Nat.zero_le _, fun j h => absurd h (Nat.not_lt_zero j), by decide, by decide, tbU_ok⟩, fun i h => absurd h (Nat.not_lt_zero i), Or.inl ⟨rfl, rfl⟩⟩ (lv_sub hl [4, 3, 2, 1, 0] rfl)
