set_option maxHeartbeats 4000000 in
set_option maxRecDepth 100000 in
theorem limb_follows {p : Program} {e : Env} {s : State} {m : MethodId} {below : List Frame} {meth : Method} {c : Code} {l : Launch} {b L : Nat} {xs : Nat → Int32} {Q : State → Prop} {dC : Nat → ClassId} {dI : Nat → Nat → Nat} {d : Nat → Nat} {base : Nat} {cA cP cL : ClassId} {H : Heap} {locs : List Loc} {cells slots i : Nat} {ls : Array Slot} (hlt : l.stackTraces = false) (C : LCX p s m c b L xs dC dI cA cP cL) (hd : ∀ i, i < 25 → d i < base) (hI : INV (dC, dI) cA cP cL s d base H locs) (hl : lv_has ls 7 [(0, .ref b), (1, .ref (d 0)), (2, .ref (d 10)), (3, .ref (d 24)), (4, .int (nI i))]) (hi : i + 3 ≤ L) (hL : L ≤ 1536) (hc : cells + 7 ≤ room_1.cells) (hn : slots + 413 ≤ room_1.slots)
    (kk : ∀ (H1 : Heap) (locs1 : List Loc) (ls1 : Array Slot), INV (dC, dI) cA cP cL s d base H1 locs1 → lv_has ls1 7 [(0, .ref b), (1, .ref (d 0)), (2, .ref (d 10)), (3, .ref (d 24)), (4, .int (nI i))] → W p l e room_1 s m #[Value.ref b] below meth c H1 locs1 (cells + 7) (slots + 413) Q (F0 m 354 ls1 [])) : W p l e room_1 s m #[Value.ref b] below meth c H locs cells slots Q (F0 m 179 ls []) := by
  obtain ⟨hx, hb, hml, hown, htb0, hts, hX, hbl, hE, hTH, hK⟩ := C
  obtain ⟨kc, la, cu, len, cs, sz, ss, ts, ps, ks, ds, kf, th, my, pu, mi, ms, lam, sh, mf, tx, rd, pl, kd, sn, kn, lt, rw, rk, zs, tb, mn, it, f, hP, hD, hS, hbs, ⟨hlen, hkc, hTX, hm1, hm2, htb⟩, hKE, hLA⟩ := hI
  have hA : ∀ q : Nat, s.heap.size ≤ q → gA s q := fun _ h => h
  have hbA : ¬ gA s b := Nat.not_le.mpr hbl
  have hgw := wsLF_good htb0 hts
  by_cases hk9 : m_X4_isKind (xs (nI (i + 1)).toNatClampNeg) = true ∧ m_X4_isKind (xs (nI (i + 2)).toNatClampNeg) = true
  · skip
    refine lv_aload_n hx hb dL_law_179 rfl (lv_at hl 1 rfl) ?_
    refine lv_aload_n hx hb dL_law_180 rfl (lv_at hl 0 rfl) ?_
    refine lv_iload hx hb dL_law_181 (lv_at hl 4 rfl) ?_
    refine lv_iconst (v := nI 1) hx hb dL_law_183 (by decide) ?_
    refine rd_iadd hx hb i 1 dL_law_184 ?_
    refine va_sld hx hb hX hbl hbA hS (vp_in_nI (by omega) (by omega)) dL_law_185 ?_
    refine lv_aload_n hx hb dL_law_186 rfl (lv_at hl 0 rfl) ?_
    refine lv_iload hx hb dL_law_187 (lv_at hl 4 rfl) ?_
    refine lv_iconst (v := nI 2) hx hb dL_law_189 (by decide) ?_
    refine rd_iadd hx hb i 2 dL_law_190 ?_
    refine va_sld hx hb hX hbl hbA hS (vp_in_nI (by omega) (by omega)) dL_law_191 ?_
    refine lv_aload_n hx hb dL_law_192 rfl (lv_at hl 3 rfl) ?_
    have hlo1 : lo base (WS d cA cP cL kc la cu len cs sz ss ts ps ks ds kf th len cu my pu mi ms lam kc sh mf tx rd pl kd sn kn lt rw rk zs tb mn it f) := lo_of (d := d) rfl hd
    have hFc1 := va_free (wc := pk (WS d cA cP cL kc la cu len cs sz ss ts ps ks ds kf th len cu my pu mi ms lam kc sh mf tx rd pl kd sn kn lt rw rk zs tb mn it f) [0, 24]) hD hS hA [0, 24] rfl
    have hpre1 := fun (av : List Value) => wr_pre (av := av) hE hS hFc1 (hP.sub (ws' := pk (WS d cA cP cL kc la cu len cs sz ss ts ps ks ds kf th len cu my pu mi ms lam kc sh mf tx rd pl kd sn kn lt rw rk zs tb mn it f) [0, 24]) [0, 24] rfl) (hK.sub (tys' := [(cL, .long)]) [2] rfl) (hD.sub (ws' := pk (WS d cA cP cL kc la cu len cs sz ss ts ps ks ds kf th len cu my pu mi ms lam kc sh mf tx rd pl kd sn kn lt rw rk zs tb mn it f) [0, 24]) [0, 24] (by decide) rfl)
    refine wl_goI (base := base) (wr := pk (WS d cA cP cL kc la cu len cs sz ss ts ps ks ds kf th len cu my pu mi ms lam kc sh mf tx rd pl kd sn kn lt rw rk zs tb mn it f) [1, 2, 3, 4, 5, 6, 7, 8, 9, 10, 11, 12, 13, 14, 15, 16, 17, 18, 19, 20, 21, 22, 23]) (va_runSW (n := 4) (As := [.ref (d 0), .int (xs (nI (i + 1)).toNatClampNeg), .int (xs (nI (i + 2)).toNatClampNeg), .ref (d 24)]) (rest := []) ⟨hx, hb, hml, hown, hts⟩ (c_L_follows_g l dC dI la (d 0) (d 1) (d 3) (d 9) kc cu (xs (nI (i + 1)).toNatClampNeg) (xs (nI (i + 2)).toNatClampNeg) (d 24) cL f H.size hk9.1 hk9.2) rfl rfl (Nat.le_of_ble_eq_true rfl) (Nat.le_of_ble_eq_true rfl) hgw (List.mem_append_left _ List.mem_cons_self) (hts (.codeWith yL_follows cL_follows 5 (some .int) [(0, 17, 20, 13)]) lfC_in) (hts (.methodLink RL 42 yL_follows) lfL_in) (hts (.static yL_follows) lfS_in) (hts (.initialized RL) lfI_in) (by decide) (by decide +kernel) ⟨wr_blind, hpre1 _⟩ rfl rfl hl.1 rfl (lv_room (Nat.le_of_ble_eq_true rfl)) dL_law_193 ⟨by omega, by omega⟩) hP hD hS hFc1 [0, 24] [1, 2, 3, 4, 5, 6, 7, 8, 9, 10, 11, 12, 13, 14, 15, 16, 17, 18, 19, 20, 21, 22, 23] rfl rfl (by decide) (by decide) hlo1 (fun r1 u1 H1 locs1 hw1 hP1 hD1 hS hDn1 hsz1 hk1 => ?_)
    subst hw1
    have hP := hP1.sub (ws' := (WS d cA cP cL kc la cu len cs sz ss ts ps ks ds kf th len cu my pu mi ms lam kc sh mf tx rd pl kd sn kn lt rw rk zs tb mn it ((fun _ => i64 (m_X4_follows (xs (nI (i + 1)).toNatClampNeg) (xs (nI (i + 2)).toNatClampNeg)))))) [23, 0, 1, 2, 3, 4, 5, 6, 7, 8, 9, 10, 11, 12, 13, 14, 15, 16, 17, 18, 19, 20, 21, 22, 24] rfl
    have hD := hD1.sub (ws' := (WS d cA cP cL kc la cu len cs sz ss ts ps ks ds kf th len cu my pu mi ms lam kc sh mf tx rd pl kd sn kn lt rw rk zs tb mn it ((fun _ => i64 (m_X4_follows (xs (nI (i + 1)).toNatClampNeg) (xs (nI (i + 2)).toNatClampNeg)))))) [23, 0, 1, 2, 3, 4, 5, 6, 7, 8, 9, 10, 11, 12, 13, 14, 15, 16, 17, 18, 19, 20, 21, 22, 24] (by decide) rfl
    clear hFc1 hlo1
    have hbs := Nat.le_trans hbs hsz1
    have hKE := hKE.kept hk1
    have hLA := hLA.kept hk1
    refine lv_istore hx hb dL_law_196 hl (by decide) rfl (fun ls hl => ?_)
    have hl := lv_sub (l' := [(0, .ref b), (1, .ref (d 0)), (2, .ref (d 10)), (3, .ref (d 24)), (4, .int (nI i)), (5, .int 0)]) hl [1, 2, 3, 4, 5, 0] rfl
    refine lv_aload_n hx hb dL_law_198 rfl (lv_at hl 2 rfl) ?_
    refine lv_aload_n hx hb dL_law_199 rfl (lv_at hl 0 rfl) ?_
    refine lv_iload hx hb dL_law_200 (lv_at hl 4 rfl) ?_
    refine lv_iconst (v := nI 1) hx hb dL_law_202 (by decide) ?_
    refine rd_iadd hx hb i 1 dL_law_203 ?_
    refine va_sld hx hb hX hbl hbA hS (vp_in_nI (by omega) (by omega)) dL_law_204 ?_
    refine lv_aload_n hx hb dL_law_205 rfl (lv_at hl 0 rfl) ?_
    refine lv_iload hx hb dL_law_206 (lv_at hl 4 rfl) ?_
    refine lv_iconst (v := nI 2) hx hb dL_law_208 (by decide) ?_
    refine rd_iadd hx hb i 2 dL_law_209 ?_
    refine va_sld hx hb hX hbl hbA hS (vp_in_nI (by omega) (by omega)) dL_law_210 ?_
    have hlo2 : lo base (WS d cA cP cL kc la cu len cs sz ss ts ps ks ds kf th len cu my pu mi ms lam kc sh mf tx rd pl kd sn kn lt rw rk zs tb mn it ((fun _ => i64 (m_X4_follows (xs (nI (i + 1)).toNatClampNeg) (xs (nI (i + 2)).toNatClampNeg))))) := lo_of (d := d) rfl hd
    have hFc2 := va_free (wc := pk (WS d cA cP cL kc la cu len cs sz ss ts ps ks ds kf th len cu my pu mi ms lam kc sh mf tx rd pl kd sn kn lt rw rk zs tb mn it ((fun _ => i64 (m_X4_follows (xs (nI (i + 1)).toNatClampNeg) (xs (nI (i + 2)).toNatClampNeg))))) [10, 21]) hD hS hA [10, 21] rfl
    refine wl_goI (base := base) (wr := pk (WS d cA cP cL kc la cu len cs sz ss ts ps ks ds kf th len cu my pu mi ms lam kc sh mf tx rd pl kd sn kn lt rw rk zs tb mn it ((fun _ => i64 (m_X4_follows (xs (nI (i + 1)).toNatClampNeg) (xs (nI (i + 2)).toNatClampNeg))))) [0, 1, 2, 3, 4, 5, 6, 7, 8, 9, 11, 12, 13, 14, 15, 16, 17, 18, 19, 20, 22, 23, 24]) (va_runV (As := [.int (xs (nI (i + 1)).toNatClampNeg), .int (xs (nI (i + 2)).toNatClampNeg)]) (rest := []) ⟨hx, hb, hml, hown, hts⟩ (c_X5_follows l dC dI (d 10) th (d 11) len cu (d 12) (d 13) (d 14) my pu mi ms (d 15) (d 16) (d 17) lam kc sh mf (d 18) (d 19) (d 20) (d 21) (d 22) (d 23) cA tb (xs (nI (i + 1)).toNatClampNeg) (xs (nI (i + 2)).toNatClampNeg) H1.size) (cwV 2 hts gL_law_X5_follows rfl rfl rfl (by decide +kernel) ⟨Nat.le_of_ble_eq_true rfl, Nat.le_of_ble_eq_true rfl⟩) ⟨wr_blind, va_recv hK hP (ci := 6) (q0 := 10) rfl rfl, (wr_pre hE hS hFc2 (hP.sub (ws' := pk (WS d cA cP cL kc la cu len cs sz ss ts ps ks ds kf th len cu my pu mi ms lam kc sh mf tx rd pl kd sn kn lt rw rk zs tb mn it ((fun _ => i64 (m_X4_follows (xs (nI (i + 1)).toNatClampNeg) (xs (nI (i + 2)).toNatClampNeg))))) [10, 21]) [10, 21] rfl) (hK.sub (tys' := [(cA, .int)]) [0] rfl) (hD.sub (ws' := pk (WS d cA cP cL kc la cu len cs sz ss ts ps ks ds kf th len cu my pu mi ms lam kc sh mf tx rd pl kd sn kn lt rw rk zs tb mn it ((fun _ => i64 (m_X4_follows (xs (nI (i + 1)).toNatClampNeg) (xs (nI (i + 2)).toNatClampNeg))))) [10, 21]) [10, 21] (by decide) rfl))⟩ rfl rfl hl.1 rfl (lv_room (Nat.le_of_ble_eq_true rfl)) dL_law_211 ⟨by omega, by omega⟩) hP hD hS hFc2 [10, 21] [0, 1, 2, 3, 4, 5, 6, 7, 8, 9, 11, 12, 13, 14, 15, 16, 17, 18, 19, 20, 22, 23, 24] rfl rfl (by decide) (by decide) hlo2 (fun r2 u2 H2 locs2 hw2 hP2 hD2 hS hDn2 hsz2 hk2 => ?_)
    subst hw2
    have hP := hP2.sub (ws' := (WS d cA cP cL kc la cu len cs sz ss ts ps ks ds kf ((m_X5_follows tb (xs (nI (i + 1)).toNatClampNeg) (xs (nI (i + 2)).toNatClampNeg)).2) len cu my pu mi ms lam kc sh mf tx rd pl kd sn kn lt rw rk zs tb mn it ((fun _ => i64 (m_X4_follows (xs (nI (i + 1)).toNatClampNeg) (xs (nI (i + 2)).toNatClampNeg)))))) [0, 1, 2, 3, 4, 5, 6, 7, 8, 9, 23, 10, 11, 12, 13, 14, 15, 16, 17, 18, 19, 24, 20, 21, 22] rfl
    have hD := hD2.sub (ws' := (WS d cA cP cL kc la cu len cs sz ss ts ps ks ds kf ((m_X5_follows tb (xs (nI (i + 1)).toNatClampNeg) (xs (nI (i + 2)).toNatClampNeg)).2) len cu my pu mi ms lam kc sh mf tx rd pl kd sn kn lt rw rk zs tb mn it ((fun _ => i64 (m_X4_follows (xs (nI (i + 1)).toNatClampNeg) (xs (nI (i + 2)).toNatClampNeg)))))) [0, 1, 2, 3, 4, 5, 6, 7, 8, 9, 23, 10, 11, 12, 13, 14, 15, 16, 17, 18, 19, 24, 20, 21, 22] (by decide) rfl
    clear hFc2 hlo2
    have hbs := Nat.le_trans hbs hsz2
    have hKE := hKE.kept hk2
    have hLA := hLA.kept hk2
    rw [follows_in htb hk9.1 hk9.2] at hP hD ⊢
    refine lv_istore hx hb dL_law_214 hl (by decide) rfl (fun ls hl => ?_)
    have hl := lv_sub (l' := [(0, .ref b), (1, .ref (d 0)), (2, .ref (d 10)), (3, .ref (d 24)), (4, .int (nI i)), (5, .int 0), (6, .int (bI (m_X4_follows (xs (nI (i + 1)).toNatClampNeg) (xs (nI (i + 2)).toNatClampNeg))))]) hl [1, 2, 3, 4, 5, 6, 0] rfl
    refine lv_aload_n hx hb dL_law_216 rfl (lv_at hl 2 rfl) ?_
    refine rd_callV (As := []) (rest := []) ⟨hx, hb, hml, hown, hts⟩ (hE.rd hS) (c_X5_thrown l dC dI (d 10) (d 11) len cu (d 12) (d 13) (d 14) my pu mi ms (d 15) (d 16) (d 17) lam kc sh mf (d 18) (d 19) (d 20) (d 21) (d 22) (d 23) 0) (cwV 0 hts gL_law_X5_thrown rfl rfl rfl (by decide +kernel) ⟨Nat.le_of_ble_eq_true rfl, Nat.le_of_ble_eq_true rfl⟩) (hP.sub [10] rfl) (hK.sub [] rfl) (va_recv hK hP (ci := 6) (q0 := 10) rfl rfl) rfl hl.1 rfl (Nat.le_of_ble_eq_true rfl) dL_law_217 ⟨by omega, by omega⟩ (fun r3 hr3 => ?_)
    subst hr3
    refine lv_iload hx hb dL_law_220 (lv_at hl 5 rfl) ?_
    refine lv_icmp_eq (tgt := 227) hx hb dL_law_222 (by decide) (fun _ => ?_) (fun c9 => absurd rfl c9)
    refine lv_iload hx hb dL_law_227 (lv_at hl 5 rfl) ?_
    have hl9 := lv_sub (l' := [(0, .ref b), (1, .ref (d 0)), (2, .ref (d 10)), (3, .ref (d 24)), (4, .int (nI i))]) hl [0, 1, 2, 3, 4] rfl
    refine lv_if_ne (tgt := 251) hx hb dL_law_229 (by decide) (fun c9 => absurd rfl c9) (fun _ => ?_)
    refine lv_aload_n hx hb dL_law_232 rfl (lv_at hl 3 rfl) ?_
    refine lv_iconst (v := 0) hx hb dL_law_233 (by decide) ?_
    refine va_lald hx hb hK hP 24 2 rfl rfl (i := 0) (vp_in_nI (n := 0) (N := 1) (by decide) (by decide)) dL_law_234 ?_
    refine lv_iload hx hb dL_law_235 (lv_at hl 6 rfl) ?_
    refine W.widen (k := cells + 7) (n := slots + 413) (by omega) (by omega) ?_
    have fin : ∀ v : Int64, v = i64 (m_X4_follows (xs (nI (i + 1)).toNatClampNeg) (xs (nI (i + 2)).toNatClampNeg)) → W p l e room_1 s m #[Value.ref b] below meth c H2 locs2 (cells + 7) (slots + 413) Q (F0 m 245 ls [.long v, .long (i64 (m_X4_follows (xs (nI (i + 1)).toNatClampNeg) (xs (nI (i + 2)).toNatClampNeg)))]) := by
      intro v hv
      subst hv
      refine W.lcmp hx hb dL_law_245 ?_
      refine lv_if_eq (tgt := 251) hx hb dL_law_246 (by decide) (fun _ => ?_) (fun c9 => absurd (lcmp_self _) c9)
      refine lv_goto (tgt := 354) hx hb dL_law_251 (by decide) ?_
      refine W.widen (k := cells + 7) (n := slots + 413) (by omega) (by omega) ?_
      exact kk _ _ _ ⟨kc, la, cu, len, cs, sz, ss, ts, ps, ks, ds, kf, 0, my, pu, mi, ms, lam, sh, mf, tx, rd, pl, kd, sn, kn, lt, rw, rk, zs, tb, mn, it, (fun _ => i64 (m_X4_follows (xs (nI (i + 1)).toNatClampNeg) (xs (nI (i + 2)).toNatClampNeg))), hP, hD, hS, hbs, ⟨hlen, hkc, hTX, hm1, hm2, htb⟩, hKE, hLA⟩ hl9
    refine lv_if_eq (tgt := 244) hx hb dL_law_237 (by decide) (fun c9 => ?_) (fun c9 => ?_)
    · have c9 := bI_0 c9
      refine lv_lconst (v := 0) hx hb dL_law_244 rfl ?_
      exact fin 0 (by rw [c9]; rfl)
    · have c9 := bI_n0 c9
      refine lv_lconst (v := 1) hx hb dL_law_240 rfl ?_
      refine lv_goto (tgt := 245) hx hb dL_law_241 (by decide) ?_
      exact fin 1 (by revert c9; cases m_X4_follows (xs (nI (i + 1)).toNatClampNeg) (xs (nI (i + 2)).toNatClampNeg) <;> simp [i64])
  · skip
    refine lv_aload_n hx hb dL_law_179 rfl (lv_at hl 1 rfl) ?_
    refine lv_aload_n hx hb dL_law_180 rfl (lv_at hl 0 rfl) ?_
    refine lv_iload hx hb dL_law_181 (lv_at hl 4 rfl) ?_
    refine lv_iconst (v := nI 1) hx hb dL_law_183 (by decide) ?_
    refine rd_iadd hx hb i 1 dL_law_184 ?_
    refine va_sld hx hb hX hbl hbA hS (vp_in_nI (by omega) (by omega)) dL_law_185 ?_
    refine lv_aload_n hx hb dL_law_186 rfl (lv_at hl 0 rfl) ?_
    refine lv_iload hx hb dL_law_187 (lv_at hl 4 rfl) ?_
    refine lv_iconst (v := nI 2) hx hb dL_law_189 (by decide) ?_
    refine rd_iadd hx hb i 2 dL_law_190 ?_
    refine va_sld hx hb hX hbl hbA hS (vp_in_nI (by omega) (by omega)) dL_law_191 ?_
    refine lv_aload_n hx hb dL_law_192 rfl (lv_at hl 3 rfl) ?_
    have hlo1 : lo base (WS d cA cP cL kc la cu len cs sz ss ts ps ks ds kf th len cu my pu mi ms lam kc sh mf tx rd pl kd sn kn lt rw rk zs tb mn it f) := lo_of (d := d) rfl hd
    have hFc1 := va_free (wc := pk (WS d cA cP cL kc la cu len cs sz ss ts ps ks ds kf th len cu my pu mi ms lam kc sh mf tx rd pl kd sn kn lt rw rk zs tb mn it f) [0, 24]) hD hS hA [0, 24] rfl
    have hpre1 := fun (av : List Value) => wr_pre (av := av) hE hS hFc1 (hP.sub (ws' := pk (WS d cA cP cL kc la cu len cs sz ss ts ps ks ds kf th len cu my pu mi ms lam kc sh mf tx rd pl kd sn kn lt rw rk zs tb mn it f) [0, 24]) [0, 24] rfl) (hK.sub (tys' := [(cL, .long)]) [2] rfl) (hD.sub (ws' := pk (WS d cA cP cL kc la cu len cs sz ss ts ps ks ds kf th len cu my pu mi ms lam kc sh mf tx rd pl kd sn kn lt rw rk zs tb mn it f) [0, 24]) [0, 24] (by decide) rfl)
    refine wl_goI (base := base) (wr := pk (WS d cA cP cL kc la cu len cs sz ss ts ps ks ds kf th len cu my pu mi ms lam kc sh mf tx rd pl kd sn kn lt rw rk zs tb mn it f) [1, 2, 3, 4, 5, 6, 7, 8, 9, 10, 11, 12, 13, 14, 15, 16, 17, 18, 19, 20, 21, 22, 23]) (va_runSW (n := 4) (As := [.ref (d 0), .int (xs (nI (i + 1)).toNatClampNeg), .int (xs (nI (i + 2)).toNatClampNeg), .ref (d 24)]) (rest := []) ⟨hx, hb, hml, hown, hts⟩ (c_L_follows_b l hlt dC dI la (d 0) (d 1) (d 3) (d 9) kc cu (xs (nI (i + 1)).toNatClampNeg) (xs (nI (i + 2)).toNatClampNeg) (d 24) cL f H.size hk9) rfl rfl (Nat.le_of_ble_eq_true rfl) (Nat.le_of_ble_eq_true rfl) hgw (List.mem_append_left _ List.mem_cons_self) (hts (.codeWith yL_follows cL_follows 5 (some .int) [(0, 17, 20, 13)]) lfC_in) (hts (.methodLink RL 42 yL_follows) lfL_in) (hts (.static yL_follows) lfS_in) (hts (.initialized RL) lfI_in) (by decide) (by decide +kernel) ⟨fun a9 U g mk q => ⟨q.1, (wr_blind (av := [.ref (d 0), .int (xs (nI (i + 1)).toNatClampNeg), .int (xs (nI (i + 2)).toNatClampNeg), .ref (d 24)]) a9 U g mk ⟨q.1, q.2.1⟩).2, q.2.2.calls⟩, fun U hU hW => ⟨rfl, (hpre1 [.ref (d 0), .int (xs (nI (i + 1)).toNatClampNeg), .int (xs (nI (i + 2)).toNatClampNeg), .ref (d 24)] U hU hW).2, by rw [hU]; exact ((hTH.kept hS.2.1).narrow (fun _ h => h.elim)).warm hW⟩⟩ rfl rfl hl.1 rfl (lv_room (Nat.le_of_ble_eq_true rfl)) dL_law_193 ⟨by omega, by omega⟩) hP hD hS hFc1 [0, 24] [1, 2, 3, 4, 5, 6, 7, 8, 9, 10, 11, 12, 13, 14, 15, 16, 17, 18, 19, 20, 21, 22, 23] rfl rfl (by decide) (by decide) hlo1 (fun r1 u1 H1 locs1 hw1 hP1 hD1 hS hDn1 hsz1 hk1 => ?_)
    subst hw1
    have hP := hP1.sub (ws' := (WS d cA cP cL kc la cu len cs sz ss ts ps ks ds kf th len cu my pu mi ms lam kc sh mf tx rd pl kd sn kn lt rw rk zs tb mn it f)) [23, 0, 1, 2, 3, 4, 5, 6, 7, 8, 9, 10, 11, 12, 13, 14, 15, 16, 17, 18, 19, 20, 21, 22, 24] rfl
    have hD := hD1.sub (ws' := (WS d cA cP cL kc la cu len cs sz ss ts ps ks ds kf th len cu my pu mi ms lam kc sh mf tx rd pl kd sn kn lt rw rk zs tb mn it f)) [23, 0, 1, 2, 3, 4, 5, 6, 7, 8, 9, 10, 11, 12, 13, 14, 15, 16, 17, 18, 19, 20, 21, 22, 24] (by decide) rfl
    clear hFc1 hlo1
    have hbs := Nat.le_trans hbs hsz1
    have hKE := hKE.kept hk1
    have hLA := hLA.kept hk1
    refine lv_istore hx hb dL_law_196 hl (by decide) rfl (fun ls hl => ?_)
    have hl := lv_sub (l' := [(0, .ref b), (1, .ref (d 0)), (2, .ref (d 10)), (3, .ref (d 24)), (4, .int (nI i)), (5, .int 1)]) hl [1, 2, 3, 4, 5, 0] rfl
    refine lv_aload_n hx hb dL_law_198 rfl (lv_at hl 2 rfl) ?_
    refine lv_aload_n hx hb dL_law_199 rfl (lv_at hl 0 rfl) ?_
    refine lv_iload hx hb dL_law_200 (lv_at hl 4 rfl) ?_
    refine lv_iconst (v := nI 1) hx hb dL_law_202 (by decide) ?_
    refine rd_iadd hx hb i 1 dL_law_203 ?_
    refine va_sld hx hb hX hbl hbA hS (vp_in_nI (by omega) (by omega)) dL_law_204 ?_
    refine lv_aload_n hx hb dL_law_205 rfl (lv_at hl 0 rfl) ?_
    refine lv_iload hx hb dL_law_206 (lv_at hl 4 rfl) ?_
    refine lv_iconst (v := nI 2) hx hb dL_law_208 (by decide) ?_
    refine rd_iadd hx hb i 2 dL_law_209 ?_
    refine va_sld hx hb hX hbl hbA hS (vp_in_nI (by omega) (by omega)) dL_law_210 ?_
    have hlo2 : lo base (WS d cA cP cL kc la cu len cs sz ss ts ps ks ds kf th len cu my pu mi ms lam kc sh mf tx rd pl kd sn kn lt rw rk zs tb mn it f) := lo_of (d := d) rfl hd
    have hFc2 := va_free (wc := pk (WS d cA cP cL kc la cu len cs sz ss ts ps ks ds kf th len cu my pu mi ms lam kc sh mf tx rd pl kd sn kn lt rw rk zs tb mn it f) [10, 21]) hD hS hA [10, 21] rfl
    refine wl_goI (base := base) (wr := pk (WS d cA cP cL kc la cu len cs sz ss ts ps ks ds kf th len cu my pu mi ms lam kc sh mf tx rd pl kd sn kn lt rw rk zs tb mn it f) [0, 1, 2, 3, 4, 5, 6, 7, 8, 9, 11, 12, 13, 14, 15, 16, 17, 18, 19, 20, 22, 23, 24]) (va_runV (As := [.int (xs (nI (i + 1)).toNatClampNeg), .int (xs (nI (i + 2)).toNatClampNeg)]) (rest := []) ⟨hx, hb, hml, hown, hts⟩ (c_X5_follows l dC dI (d 10) th (d 11) len cu (d 12) (d 13) (d 14) my pu mi ms (d 15) (d 16) (d 17) lam kc sh mf (d 18) (d 19) (d 20) (d 21) (d 22) (d 23) cA tb (xs (nI (i + 1)).toNatClampNeg) (xs (nI (i + 2)).toNatClampNeg) H1.size) (cwV 2 hts gL_law_X5_follows rfl rfl rfl (by decide +kernel) ⟨Nat.le_of_ble_eq_true rfl, Nat.le_of_ble_eq_true rfl⟩) ⟨wr_blind, va_recv hK hP (ci := 6) (q0 := 10) rfl rfl, (wr_pre hE hS hFc2 (hP.sub (ws' := pk (WS d cA cP cL kc la cu len cs sz ss ts ps ks ds kf th len cu my pu mi ms lam kc sh mf tx rd pl kd sn kn lt rw rk zs tb mn it f) [10, 21]) [10, 21] rfl) (hK.sub (tys' := [(cA, .int)]) [0] rfl) (hD.sub (ws' := pk (WS d cA cP cL kc la cu len cs sz ss ts ps ks ds kf th len cu my pu mi ms lam kc sh mf tx rd pl kd sn kn lt rw rk zs tb mn it f) [10, 21]) [10, 21] (by decide) rfl))⟩ rfl rfl hl.1 rfl (lv_room (Nat.le_of_ble_eq_true rfl)) dL_law_211 ⟨by omega, by omega⟩) hP hD hS hFc2 [10, 21] [0, 1, 2, 3, 4, 5, 6, 7, 8, 9, 11, 12, 13, 14, 15, 16, 17, 18, 19, 20, 22, 23, 24] rfl rfl (by decide) (by decide) hlo2 (fun r2 u2 H2 locs2 hw2 hP2 hD2 hS hDn2 hsz2 hk2 => ?_)
    subst hw2
    have hP := hP2.sub (ws' := (WS d cA cP cL kc la cu len cs sz ss ts ps ks ds kf ((m_X5_follows tb (xs (nI (i + 1)).toNatClampNeg) (xs (nI (i + 2)).toNatClampNeg)).2) len cu my pu mi ms lam kc sh mf tx rd pl kd sn kn lt rw rk zs tb mn it f)) [0, 1, 2, 3, 4, 5, 6, 7, 8, 9, 23, 10, 11, 12, 13, 14, 15, 16, 17, 18, 19, 24, 20, 21, 22] rfl
    have hD := hD2.sub (ws' := (WS d cA cP cL kc la cu len cs sz ss ts ps ks ds kf ((m_X5_follows tb (xs (nI (i + 1)).toNatClampNeg) (xs (nI (i + 2)).toNatClampNeg)).2) len cu my pu mi ms lam kc sh mf tx rd pl kd sn kn lt rw rk zs tb mn it f)) [0, 1, 2, 3, 4, 5, 6, 7, 8, 9, 23, 10, 11, 12, 13, 14, 15, 16, 17, 18, 19, 24, 20, 21, 22] (by decide) rfl
    clear hFc2 hlo2
    have hbs := Nat.le_trans hbs hsz2
    have hKE := hKE.kept hk2
    have hLA := hLA.kept hk2
    rw [follows_out (tb := tb) hk9] at hP hD ⊢
    refine lv_istore hx hb dL_law_214 hl (by decide) rfl (fun ls hl => ?_)
    have hl := lv_sub (l' := [(0, .ref b), (1, .ref (d 0)), (2, .ref (d 10)), (3, .ref (d 24)), (4, .int (nI i)), (5, .int 1), (6, .int (bI false))]) hl [1, 2, 3, 4, 5, 6, 0] rfl
    refine lv_aload_n hx hb dL_law_216 rfl (lv_at hl 2 rfl) ?_
    refine rd_callV (As := []) (rest := []) ⟨hx, hb, hml, hown, hts⟩ (hE.rd hS) (c_X5_thrown l dC dI (d 10) (d 11) len cu (d 12) (d 13) (d 14) my pu mi ms (d 15) (d 16) (d 17) lam kc sh mf (d 18) (d 19) (d 20) (d 21) (d 22) (d 23) 1) (cwV 0 hts gL_law_X5_thrown rfl rfl rfl (by decide +kernel) ⟨Nat.le_of_ble_eq_true rfl, Nat.le_of_ble_eq_true rfl⟩) (hP.sub [10] rfl) (hK.sub [] rfl) (va_recv hK hP (ci := 6) (q0 := 10) rfl rfl) rfl hl.1 rfl (Nat.le_of_ble_eq_true rfl) dL_law_217 ⟨by omega, by omega⟩ (fun r3 hr3 => ?_)
    subst hr3
    refine lv_iload hx hb dL_law_220 (lv_at hl 5 rfl) ?_
    refine lv_icmp_eq (tgt := 227) hx hb dL_law_222 (by decide) (fun _ => ?_) (fun c9 => absurd rfl c9)
    refine lv_iload hx hb dL_law_227 (lv_at hl 5 rfl) ?_
    have hl9 := lv_sub (l' := [(0, .ref b), (1, .ref (d 0)), (2, .ref (d 10)), (3, .ref (d 24)), (4, .int (nI i))]) hl [0, 1, 2, 3, 4] rfl
    refine lv_if_ne (tgt := 251) hx hb dL_law_229 (by decide) (fun _ => ?_) (fun c9 => absurd c9 (by decide))
    refine lv_goto (tgt := 354) hx hb dL_law_251 (by decide) ?_
    refine W.widen (k := cells + 7) (n := slots + 413) (by omega) (by omega) ?_
    exact kk _ _ _ ⟨kc, la, cu, len, cs, sz, ss, ts, ps, ks, ds, kf, 1, my, pu, mi, ms, lam, sh, mf, tx, rd, pl, kd, sn, kn, lt, rw, rk, zs, tb, mn, it, f, hP, hD, hS, hbs, ⟨hlen, hkc, hTX, hm1, hm2, htb⟩, hKE, hLA⟩ hl9
