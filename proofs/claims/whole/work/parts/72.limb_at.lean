set_option maxHeartbeats 4000000 in
set_option maxRecDepth 100000 in
theorem limb_at {p : Program} {e : Env} {s : State} {m : MethodId} {below : List Frame} {meth : Method} {c : Code} {l : Launch} {b L : Nat} {xs : Nat → Int32} {Q : State → Prop} {dC : Nat → ClassId} {dI : Nat → Nat → Nat} {d : Nat → Nat} {base : Nat} {cA cP cL : ClassId} {H : Heap} {locs : List Loc} {cells slots i : Nat} {ls : Array Slot} (C : LCX p s m c b L xs dC dI cA cP cL) (hd : ∀ i, i < 25 → d i < base) (hI : INV (dC, dI) cA cP cL s d base H locs) (hl : lv_has ls 7 [(0, .ref b), (1, .ref (d 0)), (2, .ref (d 10)), (3, .ref (d 24)), (4, .int (nI i))]) (hi : i + 3 ≤ L) (hL : L ≤ 1536) (hc : cells + 7 ≤ room_1.cells) (hn : slots + 413 ≤ room_1.slots)
    (kk : ∀ (H1 : Heap) (locs1 : List Loc) (ls1 : Array Slot), INV (dC, dI) cA cP cL s d base H1 locs1 → lv_has ls1 7 [(0, .ref b), (1, .ref (d 0)), (2, .ref (d 10)), (3, .ref (d 24)), (4, .int (nI i))] → W p l e room_1 s m #[Value.ref b] below meth c H1 locs1 (cells + 7) (slots + 413) Q (F0 m 354 ls1 [])) : W p l e room_1 s m #[Value.ref b] below meth c H locs cells slots Q (F0 m 279 ls []) := by
  obtain ⟨hx, hb, hml, hown, htb0, hts, hX, hbl, hE, hTH, hK⟩ := C
  obtain ⟨kc, la, cu, len, cs, sz, ss, ts, ps, ks, ds, kf, th, my, pu, mi, ms, lam, sh, mf, tx, rd, pl, kd, sn, kn, lt, rw, rk, zs, tb, mn, it, f, hP, hD, hS, hbs, ⟨hlen, hkc, hTX, hm1, hm2, htb⟩, hKE, hLA⟩ := hI
  have hA : ∀ q : Nat, s.heap.size ≤ q → gA s q := fun _ h => h
  have hbA : ¬ gA s b := Nat.not_le.mpr hbl
  have hLA0 := hLA
  rcases hLA0 with ⟨rfl, rfl⟩ | ⟨p0, Q0, pcu, n, rfl, hpic, hRS, rfl, hn9, hRL, hsh⟩
  · skip
    refine lv_aload_n hx hb dL_law_279 rfl (lv_at hl 1 rfl) ?_
    refine lv_aload_n hx hb dL_law_280 rfl (lv_at hl 0 rfl) ?_
    refine lv_iload hx hb dL_law_281 (lv_at hl 4 rfl) ?_
    refine lv_iconst (v := nI 1) hx hb dL_law_283 (by decide) ?_
    refine rd_iadd hx hb i 1 dL_law_284 ?_
    refine va_sld hx hb hX hbl hbA hS (vp_in_nI (by omega) (by omega)) dL_law_285 ?_
    refine rd_callV (As := [.int (xs (nI (i + 1)).toNatClampNeg)]) (rest := []) ⟨hx, hb, hml, hown, hts⟩ (hE.rd hS) (c_X4_at_n l dC dI (d 0) (d 1) (d 3) (d 9) kc cu (xs (nI (i + 1)).toNatClampNeg)) (cwV 1 hts gL_law_X4_at rfl rfl rfl (by decide +kernel) ⟨Nat.le_of_ble_eq_true rfl, Nat.le_of_ble_eq_true rfl⟩) (hP.sub [0] rfl) (hK.sub [] rfl) (va_recv hK hP (ci := 5) (q0 := 0) rfl rfl) rfl hl.1 rfl (Nat.le_of_ble_eq_true rfl) dL_law_286 ⟨by omega, by omega⟩ (fun r1 hr1 => ?_)
    rw [show r1 = _ from hr1]
    refine lv_aload_n hx hb dL_law_289 rfl (lv_at hl 2 rfl) ?_
    refine lv_aload_n hx hb dL_law_290 rfl (lv_at hl 0 rfl) ?_
    refine lv_iload hx hb dL_law_291 (lv_at hl 4 rfl) ?_
    refine lv_iconst (v := nI 1) hx hb dL_law_293 (by decide) ?_
    refine rd_iadd hx hb i 1 dL_law_294 ?_
    refine va_sld hx hb hX hbl hbA hS (vp_in_nI (by omega) (by omega)) dL_law_295 ?_
    have hlo2 : lo base (WS d cA cP cL kc none cu len cs sz ss ts ps ks ds kf th len cu my pu mi ms ((-1)) kc sh mf tx rd pl kd sn kn lt rw rk zs tb mn it f) := lo_of (d := d) rfl hd
    have hFc2 := va_free (wc := pk (WS d cA cP cL kc none cu len cs sz ss ts ps ks ds kf th len cu my pu mi ms ((-1)) kc sh mf tx rd pl kd sn kn lt rw rk zs tb mn it f) [10]) hD hS hA [10] rfl
    refine wl_goI (base := base) (wr := pk (WS d cA cP cL kc none cu len cs sz ss ts ps ks ds kf th len cu my pu mi ms ((-1)) kc sh mf tx rd pl kd sn kn lt rw rk zs tb mn it f) [0, 1, 2, 3, 4, 5, 6, 7, 8, 9, 11, 12, 13, 14, 15, 16, 17, 18, 19, 20, 21, 22, 23, 24]) (va_runV (As := [.int (xs (nI (i + 1)).toNatClampNeg)]) (rest := [.int (m_X4_at_n (xs (nI (i + 1)).toNatClampNeg))]) ⟨hx, hb, hml, hown, hts⟩ (c_X5_at_n l dC dI (d 10) th (d 11) len cu (d 12) (d 13) (d 14) my pu mi ms (d 15) (d 16) (d 17) kc sh mf (d 18) (d 19) (d 20) (d 21) (d 22) (d 23) (xs (nI (i + 1)).toNatClampNeg) H.size) (cwV 1 hts gL_law_X5_at rfl rfl rfl (by decide +kernel) ⟨Nat.le_of_ble_eq_true rfl, Nat.le_of_ble_eq_true rfl⟩) ⟨wr_blind, va_recv hK hP (ci := 6) (q0 := 10) rfl rfl, (wr_pre hE hS hFc2 (hP.sub (ws' := pk (WS d cA cP cL kc none cu len cs sz ss ts ps ks ds kf th len cu my pu mi ms ((-1)) kc sh mf tx rd pl kd sn kn lt rw rk zs tb mn it f) [10]) [10] rfl) (hK.sub (tys' := []) [] rfl) (hD.sub (ws' := pk (WS d cA cP cL kc none cu len cs sz ss ts ps ks ds kf th len cu my pu mi ms ((-1)) kc sh mf tx rd pl kd sn kn lt rw rk zs tb mn it f) [10]) [10] (by decide) rfl))⟩ rfl rfl hl.1 rfl (lv_room (Nat.le_of_ble_eq_true rfl)) dL_law_296 ⟨by omega, by omega⟩) hP hD hS hFc2 [10] [0, 1, 2, 3, 4, 5, 6, 7, 8, 9, 11, 12, 13, 14, 15, 16, 17, 18, 19, 20, 21, 22, 23, 24] rfl rfl (by decide) (by decide) hlo2 (fun r2 u2 H2 locs2 hw2 hP2 hD2 hS hDn2 hsz2 hk2 => ?_)
    subst hw2
    have hP := hP2.sub (ws' := (WS d cA cP cL kc none cu len cs sz ss ts ps ks ds kf 0 len cu my pu mi ms ((-1)) kc sh mf tx rd pl kd sn kn lt rw rk zs tb mn it f)) [0, 1, 2, 3, 4, 5, 6, 7, 8, 9, 24, 10, 11, 12, 13, 14, 15, 16, 17, 18, 19, 20, 21, 22, 23] rfl
    have hD := hD2.sub (ws' := (WS d cA cP cL kc none cu len cs sz ss ts ps ks ds kf 0 len cu my pu mi ms ((-1)) kc sh mf tx rd pl kd sn kn lt rw rk zs tb mn it f)) [0, 1, 2, 3, 4, 5, 6, 7, 8, 9, 24, 10, 11, 12, 13, 14, 15, 16, 17, 18, 19, 20, 21, 22, 23] (by decide) rfl
    clear hFc2 hlo2
    have hbs := Nat.le_trans hbs hsz2
    have hKE := hKE.kept hk2
    have hLA := hLA.kept hk2
    refine lv_icmp_eq (tgt := 354) hx hb dL_law_299 (by decide) (fun _ => ?_) (fun c9 => absurd (rfl) c9)
    refine W.widen (k := cells + 7) (n := slots + 413) (by omega) (by omega) ?_
    exact kk _ _ _ ⟨kc, none, cu, len, cs, sz, ss, ts, ps, ks, ds, kf, 0, my, pu, mi, ms, (-1), sh, mf, tx, rd, pl, kd, sn, kn, lt, rw, rk, zs, tb, mn, it, f, hP, hD, hS, hbs, ⟨hlen, hkc, hTX, hm1, hm2, htb⟩, hKE, hLA⟩ hl
  · skip
    obtain ⟨hG, p1, p2, p3, p4, p5, p6, sc, cat, da, db, scl, vs, vt, vk, es, et, ez, hPp, hhp, hCP, hEF, s1, t1, q1, k1, d1, hCQ, hcat, hda, hdb, hscl⟩ := id hpic
    refine lv_aload_n hx hb dL_law_279 rfl (lv_at hl 1 rfl) ?_
    refine lv_aload_n hx hb dL_law_280 rfl (lv_at hl 0 rfl) ?_
    refine lv_iload hx hb dL_law_281 (lv_at hl 4 rfl) ?_
    refine lv_iconst (v := nI 1) hx hb dL_law_283 (by decide) ?_
    refine rd_iadd hx hb i 1 dL_law_284 ?_
    refine va_sld hx hb hX hbl hbA hS (vp_in_nI (by omega) (by omega)) dL_law_285 ?_
    refine rd_callV (As := [.int (xs (nI (i + 1)).toNatClampNeg)]) (rest := []) ⟨hx, hb, hml, hown, hts⟩ (hE.rd hS) (c_X4_at l dC dI (d 0) (d 1) (d 3) (d 9) p0 p1 p2 p3 p4 kc cu sc cat da db scl cA vs vt Q0.length pcu (xs (nI (i + 1)).toNatClampNeg) (hG.len)) (cwV 1 hts gL_law_X4_at rfl rfl rfl (by decide +kernel) ⟨Nat.le_of_ble_eq_true rfl, Nat.le_of_ble_eq_true rfl⟩) ((hP.sub (ws' := pk (WS d cA cP cL kc ((some p0)) cu len cs sz ss ts ps ks ds kf th len cu my pu mi ms ((nI n)) kc sh mf tx rd pl kd sn kn lt rw rk zs tb mn it f) [0]) [0] rfl).app (hPp.sub (ws' := pk (WP cA Q0.length p0 p1 p2 p3 p4 p5 p6 pcu sc cat da db scl vs vt vk es et ez) [0, 1, 2]) [0, 1, 2] rfl)) (hK.sub [0] rfl) (va_recv hK hP (ci := 5) (q0 := 0) rfl rfl) rfl hl.1 rfl (Nat.le_of_ble_eq_true rfl) dL_law_286 ⟨by omega, by omega⟩ (fun r1 hr1 => ?_)
    rw [show r1 = _ from hr1]
    refine lv_aload_n hx hb dL_law_289 rfl (lv_at hl 2 rfl) ?_
    refine lv_aload_n hx hb dL_law_290 rfl (lv_at hl 0 rfl) ?_
    refine lv_iload hx hb dL_law_291 (lv_at hl 4 rfl) ?_
    refine lv_iconst (v := nI 1) hx hb dL_law_293 (by decide) ?_
    refine rd_iadd hx hb i 1 dL_law_294 ?_
    refine va_sld hx hb hX hbl hbA hS (vp_in_nI (by omega) (by omega)) dL_law_295 ?_
    have hlo2 : lo base (WS d cA cP cL kc ((some p0)) cu len cs sz ss ts ps ks ds kf th len cu my pu mi ms ((nI n)) kc sh mf tx rd pl kd sn kn lt rw rk zs tb mn it f) := lo_of (d := d) rfl hd
    have hFc2 := va_free (wc := pk (WS d cA cP cL kc ((some p0)) cu len cs sz ss ts ps ks ds kf th len cu my pu mi ms ((nI n)) kc sh mf tx rd pl kd sn kn lt rw rk zs tb mn it f) [10, 17]) hD hS hA [10, 17] rfl
    refine wl_goI (base := base) (wr := pk (WS d cA cP cL kc ((some p0)) cu len cs sz ss ts ps ks ds kf th len cu my pu mi ms ((nI n)) kc sh mf tx rd pl kd sn kn lt rw rk zs tb mn it f) [0, 1, 2, 3, 4, 5, 6, 7, 8, 9, 11, 12, 13, 14, 15, 16, 18, 19, 20, 21, 22, 23, 24]) (va_runV (As := [.int (xs (nI (i + 1)).toNatClampNeg)]) (rest := [.int (m_X4_at vs vt Q0.length pcu (xs (nI (i + 1)).toNatClampNeg))]) ⟨hx, hb, hml, hown, hts⟩ (c_X5_at l dC dI (d 10) th (d 11) len cu (d 12) (d 13) (d 14) my pu mi ms (d 15) (d 16) (d 17) n kc mf (d 18) (d 19) (d 20) (d 21) (d 22) (d 23) cA lt sh (xs (nI (i + 1)).toNatClampNeg) H.size (hn9) (hsh)) (cwV 1 hts gL_law_X5_at rfl rfl rfl (by decide +kernel) ⟨Nat.le_of_ble_eq_true rfl, Nat.le_of_ble_eq_true rfl⟩) ⟨wr_blind, va_recv hK hP (ci := 6) (q0 := 10) rfl rfl, (wr_pre hE hS hFc2 (hP.sub (ws' := pk (WS d cA cP cL kc ((some p0)) cu len cs sz ss ts ps ks ds kf th len cu my pu mi ms ((nI n)) kc sh mf tx rd pl kd sn kn lt rw rk zs tb mn it f) [10, 17]) [10, 17] rfl) (hK.sub (tys' := [(cA, .int)]) [0] rfl) (hD.sub (ws' := pk (WS d cA cP cL kc ((some p0)) cu len cs sz ss ts ps ks ds kf th len cu my pu mi ms ((nI n)) kc sh mf tx rd pl kd sn kn lt rw rk zs tb mn it f) [10, 17]) [10, 17] (by decide) rfl))⟩ rfl rfl hl.1 rfl (lv_room (Nat.le_of_ble_eq_true rfl)) dL_law_296 ⟨by omega, by omega⟩) hP hD hS hFc2 [10, 17] [0, 1, 2, 3, 4, 5, 6, 7, 8, 9, 11, 12, 13, 14, 15, 16, 18, 19, 20, 21, 22, 23, 24] rfl rfl (by decide) (by decide) hlo2 (fun r2 u2 H2 locs2 hw2 hP2 hD2 hS hDn2 hsz2 hk2 => ?_)
    subst hw2
    have hP := hP2.sub (ws' := (WS d cA cP cL kc ((some p0)) cu len cs sz ss ts ps ks ds kf 0 len cu my pu mi ms ((nI n)) kc sh mf tx rd pl kd sn kn lt rw rk zs tb mn it f)) [0, 1, 2, 3, 4, 5, 6, 7, 8, 9, 23, 10, 11, 12, 13, 14, 15, 24, 16, 17, 18, 19, 20, 21, 22] rfl
    have hD := hD2.sub (ws' := (WS d cA cP cL kc ((some p0)) cu len cs sz ss ts ps ks ds kf 0 len cu my pu mi ms ((nI n)) kc sh mf tx rd pl kd sn kn lt rw rk zs tb mn it f)) [0, 1, 2, 3, 4, 5, 6, 7, 8, 9, 23, 10, 11, 12, 13, 14, 15, 24, 16, 17, 18, 19, 20, 21, 22] (by decide) rfl
    clear hFc2 hlo2
    have hbs := Nat.le_trans hbs hsz2
    have hKE := hKE.kept hk2
    have hLA := hLA.kept hk2
    refine lv_icmp_eq (tgt := 354) hx hb dL_law_299 (by decide) (fun _ => ?_) (fun c9 => absurd (at_same hG.kok hCP hRL (by omega) _) c9)
    refine W.widen (k := cells + 7) (n := slots + 413) (by omega) (by omega) ?_
    exact kk _ _ _ ⟨kc, (some p0), cu, len, cs, sz, ss, ts, ps, ks, ds, kf, 0, my, pu, mi, ms, (nI n), sh, mf, tx, rd, pl, kd, sn, kn, lt, rw, rk, zs, tb, mn, it, f, hP, hD, hS, hbs, ⟨hlen, hkc, hTX, hm1, hm2, htb⟩, hKE, hLA⟩ hl
