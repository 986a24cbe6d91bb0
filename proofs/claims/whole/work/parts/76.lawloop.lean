/-! the law's loop and its start -/
theorem wsL_law_all : ∀ w ∈ wsL_law, w ∈ lw_tbl := by
  unfold wsL_law
  exact (List.forall_mem_append.mpr ⟨(List.forall_mem_append.mpr ⟨(List.forall_mem_append.mpr ⟨(List.forall_mem_append.mpr ⟨(List.forall_mem_append.mpr ⟨(List.forall_mem_append.mpr ⟨(List.forall_mem_append.mpr ⟨(List.forall_mem_append.mpr ⟨(List.forall_mem_append.mpr ⟨wsL_law_r1_in, (List.forall_mem_append.mpr ⟨wsL_law_r2_in, (List.forall_mem_append.mpr ⟨wsL_law_r3_in, (List.forall_mem_append.mpr ⟨wsL_law_r4_in, (List.forall_mem_append.mpr ⟨wsL_law_r5_in, (List.forall_mem_append.mpr ⟨wsL_law_r6_in, (List.forall_mem_append.mpr ⟨wsL_law_r7_in, (List.forall_mem_append.mpr ⟨wsL_law_r8_in, (List.forall_mem_append.mpr ⟨wsL_law_r9_in, (List.forall_mem_append.mpr ⟨wsL_law_r10_in, (List.forall_mem_append.mpr ⟨wsL_law_r11_in, (List.forall_mem_append.mpr ⟨wsL_law_r12_in, (List.forall_mem_append.mpr ⟨wsL_law_r13_in, (List.forall_mem_append.mpr ⟨wsL_law_r14_in, (List.forall_mem_append.mpr ⟨wsL_law_r15_in, (List.forall_mem_append.mpr ⟨wsL_law_r16_in, (List.forall_mem_append.mpr ⟨wsL_law_r17_in, (List.forall_mem_append.mpr ⟨wsL_law_r18_in, (List.forall_mem_append.mpr ⟨wsL_law_r19_in, (List.forall_mem_append.mpr ⟨wsL_law_r20_in, (List.forall_mem_append.mpr ⟨wsL_law_r21_in, (List.forall_mem_append.mpr ⟨wsL_law_r22_in, wsL_law_r23_in⟩)⟩)⟩)⟩)⟩)⟩)⟩)⟩)⟩)⟩)⟩)⟩)⟩)⟩)⟩)⟩)⟩)⟩)⟩)⟩)⟩)⟩), wsX40_in⟩), wsX50_in⟩), wsX30_in⟩), wsX20_in⟩), wsX10_in⟩), wsX00_in⟩), wsJx000600_in⟩), fun _ h => absurd h List.not_mem_nil⟩)
theorem INV.S {D : va_G} {cA cP cL : ClassId} {s : State} {d : Nat → Nat} {base : Nat} {H : Heap} {locs : List Loc} (h : INV D cA cP cL s d base H locs) : va_S (gA s) s.heap H locs := by
  obtain ⟨kc, la, cu, len, cs, sz, ss, ts, ps, ks, ds, kf, th, my, pu, mi, ms, lam, sh, mf, tx, rd, pl, kd, sn, kn, lt, rw, rk, zs, tb, mn, it, f, hP, hD, hS, -⟩ := h
  exact hS
theorem lt_of_P {D : va_G} {cl : List vw_C} {ws : va_W} {H : Heap} {d : Nat → Nat} (hP : va_P D cl ws H) (h : ws.map (·.1) = (List.range 25).map d) : ∀ i, i < 25 → d i < H.size := by
  intro i hi
  have h1 : (ws.map (·.1))[i]? = some (d i) := by rw [h, List.getElem?_map, List.getElem?_range hi]; rfl
  rw [List.getElem?_map] at h1
  cases h2 : ws[i]? with
  | none => rw [h2] at h1; cases h1
  | some q =>
    rw [h2] at h1
    have : q.1 = d i := Option.some.inj h1
    rw [← this]
    exact (hP i q h2).lt
theorem loop_in {L k : Nat} (hL : L ≤ 1536) (hk : 3 * k ≤ L + 2) (h : ¬ Int32.ofNat L - 3 < nI (3 * k)) : 3 * k + 3 ≤ L := by
  rcases Nat.lt_or_ge L (3 * k + 3) with q | q
  · exfalso
    apply h
    rcases Nat.lt_or_ge L 3 with r | r
    · have hk2 : k < 2 := by omega
      have : ∀ L, L < 3 → ∀ k, k < 2 → Int32.ofNat L - 3 < nI (3 * k) := by decide +kernel
      exact this L r k hk2
    · have e : Int32.ofNat L - 3 = nI (L - 3) := pk_sub r
      rw [e]
      exact nI_lt (by omega) (by omega)
  · exact q
section SWT
variable {p : Program} {l : Launch} {e : Env} {R : Room} {s : State} {m : MethodId} {args : Array Value} {below : List Frame} {meth : Method} {c : Code} {H : Heap} {locs : List Loc} {cells slots : Nat} {Q : State → Prop} {ls : Array Slot}
theorem sw_law (hx : p.tables.exec = Jvm.exec) (hb : c.code = cL_law) (x : Int32)
    (k0 : x = 0 → W p l e R s m args below meth c H locs cells slots Q (F0 m 92 ls []))
    (k1 : x = 1 → W p l e R s m args below meth c H locs cells slots Q (F0 m 115 ls []))
    (k2 : x = 2 → W p l e R s m args below meth c H locs cells slots Q (F0 m 128 ls []))
    (k3 : x = 3 → W p l e R s m args below meth c H locs cells slots Q (F0 m 141 ls []))
    (k4 : x = 4 → W p l e R s m args below meth c H locs cells slots Q (F0 m 166 ls []))
    (k5 : x = 5 → W p l e R s m args below meth c H locs cells slots Q (F0 m 179 ls []))
    (k6 : x = 6 → W p l e R s m args below meth c H locs cells slots Q (F0 m 254 ls []))
    (k7 : x = 7 → W p l e R s m args below meth c H locs cells slots Q (F0 m 279 ls []))
    (k8 : x = 8 → W p l e R s m args below meth c H locs cells slots Q (F0 m 304 ls []))
    (k9 : x = 9 → W p l e R s m args below meth c H locs cells slots Q (F0 m 329 ls []))
    (kd : W p l e R s m args below meth c H locs cells slots Q (F0 m 354 ls [])) : W p l e R s m args below meth c H locs cells slots Q (F0 m 39 ls [.int x]) := by
  by_cases h0 : x = 0
  · subst h0
    exact lv_tableIn (tgt := 92) hx hb dL_law_39 (by decide) (by decide) rfl (by decide) (k0 rfl)
  by_cases h1 : x = 1
  · subst h1
    exact lv_tableIn (tgt := 115) hx hb dL_law_39 (by decide) (by decide) rfl (by decide) (k1 rfl)
  by_cases h2 : x = 2
  · subst h2
    exact lv_tableIn (tgt := 128) hx hb dL_law_39 (by decide) (by decide) rfl (by decide) (k2 rfl)
  by_cases h3 : x = 3
  · subst h3
    exact lv_tableIn (tgt := 141) hx hb dL_law_39 (by decide) (by decide) rfl (by decide) (k3 rfl)
  by_cases h4 : x = 4
  · subst h4
    exact lv_tableIn (tgt := 166) hx hb dL_law_39 (by decide) (by decide) rfl (by decide) (k4 rfl)
  by_cases h5 : x = 5
  · subst h5
    exact lv_tableIn (tgt := 179) hx hb dL_law_39 (by decide) (by decide) rfl (by decide) (k5 rfl)
  by_cases h6 : x = 6
  · subst h6
    exact lv_tableIn (tgt := 254) hx hb dL_law_39 (by decide) (by decide) rfl (by decide) (k6 rfl)
  by_cases h7 : x = 7
  · subst h7
    exact lv_tableIn (tgt := 279) hx hb dL_law_39 (by decide) (by decide) rfl (by decide) (k7 rfl)
  by_cases h8 : x = 8
  · subst h8
    exact lv_tableIn (tgt := 304) hx hb dL_law_39 (by decide) (by decide) rfl (by decide) (k8 rfl)
  by_cases h9 : x = 9
  · subst h9
    exact lv_tableIn (tgt := 329) hx hb dL_law_39 (by decide) (by decide) rfl (by decide) (k9 rfl)
  refine lv_tableOut (tgt := 354) hx hb dL_law_39 ?_ (by decide) kd
  rcases Int.lt_or_le x.toInt 0 with q | q
  · exact Or.inl q
  rcases Int.lt_or_le 9 x.toInt with r | r
  · exact Or.inr r
  exfalso
  have e : ∀ k : Int32, x.toInt = k.toInt → x = k := fun k h => Int32.toInt_inj.mp h
  have n0 : x.toInt ≠ 0 := fun h => h0 (e 0 (by rw [h]; decide))
  have n1 : x.toInt ≠ 1 := fun h => h1 (e 1 (by rw [h]; decide))
  have n2 : x.toInt ≠ 2 := fun h => h2 (e 2 (by rw [h]; decide))
  have n3 : x.toInt ≠ 3 := fun h => h3 (e 3 (by rw [h]; decide))
  have n4 : x.toInt ≠ 4 := fun h => h4 (e 4 (by rw [h]; decide))
  have n5 : x.toInt ≠ 5 := fun h => h5 (e 5 (by rw [h]; decide))
  have n6 : x.toInt ≠ 6 := fun h => h6 (e 6 (by rw [h]; decide))
  have n7 : x.toInt ≠ 7 := fun h => h7 (e 7 (by rw [h]; decide))
  have n8 : x.toInt ≠ 8 := fun h => h8 (e 8 (by rw [h]; decide))
  have n9 : x.toInt ≠ 9 := fun h => h9 (e 9 (by rw [h]; decide))
  omega
end SWT
set_option maxHeartbeats 4000000 in
set_option maxRecDepth 100000 in
/-- THE LAW'S LOOP -/
theorem law_loop {p : Program} {e : Env} {s : State} {m : MethodId} {below : List Frame} {meth : Method} {c : Code} {l : Launch} {b L : Nat} {xs : Nat → Int32} {dC : Nat → ClassId} {dI : Nat → Nat → Nat} {d : Nat → Nat} {base : Nat} {cA cP cL : ClassId} (hlt : l.stackTraces = false) (C : LCX p s m c b L xs dC dI cA cP cL) (hd : ∀ i, i < 25 → d i < base) (hr : meth.sig.returnType = ret) (hlocks : meth.locks = false) (hL : L ≤ 1536) :
    ∀ (n k : Nat) (H : Heap) (locs : List Loc) (ls : Array Slot), 3 * k ≤ L + 2 → L + 3 ≤ 3 * k + 3 * n → INV (dC, dI) cA cP cL s d base H locs → lv_has ls 7 [(0, .ref b), (1, .ref (d 0)), (2, .ref (d 10)), (3, .ref (d 24)), (4, .int (nI (3 * k)))] → W p l e room_1 s m #[Value.ref b] below meth c H locs (25 + 7 * k) (898298 + 413 * k) (lw_Z below #[Value.ref b] s) (F0 m 23 ls []) := by
  intro n
  induction n with
  | zero =>
    intro k H locs ls h1 h2
    exact absurd h2 (by omega)
  | succ n ih =>
    intro k H locs ls h1 h2 hI hl
    obtain ⟨hx, hb, hml, hown, htb0, hts, hX, hbl, hE, hTH, hK⟩ := id C
    have hS := hI.S
    have hbA : ¬ gA s b := Nat.not_le.mpr hbl
    refine lv_iload hx hb dL_law_23 (lv_at hl 4 rfl) ?_
    refine lv_aload_n hx hb dL_law_25 rfl (lv_at hl 0 rfl) ?_
    refine va_slen hx hb hX hbl hbA hS dL_law_26 ?_
    refine lv_iconst (v := 3) hx hb dL_law_27 (by decide) ?_
    refine lv_isub hx hb dL_law_28 ?_
    refine lv_icmp_gt (tgt := 360) hx hb dL_law_29 (by decide) (fun c9 => ?_) (fun c9 => ?_)
    · refine lv_iconst (v := 1) hx hb dL_law_360 (by decide) ?_
      refine va_forget (fun q hq => hS.2.2 q hq) ?_
      refine W.widen (k := 601024) (n := 7293034) (by omega) (by omega) ?_
      exact lw_ret hx hb hr hlocks dL_law_361
    · have hi : 3 * k + 3 ≤ L := loop_in hL h1 c9
      refine lv_aload_n hx hb dL_law_32 rfl (lv_at hl 0 rfl) ?_
      refine lv_iload hx hb dL_law_33 (lv_at hl 4 rfl) ?_
      refine va_sld hx hb hX hbl hbA hS (vp_in_nI (by omega) (by omega)) dL_law_35 ?_
      refine lv_bipush (v := 15) hx hb dL_law_36 (by decide) ?_
      refine lv_iand hx hb dL_law_38 ?_
      have hc : 25 + 7 * k + 7 ≤ room_1.cells := by show 25 + 7 * k + 7 ≤ 601024; omega
      have hn : 898298 + 413 * k + 413 ≤ room_1.slots := by show 898298 + 413 * k + 413 ≤ 7293034; omega
      have kk : ∀ (H1 : Heap) (locs1 : List Loc) (ls1 : Array Slot), INV (dC, dI) cA cP cL s d base H1 locs1 → lv_has ls1 7 [(0, .ref b), (1, .ref (d 0)), (2, .ref (d 10)), (3, .ref (d 24)), (4, .int (nI (3 * k)))] → W p l e room_1 s m #[Value.ref b] below meth c H1 locs1 (25 + 7 * k + 7) (898298 + 413 * k + 413) (lw_Z below #[Value.ref b] s) (F0 m 354 ls1 []) := by
        intro H1 locs1 ls1 hI1 hl1
        refine lv_iinc (v := nI (3 * (k + 1))) hx hb dL_law_354 hl1 (k := 4) rfl (by rw [show 3 * (k + 1) = 3 * k + 3 from by omega]; exact nI_add (3 * k) 3) (by decide) rfl (fun ls2 hl2 => ?_)
        refine lv_goto (tgt := 23) hx hb dL_law_357 (by decide) ?_
        exact ih (k + 1) H1 locs1 ls2 (by omega) (by omega) hI1 (lv_sub hl2 [1, 2, 3, 4, 0] rfl)
      refine sw_law hx hb _ (fun _ => ?_) (fun _ => ?_) (fun _ => ?_) (fun _ => ?_) (fun _ => ?_) (fun _ => ?_) (fun _ => ?_) (fun _ => ?_) (fun _ => ?_) (fun _ => ?_) ?_
      · exact limb_sign C hd hI hl hi hL hc hn kk
      · exact limb_read C hd hI hl hi hL hc hn kk
      · exact limb_category C hd hI hl hi hL hc hn kk
      · exact limb_digits C hd hI hl hi hL hc hn kk
      · exact limb_scale C hd hI hl hi hL hc hn kk
      · exact limb_follows hlt C hd hI hl hi hL hc hn kk
      · exact limb_currency C hd hI hl hi hL hc hn kk
      · exact limb_at C hd hI hl hi hL hc hn kk
      · exact limb_same C hd hI hl hi hL hc hn kk
      · exact limb_insertion C hd hI hl hi hL hc hn kk
      · exact W.widen (by omega) (by omega) (kk H locs ls hI hl)
