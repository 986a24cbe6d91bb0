theorem kind_in {k : Int32} (h : ¬ m_X4_isKind k = false) : vp_in k 19 := by
  unfold m_X4_isKind at h
  by_cases a : k < 0
  · rw [if_pos a] at h; exact absurd rfl h
  · rw [if_neg a] at h
    by_cases b : 19 ≤ k
    · rw [if_pos b] at h; exact absurd rfl h
    · exact rg_in (N := 19) (by decide) a b
def m_X2_kindOf_j12_s0 (ka : Int32) : Bool := if (ka &&& 98308) = 0 then false else true
def m_X2_kindOf (sg : Int32) (one : Bool) (ka : Int32) : Int32 := if sg = 36 then (if one = false then (10 + (bI (m_X2_kindOf_j12_s0 ka))) else 5) else (if sg = 42 then (6 + (bI (m_X2_kindOf_j12_s0 ka))) else (if sg = 43 then (if one = false then (8 + (bI (m_X2_kindOf_j12_s0 ka))) else (if ka = 0 then 3 else 4)) else (if sg = 44 then 1 else (if sg = 45 then (if one = false then (8 + (bI (m_X2_kindOf_j12_s0 ka))) else (if ka = 0 then 3 else 4)) else (if sg = 46 then 2 else (if sg = 57 then 12 else (if sg = 65 then 13 else (if sg = 67 then 4 else (if sg = 68 then 4 else (if sg = 78 then 18 else (if sg = 80 then (if (ka &&& (-114729)) = 0 then 16 else 17) else (if sg = 83 then 14 else (if sg = 86 then 15 else (if sg = 88 then 13 else (if sg = 90 then (6 + (bI (m_X2_kindOf_j12_s0 ka))) else 0)))))))))))))))
set_option maxHeartbeats 4000000 in
set_option maxRecDepth 100000 in
theorem c_X2_kindOf (l : Launch) (dC : Nat → ClassId) (dI : Nat → Nat → Nat) (sg : Int32) (one : Bool) (ka : Int32) : Met l yX2_kindOf wsX2_kindOf ({ frames := 0, cells := 0, slots := 0, locals := 0 } : Room) (va_Pc [.int sg, .int (bI one), .int ka] (rd_P (dC, dI) vwCl [] [])) (vp_Si (fun r => r = m_X2_kindOf sg one ka)) 0 0 (fun _ => False) := by
  refine Met.ofW (cc := cX2_kindOf) (maxL := 4) (ret := (some .int)) (by decide) rfl ?_
  intro p e s m args below meth c s₁ B hml hv
  obtain ⟨rfl, hE, hP, hK⟩ := hv
  have hx := B.exec
  have hb := B.bytes
  have hr := B.returns
  have hts := atoms_spec (ws := wsX2_kindOf) B.pre
  have hown : s.vm.findClass RX2 = some m.cls := findClass_of_methodNamed B.named
  have hlocks := B.notSynchronized
  have hl := lv_entry ([.int sg, .int (bI one), .int ka]) (n := 4) (Nat.le_of_ble_eq_true rfl)
  rw [lg_entry_eq]
  generalize (lg_sl ([.int sg, .int (bI one), .int ka]) ++ List.replicate (4 - (lg_sl ([.int sg, .int (bI one), .int ka])).length) Slot.unset).toArray = ls at hl ⊢
  have hl : lv_has ls 4 [(0, .int sg), (1, .int (bI one)), (2, .int ka)] := hl
  refine lv_iload_n hx hb dX2_kindOf_0 rfl (lv_at hl 2 rfl) ?_
  refine lv_ldc (v := 98308) hx hb hown (hts (.constant RX2 64 98308) (by decide +kernel)) dX2_kindOf_1 ?_
  refine lv_iand hx hb dX2_kindOf_3 ?_
  have j_1 : ∀ (y0_j_1 : Bool), y0_j_1 = m_X2_kindOf_j12_s0 ka → ∀ (ls : Array Slot), lv_has ls 4 [(0, .int sg), (1, .int (bI one)), (2, .int ka)] → W p l e (headSpec wsX2_kindOf ({ frames := 0, cells := 0, slots := 0, locals := 0 } : Room)).room s m (([.int sg, .int (bI one), .int ka] : List Value).toArray) below meth c s.heap [] 0 0 (MQ below (vp_Si (fun r => r = m_X2_kindOf sg one ka)) (([.int sg, .int (bI one), .int ka] : List Value).toArray) s 0 0 (fun _ => False)) (F0 m 12 ls [.int (bI y0_j_1)]) := by
    intro y0_j_1 ey0_j_1 ls hl
    subst ey0_j_1
    refine lv_istore_n (lv' := [(3, .int (bI (m_X2_kindOf_j12_s0 ka))), (0, .int sg), (1, .int (bI one)), (2, .int ka)]) hx hb dX2_kindOf_12 rfl hl (by decide) rfl (fun ls hl => ?_)
    refine lv_iload_n hx hb dX2_kindOf_13 rfl (lv_at hl 1 rfl) ?_
    by_cases c_2 : sg = 36
    · skip
      refine lv_tableIn (off := 259) (tgt := 273) hx hb dX2_kindOf_14 (by rw [c_2]; decide) (by rw [c_2]; decide) (by rw [c_2]; rfl) (by decide) ?_
      refine lv_iload_n hx hb dX2_kindOf_273 rfl (lv_at hl 2 rfl) ?_
      refine lv_if_eq (tgt := 281) hx hb dX2_kindOf_274 (by decide) (fun c_3 => ?_) (fun c_3 => ?_)
      · skip
        have c_3 := bI_0 c_3
        refine lv_bipush (v := 10) hx hb dX2_kindOf_281 (by decide) ?_
        refine lv_iload_n hx hb dX2_kindOf_283 rfl (lv_at hl 0 rfl) ?_
        refine lv_iadd hx hb dX2_kindOf_284 ?_
        exact rd_iret (v := 10 + (bI (m_X2_kindOf_j12_s0 ka))) hx hb hr hlocks (show m_X2_kindOf sg one ka = 10 + (bI (m_X2_kindOf_j12_s0 ka)) from by simp only [m_X2_kindOf, if_pos c_2, if_pos c_3]).symm dX2_kindOf_285
      · skip
        have c_3 := bI_n0 c_3
        refine lv_iconst (v := 5) hx hb dX2_kindOf_277 (by decide) ?_
        refine lv_goto (tgt := 285) hx hb dX2_kindOf_278 (by decide) ?_
        exact rd_iret (v := 5) hx hb hr hlocks (show m_X2_kindOf sg one ka = 5 from by simp only [m_X2_kindOf, if_pos c_2, if_neg c_3]).symm dX2_kindOf_285
    by_cases c_4 : sg = 42
    · skip
      refine lv_tableIn (off := 272) (tgt := 286) hx hb dX2_kindOf_14 (by rw [c_4]; decide) (by rw [c_4]; decide) (by rw [c_4]; rfl) (by decide) ?_
      refine lv_bipush (v := 6) hx hb dX2_kindOf_286 (by decide) ?_
      refine lv_iload_n hx hb dX2_kindOf_288 rfl (lv_at hl 0 rfl) ?_
      refine lv_iadd hx hb dX2_kindOf_289 ?_
      exact rd_iret (v := 6 + (bI (m_X2_kindOf_j12_s0 ka))) hx hb hr hlocks (show m_X2_kindOf sg one ka = 6 + (bI (m_X2_kindOf_j12_s0 ka)) from by simp only [m_X2_kindOf, if_neg c_2, if_pos c_4]).symm dX2_kindOf_290
    by_cases c_5 : sg = 43
    · skip
      refine lv_tableIn (off := 238) (tgt := 252) hx hb dX2_kindOf_14 (by rw [c_5]; decide) (by rw [c_5]; decide) (by rw [c_5]; rfl) (by decide) ?_
      refine lv_iload_n hx hb dX2_kindOf_252 rfl (lv_at hl 2 rfl) ?_
      refine lv_if_ne (tgt := 261) hx hb dX2_kindOf_253 (by decide) (fun c_6 => ?_) (fun c_6 => ?_)
      · skip
        have c_6 := bI_n0 c_6
        refine lv_iload_n hx hb dX2_kindOf_261 rfl (lv_at hl 3 rfl) ?_
        refine lv_if_ne (tgt := 269) hx hb dX2_kindOf_262 (by decide) (fun c_7 => ?_) (fun c_7 => ?_)
        · skip
          refine lv_iconst (v := 4) hx hb dX2_kindOf_269 (by decide) ?_
          exact rd_iret (v := 4) hx hb hr hlocks (show m_X2_kindOf sg one ka = 4 from by simp only [m_X2_kindOf, if_neg c_2, if_neg c_4, if_pos c_5, if_neg c_6, if_neg c_7]).symm dX2_kindOf_270
        · skip
          refine lv_iconst (v := 3) hx hb dX2_kindOf_265 (by decide) ?_
          refine lv_goto (tgt := 270) hx hb dX2_kindOf_266 (by decide) ?_
          exact rd_iret (v := 3) hx hb hr hlocks (show m_X2_kindOf sg one ka = 3 from by simp only [m_X2_kindOf, if_neg c_2, if_neg c_4, if_pos c_5, if_neg c_6, if_pos c_7]).symm dX2_kindOf_270
      · skip
        have c_6 := bI_0 c_6
        refine lv_bipush (v := 8) hx hb dX2_kindOf_256 (by decide) ?_
        refine lv_iload_n hx hb dX2_kindOf_258 rfl (lv_at hl 0 rfl) ?_
        refine lv_iadd hx hb dX2_kindOf_259 ?_
        exact rd_iret (v := 8 + (bI (m_X2_kindOf_j12_s0 ka))) hx hb hr hlocks (show m_X2_kindOf sg one ka = 8 + (bI (m_X2_kindOf_j12_s0 ka)) from by simp only [m_X2_kindOf, if_neg c_2, if_neg c_4, if_pos c_5, if_pos c_6]).symm dX2_kindOf_260
    by_cases c_8 : sg = 44
    · skip
      refine lv_tableIn (off := 234) (tgt := 248) hx hb dX2_kindOf_14 (by rw [c_8]; decide) (by rw [c_8]; decide) (by rw [c_8]; rfl) (by decide) ?_
      refine lv_iconst (v := 1) hx hb dX2_kindOf_248 (by decide) ?_
      exact rd_iret (v := 1) hx hb hr hlocks (show m_X2_kindOf sg one ka = 1 from by simp only [m_X2_kindOf, if_neg c_2, if_neg c_4, if_neg c_5, if_pos c_8]).symm dX2_kindOf_249
    by_cases c_9 : sg = 45
    · skip
      refine lv_tableIn (off := 238) (tgt := 252) hx hb dX2_kindOf_14 (by rw [c_9]; decide) (by rw [c_9]; decide) (by rw [c_9]; rfl) (by decide) ?_
      refine lv_iload_n hx hb dX2_kindOf_252 rfl (lv_at hl 2 rfl) ?_
      refine lv_if_ne (tgt := 261) hx hb dX2_kindOf_253 (by decide) (fun c_10 => ?_) (fun c_10 => ?_)
      · skip
        have c_10 := bI_n0 c_10
        refine lv_iload_n hx hb dX2_kindOf_261 rfl (lv_at hl 3 rfl) ?_
        refine lv_if_ne (tgt := 269) hx hb dX2_kindOf_262 (by decide) (fun c_11 => ?_) (fun c_11 => ?_)
        · skip
          refine lv_iconst (v := 4) hx hb dX2_kindOf_269 (by decide) ?_
          exact rd_iret (v := 4) hx hb hr hlocks (show m_X2_kindOf sg one ka = 4 from by simp only [m_X2_kindOf, if_neg c_2, if_neg c_4, if_neg c_5, if_neg c_8, if_pos c_9, if_neg c_10, if_neg c_11]).symm dX2_kindOf_270
        · skip
          refine lv_iconst (v := 3) hx hb dX2_kindOf_265 (by decide) ?_
          refine lv_goto (tgt := 270) hx hb dX2_kindOf_266 (by decide) ?_
          exact rd_iret (v := 3) hx hb hr hlocks (show m_X2_kindOf sg one ka = 3 from by simp only [m_X2_kindOf, if_neg c_2, if_neg c_4, if_neg c_5, if_neg c_8, if_pos c_9, if_neg c_10, if_pos c_11]).symm dX2_kindOf_270
      · skip
        have c_10 := bI_0 c_10
        refine lv_bipush (v := 8) hx hb dX2_kindOf_256 (by decide) ?_
        refine lv_iload_n hx hb dX2_kindOf_258 rfl (lv_at hl 0 rfl) ?_
        refine lv_iadd hx hb dX2_kindOf_259 ?_
        exact rd_iret (v := 8 + (bI (m_X2_kindOf_j12_s0 ka))) hx hb hr hlocks (show m_X2_kindOf sg one ka = 8 + (bI (m_X2_kindOf_j12_s0 ka)) from by simp only [m_X2_kindOf, if_neg c_2, if_neg c_4, if_neg c_5, if_neg c_8, if_pos c_9, if_pos c_10]).symm dX2_kindOf_260
    by_cases c_12 : sg = 46
    · skip
      refine lv_tableIn (off := 236) (tgt := 250) hx hb dX2_kindOf_14 (by rw [c_12]; decide) (by rw [c_12]; decide) (by rw [c_12]; rfl) (by decide) ?_
      refine lv_iconst (v := 2) hx hb dX2_kindOf_250 (by decide) ?_
      exact rd_iret (v := 2) hx hb hr hlocks (show m_X2_kindOf sg one ka = 2 from by simp only [m_X2_kindOf, if_neg c_2, if_neg c_4, if_neg c_5, if_neg c_8, if_neg c_9, if_pos c_12]).symm dX2_kindOf_251
    by_cases c_13 : sg = 57
    · skip
      refine lv_tableIn (off := 277) (tgt := 291) hx hb dX2_kindOf_14 (by rw [c_13]; decide) (by rw [c_13]; decide) (by rw [c_13]; rfl) (by decide) ?_
      refine lv_bipush (v := 12) hx hb dX2_kindOf_291 (by decide) ?_
      exact rd_iret (v := 12) hx hb hr hlocks (show m_X2_kindOf sg one ka = 12 from by simp only [m_X2_kindOf, if_neg c_2, if_neg c_4, if_neg c_5, if_neg c_8, if_neg c_9, if_neg c_12, if_pos c_13]).symm dX2_kindOf_293
    by_cases c_14 : sg = 65
    · skip
      refine lv_tableIn (off := 280) (tgt := 294) hx hb dX2_kindOf_14 (by rw [c_14]; decide) (by rw [c_14]; decide) (by rw [c_14]; rfl) (by decide) ?_
      refine lv_bipush (v := 13) hx hb dX2_kindOf_294 (by decide) ?_
      exact rd_iret (v := 13) hx hb hr hlocks (show m_X2_kindOf sg one ka = 13 from by simp only [m_X2_kindOf, if_neg c_2, if_neg c_4, if_neg c_5, if_neg c_8, if_neg c_9, if_neg c_12, if_neg c_13, if_pos c_14]).symm dX2_kindOf_296
    by_cases c_15 : sg = 67
    · skip
      refine lv_tableIn (off := 257) (tgt := 271) hx hb dX2_kindOf_14 (by rw [c_15]; decide) (by rw [c_15]; decide) (by rw [c_15]; rfl) (by decide) ?_
      refine lv_iconst (v := 4) hx hb dX2_kindOf_271 (by decide) ?_
      exact rd_iret (v := 4) hx hb hr hlocks (show m_X2_kindOf sg one ka = 4 from by simp only [m_X2_kindOf, if_neg c_2, if_neg c_4, if_neg c_5, if_neg c_8, if_neg c_9, if_neg c_12, if_neg c_13, if_neg c_14, if_pos c_15]).symm dX2_kindOf_272
    by_cases c_16 : sg = 68
    · skip
      refine lv_tableIn (off := 257) (tgt := 271) hx hb dX2_kindOf_14 (by rw [c_16]; decide) (by rw [c_16]; decide) (by rw [c_16]; rfl) (by decide) ?_
      refine lv_iconst (v := 4) hx hb dX2_kindOf_271 (by decide) ?_
      exact rd_iret (v := 4) hx hb hr hlocks (show m_X2_kindOf sg one ka = 4 from by simp only [m_X2_kindOf, if_neg c_2, if_neg c_4, if_neg c_5, if_neg c_8, if_neg c_9, if_neg c_12, if_neg c_13, if_neg c_14, if_neg c_15, if_pos c_16]).symm dX2_kindOf_272
    by_cases c_17 : sg = 78
    · skip
      refine lv_tableIn (off := 304) (tgt := 318) hx hb dX2_kindOf_14 (by rw [c_17]; decide) (by rw [c_17]; decide) (by rw [c_17]; rfl) (by decide) ?_
      refine lv_bipush (v := 18) hx hb dX2_kindOf_318 (by decide) ?_
      exact rd_iret (v := 18) hx hb hr hlocks (show m_X2_kindOf sg one ka = 18 from by simp only [m_X2_kindOf, if_neg c_2, if_neg c_4, if_neg c_5, if_neg c_8, if_neg c_9, if_neg c_12, if_neg c_13, if_neg c_14, if_neg c_15, if_neg c_16, if_pos c_17]).symm dX2_kindOf_320
    by_cases c_18 : sg = 80
    · skip
      refine lv_tableIn (off := 289) (tgt := 303) hx hb dX2_kindOf_14 (by rw [c_18]; decide) (by rw [c_18]; decide) (by rw [c_18]; rfl) (by decide) ?_
      refine lv_iload_n hx hb dX2_kindOf_303 rfl (lv_at hl 3 rfl) ?_
      refine lv_ldc (v := (-114729)) hx hb hown (hts (.constant RX2 65 (-114729)) (by decide +kernel)) dX2_kindOf_304 ?_
      refine lv_iand hx hb dX2_kindOf_306 ?_
      refine lv_if_ne (tgt := 315) hx hb dX2_kindOf_307 (by decide) (fun c_19 => ?_) (fun c_19 => ?_)
      · skip
        refine lv_bipush (v := 17) hx hb dX2_kindOf_315 (by decide) ?_
        exact rd_iret (v := 17) hx hb hr hlocks (show m_X2_kindOf sg one ka = 17 from by simp only [m_X2_kindOf, if_neg c_2, if_neg c_4, if_neg c_5, if_neg c_8, if_neg c_9, if_neg c_12, if_neg c_13, if_neg c_14, if_neg c_15, if_neg c_16, if_neg c_17, if_pos c_18, if_neg c_19]).symm dX2_kindOf_317
      · skip
        refine lv_bipush (v := 16) hx hb dX2_kindOf_310 (by decide) ?_
        refine lv_goto (tgt := 317) hx hb dX2_kindOf_312 (by decide) ?_
        exact rd_iret (v := 16) hx hb hr hlocks (show m_X2_kindOf sg one ka = 16 from by simp only [m_X2_kindOf, if_neg c_2, if_neg c_4, if_neg c_5, if_neg c_8, if_neg c_9, if_neg c_12, if_neg c_13, if_neg c_14, if_neg c_15, if_neg c_16, if_neg c_17, if_pos c_18, if_pos c_19]).symm dX2_kindOf_317
    by_cases c_20 : sg = 83
    · skip
      refine lv_tableIn (off := 283) (tgt := 297) hx hb dX2_kindOf_14 (by rw [c_20]; decide) (by rw [c_20]; decide) (by rw [c_20]; rfl) (by decide) ?_
      refine lv_bipush (v := 14) hx hb dX2_kindOf_297 (by decide) ?_
      exact rd_iret (v := 14) hx hb hr hlocks (show m_X2_kindOf sg one ka = 14 from by simp only [m_X2_kindOf, if_neg c_2, if_neg c_4, if_neg c_5, if_neg c_8, if_neg c_9, if_neg c_12, if_neg c_13, if_neg c_14, if_neg c_15, if_neg c_16, if_neg c_17, if_neg c_18, if_pos c_20]).symm dX2_kindOf_299
    by_cases c_21 : sg = 86
    · skip
      refine lv_tableIn (off := 286) (tgt := 300) hx hb dX2_kindOf_14 (by rw [c_21]; decide) (by rw [c_21]; decide) (by rw [c_21]; rfl) (by decide) ?_
      refine lv_bipush (v := 15) hx hb dX2_kindOf_300 (by decide) ?_
      exact rd_iret (v := 15) hx hb hr hlocks (show m_X2_kindOf sg one ka = 15 from by simp only [m_X2_kindOf, if_neg c_2, if_neg c_4, if_neg c_5, if_neg c_8, if_neg c_9, if_neg c_12, if_neg c_13, if_neg c_14, if_neg c_15, if_neg c_16, if_neg c_17, if_neg c_18, if_neg c_20, if_pos c_21]).symm dX2_kindOf_302
    by_cases c_22 : sg = 88
    · skip
      refine lv_tableIn (off := 280) (tgt := 294) hx hb dX2_kindOf_14 (by rw [c_22]; decide) (by rw [c_22]; decide) (by rw [c_22]; rfl) (by decide) ?_
      refine lv_bipush (v := 13) hx hb dX2_kindOf_294 (by decide) ?_
      exact rd_iret (v := 13) hx hb hr hlocks (show m_X2_kindOf sg one ka = 13 from by simp only [m_X2_kindOf, if_neg c_2, if_neg c_4, if_neg c_5, if_neg c_8, if_neg c_9, if_neg c_12, if_neg c_13, if_neg c_14, if_neg c_15, if_neg c_16, if_neg c_17, if_neg c_18, if_neg c_20, if_neg c_21, if_pos c_22]).symm dX2_kindOf_296
    by_cases c_23 : sg = 90
    · skip
      refine lv_tableIn (off := 272) (tgt := 286) hx hb dX2_kindOf_14 (by rw [c_23]; decide) (by rw [c_23]; decide) (by rw [c_23]; rfl) (by decide) ?_
      refine lv_bipush (v := 6) hx hb dX2_kindOf_286 (by decide) ?_
      refine lv_iload_n hx hb dX2_kindOf_288 rfl (lv_at hl 0 rfl) ?_
      refine lv_iadd hx hb dX2_kindOf_289 ?_
      exact rd_iret (v := 6 + (bI (m_X2_kindOf_j12_s0 ka))) hx hb hr hlocks (show m_X2_kindOf sg one ka = 6 + (bI (m_X2_kindOf_j12_s0 ka)) from by simp only [m_X2_kindOf, if_neg c_2, if_neg c_4, if_neg c_5, if_neg c_8, if_neg c_9, if_neg c_12, if_neg c_13, if_neg c_14, if_neg c_15, if_neg c_16, if_neg c_17, if_neg c_18, if_neg c_20, if_neg c_21, if_neg c_22, if_pos c_23]).symm dX2_kindOf_290
    have w_24 : ∀ ls, lv_has ls 4 [(3, .int (bI (m_X2_kindOf_j12_s0 ka))), (0, .int sg), (1, .int (bI one)), (2, .int ka)] → W p l e (headSpec wsX2_kindOf ({ frames := 0, cells := 0, slots := 0, locals := 0 } : Room)).room s m (([.int sg, .int (bI one), .int ka] : List Value).toArray) below meth c s.heap [] 0 0 (MQ below (vp_Si (fun r => r = m_X2_kindOf sg one ka)) (([.int sg, .int (bI one), .int ka] : List Value).toArray) s 0 0 (fun _ => False)) (F0 m 321 ls []) := by
      intro ls hl
      refine lv_iconst (v := 0) hx hb dX2_kindOf_321 (by decide) ?_
      exact rd_iret (v := 0) hx hb hr hlocks (show m_X2_kindOf sg one ka = 0 from by simp only [m_X2_kindOf, if_neg c_2, if_neg c_4, if_neg c_5, if_neg c_8, if_neg c_9, if_neg c_12, if_neg c_13, if_neg c_14, if_neg c_15, if_neg c_16, if_neg c_17, if_neg c_18, if_neg c_20, if_neg c_21, if_neg c_22, if_neg c_23]).symm dX2_kindOf_322
    by_cases c_25 : sg = 37
    · skip
      exact lv_tableIn (off := 307) (tgt := 321) hx hb dX2_kindOf_14 (by rw [c_25]; decide) (by rw [c_25]; decide) (by rw [c_25]; rfl) (by decide) (w_24 ls hl)
    by_cases c_26 : sg = 38
    · skip
      exact lv_tableIn (off := 307) (tgt := 321) hx hb dX2_kindOf_14 (by rw [c_26]; decide) (by rw [c_26]; decide) (by rw [c_26]; rfl) (by decide) (w_24 ls hl)
    by_cases c_27 : sg = 39
    · skip
      exact lv_tableIn (off := 307) (tgt := 321) hx hb dX2_kindOf_14 (by rw [c_27]; decide) (by rw [c_27]; decide) (by rw [c_27]; rfl) (by decide) (w_24 ls hl)
    by_cases c_28 : sg = 40
    · skip
      exact lv_tableIn (off := 307) (tgt := 321) hx hb dX2_kindOf_14 (by rw [c_28]; decide) (by rw [c_28]; decide) (by rw [c_28]; rfl) (by decide) (w_24 ls hl)
    by_cases c_29 : sg = 41
    · skip
      exact lv_tableIn (off := 307) (tgt := 321) hx hb dX2_kindOf_14 (by rw [c_29]; decide) (by rw [c_29]; decide) (by rw [c_29]; rfl) (by decide) (w_24 ls hl)
    by_cases c_30 : sg = 47
    · skip
      exact lv_tableIn (off := 307) (tgt := 321) hx hb dX2_kindOf_14 (by rw [c_30]; decide) (by rw [c_30]; decide) (by rw [c_30]; rfl) (by decide) (w_24 ls hl)
    by_cases c_31 : sg = 48
    · skip
      exact lv_tableIn (off := 307) (tgt := 321) hx hb dX2_kindOf_14 (by rw [c_31]; decide) (by rw [c_31]; decide) (by rw [c_31]; rfl) (by decide) (w_24 ls hl)
    by_cases c_32 : sg = 49
    · skip
      exact lv_tableIn (off := 307) (tgt := 321) hx hb dX2_kindOf_14 (by rw [c_32]; decide) (by rw [c_32]; decide) (by rw [c_32]; rfl) (by decide) (w_24 ls hl)
    by_cases c_33 : sg = 50
    · skip
      exact lv_tableIn (off := 307) (tgt := 321) hx hb dX2_kindOf_14 (by rw [c_33]; decide) (by rw [c_33]; decide) (by rw [c_33]; rfl) (by decide) (w_24 ls hl)
    by_cases c_34 : sg = 51
    · skip
      exact lv_tableIn (off := 307) (tgt := 321) hx hb dX2_kindOf_14 (by rw [c_34]; decide) (by rw [c_34]; decide) (by rw [c_34]; rfl) (by decide) (w_24 ls hl)
    by_cases c_35 : sg = 52
    · skip
      exact lv_tableIn (off := 307) (tgt := 321) hx hb dX2_kindOf_14 (by rw [c_35]; decide) (by rw [c_35]; decide) (by rw [c_35]; rfl) (by decide) (w_24 ls hl)
    by_cases c_36 : sg = 53
    · skip
      exact lv_tableIn (off := 307) (tgt := 321) hx hb dX2_kindOf_14 (by rw [c_36]; decide) (by rw [c_36]; decide) (by rw [c_36]; rfl) (by decide) (w_24 ls hl)
    by_cases c_37 : sg = 54
    · skip
      exact lv_tableIn (off := 307) (tgt := 321) hx hb dX2_kindOf_14 (by rw [c_37]; decide) (by rw [c_37]; decide) (by rw [c_37]; rfl) (by decide) (w_24 ls hl)
    by_cases c_38 : sg = 55
    · skip
      exact lv_tableIn (off := 307) (tgt := 321) hx hb dX2_kindOf_14 (by rw [c_38]; decide) (by rw [c_38]; decide) (by rw [c_38]; rfl) (by decide) (w_24 ls hl)
    by_cases c_39 : sg = 56
    · skip
      exact lv_tableIn (off := 307) (tgt := 321) hx hb dX2_kindOf_14 (by rw [c_39]; decide) (by rw [c_39]; decide) (by rw [c_39]; rfl) (by decide) (w_24 ls hl)
    by_cases c_40 : sg = 58
    · skip
      exact lv_tableIn (off := 307) (tgt := 321) hx hb dX2_kindOf_14 (by rw [c_40]; decide) (by rw [c_40]; decide) (by rw [c_40]; rfl) (by decide) (w_24 ls hl)
    by_cases c_41 : sg = 59
    · skip
      exact lv_tableIn (off := 307) (tgt := 321) hx hb dX2_kindOf_14 (by rw [c_41]; decide) (by rw [c_41]; decide) (by rw [c_41]; rfl) (by decide) (w_24 ls hl)
    by_cases c_42 : sg = 60
    · skip
      exact lv_tableIn (off := 307) (tgt := 321) hx hb dX2_kindOf_14 (by rw [c_42]; decide) (by rw [c_42]; decide) (by rw [c_42]; rfl) (by decide) (w_24 ls hl)
    by_cases c_43 : sg = 61
    · skip
      exact lv_tableIn (off := 307) (tgt := 321) hx hb dX2_kindOf_14 (by rw [c_43]; decide) (by rw [c_43]; decide) (by rw [c_43]; rfl) (by decide) (w_24 ls hl)
    by_cases c_44 : sg = 62
    · skip
      exact lv_tableIn (off := 307) (tgt := 321) hx hb dX2_kindOf_14 (by rw [c_44]; decide) (by rw [c_44]; decide) (by rw [c_44]; rfl) (by decide) (w_24 ls hl)
    by_cases c_45 : sg = 63
    · skip
      exact lv_tableIn (off := 307) (tgt := 321) hx hb dX2_kindOf_14 (by rw [c_45]; decide) (by rw [c_45]; decide) (by rw [c_45]; rfl) (by decide) (w_24 ls hl)
    by_cases c_46 : sg = 64
    · skip
      exact lv_tableIn (off := 307) (tgt := 321) hx hb dX2_kindOf_14 (by rw [c_46]; decide) (by rw [c_46]; decide) (by rw [c_46]; rfl) (by decide) (w_24 ls hl)
    by_cases c_47 : sg = 66
    · skip
      exact lv_tableIn (off := 307) (tgt := 321) hx hb dX2_kindOf_14 (by rw [c_47]; decide) (by rw [c_47]; decide) (by rw [c_47]; rfl) (by decide) (w_24 ls hl)
    by_cases c_48 : sg = 69
    · skip
      exact lv_tableIn (off := 307) (tgt := 321) hx hb dX2_kindOf_14 (by rw [c_48]; decide) (by rw [c_48]; decide) (by rw [c_48]; rfl) (by decide) (w_24 ls hl)
    by_cases c_49 : sg = 70
    · skip
      exact lv_tableIn (off := 307) (tgt := 321) hx hb dX2_kindOf_14 (by rw [c_49]; decide) (by rw [c_49]; decide) (by rw [c_49]; rfl) (by decide) (w_24 ls hl)
    by_cases c_50 : sg = 71
    · skip
      exact lv_tableIn (off := 307) (tgt := 321) hx hb dX2_kindOf_14 (by rw [c_50]; decide) (by rw [c_50]; decide) (by rw [c_50]; rfl) (by decide) (w_24 ls hl)
    by_cases c_51 : sg = 72
    · skip
      exact lv_tableIn (off := 307) (tgt := 321) hx hb dX2_kindOf_14 (by rw [c_51]; decide) (by rw [c_51]; decide) (by rw [c_51]; rfl) (by decide) (w_24 ls hl)
    by_cases c_52 : sg = 73
    · skip
      exact lv_tableIn (off := 307) (tgt := 321) hx hb dX2_kindOf_14 (by rw [c_52]; decide) (by rw [c_52]; decide) (by rw [c_52]; rfl) (by decide) (w_24 ls hl)
    by_cases c_53 : sg = 74
    · skip
      exact lv_tableIn (off := 307) (tgt := 321) hx hb dX2_kindOf_14 (by rw [c_53]; decide) (by rw [c_53]; decide) (by rw [c_53]; rfl) (by decide) (w_24 ls hl)
    by_cases c_54 : sg = 75
    · skip
      exact lv_tableIn (off := 307) (tgt := 321) hx hb dX2_kindOf_14 (by rw [c_54]; decide) (by rw [c_54]; decide) (by rw [c_54]; rfl) (by decide) (w_24 ls hl)
    by_cases c_55 : sg = 76
    · skip
      exact lv_tableIn (off := 307) (tgt := 321) hx hb dX2_kindOf_14 (by rw [c_55]; decide) (by rw [c_55]; decide) (by rw [c_55]; rfl) (by decide) (w_24 ls hl)
    by_cases c_56 : sg = 77
    · skip
      exact lv_tableIn (off := 307) (tgt := 321) hx hb dX2_kindOf_14 (by rw [c_56]; decide) (by rw [c_56]; decide) (by rw [c_56]; rfl) (by decide) (w_24 ls hl)
    by_cases c_57 : sg = 79
    · skip
      exact lv_tableIn (off := 307) (tgt := 321) hx hb dX2_kindOf_14 (by rw [c_57]; decide) (by rw [c_57]; decide) (by rw [c_57]; rfl) (by decide) (w_24 ls hl)
    by_cases c_58 : sg = 81
    · skip
      exact lv_tableIn (off := 307) (tgt := 321) hx hb dX2_kindOf_14 (by rw [c_58]; decide) (by rw [c_58]; decide) (by rw [c_58]; rfl) (by decide) (w_24 ls hl)
    by_cases c_59 : sg = 82
    · skip
      exact lv_tableIn (off := 307) (tgt := 321) hx hb dX2_kindOf_14 (by rw [c_59]; decide) (by rw [c_59]; decide) (by rw [c_59]; rfl) (by decide) (w_24 ls hl)
    by_cases c_60 : sg = 84
    · skip
      exact lv_tableIn (off := 307) (tgt := 321) hx hb dX2_kindOf_14 (by rw [c_60]; decide) (by rw [c_60]; decide) (by rw [c_60]; rfl) (by decide) (w_24 ls hl)
    by_cases c_61 : sg = 85
    · skip
      exact lv_tableIn (off := 307) (tgt := 321) hx hb dX2_kindOf_14 (by rw [c_61]; decide) (by rw [c_61]; decide) (by rw [c_61]; rfl) (by decide) (w_24 ls hl)
    by_cases c_62 : sg = 87
    · skip
      exact lv_tableIn (off := 307) (tgt := 321) hx hb dX2_kindOf_14 (by rw [c_62]; decide) (by rw [c_62]; decide) (by rw [c_62]; rfl) (by decide) (w_24 ls hl)
    by_cases c_63 : sg = 89
    · skip
      exact lv_tableIn (off := 307) (tgt := 321) hx hb dX2_kindOf_14 (by rw [c_63]; decide) (by rw [c_63]; decide) (by rw [c_63]; rfl) (by decide) (w_24 ls hl)
    exact lv_tableOut (tgt := 321) hx hb dX2_kindOf_14 (by have n0_ := lv_neT (a := 36) c_2 (by decide); have n1_ := lv_neT (a := 42) c_4 (by decide); have n2_ := lv_neT (a := 43) c_5 (by decide); have n3_ := lv_neT (a := 44) c_8 (by decide); have n4_ := lv_neT (a := 45) c_9 (by decide); have n5_ := lv_neT (a := 46) c_12 (by decide); have n6_ := lv_neT (a := 57) c_13 (by decide); have n7_ := lv_neT (a := 65) c_14 (by decide); have n8_ := lv_neT (a := 67) c_15 (by decide); have n9_ := lv_neT (a := 68) c_16 (by decide); have n10_ := lv_neT (a := 78) c_17 (by decide); have n11_ := lv_neT (a := 80) c_18 (by decide); have n12_ := lv_neT (a := 83) c_20 (by decide); have n13_ := lv_neT (a := 86) c_21 (by decide); have n14_ := lv_neT (a := 88) c_22 (by decide); have n15_ := lv_neT (a := 90) c_23 (by decide); have n16_ := lv_neT (a := 37) c_25 (by decide); have n17_ := lv_neT (a := 38) c_26 (by decide); have n18_ := lv_neT (a := 39) c_27 (by decide); have n19_ := lv_neT (a := 40) c_28 (by decide); have n20_ := lv_neT (a := 41) c_29 (by decide); have n21_ := lv_neT (a := 47) c_30 (by decide); have n22_ := lv_neT (a := 48) c_31 (by decide); have n23_ := lv_neT (a := 49) c_32 (by decide); have n24_ := lv_neT (a := 50) c_33 (by decide); have n25_ := lv_neT (a := 51) c_34 (by decide); have n26_ := lv_neT (a := 52) c_35 (by decide); have n27_ := lv_neT (a := 53) c_36 (by decide); have n28_ := lv_neT (a := 54) c_37 (by decide); have n29_ := lv_neT (a := 55) c_38 (by decide); have n30_ := lv_neT (a := 56) c_39 (by decide); have n31_ := lv_neT (a := 58) c_40 (by decide); have n32_ := lv_neT (a := 59) c_41 (by decide); have n33_ := lv_neT (a := 60) c_42 (by decide); have n34_ := lv_neT (a := 61) c_43 (by decide); have n35_ := lv_neT (a := 62) c_44 (by decide); have n36_ := lv_neT (a := 63) c_45 (by decide); have n37_ := lv_neT (a := 64) c_46 (by decide); have n38_ := lv_neT (a := 66) c_47 (by decide); have n39_ := lv_neT (a := 69) c_48 (by decide); have n40_ := lv_neT (a := 70) c_49 (by decide); have n41_ := lv_neT (a := 71) c_50 (by decide); have n42_ := lv_neT (a := 72) c_51 (by decide); have n43_ := lv_neT (a := 73) c_52 (by decide); have n44_ := lv_neT (a := 74) c_53 (by decide); have n45_ := lv_neT (a := 75) c_54 (by decide); have n46_ := lv_neT (a := 76) c_55 (by decide); have n47_ := lv_neT (a := 77) c_56 (by decide); have n48_ := lv_neT (a := 79) c_57 (by decide); have n49_ := lv_neT (a := 81) c_58 (by decide); have n50_ := lv_neT (a := 82) c_59 (by decide); have n51_ := lv_neT (a := 84) c_60 (by decide); have n52_ := lv_neT (a := 85) c_61 (by decide); have n53_ := lv_neT (a := 87) c_62 (by decide); have n54_ := lv_neT (a := 89) c_63 (by decide); omega) (by decide) (w_24 ls hl)
  refine lv_if_ne (tgt := 11) hx hb dX2_kindOf_4 (by decide) (fun c_64 => ?_) (fun c_64 => ?_)
  · skip
    refine lv_iconst (v := 1) hx hb dX2_kindOf_11 (by decide) ?_
    exact j_1 true (by simp only [m_X2_kindOf_j12_s0, if_neg c_64]) ls (lv_sub hl [0, 1, 2] rfl)
  · skip
    refine lv_iconst (v := 0) hx hb dX2_kindOf_7 (by decide) ?_
    refine lv_goto (tgt := 12) hx hb dX2_kindOf_8 (by decide) ?_
    exact j_1 false (by simp only [m_X2_kindOf_j12_s0, if_pos c_64]) ls (lv_sub hl [0, 1, 2] rfl)
def m_X2_hasRivalAhead (ss : Nat → Int32) (ks : Nat → Int32) (i : Nat) : Bool := if (ss i) = 42 then (m_X2_standsAhead ss 90 i) else (if (ss i) = 43 then (if (m_X4_holds 3840 (ks i)) = false then false else (if (m_X2_standsAhead ss 45 i) = false then false else true)) else (if (ss i) = 45 then (if (m_X4_holds 3840 (ks i)) = false then false else (if (m_X2_standsAhead ss 43 i) = false then false else true)) else (if (ss i) = 90 then (m_X2_standsAhead ss 42 i) else false)))
set_option maxHeartbeats 4000000 in
set_option maxRecDepth 100000 in
theorem c_X2_hasRivalAhead (l : Launch) (dC : Nat → ClassId) (dI : Nat → Nat → Nat) (h0 : Nat) (h1 : Nat) (h2 : Nat) (h3 : Nat) (h4 : Nat) (h5 : Nat) (cA : ClassId) (sz : Nat) (ss : Nat → Int32) (ks : Nat → Int32) (i : Nat) (hsz : sz ≤ 80) (hi : i < 80) : Met l yX2_hasRivalAhead wsX2_hasRivalAhead ({ frames := 1, cells := 0, slots := 0, locals := 23 } : Room) (va_Pc [.ref h0, .int (nI i)] (rd_P (dC, dI) vwCl [(h0, .inr (3, [.ref h1, .ref h2, .ref h3, .ref h4, .ref h5, .int (nI sz)])), (h1, .inl (cA, 80, .inl ss)), (h4, .inl (cA, 80, .inl ks))] [(cA, .int)])) (vp_Si (fun r => r = bI (m_X2_hasRivalAhead ss ks i))) 0 0 (fun _ => False) := by
  refine Met.ofW (cc := cX2_hasRivalAhead) (maxL := 2) (ret := (some .boolean)) (by decide) rfl ?_
  intro p e s m args below meth c s₁ B hml hv
  obtain ⟨rfl, hE, hP, hK⟩ := hv
  have hx := B.exec
  have hb := B.bytes
  have hr := B.returns
  have hts := atoms_spec (ws := wsX2_hasRivalAhead) B.pre
  have hown : s.vm.findClass RX2 = some m.cls := findClass_of_methodNamed B.named
  have hlocks := B.notSynchronized
  have hl := lv_entry ([.ref h0, .int (nI i)]) (n := 2) (Nat.le_of_ble_eq_true rfl)
  rw [lg_entry_eq]
  generalize (lg_sl ([.ref h0, .int (nI i)]) ++ List.replicate (2 - (lg_sl ([.ref h0, .int (nI i)])).length) Slot.unset).toArray = ls at hl ⊢
  have hl : lv_has ls 2 [(0, .ref h0), (1, .int (nI i))] := hl
  refine lv_iload_n hx hb dX2_hasRivalAhead_0 rfl (lv_at hl 1 rfl) ?_
  refine lv_if_lt (tgt := 10) hx hb dX2_hasRivalAhead_1 (by decide) (fun c_1 => ?_) (fun c_1 => ?_)
  · skip
    have c_1 : i < 0 := (nI_ltI (a := i) (b := 0) (by omega) (by omega)).mp c_1
    exfalso; omega
  · skip
    have c_1 : ¬ i < 0 := (fun q_ => c_1 ((nI_ltI (a := i) (b := 0) (by omega) (by omega)).mpr q_))
    refine lv_iload_n hx hb dX2_hasRivalAhead_4 rfl (lv_at hl 1 rfl) ?_
    refine lv_bipush (v := 80) hx hb dX2_hasRivalAhead_5 (by decide) ?_
    refine lv_icmp_lt (tgt := 12) hx hb dX2_hasRivalAhead_7 (by decide) (fun c_2 => ?_) (fun c_2 => ?_)
    · skip
      have c_2 : i < 80 := (nI_ltI (a := i) (b := 80) (by omega) (by omega)).mp c_2
      refine lv_aload_n hx hb dX2_hasRivalAhead_12 rfl (lv_at hl 0 rfl) ?_
      refine va_get (D := (dC, dI)) (ci := 3) (v := .ref h1) (C := RX2) (T := TX2) (N := 6) hx hb hts (by decide +kernel) hown hK hP 0 rfl rfl 0 (by decide) (hts (.fieldLink RX2 9 "PictureRows$Runs" "signs" "[I") (by decide +kernel)) (fun _ h9 => h9) rfl dX2_hasRivalAhead_13 ?_
      refine lv_iload_n hx hb dX2_hasRivalAhead_16 rfl (lv_at hl 1 rfl) ?_
      refine rd_iald hx hb hK hP 1 0 rfl rfl (i) (by omega) (by omega) dX2_hasRivalAhead_17 ?_
      by_cases c_3 : (ss i) = 42
      · skip
        refine lv_lookup (off := 50) (tgt := 68) hx hb dX2_hasRivalAhead_18 (by decide) (by rw [c_3]; decide) (by decide) ?_
        refine lv_aload_n hx hb dX2_hasRivalAhead_68 rfl (lv_at hl 0 rfl) ?_
        refine lv_bipush (v := 90) hx hb dX2_hasRivalAhead_69 (by decide) ?_
        refine lv_iload_n hx hb dX2_hasRivalAhead_71 rfl (lv_at hl 1 rfl) ?_
        refine rd_callV (As := [.int 90, .int (nI i)]) (rest := []) ⟨hx, hb, hml, hown, hts⟩ hE (c_X2_standsAhead l dC dI h0 h1 h2 h3 h4 h5 cA sz ss 90 i (by omega) (by omega)) (cwV 2 hts gX2_hasRivalAhead_X2_standsAhead rfl rfl rfl (by decide +kernel) ⟨Nat.le_of_ble_eq_true rfl, Nat.le_of_ble_eq_true rfl⟩) (hP.sub (ws' := [(h0, .inr (3, [.ref h1, .ref h2, .ref h3, .ref h4, .ref h5, .int (nI sz)])), (h1, .inl (cA, 80, .inl ss))]) [0, 1] rfl) (hK.sub [0] rfl) (va_recv hK hP (ci := 3) (q0 := 0) rfl rfl) rfl hl.1 rfl (Nat.le_of_ble_eq_true rfl) dX2_hasRivalAhead_72 ⟨Nat.zero_le _, Nat.zero_le _⟩ (fun r9 hr9 => ?_)
        subst hr9
        exact rd_zret (v := bI (m_X2_standsAhead ss 90 i)) hx hb hr hlocks (bI_nar _) (by rw [(show m_X2_hasRivalAhead ss ks i = m_X2_standsAhead ss 90 i from by simp only [m_X2_hasRivalAhead, if_pos c_3])]) dX2_hasRivalAhead_75
      by_cases c_4 : (ss i) = 43
      · skip
        refine lv_lookup (off := 58) (tgt := 76) hx hb dX2_hasRivalAhead_18 (by decide) (by rw [c_4]; decide) (by decide) ?_
        refine lv_sipush (v := 3840) hx hb dX2_hasRivalAhead_76 (by decide) ?_
        refine lv_aload_n hx hb dX2_hasRivalAhead_79 rfl (lv_at hl 0 rfl) ?_
        refine va_get (D := (dC, dI)) (ci := 3) (v := .ref h4) (C := RX2) (T := TX2) (N := 6) hx hb hts (by decide +kernel) hown hK hP 0 rfl rfl 3 (by decide) (hts (.fieldLink RX2 21 "PictureRows$Runs" "kinds" "[I") (by decide +kernel)) (fun _ h9 => h9) rfl dX2_hasRivalAhead_80 ?_
        refine lv_iload_n hx hb dX2_hasRivalAhead_83 rfl (lv_at hl 1 rfl) ?_
        refine rd_iald hx hb hK hP 2 0 rfl rfl (i) (by omega) (by omega) dX2_hasRivalAhead_84 ?_
        refine rd_callSN (As := [.int 3840, .int (ks i)]) (rest := []) ⟨hx, hb, hml, hown, hts⟩ hE (c_X4_holds l dC dI 3840 (ks i) ) ⟨va_cnB 2 hts gX2_hasRivalAhead_X4_holds_n67 rfl rfl rfl (hE.1.2 ("PictureRows$Runs", 67, yX4_holds) (by decide)) (hts (.initialized RX4) (by decide +kernel)) (by decide +kernel) ⟨Nat.le_of_ble_eq_true rfl, Nat.le_of_ble_eq_true rfl⟩, hts (.static yX4_holds) (by decide +kernel), trivial⟩ (hP.sub (ws' := []) [] rfl) (hK.sub [] rfl) rfl hl.1 rfl (Nat.le_of_ble_eq_true rfl) dX2_hasRivalAhead_85 ⟨Nat.zero_le _, Nat.zero_le _⟩ (fun r9 hr9 => ?_)
        subst hr9
        refine lv_if_eq (tgt := 105) hx hb dX2_hasRivalAhead_88 (by decide) (fun c_5 => ?_) (fun c_5 => ?_)
        · skip
          have c_5 := bI_0 c_5
          refine lv_iconst (v := 0) hx hb dX2_hasRivalAhead_105 (by decide) ?_
          exact rd_zret (v := 0) hx hb hr hlocks rfl (by rw [(show m_X2_hasRivalAhead ss ks i = false from by simp only [m_X2_hasRivalAhead, if_neg c_3, if_pos c_4, if_pos c_5])]; rfl) dX2_hasRivalAhead_106
        · skip
          have c_5 := bI_n0 c_5
          refine lv_aload_n hx hb dX2_hasRivalAhead_91 rfl (lv_at hl 0 rfl) ?_
          refine lv_bipush (v := 45) hx hb dX2_hasRivalAhead_92 (by decide) ?_
          refine lv_iload_n hx hb dX2_hasRivalAhead_94 rfl (lv_at hl 1 rfl) ?_
          refine rd_callV (As := [.int 45, .int (nI i)]) (rest := []) ⟨hx, hb, hml, hown, hts⟩ hE (c_X2_standsAhead l dC dI h0 h1 h2 h3 h4 h5 cA sz ss 45 i (by omega) (by omega)) (cwV 2 hts gX2_hasRivalAhead_X2_standsAhead rfl rfl rfl (by decide +kernel) ⟨Nat.le_of_ble_eq_true rfl, Nat.le_of_ble_eq_true rfl⟩) (hP.sub (ws' := [(h0, .inr (3, [.ref h1, .ref h2, .ref h3, .ref h4, .ref h5, .int (nI sz)])), (h1, .inl (cA, 80, .inl ss))]) [0, 1] rfl) (hK.sub [0] rfl) (va_recv hK hP (ci := 3) (q0 := 0) rfl rfl) rfl hl.1 rfl (Nat.le_of_ble_eq_true rfl) dX2_hasRivalAhead_95 ⟨Nat.zero_le _, Nat.zero_le _⟩ (fun r9 hr9 => ?_)
          subst hr9
          refine lv_if_eq (tgt := 105) hx hb dX2_hasRivalAhead_98 (by decide) (fun c_6 => ?_) (fun c_6 => ?_)
          · skip
            have c_6 := bI_0 c_6
            refine lv_iconst (v := 0) hx hb dX2_hasRivalAhead_105 (by decide) ?_
            exact rd_zret (v := 0) hx hb hr hlocks rfl (by rw [(show m_X2_hasRivalAhead ss ks i = false from by simp only [m_X2_hasRivalAhead, if_neg c_3, if_pos c_4, if_neg c_5, if_pos c_6])]; rfl) dX2_hasRivalAhead_106
          · skip
            have c_6 := bI_n0 c_6
            refine lv_iconst (v := 1) hx hb dX2_hasRivalAhead_101 (by decide) ?_
            refine lv_goto (tgt := 106) hx hb dX2_hasRivalAhead_102 (by decide) ?_
            exact rd_zret (v := 1) hx hb hr hlocks rfl (by rw [(show m_X2_hasRivalAhead ss ks i = true from by simp only [m_X2_hasRivalAhead, if_neg c_3, if_pos c_4, if_neg c_5, if_neg c_6])]; rfl) dX2_hasRivalAhead_106
      by_cases c_7 : (ss i) = 45
      · skip
        refine lv_lookup (off := 89) (tgt := 107) hx hb dX2_hasRivalAhead_18 (by decide) (by rw [c_7]; decide) (by decide) ?_
        refine lv_sipush (v := 3840) hx hb dX2_hasRivalAhead_107 (by decide) ?_
        refine lv_aload_n hx hb dX2_hasRivalAhead_110 rfl (lv_at hl 0 rfl) ?_
        refine va_get (D := (dC, dI)) (ci := 3) (v := .ref h4) (C := RX2) (T := TX2) (N := 6) hx hb hts (by decide +kernel) hown hK hP 0 rfl rfl 3 (by decide) (hts (.fieldLink RX2 21 "PictureRows$Runs" "kinds" "[I") (by decide +kernel)) (fun _ h9 => h9) rfl dX2_hasRivalAhead_111 ?_
        refine lv_iload_n hx hb dX2_hasRivalAhead_114 rfl (lv_at hl 1 rfl) ?_
        refine rd_iald hx hb hK hP 2 0 rfl rfl (i) (by omega) (by omega) dX2_hasRivalAhead_115 ?_
        refine rd_callSN (As := [.int 3840, .int (ks i)]) (rest := []) ⟨hx, hb, hml, hown, hts⟩ hE (c_X4_holds l dC dI 3840 (ks i) ) ⟨va_cnB 2 hts gX2_hasRivalAhead_X4_holds_n67 rfl rfl rfl (hE.1.2 ("PictureRows$Runs", 67, yX4_holds) (by decide)) (hts (.initialized RX4) (by decide +kernel)) (by decide +kernel) ⟨Nat.le_of_ble_eq_true rfl, Nat.le_of_ble_eq_true rfl⟩, hts (.static yX4_holds) (by decide +kernel), trivial⟩ (hP.sub (ws' := []) [] rfl) (hK.sub [] rfl) rfl hl.1 rfl (Nat.le_of_ble_eq_true rfl) dX2_hasRivalAhead_116 ⟨Nat.zero_le _, Nat.zero_le _⟩ (fun r9 hr9 => ?_)
        subst hr9
        refine lv_if_eq (tgt := 136) hx hb dX2_hasRivalAhead_119 (by decide) (fun c_8 => ?_) (fun c_8 => ?_)
        · skip
          have c_8 := bI_0 c_8
          refine lv_iconst (v := 0) hx hb dX2_hasRivalAhead_136 (by decide) ?_
          exact rd_zret (v := 0) hx hb hr hlocks rfl (by rw [(show m_X2_hasRivalAhead ss ks i = false from by simp only [m_X2_hasRivalAhead, if_neg c_3, if_neg c_4, if_pos c_7, if_pos c_8])]; rfl) dX2_hasRivalAhead_137
        · skip
          have c_8 := bI_n0 c_8
          refine lv_aload_n hx hb dX2_hasRivalAhead_122 rfl (lv_at hl 0 rfl) ?_
          refine lv_bipush (v := 43) hx hb dX2_hasRivalAhead_123 (by decide) ?_
          refine lv_iload_n hx hb dX2_hasRivalAhead_125 rfl (lv_at hl 1 rfl) ?_
          refine rd_callV (As := [.int 43, .int (nI i)]) (rest := []) ⟨hx, hb, hml, hown, hts⟩ hE (c_X2_standsAhead l dC dI h0 h1 h2 h3 h4 h5 cA sz ss 43 i (by omega) (by omega)) (cwV 2 hts gX2_hasRivalAhead_X2_standsAhead rfl rfl rfl (by decide +kernel) ⟨Nat.le_of_ble_eq_true rfl, Nat.le_of_ble_eq_true rfl⟩) (hP.sub (ws' := [(h0, .inr (3, [.ref h1, .ref h2, .ref h3, .ref h4, .ref h5, .int (nI sz)])), (h1, .inl (cA, 80, .inl ss))]) [0, 1] rfl) (hK.sub [0] rfl) (va_recv hK hP (ci := 3) (q0 := 0) rfl rfl) rfl hl.1 rfl (Nat.le_of_ble_eq_true rfl) dX2_hasRivalAhead_126 ⟨Nat.zero_le _, Nat.zero_le _⟩ (fun r9 hr9 => ?_)
          subst hr9
          refine lv_if_eq (tgt := 136) hx hb dX2_hasRivalAhead_129 (by decide) (fun c_9 => ?_) (fun c_9 => ?_)
          · skip
            have c_9 := bI_0 c_9
            refine lv_iconst (v := 0) hx hb dX2_hasRivalAhead_136 (by decide) ?_
            exact rd_zret (v := 0) hx hb hr hlocks rfl (by rw [(show m_X2_hasRivalAhead ss ks i = false from by simp only [m_X2_hasRivalAhead, if_neg c_3, if_neg c_4, if_pos c_7, if_neg c_8, if_pos c_9])]; rfl) dX2_hasRivalAhead_137
          · skip
            have c_9 := bI_n0 c_9
            refine lv_iconst (v := 1) hx hb dX2_hasRivalAhead_132 (by decide) ?_
            refine lv_goto (tgt := 137) hx hb dX2_hasRivalAhead_133 (by decide) ?_
            exact rd_zret (v := 1) hx hb hr hlocks rfl (by rw [(show m_X2_hasRivalAhead ss ks i = true from by simp only [m_X2_hasRivalAhead, if_neg c_3, if_neg c_4, if_pos c_7, if_neg c_8, if_neg c_9])]; rfl) dX2_hasRivalAhead_137
      by_cases c_10 : (ss i) = 90
      · skip
        refine lv_lookup (off := 42) (tgt := 60) hx hb dX2_hasRivalAhead_18 (by decide) (by rw [c_10]; decide) (by decide) ?_
        refine lv_aload_n hx hb dX2_hasRivalAhead_60 rfl (lv_at hl 0 rfl) ?_
        refine lv_bipush (v := 42) hx hb dX2_hasRivalAhead_61 (by decide) ?_
        refine lv_iload_n hx hb dX2_hasRivalAhead_63 rfl (lv_at hl 1 rfl) ?_
        refine rd_callV (As := [.int 42, .int (nI i)]) (rest := []) ⟨hx, hb, hml, hown, hts⟩ hE (c_X2_standsAhead l dC dI h0 h1 h2 h3 h4 h5 cA sz ss 42 i (by omega) (by omega)) (cwV 2 hts gX2_hasRivalAhead_X2_standsAhead rfl rfl rfl (by decide +kernel) ⟨Nat.le_of_ble_eq_true rfl, Nat.le_of_ble_eq_true rfl⟩) (hP.sub (ws' := [(h0, .inr (3, [.ref h1, .ref h2, .ref h3, .ref h4, .ref h5, .int (nI sz)])), (h1, .inl (cA, 80, .inl ss))]) [0, 1] rfl) (hK.sub [0] rfl) (va_recv hK hP (ci := 3) (q0 := 0) rfl rfl) rfl hl.1 rfl (Nat.le_of_ble_eq_true rfl) dX2_hasRivalAhead_64 ⟨Nat.zero_le _, Nat.zero_le _⟩ (fun r9 hr9 => ?_)
        subst hr9
        exact rd_zret (v := bI (m_X2_standsAhead ss 42 i)) hx hb hr hlocks (bI_nar _) (by rw [(show m_X2_hasRivalAhead ss ks i = m_X2_standsAhead ss 42 i from by simp only [m_X2_hasRivalAhead, if_neg c_3, if_neg c_4, if_neg c_7, if_pos c_10])]) dX2_hasRivalAhead_67
      refine lv_lookup (off := 120) (tgt := 138) hx hb dX2_hasRivalAhead_18 (by decide) (by show Op.lookupswitch.offset [(42, 50), (43, 58), (45, 89), (90, 42)] _ _ = _; rw [lv_osw c_3 (by decide), lv_osw c_4 (by decide), lv_osw c_7 (by decide), lv_osw c_10 (by decide)]; rfl) (by decide) ?_
      refine lv_iconst (v := 0) hx hb dX2_hasRivalAhead_138 (by decide) ?_
      exact rd_zret (v := 0) hx hb hr hlocks rfl (by rw [(show m_X2_hasRivalAhead ss ks i = false from by simp only [m_X2_hasRivalAhead, if_neg c_3, if_neg c_4, if_neg c_7, if_neg c_10])]; rfl) dX2_hasRivalAhead_139
    · skip
      have c_2 : ¬ i < 80 := (fun q_ => c_2 ((nI_ltI (a := i) (b := 80) (by omega) (by omega)).mpr q_))
      exfalso; omega
def m_X2_categoryOf (ss : Nat → Int32) (sz : Nat) (pr : Int32) : Int32 := if (m_X4_holds pr 18) = false then (if (m_X4_holds pr 13) = false then (if (pr &&& (-249857)) = 0 then 3 else 4) else (if (m_X4_holds pr 0) = false then (if (m_X2_standsAhead ss 88 sz) = false then (if (m_X2_standsAhead ss 57 sz) = false then 0 else 1) else 1) else 2)) else (if (m_X4_holds pr 0) = false then 5 else 6)
set_option maxHeartbeats 4000000 in
set_option maxRecDepth 100000 in
theorem c_X2_categoryOf (l : Launch) (dC : Nat → ClassId) (dI : Nat → Nat → Nat) (h0 : Nat) (h1 : Nat) (h2 : Nat) (h3 : Nat) (h4 : Nat) (h5 : Nat) (cA : ClassId) (ss : Nat → Int32) (sz : Nat) (pr : Int32) (hsz : sz ≤ 80) : Met l yX2_categoryOf wsX2_categoryOf ({ frames := 1, cells := 0, slots := 0, locals := 23 } : Room) (va_Pc [.ref h0, .int pr] (rd_P (dC, dI) vwCl [(h0, .inr (3, [.ref h1, .ref h2, .ref h3, .ref h4, .ref h5, .int (nI sz)])), (h1, .inl (cA, 80, .inl ss))] [(cA, .int)])) (vp_Si (fun r => r = m_X2_categoryOf ss sz pr)) 0 0 (fun _ => False) := by
  refine Met.ofW (cc := cX2_categoryOf) (maxL := 2) (ret := (some .int)) (by decide) rfl ?_
  intro p e s m args below meth c s₁ B hml hv
  obtain ⟨rfl, hE, hP, hK⟩ := hv
  have hx := B.exec
  have hb := B.bytes
  have hr := B.returns
  have hts := atoms_spec (ws := wsX2_categoryOf) B.pre
  have hown : s.vm.findClass RX2 = some m.cls := findClass_of_methodNamed B.named
  have hlocks := B.notSynchronized
  have hl := lv_entry ([.ref h0, .int pr]) (n := 2) (Nat.le_of_ble_eq_true rfl)
  rw [lg_entry_eq]
  generalize (lg_sl ([.ref h0, .int pr]) ++ List.replicate (2 - (lg_sl ([.ref h0, .int pr])).length) Slot.unset).toArray = ls at hl ⊢
  have hl : lv_has ls 2 [(0, .ref h0), (1, .int pr)] := hl
  refine lv_iload_n hx hb dX2_categoryOf_0 rfl (lv_at hl 1 rfl) ?_
  refine lv_bipush (v := 18) hx hb dX2_categoryOf_1 (by decide) ?_
  refine rd_callSN (As := [.int pr, .int 18]) (rest := []) ⟨hx, hb, hml, hown, hts⟩ hE (c_X4_holds l dC dI pr 18 ) ⟨va_cnB 2 hts gX2_categoryOf_X4_holds_n67 rfl rfl rfl (hE.1.2 ("PictureRows$Runs", 67, yX4_holds) (by decide)) (hts (.initialized RX4) (by decide +kernel)) (by decide +kernel) ⟨Nat.le_of_ble_eq_true rfl, Nat.le_of_ble_eq_true rfl⟩, hts (.static yX4_holds) (by decide +kernel), trivial⟩ (hP.sub (ws' := []) [] rfl) (hK.sub [] rfl) rfl hl.1 rfl (Nat.le_of_ble_eq_true rfl) dX2_categoryOf_3 ⟨Nat.zero_le _, Nat.zero_le _⟩ (fun r9 hr9 => ?_)
  subst hr9
  refine lv_if_eq (tgt := 24) hx hb dX2_categoryOf_6 (by decide) (fun c_1 => ?_) (fun c_1 => ?_)
  · skip
    have c_1 := bI_0 c_1
    refine lv_iload_n hx hb dX2_categoryOf_24 rfl (lv_at hl 1 rfl) ?_
    refine lv_bipush (v := 13) hx hb dX2_categoryOf_25 (by decide) ?_
    refine rd_callSN (As := [.int pr, .int 13]) (rest := []) ⟨hx, hb, hml, hown, hts⟩ hE (c_X4_holds l dC dI pr 13 ) ⟨va_cnB 2 hts gX2_categoryOf_X4_holds_n67 rfl rfl rfl (hE.1.2 ("PictureRows$Runs", 67, yX4_holds) (by decide)) (hts (.initialized RX4) (by decide +kernel)) (by decide +kernel) ⟨Nat.le_of_ble_eq_true rfl, Nat.le_of_ble_eq_true rfl⟩, hts (.static yX4_holds) (by decide +kernel), trivial⟩ (hP.sub (ws' := []) [] rfl) (hK.sub [] rfl) rfl hl.1 rfl (Nat.le_of_ble_eq_true rfl) dX2_categoryOf_27 ⟨Nat.zero_le _, Nat.zero_le _⟩ (fun r9 hr9 => ?_)
    subst hr9
    refine lv_if_eq (tgt := 75) hx hb dX2_categoryOf_30 (by decide) (fun c_2 => ?_) (fun c_2 => ?_)
    · skip
      have c_2 := bI_0 c_2
      refine lv_iload_n hx hb dX2_categoryOf_75 rfl (lv_at hl 1 rfl) ?_
      refine lv_ldc (v := (-249857)) hx hb hown (hts (.constant RX2 93 (-249857)) (by decide +kernel)) dX2_categoryOf_76 ?_
      refine lv_iand hx hb dX2_categoryOf_78 ?_
      refine lv_if_ne (tgt := 86) hx hb dX2_categoryOf_79 (by decide) (fun c_3 => ?_) (fun c_3 => ?_)
      · skip
        refine lv_iconst (v := 4) hx hb dX2_categoryOf_86 (by decide) ?_
        exact rd_iret (v := 4) hx hb hr hlocks (show m_X2_categoryOf ss sz pr = 4 from by simp only [m_X2_categoryOf, if_pos c_1, if_pos c_2, if_neg c_3]).symm dX2_categoryOf_87
      · skip
        refine lv_iconst (v := 3) hx hb dX2_categoryOf_82 (by decide) ?_
        refine lv_goto (tgt := 87) hx hb dX2_categoryOf_83 (by decide) ?_
        exact rd_iret (v := 3) hx hb hr hlocks (show m_X2_categoryOf ss sz pr = 3 from by simp only [m_X2_categoryOf, if_pos c_1, if_pos c_2, if_pos c_3]).symm dX2_categoryOf_87
    · skip
      have c_2 := bI_n0 c_2
      refine lv_iload_n hx hb dX2_categoryOf_33 rfl (lv_at hl 1 rfl) ?_
      refine lv_iconst (v := 0) hx hb dX2_categoryOf_34 (by decide) ?_
      refine rd_callSN (As := [.int pr, .int 0]) (rest := []) ⟨hx, hb, hml, hown, hts⟩ hE (c_X4_holds l dC dI pr 0 ) ⟨va_cnB 2 hts gX2_categoryOf_X4_holds_n67 rfl rfl rfl (hE.1.2 ("PictureRows$Runs", 67, yX4_holds) (by decide)) (hts (.initialized RX4) (by decide +kernel)) (by decide +kernel) ⟨Nat.le_of_ble_eq_true rfl, Nat.le_of_ble_eq_true rfl⟩, hts (.static yX4_holds) (by decide +kernel), trivial⟩ (hP.sub (ws' := []) [] rfl) (hK.sub [] rfl) rfl hl.1 rfl (Nat.le_of_ble_eq_true rfl) dX2_categoryOf_35 ⟨Nat.zero_le _, Nat.zero_le _⟩ (fun r9 hr9 => ?_)
      subst hr9
      refine lv_if_eq (tgt := 43) hx hb dX2_categoryOf_38 (by decide) (fun c_4 => ?_) (fun c_4 => ?_)
      · skip
        have c_4 := bI_0 c_4
        refine lv_aload_n hx hb dX2_categoryOf_43 rfl (lv_at hl 0 rfl) ?_
        refine lv_bipush (v := 88) hx hb dX2_categoryOf_44 (by decide) ?_
        refine lv_aload_n hx hb dX2_categoryOf_46 rfl (lv_at hl 0 rfl) ?_
        refine va_get (D := (dC, dI)) (ci := 3) (v := .int (nI sz)) (C := RX2) (T := TX2) (N := 6) hx hb hts (by decide +kernel) hown hK hP 0 rfl rfl 5 (by decide) (hts (.fieldLink RX2 27 "PictureRows$Runs" "size" "I") (by decide +kernel)) (fun _ h9 => h9) rfl dX2_categoryOf_47 ?_
        refine rd_callV (As := [.int 88, .int (nI sz)]) (rest := []) ⟨hx, hb, hml, hown, hts⟩ hE (c_X2_standsAhead l dC dI h0 h1 h2 h3 h4 h5 cA sz ss 88 sz (by omega) (by omega)) (cwV 2 hts gX2_categoryOf_X2_standsAhead rfl rfl rfl (by decide +kernel) ⟨Nat.le_of_ble_eq_true rfl, Nat.le_of_ble_eq_true rfl⟩) (hP.sub (ws' := [(h0, .inr (3, [.ref h1, .ref h2, .ref h3, .ref h4, .ref h5, .int (nI sz)])), (h1, .inl (cA, 80, .inl ss))]) [0, 1] rfl) (hK.sub [0] rfl) (va_recv hK hP (ci := 3) (q0 := 0) rfl rfl) rfl hl.1 rfl (Nat.le_of_ble_eq_true rfl) dX2_categoryOf_50 ⟨Nat.zero_le _, Nat.zero_le _⟩ (fun r9 hr9 => ?_)
        subst hr9
        refine lv_if_ne (tgt := 69) hx hb dX2_categoryOf_53 (by decide) (fun c_5 => ?_) (fun c_5 => ?_)
        · skip
          have c_5 := bI_n0 c_5
          refine lv_iconst (v := 1) hx hb dX2_categoryOf_69 (by decide) ?_
          refine lv_goto (tgt := 74) hx hb dX2_categoryOf_70 (by decide) ?_
          exact rd_iret (v := 1) hx hb hr hlocks (show m_X2_categoryOf ss sz pr = 1 from by simp only [m_X2_categoryOf, if_pos c_1, if_neg c_2, if_pos c_4, if_neg c_5]).symm dX2_categoryOf_74
        · skip
          have c_5 := bI_0 c_5
          refine lv_aload_n hx hb dX2_categoryOf_56 rfl (lv_at hl 0 rfl) ?_
          refine lv_bipush (v := 57) hx hb dX2_categoryOf_57 (by decide) ?_
          refine lv_aload_n hx hb dX2_categoryOf_59 rfl (lv_at hl 0 rfl) ?_
          refine va_get (D := (dC, dI)) (ci := 3) (v := .int (nI sz)) (C := RX2) (T := TX2) (N := 6) hx hb hts (by decide +kernel) hown hK hP 0 rfl rfl 5 (by decide) (hts (.fieldLink RX2 27 "PictureRows$Runs" "size" "I") (by decide +kernel)) (fun _ h9 => h9) rfl dX2_categoryOf_60 ?_
          refine rd_callV (As := [.int 57, .int (nI sz)]) (rest := []) ⟨hx, hb, hml, hown, hts⟩ hE (c_X2_standsAhead l dC dI h0 h1 h2 h3 h4 h5 cA sz ss 57 sz (by omega) (by omega)) (cwV 2 hts gX2_categoryOf_X2_standsAhead rfl rfl rfl (by decide +kernel) ⟨Nat.le_of_ble_eq_true rfl, Nat.le_of_ble_eq_true rfl⟩) (hP.sub (ws' := [(h0, .inr (3, [.ref h1, .ref h2, .ref h3, .ref h4, .ref h5, .int (nI sz)])), (h1, .inl (cA, 80, .inl ss))]) [0, 1] rfl) (hK.sub [0] rfl) (va_recv hK hP (ci := 3) (q0 := 0) rfl rfl) rfl hl.1 rfl (Nat.le_of_ble_eq_true rfl) dX2_categoryOf_63 ⟨Nat.zero_le _, Nat.zero_le _⟩ (fun r9 hr9 => ?_)
          subst hr9
          refine lv_if_eq (tgt := 73) hx hb dX2_categoryOf_66 (by decide) (fun c_6 => ?_) (fun c_6 => ?_)
          · skip
            have c_6 := bI_0 c_6
            refine lv_iconst (v := 0) hx hb dX2_categoryOf_73 (by decide) ?_
            exact rd_iret (v := 0) hx hb hr hlocks (show m_X2_categoryOf ss sz pr = 0 from by simp only [m_X2_categoryOf, if_pos c_1, if_neg c_2, if_pos c_4, if_pos c_5, if_pos c_6]).symm dX2_categoryOf_74
          · skip
            have c_6 := bI_n0 c_6
            refine lv_iconst (v := 1) hx hb dX2_categoryOf_69 (by decide) ?_
            refine lv_goto (tgt := 74) hx hb dX2_categoryOf_70 (by decide) ?_
            exact rd_iret (v := 1) hx hb hr hlocks (show m_X2_categoryOf ss sz pr = 1 from by simp only [m_X2_categoryOf, if_pos c_1, if_neg c_2, if_pos c_4, if_pos c_5, if_neg c_6]).symm dX2_categoryOf_74
      · skip
        have c_4 := bI_n0 c_4
        refine lv_iconst (v := 2) hx hb dX2_categoryOf_41 (by decide) ?_
        exact rd_iret (v := 2) hx hb hr hlocks (show m_X2_categoryOf ss sz pr = 2 from by simp only [m_X2_categoryOf, if_pos c_1, if_neg c_2, if_neg c_4]).symm dX2_categoryOf_42
  · skip
    have c_1 := bI_n0 c_1
    refine lv_iload_n hx hb dX2_categoryOf_9 rfl (lv_at hl 1 rfl) ?_
    refine lv_iconst (v := 0) hx hb dX2_categoryOf_10 (by decide) ?_
    refine rd_callSN (As := [.int pr, .int 0]) (rest := []) ⟨hx, hb, hml, hown, hts⟩ hE (c_X4_holds l dC dI pr 0 ) ⟨va_cnB 2 hts gX2_categoryOf_X4_holds_n67 rfl rfl rfl (hE.1.2 ("PictureRows$Runs", 67, yX4_holds) (by decide)) (hts (.initialized RX4) (by decide +kernel)) (by decide +kernel) ⟨Nat.le_of_ble_eq_true rfl, Nat.le_of_ble_eq_true rfl⟩, hts (.static yX4_holds) (by decide +kernel), trivial⟩ (hP.sub (ws' := []) [] rfl) (hK.sub [] rfl) rfl hl.1 rfl (Nat.le_of_ble_eq_true rfl) dX2_categoryOf_11 ⟨Nat.zero_le _, Nat.zero_le _⟩ (fun r9 hr9 => ?_)
    subst hr9
    refine lv_if_eq (tgt := 22) hx hb dX2_categoryOf_14 (by decide) (fun c_7 => ?_) (fun c_7 => ?_)
    · skip
      have c_7 := bI_0 c_7
      refine lv_iconst (v := 5) hx hb dX2_categoryOf_22 (by decide) ?_
      exact rd_iret (v := 5) hx hb hr hlocks (show m_X2_categoryOf ss sz pr = 5 from by simp only [m_X2_categoryOf, if_neg c_1, if_pos c_7]).symm dX2_categoryOf_23
    · skip
      have c_7 := bI_n0 c_7
      refine lv_bipush (v := 6) hx hb dX2_categoryOf_17 (by decide) ?_
      refine lv_goto (tgt := 23) hx hb dX2_categoryOf_19 (by decide) ?_
      exact rd_iret (v := 6) hx hb hr hlocks (show m_X2_categoryOf ss sz pr = 6 from by simp only [m_X2_categoryOf, if_neg c_1, if_neg c_7]).symm dX2_categoryOf_23
def m_X2_digitsIn_L9 (ds : Nat → Int32) (sz : Nat) (en : Nat) : Nat → Nat → Int32 → Int32
  | 0, _, _ => 0
  | k9 + 1, i, x3 => if en ≤ i then x3 else (if sz ≤ i then x3 else (m_X2_digitsIn_L9 ds sz en k9 (i + 1) (x3 + (ds i))))
def m_X2_digitsIn (ds : Nat → Int32) (sz : Nat) (st : Nat) (en : Nat) : Int32 := m_X2_digitsIn_L9 ds sz en (80 + 1) st 0
set_option maxHeartbeats 4000000 in
set_option maxRecDepth 100000 in
theorem c_X2_digitsIn (l : Launch) (dC : Nat → ClassId) (dI : Nat → Nat → Nat) (h0 : Nat) (h1 : Nat) (h2 : Nat) (h3 : Nat) (h4 : Nat) (h5 : Nat) (cA : ClassId) (ds : Nat → Int32) (sz : Nat) (st : Nat) (en : Nat) (hsz : sz ≤ 80) (hst : st ≤ 80) (hen : en ≤ 80) : Met l yX2_digitsIn wsX2_digitsIn ({ frames := 1, cells := 0, slots := 0, locals := 24 } : Room) (va_Pc [.ref h0, .int (nI st), .int (nI en)] (rd_P (dC, dI) vwCl [(h0, .inr (3, [.ref h1, .ref h2, .ref h3, .ref h4, .ref h5, .int (nI sz)])), (h5, .inl (cA, 80, .inl ds))] [(cA, .int)])) (vp_Si (fun r => r = m_X2_digitsIn ds sz st en)) 0 0 (fun _ => False) := by
  refine Met.ofW (cc := cX2_digitsIn) (maxL := 5) (ret := (some .int)) (by decide) rfl ?_
  intro p e s m args below meth c s₁ B hml hv
  obtain ⟨rfl, hE, hP, hK⟩ := hv
  have hx := B.exec
  have hb := B.bytes
  have hr := B.returns
  have hts := atoms_spec (ws := wsX2_digitsIn) B.pre
  have hown : s.vm.findClass RX2 = some m.cls := findClass_of_methodNamed B.named
  have hlocks := B.notSynchronized
  have hl := lv_entry ([.ref h0, .int (nI st), .int (nI en)]) (n := 5) (Nat.le_of_ble_eq_true rfl)
  rw [lg_entry_eq]
  generalize (lg_sl ([.ref h0, .int (nI st), .int (nI en)]) ++ List.replicate (5 - (lg_sl ([.ref h0, .int (nI st), .int (nI en)])).length) Slot.unset).toArray = ls at hl ⊢
  have hl : lv_has ls 5 [(0, .ref h0), (1, .int (nI st)), (2, .int (nI en))] := hl
  refine lv_iconst (v := 0) hx hb dX2_digitsIn_0 (by decide) ?_
  refine lv_istore_n (lv' := [(3, .int 0), (0, .ref h0), (1, .int (nI st)), (2, .int (nI en))]) hx hb dX2_digitsIn_1 rfl hl (by decide) rfl (fun ls hl => ?_)
  refine lv_iload_n hx hb dX2_digitsIn_2 rfl (lv_at hl 2 rfl) ?_
  refine lv_iconst (v := 0) hx hb dX2_digitsIn_3 (by decide) ?_
  refine va_mmax (x := nI st) (y := 0) hx hb (hml.trans hl.1.symm) hown (hts (.methodLink RX2 88 Lib.Math.max.name) (by decide +kernel)) (hts (.static Lib.Math.max.name) (by decide +kernel)) (hts (.initialized "java/lang/Math") (by decide +kernel)) (hts (.code Lib.Math.max.name Lib.Math.max.code 2 (some .int)) (by decide +kernel)) (Nat.le_of_ble_eq_true rfl) (Nat.le_of_ble_eq_true rfl) (Nat.zero_le _) (Nat.zero_le _) dX2_digitsIn_4 ?_
  rw [if_neg (nI_pos (n := st) (by omega))]
  refine lv_istore (lv' := [(4, .int (nI st)), (3, .int 0), (0, .ref h0), (1, .int (nI st)), (2, .int (nI en))]) hx hb dX2_digitsIn_7 hl (by decide) rfl (fun ls hl => ?_)
  have lp_9 : ∀ (k9 i : Nat) (x3 : Int32), i ≤ 80 → 80 + 1 ≤ i + k9 → m_X2_digitsIn ds sz st en = m_X2_digitsIn_L9 ds sz en k9 i x3 → ∀ (ls : Array Slot), lv_has ls 5 [(0, .ref h0), (1, .int (nI st)), (2, .int (nI en)), (3, .int x3), (4, .int (nI i))] → W p l e (headSpec wsX2_digitsIn ({ frames := 1, cells := 0, slots := 0, locals := 24 } : Room)).room s m (([.ref h0, .int (nI st), .int (nI en)] : List Value).toArray) below meth c s.heap [] 0 0 (MQ below (vp_Si (fun r => r = m_X2_digitsIn ds sz st en)) (([.ref h0, .int (nI st), .int (nI en)] : List Value).toArray) s 0 0 (fun _ => False)) (F0 m 9 ls []) := by
    intro k9
    induction k9 with
    | zero => intro i x3 h1_ h2_; exfalso; omega
    | succ k9 ih9 =>
      intro i x3 hb9 hf9  hm9 ls hl
      refine lv_iload hx hb dX2_digitsIn_9 (lv_at hl 4 rfl) ?_
      refine lv_iload_n hx hb dX2_digitsIn_11 rfl (lv_at hl 2 rfl) ?_
      refine lv_icmp_ge (tgt := 47) hx hb dX2_digitsIn_12 (by decide) (fun c_1 => ?_) (fun c_1 => ?_)
      · skip
        have c_1 : en ≤ i := (nI_leI (a := en) (b := i) (by omega) (by omega)).mp c_1
        refine lv_iload_n hx hb dX2_digitsIn_47 rfl (lv_at hl 3 rfl) ?_
        exact rd_iret (v := x3) hx hb hr hlocks (show m_X2_digitsIn ds sz st en = x3 from hm9.trans (by simp only [m_X2_digitsIn_L9, if_pos c_1])).symm dX2_digitsIn_48
      · skip
        have c_1 : ¬ en ≤ i := (fun q_ => c_1 ((nI_leI (a := en) (b := i) (by omega) (by omega)).mpr q_))
        refine lv_iload hx hb dX2_digitsIn_15 (lv_at hl 4 rfl) ?_
        refine lv_aload_n hx hb dX2_digitsIn_17 rfl (lv_at hl 0 rfl) ?_
        refine va_get (D := (dC, dI)) (ci := 3) (v := .int (nI sz)) (C := RX2) (T := TX2) (N := 6) hx hb hts (by decide +kernel) hown hK hP 0 rfl rfl 5 (by decide) (hts (.fieldLink RX2 27 "PictureRows$Runs" "size" "I") (by decide +kernel)) (fun _ h9 => h9) rfl dX2_digitsIn_18 ?_
        refine lv_icmp_ge (tgt := 47) hx hb dX2_digitsIn_21 (by decide) (fun c_2 => ?_) (fun c_2 => ?_)
        · skip
          have c_2 : sz ≤ i := (nI_leI (a := sz) (b := i) (by omega) (by omega)).mp c_2
          refine lv_iload_n hx hb dX2_digitsIn_47 rfl (lv_at hl 3 rfl) ?_
          exact rd_iret (v := x3) hx hb hr hlocks (show m_X2_digitsIn ds sz st en = x3 from hm9.trans (by simp only [m_X2_digitsIn_L9, if_neg c_1, if_pos c_2])).symm dX2_digitsIn_48
        · skip
          have c_2 : ¬ sz ≤ i := (fun q_ => c_2 ((nI_leI (a := sz) (b := i) (by omega) (by omega)).mpr q_))
          refine lv_iload hx hb dX2_digitsIn_24 (lv_at hl 4 rfl) ?_
          refine lv_bipush (v := 80) hx hb dX2_digitsIn_26 (by decide) ?_
          refine lv_icmp_ge (tgt := 47) hx hb dX2_digitsIn_28 (by decide) (fun c_3 => ?_) (fun c_3 => ?_)
          · skip
            have c_3 : 80 ≤ i := (nI_leI (a := 80) (b := i) (by omega) (by omega)).mp c_3
            exfalso; omega
          · skip
            have c_3 : ¬ 80 ≤ i := (fun q_ => c_3 ((nI_leI (a := 80) (b := i) (by omega) (by omega)).mpr q_))
            refine lv_iload_n hx hb dX2_digitsIn_31 rfl (lv_at hl 3 rfl) ?_
            refine lv_aload_n hx hb dX2_digitsIn_32 rfl (lv_at hl 0 rfl) ?_
            refine va_get (D := (dC, dI)) (ci := 3) (v := .ref h5) (C := RX2) (T := TX2) (N := 6) hx hb hts (by decide +kernel) hown hK hP 0 rfl rfl 4 (by decide) (hts (.fieldLink RX2 24 "PictureRows$Runs" "digitCounts" "[I") (by decide +kernel)) (fun _ h9 => h9) rfl dX2_digitsIn_33 ?_
            refine lv_iload hx hb dX2_digitsIn_36 (lv_at hl 4 rfl) ?_
            refine rd_iald hx hb hK hP 1 0 rfl rfl (i) (by omega) (by omega) dX2_digitsIn_38 ?_
            refine lv_iadd hx hb dX2_digitsIn_39 ?_
            refine lv_istore_n (lv' := [(3, .int (x3 + (ds i))), (0, .ref h0), (1, .int (nI st)), (2, .int (nI en)), (4, .int (nI i))]) hx hb dX2_digitsIn_40 rfl hl (by decide) rfl (fun ls hl => ?_)
            refine lv_iinc (v := nI (i + 1)) (lv' := [(4, .int (nI (i + 1))), (3, .int (x3 + (ds i))), (0, .ref h0), (1, .int (nI st)), (2, .int (nI en))]) hx hb dX2_digitsIn_41 hl (k := 4) rfl (nI_add (i) 1) (by decide) rfl (fun ls hl => ?_)
            refine lv_goto (tgt := 9) hx hb dX2_digitsIn_44 (by decide) ?_
            exact ih9 (i + 1) (x3 + (ds i)) (by omega) (by omega)  (hm9.trans (by simp only [m_X2_digitsIn_L9, if_neg c_1, if_neg c_2])) ls (lv_sub hl [2, 3, 4, 1, 0] rfl)
  exact lp_9 (80 + 1) (st) 0 (by omega) (by omega)  (show m_X2_digitsIn ds sz st en = m_X2_digitsIn_L9 ds sz en (80 + 1) st 0 from by simp only [m_X2_digitsIn]) ls (lv_sub hl [2, 3, 4, 1, 0] rfl)
def m_X2_firstMisplaced_L10 (ss : Nat → Int32) (ts : Nat → Int32) (ps : Nat → Int32) (ks : Nat → Int32) (ds : Nat → Int32) (sz : Nat) : Nat → Nat → Int32 → Int32 → Int32 → Int32
  | 0, _, _, _, _ => 0
  | k10 + 1, i, x1, x2, x3 => if sz ≤ i then ((-1)) else (if (m_X4_isKind (ks i)) = false then (ps i) else (if (m_X4_holds x1 (ks i)) = false then (ps i) else (if (ts i) ≤ 1 then (if (m_X2_hasRivalAhead ss ks i) = false then (if 31 < (x2 + (ds i)) then (ps i) else (if (x3 + (m_X4_signsCounted (ss i) (ts i))) ≤ 9999 then (m_X2_firstMisplaced_L10 ss ts ps ks ds sz k10 (i + 1) (x1 &&& (tbL.getD (ks i).toNatClampNeg 0)) (x2 + (ds i)) (x3 + (m_X4_signsCounted (ss i) (ts i)))) else (ps i))) else (ps i)) else (if (m_X4_holds (x1 &&& (tbL.getD (ks i).toNatClampNeg 0)) (ks i)) = false then (ps i) else (if (m_X2_hasRivalAhead ss ks i) = false then (if 31 < (x2 + (ds i)) then (ps i) else (if (x3 + (m_X4_signsCounted (ss i) (ts i))) ≤ 9999 then (m_X2_firstMisplaced_L10 ss ts ps ks ds sz k10 (i + 1) (x1 &&& (tbL.getD (ks i).toNatClampNeg 0)) (x2 + (ds i)) (x3 + (m_X4_signsCounted (ss i) (ts i)))) else (ps i))) else (ps i))))))
def m_X2_firstMisplaced (ss : Nat → Int32) (ts : Nat → Int32) (ps : Nat → Int32) (ks : Nat → Int32) (ds : Nat → Int32) (sz : Nat) : Int32 := m_X2_firstMisplaced_L10 ss ts ps ks ds sz (sz + 1) 0 524287 0 0
set_option maxHeartbeats 4000000 in
set_option maxRecDepth 100000 in
theorem c_X2_firstMisplaced (l : Launch) (dC : Nat → ClassId) (dI : Nat → Nat → Nat) (h0 : Nat) (h1 : Nat) (h2 : Nat) (h3 : Nat) (h4 : Nat) (h5 : Nat) (cA : ClassId) (ss : Nat → Int32) (ts : Nat → Int32) (ps : Nat → Int32) (ks : Nat → Int32) (ds : Nat → Int32) (sz : Nat) (hsz : sz ≤ 80) : Met l yX2_firstMisplaced wsX2_firstMisplaced ({ frames := 2, cells := 0, slots := 0, locals := 44 } : Room) (va_Pc [.ref h0] (rd_P (dC, dI) vwCl [(h0, .inr (3, [.ref h1, .ref h2, .ref h3, .ref h4, .ref h5, .int (nI sz)])), (h1, .inl (cA, 80, .inl ss)), (h2, .inl (cA, 80, .inl ts)), (h3, .inl (cA, 80, .inl ps)), (h4, .inl (cA, 80, .inl ks)), (h5, .inl (cA, 80, .inl ds))] [(cA, .int)])) (vp_Si (fun r => r = m_X2_firstMisplaced ss ts ps ks ds sz)) 0 0 (fun _ => False) := by
  refine Met.ofW (cc := cX2_firstMisplaced) (maxL := 6) (ret := (some .int)) (by decide) rfl ?_
  intro p e s m args below meth c s₁ B hml hv
  obtain ⟨rfl, hE, hP, hK⟩ := hv
  have hx := B.exec
  have hb := B.bytes
  have hr := B.returns
  have hts := atoms_spec (ws := wsX2_firstMisplaced) B.pre
  have hown : s.vm.findClass RX2 = some m.cls := findClass_of_methodNamed B.named
  have hlocks := B.notSynchronized
  have hl := lv_entry ([.ref h0]) (n := 6) (Nat.le_of_ble_eq_true rfl)
  rw [lg_entry_eq]
  generalize (lg_sl ([.ref h0]) ++ List.replicate (6 - (lg_sl ([.ref h0])).length) Slot.unset).toArray = ls at hl ⊢
  have hl : lv_has ls 6 [(0, .ref h0)] := hl
  obtain ⟨tbA, hZ, hT⟩ := hE.2.1
  refine lv_ldc (v := 524287) hx hb hown (hts (.constant RX2 74 524287) (by decide +kernel)) dX2_firstMisplaced_0 ?_
  refine lv_istore_n (lv' := [(1, .int 524287), (0, .ref h0)]) hx hb dX2_firstMisplaced_2 rfl hl (by decide) rfl (fun ls hl => ?_)
  refine lv_iconst (v := 0) hx hb dX2_firstMisplaced_3 (by decide) ?_
  refine lv_istore_n (lv' := [(2, .int 0), (1, .int 524287), (0, .ref h0)]) hx hb dX2_firstMisplaced_4 rfl hl (by decide) rfl (fun ls hl => ?_)
  refine lv_iconst (v := 0) hx hb dX2_firstMisplaced_5 (by decide) ?_
  refine lv_istore_n (lv' := [(3, .int 0), (2, .int 0), (1, .int 524287), (0, .ref h0)]) hx hb dX2_firstMisplaced_6 rfl hl (by decide) rfl (fun ls hl => ?_)
  refine lv_iconst (v := 0) hx hb dX2_firstMisplaced_7 (by decide) ?_
  refine lv_istore (lv' := [(4, .int 0), (3, .int 0), (2, .int 0), (1, .int 524287), (0, .ref h0)]) hx hb dX2_firstMisplaced_8 hl (by decide) rfl (fun ls hl => ?_)
  have lp_10 : ∀ (k10 i : Nat) (x1 : Int32) (x2 : Int32) (x3 : Int32), i ≤ sz → sz + 1 ≤ i + k10 → m_X2_firstMisplaced ss ts ps ks ds sz = m_X2_firstMisplaced_L10 ss ts ps ks ds sz k10 i x1 x2 x3 → ∀ (ls : Array Slot), lv_has ls 6 [(0, .ref h0), (1, .int x1), (2, .int x2), (3, .int x3), (4, .int (nI i))] → W p l e (headSpec wsX2_firstMisplaced ({ frames := 2, cells := 0, slots := 0, locals := 44 } : Room)).room s m (([.ref h0] : List Value).toArray) below meth c s.heap [] 0 0 (MQ below (vp_Si (fun r => r = m_X2_firstMisplaced ss ts ps ks ds sz)) (([.ref h0] : List Value).toArray) s 0 0 (fun _ => False)) (F0 m 10 ls []) := by
    intro k10
    induction k10 with
    | zero => intro i x1 x2 x3 h1_ h2_; exfalso; omega
    | succ k10 ih10 =>
      intro i x1 x2 x3 hb10 hf10  hm10 ls hl
      refine lv_iload hx hb dX2_firstMisplaced_10 (lv_at hl 4 rfl) ?_
      refine lv_aload_n hx hb dX2_firstMisplaced_12 rfl (lv_at hl 0 rfl) ?_
      refine va_get (D := (dC, dI)) (ci := 3) (v := .int (nI sz)) (C := RX2) (T := TX2) (N := 6) hx hb hts (by decide +kernel) hown hK hP 0 rfl rfl 5 (by decide) (hts (.fieldLink RX2 27 "PictureRows$Runs" "size" "I") (by decide +kernel)) (fun _ h9 => h9) rfl dX2_firstMisplaced_13 ?_
      refine lv_icmp_ge (tgt := 163) hx hb dX2_firstMisplaced_16 (by decide) (fun c_1 => ?_) (fun c_1 => ?_)
      · skip
        have c_1 : sz ≤ i := (nI_leI (a := sz) (b := i) (by omega) (by omega)).mp c_1
        refine lv_iconst (v := (-1)) hx hb dX2_firstMisplaced_163 (by decide) ?_
        exact rd_iret (v := (-1)) hx hb hr hlocks (show m_X2_firstMisplaced ss ts ps ks ds sz = (-1) from hm10.trans (by simp only [m_X2_firstMisplaced_L10, if_pos c_1])).symm dX2_firstMisplaced_164
      · skip
        have c_1 : ¬ sz ≤ i := (fun q_ => c_1 ((nI_leI (a := sz) (b := i) (by omega) (by omega)).mpr q_))
        refine lv_iload hx hb dX2_firstMisplaced_19 (lv_at hl 4 rfl) ?_
        refine lv_bipush (v := 80) hx hb dX2_firstMisplaced_21 (by decide) ?_
        refine lv_icmp_ge (tgt := 163) hx hb dX2_firstMisplaced_23 (by decide) (fun c_2 => ?_) (fun c_2 => ?_)
        · skip
          have c_2 : 80 ≤ i := (nI_leI (a := 80) (b := i) (by omega) (by omega)).mp c_2
          exfalso; omega
        · skip
          have c_2 : ¬ 80 ≤ i := (fun q_ => c_2 ((nI_leI (a := 80) (b := i) (by omega) (by omega)).mpr q_))
          refine lv_aload_n hx hb dX2_firstMisplaced_26 rfl (lv_at hl 0 rfl) ?_
          refine va_get (D := (dC, dI)) (ci := 3) (v := .ref h4) (C := RX2) (T := TX2) (N := 6) hx hb hts (by decide +kernel) hown hK hP 0 rfl rfl 3 (by decide) (hts (.fieldLink RX2 21 "PictureRows$Runs" "kinds" "[I") (by decide +kernel)) (fun _ h9 => h9) rfl dX2_firstMisplaced_27 ?_
          refine lv_iload hx hb dX2_firstMisplaced_30 (lv_at hl 4 rfl) ?_
          refine rd_iald hx hb hK hP 4 0 rfl rfl (i) (by omega) (by omega) dX2_firstMisplaced_32 ?_
          refine lv_istore (lv' := [(5, .int (ks i)), (0, .ref h0), (1, .int x1), (2, .int x2), (3, .int x3), (4, .int (nI i))]) hx hb dX2_firstMisplaced_33 hl (by decide) rfl (fun ls hl => ?_)
          refine lv_iload hx hb dX2_firstMisplaced_35 (lv_at hl 0 rfl) ?_
          refine rd_callSN (As := [.int (ks i)]) (rest := []) ⟨hx, hb, hml, hown, hts⟩ hE (c_X4_isKind l dC dI (ks i) ) ⟨va_cnB 1 hts gX2_firstMisplaced_X4_isKind_n75 rfl rfl rfl (hE.1.2 ("PictureRows$Runs", 75, yX4_isKind) (by decide)) (hts (.initialized RX4) (by decide +kernel)) (by decide +kernel) ⟨Nat.le_of_ble_eq_true rfl, Nat.le_of_ble_eq_true rfl⟩, hts (.static yX4_isKind) (by decide +kernel), trivial⟩ (hP.sub (ws' := []) [] rfl) (hK.sub [] rfl) rfl hl.1 rfl (Nat.le_of_ble_eq_true rfl) dX2_firstMisplaced_37 ⟨Nat.zero_le _, Nat.zero_le _⟩ (fun r9 hr9 => ?_)
          subst hr9
          refine lv_if_eq (tgt := 52) hx hb dX2_firstMisplaced_40 (by decide) (fun c_3 => ?_) (fun c_3 => ?_)
          · skip
            have c_3 := bI_0 c_3
            refine lv_aload_n hx hb dX2_firstMisplaced_52 rfl (lv_at hl 1 rfl) ?_
            refine va_get (D := (dC, dI)) (ci := 3) (v := .ref h3) (C := RX2) (T := TX2) (N := 6) hx hb hts (by decide +kernel) hown hK hP 0 rfl rfl 2 (by decide) (hts (.fieldLink RX2 18 "PictureRows$Runs" "places" "[I") (by decide +kernel)) (fun _ h9 => h9) rfl dX2_firstMisplaced_53 ?_
            refine lv_iload hx hb dX2_firstMisplaced_56 (lv_at hl 5 rfl) ?_
            refine rd_iald hx hb hK hP 3 0 rfl rfl (i) (by omega) (by omega) dX2_firstMisplaced_58 ?_
            exact rd_iret (v := ps i) hx hb hr hlocks (show m_X2_firstMisplaced ss ts ps ks ds sz = ps i from hm10.trans (by simp only [m_X2_firstMisplaced_L10, if_neg c_1, if_pos c_3])).symm dX2_firstMisplaced_59
          · skip
            have c_3 := bI_n0 c_3
            refine lv_iload_n hx hb dX2_firstMisplaced_43 rfl (lv_at hl 2 rfl) ?_
            refine lv_iload hx hb dX2_firstMisplaced_44 (lv_at hl 0 rfl) ?_
            refine rd_callSN (As := [.int x1, .int (ks i)]) (rest := []) ⟨hx, hb, hml, hown, hts⟩ hE (c_X4_holds l dC dI x1 (ks i) ) ⟨va_cnB 2 hts gX2_firstMisplaced_X4_holds_n67 rfl rfl rfl (hE.1.2 ("PictureRows$Runs", 67, yX4_holds) (by decide)) (hts (.initialized RX4) (by decide +kernel)) (by decide +kernel) ⟨Nat.le_of_ble_eq_true rfl, Nat.le_of_ble_eq_true rfl⟩, hts (.static yX4_holds) (by decide +kernel), trivial⟩ (hP.sub (ws' := []) [] rfl) (hK.sub [] rfl) rfl hl.1 rfl (Nat.le_of_ble_eq_true rfl) dX2_firstMisplaced_46 ⟨Nat.zero_le _, Nat.zero_le _⟩ (fun r9 hr9 => ?_)
            subst hr9
            refine lv_if_ne (tgt := 60) hx hb dX2_firstMisplaced_49 (by decide) (fun c_4 => ?_) (fun c_4 => ?_)
            · skip
              have c_4 := bI_n0 c_4
              refine lv_iload_n hx hb dX2_firstMisplaced_60 rfl (lv_at hl 2 rfl) ?_
              refine va_getsN hx hb hZ va_S.rf hown (va_Nw.use rfl (hE.1.1 ("PictureRows$Runs", 79, "PictureRows", "MAY_COME_BEHIND", "[I") (by decide))) (fun _ h9 => h9) dX2_firstMisplaced_61 ?_
              refine lv_iload hx hb dX2_firstMisplaced_64 (lv_at hl 0 rfl) ?_
              refine va_ti (v := .int (tbL.getD (ks i).toNatClampNeg 0)) hx hb hT va_S.rf (by exact kind_in (by assumption)) rfl dX2_firstMisplaced_66 ?_
              refine lv_iand hx hb dX2_firstMisplaced_67 ?_
              refine lv_istore_n (lv' := [(1, .int (x1 &&& (tbL.getD (ks i).toNatClampNeg 0))), (5, .int (ks i)), (0, .ref h0), (2, .int x2), (3, .int x3), (4, .int (nI i))]) hx hb dX2_firstMisplaced_68 rfl hl (by decide) rfl (fun ls hl => ?_)
              refine lv_aload_n hx hb dX2_firstMisplaced_69 rfl (lv_at hl 2 rfl) ?_
              refine va_get (D := (dC, dI)) (ci := 3) (v := .ref h2) (C := RX2) (T := TX2) (N := 6) hx hb hts (by decide +kernel) hown hK hP 0 rfl rfl 1 (by decide) (hts (.fieldLink RX2 15 "PictureRows$Runs" "times" "[I") (by decide +kernel)) (fun _ h9 => h9) rfl dX2_firstMisplaced_70 ?_
              refine lv_iload hx hb dX2_firstMisplaced_73 (lv_at hl 5 rfl) ?_
              refine rd_iald hx hb hK hP 2 0 rfl rfl (i) (by omega) (by omega) dX2_firstMisplaced_75 ?_
              refine lv_iconst (v := 1) hx hb dX2_firstMisplaced_76 (by decide) ?_
              refine lv_icmp_le (tgt := 89) hx hb dX2_firstMisplaced_77 (by decide) (fun c_5 => ?_) (fun c_5 => ?_)
              · skip
                refine lv_aload_n hx hb dX2_firstMisplaced_89 rfl (lv_at hl 2 rfl) ?_
                refine lv_iload hx hb dX2_firstMisplaced_90 (lv_at hl 5 rfl) ?_
                refine rd_callV (As := [.int (nI i)]) (rest := []) ⟨hx, hb, hml, hown, hts⟩ hE (c_X2_hasRivalAhead l dC dI h0 h1 h2 h3 h4 h5 cA sz ss ks i (by omega) (by omega)) (cwV 1 hts gX2_firstMisplaced_X2_hasRivalAhead rfl rfl rfl (by decide +kernel) ⟨Nat.le_of_ble_eq_true rfl, Nat.le_of_ble_eq_true rfl⟩) (hP.sub (ws' := [(h0, .inr (3, [.ref h1, .ref h2, .ref h3, .ref h4, .ref h5, .int (nI sz)])), (h1, .inl (cA, 80, .inl ss)), (h4, .inl (cA, 80, .inl ks))]) [0, 1, 4] rfl) (hK.sub [0] rfl) (va_recv hK hP (ci := 3) (q0 := 0) rfl rfl) rfl hl.1 rfl (Nat.le_of_ble_eq_true rfl) dX2_firstMisplaced_92 ⟨Nat.zero_le _, Nat.zero_le _⟩ (fun r9 hr9 => ?_)
                subst hr9
                refine lv_if_eq (tgt := 106) hx hb dX2_firstMisplaced_95 (by decide) (fun c_6 => ?_) (fun c_6 => ?_)
                · skip
                  have c_6 := bI_0 c_6
                  refine lv_iload_n hx hb dX2_firstMisplaced_106 rfl (lv_at hl 3 rfl) ?_
                  refine lv_aload_n hx hb dX2_firstMisplaced_107 rfl (lv_at hl 2 rfl) ?_
                  refine va_get (D := (dC, dI)) (ci := 3) (v := .ref h5) (C := RX2) (T := TX2) (N := 6) hx hb hts (by decide +kernel) hown hK hP 0 rfl rfl 4 (by decide) (hts (.fieldLink RX2 24 "PictureRows$Runs" "digitCounts" "[I") (by decide +kernel)) (fun _ h9 => h9) rfl dX2_firstMisplaced_108 ?_
                  refine lv_iload hx hb dX2_firstMisplaced_111 (lv_at hl 5 rfl) ?_
                  refine rd_iald hx hb hK hP 5 0 rfl rfl (i) (by omega) (by omega) dX2_firstMisplaced_113 ?_
                  refine lv_iadd hx hb dX2_firstMisplaced_114 ?_
                  refine lv_istore_n (lv' := [(2, .int (x2 + (ds i))), (1, .int (x1 &&& (tbL.getD (ks i).toNatClampNeg 0))), (5, .int (ks i)), (0, .ref h0), (3, .int x3), (4, .int (nI i))]) hx hb dX2_firstMisplaced_115 rfl hl (by decide) rfl (fun ls hl => ?_)
                  refine lv_iload_n hx hb dX2_firstMisplaced_116 rfl (lv_at hl 4 rfl) ?_
                  refine lv_aload_n hx hb dX2_firstMisplaced_117 rfl (lv_at hl 3 rfl) ?_
                  refine va_get (D := (dC, dI)) (ci := 3) (v := .ref h1) (C := RX2) (T := TX2) (N := 6) hx hb hts (by decide +kernel) hown hK hP 0 rfl rfl 0 (by decide) (hts (.fieldLink RX2 9 "PictureRows$Runs" "signs" "[I") (by decide +kernel)) (fun _ h9 => h9) rfl dX2_firstMisplaced_118 ?_
                  refine lv_iload hx hb dX2_firstMisplaced_121 (lv_at hl 5 rfl) ?_
                  refine rd_iald hx hb hK hP 1 0 rfl rfl (i) (by omega) (by omega) dX2_firstMisplaced_123 ?_
                  refine lv_aload_n hx hb dX2_firstMisplaced_124 rfl (lv_at hl 3 rfl) ?_
                  refine va_get (D := (dC, dI)) (ci := 3) (v := .ref h2) (C := RX2) (T := TX2) (N := 6) hx hb hts (by decide +kernel) hown hK hP 0 rfl rfl 1 (by decide) (hts (.fieldLink RX2 15 "PictureRows$Runs" "times" "[I") (by decide +kernel)) (fun _ h9 => h9) rfl dX2_firstMisplaced_125 ?_
                  refine lv_iload hx hb dX2_firstMisplaced_128 (lv_at hl 5 rfl) ?_
                  refine rd_iald hx hb hK hP 2 0 rfl rfl (i) (by omega) (by omega) dX2_firstMisplaced_130 ?_
                  refine rd_callSN (As := [.int (ss i), .int (ts i)]) (rest := [.int x3]) ⟨hx, hb, hml, hown, hts⟩ hE (c_X4_signsCounted l dC dI (ss i) (ts i) ) ⟨va_cnB 2 hts gX2_firstMisplaced_X4_signsCounted_n85 rfl rfl rfl (hE.1.2 ("PictureRows$Runs", 85, yX4_signsCounted) (by decide)) (hts (.initialized RX4) (by decide +kernel)) (by decide +kernel) ⟨Nat.le_of_ble_eq_true rfl, Nat.le_of_ble_eq_true rfl⟩, hts (.static yX4_signsCounted) (by decide +kernel), trivial⟩ (hP.sub (ws' := []) [] rfl) (hK.sub [] rfl) rfl hl.1 rfl (Nat.le_of_ble_eq_true rfl) dX2_firstMisplaced_131 ⟨Nat.zero_le _, Nat.zero_le _⟩ (fun r9 hr9 => ?_)
                  subst hr9
                  refine lv_iadd hx hb dX2_firstMisplaced_134 ?_
                  refine lv_istore_n (lv' := [(3, .int (x3 + (m_X4_signsCounted (ss i) (ts i)))), (2, .int (x2 + (ds i))), (1, .int (x1 &&& (tbL.getD (ks i).toNatClampNeg 0))), (5, .int (ks i)), (0, .ref h0), (4, .int (nI i))]) hx hb dX2_firstMisplaced_135 rfl hl (by decide) rfl (fun ls hl => ?_)
                  refine lv_iload_n hx hb dX2_firstMisplaced_136 rfl (lv_at hl 1 rfl) ?_
                  refine lv_bipush (v := 31) hx hb dX2_firstMisplaced_137 (by decide) ?_
                  refine lv_icmp_gt (tgt := 149) hx hb dX2_firstMisplaced_139 (by decide) (fun c_7 => ?_) (fun c_7 => ?_)
                  · skip
                    refine lv_aload_n hx hb dX2_firstMisplaced_149 rfl (lv_at hl 4 rfl) ?_
                    refine va_get (D := (dC, dI)) (ci := 3) (v := .ref h3) (C := RX2) (T := TX2) (N := 6) hx hb hts (by decide +kernel) hown hK hP 0 rfl rfl 2 (by decide) (hts (.fieldLink RX2 18 "PictureRows$Runs" "places" "[I") (by decide +kernel)) (fun _ h9 => h9) rfl dX2_firstMisplaced_150 ?_
                    refine lv_iload hx hb dX2_firstMisplaced_153 (lv_at hl 5 rfl) ?_
                    refine rd_iald hx hb hK hP 3 0 rfl rfl (i) (by omega) (by omega) dX2_firstMisplaced_155 ?_
                    exact rd_iret (v := ps i) hx hb hr hlocks (show m_X2_firstMisplaced ss ts ps ks ds sz = ps i from hm10.trans (by simp only [m_X2_firstMisplaced_L10, if_neg c_1, if_neg c_3, if_neg c_4, if_pos c_5, if_pos c_6, if_pos c_7])).symm dX2_firstMisplaced_156
                  · skip
                    refine lv_iload_n hx hb dX2_firstMisplaced_142 rfl (lv_at hl 0 rfl) ?_
                    refine lv_sipush (v := 9999) hx hb dX2_firstMisplaced_143 (by decide) ?_
                    refine lv_icmp_le (tgt := 157) hx hb dX2_firstMisplaced_146 (by decide) (fun c_8 => ?_) (fun c_8 => ?_)
                    · skip
                      refine lv_iinc (v := nI (i + 1)) (lv' := [(4, .int (nI (i + 1))), (3, .int (x3 + (m_X4_signsCounted (ss i) (ts i)))), (2, .int (x2 + (ds i))), (1, .int (x1 &&& (tbL.getD (ks i).toNatClampNeg 0))), (5, .int (ks i)), (0, .ref h0)]) hx hb dX2_firstMisplaced_157 hl (k := 5) rfl (nI_add (i) 1) (by decide) rfl (fun ls hl => ?_)
                      refine lv_goto (tgt := 10) hx hb dX2_firstMisplaced_160 (by decide) ?_
                      exact ih10 (i + 1) (x1 &&& (tbL.getD (ks i).toNatClampNeg 0)) (x2 + (ds i)) (x3 + (m_X4_signsCounted (ss i) (ts i))) (by omega) (by omega)  (hm10.trans (by simp only [m_X2_firstMisplaced_L10, if_neg c_1, if_neg c_3, if_neg c_4, if_pos c_5, if_pos c_6, if_neg c_7, if_pos c_8])) ls (lv_sub hl [5, 3, 2, 1, 0] rfl)
                    · skip
                      refine lv_aload_n hx hb dX2_firstMisplaced_149 rfl (lv_at hl 4 rfl) ?_
                      refine va_get (D := (dC, dI)) (ci := 3) (v := .ref h3) (C := RX2) (T := TX2) (N := 6) hx hb hts (by decide +kernel) hown hK hP 0 rfl rfl 2 (by decide) (hts (.fieldLink RX2 18 "PictureRows$Runs" "places" "[I") (by decide +kernel)) (fun _ h9 => h9) rfl dX2_firstMisplaced_150 ?_
                      refine lv_iload hx hb dX2_firstMisplaced_153 (lv_at hl 5 rfl) ?_
                      refine rd_iald hx hb hK hP 3 0 rfl rfl (i) (by omega) (by omega) dX2_firstMisplaced_155 ?_
                      exact rd_iret (v := ps i) hx hb hr hlocks (show m_X2_firstMisplaced ss ts ps ks ds sz = ps i from hm10.trans (by simp only [m_X2_firstMisplaced_L10, if_neg c_1, if_neg c_3, if_neg c_4, if_pos c_5, if_pos c_6, if_neg c_7, if_neg c_8])).symm dX2_firstMisplaced_156
                · skip
                  have c_6 := bI_n0 c_6
                  refine lv_aload_n hx hb dX2_firstMisplaced_98 rfl (lv_at hl 2 rfl) ?_
                  refine va_get (D := (dC, dI)) (ci := 3) (v := .ref h3) (C := RX2) (T := TX2) (N := 6) hx hb hts (by decide +kernel) hown hK hP 0 rfl rfl 2 (by decide) (hts (.fieldLink RX2 18 "PictureRows$Runs" "places" "[I") (by decide +kernel)) (fun _ h9 => h9) rfl dX2_firstMisplaced_99 ?_
                  refine lv_iload hx hb dX2_firstMisplaced_102 (lv_at hl 5 rfl) ?_
                  refine rd_iald hx hb hK hP 3 0 rfl rfl (i) (by omega) (by omega) dX2_firstMisplaced_104 ?_
                  exact rd_iret (v := ps i) hx hb hr hlocks (show m_X2_firstMisplaced ss ts ps ks ds sz = ps i from hm10.trans (by simp only [m_X2_firstMisplaced_L10, if_neg c_1, if_neg c_3, if_neg c_4, if_pos c_5, if_neg c_6])).symm dX2_firstMisplaced_105
              · skip
                refine lv_iload_n hx hb dX2_firstMisplaced_80 rfl (lv_at hl 0 rfl) ?_
                refine lv_iload hx hb dX2_firstMisplaced_81 (lv_at hl 1 rfl) ?_
                refine rd_callSN (As := [.int (x1 &&& (tbL.getD (ks i).toNatClampNeg 0)), .int (ks i)]) (rest := []) ⟨hx, hb, hml, hown, hts⟩ hE (c_X4_holds l dC dI (x1 &&& (tbL.getD (ks i).toNatClampNeg 0)) (ks i) ) ⟨va_cnB 2 hts gX2_firstMisplaced_X4_holds_n67 rfl rfl rfl (hE.1.2 ("PictureRows$Runs", 67, yX4_holds) (by decide)) (hts (.initialized RX4) (by decide +kernel)) (by decide +kernel) ⟨Nat.le_of_ble_eq_true rfl, Nat.le_of_ble_eq_true rfl⟩, hts (.static yX4_holds) (by decide +kernel), trivial⟩ (hP.sub (ws' := []) [] rfl) (hK.sub [] rfl) rfl hl.1 rfl (Nat.le_of_ble_eq_true rfl) dX2_firstMisplaced_83 ⟨Nat.zero_le _, Nat.zero_le _⟩ (fun r9 hr9 => ?_)
                subst hr9
                refine lv_if_eq (tgt := 98) hx hb dX2_firstMisplaced_86 (by decide) (fun c_9 => ?_) (fun c_9 => ?_)
                · skip
                  have c_9 := bI_0 c_9
                  refine lv_aload_n hx hb dX2_firstMisplaced_98 rfl (lv_at hl 2 rfl) ?_
                  refine va_get (D := (dC, dI)) (ci := 3) (v := .ref h3) (C := RX2) (T := TX2) (N := 6) hx hb hts (by decide +kernel) hown hK hP 0 rfl rfl 2 (by decide) (hts (.fieldLink RX2 18 "PictureRows$Runs" "places" "[I") (by decide +kernel)) (fun _ h9 => h9) rfl dX2_firstMisplaced_99 ?_
                  refine lv_iload hx hb dX2_firstMisplaced_102 (lv_at hl 5 rfl) ?_
                  refine rd_iald hx hb hK hP 3 0 rfl rfl (i) (by omega) (by omega) dX2_firstMisplaced_104 ?_
                  exact rd_iret (v := ps i) hx hb hr hlocks (show m_X2_firstMisplaced ss ts ps ks ds sz = ps i from hm10.trans (by simp only [m_X2_firstMisplaced_L10, if_neg c_1, if_neg c_3, if_neg c_4, if_neg c_5, if_pos c_9])).symm dX2_firstMisplaced_105
                · skip
                  have c_9 := bI_n0 c_9
                  refine lv_aload_n hx hb dX2_firstMisplaced_89 rfl (lv_at hl 2 rfl) ?_
                  refine lv_iload hx hb dX2_firstMisplaced_90 (lv_at hl 5 rfl) ?_
                  refine rd_callV (As := [.int (nI i)]) (rest := []) ⟨hx, hb, hml, hown, hts⟩ hE (c_X2_hasRivalAhead l dC dI h0 h1 h2 h3 h4 h5 cA sz ss ks i (by omega) (by omega)) (cwV 1 hts gX2_firstMisplaced_X2_hasRivalAhead rfl rfl rfl (by decide +kernel) ⟨Nat.le_of_ble_eq_true rfl, Nat.le_of_ble_eq_true rfl⟩) (hP.sub (ws' := [(h0, .inr (3, [.ref h1, .ref h2, .ref h3, .ref h4, .ref h5, .int (nI sz)])), (h1, .inl (cA, 80, .inl ss)), (h4, .inl (cA, 80, .inl ks))]) [0, 1, 4] rfl) (hK.sub [0] rfl) (va_recv hK hP (ci := 3) (q0 := 0) rfl rfl) rfl hl.1 rfl (Nat.le_of_ble_eq_true rfl) dX2_firstMisplaced_92 ⟨Nat.zero_le _, Nat.zero_le _⟩ (fun r9 hr9 => ?_)
                  subst hr9
                  refine lv_if_eq (tgt := 106) hx hb dX2_firstMisplaced_95 (by decide) (fun c_10 => ?_) (fun c_10 => ?_)
                  · skip
                    have c_10 := bI_0 c_10
                    refine lv_iload_n hx hb dX2_firstMisplaced_106 rfl (lv_at hl 3 rfl) ?_
                    refine lv_aload_n hx hb dX2_firstMisplaced_107 rfl (lv_at hl 2 rfl) ?_
                    refine va_get (D := (dC, dI)) (ci := 3) (v := .ref h5) (C := RX2) (T := TX2) (N := 6) hx hb hts (by decide +kernel) hown hK hP 0 rfl rfl 4 (by decide) (hts (.fieldLink RX2 24 "PictureRows$Runs" "digitCounts" "[I") (by decide +kernel)) (fun _ h9 => h9) rfl dX2_firstMisplaced_108 ?_
                    refine lv_iload hx hb dX2_firstMisplaced_111 (lv_at hl 5 rfl) ?_
                    refine rd_iald hx hb hK hP 5 0 rfl rfl (i) (by omega) (by omega) dX2_firstMisplaced_113 ?_
                    refine lv_iadd hx hb dX2_firstMisplaced_114 ?_
                    refine lv_istore_n (lv' := [(2, .int (x2 + (ds i))), (1, .int (x1 &&& (tbL.getD (ks i).toNatClampNeg 0))), (5, .int (ks i)), (0, .ref h0), (3, .int x3), (4, .int (nI i))]) hx hb dX2_firstMisplaced_115 rfl hl (by decide) rfl (fun ls hl => ?_)
                    refine lv_iload_n hx hb dX2_firstMisplaced_116 rfl (lv_at hl 4 rfl) ?_
                    refine lv_aload_n hx hb dX2_firstMisplaced_117 rfl (lv_at hl 3 rfl) ?_
                    refine va_get (D := (dC, dI)) (ci := 3) (v := .ref h1) (C := RX2) (T := TX2) (N := 6) hx hb hts (by decide +kernel) hown hK hP 0 rfl rfl 0 (by decide) (hts (.fieldLink RX2 9 "PictureRows$Runs" "signs" "[I") (by decide +kernel)) (fun _ h9 => h9) rfl dX2_firstMisplaced_118 ?_
                    refine lv_iload hx hb dX2_firstMisplaced_121 (lv_at hl 5 rfl) ?_
                    refine rd_iald hx hb hK hP 1 0 rfl rfl (i) (by omega) (by omega) dX2_firstMisplaced_123 ?_
                    refine lv_aload_n hx hb dX2_firstMisplaced_124 rfl (lv_at hl 3 rfl) ?_
                    refine va_get (D := (dC, dI)) (ci := 3) (v := .ref h2) (C := RX2) (T := TX2) (N := 6) hx hb hts (by decide +kernel) hown hK hP 0 rfl rfl 1 (by decide) (hts (.fieldLink RX2 15 "PictureRows$Runs" "times" "[I") (by decide +kernel)) (fun _ h9 => h9) rfl dX2_firstMisplaced_125 ?_
                    refine lv_iload hx hb dX2_firstMisplaced_128 (lv_at hl 5 rfl) ?_
                    refine rd_iald hx hb hK hP 2 0 rfl rfl (i) (by omega) (by omega) dX2_firstMisplaced_130 ?_
                    refine rd_callSN (As := [.int (ss i), .int (ts i)]) (rest := [.int x3]) ⟨hx, hb, hml, hown, hts⟩ hE (c_X4_signsCounted l dC dI (ss i) (ts i) ) ⟨va_cnB 2 hts gX2_firstMisplaced_X4_signsCounted_n85 rfl rfl rfl (hE.1.2 ("PictureRows$Runs", 85, yX4_signsCounted) (by decide)) (hts (.initialized RX4) (by decide +kernel)) (by decide +kernel) ⟨Nat.le_of_ble_eq_true rfl, Nat.le_of_ble_eq_true rfl⟩, hts (.static yX4_signsCounted) (by decide +kernel), trivial⟩ (hP.sub (ws' := []) [] rfl) (hK.sub [] rfl) rfl hl.1 rfl (Nat.le_of_ble_eq_true rfl) dX2_firstMisplaced_131 ⟨Nat.zero_le _, Nat.zero_le _⟩ (fun r9 hr9 => ?_)
                    subst hr9
                    refine lv_iadd hx hb dX2_firstMisplaced_134 ?_
                    refine lv_istore_n (lv' := [(3, .int (x3 + (m_X4_signsCounted (ss i) (ts i)))), (2, .int (x2 + (ds i))), (1, .int (x1 &&& (tbL.getD (ks i).toNatClampNeg 0))), (5, .int (ks i)), (0, .ref h0), (4, .int (nI i))]) hx hb dX2_firstMisplaced_135 rfl hl (by decide) rfl (fun ls hl => ?_)
                    refine lv_iload_n hx hb dX2_firstMisplaced_136 rfl (lv_at hl 1 rfl) ?_
                    refine lv_bipush (v := 31) hx hb dX2_firstMisplaced_137 (by decide) ?_
                    refine lv_icmp_gt (tgt := 149) hx hb dX2_firstMisplaced_139 (by decide) (fun c_11 => ?_) (fun c_11 => ?_)
                    · skip
                      refine lv_aload_n hx hb dX2_firstMisplaced_149 rfl (lv_at hl 4 rfl) ?_
                      refine va_get (D := (dC, dI)) (ci := 3) (v := .ref h3) (C := RX2) (T := TX2) (N := 6) hx hb hts (by decide +kernel) hown hK hP 0 rfl rfl 2 (by decide) (hts (.fieldLink RX2 18 "PictureRows$Runs" "places" "[I") (by decide +kernel)) (fun _ h9 => h9) rfl dX2_firstMisplaced_150 ?_
                      refine lv_iload hx hb dX2_firstMisplaced_153 (lv_at hl 5 rfl) ?_
                      refine rd_iald hx hb hK hP 3 0 rfl rfl (i) (by omega) (by omega) dX2_firstMisplaced_155 ?_
                      exact rd_iret (v := ps i) hx hb hr hlocks (show m_X2_firstMisplaced ss ts ps ks ds sz = ps i from hm10.trans (by simp only [m_X2_firstMisplaced_L10, if_neg c_1, if_neg c_3, if_neg c_4, if_neg c_5, if_neg c_9, if_pos c_10, if_pos c_11])).symm dX2_firstMisplaced_156
                    · skip
                      refine lv_iload_n hx hb dX2_firstMisplaced_142 rfl (lv_at hl 0 rfl) ?_
                      refine lv_sipush (v := 9999) hx hb dX2_firstMisplaced_143 (by decide) ?_
                      refine lv_icmp_le (tgt := 157) hx hb dX2_firstMisplaced_146 (by decide) (fun c_12 => ?_) (fun c_12 => ?_)
                      · skip
                        refine lv_iinc (v := nI (i + 1)) (lv' := [(4, .int (nI (i + 1))), (3, .int (x3 + (m_X4_signsCounted (ss i) (ts i)))), (2, .int (x2 + (ds i))), (1, .int (x1 &&& (tbL.getD (ks i).toNatClampNeg 0))), (5, .int (ks i)), (0, .ref h0)]) hx hb dX2_firstMisplaced_157 hl (k := 5) rfl (nI_add (i) 1) (by decide) rfl (fun ls hl => ?_)
                        refine lv_goto (tgt := 10) hx hb dX2_firstMisplaced_160 (by decide) ?_
                        exact ih10 (i + 1) (x1 &&& (tbL.getD (ks i).toNatClampNeg 0)) (x2 + (ds i)) (x3 + (m_X4_signsCounted (ss i) (ts i))) (by omega) (by omega)  (hm10.trans (by simp only [m_X2_firstMisplaced_L10, if_neg c_1, if_neg c_3, if_neg c_4, if_neg c_5, if_neg c_9, if_pos c_10, if_neg c_11, if_pos c_12])) ls (lv_sub hl [5, 3, 2, 1, 0] rfl)
                      · skip
                        refine lv_aload_n hx hb dX2_firstMisplaced_149 rfl (lv_at hl 4 rfl) ?_
                        refine va_get (D := (dC, dI)) (ci := 3) (v := .ref h3) (C := RX2) (T := TX2) (N := 6) hx hb hts (by decide +kernel) hown hK hP 0 rfl rfl 2 (by decide) (hts (.fieldLink RX2 18 "PictureRows$Runs" "places" "[I") (by decide +kernel)) (fun _ h9 => h9) rfl dX2_firstMisplaced_150 ?_
                        refine lv_iload hx hb dX2_firstMisplaced_153 (lv_at hl 5 rfl) ?_
                        refine rd_iald hx hb hK hP 3 0 rfl rfl (i) (by omega) (by omega) dX2_firstMisplaced_155 ?_
                        exact rd_iret (v := ps i) hx hb hr hlocks (show m_X2_firstMisplaced ss ts ps ks ds sz = ps i from hm10.trans (by simp only [m_X2_firstMisplaced_L10, if_neg c_1, if_neg c_3, if_neg c_4, if_neg c_5, if_neg c_9, if_pos c_10, if_neg c_11, if_neg c_12])).symm dX2_firstMisplaced_156
                  · skip
                    have c_10 := bI_n0 c_10
                    refine lv_aload_n hx hb dX2_firstMisplaced_98 rfl (lv_at hl 2 rfl) ?_
                    refine va_get (D := (dC, dI)) (ci := 3) (v := .ref h3) (C := RX2) (T := TX2) (N := 6) hx hb hts (by decide +kernel) hown hK hP 0 rfl rfl 2 (by decide) (hts (.fieldLink RX2 18 "PictureRows$Runs" "places" "[I") (by decide +kernel)) (fun _ h9 => h9) rfl dX2_firstMisplaced_99 ?_
                    refine lv_iload hx hb dX2_firstMisplaced_102 (lv_at hl 5 rfl) ?_
                    refine rd_iald hx hb hK hP 3 0 rfl rfl (i) (by omega) (by omega) dX2_firstMisplaced_104 ?_
                    exact rd_iret (v := ps i) hx hb hr hlocks (show m_X2_firstMisplaced ss ts ps ks ds sz = ps i from hm10.trans (by simp only [m_X2_firstMisplaced_L10, if_neg c_1, if_neg c_3, if_neg c_4, if_neg c_5, if_neg c_9, if_neg c_10])).symm dX2_firstMisplaced_105
            · skip
              have c_4 := bI_0 c_4
              refine lv_aload_n hx hb dX2_firstMisplaced_52 rfl (lv_at hl 1 rfl) ?_
              refine va_get (D := (dC, dI)) (ci := 3) (v := .ref h3) (C := RX2) (T := TX2) (N := 6) hx hb hts (by decide +kernel) hown hK hP 0 rfl rfl 2 (by decide) (hts (.fieldLink RX2 18 "PictureRows$Runs" "places" "[I") (by decide +kernel)) (fun _ h9 => h9) rfl dX2_firstMisplaced_53 ?_
              refine lv_iload hx hb dX2_firstMisplaced_56 (lv_at hl 5 rfl) ?_
              refine rd_iald hx hb hK hP 3 0 rfl rfl (i) (by omega) (by omega) dX2_firstMisplaced_58 ?_
              exact rd_iret (v := ps i) hx hb hr hlocks (show m_X2_firstMisplaced ss ts ps ks ds sz = ps i from hm10.trans (by simp only [m_X2_firstMisplaced_L10, if_neg c_1, if_neg c_3, if_pos c_4])).symm dX2_firstMisplaced_59
  exact lp_10 (sz + 1) (0) 524287 0 0 (by omega) (by omega)  (show m_X2_firstMisplaced ss ts ps ks ds sz = m_X2_firstMisplaced_L10 ss ts ps ks ds sz (sz + 1) 0 524287 0 0 from by simp only [m_X2_firstMisplaced]) ls (lv_sub hl [4, 3, 2, 1, 0] rfl)
def m_X3_closeOf_L4 (cs : Nat → Int32) (len : Nat) (op : Nat) : Nat → Nat → Int32
  | 0, _ => 0
  | k4 + 1, i => if ((op + 1) + 4) < i then ((-1)) else (if (m_X3_characterAt cs len (nI i)) = 41 then (nI i) else (if (m_X3_characterAt cs len (nI i)) < 48 then ((-1)) else (if (m_X3_characterAt cs len (nI i)) ≤ 57 then (m_X3_closeOf_L4 cs len op k4 (i + 1)) else ((-1)))))
def m_X3_closeOf (cs : Nat → Int32) (len : Nat) (op : Nat) : Int32 := m_X3_closeOf_L4 cs len op (op + 6 + 1) (op + 1)
set_option maxHeartbeats 4000000 in
set_option maxRecDepth 100000 in
theorem c_X3_closeOf (l : Launch) (dC : Nat → ClassId) (dI : Nat → Nat → Nat) (h0 : Nat) (h1 : Nat) (cA : ClassId) (cs : Nat → Int32) (len : Nat) (op : Nat) (hop : op ≤ 100) : Met l yX3_closeOf wsX3_closeOf ({ frames := 1, cells := 0, slots := 0, locals := 21 } : Room) (va_Pc [.ref h0, .int (nI op)] (rd_P (dC, dI) vwCl [(h0, .inr (4, [.ref h1, .int (nI len)])), (h1, .inl (cA, 80, .inl cs))] [(cA, .int)])) (vp_Si (fun r => r = m_X3_closeOf cs len op)) 0 0 (fun _ => False) := by
  refine Met.ofW (cc := cX3_closeOf) (maxL := 4) (ret := (some .int)) (by decide) rfl ?_
  intro p e s m args below meth c s₁ B hml hv
  obtain ⟨rfl, hE, hP, hK⟩ := hv
  have hx := B.exec
  have hb := B.bytes
  have hr := B.returns
  have hts := atoms_spec (ws := wsX3_closeOf) B.pre
  have hown : s.vm.findClass RX3 = some m.cls := findClass_of_methodNamed B.named
  have hlocks := B.notSynchronized
  have hl := lv_entry ([.ref h0, .int (nI op)]) (n := 4) (Nat.le_of_ble_eq_true rfl)
  rw [lg_entry_eq]
  generalize (lg_sl ([.ref h0, .int (nI op)]) ++ List.replicate (4 - (lg_sl ([.ref h0, .int (nI op)])).length) Slot.unset).toArray = ls at hl ⊢
  have hl : lv_has ls 4 [(0, .ref h0), (1, .int (nI op))] := hl
  refine lv_iload_n hx hb dX3_closeOf_0 rfl (lv_at hl 1 rfl) ?_
  refine lv_iconst (v := 1) hx hb dX3_closeOf_1 (by decide) ?_
  refine rd_iadd hx hb (op) (1) dX3_closeOf_2 ?_
  refine lv_istore_n (lv' := [(2, .int (nI (op + 1))), (0, .ref h0), (1, .int (nI op))]) hx hb dX3_closeOf_3 rfl hl (by decide) rfl (fun ls hl => ?_)
  have lp_4 : ∀ (k4 i : Nat), i ≤ op + 6 → op + 6 + 1 ≤ i + k4 → m_X3_closeOf cs len op = m_X3_closeOf_L4 cs len op k4 i → ∀ (ls : Array Slot), lv_has ls 4 [(0, .ref h0), (1, .int (nI op)), (2, .int (nI i))] → W p l e (headSpec wsX3_closeOf ({ frames := 1, cells := 0, slots := 0, locals := 21 } : Room)).room s m (([.ref h0, .int (nI op)] : List Value).toArray) below meth c s.heap [] 0 0 (MQ below (vp_Si (fun r => r = m_X3_closeOf cs len op)) (([.ref h0, .int (nI op)] : List Value).toArray) s 0 0 (fun _ => False)) (F0 m 4 ls []) := by
    intro k4
    induction k4 with
    | zero => intro i  h1_ h2_; exfalso; omega
    | succ k4 ih4 =>
      intro i  hb4 hf4  hm4 ls hl
      refine lv_iload_n hx hb dX3_closeOf_4 rfl (lv_at hl 2 rfl) ?_
      refine lv_iload_n hx hb dX3_closeOf_5 rfl (lv_at hl 1 rfl) ?_
      refine lv_iconst (v := 1) hx hb dX3_closeOf_6 (by decide) ?_
      refine rd_iadd hx hb (op) (1) dX3_closeOf_7 ?_
      refine lv_iconst (v := 4) hx hb dX3_closeOf_8 (by decide) ?_
      refine rd_iadd hx hb (op + 1) (4) dX3_closeOf_9 ?_
      refine lv_icmp_gt (tgt := 47) hx hb dX3_closeOf_10 (by decide) (fun c_1 => ?_) (fun c_1 => ?_)
      · skip
        have c_1 : ((op + 1) + 4) < i := (nI_ltI (a := (op + 1) + 4) (b := i) (by omega) (by omega)).mp c_1
        refine lv_iconst (v := (-1)) hx hb dX3_closeOf_47 (by decide) ?_
        exact rd_iret (v := (-1)) hx hb hr hlocks (show m_X3_closeOf cs len op = (-1) from hm4.trans (by simp only [m_X3_closeOf_L4, if_pos c_1])).symm dX3_closeOf_48
      · skip
        have c_1 : ¬ ((op + 1) + 4) < i := (fun q_ => c_1 ((nI_ltI (a := (op + 1) + 4) (b := i) (by omega) (by omega)).mpr q_))
        refine lv_aload_n hx hb dX3_closeOf_13 rfl (lv_at hl 0 rfl) ?_
        refine lv_iload_n hx hb dX3_closeOf_14 rfl (lv_at hl 2 rfl) ?_
        refine rd_callV (As := [.int (nI i)]) (rest := []) ⟨hx, hb, hml, hown, hts⟩ hE (c_X3_characterAt l dC dI h0 h1 cA cs len (nI i) ) (cwV 1 hts gX3_closeOf_X3_characterAt rfl rfl rfl (by decide +kernel) ⟨Nat.le_of_ble_eq_true rfl, Nat.le_of_ble_eq_true rfl⟩) (hP.sub (ws' := [(h0, .inr (4, [.ref h1, .int (nI len)])), (h1, .inl (cA, 80, .inl cs))]) [0, 1] rfl) (hK.sub [0] rfl) (va_recv hK hP (ci := 4) (q0 := 0) rfl rfl) rfl hl.1 rfl (Nat.le_of_ble_eq_true rfl) dX3_closeOf_15 ⟨Nat.zero_le _, Nat.zero_le _⟩ (fun r9 hr9 => ?_)
        subst hr9
        refine lv_istore_n (lv' := [(3, .int (m_X3_characterAt cs len (nI i))), (0, .ref h0), (1, .int (nI op)), (2, .int (nI i))]) hx hb dX3_closeOf_18 rfl hl (by decide) rfl (fun ls hl => ?_)
        refine lv_iload_n hx hb dX3_closeOf_19 rfl (lv_at hl 0 rfl) ?_
        refine lv_bipush (v := 41) hx hb dX3_closeOf_20 (by decide) ?_
        refine lv_icmp_ne (tgt := 27) hx hb dX3_closeOf_22 (by decide) (fun c_2 => ?_) (fun c_2 => ?_)
        · skip
          refine lv_iload_n hx hb dX3_closeOf_27 rfl (lv_at hl 0 rfl) ?_
          refine lv_bipush (v := 48) hx hb dX3_closeOf_28 (by decide) ?_
          refine lv_icmp_lt (tgt := 39) hx hb dX3_closeOf_30 (by decide) (fun c_3 => ?_) (fun c_3 => ?_)
          · skip
            refine lv_iconst (v := (-1)) hx hb dX3_closeOf_39 (by decide) ?_
            exact rd_iret (v := (-1)) hx hb hr hlocks (show m_X3_closeOf cs len op = (-1) from hm4.trans (by simp only [m_X3_closeOf_L4, if_neg c_1, if_neg c_2, if_pos c_3])).symm dX3_closeOf_40
          · skip
            refine lv_iload_n hx hb dX3_closeOf_33 rfl (lv_at hl 0 rfl) ?_
            refine lv_bipush (v := 57) hx hb dX3_closeOf_34 (by decide) ?_
            refine lv_icmp_le (tgt := 41) hx hb dX3_closeOf_36 (by decide) (fun c_4 => ?_) (fun c_4 => ?_)
            · skip
              refine lv_iinc (v := nI (i + 1)) (lv' := [(2, .int (nI (i + 1))), (3, .int (m_X3_characterAt cs len (nI i))), (0, .ref h0), (1, .int (nI op))]) hx hb dX3_closeOf_41 hl (k := 3) rfl (nI_add (i) 1) (by decide) rfl (fun ls hl => ?_)
              refine lv_goto (tgt := 4) hx hb dX3_closeOf_44 (by decide) ?_
              exact ih4 (i + 1)  (by omega) (by omega)  (hm4.trans (by simp only [m_X3_closeOf_L4, if_neg c_1, if_neg c_2, if_neg c_3, if_pos c_4])) ls (lv_sub hl [2, 3, 0] rfl)
            · skip
              refine lv_iconst (v := (-1)) hx hb dX3_closeOf_39 (by decide) ?_
              exact rd_iret (v := (-1)) hx hb hr hlocks (show m_X3_closeOf cs len op = (-1) from hm4.trans (by simp only [m_X3_closeOf_L4, if_neg c_1, if_neg c_2, if_neg c_3, if_neg c_4])).symm dX3_closeOf_40
        · skip
          refine lv_iload_n hx hb dX3_closeOf_25 rfl (lv_at hl 3 rfl) ?_
          exact rd_iret (v := nI i) hx hb hr hlocks (show m_X3_closeOf cs len op = nI i from hm4.trans (by simp only [m_X3_closeOf_L4, if_neg c_1, if_pos c_2])).symm dX3_closeOf_26
  exact lp_4 (op + 6 + 1) (op + 1)  (by omega) (by omega)  (show m_X3_closeOf cs len op = m_X3_closeOf_L4 cs len op (op + 6 + 1) (op + 1) from by simp only [m_X3_closeOf]) ls (lv_sub hl [1, 2, 0] rfl)
def m_X3_numberBetween_L7 (cs : Nat → Int32) (len : Nat) (cl : Int32) : Nat → Nat → Int32 → Int32
  | 0, _, _ => 0
  | k7 + 1, i, x3 => if cl ≤ (nI i) then x3 else (m_X3_numberBetween_L7 cs len cl k7 (i + 1) (((x3 * 10) + (m_X3_characterAt cs len (nI i))) - 48))
def m_X3_numberBetween (cs : Nat → Int32) (len : Nat) (op : Nat) (cl : Int32) : Int32 := m_X3_numberBetween_L7 cs len cl (200 + 1) (op + 1) 0
set_option maxHeartbeats 4000000 in
set_option maxRecDepth 100000 in
theorem c_X3_numberBetween (l : Launch) (dC : Nat → ClassId) (dI : Nat → Nat → Nat) (h0 : Nat) (h1 : Nat) (cA : ClassId) (cs : Nat → Int32) (len : Nat) (op : Nat) (cl : Int32) (hop : op ≤ 100) (hcl : cl.toInt ≤ (200 : Nat)) : Met l yX3_numberBetween wsX3_numberBetween ({ frames := 1, cells := 0, slots := 0, locals := 21 } : Room) (va_Pc [.ref h0, .int (nI op), .int cl] (rd_P (dC, dI) vwCl [(h0, .inr (4, [.ref h1, .int (nI len)])), (h1, .inl (cA, 80, .inl cs))] [(cA, .int)])) (vp_Si (fun r => r = m_X3_numberBetween cs len op cl)) 0 0 (fun _ => False) := by
  refine Met.ofW (cc := cX3_numberBetween) (maxL := 5) (ret := (some .int)) (by decide) rfl ?_
  intro p e s m args below meth c s₁ B hml hv
  obtain ⟨rfl, hE, hP, hK⟩ := hv
  have hx := B.exec
  have hb := B.bytes
  have hr := B.returns
  have hts := atoms_spec (ws := wsX3_numberBetween) B.pre
  have hown : s.vm.findClass RX3 = some m.cls := findClass_of_methodNamed B.named
  have hlocks := B.notSynchronized
  have hl := lv_entry ([.ref h0, .int (nI op), .int cl]) (n := 5) (Nat.le_of_ble_eq_true rfl)
  rw [lg_entry_eq]
  generalize (lg_sl ([.ref h0, .int (nI op), .int cl]) ++ List.replicate (5 - (lg_sl ([.ref h0, .int (nI op), .int cl])).length) Slot.unset).toArray = ls at hl ⊢
  have hl : lv_has ls 5 [(0, .ref h0), (1, .int (nI op)), (2, .int cl)] := hl
  refine lv_iconst (v := 0) hx hb dX3_numberBetween_0 (by decide) ?_
  refine lv_istore_n (lv' := [(3, .int 0), (0, .ref h0), (1, .int (nI op)), (2, .int cl)]) hx hb dX3_numberBetween_1 rfl hl (by decide) rfl (fun ls hl => ?_)
  refine lv_iload_n hx hb dX3_numberBetween_2 rfl (lv_at hl 2 rfl) ?_
  refine lv_iconst (v := 1) hx hb dX3_numberBetween_3 (by decide) ?_
  refine rd_iadd hx hb (op) (1) dX3_numberBetween_4 ?_
  refine lv_istore (lv' := [(4, .int (nI (op + 1))), (3, .int 0), (0, .ref h0), (1, .int (nI op)), (2, .int cl)]) hx hb dX3_numberBetween_5 hl (by decide) rfl (fun ls hl => ?_)
  have lp_7 : ∀ (k7 i : Nat) (x3 : Int32), i ≤ 200 → 200 + 1 ≤ i + k7 → m_X3_numberBetween cs len op cl = m_X3_numberBetween_L7 cs len cl k7 i x3 → ∀ (ls : Array Slot), lv_has ls 5 [(0, .ref h0), (1, .int (nI op)), (2, .int cl), (3, .int x3), (4, .int (nI i))] → W p l e (headSpec wsX3_numberBetween ({ frames := 1, cells := 0, slots := 0, locals := 21 } : Room)).room s m (([.ref h0, .int (nI op), .int cl] : List Value).toArray) below meth c s.heap [] 0 0 (MQ below (vp_Si (fun r => r = m_X3_numberBetween cs len op cl)) (([.ref h0, .int (nI op), .int cl] : List Value).toArray) s 0 0 (fun _ => False)) (F0 m 7 ls []) := by
    intro k7
    induction k7 with
    | zero => intro i x3 h1_ h2_; exfalso; omega
    | succ k7 ih7 =>
      intro i x3 hb7 hf7  hm7 ls hl
      refine lv_iload hx hb dX3_numberBetween_7 (lv_at hl 4 rfl) ?_
      refine lv_iload_n hx hb dX3_numberBetween_9 rfl (lv_at hl 2 rfl) ?_
      refine lv_icmp_ge (tgt := 34) hx hb dX3_numberBetween_10 (by decide) (fun c_1 => ?_) (fun c_1 => ?_)
      · skip
        refine lv_iload_n hx hb dX3_numberBetween_34 rfl (lv_at hl 3 rfl) ?_
        exact rd_iret (v := x3) hx hb hr hlocks (show m_X3_numberBetween cs len op cl = x3 from hm7.trans (by simp only [m_X3_numberBetween_L7, if_pos c_1])).symm dX3_numberBetween_35
      · skip
        refine lv_iload_n hx hb dX3_numberBetween_13 rfl (lv_at hl 3 rfl) ?_
        refine lv_bipush (v := 10) hx hb dX3_numberBetween_14 (by decide) ?_
        refine lv_imul hx hb dX3_numberBetween_16 ?_
        refine lv_aload_n hx hb dX3_numberBetween_17 rfl (lv_at hl 0 rfl) ?_
        refine lv_iload hx hb dX3_numberBetween_18 (lv_at hl 4 rfl) ?_
        refine rd_callV (As := [.int (nI i)]) (rest := [.int (x3 * 10)]) ⟨hx, hb, hml, hown, hts⟩ hE (c_X3_characterAt l dC dI h0 h1 cA cs len (nI i) ) (cwV 1 hts gX3_numberBetween_X3_characterAt rfl rfl rfl (by decide +kernel) ⟨Nat.le_of_ble_eq_true rfl, Nat.le_of_ble_eq_true rfl⟩) (hP.sub (ws' := [(h0, .inr (4, [.ref h1, .int (nI len)])), (h1, .inl (cA, 80, .inl cs))]) [0, 1] rfl) (hK.sub [0] rfl) (va_recv hK hP (ci := 4) (q0 := 0) rfl rfl) rfl hl.1 rfl (Nat.le_of_ble_eq_true rfl) dX3_numberBetween_20 ⟨Nat.zero_le _, Nat.zero_le _⟩ (fun r9 hr9 => ?_)
        subst hr9
        refine lv_iadd hx hb dX3_numberBetween_23 ?_
        refine lv_bipush (v := 48) hx hb dX3_numberBetween_24 (by decide) ?_
        refine lv_isub hx hb dX3_numberBetween_26 ?_
        refine lv_istore_n (lv' := [(3, .int (((x3 * 10) + (m_X3_characterAt cs len (nI i))) - 48)), (0, .ref h0), (1, .int (nI op)), (2, .int cl), (4, .int (nI i))]) hx hb dX3_numberBetween_27 rfl hl (by decide) rfl (fun ls hl => ?_)
        refine lv_iinc (v := nI (i + 1)) (lv' := [(4, .int (nI (i + 1))), (3, .int (((x3 * 10) + (m_X3_characterAt cs len (nI i))) - 48)), (0, .ref h0), (1, .int (nI op)), (2, .int cl)]) hx hb dX3_numberBetween_28 hl (k := 4) rfl (nI_add (i) 1) (by decide) rfl (fun ls hl => ?_)
        refine lv_goto (tgt := 7) hx hb dX3_numberBetween_31 (by decide) ?_
        exact ih7 (i + 1) (((x3 * 10) + (m_X3_characterAt cs len (nI i))) - 48) (by exact nb_lt (by assumption) hcl (by omega) hb7) (by omega)  (hm7.trans (by simp only [m_X3_numberBetween_L7, if_neg c_1])) ls (lv_sub hl [2, 3, 4, 1, 0] rfl)
  exact lp_7 (200 + 1) (op + 1) 0 (by omega) (by omega)  (show m_X3_numberBetween cs len op cl = m_X3_numberBetween_L7 cs len cl (200 + 1) (op + 1) 0 from by simp only [m_X3_numberBetween]) ls (lv_sub hl [2, 3, 4, 1, 0] rfl)
def m_X1_isNumber (cat : Int32) : Bool := if cat = 3 then true else (if cat = 4 then true else false)
set_option maxHeartbeats 4000000 in
set_option maxRecDepth 100000 in
theorem c_X1_isNumber (l : Launch) (dC : Nat → ClassId) (dI : Nat → Nat → Nat) (h0 : Nat) (h1 : Nat) (h2 : Nat) (h3 : Nat) (h4 : Nat) (cu : Int32) (sc : Int32) (da : Int32) (db : Int32) (scl : Int32) (cat : Int32) : Met l yX1_isNumber wsX1_isNumber ({ frames := 0, cells := 0, slots := 0, locals := 0 } : Room) (va_Pc [.ref h0] (rd_P (dC, dI) vwCl [(h0, .inr (2, [.ref h1, .ref h2, .ref h3, .int cu, .int sc, .int cat, .int da, .int db, .int scl, .ref h4]))] [])) (vp_Si (fun r => r = bI (m_X1_isNumber cat))) 0 0 (fun _ => False) := by
  refine Met.ofW (cc := cX1_isNumber) (maxL := 1) (ret := (some .boolean)) (by decide) rfl ?_
  intro p e s m args below meth c s₁ B hml hv
  obtain ⟨rfl, hE, hP, hK⟩ := hv
  have hx := B.exec
  have hb := B.bytes
  have hr := B.returns
  have hts := atoms_spec (ws := wsX1_isNumber) B.pre
  have hown : s.vm.findClass RX1 = some m.cls := findClass_of_methodNamed B.named
  have hlocks := B.notSynchronized
  have hl := lv_entry ([.ref h0]) (n := 1) (Nat.le_of_ble_eq_true rfl)
  rw [lg_entry_eq]
  generalize (lg_sl ([.ref h0]) ++ List.replicate (1 - (lg_sl ([.ref h0])).length) Slot.unset).toArray = ls at hl ⊢
  have hl : lv_has ls 1 [(0, .ref h0)] := hl
  refine lv_aload_n hx hb dX1_isNumber_0 rfl (lv_at hl 0 rfl) ?_
  refine va_get (D := (dC, dI)) (ci := 2) (v := .int cat) (C := RX1) (T := TX1) (N := 10) hx hb hts (by decide +kernel) hown hK hP 0 rfl rfl 5 (by decide) (hts (.fieldLink RX1 62 "PictureRows$Picture" "category" "I") (by decide +kernel)) (fun _ h9 => h9) rfl dX1_isNumber_1 ?_
  refine lv_iconst (v := 3) hx hb dX1_isNumber_4 (by decide) ?_
  refine lv_icmp_eq (tgt := 16) hx hb dX1_isNumber_5 (by decide) (fun c_1 => ?_) (fun c_1 => ?_)
  · skip
    refine lv_iconst (v := 1) hx hb dX1_isNumber_16 (by decide) ?_
    refine lv_goto (tgt := 21) hx hb dX1_isNumber_17 (by decide) ?_
    exact rd_zret (v := 1) hx hb hr hlocks rfl (by rw [(show m_X1_isNumber cat = true from by simp only [m_X1_isNumber, if_pos c_1])]; rfl) dX1_isNumber_21
  · skip
    refine lv_aload_n hx hb dX1_isNumber_8 rfl (lv_at hl 0 rfl) ?_
    refine va_get (D := (dC, dI)) (ci := 2) (v := .int cat) (C := RX1) (T := TX1) (N := 10) hx hb hts (by decide +kernel) hown hK hP 0 rfl rfl 5 (by decide) (hts (.fieldLink RX1 62 "PictureRows$Picture" "category" "I") (by decide +kernel)) (fun _ h9 => h9) rfl dX1_isNumber_9 ?_
    refine lv_iconst (v := 4) hx hb dX1_isNumber_12 (by decide) ?_
    refine lv_icmp_ne (tgt := 20) hx hb dX1_isNumber_13 (by decide) (fun c_2 => ?_) (fun c_2 => ?_)
    · skip
      refine lv_iconst (v := 0) hx hb dX1_isNumber_20 (by decide) ?_
      exact rd_zret (v := 0) hx hb hr hlocks rfl (by rw [(show m_X1_isNumber cat = false from by simp only [m_X1_isNumber, if_neg c_1, if_neg c_2])]; rfl) dX1_isNumber_21
    · skip
      refine lv_iconst (v := 1) hx hb dX1_isNumber_16 (by decide) ?_
      refine lv_goto (tgt := 21) hx hb dX1_isNumber_17 (by decide) ?_
      exact rd_zret (v := 1) hx hb hr hlocks rfl (by rw [(show m_X1_isNumber cat = true from by simp only [m_X1_isNumber, if_neg c_1, if_pos c_2])]; rfl) dX1_isNumber_21
def m_X1_letterOf (cu : Int32) (sg : Int32) (ix : Int32) : Int32 := if sg = 36 then cu else (if sg = 67 then (if (ix - ix / 2 * 2) = 0 then 67 else 82) else (if sg = 68 then (if (ix - ix / 2 * 2) = 0 then 68 else 66) else sg))
set_option maxHeartbeats 4000000 in
set_option maxRecDepth 100000 in
theorem c_X1_letterOf (l : Launch) (dC : Nat → ClassId) (dI : Nat → Nat → Nat) (h0 : Nat) (h1 : Nat) (h2 : Nat) (h3 : Nat) (h4 : Nat) (sc : Int32) (cat : Int32) (da : Int32) (db : Int32) (scl : Int32) (cu : Int32) (sg : Int32) (ix : Int32) : Met l yX1_letterOf wsX1_letterOf ({ frames := 0, cells := 0, slots := 0, locals := 0 } : Room) (va_Pc [.ref h0, .int sg, .int ix] (rd_P (dC, dI) vwCl [(h0, .inr (2, [.ref h1, .ref h2, .ref h3, .int cu, .int sc, .int cat, .int da, .int db, .int scl, .ref h4]))] [])) (vp_Si (fun r => r = m_X1_letterOf cu sg ix)) 0 0 (fun _ => False) := by
  refine Met.ofW (cc := cX1_letterOf) (maxL := 3) (ret := (some .int)) (by decide) rfl ?_
  intro p e s m args below meth c s₁ B hml hv
  obtain ⟨rfl, hE, hP, hK⟩ := hv
  have hx := B.exec
  have hb := B.bytes
  have hr := B.returns
  have hts := atoms_spec (ws := wsX1_letterOf) B.pre
  have hown : s.vm.findClass RX1 = some m.cls := findClass_of_methodNamed B.named
  have hlocks := B.notSynchronized
  have hl := lv_entry ([.ref h0, .int sg, .int ix]) (n := 3) (Nat.le_of_ble_eq_true rfl)
  rw [lg_entry_eq]
  generalize (lg_sl ([.ref h0, .int sg, .int ix]) ++ List.replicate (3 - (lg_sl ([.ref h0, .int sg, .int ix])).length) Slot.unset).toArray = ls at hl ⊢
  have hl : lv_has ls 3 [(0, .ref h0), (1, .int sg), (2, .int ix)] := hl
  refine lv_iload_n hx hb dX1_letterOf_0 rfl (lv_at hl 1 rfl) ?_
  by_cases c_1 : sg = 36
  · skip
    refine lv_lookup (off := 35) (tgt := 36) hx hb dX1_letterOf_1 (by decide) (by rw [c_1]; decide) (by decide) ?_
    refine lv_aload_n hx hb dX1_letterOf_36 rfl (lv_at hl 0 rfl) ?_
    refine va_get (D := (dC, dI)) (ci := 2) (v := .int cu) (C := RX1) (T := TX1) (N := 10) hx hb hts (by decide +kernel) hown hK hP 0 rfl rfl 3 (by decide) (hts (.fieldLink RX1 49 "PictureRows$Picture" "currencySign" "I") (by decide +kernel)) (fun _ h9 => h9) rfl dX1_letterOf_37 ?_
    exact rd_iret (v := cu) hx hb hr hlocks (show m_X1_letterOf cu sg ix = cu from by simp only [m_X1_letterOf, if_pos c_1]).symm dX1_letterOf_40
  by_cases c_2 : sg = 67
  · skip
    refine lv_lookup (off := 40) (tgt := 41) hx hb dX1_letterOf_1 (by decide) (by rw [c_2]; decide) (by decide) ?_
    refine lv_iload_n hx hb dX1_letterOf_41 rfl (lv_at hl 2 rfl) ?_
    refine lv_iconst (v := 2) hx hb dX1_letterOf_42 (by decide) ?_
    refine lv_irem hx hb dX1_letterOf_43 (by decide) ?_
    refine lv_if_ne (tgt := 52) hx hb dX1_letterOf_44 (by decide) (fun c_3 => ?_) (fun c_3 => ?_)
    · skip
      refine lv_bipush (v := 82) hx hb dX1_letterOf_52 (by decide) ?_
      exact rd_iret (v := 82) hx hb hr hlocks (show m_X1_letterOf cu sg ix = 82 from by simp only [m_X1_letterOf, if_neg c_1, if_pos c_2, if_neg c_3]).symm dX1_letterOf_54
    · skip
      refine lv_bipush (v := 67) hx hb dX1_letterOf_47 (by decide) ?_
      refine lv_goto (tgt := 54) hx hb dX1_letterOf_49 (by decide) ?_
      exact rd_iret (v := 67) hx hb hr hlocks (show m_X1_letterOf cu sg ix = 67 from by simp only [m_X1_letterOf, if_neg c_1, if_pos c_2, if_pos c_3]).symm dX1_letterOf_54
  by_cases c_4 : sg = 68
  · skip
    refine lv_lookup (off := 54) (tgt := 55) hx hb dX1_letterOf_1 (by decide) (by rw [c_4]; decide) (by decide) ?_
    refine lv_iload_n hx hb dX1_letterOf_55 rfl (lv_at hl 2 rfl) ?_
    refine lv_iconst (v := 2) hx hb dX1_letterOf_56 (by decide) ?_
    refine lv_irem hx hb dX1_letterOf_57 (by decide) ?_
    refine lv_if_ne (tgt := 66) hx hb dX1_letterOf_58 (by decide) (fun c_5 => ?_) (fun c_5 => ?_)
    · skip
      refine lv_bipush (v := 66) hx hb dX1_letterOf_66 (by decide) ?_
      exact rd_iret (v := 66) hx hb hr hlocks (show m_X1_letterOf cu sg ix = 66 from by simp only [m_X1_letterOf, if_neg c_1, if_neg c_2, if_pos c_4, if_neg c_5]).symm dX1_letterOf_68
    · skip
      refine lv_bipush (v := 68) hx hb dX1_letterOf_61 (by decide) ?_
      refine lv_goto (tgt := 68) hx hb dX1_letterOf_63 (by decide) ?_
      exact rd_iret (v := 68) hx hb hr hlocks (show m_X1_letterOf cu sg ix = 68 from by simp only [m_X1_letterOf, if_neg c_1, if_neg c_2, if_pos c_4, if_pos c_5]).symm dX1_letterOf_68
  refine lv_lookup (off := 68) (tgt := 69) hx hb dX1_letterOf_1 (by decide) (by show Op.lookupswitch.offset [(36, 35), (67, 40), (68, 54)] _ _ = _; rw [lv_osw c_1 (by decide), lv_osw c_2 (by decide), lv_osw c_4 (by decide)]; rfl) (by decide) ?_
  refine lv_iload_n hx hb dX1_letterOf_69 rfl (lv_at hl 1 rfl) ?_
  exact rd_iret (v := sg) hx hb hr hlocks (show m_X1_letterOf cu sg ix = sg from by simp only [m_X1_letterOf, if_neg c_1, if_neg c_2, if_neg c_4]).symm dX1_letterOf_70
def m_X1_characterAt_L10 (ss : Nat → Int32) (ts : Nat → Int32) (n : Nat) (cu : Int32) : Nat → Nat → Int32 → Int32
  | 0, _, _ => 0
  | k10 + 1, i, x2 => if n ≤ i then ((-1)) else (if ((ts i) * (nI (m_X4_widthOf (ss i)))) ≤ x2 then (m_X1_characterAt_L10 ss ts n cu k10 (i + 1) (x2 - ((ts i) * (nI (m_X4_widthOf (ss i)))))) else (m_X1_letterOf cu (ss i) x2))
def m_X1_characterAt (ss : Nat → Int32) (ts : Nat → Int32) (n : Nat) (cu : Int32) (ix : Int32) : Int32 := if 0 ≤ ix then (m_X1_characterAt_L10 ss ts n cu (n + 1) 0 ix) else ((-1))
set_option maxHeartbeats 4000000 in
set_option maxRecDepth 100000 in
theorem c_X1_characterAt (l : Launch) (dC : Nat → ClassId) (dI : Nat → Nat → Nat) (h0 : Nat) (h1 : Nat) (h2 : Nat) (h3 : Nat) (h4 : Nat) (cA : ClassId) (sc : Int32) (cat : Int32) (da : Int32) (db : Int32) (scl : Int32) (ss : Nat → Int32) (ts : Nat → Int32) (n : Nat) (cu : Int32) (ix : Int32) (hn : n ≤ 80) : Met l yX1_characterAt wsX1_characterAt ({ frames := 1, cells := 0, slots := 0, locals := 22 } : Room) (va_Pc [.ref h0, .int ix] (rd_P (dC, dI) vwCl [(h0, .inr (2, [.ref h1, .ref h2, .ref h3, .int cu, .int sc, .int cat, .int da, .int db, .int scl, .ref h4])), (h1, .inl (cA, n, .inl ss)), (h2, .inl (cA, n, .inl ts))] [(cA, .int)])) (vp_Si (fun r => r = m_X1_characterAt ss ts n cu ix)) 0 0 (fun _ => False) := by
  refine Met.ofW (cc := cX1_characterAt) (maxL := 5) (ret := (some .int)) (by decide) rfl ?_
  intro p e s m args below meth c s₁ B hml hv
  obtain ⟨rfl, hE, hP, hK⟩ := hv
  have hx := B.exec
  have hb := B.bytes
  have hr := B.returns
  have hts := atoms_spec (ws := wsX1_characterAt) B.pre
  have hown : s.vm.findClass RX1 = some m.cls := findClass_of_methodNamed B.named
  have hlocks := B.notSynchronized
  have hl := lv_entry ([.ref h0, .int ix]) (n := 5) (Nat.le_of_ble_eq_true rfl)
  rw [lg_entry_eq]
  generalize (lg_sl ([.ref h0, .int ix]) ++ List.replicate (5 - (lg_sl ([.ref h0, .int ix])).length) Slot.unset).toArray = ls at hl ⊢
  have hl : lv_has ls 5 [(0, .ref h0), (1, .int ix)] := hl
  refine lv_iload_n hx hb dX1_characterAt_0 rfl (lv_at hl 1 rfl) ?_
  refine lv_if_ge (tgt := 6) hx hb dX1_characterAt_1 (by decide) (fun c_1 => ?_) (fun c_1 => ?_)
  · skip
    refine lv_iload_n hx hb dX1_characterAt_6 rfl (lv_at hl 1 rfl) ?_
    refine lv_istore_n (lv' := [(2, .int ix), (0, .ref h0), (1, .int ix)]) hx hb dX1_characterAt_7 rfl hl (by decide) rfl (fun ls hl => ?_)
    refine lv_iconst (v := 0) hx hb dX1_characterAt_8 (by decide) ?_
    refine lv_istore_n (lv' := [(3, .int 0), (2, .int ix), (0, .ref h0), (1, .int ix)]) hx hb dX1_characterAt_9 rfl hl (by decide) rfl (fun ls hl => ?_)
    have lp_10 : ∀ (k10 i : Nat) (x2 : Int32), i ≤ n → n + 1 ≤ i + k10 → m_X1_characterAt ss ts n cu ix = m_X1_characterAt_L10 ss ts n cu k10 i x2 → ∀ (ls : Array Slot), lv_has ls 5 [(0, .ref h0), (1, .int ix), (2, .int x2), (3, .int (nI i))] → W p l e (headSpec wsX1_characterAt ({ frames := 1, cells := 0, slots := 0, locals := 22 } : Room)).room s m (([.ref h0, .int ix] : List Value).toArray) below meth c s.heap [] 0 0 (MQ below (vp_Si (fun r => r = m_X1_characterAt ss ts n cu ix)) (([.ref h0, .int ix] : List Value).toArray) s 0 0 (fun _ => False)) (F0 m 10 ls []) := by
      intro k10
      induction k10 with
      | zero => intro i x2 h1_ h2_; exfalso; omega
      | succ k10 ih10 =>
        intro i x2 hb10 hf10  hm10 ls hl
        refine lv_iload_n hx hb dX1_characterAt_10 rfl (lv_at hl 3 rfl) ?_
        refine lv_aload_n hx hb dX1_characterAt_11 rfl (lv_at hl 0 rfl) ?_
        refine va_get (D := (dC, dI)) (ci := 2) (v := .ref h1) (C := RX1) (T := TX1) (N := 10) hx hb hts (by decide +kernel) hown hK hP 0 rfl rfl 0 (by decide) (hts (.fieldLink RX1 38 "PictureRows$Picture" "signs" "[I") (by decide +kernel)) (fun _ h9 => h9) rfl dX1_characterAt_12 ?_
        refine va_alen (v := nI n) hx hb hK hP 1 0 rfl rfl rfl dX1_characterAt_15 ?_
        refine lv_icmp_ge (tgt := 75) hx hb dX1_characterAt_16 (by decide) (fun c_2 => ?_) (fun c_2 => ?_)
        · skip
          have c_2 : n ≤ i := (nI_leI (a := n) (b := i) (by omega) (by omega)).mp c_2
          refine lv_iconst (v := (-1)) hx hb dX1_characterAt_75 (by decide) ?_
          exact rd_iret (v := (-1)) hx hb hr hlocks (show m_X1_characterAt ss ts n cu ix = (-1) from hm10.trans (by simp only [m_X1_characterAt_L10, if_pos c_2])).symm dX1_characterAt_76
        · skip
          have c_2 : ¬ n ≤ i := (fun q_ => c_2 ((nI_leI (a := n) (b := i) (by omega) (by omega)).mpr q_))
          refine lv_iload_n hx hb dX1_characterAt_19 rfl (lv_at hl 3 rfl) ?_
          refine lv_aload_n hx hb dX1_characterAt_20 rfl (lv_at hl 0 rfl) ?_
          refine va_get (D := (dC, dI)) (ci := 2) (v := .ref h2) (C := RX1) (T := TX1) (N := 10) hx hb hts (by decide +kernel) hown hK hP 0 rfl rfl 1 (by decide) (hts (.fieldLink RX1 44 "PictureRows$Picture" "times" "[I") (by decide +kernel)) (fun _ h9 => h9) rfl dX1_characterAt_21 ?_
          refine va_alen (v := nI n) hx hb hK hP 2 0 rfl rfl rfl dX1_characterAt_24 ?_
          refine lv_icmp_ge (tgt := 75) hx hb dX1_characterAt_25 (by decide) (fun c_3 => ?_) (fun c_3 => ?_)
          · skip
            have c_3 : n ≤ i := (nI_leI (a := n) (b := i) (by omega) (by omega)).mp c_3
            exfalso; omega
          · skip
            have c_3 : ¬ n ≤ i := (fun q_ => c_3 ((nI_leI (a := n) (b := i) (by omega) (by omega)).mpr q_))
            refine lv_aload_n hx hb dX1_characterAt_28 rfl (lv_at hl 0 rfl) ?_
            refine va_get (D := (dC, dI)) (ci := 2) (v := .ref h2) (C := RX1) (T := TX1) (N := 10) hx hb hts (by decide +kernel) hown hK hP 0 rfl rfl 1 (by decide) (hts (.fieldLink RX1 44 "PictureRows$Picture" "times" "[I") (by decide +kernel)) (fun _ h9 => h9) rfl dX1_characterAt_29 ?_
            refine lv_iload_n hx hb dX1_characterAt_32 rfl (lv_at hl 3 rfl) ?_
            refine rd_iald hx hb hK hP 2 0 rfl rfl (i) (by omega) (by omega) dX1_characterAt_33 ?_
            refine lv_aload_n hx hb dX1_characterAt_34 rfl (lv_at hl 0 rfl) ?_
            refine va_get (D := (dC, dI)) (ci := 2) (v := .ref h1) (C := RX1) (T := TX1) (N := 10) hx hb hts (by decide +kernel) hown hK hP 0 rfl rfl 0 (by decide) (hts (.fieldLink RX1 38 "PictureRows$Picture" "signs" "[I") (by decide +kernel)) (fun _ h9 => h9) rfl dX1_characterAt_35 ?_
            refine lv_iload_n hx hb dX1_characterAt_38 rfl (lv_at hl 3 rfl) ?_
            refine rd_iald hx hb hK hP 1 0 rfl rfl (i) (by omega) (by omega) dX1_characterAt_39 ?_
            refine rd_callSN (As := [.int (ss i)]) (rest := [.int (ts i)]) ⟨hx, hb, hml, hown, hts⟩ hE (c_X4_widthOf l dC dI (ss i) ) ⟨va_cnB 1 hts gX1_characterAt_X4_widthOf_n98 rfl rfl rfl (hE.1.2 ("PictureRows$Picture", 98, yX4_widthOf) (by decide)) (hts (.initialized RX4) (by decide +kernel)) (by decide +kernel) ⟨Nat.le_of_ble_eq_true rfl, Nat.le_of_ble_eq_true rfl⟩, hts (.static yX4_widthOf) (by decide +kernel), trivial⟩ (hP.sub (ws' := []) [] rfl) (hK.sub [] rfl) rfl hl.1 rfl (Nat.le_of_ble_eq_true rfl) dX1_characterAt_40 ⟨Nat.zero_le _, Nat.zero_le _⟩ (fun r9 hr9 => ?_)
            subst hr9
            refine lv_imul hx hb dX1_characterAt_43 ?_
            refine lv_istore (lv' := [(4, .int ((ts i) * (nI (m_X4_widthOf (ss i))))), (0, .ref h0), (1, .int ix), (2, .int x2), (3, .int (nI i))]) hx hb dX1_characterAt_44 hl (by decide) rfl (fun ls hl => ?_)
            refine lv_iload_n hx hb dX1_characterAt_46 rfl (lv_at hl 3 rfl) ?_
            refine lv_iload hx hb dX1_characterAt_47 (lv_at hl 0 rfl) ?_
            refine lv_icmp_ge (tgt := 64) hx hb dX1_characterAt_49 (by decide) (fun c_4 => ?_) (fun c_4 => ?_)
            · skip
              refine lv_iload_n hx hb dX1_characterAt_64 rfl (lv_at hl 3 rfl) ?_
              refine lv_iload hx hb dX1_characterAt_65 (lv_at hl 0 rfl) ?_
              refine lv_isub hx hb dX1_characterAt_67 ?_
              refine lv_istore_n (lv' := [(2, .int (x2 - ((ts i) * (nI (m_X4_widthOf (ss i)))))), (4, .int ((ts i) * (nI (m_X4_widthOf (ss i))))), (0, .ref h0), (1, .int ix), (3, .int (nI i))]) hx hb dX1_characterAt_68 rfl hl (by decide) rfl (fun ls hl => ?_)
              refine lv_iinc (v := nI (i + 1)) (lv' := [(3, .int (nI (i + 1))), (2, .int (x2 - ((ts i) * (nI (m_X4_widthOf (ss i)))))), (4, .int ((ts i) * (nI (m_X4_widthOf (ss i))))), (0, .ref h0), (1, .int ix)]) hx hb dX1_characterAt_69 hl (k := 4) rfl (nI_add (i) 1) (by decide) rfl (fun ls hl => ?_)
              refine lv_goto (tgt := 10) hx hb dX1_characterAt_72 (by decide) ?_
              exact ih10 (i + 1) (x2 - ((ts i) * (nI (m_X4_widthOf (ss i))))) (by omega) (by omega)  (hm10.trans (by simp only [m_X1_characterAt_L10, if_neg c_2, if_pos c_4])) ls (lv_sub hl [3, 4, 1, 0] rfl)
            · skip
              refine lv_aload_n hx hb dX1_characterAt_52 rfl (lv_at hl 1 rfl) ?_
              refine lv_aload_n hx hb dX1_characterAt_53 rfl (lv_at hl 1 rfl) ?_
              refine va_get (D := (dC, dI)) (ci := 2) (v := .ref h1) (C := RX1) (T := TX1) (N := 10) hx hb hts (by decide +kernel) hown hK hP 0 rfl rfl 0 (by decide) (hts (.fieldLink RX1 38 "PictureRows$Picture" "signs" "[I") (by decide +kernel)) (fun _ h9 => h9) rfl dX1_characterAt_54 ?_
              refine lv_iload_n hx hb dX1_characterAt_57 rfl (lv_at hl 4 rfl) ?_
              refine rd_iald hx hb hK hP 1 0 rfl rfl (i) (by omega) (by omega) dX1_characterAt_58 ?_
              refine lv_iload_n hx hb dX1_characterAt_59 rfl (lv_at hl 3 rfl) ?_
              refine rd_callV (As := [.int (ss i), .int x2]) (rest := []) ⟨hx, hb, hml, hown, hts⟩ hE (c_X1_letterOf l dC dI h0 h1 h2 h3 h4 sc cat da db scl cu (ss i) x2 ) (cwV 2 hts gX1_characterAt_X1_letterOf rfl rfl rfl (by decide +kernel) ⟨Nat.le_of_ble_eq_true rfl, Nat.le_of_ble_eq_true rfl⟩) (hP.sub (ws' := [(h0, .inr (2, [.ref h1, .ref h2, .ref h3, .int cu, .int sc, .int cat, .int da, .int db, .int scl, .ref h4]))]) [0] rfl) (hK.sub [] rfl) (va_recv hK hP (ci := 2) (q0 := 0) rfl rfl) rfl hl.1 rfl (Nat.le_of_ble_eq_true rfl) dX1_characterAt_60 ⟨Nat.zero_le _, Nat.zero_le _⟩ (fun r9 hr9 => ?_)
              subst hr9
              exact rd_iret (v := m_X1_letterOf cu (ss i) x2) hx hb hr hlocks (show m_X1_characterAt ss ts n cu ix = m_X1_letterOf cu (ss i) x2 from hm10.trans (by simp only [m_X1_characterAt_L10, if_neg c_2, if_neg c_4])).symm dX1_characterAt_63
    exact lp_10 (n + 1) (0) ix (by omega) (by omega)  (show m_X1_characterAt ss ts n cu ix = m_X1_characterAt_L10 ss ts n cu (n + 1) 0 ix from by simp only [m_X1_characterAt, if_pos c_1]) ls (lv_sub hl [2, 3, 1, 0] rfl)
  · skip
    refine lv_iconst (v := (-1)) hx hb dX1_characterAt_4 (by decide) ?_
    exact rd_iret (v := (-1)) hx hb hr hlocks (show m_X1_characterAt ss ts n cu ix = (-1) from by simp only [m_X1_characterAt, if_neg c_1]).symm dX1_characterAt_5
def m_X1_countOf_j43_s0 (ss : Nat → Int32) (ts : Nat → Int32) (sg : Int32) (i : Nat) : Int32 := if (ss i) = sg then ts i else 0
def m_X1_countOf_L4 (ss : Nat → Int32) (ts : Nat → Int32) (n : Nat) (sg : Int32) : Nat → Nat → Int32 → Int32
  | 0, _, _ => 0
  | k4 + 1, i, x2 => if n ≤ i then x2 else (m_X1_countOf_L4 ss ts n sg k4 (i + 1) (x2 + (m_X1_countOf_j43_s0 ss ts sg i)))
def m_X1_countOf (ss : Nat → Int32) (ts : Nat → Int32) (n : Nat) (sg : Int32) : Int32 := m_X1_countOf_L4 ss ts n sg (n + 1) 0 0
set_option maxHeartbeats 4000000 in
set_option maxRecDepth 100000 in
theorem c_X1_countOf (l : Launch) (dC : Nat → ClassId) (dI : Nat → Nat → Nat) (h0 : Nat) (h1 : Nat) (h2 : Nat) (h3 : Nat) (h4 : Nat) (cA : ClassId) (cu : Int32) (sc : Int32) (cat : Int32) (da : Int32) (db : Int32) (scl : Int32) (ss : Nat → Int32) (ts : Nat → Int32) (n : Nat) (sg : Int32) (hn : n ≤ 80) : Met l yX1_countOf wsX1_countOf ({ frames := 0, cells := 0, slots := 0, locals := 0 } : Room) (va_Pc [.ref h0, .int sg] (rd_P (dC, dI) vwCl [(h0, .inr (2, [.ref h1, .ref h2, .ref h3, .int cu, .int sc, .int cat, .int da, .int db, .int scl, .ref h4])), (h1, .inl (cA, n, .inl ss)), (h2, .inl (cA, n, .inl ts))] [(cA, .int)])) (vp_Si (fun r => r = m_X1_countOf ss ts n sg)) 0 0 (fun _ => False) := by
  refine Met.ofW (cc := cX1_countOf) (maxL := 4) (ret := (some .int)) (by decide) rfl ?_
  intro p e s m args below meth c s₁ B hml hv
  obtain ⟨rfl, hE, hP, hK⟩ := hv
  have hx := B.exec
  have hb := B.bytes
  have hr := B.returns
  have hts := atoms_spec (ws := wsX1_countOf) B.pre
  have hown : s.vm.findClass RX1 = some m.cls := findClass_of_methodNamed B.named
  have hlocks := B.notSynchronized
  have hl := lv_entry ([.ref h0, .int sg]) (n := 4) (Nat.le_of_ble_eq_true rfl)
  rw [lg_entry_eq]
  generalize (lg_sl ([.ref h0, .int sg]) ++ List.replicate (4 - (lg_sl ([.ref h0, .int sg])).length) Slot.unset).toArray = ls at hl ⊢
  have hl : lv_has ls 4 [(0, .ref h0), (1, .int sg)] := hl
  refine lv_iconst (v := 0) hx hb dX1_countOf_0 (by decide) ?_
  refine lv_istore_n (lv' := [(2, .int 0), (0, .ref h0), (1, .int sg)]) hx hb dX1_countOf_1 rfl hl (by decide) rfl (fun ls hl => ?_)
  refine lv_iconst (v := 0) hx hb dX1_countOf_2 (by decide) ?_
  refine lv_istore_n (lv' := [(3, .int 0), (2, .int 0), (0, .ref h0), (1, .int sg)]) hx hb dX1_countOf_3 rfl hl (by decide) rfl (fun ls hl => ?_)
  have lp_4 : ∀ (k4 i : Nat) (x2 : Int32), i ≤ n → n + 1 ≤ i + k4 → m_X1_countOf ss ts n sg = m_X1_countOf_L4 ss ts n sg k4 i x2 → ∀ (ls : Array Slot), lv_has ls 4 [(0, .ref h0), (1, .int sg), (2, .int x2), (3, .int (nI i))] → W p l e (headSpec wsX1_countOf ({ frames := 0, cells := 0, slots := 0, locals := 0 } : Room)).room s m (([.ref h0, .int sg] : List Value).toArray) below meth c s.heap [] 0 0 (MQ below (vp_Si (fun r => r = m_X1_countOf ss ts n sg)) (([.ref h0, .int sg] : List Value).toArray) s 0 0 (fun _ => False)) (F0 m 4 ls []) := by
    intro k4
    induction k4 with
    | zero => intro i x2 h1_ h2_; exfalso; omega
    | succ k4 ih4 =>
      intro i x2 hb4 hf4  hm4 ls hl
      refine lv_iload_n hx hb dX1_countOf_4 rfl (lv_at hl 3 rfl) ?_
      refine lv_aload_n hx hb dX1_countOf_5 rfl (lv_at hl 0 rfl) ?_
      refine va_get (D := (dC, dI)) (ci := 2) (v := .ref h1) (C := RX1) (T := TX1) (N := 10) hx hb hts (by decide +kernel) hown hK hP 0 rfl rfl 0 (by decide) (hts (.fieldLink RX1 38 "PictureRows$Picture" "signs" "[I") (by decide +kernel)) (fun _ h9 => h9) rfl dX1_countOf_6 ?_
      refine va_alen (v := nI n) hx hb hK hP 1 0 rfl rfl rfl dX1_countOf_9 ?_
      refine lv_icmp_ge (tgt := 51) hx hb dX1_countOf_10 (by decide) (fun c_1 => ?_) (fun c_1 => ?_)
      · skip
        have c_1 : n ≤ i := (nI_leI (a := n) (b := i) (by omega) (by omega)).mp c_1
        refine lv_iload_n hx hb dX1_countOf_51 rfl (lv_at hl 2 rfl) ?_
        exact rd_iret (v := x2) hx hb hr hlocks (show m_X1_countOf ss ts n sg = x2 from hm4.trans (by simp only [m_X1_countOf_L4, if_pos c_1])).symm dX1_countOf_52
      · skip
        have c_1 : ¬ n ≤ i := (fun q_ => c_1 ((nI_leI (a := n) (b := i) (by omega) (by omega)).mpr q_))
        refine lv_iload_n hx hb dX1_countOf_13 rfl (lv_at hl 3 rfl) ?_
        refine lv_aload_n hx hb dX1_countOf_14 rfl (lv_at hl 0 rfl) ?_
        refine va_get (D := (dC, dI)) (ci := 2) (v := .ref h2) (C := RX1) (T := TX1) (N := 10) hx hb hts (by decide +kernel) hown hK hP 0 rfl rfl 1 (by decide) (hts (.fieldLink RX1 44 "PictureRows$Picture" "times" "[I") (by decide +kernel)) (fun _ h9 => h9) rfl dX1_countOf_15 ?_
        refine va_alen (v := nI n) hx hb hK hP 2 0 rfl rfl rfl dX1_countOf_18 ?_
        refine lv_icmp_ge (tgt := 51) hx hb dX1_countOf_19 (by decide) (fun c_2 => ?_) (fun c_2 => ?_)
        · skip
          have c_2 : n ≤ i := (nI_leI (a := n) (b := i) (by omega) (by omega)).mp c_2
          exfalso; omega
        · skip
          have c_2 : ¬ n ≤ i := (fun q_ => c_2 ((nI_leI (a := n) (b := i) (by omega) (by omega)).mpr q_))
          refine lv_iload_n hx hb dX1_countOf_22 rfl (lv_at hl 2 rfl) ?_
          refine lv_aload_n hx hb dX1_countOf_23 rfl (lv_at hl 0 rfl) ?_
          refine va_get (D := (dC, dI)) (ci := 2) (v := .ref h1) (C := RX1) (T := TX1) (N := 10) hx hb hts (by decide +kernel) hown hK hP 0 rfl rfl 0 (by decide) (hts (.fieldLink RX1 38 "PictureRows$Picture" "signs" "[I") (by decide +kernel)) (fun _ h9 => h9) rfl dX1_countOf_24 ?_
          refine lv_iload_n hx hb dX1_countOf_27 rfl (lv_at hl 3 rfl) ?_
          refine rd_iald hx hb hK hP 1 0 rfl rfl (i) (by omega) (by omega) dX1_countOf_28 ?_
          refine lv_iload_n hx hb dX1_countOf_29 rfl (lv_at hl 1 rfl) ?_
          have j_3 : ∀ (y0_j_3 : Int32), y0_j_3 = m_X1_countOf_j43_s0 ss ts sg i → ∀ (ls : Array Slot), lv_has ls 4 [(0, .ref h0), (1, .int sg), (2, .int x2), (3, .int (nI i))] → W p l e (headSpec wsX1_countOf ({ frames := 0, cells := 0, slots := 0, locals := 0 } : Room)).room s m (([.ref h0, .int sg] : List Value).toArray) below meth c s.heap [] 0 0 (MQ below (vp_Si (fun r => r = m_X1_countOf ss ts n sg)) (([.ref h0, .int sg] : List Value).toArray) s 0 0 (fun _ => False)) (F0 m 43 ls [.int y0_j_3, .int x2]) := by
            intro y0_j_3 ey0_j_3 ls hl
            subst ey0_j_3
            refine lv_iadd hx hb dX1_countOf_43 ?_
            refine lv_istore_n (lv' := [(2, .int (x2 + (m_X1_countOf_j43_s0 ss ts sg i))), (0, .ref h0), (1, .int sg), (3, .int (nI i))]) hx hb dX1_countOf_44 rfl hl (by decide) rfl (fun ls hl => ?_)
            refine lv_iinc (v := nI (i + 1)) (lv' := [(3, .int (nI (i + 1))), (2, .int (x2 + (m_X1_countOf_j43_s0 ss ts sg i))), (0, .ref h0), (1, .int sg)]) hx hb dX1_countOf_45 hl (k := 3) rfl (nI_add (i) 1) (by decide) rfl (fun ls hl => ?_)
            refine lv_goto (tgt := 4) hx hb dX1_countOf_48 (by decide) ?_
            exact ih4 (i + 1) (x2 + (m_X1_countOf_j43_s0 ss ts sg i)) (by omega) (by omega)  (hm4.trans (by simp only [m_X1_countOf_L4, if_neg c_1])) ls (lv_sub hl [2, 3, 1, 0] rfl)
          refine lv_icmp_ne (tgt := 42) hx hb dX1_countOf_30 (by decide) (fun c_4 => ?_) (fun c_4 => ?_)
          · skip
            refine lv_iconst (v := 0) hx hb dX1_countOf_42 (by decide) ?_
            exact j_3 0 (by simp only [m_X1_countOf_j43_s0, if_neg c_4]) ls (lv_sub hl [0, 1, 2, 3] rfl)
          · skip
            refine lv_aload_n hx hb dX1_countOf_33 rfl (lv_at hl 0 rfl) ?_
            refine va_get (D := (dC, dI)) (ci := 2) (v := .ref h2) (C := RX1) (T := TX1) (N := 10) hx hb hts (by decide +kernel) hown hK hP 0 rfl rfl 1 (by decide) (hts (.fieldLink RX1 44 "PictureRows$Picture" "times" "[I") (by decide +kernel)) (fun _ h9 => h9) rfl dX1_countOf_34 ?_
            refine lv_iload_n hx hb dX1_countOf_37 rfl (lv_at hl 3 rfl) ?_
            refine rd_iald hx hb hK hP 2 0 rfl rfl (i) (by omega) (by omega) dX1_countOf_38 ?_
            refine lv_goto (tgt := 43) hx hb dX1_countOf_39 (by decide) ?_
            exact j_3 (ts i) (by simp only [m_X1_countOf_j43_s0, if_pos c_4]) ls (lv_sub hl [0, 1, 2, 3] rfl)
  exact lp_4 (n + 1) (0) 0 (by omega) (by omega)  (show m_X1_countOf ss ts n sg = m_X1_countOf_L4 ss ts n sg (n + 1) 0 0 from by simp only [m_X1_countOf]) ls (lv_sub hl [2, 3, 1, 0] rfl)
def m_X1_countOfKind_j43_s0 (ks : Nat → Int32) (ts : Nat → Int32) (kd : Int32) (i : Nat) : Int32 := if (ks i) = kd then ts i else 0
def m_X1_countOfKind_L4 (ks : Nat → Int32) (ts : Nat → Int32) (n : Nat) (kd : Int32) : Nat → Nat → Int32 → Int32
  | 0, _, _ => 0
  | k4 + 1, i, x2 => if n ≤ i then x2 else (m_X1_countOfKind_L4 ks ts n kd k4 (i + 1) (x2 + (m_X1_countOfKind_j43_s0 ks ts kd i)))
def m_X1_countOfKind (ks : Nat → Int32) (ts : Nat → Int32) (n : Nat) (kd : Int32) : Int32 := m_X1_countOfKind_L4 ks ts n kd (n + 1) 0 0
set_option maxHeartbeats 4000000 in
set_option maxRecDepth 100000 in
theorem c_X1_countOfKind (l : Launch) (dC : Nat → ClassId) (dI : Nat → Nat → Nat) (h0 : Nat) (h1 : Nat) (h2 : Nat) (h3 : Nat) (h4 : Nat) (cA : ClassId) (cu : Int32) (sc : Int32) (cat : Int32) (da : Int32) (db : Int32) (scl : Int32) (ks : Nat → Int32) (ts : Nat → Int32) (n : Nat) (kd : Int32) (hn : n ≤ 80) : Met l yX1_countOfKind wsX1_countOfKind ({ frames := 0, cells := 0, slots := 0, locals := 0 } : Room) (va_Pc [.ref h0, .int kd] (rd_P (dC, dI) vwCl [(h0, .inr (2, [.ref h1, .ref h2, .ref h3, .int cu, .int sc, .int cat, .int da, .int db, .int scl, .ref h4])), (h3, .inl (cA, n, .inl ks)), (h2, .inl (cA, n, .inl ts))] [(cA, .int)])) (vp_Si (fun r => r = m_X1_countOfKind ks ts n kd)) 0 0 (fun _ => False) := by
  refine Met.ofW (cc := cX1_countOfKind) (maxL := 4) (ret := (some .int)) (by decide) rfl ?_
  intro p e s m args below meth c s₁ B hml hv
  obtain ⟨rfl, hE, hP, hK⟩ := hv
  have hx := B.exec
  have hb := B.bytes
  have hr := B.returns
  have hts := atoms_spec (ws := wsX1_countOfKind) B.pre
  have hown : s.vm.findClass RX1 = some m.cls := findClass_of_methodNamed B.named
  have hlocks := B.notSynchronized
  have hl := lv_entry ([.ref h0, .int kd]) (n := 4) (Nat.le_of_ble_eq_true rfl)
  rw [lg_entry_eq]
  generalize (lg_sl ([.ref h0, .int kd]) ++ List.replicate (4 - (lg_sl ([.ref h0, .int kd])).length) Slot.unset).toArray = ls at hl ⊢
  have hl : lv_has ls 4 [(0, .ref h0), (1, .int kd)] := hl
  refine lv_iconst (v := 0) hx hb dX1_countOfKind_0 (by decide) ?_
  refine lv_istore_n (lv' := [(2, .int 0), (0, .ref h0), (1, .int kd)]) hx hb dX1_countOfKind_1 rfl hl (by decide) rfl (fun ls hl => ?_)
  refine lv_iconst (v := 0) hx hb dX1_countOfKind_2 (by decide) ?_
  refine lv_istore_n (lv' := [(3, .int 0), (2, .int 0), (0, .ref h0), (1, .int kd)]) hx hb dX1_countOfKind_3 rfl hl (by decide) rfl (fun ls hl => ?_)
  have lp_4 : ∀ (k4 i : Nat) (x2 : Int32), i ≤ n → n + 1 ≤ i + k4 → m_X1_countOfKind ks ts n kd = m_X1_countOfKind_L4 ks ts n kd k4 i x2 → ∀ (ls : Array Slot), lv_has ls 4 [(0, .ref h0), (1, .int kd), (2, .int x2), (3, .int (nI i))] → W p l e (headSpec wsX1_countOfKind ({ frames := 0, cells := 0, slots := 0, locals := 0 } : Room)).room s m (([.ref h0, .int kd] : List Value).toArray) below meth c s.heap [] 0 0 (MQ below (vp_Si (fun r => r = m_X1_countOfKind ks ts n kd)) (([.ref h0, .int kd] : List Value).toArray) s 0 0 (fun _ => False)) (F0 m 4 ls []) := by
    intro k4
    induction k4 with
    | zero => intro i x2 h1_ h2_; exfalso; omega
    | succ k4 ih4 =>
      intro i x2 hb4 hf4  hm4 ls hl
      refine lv_iload_n hx hb dX1_countOfKind_4 rfl (lv_at hl 3 rfl) ?_
      refine lv_aload_n hx hb dX1_countOfKind_5 rfl (lv_at hl 0 rfl) ?_
      refine va_get (D := (dC, dI)) (ci := 2) (v := .ref h3) (C := RX1) (T := TX1) (N := 10) hx hb hts (by decide +kernel) hown hK hP 0 rfl rfl 2 (by decide) (hts (.fieldLink RX1 48 "PictureRows$Picture" "kinds" "[I") (by decide +kernel)) (fun _ h9 => h9) rfl dX1_countOfKind_6 ?_
      refine va_alen (v := nI n) hx hb hK hP 1 0 rfl rfl rfl dX1_countOfKind_9 ?_
      refine lv_icmp_ge (tgt := 51) hx hb dX1_countOfKind_10 (by decide) (fun c_1 => ?_) (fun c_1 => ?_)
      · skip
        have c_1 : n ≤ i := (nI_leI (a := n) (b := i) (by omega) (by omega)).mp c_1
        refine lv_iload_n hx hb dX1_countOfKind_51 rfl (lv_at hl 2 rfl) ?_
        exact rd_iret (v := x2) hx hb hr hlocks (show m_X1_countOfKind ks ts n kd = x2 from hm4.trans (by simp only [m_X1_countOfKind_L4, if_pos c_1])).symm dX1_countOfKind_52
      · skip
        have c_1 : ¬ n ≤ i := (fun q_ => c_1 ((nI_leI (a := n) (b := i) (by omega) (by omega)).mpr q_))
        refine lv_iload_n hx hb dX1_countOfKind_13 rfl (lv_at hl 3 rfl) ?_
        refine lv_aload_n hx hb dX1_countOfKind_14 rfl (lv_at hl 0 rfl) ?_
        refine va_get (D := (dC, dI)) (ci := 2) (v := .ref h2) (C := RX1) (T := TX1) (N := 10) hx hb hts (by decide +kernel) hown hK hP 0 rfl rfl 1 (by decide) (hts (.fieldLink RX1 44 "PictureRows$Picture" "times" "[I") (by decide +kernel)) (fun _ h9 => h9) rfl dX1_countOfKind_15 ?_
        refine va_alen (v := nI n) hx hb hK hP 2 0 rfl rfl rfl dX1_countOfKind_18 ?_
        refine lv_icmp_ge (tgt := 51) hx hb dX1_countOfKind_19 (by decide) (fun c_2 => ?_) (fun c_2 => ?_)
        · skip
          have c_2 : n ≤ i := (nI_leI (a := n) (b := i) (by omega) (by omega)).mp c_2
          exfalso; omega
        · skip
          have c_2 : ¬ n ≤ i := (fun q_ => c_2 ((nI_leI (a := n) (b := i) (by omega) (by omega)).mpr q_))
          refine lv_iload_n hx hb dX1_countOfKind_22 rfl (lv_at hl 2 rfl) ?_
          refine lv_aload_n hx hb dX1_countOfKind_23 rfl (lv_at hl 0 rfl) ?_
          refine va_get (D := (dC, dI)) (ci := 2) (v := .ref h3) (C := RX1) (T := TX1) (N := 10) hx hb hts (by decide +kernel) hown hK hP 0 rfl rfl 2 (by decide) (hts (.fieldLink RX1 48 "PictureRows$Picture" "kinds" "[I") (by decide +kernel)) (fun _ h9 => h9) rfl dX1_countOfKind_24 ?_
          refine lv_iload_n hx hb dX1_countOfKind_27 rfl (lv_at hl 3 rfl) ?_
          refine rd_iald hx hb hK hP 1 0 rfl rfl (i) (by omega) (by omega) dX1_countOfKind_28 ?_
          refine lv_iload_n hx hb dX1_countOfKind_29 rfl (lv_at hl 1 rfl) ?_
          have j_3 : ∀ (y0_j_3 : Int32), y0_j_3 = m_X1_countOfKind_j43_s0 ks ts kd i → ∀ (ls : Array Slot), lv_has ls 4 [(0, .ref h0), (1, .int kd), (2, .int x2), (3, .int (nI i))] → W p l e (headSpec wsX1_countOfKind ({ frames := 0, cells := 0, slots := 0, locals := 0 } : Room)).room s m (([.ref h0, .int kd] : List Value).toArray) below meth c s.heap [] 0 0 (MQ below (vp_Si (fun r => r = m_X1_countOfKind ks ts n kd)) (([.ref h0, .int kd] : List Value).toArray) s 0 0 (fun _ => False)) (F0 m 43 ls [.int y0_j_3, .int x2]) := by
            intro y0_j_3 ey0_j_3 ls hl
            subst ey0_j_3
            refine lv_iadd hx hb dX1_countOfKind_43 ?_
            refine lv_istore_n (lv' := [(2, .int (x2 + (m_X1_countOfKind_j43_s0 ks ts kd i))), (0, .ref h0), (1, .int kd), (3, .int (nI i))]) hx hb dX1_countOfKind_44 rfl hl (by decide) rfl (fun ls hl => ?_)
            refine lv_iinc (v := nI (i + 1)) (lv' := [(3, .int (nI (i + 1))), (2, .int (x2 + (m_X1_countOfKind_j43_s0 ks ts kd i))), (0, .ref h0), (1, .int kd)]) hx hb dX1_countOfKind_45 hl (k := 3) rfl (nI_add (i) 1) (by decide) rfl (fun ls hl => ?_)
            refine lv_goto (tgt := 4) hx hb dX1_countOfKind_48 (by decide) ?_
            exact ih4 (i + 1) (x2 + (m_X1_countOfKind_j43_s0 ks ts kd i)) (by omega) (by omega)  (hm4.trans (by simp only [m_X1_countOfKind_L4, if_neg c_1])) ls (lv_sub hl [2, 3, 1, 0] rfl)
          refine lv_icmp_ne (tgt := 42) hx hb dX1_countOfKind_30 (by decide) (fun c_4 => ?_) (fun c_4 => ?_)
          · skip
            refine lv_iconst (v := 0) hx hb dX1_countOfKind_42 (by decide) ?_
            exact j_3 0 (by simp only [m_X1_countOfKind_j43_s0, if_neg c_4]) ls (lv_sub hl [0, 1, 2, 3] rfl)
          · skip
            refine lv_aload_n hx hb dX1_countOfKind_33 rfl (lv_at hl 0 rfl) ?_
            refine va_get (D := (dC, dI)) (ci := 2) (v := .ref h2) (C := RX1) (T := TX1) (N := 10) hx hb hts (by decide +kernel) hown hK hP 0 rfl rfl 1 (by decide) (hts (.fieldLink RX1 44 "PictureRows$Picture" "times" "[I") (by decide +kernel)) (fun _ h9 => h9) rfl dX1_countOfKind_34 ?_
            refine lv_iload_n hx hb dX1_countOfKind_37 rfl (lv_at hl 3 rfl) ?_
            refine rd_iald hx hb hK hP 2 0 rfl rfl (i) (by omega) (by omega) dX1_countOfKind_38 ?_
            refine lv_goto (tgt := 43) hx hb dX1_countOfKind_39 (by decide) ?_
            exact j_3 (ts i) (by simp only [m_X1_countOfKind_j43_s0, if_pos c_4]) ls (lv_sub hl [0, 1, 2, 3] rfl)
  exact lp_4 (n + 1) (0) 0 (by omega) (by omega)  (show m_X1_countOfKind ks ts n kd = m_X1_countOfKind_L4 ks ts n kd (n + 1) 0 0 from by simp only [m_X1_countOfKind]) ls (lv_sub hl [2, 3, 1, 0] rfl)
def m_X1_insertionsOf (ss : Nat → Int32) (ts : Nat → Int32) (ks : Nat → Int32) (n : Nat) (kd : Int32) : Int32 := if kd = 0 then (m_X1_countOf ss ts n 66) else (if kd = 1 then (m_X1_countOf ss ts n 48) else (if kd = 2 then (m_X1_countOf ss ts n 47) else (if kd = 3 then (m_X1_countOf ss ts n 44) else (if kd = 4 then (m_X1_countOf ss ts n 46) else (if kd = 5 then ((m_X1_countOfKind ks ts n 3) + (m_X1_countOfKind ks ts n 4)) else (if kd = 6 then (m_X1_countOfKind ks ts n 5) else ((-1))))))))
set_option maxHeartbeats 4000000 in
set_option maxRecDepth 100000 in
theorem c_X1_insertionsOf (l : Launch) (dC : Nat → ClassId) (dI : Nat → Nat → Nat) (h0 : Nat) (h1 : Nat) (h2 : Nat) (h3 : Nat) (h4 : Nat) (cA : ClassId) (cu : Int32) (sc : Int32) (cat : Int32) (da : Int32) (db : Int32) (scl : Int32) (ss : Nat → Int32) (ts : Nat → Int32) (ks : Nat → Int32) (n : Nat) (kd : Int32) (hn : n ≤ 80) : Met l yX1_insertionsOf wsX1_insertionsOf ({ frames := 1, cells := 0, slots := 0, locals := 23 } : Room) (va_Pc [.ref h0, .int kd] (rd_P (dC, dI) vwCl [(h0, .inr (2, [.ref h1, .ref h2, .ref h3, .int cu, .int sc, .int cat, .int da, .int db, .int scl, .ref h4])), (h1, .inl (cA, n, .inl ss)), (h2, .inl (cA, n, .inl ts)), (h3, .inl (cA, n, .inl ks))] [(cA, .int)])) (vp_Si (fun r => r = m_X1_insertionsOf ss ts ks n kd)) 0 0 (fun _ => False) := by
  refine Met.ofW (cc := cX1_insertionsOf) (maxL := 2) (ret := (some .int)) (by decide) rfl ?_
  intro p e s m args below meth c s₁ B hml hv
  obtain ⟨rfl, hE, hP, hK⟩ := hv
  have hx := B.exec
  have hb := B.bytes
  have hr := B.returns
  have hts := atoms_spec (ws := wsX1_insertionsOf) B.pre
  have hown : s.vm.findClass RX1 = some m.cls := findClass_of_methodNamed B.named
  have hlocks := B.notSynchronized
  have hl := lv_entry ([.ref h0, .int kd]) (n := 2) (Nat.le_of_ble_eq_true rfl)
  rw [lg_entry_eq]
  generalize (lg_sl ([.ref h0, .int kd]) ++ List.replicate (2 - (lg_sl ([.ref h0, .int kd])).length) Slot.unset).toArray = ls at hl ⊢
  have hl : lv_has ls 2 [(0, .ref h0), (1, .int kd)] := hl
  refine lv_iload_n hx hb dX1_insertionsOf_0 rfl (lv_at hl 1 rfl) ?_
  by_cases c_1 : kd = 0
  · skip
    refine lv_tableIn (off := 43) (tgt := 44) hx hb dX1_insertionsOf_1 (by rw [c_1]; decide) (by rw [c_1]; decide) (by rw [c_1]; rfl) (by decide) ?_
    refine lv_aload_n hx hb dX1_insertionsOf_44 rfl (lv_at hl 0 rfl) ?_
    refine lv_bipush (v := 66) hx hb dX1_insertionsOf_45 (by decide) ?_
    refine rd_callV (As := [.int 66]) (rest := []) ⟨hx, hb, hml, hown, hts⟩ hE (c_X1_countOf l dC dI h0 h1 h2 h3 h4 cA cu sc cat da db scl ss ts n 66 (by omega)) (cwV 1 hts gX1_insertionsOf_X1_countOf rfl rfl rfl (by decide +kernel) ⟨Nat.le_of_ble_eq_true rfl, Nat.le_of_ble_eq_true rfl⟩) (hP.sub (ws' := [(h0, .inr (2, [.ref h1, .ref h2, .ref h3, .int cu, .int sc, .int cat, .int da, .int db, .int scl, .ref h4])), (h1, .inl (cA, n, .inl ss)), (h2, .inl (cA, n, .inl ts))]) [0, 1, 2] rfl) (hK.sub [0] rfl) (va_recv hK hP (ci := 2) (q0 := 0) rfl rfl) rfl hl.1 rfl (Nat.le_of_ble_eq_true rfl) dX1_insertionsOf_47 ⟨Nat.zero_le _, Nat.zero_le _⟩ (fun r9 hr9 => ?_)
    subst hr9
    exact rd_iret (v := m_X1_countOf ss ts n 66) hx hb hr hlocks (show m_X1_insertionsOf ss ts ks n kd = m_X1_countOf ss ts n 66 from by simp only [m_X1_insertionsOf, if_pos c_1]).symm dX1_insertionsOf_50
  by_cases c_2 : kd = 1
  · skip
    refine lv_tableIn (off := 50) (tgt := 51) hx hb dX1_insertionsOf_1 (by rw [c_2]; decide) (by rw [c_2]; decide) (by rw [c_2]; rfl) (by decide) ?_
    refine lv_aload_n hx hb dX1_insertionsOf_51 rfl (lv_at hl 0 rfl) ?_
    refine lv_bipush (v := 48) hx hb dX1_insertionsOf_52 (by decide) ?_
    refine rd_callV (As := [.int 48]) (rest := []) ⟨hx, hb, hml, hown, hts⟩ hE (c_X1_countOf l dC dI h0 h1 h2 h3 h4 cA cu sc cat da db scl ss ts n 48 (by omega)) (cwV 1 hts gX1_insertionsOf_X1_countOf rfl rfl rfl (by decide +kernel) ⟨Nat.le_of_ble_eq_true rfl, Nat.le_of_ble_eq_true rfl⟩) (hP.sub (ws' := [(h0, .inr (2, [.ref h1, .ref h2, .ref h3, .int cu, .int sc, .int cat, .int da, .int db, .int scl, .ref h4])), (h1, .inl (cA, n, .inl ss)), (h2, .inl (cA, n, .inl ts))]) [0, 1, 2] rfl) (hK.sub [0] rfl) (va_recv hK hP (ci := 2) (q0 := 0) rfl rfl) rfl hl.1 rfl (Nat.le_of_ble_eq_true rfl) dX1_insertionsOf_54 ⟨Nat.zero_le _, Nat.zero_le _⟩ (fun r9 hr9 => ?_)
    subst hr9
    exact rd_iret (v := m_X1_countOf ss ts n 48) hx hb hr hlocks (show m_X1_insertionsOf ss ts ks n kd = m_X1_countOf ss ts n 48 from by simp only [m_X1_insertionsOf, if_neg c_1, if_pos c_2]).symm dX1_insertionsOf_57
  by_cases c_3 : kd = 2
  · skip
    refine lv_tableIn (off := 57) (tgt := 58) hx hb dX1_insertionsOf_1 (by rw [c_3]; decide) (by rw [c_3]; decide) (by rw [c_3]; rfl) (by decide) ?_
    refine lv_aload_n hx hb dX1_insertionsOf_58 rfl (lv_at hl 0 rfl) ?_
    refine lv_bipush (v := 47) hx hb dX1_insertionsOf_59 (by decide) ?_
    refine rd_callV (As := [.int 47]) (rest := []) ⟨hx, hb, hml, hown, hts⟩ hE (c_X1_countOf l dC dI h0 h1 h2 h3 h4 cA cu sc cat da db scl ss ts n 47 (by omega)) (cwV 1 hts gX1_insertionsOf_X1_countOf rfl rfl rfl (by decide +kernel) ⟨Nat.le_of_ble_eq_true rfl, Nat.le_of_ble_eq_true rfl⟩) (hP.sub (ws' := [(h0, .inr (2, [.ref h1, .ref h2, .ref h3, .int cu, .int sc, .int cat, .int da, .int db, .int scl, .ref h4])), (h1, .inl (cA, n, .inl ss)), (h2, .inl (cA, n, .inl ts))]) [0, 1, 2] rfl) (hK.sub [0] rfl) (va_recv hK hP (ci := 2) (q0 := 0) rfl rfl) rfl hl.1 rfl (Nat.le_of_ble_eq_true rfl) dX1_insertionsOf_61 ⟨Nat.zero_le _, Nat.zero_le _⟩ (fun r9 hr9 => ?_)
    subst hr9
    exact rd_iret (v := m_X1_countOf ss ts n 47) hx hb hr hlocks (show m_X1_insertionsOf ss ts ks n kd = m_X1_countOf ss ts n 47 from by simp only [m_X1_insertionsOf, if_neg c_1, if_neg c_2, if_pos c_3]).symm dX1_insertionsOf_64
  by_cases c_4 : kd = 3
  · skip
    refine lv_tableIn (off := 64) (tgt := 65) hx hb dX1_insertionsOf_1 (by rw [c_4]; decide) (by rw [c_4]; decide) (by rw [c_4]; rfl) (by decide) ?_
    refine lv_aload_n hx hb dX1_insertionsOf_65 rfl (lv_at hl 0 rfl) ?_
    refine lv_bipush (v := 44) hx hb dX1_insertionsOf_66 (by decide) ?_
    refine rd_callV (As := [.int 44]) (rest := []) ⟨hx, hb, hml, hown, hts⟩ hE (c_X1_countOf l dC dI h0 h1 h2 h3 h4 cA cu sc cat da db scl ss ts n 44 (by omega)) (cwV 1 hts gX1_insertionsOf_X1_countOf rfl rfl rfl (by decide +kernel) ⟨Nat.le_of_ble_eq_true rfl, Nat.le_of_ble_eq_true rfl⟩) (hP.sub (ws' := [(h0, .inr (2, [.ref h1, .ref h2, .ref h3, .int cu, .int sc, .int cat, .int da, .int db, .int scl, .ref h4])), (h1, .inl (cA, n, .inl ss)), (h2, .inl (cA, n, .inl ts))]) [0, 1, 2] rfl) (hK.sub [0] rfl) (va_recv hK hP (ci := 2) (q0 := 0) rfl rfl) rfl hl.1 rfl (Nat.le_of_ble_eq_true rfl) dX1_insertionsOf_68 ⟨Nat.zero_le _, Nat.zero_le _⟩ (fun r9 hr9 => ?_)
    subst hr9
    exact rd_iret (v := m_X1_countOf ss ts n 44) hx hb hr hlocks (show m_X1_insertionsOf ss ts ks n kd = m_X1_countOf ss ts n 44 from by simp only [m_X1_insertionsOf, if_neg c_1, if_neg c_2, if_neg c_3, if_pos c_4]).symm dX1_insertionsOf_71
  by_cases c_5 : kd = 4
  · skip
    refine lv_tableIn (off := 71) (tgt := 72) hx hb dX1_insertionsOf_1 (by rw [c_5]; decide) (by rw [c_5]; decide) (by rw [c_5]; rfl) (by decide) ?_
    refine lv_aload_n hx hb dX1_insertionsOf_72 rfl (lv_at hl 0 rfl) ?_
    refine lv_bipush (v := 46) hx hb dX1_insertionsOf_73 (by decide) ?_
    refine rd_callV (As := [.int 46]) (rest := []) ⟨hx, hb, hml, hown, hts⟩ hE (c_X1_countOf l dC dI h0 h1 h2 h3 h4 cA cu sc cat da db scl ss ts n 46 (by omega)) (cwV 1 hts gX1_insertionsOf_X1_countOf rfl rfl rfl (by decide +kernel) ⟨Nat.le_of_ble_eq_true rfl, Nat.le_of_ble_eq_true rfl⟩) (hP.sub (ws' := [(h0, .inr (2, [.ref h1, .ref h2, .ref h3, .int cu, .int sc, .int cat, .int da, .int db, .int scl, .ref h4])), (h1, .inl (cA, n, .inl ss)), (h2, .inl (cA, n, .inl ts))]) [0, 1, 2] rfl) (hK.sub [0] rfl) (va_recv hK hP (ci := 2) (q0 := 0) rfl rfl) rfl hl.1 rfl (Nat.le_of_ble_eq_true rfl) dX1_insertionsOf_75 ⟨Nat.zero_le _, Nat.zero_le _⟩ (fun r9 hr9 => ?_)
    subst hr9
    exact rd_iret (v := m_X1_countOf ss ts n 46) hx hb hr hlocks (show m_X1_insertionsOf ss ts ks n kd = m_X1_countOf ss ts n 46 from by simp only [m_X1_insertionsOf, if_neg c_1, if_neg c_2, if_neg c_3, if_neg c_4, if_pos c_5]).symm dX1_insertionsOf_78
  by_cases c_6 : kd = 5
  · skip
    refine lv_tableIn (off := 78) (tgt := 79) hx hb dX1_insertionsOf_1 (by rw [c_6]; decide) (by rw [c_6]; decide) (by rw [c_6]; rfl) (by decide) ?_
    refine lv_aload_n hx hb dX1_insertionsOf_79 rfl (lv_at hl 0 rfl) ?_
    refine lv_iconst (v := 3) hx hb dX1_insertionsOf_80 (by decide) ?_
    refine rd_callV (As := [.int 3]) (rest := []) ⟨hx, hb, hml, hown, hts⟩ hE (c_X1_countOfKind l dC dI h0 h1 h2 h3 h4 cA cu sc cat da db scl ks ts n 3 (by omega)) (cwV 1 hts gX1_insertionsOf_X1_countOfKind rfl rfl rfl (by decide +kernel) ⟨Nat.le_of_ble_eq_true rfl, Nat.le_of_ble_eq_true rfl⟩) (hP.sub (ws' := [(h0, .inr (2, [.ref h1, .ref h2, .ref h3, .int cu, .int sc, .int cat, .int da, .int db, .int scl, .ref h4])), (h3, .inl (cA, n, .inl ks)), (h2, .inl (cA, n, .inl ts))]) [0, 3, 2] rfl) (hK.sub [0] rfl) (va_recv hK hP (ci := 2) (q0 := 0) rfl rfl) rfl hl.1 rfl (Nat.le_of_ble_eq_true rfl) dX1_insertionsOf_81 ⟨Nat.zero_le _, Nat.zero_le _⟩ (fun r9 hr9 => ?_)
    subst hr9
    refine lv_aload_n hx hb dX1_insertionsOf_84 rfl (lv_at hl 0 rfl) ?_
    refine lv_iconst (v := 4) hx hb dX1_insertionsOf_85 (by decide) ?_
    refine rd_callV (As := [.int 4]) (rest := [.int (m_X1_countOfKind ks ts n 3)]) ⟨hx, hb, hml, hown, hts⟩ hE (c_X1_countOfKind l dC dI h0 h1 h2 h3 h4 cA cu sc cat da db scl ks ts n 4 (by omega)) (cwV 1 hts gX1_insertionsOf_X1_countOfKind rfl rfl rfl (by decide +kernel) ⟨Nat.le_of_ble_eq_true rfl, Nat.le_of_ble_eq_true rfl⟩) (hP.sub (ws' := [(h0, .inr (2, [.ref h1, .ref h2, .ref h3, .int cu, .int sc, .int cat, .int da, .int db, .int scl, .ref h4])), (h3, .inl (cA, n, .inl ks)), (h2, .inl (cA, n, .inl ts))]) [0, 3, 2] rfl) (hK.sub [0] rfl) (va_recv hK hP (ci := 2) (q0 := 0) rfl rfl) rfl hl.1 rfl (Nat.le_of_ble_eq_true rfl) dX1_insertionsOf_86 ⟨Nat.zero_le _, Nat.zero_le _⟩ (fun r9 hr9 => ?_)
    subst hr9
    refine lv_iadd hx hb dX1_insertionsOf_89 ?_
    exact rd_iret (v := (m_X1_countOfKind ks ts n 3) + (m_X1_countOfKind ks ts n 4)) hx hb hr hlocks (show m_X1_insertionsOf ss ts ks n kd = (m_X1_countOfKind ks ts n 3) + (m_X1_countOfKind ks ts n 4) from by simp only [m_X1_insertionsOf, if_neg c_1, if_neg c_2, if_neg c_3, if_neg c_4, if_neg c_5, if_pos c_6]).symm dX1_insertionsOf_90
  by_cases c_7 : kd = 6
  · skip
    refine lv_tableIn (off := 90) (tgt := 91) hx hb dX1_insertionsOf_1 (by rw [c_7]; decide) (by rw [c_7]; decide) (by rw [c_7]; rfl) (by decide) ?_
    refine lv_aload_n hx hb dX1_insertionsOf_91 rfl (lv_at hl 0 rfl) ?_
    refine lv_iconst (v := 5) hx hb dX1_insertionsOf_92 (by decide) ?_
    refine rd_callV (As := [.int 5]) (rest := []) ⟨hx, hb, hml, hown, hts⟩ hE (c_X1_countOfKind l dC dI h0 h1 h2 h3 h4 cA cu sc cat da db scl ks ts n 5 (by omega)) (cwV 1 hts gX1_insertionsOf_X1_countOfKind rfl rfl rfl (by decide +kernel) ⟨Nat.le_of_ble_eq_true rfl, Nat.le_of_ble_eq_true rfl⟩) (hP.sub (ws' := [(h0, .inr (2, [.ref h1, .ref h2, .ref h3, .int cu, .int sc, .int cat, .int da, .int db, .int scl, .ref h4])), (h3, .inl (cA, n, .inl ks)), (h2, .inl (cA, n, .inl ts))]) [0, 3, 2] rfl) (hK.sub [0] rfl) (va_recv hK hP (ci := 2) (q0 := 0) rfl rfl) rfl hl.1 rfl (Nat.le_of_ble_eq_true rfl) dX1_insertionsOf_93 ⟨Nat.zero_le _, Nat.zero_le _⟩ (fun r9 hr9 => ?_)
    subst hr9
    exact rd_iret (v := m_X1_countOfKind ks ts n 5) hx hb hr hlocks (show m_X1_insertionsOf ss ts ks n kd = m_X1_countOfKind ks ts n 5 from by simp only [m_X1_insertionsOf, if_neg c_1, if_neg c_2, if_neg c_3, if_neg c_4, if_neg c_5, if_neg c_6, if_pos c_7]).symm dX1_insertionsOf_96
  refine lv_tableOut (tgt := 97) hx hb dX1_insertionsOf_1 (by have n0_ := lv_neT (a := 0) c_1 (by decide); have n1_ := lv_neT (a := 1) c_2 (by decide); have n2_ := lv_neT (a := 2) c_3 (by decide); have n3_ := lv_neT (a := 3) c_4 (by decide); have n4_ := lv_neT (a := 4) c_5 (by decide); have n5_ := lv_neT (a := 5) c_6 (by decide); have n6_ := lv_neT (a := 6) c_7 (by decide); omega) (by decide) ?_
  refine lv_iconst (v := (-1)) hx hb dX1_insertionsOf_97 (by decide) ?_
  exact rd_iret (v := (-1)) hx hb hr hlocks (show m_X1_insertionsOf ss ts ks n kd = (-1) from by simp only [m_X1_insertionsOf, if_neg c_1, if_neg c_2, if_neg c_3, if_neg c_4, if_neg c_5, if_neg c_6, if_neg c_7]).symm dX1_insertionsOf_98
def m_X0_signOf (ss : Nat → Int32) (n : Nat) (i : Nat) : Int32 := if n ≤ i then ((-1)) else (ss i)
set_option maxHeartbeats 4000000 in
set_option maxRecDepth 100000 in
theorem c_X0_signOf (l : Launch) (dC : Nat → ClassId) (dI : Nat → Nat → Nat) (h0 : Nat) (h1 : Nat) (h2 : Nat) (cA : ClassId) (sz : Nat) (ss : Nat → Int32) (n : Nat) (i : Nat) (hn : n ≤ 80) (hi : i ≤ 80) : Met l yX0_signOf wsX0_signOf ({ frames := 0, cells := 0, slots := 0, locals := 0 } : Room) (va_Pc [.ref h0, .int (nI i)] (rd_P (dC, dI) vwCl [(h0, .inr (1, [.ref h1, .ref h2, .int (nI sz)])), (h1, .inl (cA, n, .inl ss))] [(cA, .int)])) (vp_Si (fun r => r = m_X0_signOf ss n i)) 0 0 (fun _ => False) := by
  refine Met.ofW (cc := cX0_signOf) (maxL := 2) (ret := (some .int)) (by decide) rfl ?_
  intro p e s m args below meth c s₁ B hml hv
  obtain ⟨rfl, hE, hP, hK⟩ := hv
  have hx := B.exec
  have hb := B.bytes
  have hr := B.returns
  have hts := atoms_spec (ws := wsX0_signOf) B.pre
  have hown : s.vm.findClass RX0 = some m.cls := findClass_of_methodNamed B.named
  have hlocks := B.notSynchronized
  have hl := lv_entry ([.ref h0, .int (nI i)]) (n := 2) (Nat.le_of_ble_eq_true rfl)
  rw [lg_entry_eq]
  generalize (lg_sl ([.ref h0, .int (nI i)]) ++ List.replicate (2 - (lg_sl ([.ref h0, .int (nI i)])).length) Slot.unset).toArray = ls at hl ⊢
  have hl : lv_has ls 2 [(0, .ref h0), (1, .int (nI i))] := hl
  refine lv_iload_n hx hb dX0_signOf_0 rfl (lv_at hl 1 rfl) ?_
  refine lv_if_lt (tgt := 22) hx hb dX0_signOf_1 (by decide) (fun c_1 => ?_) (fun c_1 => ?_)
  · skip
    have c_1 : i < 0 := (nI_ltI (a := i) (b := 0) (by omega) (by omega)).mp c_1
    exfalso; omega
  · skip
    have c_1 : ¬ i < 0 := (fun q_ => c_1 ((nI_ltI (a := i) (b := 0) (by omega) (by omega)).mpr q_))
    refine lv_iload_n hx hb dX0_signOf_4 rfl (lv_at hl 1 rfl) ?_
    refine lv_aload_n hx hb dX0_signOf_5 rfl (lv_at hl 0 rfl) ?_
    refine va_get (D := (dC, dI)) (ci := 1) (v := .ref h1) (C := RX0) (T := TX0) (N := 3) hx hb hts (by decide +kernel) hown hK hP 0 rfl rfl 0 (by decide) (hts (.fieldLink RX0 21 "PictureRows$Effect" "signs" "[I") (by decide +kernel)) (fun _ h9 => h9) rfl dX0_signOf_6 ?_
    refine va_alen (v := nI n) hx hb hK hP 1 0 rfl rfl rfl dX0_signOf_9 ?_
    refine lv_icmp_ge (tgt := 22) hx hb dX0_signOf_10 (by decide) (fun c_2 => ?_) (fun c_2 => ?_)
    · skip
      have c_2 : n ≤ i := (nI_leI (a := n) (b := i) (by omega) (by omega)).mp c_2
      refine lv_iconst (v := (-1)) hx hb dX0_signOf_22 (by decide) ?_
      exact rd_iret (v := (-1)) hx hb hr hlocks (show m_X0_signOf ss n i = (-1) from by simp only [m_X0_signOf, if_pos c_2]).symm dX0_signOf_23
    · skip
      have c_2 : ¬ n ≤ i := (fun q_ => c_2 ((nI_leI (a := n) (b := i) (by omega) (by omega)).mpr q_))
      refine lv_aload_n hx hb dX0_signOf_13 rfl (lv_at hl 0 rfl) ?_
      refine va_get (D := (dC, dI)) (ci := 1) (v := .ref h1) (C := RX0) (T := TX0) (N := 3) hx hb hts (by decide +kernel) hown hK hP 0 rfl rfl 0 (by decide) (hts (.fieldLink RX0 21 "PictureRows$Effect" "signs" "[I") (by decide +kernel)) (fun _ h9 => h9) rfl dX0_signOf_14 ?_
      refine lv_iload_n hx hb dX0_signOf_17 rfl (lv_at hl 1 rfl) ?_
      refine rd_iald hx hb hK hP 1 0 rfl rfl (i) (by omega) (by omega) dX0_signOf_18 ?_
      refine lv_goto (tgt := 23) hx hb dX0_signOf_19 (by decide) ?_
      exact rd_iret (v := ss i) hx hb hr hlocks (show m_X0_signOf ss n i = ss i from by simp only [m_X0_signOf, if_neg c_2]).symm dX0_signOf_23
def m_X0_timesOf (ts : Nat → Int32) (n : Nat) (i : Nat) : Int32 := if n ≤ i then 0 else (ts i)
set_option maxHeartbeats 4000000 in
set_option maxRecDepth 100000 in
theorem c_X0_timesOf (l : Launch) (dC : Nat → ClassId) (dI : Nat → Nat → Nat) (h0 : Nat) (h1 : Nat) (h2 : Nat) (cA : ClassId) (sz : Nat) (ts : Nat → Int32) (n : Nat) (i : Nat) (hn : n ≤ 80) (hi : i ≤ 80) : Met l yX0_timesOf wsX0_timesOf ({ frames := 0, cells := 0, slots := 0, locals := 0 } : Room) (va_Pc [.ref h0, .int (nI i)] (rd_P (dC, dI) vwCl [(h0, .inr (1, [.ref h1, .ref h2, .int (nI sz)])), (h2, .inl (cA, n, .inl ts))] [(cA, .int)])) (vp_Si (fun r => r = m_X0_timesOf ts n i)) 0 0 (fun _ => False) := by
  refine Met.ofW (cc := cX0_timesOf) (maxL := 2) (ret := (some .int)) (by decide) rfl ?_
  intro p e s m args below meth c s₁ B hml hv
  obtain ⟨rfl, hE, hP, hK⟩ := hv
  have hx := B.exec
  have hb := B.bytes
  have hr := B.returns
  have hts := atoms_spec (ws := wsX0_timesOf) B.pre
  have hown : s.vm.findClass RX0 = some m.cls := findClass_of_methodNamed B.named
  have hlocks := B.notSynchronized
  have hl := lv_entry ([.ref h0, .int (nI i)]) (n := 2) (Nat.le_of_ble_eq_true rfl)
  rw [lg_entry_eq]
  generalize (lg_sl ([.ref h0, .int (nI i)]) ++ List.replicate (2 - (lg_sl ([.ref h0, .int (nI i)])).length) Slot.unset).toArray = ls at hl ⊢
  have hl : lv_has ls 2 [(0, .ref h0), (1, .int (nI i))] := hl
  refine lv_iload_n hx hb dX0_timesOf_0 rfl (lv_at hl 1 rfl) ?_
  refine lv_if_lt (tgt := 22) hx hb dX0_timesOf_1 (by decide) (fun c_1 => ?_) (fun c_1 => ?_)
  · skip
    have c_1 : i < 0 := (nI_ltI (a := i) (b := 0) (by omega) (by omega)).mp c_1
    exfalso; omega
  · skip
    have c_1 : ¬ i < 0 := (fun q_ => c_1 ((nI_ltI (a := i) (b := 0) (by omega) (by omega)).mpr q_))
    refine lv_iload_n hx hb dX0_timesOf_4 rfl (lv_at hl 1 rfl) ?_
    refine lv_aload_n hx hb dX0_timesOf_5 rfl (lv_at hl 0 rfl) ?_
    refine va_get (D := (dC, dI)) (ci := 1) (v := .ref h2) (C := RX0) (T := TX0) (N := 3) hx hb hts (by decide +kernel) hown hK hP 0 rfl rfl 1 (by decide) (hts (.fieldLink RX0 25 "PictureRows$Effect" "times" "[I") (by decide +kernel)) (fun _ h9 => h9) rfl dX0_timesOf_6 ?_
    refine va_alen (v := nI n) hx hb hK hP 1 0 rfl rfl rfl dX0_timesOf_9 ?_
    refine lv_icmp_ge (tgt := 22) hx hb dX0_timesOf_10 (by decide) (fun c_2 => ?_) (fun c_2 => ?_)
    · skip
      have c_2 : n ≤ i := (nI_leI (a := n) (b := i) (by omega) (by omega)).mp c_2
      refine lv_iconst (v := 0) hx hb dX0_timesOf_22 (by decide) ?_
      exact rd_iret (v := 0) hx hb hr hlocks (show m_X0_timesOf ts n i = 0 from by simp only [m_X0_timesOf, if_pos c_2]).symm dX0_timesOf_23
    · skip
      have c_2 : ¬ n ≤ i := (fun q_ => c_2 ((nI_leI (a := n) (b := i) (by omega) (by omega)).mpr q_))
      refine lv_aload_n hx hb dX0_timesOf_13 rfl (lv_at hl 0 rfl) ?_
      refine va_get (D := (dC, dI)) (ci := 1) (v := .ref h2) (C := RX0) (T := TX0) (N := 3) hx hb hts (by decide +kernel) hown hK hP 0 rfl rfl 1 (by decide) (hts (.fieldLink RX0 25 "PictureRows$Effect" "times" "[I") (by decide +kernel)) (fun _ h9 => h9) rfl dX0_timesOf_14 ?_
      refine lv_iload_n hx hb dX0_timesOf_17 rfl (lv_at hl 1 rfl) ?_
      refine rd_iald hx hb hK hP 1 0 rfl rfl (i) (by omega) (by omega) dX0_timesOf_18 ?_
      refine lv_goto (tgt := 23) hx hb dX0_timesOf_19 (by decide) ?_
      exact rd_iret (v := ts i) hx hb hr hlocks (show m_X0_timesOf ts n i = ts i from by simp only [m_X0_timesOf, if_neg c_2]).symm dX0_timesOf_23
def m_X0_equalTo_L19 (ss : Nat → Int32) (ts : Nat → Int32) (n : Nat) (sz : Nat) (us : Nat → Int32) (vs : Nat → Int32) (o : Nat) : Nat → Nat → Bool
  | 0, _ => false
  | k19 + 1, i => if sz ≤ i then true else (if (m_X0_signOf ss n i) = (m_X0_signOf us o i) then (if (m_X0_timesOf ts n i) = (m_X0_timesOf vs o i) then (m_X0_equalTo_L19 ss ts n sz us vs o k19 (i + 1)) else false) else false)
def m_X0_equalTo (ss : Nat → Int32) (ts : Nat → Int32) (n : Nat) (sz : Nat) (us : Nat → Int32) (vs : Nat → Int32) (o : Nat) (tz : Nat) : Bool := if tz = sz then (m_X0_equalTo_L19 ss ts n sz us vs o (sz + 1) 0) else false
set_option maxHeartbeats 4000000 in
set_option maxRecDepth 100000 in
theorem c_X0_equalTo (l : Launch) (dC : Nat → ClassId) (dI : Nat → Nat → Nat) (h0 : Nat) (h1 : Nat) (h2 : Nat) (g0 : Nat) (g1 : Nat) (g2 : Nat) (cA : ClassId) (ss : Nat → Int32) (ts : Nat → Int32) (n : Nat) (sz : Nat) (us : Nat → Int32) (vs : Nat → Int32) (o : Nat) (tz : Nat) (hn : n ≤ 80) (ho : o ≤ 80) (hsz : sz ≤ 80) (htz : tz ≤ 80) : Met l yX0_equalTo wsX0_equalTo ({ frames := 1, cells := 0, slots := 0, locals := 21 } : Room) (va_Pc [.ref h0, .ref g0] (rd_P (dC, dI) vwCl [(h0, .inr (1, [.ref h1, .ref h2, .int (nI sz)])), (h1, .inl (cA, n, .inl ss)), (h2, .inl (cA, n, .inl ts)), (g0, .inr (1, [.ref g1, .ref g2, .int (nI tz)])), (g1, .inl (cA, o, .inl us)), (g2, .inl (cA, o, .inl vs))] [(cA, .int)])) (vp_Si (fun r => r = bI (m_X0_equalTo ss ts n sz us vs o tz))) 0 0 (fun _ => False) := by
  refine Met.ofW (cc := cX0_equalTo) (maxL := 3) (ret := (some .boolean)) (by decide) rfl ?_
  intro p e s m args below meth c s₁ B hml hv
  obtain ⟨rfl, hE, hP, hK⟩ := hv
  have hx := B.exec
  have hb := B.bytes
  have hr := B.returns
  have hts := atoms_spec (ws := wsX0_equalTo) B.pre
  have hown : s.vm.findClass RX0 = some m.cls := findClass_of_methodNamed B.named
  have hlocks := B.notSynchronized
  have hl := lv_entry ([.ref h0, .ref g0]) (n := 3) (Nat.le_of_ble_eq_true rfl)
  rw [lg_entry_eq]
  generalize (lg_sl ([.ref h0, .ref g0]) ++ List.replicate (3 - (lg_sl ([.ref h0, .ref g0])).length) Slot.unset).toArray = ls at hl ⊢
  have hl : lv_has ls 3 [(0, .ref h0), (1, .ref g0)] := hl
  refine lv_aload_n hx hb dX0_equalTo_0 rfl (lv_at hl 1 rfl) ?_
  refine lv_ifnull hx hb dX0_equalTo_1 ?_
  refine lv_aload_n hx hb dX0_equalTo_4 rfl (lv_at hl 1 rfl) ?_
  refine va_get (D := (dC, dI)) (ci := 1) (v := .int (nI tz)) (C := RX0) (T := TX0) (N := 3) hx hb hts (by decide +kernel) hown hK hP 3 rfl rfl 2 (by decide) (hts (.fieldLink RX0 9 "PictureRows$Effect" "size" "I") (by decide +kernel)) (fun _ h9 => h9) rfl dX0_equalTo_5 ?_
  refine lv_aload_n hx hb dX0_equalTo_8 rfl (lv_at hl 0 rfl) ?_
  refine va_get (D := (dC, dI)) (ci := 1) (v := .int (nI sz)) (C := RX0) (T := TX0) (N := 3) hx hb hts (by decide +kernel) hown hK hP 0 rfl rfl 2 (by decide) (hts (.fieldLink RX0 9 "PictureRows$Effect" "size" "I") (by decide +kernel)) (fun _ h9 => h9) rfl dX0_equalTo_9 ?_
  refine lv_icmp_eq (tgt := 17) hx hb dX0_equalTo_12 (by decide) (fun c_1 => ?_) (fun c_1 => ?_)
  · skip
    have c_1 : tz = sz := (nI_eq (a := tz) (b := sz) (by omega) (by omega)).mp c_1
    refine lv_iconst (v := 0) hx hb dX0_equalTo_17 (by decide) ?_
    refine lv_istore_n (lv' := [(2, .int 0), (0, .ref h0), (1, .ref g0)]) hx hb dX0_equalTo_18 rfl hl (by decide) rfl (fun ls hl => ?_)
    have lp_19 : ∀ (k19 i : Nat), i ≤ sz → sz + 1 ≤ i + k19 → m_X0_equalTo ss ts n sz us vs o tz = m_X0_equalTo_L19 ss ts n sz us vs o k19 i → ∀ (ls : Array Slot), lv_has ls 3 [(0, .ref h0), (1, .ref g0), (2, .int (nI i))] → W p l e (headSpec wsX0_equalTo ({ frames := 1, cells := 0, slots := 0, locals := 21 } : Room)).room s m (([.ref h0, .ref g0] : List Value).toArray) below meth c s.heap [] 0 0 (MQ below (vp_Si (fun r => r = bI (m_X0_equalTo ss ts n sz us vs o tz))) (([.ref h0, .ref g0] : List Value).toArray) s 0 0 (fun _ => False)) (F0 m 19 ls []) := by
      intro k19
      induction k19 with
      | zero => intro i  h1_ h2_; exfalso; omega
      | succ k19 ih19 =>
        intro i  hb19 hf19  hm19 ls hl
        refine lv_iload_n hx hb dX0_equalTo_19 rfl (lv_at hl 2 rfl) ?_
        refine lv_aload_n hx hb dX0_equalTo_20 rfl (lv_at hl 0 rfl) ?_
        refine va_get (D := (dC, dI)) (ci := 1) (v := .int (nI sz)) (C := RX0) (T := TX0) (N := 3) hx hb hts (by decide +kernel) hown hK hP 0 rfl rfl 2 (by decide) (hts (.fieldLink RX0 9 "PictureRows$Effect" "size" "I") (by decide +kernel)) (fun _ h9 => h9) rfl dX0_equalTo_21 ?_
        refine lv_icmp_ge (tgt := 61) hx hb dX0_equalTo_24 (by decide) (fun c_2 => ?_) (fun c_2 => ?_)
        · skip
          have c_2 : sz ≤ i := (nI_leI (a := sz) (b := i) (by omega) (by omega)).mp c_2
          refine lv_iconst (v := 1) hx hb dX0_equalTo_61 (by decide) ?_
          exact rd_zret (v := 1) hx hb hr hlocks rfl (by rw [(show m_X0_equalTo ss ts n sz us vs o tz = true from hm19.trans (by simp only [m_X0_equalTo_L19, if_pos c_2]))]; rfl) dX0_equalTo_62
        · skip
          have c_2 : ¬ sz ≤ i := (fun q_ => c_2 ((nI_leI (a := sz) (b := i) (by omega) (by omega)).mpr q_))
          refine lv_aload_n hx hb dX0_equalTo_27 rfl (lv_at hl 0 rfl) ?_
          refine lv_iload_n hx hb dX0_equalTo_28 rfl (lv_at hl 2 rfl) ?_
          refine rd_callV (As := [.int (nI i)]) (rest := []) ⟨hx, hb, hml, hown, hts⟩ hE (c_X0_signOf l dC dI h0 h1 h2 cA sz ss n i (by omega) (by omega)) (cwV 1 hts gX0_equalTo_X0_signOf rfl rfl rfl (by decide +kernel) ⟨Nat.le_of_ble_eq_true rfl, Nat.le_of_ble_eq_true rfl⟩) (hP.sub (ws' := [(h0, .inr (1, [.ref h1, .ref h2, .int (nI sz)])), (h1, .inl (cA, n, .inl ss))]) [0, 1] rfl) (hK.sub [0] rfl) (va_recv hK hP (ci := 1) (q0 := 0) rfl rfl) rfl hl.1 rfl (Nat.le_of_ble_eq_true rfl) dX0_equalTo_29 ⟨Nat.zero_le _, Nat.zero_le _⟩ (fun r9 hr9 => ?_)
          subst hr9
          refine lv_aload_n hx hb dX0_equalTo_32 rfl (lv_at hl 1 rfl) ?_
          refine lv_iload_n hx hb dX0_equalTo_33 rfl (lv_at hl 2 rfl) ?_
          refine rd_callV (As := [.int (nI i)]) (rest := [.int (m_X0_signOf ss n i)]) ⟨hx, hb, hml, hown, hts⟩ hE (c_X0_signOf l dC dI g0 g1 g2 cA tz us o i (by omega) (by omega)) (cwV 1 hts gX0_equalTo_X0_signOf rfl rfl rfl (by decide +kernel) ⟨Nat.le_of_ble_eq_true rfl, Nat.le_of_ble_eq_true rfl⟩) (hP.sub (ws' := [(g0, .inr (1, [.ref g1, .ref g2, .int (nI tz)])), (g1, .inl (cA, o, .inl us))]) [3, 4] rfl) (hK.sub [0] rfl) (va_recv hK hP (ci := 1) (q0 := 3) rfl rfl) rfl hl.1 rfl (Nat.le_of_ble_eq_true rfl) dX0_equalTo_34 ⟨Nat.zero_le _, Nat.zero_le _⟩ (fun r9 hr9 => ?_)
          subst hr9
          refine lv_icmp_ne (tgt := 53) hx hb dX0_equalTo_37 (by decide) (fun c_3 => ?_) (fun c_3 => ?_)
          · skip
            refine lv_iconst (v := 0) hx hb dX0_equalTo_53 (by decide) ?_
            exact rd_zret (v := 0) hx hb hr hlocks rfl (by rw [(show m_X0_equalTo ss ts n sz us vs o tz = false from hm19.trans (by simp only [m_X0_equalTo_L19, if_neg c_2, if_neg c_3]))]; rfl) dX0_equalTo_54
          · skip
            refine lv_aload_n hx hb dX0_equalTo_40 rfl (lv_at hl 0 rfl) ?_
            refine lv_iload_n hx hb dX0_equalTo_41 rfl (lv_at hl 2 rfl) ?_
            refine rd_callV (As := [.int (nI i)]) (rest := []) ⟨hx, hb, hml, hown, hts⟩ hE (c_X0_timesOf l dC dI h0 h1 h2 cA sz ts n i (by omega) (by omega)) (cwV 1 hts gX0_equalTo_X0_timesOf rfl rfl rfl (by decide +kernel) ⟨Nat.le_of_ble_eq_true rfl, Nat.le_of_ble_eq_true rfl⟩) (hP.sub (ws' := [(h0, .inr (1, [.ref h1, .ref h2, .int (nI sz)])), (h2, .inl (cA, n, .inl ts))]) [0, 2] rfl) (hK.sub [0] rfl) (va_recv hK hP (ci := 1) (q0 := 0) rfl rfl) rfl hl.1 rfl (Nat.le_of_ble_eq_true rfl) dX0_equalTo_42 ⟨Nat.zero_le _, Nat.zero_le _⟩ (fun r9 hr9 => ?_)
            subst hr9
            refine lv_aload_n hx hb dX0_equalTo_45 rfl (lv_at hl 1 rfl) ?_
            refine lv_iload_n hx hb dX0_equalTo_46 rfl (lv_at hl 2 rfl) ?_
            refine rd_callV (As := [.int (nI i)]) (rest := [.int (m_X0_timesOf ts n i)]) ⟨hx, hb, hml, hown, hts⟩ hE (c_X0_timesOf l dC dI g0 g1 g2 cA tz vs o i (by omega) (by omega)) (cwV 1 hts gX0_equalTo_X0_timesOf rfl rfl rfl (by decide +kernel) ⟨Nat.le_of_ble_eq_true rfl, Nat.le_of_ble_eq_true rfl⟩) (hP.sub (ws' := [(g0, .inr (1, [.ref g1, .ref g2, .int (nI tz)])), (g2, .inl (cA, o, .inl vs))]) [3, 5] rfl) (hK.sub [0] rfl) (va_recv hK hP (ci := 1) (q0 := 3) rfl rfl) rfl hl.1 rfl (Nat.le_of_ble_eq_true rfl) dX0_equalTo_47 ⟨Nat.zero_le _, Nat.zero_le _⟩ (fun r9 hr9 => ?_)
            subst hr9
            refine lv_icmp_eq (tgt := 55) hx hb dX0_equalTo_50 (by decide) (fun c_4 => ?_) (fun c_4 => ?_)
            · skip
              refine lv_iinc (v := nI (i + 1)) (lv' := [(2, .int (nI (i + 1))), (0, .ref h0), (1, .ref g0)]) hx hb dX0_equalTo_55 hl (k := 2) rfl (nI_add (i) 1) (by decide) rfl (fun ls hl => ?_)
              refine lv_goto (tgt := 19) hx hb dX0_equalTo_58 (by decide) ?_
              exact ih19 (i + 1)  (by omega) (by omega)  (hm19.trans (by simp only [m_X0_equalTo_L19, if_neg c_2, if_pos c_3, if_pos c_4])) ls (lv_sub hl [1, 2, 0] rfl)
            · skip
              refine lv_iconst (v := 0) hx hb dX0_equalTo_53 (by decide) ?_
              exact rd_zret (v := 0) hx hb hr hlocks rfl (by rw [(show m_X0_equalTo ss ts n sz us vs o tz = false from hm19.trans (by simp only [m_X0_equalTo_L19, if_neg c_2, if_pos c_3, if_neg c_4]))]; rfl) dX0_equalTo_54
    exact lp_19 (sz + 1) (0)  (by omega) (by omega)  (show m_X0_equalTo ss ts n sz us vs o tz = m_X0_equalTo_L19 ss ts n sz us vs o (sz + 1) 0 from by simp only [m_X0_equalTo, if_pos c_1]) ls (lv_sub hl [1, 2, 0] rfl)
  · skip
    have c_1 : ¬ tz = sz := (fun q_ => c_1 ((nI_eq (a := tz) (b := sz) (by omega) (by omega)).mpr q_))
    refine lv_iconst (v := 0) hx hb dX0_equalTo_15 (by decide) ?_
    exact rd_zret (v := 0) hx hb hr hlocks rfl (by rw [(show m_X0_equalTo ss ts n sz us vs o tz = false from by simp only [m_X0_equalTo, if_neg c_1])]; rfl) dX0_equalTo_16
